/-! THE FRESH OBJECTS as a memory. -/
def fr_w (V : am_V) : Int32 := match V with
  | .inl b => Int32.ofInt b.1
  | _ => 0
def fr_v (C : am_C) (j : Nat) : Int32 := match C with
  | .inl (_, l) => Int32.ofInt (l.getD j (.ofNat 0, .ofNat 0)).1
  | .inr (.inr (.inr (_, fs))) => fr_w (fs.getD j (.inl (.ofNat 0, .ofNat 0)))
  | _ => 0
def fr_lw (C : am_C) (j : Nat) : Int64 := match C with
  | .inr (.inl (_, l)) => Int64.ofInt (l.getD j (.ofNat 0, .ofNat 0)).1
  | _ => 0
def fr_g : qM := fun a j => match am_base (a - 8) with
  | some C => fr_v C j
  | none => 0
def fr_u : qW := fun j => match am_base 35 with
  | some C => fr_lw C j
  | none => 0
def fr_sg (l : List am_I) : Bool := l.all (fun b => decide (b.1 = b.2))
def fr_fs : List am_V → List (Option Nat) → Bool
  | [], [] => true
  | .inl b :: r, none :: o => decide (b.1 = b.2) && fr_fs r o
  | .inr (.inr (some a)) :: r, some c :: o => decide (a = c) && fr_fs r o
  | _, _ => false
def fr_ok (C : am_C) (q : qC) : Bool := match C, q with
  | .inl (t, l), .inl (t', n) => decide (t = t') && (decide (l.length = n) && fr_sg l)
  | .inr (.inl (t, l)), .inr (.inl n) => decide (t = 3) && (decide (l.length = n) && fr_sg l)
  | .inr (.inr (.inl (t, l))), .inr (.inr (.inl (t', l'))) => decide (t = t') && decide (l = l'.map some)
  | .inr (.inr (.inr (t, fs))), .inr (.inr (.inr (t', os))) => decide (t = t') && fr_fs fs os
  | _, _ => false
theorem fr_li {l : List am_I} {m : List Int32} (h : am_all am_i l m) (hs : fr_sg l = true) {f : Nat → Int32} (hf : ∀ j, f j = Int32.ofInt (l.getD j (.ofNat 0, .ofNat 0)).1) : (List.range l.length).map f = m := by
  apply List.ext_getElem?
  intro i
  have hl := h.len
  by_cases hi : i < l.length
  · rw [List.getElem?_map, List.getElem?_range hi]
    have e : l[i]? = some l[i] := List.getElem?_eq_getElem hi
    obtain ⟨b, hb, hab⟩ := h.get e
    rw [hb]
    have h1 : (l[i]).1 = (l[i]).2 := of_decide_eq_true (List.all_eq_true.mp hs _ (List.getElem_mem hi))
    show some (f i) = some b
    rw [hf i, List.getD_eq_getElem?_getD, e, hab.of h1]
    rfl
  · rw [List.getElem?_eq_none (by rw [List.length_map, List.length_range]; omega), List.getElem?_eq_none (by omega)]
theorem fr_ll {l : List am_I} {m : List Int64} (h : am_all am_l l m) (hs : fr_sg l = true) {f : Nat → Int64} (hf : ∀ j, f j = Int64.ofInt (l.getD j (.ofNat 0, .ofNat 0)).1) : (List.range l.length).map f = m := by
  apply List.ext_getElem?
  intro i
  have hl := h.len
  by_cases hi : i < l.length
  · rw [List.getElem?_map, List.getElem?_range hi]
    have e : l[i]? = some l[i] := List.getElem?_eq_getElem hi
    obtain ⟨b, hb, hab⟩ := h.get e
    rw [hb]
    have h1 : (l[i]).1 = (l[i]).2 := of_decide_eq_true (List.all_eq_true.mp hs _ (List.getElem_mem hi))
    show some (f i) = some b
    rw [hf i, List.getD_eq_getElem?_getD, e, am_l.of hab h1]
    rfl
  · rw [List.getElem?_eq_none (by rw [List.length_map, List.length_range]; omega), List.getElem?_eq_none (by omega)]
theorem fr_fso : ∀ (fs : List am_V) (os : List (Option Nat)) (j : Nat) (gs : List Value) (f : Nat → Int32), fr_fs fs os = true → am_all am_v fs gs → (∀ i, f (j + i) = fr_w (fs.getD i (.inl (.ofNat 0, .ofNat 0)))) → q_fs f os j = gs
  | [], [], _, [], _, _, _, _ => rfl
  | [], [], _, _ :: _, _, _, h, _ => h.elim
  | .inl b :: r, none :: o, j, gs, f, h1, h2, h3 => by
    unfold fr_fs at h1
    rw [Bool.and_eq_true] at h1
    match gs, h2 with
    | .int x :: gs, h2 =>
      have e : f j = x := by
        have z := h3 0
        rw [Nat.add_zero] at z
        rw [z, am_i.of (show am_i b x from h2.1) (of_decide_eq_true h1.1)]
        rfl
      show Value.int (f j) :: q_fs f o (j + 1) = _
      rw [e, fr_fso r o (j + 1) gs f h1.2 h2.2 (fun i => by
        have z := h3 (i + 1)
        rw [show j + (i + 1) = j + 1 + i by omega] at z
        exact z)]
    | .long _ :: _, h2 => exact h2.1.elim
    | .float _ :: _, h2 => exact h2.1.elim
    | .double _ :: _, h2 => exact h2.1.elim
    | .null :: _, h2 => exact h2.1.elim
    | .ref _ :: _, h2 => exact h2.1.elim
    | .retAddr _ :: _, h2 => exact h2.1.elim
    | [], h2 => exact h2.elim
  | .inr (.inr (some a)) :: r, some c :: o, j, gs, f, h1, h2, h3 => by
    unfold fr_fs at h1
    rw [Bool.and_eq_true] at h1
    match gs, h2 with
    | .ref x :: gs, h2 =>
      have e : c = x := (of_decide_eq_true h1.1).symm.trans h2.1
      show Value.ref c :: q_fs f o (j + 1) = _
      rw [e, fr_fso r o (j + 1) gs f h1.2 h2.2 (fun i => by
        have z := h3 (i + 1)
        rw [show j + (i + 1) = j + 1 + i by omega] at z
        exact z)]
    | .long _ :: _, h2 => exact h2.1.elim
    | .float _ :: _, h2 => exact h2.1.elim
    | .double _ :: _, h2 => exact h2.1.elim
    | .null :: _, h2 => exact h2.1.elim
    | .int _ :: _, h2 => exact h2.1.elim
    | .retAddr _ :: _, h2 => exact h2.1.elim
    | [], h2 => exact h2.elim
  | [], _ :: _, _, _, _, h, _, _ => by cases h
  | .inl _ :: _, [], _, _, _, h, _, _ => by cases h
  | .inl _ :: _, some _ :: _, _, _, _, h, _, _ => by cases h
  | .inr (.inl _) :: _, [], _, _, _, h, _, _ => by cases h
  | .inr (.inl _) :: _, _ :: _, _, _, _, h, _, _ => by cases h
  | .inr (.inr none) :: _, [], _, _, _, h, _, _ => by cases h
  | .inr (.inr none) :: _, _ :: _, _, _, _, h, _, _ => by cases h
  | .inr (.inr (some _)) :: _, [], _, _, _, h, _, _ => by cases h
  | .inr (.inr (some _)) :: _, none :: _, _, _, _, h, _, _ => by cases h
theorem fr_cel {C : am_C} {q : qC} {D : pm_C} {a : Nat} {g : qM} {u : qW} (h : fr_ok C q = true) (hc : am_c C D) (hs : q_sh a = some q) (hg : ∀ j, g a j = fr_v C j) (hu : ∀ t l, C = .inr (.inl (t, l)) → ∀ j, u j = fr_lw C j) : q_cel g u a = some D := by
  unfold q_cel
  rw [hs]
  match C, q, h with
  | .inl (t, l), .inl (t', n), h =>
    unfold fr_ok at h
    rw [Bool.and_eq_true, Bool.and_eq_true] at h
    obtain ⟨m, rfl, hm⟩ := ac_i hc
    dsimp only
    rw [← of_decide_eq_true h.1, ← of_decide_eq_true h.2.1, fr_li hm h.2.2 (f := g a) hg]
  | .inr (.inl (t, l)), .inr (.inl n), h =>
    unfold fr_ok at h
    rw [Bool.and_eq_true, Bool.and_eq_true] at h
    obtain ⟨m, rfl, hm⟩ := ac_l hc
    dsimp only
    rw [of_decide_eq_true h.1, ← of_decide_eq_true h.2.1, fr_ll hm h.2.2 (f := u) (hu t l rfl)]
  | .inr (.inr (.inl (t, l))), .inr (.inr (.inl (t', l'))), h =>
    unfold fr_ok at h
    rw [Bool.and_eq_true] at h
    rw [ac_r hc, of_decide_eq_true h.1, of_decide_eq_true h.2]
  | .inr (.inr (.inr (t, fs))), .inr (.inr (.inr (t', os))), h =>
    unfold fr_ok at h
    rw [Bool.and_eq_true] at h
    obtain ⟨m, rfl, hm⟩ := ac_o hc
    dsimp only
    rw [← of_decide_eq_true h.1, fr_fso fs os 0 m (g a) h.2 hm (fun i => by rw [Nat.zero_add]; exact hg i)]
  | .inl _, .inr _, h => cases h
  | .inr (.inl _), .inl _, h => cases h
  | .inr (.inl _), .inr (.inr _), h => cases h
  | .inr (.inr (.inl _)), .inl _, h => cases h
  | .inr (.inr (.inl _)), .inr (.inl _), h => cases h
  | .inr (.inr (.inl _)), .inr (.inr (.inr _)), h => cases h
  | .inr (.inr (.inr _)), .inl _, h => cases h
  | .inr (.inr (.inr _)), .inr (.inl _), h => cases h
  | .inr (.inr (.inr _)), .inr (.inr (.inl _)), h => cases h
theorem fr_chk : (List.range 80).all (fun i => match am_base i, q_sh (i + 8) with
  | some C, some q => fr_ok C q && (match C with
    | .inr (.inl _) => decide (i = 35)
    | _ => true)
  | _, _ => false) = true := by decide +kernel
theorem fr_rep {h : pm_H} (hh : am_h (80, []) h) : q_rep fr_g fr_u h := by
  intro a
  by_cases h8 : a < 8
  · unfold pm_cell q_cel q_sh
    rw [if_pos h8]
    have e : Nat.ble 8 a = false := by
      cases e : Nat.ble 8 a with
      | true => have := Nat.le_of_ble_eq_true e; omega
      | false => rfl
    rw [e]
  · by_cases h88 : a < 88
    · have hk := List.all_eq_true.mp fr_chk (a - 8) (List.mem_range.mpr (by omega))
      rw [show a - 8 + 8 = a by omega] at hk
      split at hk
      · rename_i C q hC hq
        rw [Bool.and_eq_true] at hk
        obtain ⟨D, hD, hc⟩ := hh.2 (a - 8) C (by unfold am_g; rw [if_pos (show a - 8 < (80, ([] : List (Nat × am_C))).1 from by show a - 8 < 80; omega)]; exact hC)
        unfold pm_cell
        rw [if_neg h8, hD]
        refine (fr_cel hk.1 hc hq (fun j => ?_) (fun t l e j => ?_)).symm
        · unfold fr_g
          rw [hC]
        · have h35 := hk.2
          rw [e] at h35
          have e35 : a - 8 = 35 := of_decide_eq_true h35
          unfold fr_u
          rw [← e35, hC]
      · cases hk
    · have hl : h.length = 80 := hh.1.symm
      unfold pm_cell q_cel q_sh
      rw [if_neg h8, List.getElem?_eq_none (by omega)]
      have e : Nat.ble 8 a = true := Nat.ble_eq_true_of_le (by omega)
      rw [e]
      dsimp only
      rw [List.getElem?_eq_none (show q_tab.length ≤ (a - 8) / 8 from by show 10 ≤ (a - 8) / 8; omega)]
theorem fr_R : w_R fr_g := by
  refine ⟨0, 3, 3, 0, ⟨by decide, by decide, by decide⟩, ⟨⟨by decide, by decide, by decide, by decide, by decide, by decide, by decide, by decide⟩, by decide, ⟨0, by omega, by decide⟩, fun d h1 h2 => ?_, fun p hp => absurd hp (Nat.not_lt_zero _), fun p hp => absurd hp (Nat.not_lt_zero _), fun p hp => absurd hp (Nat.not_lt_zero _), fun p q hp => absurd hp (Nat.not_lt_zero _), fun p hp => absurd hp (Nat.not_lt_zero _), fun q hq => ?_, fun p hp => absurd hp (Nat.not_lt_zero _)⟩, ⟨⟨0, by omega, by decide, ⟨fun _ => rfl, fun _ => by decide⟩, ⟨fun _ => rfl, fun _ => by decide⟩⟩, fun y => absurd (show fr_g 72 0 = 0 by decide) y, fun y => absurd (show fr_g 72 1 = 0 by decide) y⟩, ⟨0, by omega, by decide, by decide, fun j hj => absurd hj (Nat.not_lt_zero _)⟩, by decide, fun k hk => Or.inl ?_⟩
  · rcases (show d = 1 ∨ d = 2 ∨ d = 3 ∨ d = 4 by omega) with e | e | e | e <;> (subst e; decide)
  · refine Or.inl ?_
    rcases (show q = 0 ∨ q = 1 ∨ q = 2 ∨ q = 3 ∨ q = 4 by omega) with e | e | e | e | e <;> (subst e; decide)
  · rcases (show k = 0 ∨ k = 1 ∨ k = 2 ∨ k = 3 by omega) with e | e | e | e <;> (subst e; exact ⟨by decide, by decide⟩)
/-! calls of the pure machine with more steps and depth than the interval machine had -/
theorem at_bigm {xs : List Int32} {tab : Nat → Option pm_M} (N0 K : Nat) : ∀ (d e : Nat) (M2 : Nat) (as : List am_V) (h : am_H) (Ra : Option am_V × am_H), am_big none tab N0 d M2 as h = some Ra → ∀ (cs : List Value) (hc : pm_H), am_all am_v as cs → am_h h hc → ∃ r, pm_big xs tab (K + N0) (e + d) M2 cs hc = some r ∧ am_r Ra r
  | 0, _, _, _, _, _, hk, _, _, _, _ => by cases hk
  | d + 1, e, M2, as, h, Ra, hk, cs, hc, hs, hh => by
    have hk1 : (match tab M2 with
      | some mm => if am_words as ≤ pm_ml mm then (if as.length = pm_n mm then am_run none tab (fun M as h => (am_big none tab N0 d M as h).map (fun r => [r])) mm (fun _ _ _ _ _ _ => none) N0 0 (am_args 0 as) [] h 0 0 else none) else none
      | none => none) = some Ra := hk
    show ∃ r, (match tab M2 with
      | some mm => if pm_words cs ≤ pm_ml mm then (if cs.length = pm_n mm then pm_run xs tab (pm_big xs tab (K + N0) (e + d)) mm (K + N0) 0 (lv_args 0 cs) [] hc 0 0 else none) else none
      | none => none) = some r ∧ am_r Ra r
    split at hk1
    · rename_i mm hm
      split at hk1
      · rename_i hw
        split at hk1
        · rename_i hn
          have hS := at_run (Pr := am_r) (xa := none) (xs := xs) (tab := tab) (mm := mm) (ba := fun M as h => (am_big none tab N0 d M as h).map (fun r => [r])) (bc := pm_big xs tab (K + N0) (e + d)) (fun _ q => by cases q) (fun _ _ h => h) (fun M2 as h Rs q cs hc hs hh => by
            cases hb : am_big none tab N0 d M2 as h with
            | none => rw [hb] at q; cases q
            | some Ra =>
              rw [hb] at q
              cases q
              obtain ⟨r, h1, h2⟩ := at_bigm (tab := tab) N0 K d e M2 as h Ra hb cs hc hs hh
              exact ⟨r, h1, Ra, List.mem_singleton.mpr rfl, h2⟩) (ka := fun _ _ _ _ _ _ => none) (kc := pm_run xs tab (pm_big xs tab (K + N0) (e + d)) mm K) (fun _ _ _ _ _ _ _ q => by cases q) N0
          rw [pm_runK_eq] at hS
          obtain ⟨r, hr, hp⟩ := hS _ _ _ _ _ _ _ hk1 (lv_args 0 cs) [] hc (am_args_ok 0 hs) trivial hh
          refine ⟨r, ?_, hp⟩
          rw [if_pos (by rw [show pm_words cs = am_words as from (am_all.sum (fun a b h => am_v.cat h) hs).symm]; exact hw), if_pos (by rw [← hs.len]; exact hn)]
          exact hr
        · cases hk1
      · cases hk1
    · cases hk1
