/-! CERTIFICATES: a method's frame, cut at noted states; each is run by the interval machine to later ones. Written to be evaluated by the kernel. -/
def vm_mark : Option am_V × am_H := (some (.inl (.ofNat 1, .ofNat 0)), (0, []))
theorem vm_mark_no {r : Option Value × pm_H} (h : am_r vm_mark r) : False := by
  obtain ⟨v, hp⟩ := r
  have ho : am_o (some (.inl ((1 : Int), (0 : Int)))) v := h.1
  match v, ho with
  | some (.int x), ho =>
    have q1 : (1 : Int) ≤ x.toInt := ho.1
    have q2 : x.toInt ≤ (0 : Int) := ho.2
    omega
  | some (.long _), ho => exact ho.elim
  | some (.float _), ho => exact ho.elim
  | some (.double _), ho => exact ho.elim
  | some .null, ho => exact ho.elim
  | some (.ref _), ho => exact ho.elim
  | some (.retAddr _), ho => exact ho.elim
  | none, ho => exact ho.elim
/-! order -/
def leZ (a b : Int) : Bool := match a, b with
  | .ofNat a, .ofNat b => Nat.ble a b
  | .negSucc _, .ofNat _ => true
  | .ofNat _, .negSucc _ => false
  | .negSucc a, .negSucc b => Nat.ble b a
theorem leZ_ok {a b : Int} (h : leZ a b = true) : a ≤ b := by
  unfold leZ at h
  split at h
  · exact Int.ofNat_le.mpr (Nat.le_of_ble_eq_true h)
  · rename_i a b
    exact Int.le_trans (Int.le_of_lt (Int.negSucc_lt_zero a)) (Int.natCast_nonneg b)
  · cases h
  · rename_i a b
    have h1 := Nat.le_of_ble_eq_true h
    rw [Int.negSucc_eq, Int.negSucc_eq]
    omega
def leI (a b : am_I) : Bool := leZ b.1 a.1 && leZ a.2 b.2
theorem leI_ok {a b : am_I} {x : Int32} (h : leI a b = true) (hx : am_i a x) : am_i b x := by
  unfold leI at h
  rw [Bool.and_eq_true] at h
  exact ⟨Int.le_trans (leZ_ok h.1) hx.1, Int.le_trans hx.2 (leZ_ok h.2)⟩
theorem leI_okl {a b : am_I} {x : Int64} (h : leI a b = true) (hx : am_l a x) : am_l b x := by
  unfold leI at h
  rw [Bool.and_eq_true] at h
  exact ⟨Int.le_trans (leZ_ok h.1) hx.1, Int.le_trans hx.2 (leZ_ok h.2)⟩
def eqO (a b : Option Nat) : Bool := match a, b with
  | none, none => true
  | some a, some b => Nat.beq a b
  | _, _ => false
theorem eqO_ok {a b : Option Nat} (h : eqO a b = true) : a = b := by
  unfold eqO at h
  split at h
  · rfl
  · rw [Nat.eq_of_beq_eq_true h]
  · cases h
def leV (a b : am_V) : Bool := match a, b with
  | .inl a, .inl b => leI a b
  | .inr (.inl a), .inr (.inl b) => leI a b
  | .inr (.inr a), .inr (.inr b) => eqO a b
  | _, _ => false
theorem leV_ok {a b : am_V} {v : Value} (h : leV a b = true) (hv : am_v a v) : am_v b v := by
  unfold leV at h
  split at h
  · cases v with
    | int x => exact leI_ok h hv
    | _ => exact hv.elim
  · cases v with
    | long x => exact leI_okl h hv
    | _ => exact hv.elim
  · rw [← eqO_ok h]
    exact hv
  · cases h
/-- two lists, place by place -/
noncomputable def leL {α : Type} (e : α → α → Bool) (l : List α) : List α → Bool := List.rec (motive := fun _ => List α → Bool) (fun m => match m with
  | [] => true
  | _ :: _ => false) (fun a _ ih m => match m with
  | [] => false
  | b :: m => e a b && ih m) l
theorem leL_ok {α β : Type} {e : α → α → Bool} {R : α → β → Prop} (he : ∀ a b x, e a b = true → R a x → R b x) : ∀ {l l' : List α} {m : List β}, leL e l l' = true → am_all R l m → am_all R l' m
  | [], [], [], _, _ => trivial
  | a :: l, b :: l', x :: m, h, hm => by
    have h1 : e a b = true ∧ leL e l l' = true := by rw [← Bool.and_eq_true]; exact h
    exact ⟨he a b x h1.1 hm.1, leL_ok he h1.2 hm.2⟩
  | [], _ :: _, _, h, _ => by cases h
  | _ :: _, [], _, h, _ => by cases h
  | [], [], _ :: _, _, hm => hm.elim
  | _ :: _, _ :: _, [], _, hm => hm.elim
theorem leL_eq {α : Type} {e : α → α → Bool} (he : ∀ a b, e a b = true → a = b) : ∀ {l l' : List α}, leL e l l' = true → l = l'
  | [], [], _ => rfl
  | a :: l, b :: l', h => by
    have h1 : e a b = true ∧ leL e l l' = true := by rw [← Bool.and_eq_true]; exact h
    rw [he a b h1.1, leL_eq he h1.2]
  | [], _ :: _, h => by cases h
  | _ :: _, [], h => by cases h
noncomputable def leC (a b : am_C) : Bool := match a, b with
  | .inl (t, l), .inl (u, m) => Nat.beq t u && leL leI l m
  | .inr (.inl (t, l)), .inr (.inl (u, m)) => Nat.beq t u && leL leI l m
  | .inr (.inr (.inl (t, l))), .inr (.inr (.inl (u, m))) => Nat.beq t u && leL eqO l m
  | .inr (.inr (.inr (t, l))), .inr (.inr (.inr (u, m))) => Nat.beq t u && leL leV l m
  | _, _ => false
theorem leC_ok {a b : am_C} {D : pm_C} (h : leC a b = true) (hD : am_c a D) : am_c b D := by
  unfold leC at h
  split at h
  · rw [Bool.and_eq_true] at h
    obtain ⟨m, rfl, hm⟩ := ac_i hD
    exact ⟨(Nat.eq_of_beq_eq_true h.1).symm, leL_ok (R := am_i) (fun _ _ _ => leI_ok) h.2 hm⟩
  · rw [Bool.and_eq_true] at h
    obtain ⟨m, rfl, hm⟩ := ac_l hD
    exact ⟨(Nat.eq_of_beq_eq_true h.1).symm, leL_ok (R := am_l) (fun _ _ _ => leI_okl) h.2 hm⟩
  · rw [Bool.and_eq_true] at h
    obtain rfl := ac_r hD
    exact ⟨(Nat.eq_of_beq_eq_true h.1).symm, (leL_eq (fun _ _ => eqO_ok) h.2).symm⟩
  · rw [Bool.and_eq_true] at h
    obtain ⟨m, rfl, hm⟩ := ac_o hD
    exact ⟨(Nat.eq_of_beq_eq_true h.1).symm, leL_ok (R := am_v) (fun _ _ _ => leV_ok) h.2 hm⟩
  · cases h
/-- all of a list -/
noncomputable def vm_all {α : Type} (e : α → Bool) (l : List α) : Bool := List.rec (motive := fun _ => Bool) true (fun a _ ih => e a && ih) l
theorem vm_all_ok {α : Type} {e : α → Bool} : ∀ {l : List α}, vm_all e l = true → ∀ a ∈ l, e a = true
  | [], _, _, ha => by cases ha
  | b :: l, h, a, ha => by
    have h1 : e b = true ∧ vm_all e l = true := by rw [← Bool.and_eq_true]; exact h
    rcases List.mem_cons.mp ha with rfl | ha
    · exact h1.1
    · exact vm_all_ok h1.2 a ha
noncomputable def vm_any {α : Type} (e : α → Bool) (l : List α) : Bool := List.rec (motive := fun _ => Bool) false (fun a _ ih => e a || ih) l
theorem vm_any_ok {α : Type} {e : α → Bool} : ∀ {l : List α}, vm_any e l = true → ∃ a ∈ l, e a = true
  | [], h => by cases h
  | b :: l, h => by
    have h1 : e b = true ∨ vm_any e l = true := by rw [← Bool.or_eq_true]; exact h
    rcases h1 with h1 | h1
    · exact ⟨b, List.mem_cons_self, h1⟩
    · obtain ⟨a, ha, he⟩ := vm_any_ok h1
      exact ⟨a, List.mem_cons_of_mem _ ha, he⟩
noncomputable def vm_lk {α : Type} (i : Nat) (l : List (Nat × α)) : Option α := List.rec (motive := fun _ => Option α) none (fun q _ ih => match Nat.beq q.1 i with
  | true => some q.2
  | false => ih) l
theorem vm_lk_eq {α : Type} (i : Nat) : ∀ l : List (Nat × α), vm_lk i l = l.lookup i
  | [] => rfl
  | q :: r => by
    obtain ⟨j, v⟩ := q
    show (match Nat.beq j i with
      | true => some v
      | false => vm_lk i r) = _
    rw [List.lookup_cons]
    by_cases e : i = j
    · subst e
      rw [Nat.beq_refl, beq_self_eq_true]
    · rw [beq_eq_false_iff_ne.mpr e]
      have : Nat.beq j i = false := by
        cases hb : Nat.beq j i with
        | true => exact absurd (Nat.eq_of_beq_eq_true hb).symm e
        | false => rfl
      rw [this]
      exact vm_lk_eq i r
noncomputable def leH (a b : am_H) : Bool := Nat.beq a.1 b.1 && (vm_all (fun p => match vm_lk p.1 b.2 with
  | some C => leC p.2 C
  | none => (match am_base p.1 with
    | some C => leC p.2 C
    | none => true)) a.2 && vm_all (fun p => match vm_lk p.1 a.2 with
  | some _ => true
  | none => (match am_base p.1 with
    | some C => leC C p.2
    | none => false)) b.2)
theorem vm_lk_mem {α : Type} {i : Nat} {v : α} : ∀ {l : List (Nat × α)}, l.lookup i = some v → (i, v) ∈ l
  | [], h => by cases h
  | (j, w) :: r, h => by
    rw [List.lookup_cons] at h
    by_cases e : i = j
    · subst e
      rw [beq_self_eq_true] at h
      cases h
      exact List.mem_cons_self
    · rw [beq_eq_false_iff_ne.mpr e] at h
      exact List.mem_cons_of_mem _ (vm_lk_mem h)
theorem leH_ok {a b : am_H} {h : pm_H} (hl : leH a b = true) (hh : am_h a h) : am_h b h := by
  unfold leH at hl
  rw [Bool.and_eq_true, Bool.and_eq_true] at hl
  obtain ⟨h1, h2, h3⟩ := hl
  have e1 := Nat.eq_of_beq_eq_true h1
  refine ⟨e1.symm.trans hh.1, fun i C hC => ?_⟩
  unfold am_g at hC
  split at hC
  · rename_i hi
    have hin : i < a.1 := by omega
    cases hb : b.2.lookup i with
    | some C1 =>
      rw [hb] at hC
      cases hC
      cases ha : a.2.lookup i with
      | some C0 =>
        have q := vm_all_ok h2 _ (vm_lk_mem ha)
        dsimp only at q
        rw [vm_lk_eq, hb] at q
        obtain ⟨D, hD, hc⟩ := hh.2 i C0 (by unfold am_g; rw [if_pos hin, ha])
        exact ⟨D, hD, leC_ok q hc⟩
      | none =>
        have q := vm_all_ok h3 _ (vm_lk_mem hb)
        dsimp only at q
        rw [vm_lk_eq, ha] at q
        dsimp only at q
        split at q
        · rename_i C0 hC0
          obtain ⟨D, hD, hc⟩ := hh.2 i C0 (by unfold am_g; rw [if_pos hin, ha]; exact hC0)
          exact ⟨D, hD, leC_ok q hc⟩
        · cases q
    | none =>
      rw [hb] at hC
      dsimp only at hC
      cases ha : a.2.lookup i with
      | some C0 =>
        have q := vm_all_ok h2 _ (vm_lk_mem ha)
        dsimp only at q
        rw [vm_lk_eq, hb] at q
        dsimp only at q
        rw [hC] at q
        obtain ⟨D, hD, hc⟩ := hh.2 i C0 (by unfold am_g; rw [if_pos hin, ha])
        exact ⟨D, hD, leC_ok q hc⟩
      | none => exact hh.2 i C (by unfold am_g; rw [if_pos hin, ha]; exact hC)
  · cases hC
def leQ (a b : Nat × am_V) : Bool := Nat.beq a.1 b.1 && leV a.2 b.2
theorem leQ_ok {a b : Nat × am_V} {q : Nat × Value} (h : leQ a b = true) (hq : am_q a q) : am_q b q := by
  unfold leQ at h
  rw [Bool.and_eq_true] at h
  exact ⟨(Nat.eq_of_beq_eq_true h.1).symm.trans hq.1, leV_ok h.2 hq.2⟩
def leO (a b : Option am_V) : Bool := match a, b with
  | none, none => true
  | some a, some b => leV a b
  | _, _ => false
theorem leO_ok {a b : Option am_V} {v : Option Value} (h : leO a b = true) (hv : am_o a v) : am_o b v := by
  unfold leO at h
  split at h
  · exact hv
  · match v, hv with
    | some v, hv => exact leV_ok h hv
    | none, hv => exact hv.elim
  · cases h
abbrev vm_R : Type := Option am_V × am_H
noncomputable def leR (a b : vm_R) : Bool := leO a.1 b.1 && leH a.2 b.2
theorem leR_ok {a b : vm_R} {r : Option Value × pm_H} (h : leR a b = true) (hr : am_r a r) : am_r b r := by
  unfold leR at h
  rw [Bool.and_eq_true] at h
  exact ⟨leO_ok h.1 hr.1, leH_ok h.2 hr.2⟩
