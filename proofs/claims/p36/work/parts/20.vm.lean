/-! CERTIFICATES: a method's frame, cut at noted states; each is run by the interval machine to later ones. Written to be evaluated by the kernel. -/
def vm_mark : Option am_V × am_H := (some (.inl (.ofNat 1, .ofNat 0)), (0, []))
theorem vm_mark_no {r : Option Value × pm_H} (h : am_r vm_mark r) : False := by
  obtain ⟨v, hp⟩ := r
  have ho : am_o (some (.inl ((1 : Int), (0 : Int)))) v := h.1
  match v, ho with
  | some (.int x), ho =>
    have q1 : (1 : Int) ≤ x.toInt := ho.1
    have q2 : x.toInt ≤ (0 : Int) := ho.2
    omega
  | some (.long _), ho => exact ho.elim
  | some (.float _), ho => exact ho.elim
  | some (.double _), ho => exact ho.elim
  | some .null, ho => exact ho.elim
  | some (.ref _), ho => exact ho.elim
  | some (.retAddr _), ho => exact ho.elim
  | none, ho => exact ho.elim
/-! order -/
def leZ (a b : Int) : Bool := match a, b with
  | .ofNat a, .ofNat b => Nat.ble a b
  | .negSucc _, .ofNat _ => true
  | .ofNat _, .negSucc _ => false
  | .negSucc a, .negSucc b => Nat.ble b a
theorem leZ_ok {a b : Int} (h : leZ a b = true) : a ≤ b := by
  unfold leZ at h
  split at h
  · exact Int.ofNat_le.mpr (Nat.le_of_ble_eq_true h)
  · rename_i a b
    exact Int.le_trans (Int.le_of_lt (Int.negSucc_lt_zero a)) (Int.natCast_nonneg b)
  · cases h
  · rename_i a b
    have h1 := Nat.le_of_ble_eq_true h
    rw [Int.negSucc_eq, Int.negSucc_eq]
    omega
def leI (a b : am_I) : Bool := leZ b.1 a.1 && leZ a.2 b.2
theorem leI_ok {a b : am_I} {x : Int32} (h : leI a b = true) (hx : am_i a x) : am_i b x := by
  unfold leI at h
  rw [Bool.and_eq_true] at h
  exact ⟨Int.le_trans (leZ_ok h.1) hx.1, Int.le_trans hx.2 (leZ_ok h.2)⟩
theorem leI_okl {a b : am_I} {x : Int64} (h : leI a b = true) (hx : am_l a x) : am_l b x := by
  unfold leI at h
  rw [Bool.and_eq_true] at h
  exact ⟨Int.le_trans (leZ_ok h.1) hx.1, Int.le_trans hx.2 (leZ_ok h.2)⟩
def eqO (a b : Option Nat) : Bool := match a, b with
  | none, none => true
  | some a, some b => Nat.beq a b
  | _, _ => false
theorem eqO_ok {a b : Option Nat} (h : eqO a b = true) : a = b := by
  unfold eqO at h
  split at h
  · rfl
  · rw [Nat.eq_of_beq_eq_true h]
  · cases h
def leV (a b : am_V) : Bool := match a, b with
  | .inl a, .inl b => leI a b
  | .inr (.inl a), .inr (.inl b) => leI a b
  | .inr (.inr a), .inr (.inr b) => eqO a b
  | _, _ => false
theorem leV_ok {a b : am_V} {v : Value} (h : leV a b = true) (hv : am_v a v) : am_v b v := by
  unfold leV at h
  split at h
  · cases v with
    | int x => exact leI_ok h hv
    | _ => exact hv.elim
  · cases v with
    | long x => exact leI_okl h hv
    | _ => exact hv.elim
  · rw [← eqO_ok h]
    exact hv
  · cases h
/-- two lists, place by place -/
noncomputable def leL {α : Type} (e : α → α → Bool) (l : List α) : List α → Bool := List.rec (motive := fun _ => List α → Bool) (fun m => match m with
  | [] => true
  | _ :: _ => false) (fun a _ ih m => match m with
  | [] => false
  | b :: m => e a b && ih m) l
theorem leL_ok {α β : Type} {e : α → α → Bool} {R : α → β → Prop} (he : ∀ a b x, e a b = true → R a x → R b x) : ∀ {l l' : List α} {m : List β}, leL e l l' = true → am_all R l m → am_all R l' m
  | [], [], [], _, _ => trivial
  | a :: l, b :: l', x :: m, h, hm => by
    have h1 : e a b = true ∧ leL e l l' = true := by rw [← Bool.and_eq_true]; exact h
    exact ⟨he a b x h1.1 hm.1, leL_ok he h1.2 hm.2⟩
  | [], _ :: _, _, h, _ => by cases h
  | _ :: _, [], _, h, _ => by cases h
  | [], [], _ :: _, _, hm => hm.elim
  | _ :: _, _ :: _, [], _, hm => hm.elim
theorem leL_eq {α : Type} {e : α → α → Bool} (he : ∀ a b, e a b = true → a = b) : ∀ {l l' : List α}, leL e l l' = true → l = l'
  | [], [], _ => rfl
  | a :: l, b :: l', h => by
    have h1 : e a b = true ∧ leL e l l' = true := by rw [← Bool.and_eq_true]; exact h
    rw [he a b h1.1, leL_eq he h1.2]
  | [], _ :: _, h => by cases h
  | _ :: _, [], h => by cases h
noncomputable def leC (a b : am_C) : Bool := match a, b with
  | .inl (t, l), .inl (u, m) => Nat.beq t u && leL leI l m
  | .inr (.inl (t, l)), .inr (.inl (u, m)) => Nat.beq t u && leL leI l m
  | .inr (.inr (.inl (t, l))), .inr (.inr (.inl (u, m))) => Nat.beq t u && leL eqO l m
  | .inr (.inr (.inr (t, l))), .inr (.inr (.inr (u, m))) => Nat.beq t u && leL leV l m
  | _, _ => false
theorem leC_ok {a b : am_C} {D : pm_C} (h : leC a b = true) (hD : am_c a D) : am_c b D := by
  unfold leC at h
  split at h
  · rw [Bool.and_eq_true] at h
    obtain ⟨m, rfl, hm⟩ := ac_i hD
    exact ⟨(Nat.eq_of_beq_eq_true h.1).symm, leL_ok (R := am_i) (fun _ _ _ => leI_ok) h.2 hm⟩
  · rw [Bool.and_eq_true] at h
    obtain ⟨m, rfl, hm⟩ := ac_l hD
    exact ⟨(Nat.eq_of_beq_eq_true h.1).symm, leL_ok (R := am_l) (fun _ _ _ => leI_okl) h.2 hm⟩
  · rw [Bool.and_eq_true] at h
    obtain rfl := ac_r hD
    exact ⟨(Nat.eq_of_beq_eq_true h.1).symm, (leL_eq (fun _ _ => eqO_ok) h.2).symm⟩
  · rw [Bool.and_eq_true] at h
    obtain ⟨m, rfl, hm⟩ := ac_o hD
    exact ⟨(Nat.eq_of_beq_eq_true h.1).symm, leL_ok (R := am_v) (fun _ _ _ => leV_ok) h.2 hm⟩
  · cases h
/-- all of a list -/
noncomputable def vm_all {α : Type} (e : α → Bool) (l : List α) : Bool := List.rec (motive := fun _ => Bool) true (fun a _ ih => e a && ih) l
theorem vm_all_ok {α : Type} {e : α → Bool} : ∀ {l : List α}, vm_all e l = true → ∀ a ∈ l, e a = true
  | [], _, _, ha => by cases ha
  | b :: l, h, a, ha => by
    have h1 : e b = true ∧ vm_all e l = true := by rw [← Bool.and_eq_true]; exact h
    rcases List.mem_cons.mp ha with rfl | ha
    · exact h1.1
    · exact vm_all_ok h1.2 a ha
noncomputable def vm_any {α : Type} (e : α → Bool) (l : List α) : Bool := List.rec (motive := fun _ => Bool) false (fun a _ ih => e a || ih) l
theorem vm_any_ok {α : Type} {e : α → Bool} : ∀ {l : List α}, vm_any e l = true → ∃ a ∈ l, e a = true
  | [], h => by cases h
  | b :: l, h => by
    have h1 : e b = true ∨ vm_any e l = true := by rw [← Bool.or_eq_true]; exact h
    rcases h1 with h1 | h1
    · exact ⟨b, List.mem_cons_self, h1⟩
    · obtain ⟨a, ha, he⟩ := vm_any_ok h1
      exact ⟨a, List.mem_cons_of_mem _ ha, he⟩
noncomputable def vm_lk {α : Type} (i : Nat) (l : List (Nat × α)) : Option α := List.rec (motive := fun _ => Option α) none (fun q _ ih => match Nat.beq q.1 i with
  | true => some q.2
  | false => ih) l
theorem vm_lk_eq {α : Type} (i : Nat) : ∀ l : List (Nat × α), vm_lk i l = l.lookup i
  | [] => rfl
  | q :: r => by
    obtain ⟨j, v⟩ := q
    show (match Nat.beq j i with
      | true => some v
      | false => vm_lk i r) = _
    rw [List.lookup_cons]
    by_cases e : i = j
    · subst e
      rw [Nat.beq_refl, beq_self_eq_true]
    · rw [beq_eq_false_iff_ne.mpr e]
      have : Nat.beq j i = false := by
        cases hb : Nat.beq j i with
        | true => exact absurd (Nat.eq_of_beq_eq_true hb).symm e
        | false => rfl
      rw [this]
      exact vm_lk_eq i r
noncomputable def leH (a b : am_H) : Bool := Nat.beq a.1 b.1 && (vm_all (fun p => match vm_lk p.1 b.2 with
  | some C => leC p.2 C
  | none => (match am_base p.1 with
    | some C => leC p.2 C
    | none => true)) a.2 && vm_all (fun p => match vm_lk p.1 a.2 with
  | some _ => true
  | none => (match am_base p.1 with
    | some C => leC C p.2
    | none => false)) b.2)
theorem vm_lk_mem {α : Type} {i : Nat} {v : α} : ∀ {l : List (Nat × α)}, l.lookup i = some v → (i, v) ∈ l
  | [], h => by cases h
  | (j, w) :: r, h => by
    rw [List.lookup_cons] at h
    by_cases e : i = j
    · subst e
      rw [beq_self_eq_true] at h
      cases h
      exact List.mem_cons_self
    · rw [beq_eq_false_iff_ne.mpr e] at h
      exact List.mem_cons_of_mem _ (vm_lk_mem h)
theorem leH_ok {a b : am_H} {h : pm_H} (hl : leH a b = true) (hh : am_h a h) : am_h b h := by
  unfold leH at hl
  rw [Bool.and_eq_true, Bool.and_eq_true] at hl
  obtain ⟨h1, h2, h3⟩ := hl
  have e1 := Nat.eq_of_beq_eq_true h1
  refine ⟨e1.symm.trans hh.1, fun i C hC => ?_⟩
  unfold am_g at hC
  split at hC
  · rename_i hi
    have hin : i < a.1 := by omega
    cases hb : b.2.lookup i with
    | some C1 =>
      rw [hb] at hC
      cases hC
      cases ha : a.2.lookup i with
      | some C0 =>
        have q := vm_all_ok h2 _ (vm_lk_mem ha)
        dsimp only at q
        rw [vm_lk_eq, hb] at q
        obtain ⟨D, hD, hc⟩ := hh.2 i C0 (by unfold am_g; rw [if_pos hin, ha])
        exact ⟨D, hD, leC_ok q hc⟩
      | none =>
        have q := vm_all_ok h3 _ (vm_lk_mem hb)
        dsimp only at q
        rw [vm_lk_eq, ha] at q
        dsimp only at q
        split at q
        · rename_i C0 hC0
          obtain ⟨D, hD, hc⟩ := hh.2 i C0 (by unfold am_g; rw [if_pos hin, ha]; exact hC0)
          exact ⟨D, hD, leC_ok q hc⟩
        · cases q
    | none =>
      rw [hb] at hC
      dsimp only at hC
      cases ha : a.2.lookup i with
      | some C0 =>
        have q := vm_all_ok h2 _ (vm_lk_mem ha)
        dsimp only at q
        rw [vm_lk_eq, hb] at q
        dsimp only at q
        rw [hC] at q
        obtain ⟨D, hD, hc⟩ := hh.2 i C0 (by unfold am_g; rw [if_pos hin, ha])
        exact ⟨D, hD, leC_ok q hc⟩
      | none => exact hh.2 i C (by unfold am_g; rw [if_pos hin, ha]; exact hC)
  · cases hC
def leQ (a b : Nat × am_V) : Bool := Nat.beq a.1 b.1 && leV a.2 b.2
theorem leQ_ok {a b : Nat × am_V} {q : Nat × Value} (h : leQ a b = true) (hq : am_q a q) : am_q b q := by
  unfold leQ at h
  rw [Bool.and_eq_true] at h
  exact ⟨(Nat.eq_of_beq_eq_true h.1).symm.trans hq.1, leV_ok h.2 hq.2⟩
def leO (a b : Option am_V) : Bool := match a, b with
  | none, none => true
  | some a, some b => leV a b
  | _, _ => false
theorem leO_ok {a b : Option am_V} {v : Option Value} (h : leO a b = true) (hv : am_o a v) : am_o b v := by
  unfold leO at h
  split at h
  · exact hv
  · match v, hv with
    | some v, hv => exact leV_ok h hv
    | none, hv => exact hv.elim
  · cases h
abbrev vm_R : Type := Option am_V × am_H
noncomputable def leR (a b : vm_R) : Bool := leO a.1 b.1 && leH a.2 b.2
theorem leR_ok {a b : vm_R} {r : Option Value × pm_H} (h : leR a b = true) (hr : am_r a r) : am_r b r := by
  unfold leR at h
  rw [Bool.and_eq_true] at h
  exact ⟨leO_ok h.1 hr.1, leH_ok h.2 hr.2⟩
/-! cuts -/
noncomputable def am_ct (ts : List Int) : Int → Int → List am_I := List.rec (motive := fun _ => Int → Int → List am_I) (fun lo hi => [(lo, hi)]) (fun t _ ih lo hi => match leZ t lo with
  | true => ih lo hi
  | false => (match leZ t hi with
    | true => (lo, t - 1) :: ih t hi
    | false => ih lo hi)) ts
theorem am_ct_ok : ∀ (ts : List Int) (lo hi x : Int), lo ≤ x → x ≤ hi → ∃ b ∈ am_ct ts lo hi, b.1 ≤ x ∧ x ≤ b.2
  | [], lo, hi, x, h1, h2 => ⟨(lo, hi), List.mem_singleton.mpr rfl, h1, h2⟩
  | t :: ts, lo, hi, x, h1, h2 => by
    show ∃ b ∈ (match leZ t lo with
      | true => am_ct ts lo hi
      | false => (match leZ t hi with
        | true => (lo, t - 1) :: am_ct ts t hi
        | false => am_ct ts lo hi)), _
    split
    · exact am_ct_ok ts lo hi x h1 h2
    · split
      · by_cases hx : x ≤ t - 1
        · exact ⟨(lo, t - 1), List.mem_cons_self, h1, hx⟩
        · obtain ⟨b, hb, q⟩ := am_ct_ok ts t hi x (by omega) h2
          exact ⟨b, List.mem_cons_of_mem _ hb, q⟩
      · exact am_ct_ok ts lo hi x h1 h2
/-- a box by thresholds, or (none) value by value -/
noncomputable def am_pc (o : Option (List Int)) (b : am_I) : List am_I := match o with
  | some ts => am_ct ts b.1 b.2
  | none => if b.1 < b.2 ∧ b.2 - b.1 ≤ 400 then (List.range (b.2 - b.1 + 1).toNat).map (fun (j : Nat) => (b.1 + (j : Int), b.1 + (j : Int))) else [b]
theorem am_pc_ok {o : Option (List Int)} {b : am_I} {x : Int} (h : b.1 ≤ x ∧ x ≤ b.2) : ∃ c ∈ am_pc o b, c.1 ≤ x ∧ x ≤ c.2 := by
  have h1 := h.1
  have h2 := h.2
  unfold am_pc
  split
  · exact am_ct_ok _ _ _ _ h.1 h.2
  · split
    · refine ⟨(b.1 + ((x - b.1).toNat : Int), b.1 + ((x - b.1).toNat : Int)), List.mem_map.mpr ⟨(x - b.1).toNat, List.mem_range.mpr (by omega), rfl⟩, ?_⟩
      have e : b.1 + ((x - b.1).toNat : Int) = x := by omega
      dsimp only
      rw [e]
      exact ⟨Int.le_refl _, Int.le_refl _⟩
    · exact ⟨b, List.mem_singleton.mpr rfl, h⟩
noncomputable def vm_pv (o : Option (List Int)) (v : am_V) : List am_V := match v with
  | .inl b => (am_pc o b).map .inl
  | .inr (.inl b) => (am_pc o b).map (fun c => .inr (.inl c))
  | v => [v]
theorem vm_pv_ok {o : Option (List Int)} {v : am_V} {x : Value} (h : am_v v x) : ∃ w ∈ vm_pv o v, am_v w x := by
  unfold vm_pv
  split
  · cases x with
    | int z =>
      obtain ⟨c, hc, q⟩ := am_pc_ok (o := o) h
      exact ⟨.inl c, List.mem_map.mpr ⟨c, hc, rfl⟩, q⟩
    | _ => exact h.elim
  · cases x with
    | long z =>
      obtain ⟨c, hc, q⟩ := am_pc_ok (o := o) h
      exact ⟨.inr (.inl c), List.mem_map.mpr ⟨c, hc, rfl⟩, q⟩
    | _ => exact h.elim
  · exact ⟨v, List.mem_singleton.mpr rfl, h⟩
noncomputable def am_lct (i : Nat) (o : Option (List Int)) (lv : am_L) : List am_L := List.rec (motive := fun _ => List am_L) [[]] (fun q r ih => match Nat.beq q.1 i with
  | true => (vm_pv o q.2).map (fun v => (q.1, v) :: r)
  | false => ih.map (fun l => q :: l)) lv
theorem am_lct_ok {i : Nat} {o : Option (List Int)} : ∀ {lva : am_L} {lv : pm_L}, am_all am_q lva lv → ∃ l ∈ am_lct i o lva, am_all am_q l lv
  | [], [], _ => ⟨[], List.mem_singleton.mpr rfl, trivial⟩
  | q :: r, p :: lv, h => by
    show ∃ l ∈ (match Nat.beq q.1 i with
      | true => (vm_pv o q.2).map (fun v => (q.1, v) :: r)
      | false => (am_lct i o r).map (fun l => q :: l)), _
    split
    · obtain ⟨w, hw, hv⟩ := vm_pv_ok (o := o) h.1.2
      exact ⟨(q.1, w) :: r, List.mem_map.mpr ⟨w, hw, rfl⟩, ⟨h.1.1, hv⟩, h.2⟩
    · obtain ⟨l, hl, hq⟩ := am_lct_ok (i := i) (o := o) h.2
      exact ⟨q :: l, List.mem_map.mpr ⟨l, hl, rfl⟩, h.1, hq⟩
  | [], _ :: _, h => h.elim
  | _ :: _, [], h => h.elim
theorem vm_set_same {α : Type} {l : List α} {i : Nat} {x : α} (h : l[i]? = some x) : l.set i x = l := by
  apply List.ext_getElem?
  intro j
  by_cases e : j = i
  · subst e
    rw [List.getElem?_set_self (List.getElem?_eq_some_iff.mp h).1, h]
  · rw [List.getElem?_set_ne (Ne.symm e)]
noncomputable def am_hct (i f : Nat) (o : Option (List Int)) (h : am_H) : List am_H := match am_cell h (i + 8) with
  | some (.inr (.inr (.inr (ci, fs)))) => (match fs[f]? with
    | some v => (vm_pv o v).map (fun w => am_st h (i + 8 - 8) (.inr (.inr (.inr (ci, fs.set f w)))))
    | none => [h])
  | some (.inl (t, l)) => (match l[f]? with
    | some b => (am_pc o b).map (fun w => am_st h (i + 8 - 8) (.inl (t, l.set f w)))
    | none => [h])
  | _ => [h]
theorem vm_hset {h : am_H} {hc : pm_H} {a : Nat} {C0 C : am_C} {D : pm_C} (hh : am_h h hc) (h0 : am_cell h a = some C0) (hD : pm_cell hc a = some D) (q : am_c C D) : am_h (am_st h (a - 8) C) hc := by
  have hset := am_hset (C := C) (D := D) hh h0 q
  unfold pm_cell at hD
  split at hD
  · cases hD
  · rw [vm_set_same hD] at hset
    exact hset
theorem am_hct_ok {h : am_H} {hc : pm_H} (hh : am_h h hc) (i f : Nat) (o : Option (List Int)) : ∃ h' ∈ am_hct i f o h, am_h h' hc := by
  unfold am_hct
  split
  · rename_i ci fs hcell
    split
    · rename_i v hv
      obtain ⟨D, hD, hcD⟩ := am_cell_ok hh hcell
      obtain ⟨m, rfl, hm⟩ := ac_o hcD
      obtain ⟨x, hx, hvx⟩ := am_all.get hm hv
      obtain ⟨w, hw, hwx⟩ := vm_pv_ok (o := o) hvx
      refine ⟨_, List.mem_map.mpr ⟨w, hw, rfl⟩, vm_hset hh hcell hD ⟨rfl, ?_⟩⟩
      have h1 := am_all.set (n := f) hm hwx
      rw [vm_set_same hx] at h1
      exact h1
    · exact ⟨h, List.mem_singleton.mpr rfl, hh⟩
  · rename_i t l hcell
    split
    · rename_i b hb
      obtain ⟨D, hD, hcD⟩ := am_cell_ok hh hcell
      obtain ⟨m, rfl, hm⟩ := ac_i hcD
      obtain ⟨x, hx, hbx⟩ := am_all.get hm hb
      obtain ⟨w, hw, hwx⟩ := am_pc_ok (o := o) (show b.1 ≤ x.toInt ∧ x.toInt ≤ b.2 from hbx)
      refine ⟨_, List.mem_map.mpr ⟨w, hw, rfl⟩, vm_hset hh hcell hD ⟨rfl, ?_⟩⟩
      have h1 := am_all.set (n := f) hm (show am_i w x from hwx)
      rw [vm_set_same hx] at h1
      exact h1
    · exact ⟨h, List.mem_singleton.mpr rfl, hh⟩
  · exact ⟨h, List.mem_singleton.mpr rfl, hh⟩
/-- a cut: which place (a local, or a place of a cell), and where, both by the state -/
abbrev vm_X : Type := (am_L → am_H → Option (Nat ⊕ (Nat × Nat))) × (am_L → am_H → Option (List Int))
noncomputable def vm_cut1 (x : vm_X) (s : am_L × am_H) : List (am_L × am_H) := match x.1 s.1 s.2 with
  | none => [s]
  | some (.inl i) => (am_lct i (x.2 s.1 s.2) s.1).map (fun l => (l, s.2))
  | some (.inr (c, f)) => (am_hct c f (x.2 s.1 s.2) s.2).map (fun h => (s.1, h))
noncomputable def vm_cuts (xs : List vm_X) : am_L × am_H → List (am_L × am_H) := List.rec (motive := fun _ => am_L × am_H → List (am_L × am_H)) (fun s => [s]) (fun x _ ih s => (vm_cut1 x s).flatMap ih) xs
theorem vm_cuts_ok {lv : pm_L} {h : pm_H} : ∀ (xs : List vm_X) (s : am_L × am_H), am_all am_q s.1 lv → am_h s.2 h → ∃ t ∈ vm_cuts xs s, am_all am_q t.1 lv ∧ am_h t.2 h
  | [], s, h1, h2 => ⟨s, List.mem_singleton.mpr rfl, h1, h2⟩
  | x :: xs, s, h1, h2 => by
    have h3 : ∃ t ∈ vm_cut1 x s, am_all am_q t.1 lv ∧ am_h t.2 h := by
      unfold vm_cut1
      split
      · exact ⟨s, List.mem_singleton.mpr rfl, h1, h2⟩
      · obtain ⟨l, hl, q⟩ := am_lct_ok (i := ‹Nat›) (o := x.2 s.1 s.2) h1
        exact ⟨(l, s.2), List.mem_map.mpr ⟨l, hl, rfl⟩, q, h2⟩
      · rename_i c f _
        obtain ⟨g, hg, q⟩ := am_hct_ok h2 c f (x.2 s.1 s.2)
        exact ⟨(s.1, g), List.mem_map.mpr ⟨g, hg, rfl⟩, h1, q⟩
    obtain ⟨t, ht, q1, q2⟩ := h3
    obtain ⟨u, hu, q⟩ := vm_cuts_ok xs t q1 q2
    exact ⟨u, List.mem_flatMap.mpr ⟨t, ht, hu⟩, q⟩
/-! the same steps, written for the kernel; a straight step goes on to the next place, a block's last one may jump -/
abbrev am_D : Type := am_L → List am_V → am_H → Nat → Nat → am_R
abbrev vm_SE : Type := am_B → am_D → am_D
abbrev vm_G : Type := am_B → am_K → am_D
def vm_gd (n : Nat) (K : am_D) : am_K := fun pc lv st h c sl => match Nat.beq pc n with
  | true => K lv st h c sl
  | false => none
theorem vm_gd_at (n : Nat) (K : am_D) (lv : am_L) (st : List am_V) (h : am_H) (c sl : Nat) : vm_gd n K n lv st h c sl = K lv st h c sl := by
  unfold vm_gd
  rw [Nat.beq_refl]
theorem leZ_eq (a b : Int) : leZ a b = decide (a ≤ b) := by
  cases h : leZ a b with
  | true => exact (decide_eq_true (leZ_ok h)).symm
  | false =>
    symm
    apply decide_eq_false
    intro hab
    unfold leZ at h
    split at h
    · rename_i x y
      have h1 : x ≤ y := Int.ofNat_le.mp hab
      rw [Nat.ble_eq_true_of_le h1] at h
      cases h
    · cases h
    · rename_i x y
      have h1 := Int.negSucc_lt_zero y
      have h2 : (0 : Int) ≤ Int.ofNat x := Int.natCast_nonneg x
      omega
    · rename_i x y
      have h1 : y ≤ x := by
        rw [Int.negSucc_eq, Int.negSucc_eq] at hab
        omega
      rw [Nat.ble_eq_true_of_le h1] at h
      cases h
noncomputable def vm_nth {α : Type} (l : List α) : Nat → Option α := List.rec (motive := fun _ => Nat → Option α) (fun _ => none) (fun a _ ih i => match i with
  | 0 => some a
  | i + 1 => ih i) l
theorem vm_nth_eq {α : Type} : ∀ (l : List α) (i : Nat), vm_nth l i = l[i]?
  | [], i => by simp [vm_nth]
  | a :: l, 0 => by simp [vm_nth]
  | a :: l, i + 1 => by
    show vm_nth l i = _
    rw [vm_nth_eq l i, List.getElem?_cons_succ]
noncomputable def vm_set {α : Type} (x : α) (l : List α) : Nat → List α := List.rec (motive := fun _ => Nat → List α) (fun _ => []) (fun a r ih i => match i with
  | 0 => x :: r
  | i + 1 => a :: ih i) l
theorem vm_set_eq {α : Type} (x : α) : ∀ (l : List α) (i : Nat), vm_set x l i = l.set i x
  | [], i => by simp [vm_set]
  | a :: l, 0 => by simp [vm_set]
  | a :: l, i + 1 => by
    show a :: vm_set x l i = _
    rw [vm_set_eq x l i, List.set_cons_succ]
/-- locals -/
def am_is2 (v : am_V) : Bool := match v with
  | .inr (.inl _) => true
  | _ => false
theorem am_is2_eq (v : am_V) : am_is2 v = (am_cat v == 2) := by
  match v with
  | .inl _ => rfl
  | .inr (.inl _) => rfl
  | .inr (.inr _) => rfl
theorem vm_beq_f {a b : Nat} (h : Nat.beq a b = false) : ¬ a = b := fun e => by
  rw [e, Nat.beq_refl] at h
  cases h
theorem vm_beq (a b : Nat) : Nat.beq a b = (a == b) := by
  cases h : Nat.beq a b with
  | true => rw [Nat.eq_of_beq_eq_true h, beq_self_eq_true]
  | false => rw [beq_eq_false_iff_ne.mpr (vm_beq_f h)]
noncomputable def fm_flt (i : Nat) (lv : am_L) : am_L := List.rec (motive := fun _ => am_L) [] (fun q _ ih => match Nat.beq q.1 i with
  | true => ih
  | false => (match Nat.beq (Nat.succ q.1) i with
    | true => (match am_is2 q.2 with
      | true => ih
      | false => q :: ih)
    | false => q :: ih)) lv
theorem fm_flt_eq (i : Nat) : ∀ lv : am_L, fm_flt i lv = lv.filter (fun q => !(q.1 == i) && !(q.1 + 1 == i && am_cat q.2 == 2))
  | [] => rfl
  | q :: r => by
    show (match Nat.beq q.1 i with
      | true => fm_flt i r
      | false => (match Nat.beq (Nat.succ q.1) i with
        | true => (match am_is2 q.2 with
          | true => fm_flt i r
          | false => q :: fm_flt i r)
        | false => q :: fm_flt i r)) = _
    rw [fm_flt_eq i r, List.filter_cons, am_is2_eq, vm_beq, vm_beq]
    show _ = if (!(q.1 == i) && !(Nat.succ q.1 == i && am_cat q.2 == 2)) = true then _ else _
    cases (q.1 == i) <;> cases (Nat.succ q.1 == i) <;> cases (am_cat q.2 == 2) <;> rfl
noncomputable def fm_plc (i : Nat) (v : am_V) (l : am_L) : am_L := List.rec (motive := fun _ => am_L) [(i, v)] (fun q r ih => match Nat.ble i q.1 with
  | true => (i, v) :: q :: r
  | false => q :: ih) l
theorem fm_plc_eq (i : Nat) (v : am_V) : ∀ l : am_L, fm_plc i v l = pm_plc i v l
  | [] => rfl
  | q :: r => by
    show (match Nat.ble i q.1 with
      | true => (i, v) :: q :: r
      | false => q :: fm_plc i v r) = (if q.1 < i then q :: pm_plc i v r else (i, v) :: q :: r)
    rw [fm_plc_eq i v r]
    cases h : Nat.ble i q.1 with
    | true =>
      have h1 := Nat.le_of_ble_eq_true h
      rw [if_neg (by omega)]
    | false =>
      have h1 : ¬ i ≤ q.1 := fun hh => by
        rw [Nat.ble_eq_true_of_le hh] at h
        cases h
      rw [if_pos (by omega)]
noncomputable def fm_s1 (i : Nat) (v : am_V) (lv : am_L) : am_L := List.rec (motive := fun _ => am_L) [(i, v)] (fun q r ih => match Nat.beq q.1 i with
  | true => fm_plc i v (fm_flt i r)
  | false => (match Nat.ble i q.1 with
    | true => fm_plc i v (fm_flt i (q :: r))
    | false => (match Nat.beq (Nat.succ q.1) i with
      | true => (match am_is2 q.2 with
        | true => ih
        | false => q :: ih)
      | false => q :: ih))) lv
theorem fm_s1_eq (i : Nat) (v : am_V) : ∀ lv : am_L, fm_s1 i v lv = am_s1 lv i v
  | [] => rfl
  | q :: r => by
    have ih := fm_s1_eq i v r
    unfold am_s1 at ih ⊢
    rw [← fm_flt_eq, ← fm_plc_eq] at ih ⊢
    show (match Nat.beq q.1 i with
      | true => fm_plc i v (fm_flt i r)
      | false => (match Nat.ble i q.1 with
        | true => fm_plc i v (fm_flt i (q :: r))
        | false => (match Nat.beq (Nat.succ q.1) i with
          | true => (match am_is2 q.2 with
            | true => fm_s1 i v r
            | false => q :: fm_s1 i v r)
          | false => q :: fm_s1 i v r))) = fm_plc i v (match Nat.beq q.1 i with
      | true => fm_flt i r
      | false => (match Nat.beq (Nat.succ q.1) i with
        | true => (match am_is2 q.2 with
          | true => fm_flt i r
          | false => q :: fm_flt i r)
        | false => q :: fm_flt i r))
    cases h1 : Nat.beq q.1 i with
    | true => rfl
    | false =>
      dsimp only
      cases h2 : Nat.ble i q.1 with
      | true =>
        show fm_plc i v (match Nat.beq q.1 i with
          | true => fm_flt i r
          | false => (match Nat.beq (Nat.succ q.1) i with
            | true => (match am_is2 q.2 with
              | true => fm_flt i r
              | false => q :: fm_flt i r)
            | false => q :: fm_flt i r)) = _
        rw [h1]
      | false =>
        have h4 : ∀ l : am_L, fm_plc i v (q :: l) = q :: fm_plc i v l := fun l => by
          show (match Nat.ble i q.1 with
            | true => (i, v) :: q :: l
            | false => q :: fm_plc i v l) = _
          rw [h2]
        dsimp only
        cases h3 : Nat.beq (Nat.succ q.1) i with
        | true =>
          dsimp only
          cases am_is2 q.2 with
          | true => exact ih
          | false =>
            dsimp only
            rw [h4, ih]
        | false =>
          dsimp only
          rw [h4, ih]
/-- cells -/
noncomputable def fm_base (i : Nat) : Option am_C := match vm_nth ab_all (Nat.div i 9) with
  | some r => vm_nth r (Nat.mod i 9)
  | none => none
theorem fm_base_eq (i : Nat) : fm_base i = am_base i := by
  unfold fm_base am_base
  rw [vm_nth_eq]
  show (match ab_all[i / 9]? with
    | some r => vm_nth r (i % 9)
    | none => none) = _
  cases ab_all[i / 9]? with
  | none => rfl
  | some r => exact vm_nth_eq r _
noncomputable def fm_g (h : am_H) (i : Nat) : Option am_C := match Nat.ble (Nat.succ i) h.1 with
  | true => (match vm_lk i h.2 with
    | some C => some C
    | none => fm_base i)
  | false => none
theorem fm_g_eq (h : am_H) (i : Nat) : fm_g h i = am_g h i := by
  unfold fm_g am_g
  cases hb : Nat.ble (Nat.succ i) h.1 with
  | true =>
    have h1 := Nat.le_of_ble_eq_true hb
    rw [if_pos (by omega), vm_lk_eq]
    dsimp only
    cases h.2.lookup i with
    | none => exact fm_base_eq i
    | some C => rfl
  | false =>
    have h1 : ¬ Nat.succ i ≤ h.1 := fun hh => by
      rw [Nat.ble_eq_true_of_le hh] at hb
      cases hb
    rw [if_neg (by omega)]
noncomputable def fm_cell (h : am_H) (a : Nat) : Option am_C := match Nat.ble 8 a with
  | true => fm_g h (Nat.sub a 8)
  | false => none
theorem fm_cell_eq (h : am_H) (a : Nat) : fm_cell h a = am_cell h a := by
  unfold fm_cell am_cell
  cases hb : Nat.ble 8 a with
  | true =>
    have h1 := Nat.le_of_ble_eq_true hb
    rw [if_neg (by omega)]
    exact fm_g_eq h _
  | false =>
    have h1 : ¬ 8 ≤ a := fun hh => by
      rw [Nat.ble_eq_true_of_le hh] at hb
      cases hb
    rw [if_pos (by omega)]
noncomputable def fm_up (i : Nat) (C : am_C) (l : List (Nat × am_C)) : List (Nat × am_C) := List.rec (motive := fun _ => List (Nat × am_C)) [(i, C)] (fun q r ih => match Nat.beq q.1 i with
  | true => (i, C) :: r
  | false => q :: ih) l
theorem fm_up_eq (i : Nat) (C : am_C) : ∀ l : List (Nat × am_C), fm_up i C l = am_up i C l
  | [] => rfl
  | q :: r => by
    show (match Nat.beq q.1 i with
      | true => (i, C) :: r
      | false => q :: fm_up i C r) = (if q.1 = i then (i, C) :: r else q :: am_up i C r)
    rw [fm_up_eq i C r]
    cases h : Nat.beq q.1 i with
    | true => rw [if_pos (Nat.eq_of_beq_eq_true h)]
    | false => rw [if_neg (vm_beq_f h)]
noncomputable def fm_st (h : am_H) (i : Nat) (C : am_C) : am_H := (h.1, fm_up i C h.2)
theorem fm_st_eq (h : am_H) (i : Nat) (C : am_C) : fm_st h i C = am_st h i C := by
  unfold fm_st am_st
  rw [fm_up_eq]
def fm_ix (a : am_I) : Option Nat := match a.1, a.2 with
  | .ofNat m, .ofNat n => (match Nat.beq m n with
    | true => some m
    | false => none)
  | _, _ => none
theorem fm_ix_eq (a : am_I) : fm_ix a = am_ix a := by
  obtain ⟨x, y⟩ := a
  unfold fm_ix am_ix
  match x, y with
  | .ofNat m, .ofNat n =>
    dsimp only
    cases h : Nat.beq m n with
    | true =>
      have e := Nat.eq_of_beq_eq_true h
      rw [if_pos ⟨by rw [e], Int.natCast_nonneg m⟩]
      rfl
    | false =>
      have e := vm_beq_f h
      rw [if_neg (fun q => e (Int.ofNat.inj q.1))]
  | .negSucc m, .ofNat n =>
    rw [if_neg (fun q => by cases q.1)]
  | .ofNat m, .negSucc n =>
    rw [if_neg (fun q => by cases q.1)]
  | .negSucc m, .negSucc n =>
    have h1 := Int.negSucc_lt_zero m
    rw [if_neg (fun q => by have := q.2; dsimp only at this; omega)]
/-- numbers -/
def fm_nrm (lo hi : Int) : am_I := match leZ (.negSucc 2147483647) lo && leZ hi (.ofNat 2147483647) with
  | true => (lo, hi)
  | false => am_nrm lo hi
theorem fm_nrm_eq (lo hi : Int) : fm_nrm lo hi = am_nrm lo hi := by
  unfold fm_nrm
  split
  · rename_i h
    rw [Bool.and_eq_true] at h
    unfold am_nrm
    rw [if_pos ⟨leZ_ok h.1, leZ_ok h.2⟩]
  · rfl
def fm_add (a b : am_I) : am_I := fm_nrm (Int.add a.1 b.1) (Int.add a.2 b.2)
theorem fm_add_eq : fm_add = am_add := by
  funext a b
  exact fm_nrm_eq _ _
def fm_sub (a b : am_I) : am_I := fm_nrm (Int.sub a.1 b.2) (Int.sub a.2 b.1)
theorem fm_sub_eq : fm_sub = am_sub := by
  funext a b
  exact fm_nrm_eq _ _
def fm_lt (a b : am_I) : Option Bool := match leZ b.1 a.2 with
  | false => some true
  | true => (match leZ b.2 a.1 with
    | true => some false
    | false => none)
def fm_le (a b : am_I) : Option Bool := match leZ a.2 b.1 with
  | true => some true
  | false => (match leZ a.1 b.2 with
    | false => some false
    | true => none)
def fm_not (o : Option Bool) : Option Bool := match o with
  | some true => some false
  | some false => some true
  | none => none
def fm_eq (a b : am_I) : Option Bool := match leZ b.1 a.2 && leZ a.1 b.2 with
  | false => some false
  | true => (match leZ a.2 a.1 && (leZ b.2 b.1 && (leZ a.1 b.1 && leZ b.1 a.1)) with
    | true => (match leZ a.1 a.2 && leZ b.1 b.2 with
      | true => some true
      | false => none)
    | false => none)
def fm_ge (a b : am_I) : Option Bool := match leZ b.2 a.1 with
  | true => some true
  | false => (match leZ b.1 a.2 with
    | false => some false
    | true => none)
def fm_dec (cd : ClassFile.Cond) (a b : am_I) : Option Bool := match cd with
  | .eq => fm_eq a b
  | .ne => fm_not (fm_eq a b)
  | .lt => fm_lt a b
  | .ge => fm_ge a b
  | .gt => fm_lt b a
  | .le => fm_le a b
theorem fm_eq_eq (a b : am_I) : fm_eq a b = am_dec .eq a b := by
  unfold fm_eq am_dec
  simp only [leZ_eq]
  by_cases h1 : b.1 ≤ a.2
  · by_cases h2 : a.1 ≤ b.2
    · rw [decide_eq_true h1, decide_eq_true h2, show (true && true) = true from rfl]
      dsimp only
      by_cases h3 : a.1 = a.2 ∧ b.1 = b.2 ∧ a.1 = b.1
      · rw [decide_eq_true (show a.2 ≤ a.1 by omega), decide_eq_true (show b.2 ≤ b.1 by omega), decide_eq_true (show a.1 ≤ b.1 by omega), decide_eq_true (show b.1 ≤ a.1 by omega), decide_eq_true (show a.1 ≤ a.2 by omega), decide_eq_true (show b.1 ≤ b.2 by omega)]
        rw [if_neg (by omega), if_pos h3]
        rfl
      · rw [if_neg (show ¬ (a.2 < b.1 ∨ b.2 < a.1) by omega), if_neg h3]
        split
        · rename_i h4
          simp only [Bool.and_eq_true, decide_eq_true_eq] at h4
          split
          · rename_i h5
            simp only [Bool.and_eq_true, decide_eq_true_eq] at h5
            exact absurd ⟨by omega, by omega, by omega⟩ h3
          · rfl
        · rfl
    · rw [decide_eq_false h2, Bool.and_false]
      dsimp only
      rw [if_pos (by omega)]
  · rw [decide_eq_false h1, Bool.false_and]
    dsimp only
    rw [if_pos (by omega)]
theorem fm_dec_eq (cd : ClassFile.Cond) (a b : am_I) : fm_dec cd a b = am_dec cd a b := by
  cases cd with
  | eq => exact fm_eq_eq a b
  | ne =>
    show fm_not (fm_eq a b) = _
    rw [fm_eq_eq]
    unfold am_dec
    dsimp only
    split
    · rfl
    · split <;> rfl
  | lt =>
    unfold fm_dec fm_lt am_dec
    simp only [leZ_eq]
    by_cases h1 : b.1 ≤ a.2
    · rw [decide_eq_true h1, if_neg (show ¬ a.2 < b.1 by omega)]
      by_cases h2 : b.2 ≤ a.1
      · rw [decide_eq_true h2, if_pos h2]
      · rw [decide_eq_false h2, if_neg h2]
    · rw [decide_eq_false h1, if_pos (show a.2 < b.1 by omega)]
  | ge =>
    unfold fm_dec fm_ge am_dec
    simp only [leZ_eq]
    by_cases h1 : b.2 ≤ a.1
    · rw [decide_eq_true h1, if_pos h1]
    · rw [decide_eq_false h1, if_neg h1]
      by_cases h2 : b.1 ≤ a.2
      · rw [decide_eq_true h2, if_neg (show ¬ a.2 < b.1 by omega)]
      · rw [decide_eq_false h2, if_pos (show a.2 < b.1 by omega)]
  | gt =>
    unfold fm_dec fm_lt am_dec
    simp only [leZ_eq]
    by_cases h1 : a.1 ≤ b.2
    · rw [decide_eq_true h1, if_neg (show ¬ b.2 < a.1 by omega)]
      by_cases h2 : a.2 ≤ b.1
      · rw [decide_eq_true h2, if_pos h2]
      · rw [decide_eq_false h2, if_neg h2]
    · rw [decide_eq_false h1, if_pos (show b.2 < a.1 by omega)]
  | le =>
    unfold fm_dec fm_le am_dec
    simp only [leZ_eq]
    by_cases h1 : a.2 ≤ b.1
    · rw [decide_eq_true h1, if_pos h1]
    · rw [decide_eq_false h1, if_neg h1]
      by_cases h2 : a.1 ≤ b.2
      · rw [decide_eq_true h2, if_neg (show ¬ b.2 < a.1 by omega)]
      · rw [decide_eq_false h2, if_pos (show b.2 < a.1 by omega)]
/-- steps -/
noncomputable def fq_ldi (i : Nat) (K : am_D) : am_D := fun lv st h c sl => match vm_lk i lv with
  | some (.inl x) => K lv (.inl x :: st) h c sl
  | _ => none
theorem fe_ldi (n i : Nat) (K : am_D) (lv : am_L) (st : List am_V) (h : am_H) (c sl : Nat) : fq_ldi i K lv st h c sl = aq_ldi (vm_gd n K) i n lv st h c sl := by
  unfold fq_ldi aq_ldi
  rw [vm_lk_eq]
  generalize lv.lookup i = o
  match o with
  | some (.inl x) => exact (vm_gd_at n K _ _ _ _ _).symm
  | some (.inr _) => rfl
  | none => rfl
noncomputable def fq_lda (i : Nat) (K : am_D) : am_D := fun lv st h c sl => match vm_lk i lv with
  | some (.inr (.inr (some x))) => K lv (.inr (.inr (some x)) :: st) h c sl
  | _ => none
theorem fe_lda (n i : Nat) (K : am_D) (lv : am_L) (st : List am_V) (h : am_H) (c sl : Nat) : fq_lda i K lv st h c sl = aq_lda (vm_gd n K) i n lv st h c sl := by
  unfold fq_lda aq_lda
  rw [vm_lk_eq]
  generalize lv.lookup i = o
  match o with
  | some (.inr (.inr (some x))) => exact (vm_gd_at n K _ _ _ _ _).symm
  | some (.inr (.inr none)) => rfl
  | some (.inr (.inl _)) => rfl
  | some (.inl _) => rfl
  | none => rfl
def fq_cst (b : am_V) (K : am_D) : am_D := fun lv st h c sl => K lv (b :: st) h c sl
theorem fe_cst (n : Nat) (b : am_V) (K : am_D) (lv : am_L) (st : List am_V) (h : am_H) (c sl : Nat) : fq_cst b K lv st h c sl = vm_gd n K n lv (b :: st) h c sl := by
  rw [vm_gd_at]
  rfl
noncomputable def fq_sti (i : Nat) (K : am_D) : am_D := fun lv st h c sl => match st with
  | .inl x :: r => K (fm_s1 i (.inl x) lv) r h c sl
  | _ => none
theorem fe_sti (n i nL : Nat) (hi : Nat.ble (i + 1) nL = true) (K : am_D) (lv : am_L) (st : List am_V) (h : am_H) (c sl : Nat) : fq_sti i K lv st h c sl = aq_sti (vm_gd n K) nL i n lv st h c sl := by
  unfold fq_sti aq_sti
  match st with
  | .inl x :: r =>
    dsimp only
    rw [if_pos (show i < nL from Nat.le_of_ble_eq_true hi), vm_gd_at, fm_s1_eq]
  | .inr _ :: _ => rfl
  | [] => rfl
noncomputable def fq_sta (i : Nat) (K : am_D) : am_D := fun lv st h c sl => match st with
  | .inr (.inr (some x)) :: r => K (fm_s1 i (.inr (.inr (some x))) lv) r h c sl
  | _ => none
theorem fe_sta (n i nL : Nat) (hi : Nat.ble (i + 1) nL = true) (K : am_D) (lv : am_L) (st : List am_V) (h : am_H) (c sl : Nat) : fq_sta i K lv st h c sl = aq_sta (vm_gd n K) nL i n lv st h c sl := by
  unfold fq_sta aq_sta
  match st with
  | .inr (.inr (some x)) :: r =>
    dsimp only
    rw [if_pos (show i < nL from Nat.le_of_ble_eq_true hi), vm_gd_at, fm_s1_eq]
  | .inr (.inr none) :: _ => rfl
  | .inr (.inl _) :: _ => rfl
  | .inl _ :: _ => rfl
  | [] => rfl
def fq_bi (f : am_I → am_I → am_I) (K : am_D) : am_D := fun lv st h c sl => match st with
  | .inl y :: .inl x :: r => K lv (.inl (f x y) :: r) h c sl
  | _ => none
theorem fe_bi (p : Nat) {f g : am_I → am_I → am_I} (hf : f = g) (K : am_D) (lv : am_L) (st : List am_V) (h : am_H) (c sl : Nat) : fq_bi f K lv st h c sl = aq_bi (vm_gd (p + 1) K) g p lv st h c sl := by
  subst hf
  unfold fq_bi aq_bi
  match st with
  | .inl y :: .inl x :: r => exact (vm_gd_at _ K _ _ _ _ _).symm
  | .inl _ :: .inr _ :: _ => rfl
  | [.inl _] => rfl
  | .inr _ :: _ => rfl
  | [] => rfl
def fq_i2l (K : am_D) : am_D := fun lv st h c sl => match st with
  | .inl x :: r => K lv (.inr (.inl x) :: r) h c sl
  | _ => none
theorem fe_i2l (p : Nat) (K : am_D) (lv : am_L) (st : List am_V) (h : am_H) (c sl : Nat) : fq_i2l K lv st h c sl = aq_i2l (vm_gd (p + 1) K) p lv st h c sl := by
  unfold fq_i2l aq_i2l
  match st with
  | .inl x :: r => exact (vm_gd_at _ K _ _ _ _ _).symm
  | .inr _ :: _ => rfl
  | [] => rfl
def fq_dup (K : am_D) : am_D := fun lv st h c sl => match st with
  | v :: r => (match am_is2 v with
    | true => none
    | false => K lv (v :: v :: r) h c sl)
  | _ => none
theorem am_is2_cat (v : am_V) : (am_is2 v = true ∧ am_cat v = 2) ∨ (am_is2 v = false ∧ am_cat v = 1) := by
  match v with
  | .inl _ => exact Or.inr ⟨rfl, rfl⟩
  | .inr (.inl _) => exact Or.inl ⟨rfl, rfl⟩
  | .inr (.inr _) => exact Or.inr ⟨rfl, rfl⟩
theorem fe_dup (p : Nat) (K : am_D) (lv : am_L) (st : List am_V) (h : am_H) (c sl : Nat) : fq_dup K lv st h c sl = aq_dup (vm_gd (p + 1) K) p lv st h c sl := by
  unfold fq_dup aq_dup
  match st with
  | v :: r =>
    dsimp only
    rcases am_is2_cat v with ⟨e1, e2⟩ | ⟨e1, e2⟩
    · rw [e1, e2]
      rfl
    · rw [e1, e2, if_pos rfl, vm_gd_at]
  | [] => rfl
noncomputable def fq_getf (ci f : Nat) (K : am_D) : am_D := fun lv st h c sl => match st with
  | .inr (.inr (some a)) :: r => (match fm_cell h a with
    | some (.inr (.inr (.inr (cj, fs)))) => (match Nat.beq cj ci with
      | true => (match vm_nth fs f with
        | some v => K lv (v :: r) h c sl
        | none => none)
      | false => none)
    | _ => none)
  | _ => none
theorem fe_getf (p ci f : Nat) (K : am_D) (lv : am_L) (st : List am_V) (h : am_H) (c sl : Nat) : fq_getf ci f K lv st h c sl = aq_getf (vm_gd (p + 3) K) ci f p lv st h c sl := by
  unfold fq_getf aq_getf
  match st with
  | .inr (.inr (some a)) :: r =>
    dsimp only
    rw [fm_cell_eq]
    generalize am_cell h a = o
    match o with
    | some (.inr (.inr (.inr (cj, fs)))) =>
      dsimp only
      rw [vm_nth_eq]
      cases hb : Nat.beq cj ci with
      | true =>
        rw [if_pos (Nat.eq_of_beq_eq_true hb)]
        generalize fs[f]? = w
        match w with
        | some v => exact (vm_gd_at _ K _ _ _ _ _).symm
        | none => rfl
      | false => rw [if_neg (vm_beq_f hb)]
    | some (.inr (.inr (.inl _))) => rfl
    | some (.inr (.inl _)) => rfl
    | some (.inl _) => rfl
    | none => rfl
  | .inr (.inr none) :: _ => rfl
  | .inr (.inl _) :: _ => rfl
  | .inl _ :: _ => rfl
  | [] => rfl
noncomputable def fq_iald (K : am_D) : am_D := fun lv st h c sl => match st with
  | .inl i :: .inr (.inr (some a)) :: r => (match fm_ix i with
    | some n => (match fm_cell h a with
      | some (.inl (t, l)) => (match Nat.beq t 0 with
        | true => (match vm_nth l n with
          | some x => K lv (.inl x :: r) h c sl
          | none => none)
        | false => none)
      | _ => none)
    | none => (match fm_cell h a with
      | some (.inl (t, l)) => (match Nat.beq t 0 with
        | true => (match am_wx i l.length with
          | true => K lv (.inl (am_hl l) :: r) h c sl
          | false => none)
        | false => none)
      | _ => none))
  | _ => none
theorem fe_iald (p : Nat) (K : am_D) (lv : am_L) (st : List am_V) (h : am_H) (c sl : Nat) : fq_iald K lv st h c sl = aq_iald (vm_gd (p + 1) K) none p lv st h c sl := by
  unfold fq_iald aq_iald
  match st with
  | .inl i :: .inr (.inr (some a)) :: r =>
    dsimp only
    rw [fm_ix_eq, fm_cell_eq]
    generalize am_ix i = w
    match w with
    | some n =>
      dsimp only
      by_cases ha : a = 0
      · subst ha
        rfl
      · rw [if_neg ha]
        generalize am_cell h a = o
        match o with
        | some (.inl (t, l)) =>
          dsimp only
          rw [vm_nth_eq]
          cases hb : Nat.beq t 0 with
          | true =>
            rw [if_pos (Nat.eq_of_beq_eq_true hb)]
            generalize l[n]? = u
            match u with
            | some v => exact (vm_gd_at _ K _ _ _ _ _).symm
            | none => rfl
          | false => rw [if_neg (vm_beq_f hb)]
        | some (.inr _) => rfl
        | none => rfl
    | none =>
      dsimp only
      generalize am_cell h a = o
      match o with
      | some (.inl (t, l)) =>
        dsimp only
        cases hb : Nat.beq t 0 with
        | true =>
          rw [if_pos (Nat.eq_of_beq_eq_true hb)]
          generalize am_wx i l.length = u
          match u with
          | true => exact (vm_gd_at _ K _ _ _ _ _).symm
          | false => rfl
        | false => rw [if_neg (vm_beq_f hb)]
      | some (.inr _) => rfl
      | none => rfl
  | .inl _ :: .inr (.inr none) :: _ => rfl
  | .inl _ :: .inr (.inl _) :: _ => rfl
  | .inl _ :: .inl _ :: _ => rfl
  | [.inl _] => rfl
  | .inr _ :: _ => rfl
  | [] => rfl
noncomputable def fm_len {α : Type} (l : List α) : Nat := List.rec (motive := fun _ => Nat) 0 (fun _ _ ih => Nat.succ ih) l
noncomputable def fq_iast (K : am_D) : am_D := fun lv st h c sl => match st with
  | .inl x :: .inl i :: .inr (.inr (some a)) :: r => (match fm_ix i with
    | some n => (match fm_cell h a with
      | some (.inl (t, l)) => (match Nat.beq t 0 with
        | true => (match vm_nth l n with
          | some _ => K lv r (fm_st h (Nat.sub a 8) (.inl (0, vm_set x l n))) c sl
          | none => none)
        | false => none)
      | _ => none)
    | none => (match fm_cell h a with
      | some (.inl (t, l)) => (match Nat.beq t 0 with
        | true => (match am_wx i l.length with
          | true => K lv r (fm_st h (Nat.sub a 8) (.inl (0, l.map (fun b => am_hul b x)))) c sl
          | false => none)
        | false => none)
      | _ => none))
  | _ => none
theorem fe_iast (p : Nat) (K : am_D) (lv : am_L) (st : List am_V) (h : am_H) (c sl : Nat) : fq_iast K lv st h c sl = aq_iast (vm_gd (p + 1) K) p lv st h c sl := by
  unfold fq_iast aq_iast
  match st with
  | .inl x :: .inl i :: .inr (.inr (some a)) :: r =>
    dsimp only
    rw [fm_ix_eq, fm_cell_eq]
    generalize am_ix i = w
    match w with
    | some n =>
      dsimp only
      generalize am_cell h a = o
      match o with
      | some (.inl (t, l)) =>
        dsimp only
        rw [vm_nth_eq]
        cases hb : Nat.beq t 0 with
        | true =>
          rw [if_pos (Nat.eq_of_beq_eq_true hb)]
          match hu : l[n]? with
          | some v =>
            rw [if_pos (List.getElem?_eq_some_iff.mp hu).1, vm_gd_at, ← fm_st_eq, ← vm_set_eq]
            rfl
          | none => rw [if_neg (by rw [List.getElem?_eq_none_iff] at hu; omega)]
        | false => rw [if_neg (vm_beq_f hb)]
      | some (.inr _) => rfl
      | none => rfl
    | none =>
      dsimp only
      generalize am_cell h a = o
      match o with
      | some (.inl (t, l)) =>
        dsimp only
        cases hb : Nat.beq t 0 with
        | true =>
          rw [if_pos (Nat.eq_of_beq_eq_true hb)]
          generalize am_wx i l.length = u
          match u with
          | true =>
            dsimp only
            rw [vm_gd_at, ← fm_st_eq]
            rfl
          | false => rfl
        | false => rw [if_neg (vm_beq_f hb)]
      | some (.inr _) => rfl
      | none => rfl
  | .inl _ :: .inl _ :: .inr (.inr none) :: _ => rfl
  | .inl _ :: .inl _ :: .inr (.inl _) :: _ => rfl
  | .inl _ :: .inl _ :: .inl _ :: _ => rfl
  | [.inl _, .inl _] => rfl
  | .inl _ :: .inr _ :: _ => rfl
  | [.inl _] => rfl
  | .inr _ :: _ => rfl
  | [] => rfl
noncomputable def fq_iinc (i : Nat) (b : am_I) (K : am_D) : am_D := fun lv st h c sl => match vm_lk i lv with
  | some (.inl x) => K (fm_s1 i (.inl (fm_add x b)) lv) st h c sl
  | _ => none
theorem fe_iinc (p i nL : Nat) (n : Int) (b : am_I) (hb : b = ((Int32.ofInt n).toInt, (Int32.ofInt n).toInt)) (hi : Nat.ble (i + 1) nL = true) (K : am_D) (lv : am_L) (st : List am_V) (h : am_H) (c sl : Nat) : fq_iinc i b K lv st h c sl = aq_iinc (vm_gd (p + 3) K) nL i n p lv st h c sl := by
  unfold fq_iinc aq_iinc
  rw [vm_lk_eq]
  generalize lv.lookup i = o
  match o with
  | some (.inl x) =>
    dsimp only
    rw [if_pos (show i < nL from Nat.le_of_ble_eq_true hi), vm_gd_at, fm_s1_eq, fm_add_eq, hb]
  | some (.inr _) => rfl
  | none => rfl
noncomputable def fq_putf (ci f : Nat) (ty : FieldType) (K : am_D) : am_D := fun lv st h c sl => match st with
  | v :: .inr (.inr (some a)) :: r => (match fm_cell h a with
    | some (.inr (.inr (.inr (cj, fs)))) => (match Nat.beq cj ci with
      | true => (match vm_nth fs f with
        | some _ => (match am_fit ty v with
          | true => K lv r (fm_st h (Nat.sub a 8) (.inr (.inr (.inr (ci, vm_set v fs f))))) c sl
          | false => none)
        | none => none)
      | false => none)
    | _ => none)
  | _ => none
theorem fe_putf (p ci f : Nat) {ty : FieldType} (ht : ty = kY ci f) (K : am_D) (lv : am_L) (st : List am_V) (h : am_H) (c sl : Nat) : fq_putf ci f ty K lv st h c sl = aq_putf (vm_gd (p + 3) K) ci f p lv st h c sl := by
  subst ht
  unfold fq_putf aq_putf
  match st with
  | v :: .inr (.inr (some a)) :: r =>
    dsimp only
    rw [fm_cell_eq]
    generalize am_cell h a = o
    match o with
    | some (.inr (.inr (.inr (cj, fs)))) =>
      dsimp only
      rw [vm_nth_eq]
      cases hb : Nat.beq cj ci with
      | true =>
        rw [if_pos (Nat.eq_of_beq_eq_true hb)]
        match hu : fs[f]? with
        | some y =>
          rw [if_pos (List.getElem?_eq_some_iff.mp hu).1]
          dsimp only
          generalize am_fit (kY ci f) v = u
          match u with
          | true =>
            dsimp only
            rw [vm_gd_at, ← fm_st_eq, ← vm_set_eq]
            rfl
          | false => rfl
        | none => rw [if_neg (by rw [List.getElem?_eq_none_iff] at hu; omega)]
      | false => rw [if_neg (vm_beq_f hb)]
    | some (.inr (.inr (.inl _))) => rfl
    | some (.inr (.inl _)) => rfl
    | some (.inl _) => rfl
    | none => rfl
  | _ :: .inr (.inr none) :: _ => rfl
  | _ :: .inr (.inl _) :: _ => rfl
  | _ :: .inl _ :: _ => rfl
  | [_] => rfl
  | [] => rfl
/-- calls -/
noncomputable def fm_tk (n : Nat) : List am_V → List am_V → Option (List am_V × List am_V) := Nat.rec (motive := fun _ => List am_V → List am_V → Option (List am_V × List am_V)) (fun st acc => some (acc, st)) (fun _ ih st acc => match st with
  | [] => none
  | v :: r => ih r (v :: acc)) n
theorem fm_tk_eq : ∀ (n : Nat) (st acc : List am_V), fm_tk n st acc = if n ≤ st.length then some ((st.take n).reverse ++ acc, st.drop n) else none
  | 0, st, acc => by
    rw [if_pos (Nat.zero_le _)]
    simp only [List.take_zero, List.drop_zero, List.reverse_nil, List.nil_append]
    rfl
  | n + 1, [], acc => by
    rw [if_neg (by simp)]
    rfl
  | n + 1, v :: r, acc => by
    show fm_tk n r (v :: acc) = _
    rw [fm_tk_eq n r (v :: acc)]
    by_cases h : n ≤ r.length
    · rw [if_pos h, if_pos (by rw [List.length_cons]; omega)]
      simp
    · rw [if_neg h, if_neg (by rw [List.length_cons]; omega)]
noncomputable def fm_few (l : List am_V) : Nat := List.rec (motive := fun _ => Nat) 0 (fun v _ ih => match am_is2 v with
  | true => Nat.add 2 ih
  | false => Nat.add 1 ih) l
theorem fm_few_eq : ∀ l : List am_V, fm_few l = (l.map am_cat).sum
  | [] => rfl
  | v :: l => by
    show (match am_is2 v with
      | true => Nat.add 2 (fm_few l)
      | false => Nat.add 1 (fm_few l)) = _
    rw [fm_few_eq l, List.map_cons, List.sum_cons]
    rcases am_is2_cat v with ⟨e1, e2⟩ | ⟨e1, e2⟩ <;> rw [e1, e2] <;> rfl
def fm_aeR (a b : vm_R) : Bool := match a, b with
  | (some (.inl x), (n, [])), (some (.inl y), (m, [])) => Nat.beq n m && (leZ x.1 y.1 && (leZ y.1 x.1 && (leZ x.2 y.2 && leZ y.2 x.2)))
  | _, _ => aeR a b
theorem fm_aeR_ok {a b : vm_R} (h : fm_aeR a b = true) : a = b := by
  unfold fm_aeR at h
  split at h
  · rename_i x n y m
    simp only [Bool.and_eq_true] at h
    obtain ⟨h1, h2, h3, h4, h5⟩ := h
    have e1 := Nat.eq_of_beq_eq_true h1
    have e2 := Int.le_antisymm (leZ_ok h2) (leZ_ok h3)
    have e3 := Int.le_antisymm (leZ_ok h4) (leZ_ok h5)
    subst e1
    have e4 : x = y := Prod.ext e2 e3
    rw [e4]
  · exact aeR_ok h
noncomputable def fm_each {α : Type} (f : α → am_R) (l : List α) : am_R := List.rec (motive := fun _ => am_R) none (fun a r ih => match r with
  | [] => f a
  | _ :: _ => (match f a with
    | some R1 => (match ih with
      | some R2 => (match fm_aeR R1 R2 with
        | true => some R1
        | false => none)
      | none => none)
    | none => none)) l
def vm_isret (i : Instr) : Bool := match i with
  | .ireturn => true
  | .lreturn => true
  | .areturn => true
  | .return_ => true
  | _ => false
def vm_ret (i : Instr) (mm : pm_M) (st : List am_V) (h : am_H) : am_R := match i with
  | .ireturn => aq_ret mm st h
  | .lreturn => aq_retl mm st h
  | .areturn => aq_reta mm st h
  | .return_ => aq_retv mm st h
  | _ => none
theorem vm_ret_ok {i : Instr} {mm : pm_M} {sta : List am_V} {ha : am_H} {R : Option am_V × am_H} {st : List Value} {h : pm_H} {xs : List Int32} {tab : Nat → Option pm_M} {bc : Nat → List Value → pm_H → pm_R} {k : pm_K} {a b : Nat} {z : Int} {pc : Nat} {lv : pm_L} {c sl : Nat} (hk : vm_ret i mm sta ha = some R) (hs : am_all am_v sta st) (hh : am_h ha h) : ∃ r, pm_step xs tab bc mm k (i, a, b, z) pc lv st h c sl = some r ∧ am_r R r := by
  cases i with
  | ireturn => exact at_ret (Pr := am_r) (fun _ _ h => h) hk hs hh
  | lreturn => exact at_retl (Pr := am_r) (fun _ _ h => h) hk hs hh
  | areturn => exact at_reta (Pr := am_r) (fun _ _ h => h) hk hs hh
  | return_ => exact at_retv (Pr := am_r) (fun _ _ h => h) hk hs hh
  | _ => exact absurd (show (none : am_R) = some R from hk) (fun q => by cases q)
theorem aeI_refl (a : am_I) : aeI a a = true := by
  unfold aeI
  rw [decide_eq_true rfl, decide_eq_true rfl]
  rfl
theorem aeV_refl (a : am_V) : aeV a a = true := by
  match a with
  | .inl a => exact aeI_refl a
  | .inr (.inl a) => exact aeI_refl a
  | .inr (.inr a) => exact decide_eq_true rfl
theorem aeL_refl {α : Type} {e : α → α → Bool} (he : ∀ a, e a a = true) : ∀ l : List α, aeL e l l = true
  | [] => rfl
  | a :: l => by
    show (e a a && aeL e l l) = true
    rw [he, aeL_refl he l]
    rfl
theorem aeC_refl (a : am_C) : aeC a a = true := by
  match a with
  | .inl (t, l) =>
    show (decide (t = t) && aeL aeI l l) = true
    rw [decide_eq_true rfl, aeL_refl aeI_refl]
    rfl
  | .inr (.inl (t, l)) =>
    show (decide (t = t) && aeL aeI l l) = true
    rw [decide_eq_true rfl, aeL_refl aeI_refl]
    rfl
  | .inr (.inr (.inl (t, l))) =>
    show (decide (t = t) && decide (l = l)) = true
    rw [decide_eq_true rfl, decide_eq_true rfl]
    rfl
  | .inr (.inr (.inr (t, l))) =>
    show (decide (t = t) && aeL aeV l l) = true
    rw [decide_eq_true rfl, aeL_refl aeV_refl]
    rfl
theorem aeP_refl (a : Nat × am_C) : aeP a a = true := by
  unfold aeP
  rw [decide_eq_true rfl, aeC_refl]
  rfl
theorem aeO_refl (a : Option am_V) : aeO a a = true := by
  match a with
  | none => rfl
  | some a => exact aeV_refl a
theorem aeR_refl (a : vm_R) : aeR a a = true := by
  unfold aeR
  rw [aeO_refl, decide_eq_true rfl, aeL_refl aeP_refl]
  rfl
theorem fm_each_ok {α : Type} {f : α → am_R} {R : vm_R} : ∀ {l : List α}, fm_each f l = some R → am_each f l = some R
  | [], h => by cases h
  | [a], h => h
  | a :: b :: r, h => by
    have h1 : (match f a with
      | some R1 => (match fm_each f (b :: r) with
        | some R2 => (match fm_aeR R1 R2 with
          | true => some R1
          | false => none)
        | none => none)
      | none => none) = some R := h
    show (match f a, am_each f (b :: r) with
      | some R1, some R2 => (match aeR R1 R2 with
        | true => some R1
        | false => none)
      | _, _ => none) = some R
    cases hf : f a with
    | none =>
      rw [hf] at h1
      cases h1
    | some R1 =>
      rw [hf] at h1
      dsimp only at h1
      cases hg : fm_each f (b :: r) with
      | none =>
        rw [hg] at h1
        cases h1
      | some R2 =>
        rw [hg] at h1
        dsimp only at h1
        rw [fm_each_ok hg]
        cases he : fm_aeR R1 R2 with
        | false =>
          rw [he] at h1
          cases h1
        | true =>
          rw [he] at h1
          have e := fm_aeR_ok he
          subst e
          dsimp only
          rw [aeR_refl]
          exact h1
/-- a call: how many arguments, the receiver's class (none: static), room for cells and slots -/
noncomputable def fq_call (M2 n : Nat) (o : Option Nat) (cm sm : Nat) (ba : am_B) (K : am_D) : am_D := fun lv st h c sl => match fm_tk n st [] with
  | none => none
  | some (as, rest) => (match (match o with
      | none => true
      | some ci => (match as with
        | .inr (.inr (some a)) :: _ => (match fm_cell h a with
          | some (.inr (.inr (.inr (cj, _)))) => Nat.beq cj ci
          | _ => false)
        | _ => false)) && (Nat.ble (fm_few rest) 8 && (Nat.ble c cm && Nat.ble sl sm)) with
    | true => (match ba M2 as h with
      | some Rs => fm_each (fun (q : vm_R) => K lv (match q.1 with
          | some v => v :: rest
          | none => rest) q.2 c sl) Rs
      | none => none)
    | false => none)
theorem fm_each_congr {α : Type} {f g : α → am_R} (h : ∀ a, f a = g a) (l : List α) : am_each f l = am_each g l := by
  rw [show f = g from funext h]
theorem fo_call {M2 n : Nat} {o : Option Nat} {cm sm : Nat} {ba : am_B} {K : am_D} {lv : am_L} {st : List am_V} {h : am_H} {c sl p : Nat} {mm m2 : pm_M} {R : vm_R} (hn : pm_n m2 = n) (h1 : pm_c m2 = 0) (h2 : pm_s m2 = 0) (h3 : pm_c mm = cm) (h4 : pm_s mm = sm) (hk : fq_call M2 n o cm sm ba K lv st h c sl = some R) : n ≤ st.length ∧ (∀ ci, o = some ci → ∃ a as, (st.take n).reverse = .inr (.inr (some a)) :: as ∧ ∃ x, am_cell h a = some (.inr (.inr (.inr (ci, x))))) ∧ aq_call (vm_gd (p + 3) K) ba mm m2 M2 p lv (st.take n).reverse (st.drop n) h c sl = some R := by
  unfold fq_call at hk
  rw [fm_tk_eq] at hk
  by_cases hl : n ≤ st.length
  · rw [if_pos hl] at hk
    dsimp only at hk
    rw [List.append_nil] at hk
    refine ⟨hl, ?_⟩
    split at hk
    · rename_i hb
      simp only [Bool.and_eq_true] at hb
      obtain ⟨hb1, hb2, hb3, hb4⟩ := hb
      refine ⟨?_, ?_⟩
      · intro ci ho
        rw [ho] at hb1
        dsimp only at hb1
        split at hb1
        · rename_i a as hst
          rw [fm_cell_eq] at hb1
          split at hb1
          · rename_i cj x hcell
            exact ⟨a, as, hst, x, by rw [hcell, Nat.eq_of_beq_eq_true hb1]⟩
          · cases hb1
        · cases hb1
      · unfold aq_call
        rw [fm_few_eq] at hb2
        rw [h1, h2, h3, h4, if_pos (Nat.le_of_ble_eq_true hb2), if_pos (by have := Nat.le_of_ble_eq_true hb3; omega), if_pos (by have := Nat.le_of_ble_eq_true hb4; omega)]
        split at hk
        · rename_i Rs hRs
          rw [hRs]
          have h5 := fm_each_ok hk
          dsimp only
          rw [← h5]
          refine fm_each_congr (fun q => ?_) Rs
          rw [vm_gd_at]
          match q with
          | (some v, g) => rfl
          | (none, g) => rfl
        · cases hk
    · cases hk
  · rw [if_neg hl] at hk
    cases hk
/-! blocks -/
def vm_sok (mm : pm_M) (p q : Nat) (F : vm_SE) : Prop := ∃ e, pm_at mm p = some e ∧ ∀ ba K lv st h c sl R, F ba K lv st h c sl = some R → am_step none pm_m ba mm (vm_gd q K) e p lv st h c sl = some R
def vm_eok (mm : pm_M) (p : Nat) (E : vm_G) : Prop := ∃ e, pm_at mm p = some e ∧ ∀ ba k lv st h c sl R, E ba k lv st h c sl = some R → am_step none pm_m ba mm k e p lv st h c sl = some R
theorem fs_inv {mm m2 : pm_M} {M2 n ci cm sm p ix : Nat} {e : pm_E} (he : pm_at mm p = some e) (hi : e.1 = .invokevirtual ix ∧ e.2.2.1 = 0 ∨ e.1 = .invokespecial ix ∧ e.2.2.1 = 1) (ha : e.2.1 = M2) (hm : pm_m M2 = some m2) (hq : (Nat.beq (pm_n m2) n && (Nat.beq (pm_o m2) ci && (Nat.beq (pm_c m2) 0 && (Nat.beq (pm_s m2) 0 && (Nat.beq (pm_c mm) cm && Nat.beq (pm_s mm) sm))))) = true) : vm_sok mm p (p + 3) (fun ba K => fq_call M2 n (some ci) cm sm ba K) := by
  refine ⟨e, he, fun ba K lv st h c sl R hk => ?_⟩
  simp only [Bool.and_eq_true] at hq
  obtain ⟨q1, q2, q3, q4, q5, q6⟩ := hq
  obtain ⟨r1, r2, r3⟩ := fo_call (p := p) (mm := mm) (m2 := m2) (Nat.eq_of_beq_eq_true q1) (Nat.eq_of_beq_eq_true q3) (Nat.eq_of_beq_eq_true q4) (Nat.eq_of_beq_eq_true q5) (Nat.eq_of_beq_eq_true q6) hk
  have hinv : aq_inv (vm_gd (p + 3) K) pm_m ba mm M2 p lv st h c sl = some R := by
    unfold aq_inv
    rw [hm]
    dsimp only
    rw [Nat.eq_of_beq_eq_true q1, if_pos r1]
    obtain ⟨a, as, e1, x, e2⟩ := r2 ci rfl
    rw [e1] at r3 ⊢
    dsimp only
    rw [e2]
    dsimp only
    rw [if_pos (Nat.eq_of_beq_eq_true q2).symm]
    exact r3
  obtain ⟨i, a, b, z⟩ := e
  rcases hi with ⟨hi, hb⟩ | ⟨hi, hb⟩
  · dsimp only at hi hb ha
    subst hi
    subst hb
    subst ha
    show (if (0 : Nat) = 0 then aq_inv (vm_gd (p + 3) K) pm_m ba mm a p lv st h c sl else none) = some R
    rw [if_pos rfl]
    exact hinv
  · dsimp only at hi hb ha
    subst hi
    subst hb
    subst ha
    show (if (1 : Nat) = 1 then aq_inv (vm_gd (p + 3) K) pm_m ba mm a p lv st h c sl else if (1 : Nat) = 9 then aq_obj (vm_gd (p + 3) K) p lv st h c sl else none) = some R
    rw [if_pos rfl]
    exact hinv
theorem fs_ins {mm m2 : pm_M} {M2 n cm sm p ix b : Nat} {e : pm_E} (he : pm_at mm p = some e) (hi : e.1 = .invokestatic ix) (hb : e.2.2.1 = b) (hb2 : b = 2 ∨ b = 3) (ha : e.2.1 = M2) (hm : pm_m M2 = some m2) (hq : (Nat.beq (pm_n m2) n && (Nat.beq (pm_c m2) 0 && (Nat.beq (pm_s m2) 0 && (Nat.beq (pm_c mm) cm && Nat.beq (pm_s mm) sm)))) = true) : vm_sok mm p (p + 3) (fun ba K => fq_call M2 n none cm sm ba K) := by
  refine ⟨e, he, fun ba K lv st h c sl R hk => ?_⟩
  simp only [Bool.and_eq_true] at hq
  obtain ⟨q1, q3, q4, q5, q6⟩ := hq
  obtain ⟨r1, r2, r3⟩ := fo_call (p := p) (mm := mm) (m2 := m2) (Nat.eq_of_beq_eq_true q1) (Nat.eq_of_beq_eq_true q3) (Nat.eq_of_beq_eq_true q4) (Nat.eq_of_beq_eq_true q5) (Nat.eq_of_beq_eq_true q6) hk
  have hinv : aq_ins (vm_gd (p + 3) K) pm_m ba mm M2 p lv st h c sl = some R := by
    unfold aq_ins
    rw [hm]
    dsimp only
    rw [Nat.eq_of_beq_eq_true q1, if_pos r1]
    exact r3
  obtain ⟨i, a, b', z⟩ := e
  dsimp only at hi hb ha
  subst hi
  subst hb
  subst ha
  show (if b' = 8 then aq_copy (vm_gd (p + 3) K) p lv st h c sl else if b' = 2 ∨ b' = 3 then aq_ins (vm_gd (p + 3) K) pm_m ba mm a p lv st h c sl else none) = some R
  rw [if_neg (by omega), if_pos hb2]
  exact hinv
/-- jumps -/
def fq_ic (f : am_I → am_I → Option Bool) (t n : Nat) (k : am_K) : am_D := fun lv st h c sl => match st with
  | .inl y :: .inl x :: r => (match f x y with
    | some true => k t lv r h c sl
    | some false => k n lv r h c sl
    | none => (match k t lv r h c sl with
      | some R1 => (match k n lv r h c sl with
        | some R2 => (match fm_aeR R1 R2 with
          | true => some R1
          | false => none)
        | none => none)
      | none => none))
  | _ => none
theorem fo_ic {f : am_I → am_I → Option Bool} {cd : ClassFile.Cond} (hf : f = fm_dec cd) {t p : Nat} {k : am_K} {lv : am_L} {st : List am_V} {h : am_H} {c sl : Nat} {R : vm_R} (hk : fq_ic f t (p + 3) k lv st h c sl = some R) : aq_ic k cd t p lv st h c sl = some R := by
  subst hf
  unfold fq_ic at hk
  unfold aq_ic
  split at hk
  · rename_i y x r
    dsimp only
    rw [fm_dec_eq] at hk
    split at hk
    · rename_i e
      rw [e]
      exact hk
    · rename_i e
      rw [e]
      exact hk
    · rename_i e
      rw [e]
      dsimp only
      split at hk
      · rename_i R1 e1
        rw [e1]
        split at hk
        · rename_i R2 e2
          rw [e2]
          dsimp only
          split at hk
          · rename_i e3
            have e4 := fm_aeR_ok e3
            subst e4
            rw [aeR_refl]
            exact hk
          · cases hk
        · cases hk
      · cases hk
  · cases hk
def fq_if (f : am_I → am_I → Option Bool) (t n : Nat) (k : am_K) : am_D := fun lv st h c sl => fq_ic f t n k lv (.inl (.ofNat 0, .ofNat 0) :: st) h c sl
/-- a block is right: n steps of the pure machine, then on -/
def vm_bok (mm : pm_M) (p n : Nat) (G : vm_G) : Prop := ∀ (xs : List Int32) (ba : am_B) (bc : Nat → List Value → pm_H → pm_R) (Pr : vm_R → Option Value × pm_H → Prop) (ka : am_K) (kc : pm_K), (∀ R r, am_r R r → Pr R r) → (∀ M2 as h Rs, ba M2 as h = some Rs → ∀ cs hc, am_all am_v as cs → am_h h hc → ∃ r, bc M2 cs hc = some r ∧ ∃ Ra ∈ Rs, am_r Ra r) → am_S Pr ka kc → ∀ lva sta ha c sl R, G ba ka lva sta ha c sl = some R → ∀ lv st h, am_all am_q lva lv → am_all am_v sta st → am_h ha h → ∃ r, pm_runK xs pm_m bc mm kc n p lv st h c sl = some r ∧ Pr R r
theorem vm_bs {mm : pm_M} {p q' n : Nat} {F : vm_SE} {G : vm_G} (q : Nat) (hF : vm_sok mm p q' F) (hq : q' = q) (hG : vm_bok mm q n G) : vm_bok mm p (n + 1) (fun ba k => F ba (G ba k)) := by
  subst hq
  intro xs ba bc Pr ka kc hPr hbig h0 lva sta ha c sl R hk lv st h hl hs hh
  obtain ⟨e, he, hF⟩ := hF
  have hk1 := hF _ _ _ _ _ _ _ _ hk
  show ∃ r, pm_next xs pm_m bc mm (pm_runK xs pm_m bc mm kc n) p lv st h c sl = some r ∧ Pr R r
  unfold pm_next
  rw [he]
  refine at_step (xa := none) (fun _ q => by cases q) ?_ hPr hbig hk1 hl hs hh
  intro pc lva sta ha c sl R hk lv st h hl hs hh
  unfold vm_gd at hk
  split at hk
  · rename_i e1
    rw [Nat.eq_of_beq_eq_true e1]
    exact hG xs ba bc Pr ka kc hPr hbig h0 lva sta ha c sl R hk lv st h hl hs hh
  · cases hk
theorem vm_be {mm : pm_M} {p : Nat} {E : vm_G} (hE : vm_eok mm p E) : vm_bok mm p 1 E := by
  intro xs ba bc Pr ka kc hPr hbig h0 lva sta ha c sl R hk lv st h hl hs hh
  obtain ⟨e, he, hE⟩ := hE
  have hk1 := hE _ _ _ _ _ _ _ _ hk
  show ∃ r, pm_next xs pm_m bc mm kc p lv st h c sl = some r ∧ Pr R r
  unfold pm_next
  rw [he]
  exact at_step (xa := none) (fun _ q => by cases q) h0 hPr hbig hk1 hl hs hh
theorem vm_bf {mm : pm_M} {p : Nat} : vm_bok mm p 0 (fun _ k => k p) := by
  intro xs ba bc Pr ka kc hPr hbig h0 lva sta ha c sl R hk lv st h hl hs hh
  exact h0 _ _ _ _ _ _ _ hk _ _ _ hl hs hh
/-- an answer, or a block of so many steps -/
abbrev vm_Y : Type := (List am_V → am_H → am_R) ⊕ (Nat × vm_G)
abbrev vm_T : Type := List (List (Nat × vm_Y))
def vm_rok (mm : pm_M) (p : Nat) (f : List am_V → am_H → am_R) : Prop := ∃ e, pm_at mm p = some e ∧ ∀ st h R, f st h = some R → vm_ret e.1 mm st h = some R
def vm_yok (mm : pm_M) (p : Nat) (y : vm_Y) : Prop := match y with
  | .inl f => vm_rok mm p f
  | .inr (n, G) => n ≤ 64 ∧ vm_bok mm p n G
noncomputable def vm_tl (T : vm_T) (pc : Nat) : Option vm_Y := match vm_nth T (Nat.div pc 16) with
  | some l => vm_lk pc l
  | none => none
def vm_tok (mm : pm_M) (T : vm_T) : Prop := ∀ l ∈ T, ∀ q ∈ l, vm_yok mm q.1 q.2
theorem vm_tl_ok {mm : pm_M} {T : vm_T} (hT : vm_tok mm T) {pc : Nat} {y : vm_Y} (h : vm_tl T pc = some y) : vm_yok mm pc y := by
  unfold vm_tl at h
  rw [vm_nth_eq] at h
  split at h
  · rename_i l hl
    rw [vm_lk_eq] at h
    exact hT l (List.mem_of_getElem? hl) _ (vm_lk_mem h)
  · cases h
/-- a noted state: where, locals, stack, cells -/
abbrev vm_A : Type := Nat × am_L × List am_V × am_H
noncomputable def vm_le (pc : Nat) (lv : am_L) (st : List am_V) (h : am_H) (a : vm_A) : Bool := Nat.beq a.1 pc && (leL leQ lv a.2.1 && (leL leV st a.2.2.1 && leH h a.2.2.2))
noncomputable def vm_run (ba : am_B) (T : vm_T) (cap : Nat → am_L → List am_V → am_H → Nat → Nat → Option Bool) (S : Nat) : am_K := Nat.rec (motive := fun _ => am_K) (fun _ _ _ _ _ _ => none) (fun _ k pc lv st h c sl => match cap pc lv st h c sl with
  | some true => some vm_mark
  | some false => none
  | none => (match vm_tl T pc with
    | some (.inr (_, G)) => G ba k lv st h c sl
    | _ => none)) S
section Cert
variable {xs : List Int32} {ba : am_B} {bc : Nat → List Value → pm_H → pm_R} {mm : pm_M} {T : vm_T}
theorem vm_tl_run {pc n : Nat} {G : vm_G} {Pr : vm_R → Option Value × pm_H → Prop} {ka : am_K} {m : Nat} (hT : vm_tok mm T) (hbig : ∀ M2 as h Rs, ba M2 as h = some Rs → ∀ cs hc, am_all am_v as cs → am_h h hc → ∃ r, bc M2 cs hc = some r ∧ ∃ Ra ∈ Rs, am_r Ra r) (hPr : ∀ R r, am_r R r → Pr R r) (hG : vm_tl T pc = some (.inr (n, G))) (h0 : ∀ m', m ≤ m' + 64 → m' ≤ m → am_S Pr ka (pm_run xs pm_m bc mm m')) (hm : 64 ≤ m) {lva : am_L} {sta : List am_V} {ha : am_H} {c sl : Nat} {R : vm_R} (hk : G ba ka lva sta ha c sl = some R) {lv : pm_L} {st : List Value} {h : pm_H} (hl : am_all am_q lva lv) (hs : am_all am_v sta st) (hh : am_h ha h) : ∃ r, pm_run xs pm_m bc mm m pc lv st h c sl = some r ∧ Pr R r := by
  obtain ⟨h1, h2⟩ := show n ≤ 64 ∧ vm_bok mm pc n G from vm_tl_ok hT hG
  obtain ⟨r, hr, hp⟩ := h2 xs ba bc Pr ka (pm_run xs pm_m bc mm (m - n)) hPr hbig (h0 (m - n) (by omega) (by omega)) lva sta ha c sl R hk lv st h hl hs hh
  rw [pm_runK_eq, show m - n + n = m by omega] at hr
  exact ⟨r, hr, hp⟩
theorem vm_run_ok {cap : Nat → am_L → List am_V → am_H → Nat → Nat → Option Bool} {P : Option Value × pm_H → Prop} {B : Nat} (hT : vm_tok mm T) (hbig : ∀ M2 as h Rs, ba M2 as h = some Rs → ∀ cs hc, am_all am_v as cs → am_h h hc → ∃ r, bc M2 cs hc = some r ∧ ∃ Ra ∈ Rs, am_r Ra r) (hcap : ∀ pc lva sta ha c sl, cap pc lva sta ha c sl = some true → ∀ n, B ≤ n → ∀ lv st h, am_all am_q lva lv → am_all am_v sta st → am_h ha h → ∃ r, pm_run xs pm_m bc mm n pc lv st h c sl = some r ∧ P r) : ∀ S n, S * 64 + B ≤ n → am_S (fun R r => am_r R r ∨ P r) (vm_run ba T cap S) (pm_run xs pm_m bc mm n)
  | 0, n, _ => fun _ _ _ _ _ _ _ hk => by cases hk
  | S + 1, n, hn => by
    intro pc lva sta ha c sl R hk lv st h hl hs hh
    have hk1 : (match cap pc lva sta ha c sl with
      | some true => some vm_mark
      | some false => none
      | none => (match vm_tl T pc with
        | some (.inr (_, G)) => G ba (vm_run ba T cap S) lva sta ha c sl
        | _ => none)) = some R := hk
    split at hk1
    · rename_i hc
      obtain ⟨r, hr, hp⟩ := hcap _ _ _ _ _ _ hc n (by omega) lv st h hl hs hh
      exact ⟨r, hr, Or.inr hp⟩
    · cases hk1
    · split at hk1
      · rename_i n0 G hG
        exact vm_tl_run hT hbig (fun _ _ h => Or.inl h) hG (fun m' a1 a2 => vm_run_ok hT hbig hcap S m' (by omega)) (by omega) hk1 hl hs hh
      · cases hk1
/-- an instance: its answers' tag, the state, how far ahead those lie that it comes to -/
abbrev vm_N : Type := Nat × vm_A × List Nat
/-- a certificate: answers by tag, cuts by place, noted places, how many noted states, which -/
abbrev vm_C : Type := (Nat → List vm_R) × (Nat → List vm_X) × List Nat × Nat × (Nat → Option vm_N)
noncomputable def vm_sub (post : Nat → List vm_R) (t u : Nat) : Bool := Nat.beq t u || vm_all (fun R => vm_any (leR R) (post u)) (post t)
theorem vm_sub_ok {post : Nat → List vm_R} {t u : Nat} (h : vm_sub post t u = true) {r : Option Value × pm_H} (hr : ∃ Ra ∈ post t, am_r Ra r) : ∃ Ra ∈ post u, am_r Ra r := by
  unfold vm_sub at h
  rw [Bool.or_eq_true] at h
  rcases h with h | h
  · rw [← Nat.eq_of_beq_eq_true h]
    exact hr
  · obtain ⟨Ra, hRa, hp⟩ := hr
    obtain ⟨Rb, hRb, hle⟩ := vm_any_ok (vm_all_ok h Ra hRa)
    exact ⟨Rb, hRb, leR_ok hle hp⟩
/-- a state is one of those ahead -/
noncomputable def vm_hit (C : vm_C) (tg : Nat) (j : Nat) (pc : Nat) (lv : am_L) (st : List am_V) (h : am_H) : Bool := Nat.blt j C.2.2.2.1 && (match C.2.2.2.2 j with
  | some (t, a, _) => vm_le pc lv st h a && vm_sub C.1 t tg
  | none => false)
noncomputable def vm_cap (C : vm_C) (T : vm_T) (tg i : Nat) (hs : List Nat) (pc : Nat) (lv : am_L) (st : List am_V) (h : am_H) (c sl : Nat) : Option Bool := match vm_any (fun p => Nat.beq p pc) C.2.2.1 with
  | true => some (Nat.beq c 0 && (Nat.beq sl 0 && vm_all (fun s => vm_any (fun j => vm_hit C tg (i + (j + 1)) pc s.1 st s.2) hs) (vm_cuts (C.2.1 pc) (lv, h))))
  | false => (match vm_tl T pc with
    | some (.inl f) => some (match f st h with
      | some R => vm_any (leR R) (C.1 tg)
      | none => false)
    | _ => none)
noncomputable def vm_one (ba : am_B) (T : vm_T) (S : Nat) (C : vm_C) (i : Nat) : Bool := match C.2.2.2.2 i with
  | none => false
  | some (tg, a, hs) => (match vm_tl T a.1 with
    | some (.inl f) => (match f a.2.2.1 a.2.2.2 with
      | some R => vm_any (leR R) (C.1 tg)
      | none => false)
    | some (.inr (_, G)) => (match G ba (vm_run ba T (vm_cap C T tg i hs) S) a.2.1 a.2.2.1 a.2.2.2 0 0 with
      | some R => fm_aeR R vm_mark
      | none => false)
    | none => false)
/-- a noted state comes to its end, with one of the answers -/
def vm_ends (xs : List Int32) (bc : Nat → List Value → pm_H → pm_R) (mm : pm_M) (post : List vm_R) (B : Nat) (a : vm_A) : Prop := ∀ n, B ≤ n → ∀ lv st h, am_all am_q a.2.1 lv → am_all am_v a.2.2.1 st → am_h a.2.2.2 h → ∃ r, pm_run xs pm_m bc mm n a.1 lv st h 0 0 = some r ∧ ∃ Ra ∈ post, am_r Ra r
theorem vm_hit_ok {C : vm_C} {tg j pc B : Nat} {lva : am_L} {sta : List am_V} {ha : am_H} (hA : ∀ t a q, j < C.2.2.2.1 → C.2.2.2.2 j = some (t, a, q) → vm_ends xs bc mm (C.1 t) B a) (hc : vm_hit C tg j pc lva sta ha = true) : ∀ n, B ≤ n → ∀ lv st h, am_all am_q lva lv → am_all am_v sta st → am_h ha h → ∃ r, pm_run xs pm_m bc mm n pc lv st h 0 0 = some r ∧ ∃ Ra ∈ C.1 tg, am_r Ra r := by
  intro n hn lv st h hl hs hh
  unfold vm_hit at hc
  rw [Bool.and_eq_true] at hc
  obtain ⟨h0, hc⟩ := hc
  have hj : j < C.2.2.2.1 := Nat.le_of_ble_eq_true h0
  split at hc
  · rename_i t a q hi
    rw [Bool.and_eq_true] at hc
    obtain ⟨h1, h2⟩ := hc
    unfold vm_le at h1
    simp only [Bool.and_eq_true] at h1
    obtain ⟨b1, b2, b3, b4⟩ := h1
    have e1 := Nat.eq_of_beq_eq_true b1
    obtain ⟨r, hr, hp⟩ := hA t a q hj hi n hn lv st h (leL_ok (R := am_q) (fun _ _ _ => leQ_ok) b2 hl) (leL_ok (R := am_v) (fun _ _ _ => leV_ok) b3 hs) (leH_ok b4 hh)
    exact ⟨r, by rw [← e1]; exact hr, vm_sub_ok h2 hp⟩
  · cases hc
theorem vm_ret_run {pc : Nat} {f : List am_V → am_H → am_R} (hT : vm_tok mm T) (hf : vm_tl T pc = some (.inl f)) {sta : List am_V} {ha : am_H} {R : vm_R} (hR : f sta ha = some R) {n : Nat} (hn : 1 ≤ n) {lv : pm_L} {st : List Value} {h : pm_H} {c sl : Nat} (hs : am_all am_v sta st) (hh : am_h ha h) : ∃ r, pm_run xs pm_m bc mm n pc lv st h c sl = some r ∧ am_r R r := by
  obtain ⟨e, he, h1⟩ := show vm_rok mm pc f from vm_tl_ok hT hf
  obtain ⟨n', rfl⟩ : ∃ n', n = n' + 1 := ⟨n - 1, by omega⟩
  obtain ⟨i, a, b, z⟩ := e
  obtain ⟨r, hr, hp⟩ := vm_ret_ok (xs := xs) (tab := pm_m) (bc := bc) (k := pm_run xs pm_m bc mm n') (a := a) (b := b) (z := z) (pc := pc) (lv := lv) (c := c) (sl := sl) (h1 _ _ _ hR) hs hh
  refine ⟨r, ?_, hp⟩
  show pm_next xs pm_m bc mm (pm_run xs pm_m bc mm n') pc lv st h c sl = some r
  unfold pm_next
  rw [he]
  exact hr
theorem vm_cap_ok {C : vm_C} {tg i B : Nat} {hts : List Nat} (hT : vm_tok mm T) (hB : 1 ≤ B) (hA : ∀ j t a q, i < j → j < C.2.2.2.1 → C.2.2.2.2 j = some (t, a, q) → vm_ends xs bc mm (C.1 t) B a) {pc : Nat} {lva : am_L} {sta : List am_V} {ha : am_H} {c sl : Nat} (hc : vm_cap C T tg i hts pc lva sta ha c sl = some true) : ∀ n, B ≤ n → ∀ lv st h, am_all am_q lva lv → am_all am_v sta st → am_h ha h → ∃ r, pm_run xs pm_m bc mm n pc lv st h c sl = some r ∧ ∃ Ra ∈ C.1 tg, am_r Ra r := by
  intro n hn lv st h hl hs hh
  unfold vm_cap at hc
  split at hc
  · have hc := Option.some.inj hc
    simp only [Bool.and_eq_true] at hc
    obtain ⟨c1, c2, c3⟩ := hc
    have e1 := Nat.eq_of_beq_eq_true c1
    have e2 := Nat.eq_of_beq_eq_true c2
    subst e1
    subst e2
    obtain ⟨s, hs1, q1, q2⟩ := vm_cuts_ok (C.2.1 pc) (lva, ha) hl hh
    obtain ⟨j, _, hj⟩ := vm_any_ok (vm_all_ok c3 s hs1)
    exact vm_hit_ok (fun t a q => hA _ t a q (by omega)) hj n hn lv st h q1 hs q2
  · split at hc
    · rename_i f hf
      have hc := Option.some.inj hc
      split at hc
      · rename_i R hR
        obtain ⟨Ra, hRa, hle⟩ := vm_any_ok hc
        obtain ⟨r, hr, hp⟩ := vm_ret_run (xs := xs) (bc := bc) hT hf hR (n := n) (by omega) (lv := lv) (c := c) (sl := sl) hs hh
        exact ⟨r, hr, Ra, hRa, leR_ok hle hp⟩
      · cases hc
    · cases hc
theorem vm_one_ok (hT : vm_tok mm T) (hbig : ∀ M2 as h Rs, ba M2 as h = some Rs → ∀ cs hc, am_all am_v as cs → am_h h hc → ∃ r, bc M2 cs hc = some r ∧ ∃ Ra ∈ Rs, am_r Ra r) {S B i : Nat} {C : vm_C} (hB : 1 ≤ B) (hA : ∀ j t a q, i < j → j < C.2.2.2.1 → C.2.2.2.2 j = some (t, a, q) → vm_ends xs bc mm (C.1 t) B a) (hone : vm_one ba T S C i = true) {t : Nat} {a : vm_A} {q : List Nat} (hi : C.2.2.2.2 i = some (t, a, q)) : vm_ends xs bc mm (C.1 t) ((S + 1) * 64 + B) a := by
  intro n hn lv st h hl hs hh
  unfold vm_one at hone
  rw [hi] at hone
  dsimp only at hone
  split at hone
  · rename_i f hf
    split at hone
    · rename_i R hR
      obtain ⟨Ra, hRa, hle⟩ := vm_any_ok hone
      obtain ⟨r, hr, hp⟩ := vm_ret_run (xs := xs) (bc := bc) hT hf hR (n := n) (by omega) (lv := lv) (c := 0) (sl := 0) hs hh
      exact ⟨r, hr, Ra, hRa, leR_ok hle hp⟩
    · cases hone
  · rename_i n0 G hG
    split at hone
    · rename_i R hR
      have eR := fm_aeR_ok hone
      subst eR
      have hS := fun m (hm : S * 64 + B ≤ m) => vm_run_ok (cap := vm_cap C T t i q) (xs := xs) (bc := bc) (mm := mm) (P := fun r => ∃ Ra ∈ C.1 t, am_r Ra r) (B := B) hT hbig (fun _ _ _ _ _ _ hc => vm_cap_ok hT hB hA hc) S m hm
      obtain ⟨r, hr, hp⟩ := vm_tl_run (m := n) hT hbig (fun _ _ h => Or.inl h) hG (fun m' a1 a2 => hS m' (by omega)) (by omega) hR hl hs hh
      exact ⟨r, hr, hp.elim (fun q => (vm_mark_no q).elim) (fun q => q)⟩
    · cases hone
  · cases hone
theorem vm_cert_ok (hT : vm_tok mm T) (hbig : ∀ M2 as h Rs, ba M2 as h = some Rs → ∀ cs hc, am_all am_v as cs → am_h h hc → ∃ r, bc M2 cs hc = some r ∧ ∃ Ra ∈ Rs, am_r Ra r) {S : Nat} {C : vm_C} (hall : ∀ i, i < C.2.2.2.1 → vm_one ba T S C i = true) : ∀ k i t a q, C.2.2.2.1 - i ≤ k → i < C.2.2.2.1 → C.2.2.2.2 i = some (t, a, q) → vm_ends xs bc mm (C.1 t) ((S + 1) * 64 * k + 1) a
  | 0, i, _, _, _, h1, h2, _ => by omega
  | k + 1, i, t, a, q, h1, h2, hi => by
    have ih := vm_cert_ok hT hbig hall k
    have e : (S + 1) * 64 * (k + 1) + 1 = (S + 1) * 64 + ((S + 1) * 64 * k + 1) := by
      rw [Nat.mul_add]
      omega
    rw [e]
    exact vm_one_ok hT hbig (by omega) (fun j t a q hj hn hi => ih j t a q (by omega) hn hi) (hall i h2) hi
end Cert
/-! contracts: a method, boxes of its arguments, cells before, and the answers with the cells behind -/
abbrev vm_Q : Type := Nat × List am_V × am_H × List vm_R
def vm_V (xs : List Int32) (d N : Nat) (q : vm_Q) : Prop := ∀ cs hc, am_all am_v q.2.1 cs → am_h q.2.2.1 hc → ∃ r, pm_big xs pm_m N d q.1 cs hc = some r ∧ ∃ Ra ∈ q.2.2.2, am_r Ra r
/-- a contract as a caller uses it: pure (the cells stay, some places by the answer's cells), or some places of objects (class, cell, place) stay -/
abbrev vm_U : Type := vm_Q × Bool × List (Nat × Nat × Nat)
def am_mixo (g h : am_H) (ci c f : Nat) : am_H := match am_cell g (c + 8), am_cell h (c + 8) with
  | some (.inr (.inr (.inr (cj, fs)))), some (.inr (.inr (.inr (ck, gs)))) => (match Nat.beq cj ci && Nat.beq ck ci with
    | true => (match gs[f]? with
      | some v => am_st g (c + 8 - 8) (.inr (.inr (.inr (cj, fs.set f v))))
      | none => g)
    | false => g)
  | _, _ => g
/-- a place of the cells of class ci is the same in both -/
def vm_ob (ci : Nat) (fs : List Value) : pm_C := .inr (.inr (.inr (ci, fs)))
def vm_same (ci f : Nat) (h u : pm_H) : Prop := ∀ (i : Nat) (fs : List Value), h[i]? = some (vm_ob ci fs) → ∃ fs' : List Value, u[i]? = some (vm_ob ci fs') ∧ fs'[f]? = fs[f]?
theorem am_mixo_ok {g h : am_H} {u hc : pm_H} {ci c f : Nat} (hg : am_h g u) (hh : am_h h hc) (hs : vm_same ci f hc u) : am_h (am_mixo g h ci c f) u := by
  unfold am_mixo
  split
  · rename_i cj fs ck gs e1 e2
    split
    · rename_i e3
      rw [Bool.and_eq_true] at e3
      have e4 := Nat.eq_of_beq_eq_true e3.1
      have e5 := Nat.eq_of_beq_eq_true e3.2
      subst e4
      subst e5
      split
      · rename_i v hv
        obtain ⟨D, hD, hcD⟩ := am_cell_ok hg e1
        obtain ⟨m, rfl, hm⟩ := ac_o hcD
        obtain ⟨D2, hD2, hcD2⟩ := am_cell_ok hh e2
        obtain ⟨m2, rfl, hm2⟩ := ac_o hcD2
        obtain ⟨x, hx, hvx⟩ := am_all.get hm2 hv
        refine vm_hset hg e1 hD ⟨rfl, ?_⟩
        unfold pm_cell at hD hD2
        rw [if_neg (by omega)] at hD hD2
        obtain ⟨fs', hf1, hf2⟩ := hs _ _ hD2
        rw [hD] at hf1
        cases hf1
        have h1 := am_all.set (n := f) hm hvx
        rw [vm_set_same (l := m) (i := f) (x := x) (by rw [hf2, hx])] at h1
        exact h1
      · exact hg
    · exact hg
  · exact hg
/-- a place of a row, or of an object, by other cells that describe the same -/
def am_mixa (h g : am_H) (c f : Nat) : am_H := match am_cell h (c + 8), am_cell g (c + 8) with
  | some (.inl (t, l)), some (.inl (_, m)) => (match m[f]? with
    | some v => am_st h (c + 8 - 8) (.inl (t, l.set f v))
    | none => h)
  | _, _ => h
theorem am_mixa_ok {g h : am_H} {u : pm_H} {c f : Nat} (hg : am_h g u) (hh : am_h h u) : am_h (am_mixa h g c f) u := by
  unfold am_mixa
  split
  · rename_i t l t2 m e1 e2
    split
    · rename_i v hv
      obtain ⟨D, hD, hcD⟩ := am_cell_ok hh e1
      obtain ⟨m1, rfl, hm⟩ := ac_i hcD
      obtain ⟨D2, hD2, hcD2⟩ := am_cell_ok hg e2
      obtain ⟨m2, rfl, hm2⟩ := ac_i hcD2
      obtain ⟨x, hx, hvx⟩ := am_all.get hm2 hv
      refine vm_hset hh e1 hD ⟨rfl, ?_⟩
      rw [hD] at hD2
      cases hD2
      have h1 := am_all.set (n := f) hm hvx
      rw [vm_set_same hx] at h1
      exact h1
    · exact hh
  · exact hh
noncomputable def vm_keep (h : am_H) (l : List (Nat × Nat × Nat)) : am_H → am_H := List.rec (motive := fun _ => am_H → am_H) (fun g => g) (fun p _ ih g => ih (am_mixo g h p.1 p.2.1 p.2.2)) l
theorem vm_keep_ok {h : am_H} {u hc : pm_H} (hh : am_h h hc) : ∀ (l : List (Nat × Nat × Nat)) {g : am_H}, (∀ p ∈ l, vm_same p.1 p.2.2 hc u) → am_h g u → am_h (vm_keep h l g) u
  | [], _, _, hg => hg
  | p :: l, g, hl, hg => vm_keep_ok hh l (fun q hq => hl q (List.mem_cons_of_mem _ hq)) (am_mixo_ok hg hh (hl p List.mem_cons_self))
noncomputable def vm_fine (g : am_H) (l : List (Nat × Nat × Nat)) : am_H → am_H := List.rec (motive := fun _ => am_H → am_H) (fun h => h) (fun p _ ih h => ih (am_mixa h g p.2.1 p.2.2)) l
theorem vm_fine_ok {g : am_H} {u : pm_H} (hg : am_h g u) : ∀ (l : List (Nat × Nat × Nat)) {h : am_H}, am_h h u → am_h (vm_fine g l h) u
  | [], _, hh => hh
  | p :: l, _, hh => vm_fine_ok hg l (am_mixa_ok hg hh)
noncomputable def vm_find (K : List vm_U) (M : Nat) (as : List am_V) (h : am_H) : Option vm_U := List.rec (motive := fun _ => Option vm_U) none (fun q _ ih => match Nat.beq q.1.1 M && (leL leV as q.1.2.1 && leH h q.1.2.2.1) with
  | true => some q
  | false => ih) K
theorem vm_find_ok {M : Nat} {as : List am_V} {h : am_H} {q : vm_U} : ∀ {K : List vm_U}, vm_find K M as h = some q → q ∈ K ∧ q.1.1 = M ∧ leL leV as q.1.2.1 = true ∧ leH h q.1.2.2.1 = true
  | [], hq => by cases hq
  | p :: K, hq => by
    have hq1 : (match Nat.beq p.1.1 M && (leL leV as p.1.2.1 && leH h p.1.2.2.1) with
      | true => some p
      | false => vm_find K M as h) = some q := hq
    split at hq1
    · rename_i e
      cases hq1
      simp only [Bool.and_eq_true] at e
      exact ⟨List.mem_cons_self, Nat.eq_of_beq_eq_true e.1, e.2⟩
    · obtain ⟨h1, h2⟩ := vm_find_ok hq1
      exact ⟨List.mem_cons_of_mem _ h1, h2⟩
/-- a call run on the spot: no call in it, one way through -/
noncomputable def vm_inl (N M : Nat) (as : List am_V) (h : am_H) : am_R := match pm_m M with
  | some mm => if am_words as ≤ pm_ml mm then (if as.length = pm_n mm then am_run none pm_m (fun _ _ _ => none) mm (fun _ _ _ _ _ _ => none) N 0 (am_args 0 as) [] h 0 0 else none) else none
  | none => none
noncomputable def vm_ba (N : Nat) (inl : List Nat) (K : List vm_U) : am_B := fun M as h => match vm_any (fun x => Nat.beq x M) inl with
  | true => (match vm_inl N M as h with
    | some R => some [R]
    | none => none)
  | false => (match vm_find K M as h with
    | some q => some (match q.2.1 with
      | true => q.1.2.2.2.map (fun R => (R.1, vm_fine R.2 q.2.2 h))
      | false => q.1.2.2.2.map (fun R => (R.1, vm_keep h q.2.2 R.2)))
    | none => none)
/-- what a caller may rest on -/
def vm_W (xs : List Int32) (d N : Nat) (q : vm_U) : Prop := ∀ cs hc, am_all am_v q.1.2.1 cs → am_h q.1.2.2.1 hc → ∃ r, pm_big xs pm_m N d q.1.1 cs hc = some r ∧ (∃ Ra ∈ q.1.2.2.2, am_r Ra r) ∧ (q.2.1 = true → r.2 = hc) ∧ (q.2.1 = false → ∀ p ∈ q.2.2, vm_same p.1 p.2.2 hc r.2)
theorem vm_inl_ok {xs : List Int32} {d N M : Nat} {as : List am_V} {h : am_H} {R : vm_R} (hk : vm_inl N M as h = some R) {cs : List Value} {hc : pm_H} (hs : am_all am_v as cs) (hh : am_h h hc) : ∃ r, pm_big xs pm_m N (d + 1) M cs hc = some r ∧ am_r R r := by
  unfold vm_inl at hk
  show ∃ r, (match pm_m M with
    | some mm => if pm_words cs ≤ pm_ml mm then (if cs.length = pm_n mm then pm_run xs pm_m (pm_big xs pm_m N d) mm N 0 (lv_args 0 cs) [] hc 0 0 else none) else none
    | none => none) = some r ∧ am_r R r
  split at hk
  · rename_i mm hm
    split at hk
    · rename_i hw
      split at hk
      · rename_i hn
        have hS := at_run (xa := none) (xs := xs) (Pr := am_r) (tab := pm_m) (mm := mm) (ba := fun _ _ _ => none) (bc := pm_big xs pm_m N d) (fun _ q => by cases q) (fun _ _ h => h) (fun _ _ _ _ q => by cases q) (ka := fun _ _ _ _ _ _ => none) (kc := pm_run xs pm_m (pm_big xs pm_m N d) mm 0) (fun _ _ _ _ _ _ _ q => by cases q) N
        rw [pm_runK_eq, Nat.zero_add] at hS
        obtain ⟨r, hr, hp⟩ := hS _ _ _ _ _ _ _ hk (lv_args 0 cs) [] hc (am_args_ok 0 hs) trivial hh
        refine ⟨r, ?_, hp⟩
        rw [if_pos (by rw [show pm_words cs = am_words as from (am_all.sum (fun a b h => am_v.cat h) hs).symm]; exact hw), if_pos (by rw [← hs.len]; exact hn)]
        exact hr
      · cases hk
    · cases hk
  · cases hk
theorem vm_ba_ok {xs : List Int32} {d N : Nat} {inl : List Nat} {K : List vm_U} (hK : ∀ q ∈ K, vm_W xs (d + 1) N q) : ∀ M2 as h Rs, vm_ba N inl K M2 as h = some Rs → ∀ cs hc, am_all am_v as cs → am_h h hc → ∃ r, pm_big xs pm_m N (d + 1) M2 cs hc = some r ∧ ∃ Ra ∈ Rs, am_r Ra r := by
  intro M2 as h Rs hb cs hc hs hh
  unfold vm_ba at hb
  split at hb
  · split at hb
    · rename_i R hR
      cases hb
      obtain ⟨r, hr, hp⟩ := vm_inl_ok (xs := xs) (d := d) hR hs hh
      exact ⟨r, hr, R, List.mem_singleton.mpr rfl, hp⟩
    · cases hb
  · split at hb
    · rename_i q hq
      cases hb
      obtain ⟨h1, h2, h3, h4⟩ := vm_find_ok hq
      subst h2
      obtain ⟨r, hr, ⟨Ra, hRa, hp⟩, hpu, hke⟩ := hK q h1 cs hc (leL_ok (R := am_v) (fun _ _ _ => leV_ok) h3 hs) (leH_ok h4 hh)
      refine ⟨r, hr, ?_⟩
      split
      · rename_i ht
        have e := hpu ht
        refine ⟨_, List.mem_map.mpr ⟨Ra, hRa, rfl⟩, hp.1, ?_⟩
        have hp2 := hp.2
        rw [e] at hp2 ⊢
        exact vm_fine_ok hp2 q.2.2 hh
      · rename_i ht
        exact ⟨_, List.mem_map.mpr ⟨Ra, hRa, rfl⟩, hp.1, vm_keep_ok hh q.2.2 (hke ht) hp.2⟩
    · cases hb
def vm_lim : Nat := 100000000
/-- a contract holds at every depth from L on -/
def vm_at (L : Nat) (q : vm_Q) : Prop := ∀ xs d, L ≤ d → vm_V xs d vm_lim q
def vm_wt (L : Nat) (q : vm_U) : Prop := ∀ xs d, L ≤ d → vm_W xs d vm_lim q
theorem vm_wt.up {L L' : Nat} {q : vm_U} (h : vm_wt L q) (hL : L ≤ L') : vm_wt L' q := fun xs d hd => h xs d (Nat.le_trans hL hd)
theorem vm_at.up {L L' : Nat} {q : vm_Q} (h : vm_at L q) (hL : L ≤ L') : vm_at L' q := fun xs d hd => h xs d (Nat.le_trans hL hd)
theorem vm_at.wt {L : Nat} {q : vm_Q} (h : vm_at L q) : vm_wt L (q, false, []) := fun xs d hd cs hc h1 h2 => by
  obtain ⟨r, hr, hp⟩ := h xs d hd cs hc h1 h2
  refine ⟨r, hr, hp, ?_, ?_⟩
  · intro e
    cases e
  · intro _ p hp
    cases hp
/-- an entry: arguments, cells, the answers' tag, the noted states it comes to -/
abbrev vm_E : Type := List am_V × am_H × Nat × List Nat
noncomputable def vm_ent (mm : pm_M) (C : vm_C) (e : vm_E) : Bool := Nat.ble (am_words e.1) (pm_ml mm) && (Nat.beq e.1.length (pm_n mm) && vm_all (fun s => vm_any (fun j => vm_hit C e.2.2.1 j 0 s.1 [] s.2) e.2.2.2) (vm_cuts (C.2.1 0) (am_args 0 e.1, e.2.1)))
noncomputable def vm_rng (e : Nat → Bool) (lo k : Nat) : Bool := Nat.rec (motive := fun _ => Bool) true (fun j ih => e (lo + j) && ih) k
theorem vm_rng_ok {e : Nat → Bool} {lo : Nat} : ∀ {k : Nat}, vm_rng e lo k = true → ∀ i, lo ≤ i → i < lo + k → e i = true
  | 0, _, i, h1, h2 => by omega
  | k + 1, h, i, h1, h2 => by
    have h3 : e (lo + k) = true ∧ vm_rng e lo k = true := by rw [← Bool.and_eq_true]; exact h
    by_cases q : i = lo + k
    · rw [q]
      exact h3.1
    · exact vm_rng_ok h3.2 i h1 (by omega)
/-- the check of noted states lo to lo + k - 1 -/
noncomputable def vm_chk (T : vm_T) (inl : List Nat) (K : List vm_U) (S : Nat) (C : vm_C) (lo k : Nat) : Bool := vm_rng (vm_one (vm_ba vm_lim inl K) T S C) lo k
noncomputable def vm_ents (M : Nat) (S : Nat) (C : vm_C) (es : List vm_E) : Bool := match pm_m M with
  | some mm => Nat.ble ((S + 1) * 64 * C.2.2.2.1 + 1) vm_lim && vm_all (vm_ent mm C) es
  | none => false
theorem vm_ok {L M S : Nat} {T : vm_T} {inl : List Nat} {K : List vm_U} {C : vm_C} {es : List vm_E} (hT : ∀ mm, pm_m M = some mm → vm_tok mm T) (hL : 1 ≤ L) (hK : ∀ q ∈ K, vm_wt L q) (hes : vm_ents M S C es = true) (hall : ∀ i, i < C.2.2.2.1 → ∃ lo k, lo ≤ i ∧ i < lo + k ∧ vm_chk T inl K S C lo k = true) : ∀ e ∈ es, vm_at (L + 1) (M, e.1, e.2.1, C.1 e.2.2.1) := by
  intro e he xs d hd cs hc hs hh
  obtain ⟨d, rfl⟩ : ∃ d', d = d' + 1 + 1 := ⟨d - 2, by omega⟩
  unfold vm_ents at hes
  split at hes
  · rename_i mm hm
    rw [Bool.and_eq_true] at hes
    have hlim := Nat.le_of_ble_eq_true hes.1
    have hent := vm_all_ok hes.2 e he
    unfold vm_ent at hent
    simp only [Bool.and_eq_true] at hent
    obtain ⟨h1, h2, h3⟩ := hent
    have h1 := Nat.le_of_ble_eq_true h1
    have h2 := Nat.eq_of_beq_eq_true h2
    obtain ⟨s, hs1, q1, q2⟩ := vm_cuts_ok (C.2.1 0) (am_args 0 e.1, e.2.1) (am_args_ok 0 hs) hh
    obtain ⟨j, _, hj⟩ := vm_any_ok (vm_all_ok h3 s hs1)
    have hb := vm_ba_ok (xs := xs) (d := d) (N := vm_lim) (inl := inl) (fun q hq => hK q hq xs (d + 1) (by omega))
    have hone : ∀ i, i < C.2.2.2.1 → vm_one (vm_ba vm_lim inl K) T S C i = true := by
      intro i hi
      obtain ⟨lo, k, a1, a2, a3⟩ := hall i hi
      exact vm_rng_ok a3 i a1 a2
    have hcert := vm_cert_ok (xs := xs) (mm := mm) (hT mm hm) hb hone
    obtain ⟨r, hr, hp⟩ := vm_hit_ok (fun t a q hn hi => hcert C.2.2.2.1 j t a q (by omega) hn hi) hj vm_lim hlim (lv_args 0 cs) [] hc q1 trivial q2
    refine ⟨r, ?_, hp⟩
    show (match pm_m M with
      | some mm => if pm_words cs ≤ pm_ml mm then (if cs.length = pm_n mm then pm_run xs pm_m (pm_big xs pm_m vm_lim (d + 1)) mm vm_lim 0 (lv_args 0 cs) [] hc 0 0 else none) else none
      | none => none) = some r
    rw [hm]
    dsimp only
    rw [if_pos (by rw [show pm_words cs = am_words e.1 from (am_all.sum (fun a b h => am_v.cat h) hs).symm]; exact h1), if_pos (by rw [← hs.len]; exact h2)]
    exact hr
  · cases hes
/-- a row with another box at a place -/
noncomputable def fm_mod (C : am_C) (p b : am_I) : am_C := match C with
  | .inl (t, l) => (match fm_ix p with
    | some n => .inl (t, vm_set b l n)
    | none => .inl (t, l))
  | C => C
/-! noted states, packed: digits of a number, base 2 to the power w -/
def vm_dg (N w k : Nat) : Nat := Nat.mod (Nat.div N (Nat.pow 2 (Nat.mul w k))) (Nat.pow 2 w)
noncomputable def vm_dgs (N w k : Nat) : Nat → List Nat := Nat.rec (motive := fun _ => Nat → List Nat) (fun _ => []) (fun _ ih i => vm_dg N w i :: ih (Nat.add i 1)) k
noncomputable def vm_tb (t0 : Nat) (tb : List (List am_I)) (c : Nat) : am_I := match Nat.ble t0 c with
  | false => (.ofNat c, .ofNat c)
  | true => (match vm_nth tb (Nat.div (Nat.sub c t0) 8) with
    | some l => (match vm_nth l (Nat.mod (Nat.sub c t0) 8) with
      | some b => b
      | none => (.ofNat 0, .ofNat 0))
    | none => (.ofNat 0, .ofNat 0))
noncomputable def vm_inst (w t0 : Nat) (tb : List (List am_I)) (fams : List ((Nat → am_I) → vm_A)) (data : List (List (List (List Nat)))) (i : Nat) : Option vm_N := match vm_nth data (Nat.div i 512) with
  | none => none
  | some a => (match vm_nth a (Nat.mod (Nat.div i 64) 8) with
    | none => none
    | some a => (match vm_nth a (Nat.mod (Nat.div i 8) 8) with
      | none => none
      | some b => (match vm_nth b (Nat.mod i 8) with
        | none => none
        | some N => (match vm_nth fams (vm_dg N w 0) with
          | none => none
          | some f => some (vm_dg N w 1, f (fun k => vm_tb t0 tb (vm_dg N w (Nat.add (Nat.add 3 (vm_dg N w 2)) k))), vm_dgs N w (vm_dg N w 2) 3)))))
theorem vm_kn {P : vm_U → Prop} : ∀ q ∈ ([] : List vm_U), P q := fun _ h => by cases h
theorem vm_kc {P : vm_U → Prop} {p : vm_U} {l : List vm_U} (h : P p) (hl : ∀ q ∈ l, P q) : ∀ q ∈ p :: l, P q := fun q hq => by
  rcases List.mem_cons.mp hq with rfl | hq
  · exact h
  · exact hl q hq
theorem vm_hc {T : vm_T} {inl : List Nat} {K : List vm_U} {S : Nat} {C : vm_C} {i n lo k : Nat} (h : vm_chk T inl K S C lo k = true) (e : lo + k = n) (hl : i < lo → ∃ lo k, lo ≤ i ∧ i < lo + k ∧ vm_chk T inl K S C lo k = true) : i < n → ∃ lo k, lo ≤ i ∧ i < lo + k ∧ vm_chk T inl K S C lo k = true := fun hi => by
  by_cases q : i < lo
  · exact hl q
  · exact ⟨lo, k, by omega, by omega, h⟩
