/-! THE INTERVAL MACHINE is sound for the pure machine: relations, numbers. -/
def am_i (a : am_I) (x : Int32) : Prop := a.1 ≤ x.toInt ∧ x.toInt ≤ a.2
def am_l (a : am_I) (x : Int64) : Prop := a.1 ≤ x.toInt ∧ x.toInt ≤ a.2
def am_v : am_V → Value → Prop
  | .inl a, .int x => am_i a x
  | .inr (.inl a), .long x => am_l a x
  | .inr (.inr (some q)), .ref z => q = z
  | .inr (.inr none), .null => True
  | _, _ => False
def am_all {α β : Type} (R : α → β → Prop) : List α → List β → Prop
  | [], [] => True
  | a :: l, b :: m => R a b ∧ am_all R l m
  | _, _ => False
def am_c : am_C → pm_C → Prop
  | .inl (t, l), .inl (u, m) => t = u ∧ am_all am_i l m
  | .inr (.inl (t, l)), .inr (.inl (u, m)) => t = u ∧ am_all am_l l m
  | .inr (.inr (.inl (t, l))), .inr (.inr (.inl (u, m))) => t = u ∧ l = m
  | .inr (.inr (.inr (t, l))), .inr (.inr (.inr (u, m))) => t = u ∧ am_all am_v l m
  | _, _ => False
def am_h (ha : am_H) (h : pm_H) : Prop := ha.1 = h.length ∧ ∀ (i : Nat) (C : am_C), am_g ha i = some C → ∃ D, h[i]? = some D ∧ am_c C D
def am_q (p : Nat × am_V) (q : Nat × Value) : Prop := p.1 = q.1 ∧ am_v p.2 q.2
def am_o : Option am_V → Option Value → Prop
  | none, none => True
  | some a, some v => am_v a v
  | _, _ => False
def am_r (R : Option am_V × am_H) (r : Option Value × pm_H) : Prop := am_o R.1 r.1 ∧ am_h R.2 r.2
section All
variable {α β : Type} {R : α → β → Prop}
theorem am_all.len : ∀ {l : List α} {m : List β}, am_all R l m → l.length = m.length
  | [], [], _ => rfl
  | a :: l, b :: m, h => by rw [List.length_cons, List.length_cons, am_all.len h.2]
  | [], _ :: _, h => h.elim
  | _ :: _, [], h => h.elim
theorem am_all.get : ∀ {l : List α} {m : List β} {n : Nat} {a : α}, am_all R l m → l[n]? = some a → ∃ b, m[n]? = some b ∧ R a b
  | [], [], _, _, _, h => by simp at h
  | a :: l, b :: m, 0, _, h, e => by cases e; exact ⟨b, rfl, h.1⟩
  | a :: l, b :: m, n + 1, _, h, e => am_all.get (n := n) h.2 e
  | [], _ :: _, _, _, h, _ => h.elim
  | _ :: _, [], _, _, h, _ => h.elim
theorem am_all.set : ∀ {l : List α} {m : List β} {n : Nat} {a : α} {b : β}, am_all R l m → R a b → am_all R (l.set n a) (m.set n b)
  | [], [], _, _, _, _, _ => trivial
  | a :: l, b :: m, 0, _, _, h, r => ⟨r, h.2⟩
  | a :: l, b :: m, n + 1, _, _, h, r => ⟨h.1, am_all.set (n := n) h.2 r⟩
  | [], _ :: _, _, _, _, h, _ => h.elim
  | _ :: _, [], _, _, _, h, _ => h.elim
theorem am_all.app : ∀ {l l2 : List α} {m m2 : List β}, am_all R l m → am_all R l2 m2 → am_all R (l ++ l2) (m ++ m2)
  | [], _, [], _, _, h2 => h2
  | a :: l, _, b :: m, _, h, h2 => ⟨h.1, am_all.app h.2 h2⟩
  | [], _, _ :: _, _, h, _ => h.elim
  | _ :: _, _, [], _, h, _ => h.elim
theorem am_all.rep {a : α} {b : β} (h : R a b) : ∀ n, am_all R (List.replicate n a) (List.replicate n b)
  | 0 => trivial
  | n + 1 => ⟨h, am_all.rep h n⟩
theorem am_all.take : ∀ {l : List α} {m : List β} (n : Nat), am_all R l m → am_all R (l.take n) (m.take n)
  | [], [], 0, _ => trivial
  | [], [], _ + 1, _ => trivial
  | a :: l, b :: m, 0, _ => trivial
  | a :: l, b :: m, n + 1, h => ⟨h.1, am_all.take n h.2⟩
  | [], _ :: _, _, h => h.elim
  | _ :: _, [], _, h => h.elim
theorem am_all.drop : ∀ {l : List α} {m : List β} (n : Nat), am_all R l m → am_all R (l.drop n) (m.drop n)
  | [], [], 0, _ => trivial
  | [], [], _ + 1, _ => trivial
  | a :: l, b :: m, 0, h => h
  | a :: l, b :: m, n + 1, h => am_all.drop n h.2
  | [], _ :: _, _, h => h.elim
  | _ :: _, [], _, h => h.elim
theorem am_all.rev : ∀ {l : List α} {m : List β}, am_all R l m → am_all R l.reverse m.reverse
  | [], [], _ => trivial
  | a :: l, b :: m, h => by
    rw [List.reverse_cons, List.reverse_cons]
    exact am_all.app (am_all.rev h.2) ⟨h.1, trivial⟩
  | [], _ :: _, h => h.elim
  | _ :: _, [], h => h.elim
theorem am_all.filt {P : α → Bool} {Q : β → Bool} (hPQ : ∀ a b, R a b → P a = Q b) : ∀ {l : List α} {m : List β}, am_all R l m → am_all R (l.filter P) (m.filter Q)
  | [], [], _ => trivial
  | a :: l, b :: m, h => by
    have e := hPQ a b h.1
    rw [List.filter_cons, List.filter_cons, e]
    cases Q b
    · exact am_all.filt hPQ h.2
    · exact ⟨h.1, am_all.filt hPQ h.2⟩
  | [], _ :: _, h => h.elim
  | _ :: _, [], h => h.elim
theorem am_all.sum {f : α → Nat} {g : β → Nat} (hfg : ∀ a b, R a b → f a = g b) : ∀ {l : List α} {m : List β}, am_all R l m → (l.map f).sum = (m.map g).sum
  | [], [], _ => rfl
  | a :: l, b :: m, h => by rw [List.map_cons, List.map_cons, List.sum_cons, List.sum_cons, hfg a b h.1, am_all.sum hfg h.2]
  | [], _ :: _, h => h.elim
  | _ :: _, [], h => h.elim
end All
theorem am_v.cat {a : am_V} {v : Value} (h : am_v a v) : am_cat a = v.category := by
  unfold am_v at h
  split at h
  · rfl
  · rfl
  · rfl
  · rfl
  · exact h.elim
theorem av_i {a : am_I} {r : List am_V} {st : List Value} (h : am_all am_v (.inl a :: r) st) : ∃ x st', st = .int x :: st' ∧ am_i a x ∧ am_all am_v r st' := by
  cases st with
  | nil => exact h.elim
  | cons v st =>
    cases v with
    | int x => exact ⟨x, st, rfl, h.1, h.2⟩
    | _ => exact h.1.elim
theorem av_l {a : am_I} {r : List am_V} {st : List Value} (h : am_all am_v (.inr (.inl a) :: r) st) : ∃ x st', st = .long x :: st' ∧ am_l a x ∧ am_all am_v r st' := by
  cases st with
  | nil => exact h.elim
  | cons v st =>
    cases v with
    | long x => exact ⟨x, st, rfl, h.1, h.2⟩
    | _ => exact h.1.elim
theorem av_r {a : Nat} {r : List am_V} {st : List Value} (h : am_all am_v (.inr (.inr (some a)) :: r) st) : ∃ st', st = .ref a :: st' ∧ True ∧ am_all am_v r st' := by
  cases st with
  | nil => exact h.elim
  | cons v st =>
    cases v with
    | ref x => exact ⟨st, by rw [show a = x from h.1], trivial, h.2⟩
    | _ => exact h.1.elim
theorem av_c {a : am_V} {r : List am_V} {st : List Value} (h : am_all am_v (a :: r) st) : ∃ x st', st = x :: st' ∧ am_v a x ∧ am_all am_v r st' := by
  cases st with
  | nil => exact h.elim
  | cons v st => exact ⟨v, st, rfl, h.1, h.2⟩
theorem av_n {st : List Value} (h : am_all am_v [] st) : st = [] := by
  cases st with
  | nil => rfl
  | cons v st => exact h.elim
theorem am_look : ∀ {lva : am_L} {lv : pm_L} {i : Nat} {a : am_V}, am_all am_q lva lv → lva.lookup i = some a → ∃ v, lv.lookup i = some v ∧ am_v a v
  | [], [], _, _, _, h => by cases h
  | (j, b) :: lva, (j2, w) :: lv, i, a, hl, h => by
    obtain ⟨⟨e, hv⟩, hl⟩ := hl
    have e : j = j2 := e
    subst e
    rw [List.lookup_cons] at h ⊢
    cases hb : i == j with
    | true => rw [hb] at h; cases h; exact ⟨w, rfl, hv⟩
    | false => rw [hb] at h; exact am_look hl h
  | [], _ :: _, _, _, h, _ => h.elim
  | _ :: _, [], _, _, h, _ => h.elim
theorem am_ins_ok {i : Nat} {a : am_V} {v : Value} (h : am_v a v) : ∀ {lva : am_L} {lv : pm_L}, am_all am_q lva lv → am_all am_q (pm_plc i a lva) (pm_plc i v lv)
  | [], [], _ => ⟨⟨rfl, h⟩, trivial⟩
  | p :: lva, q :: lv, hl => by
    have e : p.1 = q.1 := hl.1.1
    unfold pm_plc
    by_cases hq : q.1 < i
    · rw [if_pos (by rw [e]; exact hq), if_pos hq]
      exact ⟨hl.1, am_ins_ok h hl.2⟩
    · rw [if_neg (by rw [e]; exact hq), if_neg hq]
      exact ⟨⟨rfl, h⟩, hl⟩
  | [], _ :: _, h => h.elim
  | _ :: _, [], h => h.elim
theorem am_s1_ok {lva : am_L} {lv : pm_L} {i : Nat} {a : am_V} {v : Value} (hl : am_all am_q lva lv) (h : am_v a v) : am_all am_q (am_s1 lva i a) (pm_s1 lv i v) := by
  refine am_ins_ok h (am_all.filt (fun p q h => ?_) hl)
  rw [h.1, h.2.cat]
theorem am_s2_ok {lva : am_L} {lv : pm_L} {i : Nat} {a : am_V} {v : Value} (hl : am_all am_q lva lv) (h : am_v a v) : am_all am_q (am_s2 lva i a) (pm_s2 lv i v) := by
  refine am_ins_ok h (am_all.filt (fun p q h => ?_) hl)
  rw [h.1, h.2.cat]
theorem am_cell_ok {ha : am_H} {h : pm_H} {a : Nat} {C : am_C} (hh : am_h ha h) (hc : am_cell ha a = some C) : ∃ D, pm_cell h a = some D ∧ am_c C D := by
  unfold am_cell at hc
  unfold pm_cell
  split at hc
  · cases hc
  · rename_i hn
    rw [if_neg hn]
    exact hh.2 _ _ hc
theorem am_up_self (i : Nat) (C : am_C) : ∀ l : List (Nat × am_C), (am_up i C l).lookup i = some C
  | [] => by
    show List.lookup i [(i, C)] = some C
    rw [List.lookup_cons, beq_self_eq_true]
  | q :: r => by
    unfold am_up
    by_cases hq : q.1 = i
    · rw [if_pos hq, List.lookup_cons, beq_self_eq_true]
    · rw [if_neg hq, show q = (q.1, q.2) from rfl, List.lookup_cons, beq_eq_false_iff_ne.mpr (Ne.symm hq)]
      exact am_up_self i C r
theorem am_up_ne {i j : Nat} (C : am_C) (h : j ≠ i) : ∀ l : List (Nat × am_C), (am_up i C l).lookup j = l.lookup j
  | [] => by
    show List.lookup j [(i, C)] = List.lookup j []
    rw [List.lookup_cons, beq_eq_false_iff_ne.mpr h]
  | q :: r => by
    unfold am_up
    by_cases hq : q.1 = i
    · rw [if_pos hq, List.lookup_cons, beq_eq_false_iff_ne.mpr h, show q = (q.1, q.2) from rfl, List.lookup_cons, beq_eq_false_iff_ne.mpr (by rw [hq]; exact h)]
    · rw [if_neg hq, show q = (q.1, q.2) from rfl, List.lookup_cons, List.lookup_cons, am_up_ne C h r]
theorem am_hset {ha : am_H} {h : pm_H} {a : Nat} {C0 C : am_C} {D : pm_C} (hh : am_h ha h) (h0 : am_cell ha a = some C0) (hc : am_c C D) : am_h (am_st ha (a - 8) C) (h.set (a - 8) D) := by
  unfold am_cell at h0
  split at h0
  · cases h0
  · generalize a - 8 = i at h0
    obtain ⟨D0, hD0, -⟩ := hh.2 i C0 h0
    have hi : i < h.length := (List.getElem?_eq_some_iff.mp hD0).1
    refine ⟨by rw [List.length_set]; exact hh.1, ?_⟩
    intro j E hE
    unfold am_g at hE
    have hE : (if j < ha.1 then (match (am_up i C ha.2).lookup j with
      | some C => some C
      | none => am_base j) else none) = some E := hE
    by_cases hj : j = i
    · subst hj
      rw [if_pos (by rw [hh.1]; exact hi), am_up_self] at hE
      cases hE
      exact ⟨D, List.getElem?_set_self hi, hc⟩
    · rw [am_up_ne C hj] at hE
      rw [List.getElem?_set_ne (Ne.symm hj)]
      exact hh.2 j E hE
theorem am_push {ha ha' : am_H} {h : pm_H} {C : am_C} {D : pm_C} (hh : am_h ha h) (hp : am_ps ha C = some ha') (hc : am_c C D) : am_h ha' (h ++ [D]) := by
  have hn : ha.1 = h.length := hh.1
  have old : ∀ (j : Nat) (E : am_C), am_g ha j = some E → ∃ D', (h ++ [D])[j]? = some D' ∧ am_c E D' := by
    intro j E hE
    obtain ⟨D', h1, h2⟩ := hh.2 j E hE
    exact ⟨D', by rw [List.getElem?_append_left (List.getElem?_eq_some_iff.mp h1).1]; exact h1, h2⟩
  have new : (h ++ [D])[ha.1]? = some D := by
    rw [hn, List.getElem?_append_right (Nat.le_refl _), Nat.sub_self]
    rfl
  unfold am_ps at hp
  cases hp
  refine ⟨by rw [List.length_append, ← hn]; rfl, ?_⟩
  intro j E hE
  unfold am_g at hE
  have hE : (if j < ha.1 + 1 then (match (am_up ha.1 C ha.2).lookup j with
    | some C => some C
    | none => am_base j) else none) = some E := hE
  by_cases hj : j = ha.1
  · subst hj
    rw [if_pos (by omega), am_up_self] at hE
    cases hE
    exact ⟨D, new, hc⟩
  · rw [am_up_ne C hj] at hE
    refine old j E ?_
    unfold am_g
    by_cases hl : j < ha.1
    · rw [if_pos hl]
      rw [if_pos (by omega)] at hE
      exact hE
    · rw [if_neg (by omega)] at hE
      cases hE
theorem ac_i {t : Nat} {l : List am_I} {D : pm_C} (h : am_c (.inl (t, l)) D) : ∃ m, D = .inl (t, m) ∧ am_all am_i l m := by
  match D, h with
  | .inl (u, m), h => exact ⟨m, by rw [show t = u from h.1], h.2⟩
  | .inr (.inl _), h => exact h.elim
  | .inr (.inr (.inl _)), h => exact h.elim
  | .inr (.inr (.inr _)), h => exact h.elim
theorem ac_l {t : Nat} {l : List am_I} {D : pm_C} (h : am_c (.inr (.inl (t, l))) D) : ∃ m, D = .inr (.inl (t, m)) ∧ am_all am_l l m := by
  match D, h with
  | .inl _, h => exact h.elim
  | .inr (.inl (u, m)), h => exact ⟨m, by rw [show t = u from h.1], h.2⟩
  | .inr (.inr (.inl _)), h => exact h.elim
  | .inr (.inr (.inr _)), h => exact h.elim
theorem ac_r {t : Nat} {l : List (Option Nat)} {D : pm_C} (h : am_c (.inr (.inr (.inl (t, l)))) D) : D = .inr (.inr (.inl (t, l))) := by
  match D, h with
  | .inl _, h => exact h.elim
  | .inr (.inl _), h => exact h.elim
  | .inr (.inr (.inl (u, m))), h => rw [show t = u from h.1, show l = m from h.2]
  | .inr (.inr (.inr _)), h => exact h.elim
theorem ac_o {t : Nat} {l : List am_V} {D : pm_C} (h : am_c (.inr (.inr (.inr (t, l)))) D) : ∃ m, D = .inr (.inr (.inr (t, m))) ∧ am_all am_v l m := by
  match D, h with
  | .inl _, h => exact h.elim
  | .inr (.inl _), h => exact h.elim
  | .inr (.inr (.inl _)), h => exact h.elim
  | .inr (.inr (.inr (u, m))), h => exact ⟨m, by rw [show t = u from h.1], h.2⟩
/-! numbers -/
theorem am_i.sg (x : Int32) : am_i (x.toInt, x.toInt) x := ⟨Int.le_refl _, Int.le_refl _⟩
theorem am_l.sg (x : Int64) : am_l (x.toInt, x.toInt) x := ⟨Int.le_refl _, Int.le_refl _⟩
theorem am_i.of {a : am_I} {x : Int32} (h : am_i a x) (e : a.1 = a.2) : x = Int32.ofInt a.1 := by
  have : x.toInt = a.1 := by have h1 := h.1; have h2 := h.2; omega
  rw [← this, Int32.ofInt_toInt]
theorem am_l.of {a : am_I} {x : Int64} (h : am_l a x) (e : a.1 = a.2) : x = Int64.ofInt a.1 := by
  have : x.toInt = a.1 := by have h1 := h.1; have h2 := h.2; omega
  rw [← this, Int64.ofInt_toInt]
theorem am_i.rng (x : Int32) : -2147483648 ≤ x.toInt ∧ x.toInt ≤ 2147483647 := by
  have h1 := Int32.le_toInt x
  have h2 := Int32.toInt_lt x
  omega
theorem am_i.top (x : Int32) : am_i am_top x := am_i.rng x
theorem am_l.top (x : Int64) : am_l am_topl x := by
  have h1 := Int64.le_toInt x
  have h2 := Int64.toInt_lt x
  exact ⟨by show (-9223372036854775808 : Int) ≤ _; omega, by show _ ≤ (9223372036854775807 : Int); omega⟩
theorem am_b_ok (f : Int32 → Int32 → Int32) {a b : am_I} {x y : Int32} (hx : am_i a x) (hy : am_i b y) : am_i (am_b f a b) (f x y) := by
  unfold am_b
  split
  · rename_i h
    rw [hx.of h.1, hy.of h.2]
    exact am_i.sg _
  · exact am_i.top _
theorem am_bl_ok (f : Int64 → Int64 → Int64) {a b : am_I} {x y : Int64} (hx : am_l a x) (hy : am_l b y) : am_l (am_bl f a b) (f x y) := by
  unfold am_bl
  split
  · rename_i h
    rw [hx.of h.1, hy.of h.2]
    exact am_l.sg _
  · exact am_l.top _
theorem am_addl_ok {a b : am_I} {x y : Int64} (hx : am_l a x) (hy : am_l b y) : am_l (am_addl a b) (x + y) := by
  unfold am_addl
  split
  · rename_i hq
    have e : (x + y).toInt = x.toInt + y.toInt := by
      rw [Int64.toInt_add]
      have h1 := hx.1
      have h2 := hx.2
      have h3 := hy.1
      have h4 := hy.2
      exact Int.bmod_eq_of_le (by omega) (by omega)
    have h1 := hx.1
    have h2 := hx.2
    have h3 := hy.1
    have h4 := hy.2
    refine ⟨?_, ?_⟩
    · rw [e]
      show a.1 + b.1 ≤ _
      omega
    · rw [e]
      show _ ≤ a.2 + b.2
      omega
  · exact am_bl_ok _ hx hy
theorem am_u_ok (f : Int32 → Int32) {a : am_I} {x : Int32} (hx : am_i a x) : am_i (am_u f a) (f x) := by
  unfold am_u
  split
  · rename_i h
    rw [hx.of h]
    exact am_i.sg _
  · exact am_i.top _
theorem am_nrm_ok {lo hi : Int} {z : Int32} {w : Int} (hz : z.toInt = w.bmod 4294967296) (h1 : lo ≤ w) (h2 : w ≤ hi) : am_i (am_nrm lo hi) z := by
  have hr := am_i.rng z
  have hm : z.toInt = w % 4294967296 ∨ z.toInt = w % 4294967296 - 4294967296 := by
    rw [hz]
    unfold Int.bmod
    dsimp only
    split
    · exact Or.inl rfl
    · exact Or.inr rfl
  have hq : ∃ q : Int, z.toInt = w - 4294967296 * q := by
    rcases hm with hm | hm
    · exact ⟨w / 4294967296, by omega⟩
    · exact ⟨w / 4294967296 + 1, by omega⟩
  obtain ⟨q, hq⟩ := hq
  unfold am_nrm am_i
  split
  · refine ⟨?_, ?_⟩
    · show lo ≤ _
      omega
    · show _ ≤ hi
      omega
  · split
    · refine ⟨?_, ?_⟩
      · show lo + 4294967296 ≤ _
        omega
      · show _ ≤ hi + 4294967296
        omega
    · split
      · refine ⟨?_, ?_⟩
        · show lo - 4294967296 ≤ _
          omega
        · show _ ≤ hi - 4294967296
          omega
      · exact hr
theorem am_add_ok {a b : am_I} {x y : Int32} (hx : am_i a x) (hy : am_i b y) : am_i (am_add a b) (x + y) := am_nrm_ok (Int32.toInt_add x y) (by have h1 := hx.1; have h2 := hy.1; omega) (by have h1 := hx.2; have h2 := hy.2; omega)
theorem am_sub_ok {a b : am_I} {x y : Int32} (hx : am_i a x) (hy : am_i b y) : am_i (am_sub a b) (x - y) := am_nrm_ok (Int32.toInt_sub x y) (by have h1 := hx.1; have h2 := hy.2; omega) (by have h1 := hx.2; have h2 := hy.1; omega)
theorem am_neg_ok {a : am_I} {x : Int32} (hx : am_i a x) : am_i (am_neg a) (-x) := am_nrm_ok (Int32.toInt_neg x) (by have h1 := hx.2; omega) (by have h1 := hx.1; omega)
theorem am_msk (x : Int32) {m : Int32} (k : Nat) (hm : m.toBitVec.toNat = 2 ^ k - 1) (hk : k ≤ 30) {hi : Int} (hhi : (2 ^ k : Nat) - 1 ≤ hi) : am_i (0, hi) (x &&& m) := by
  obtain ⟨j, hj, e⟩ := pk_andE x (m := m) k hm
  have hb : 2 ^ k ≤ 2 ^ 30 := Nat.pow_le_pow_right (by decide) hk
  have e2 : (nI j).toInt = (j : Int) := nI_toInt (by omega)
  rw [e]
  unfold am_i
  rw [e2]
  refine ⟨?_, ?_⟩
  · show (0 : Int) ≤ _
    omega
  · show _ ≤ hi
    omega
theorem am_and_ok {a b : am_I} {x y : Int32} (hx : am_i a x) (hy : am_i b y) : am_i (am_and a b) (x &&& y) := by
  unfold am_and
  split
  · exact am_b_ok (fun x y => x &&& y) hx hy
  · split
    · rename_i e
      subst e
      rw [show y = 63 from hy.of rfl]
      exact am_msk x 6 (by decide) (by decide) (by decide)
    · split
      · rename_i e
        subst e
        rw [show y = 3 from hy.of rfl]
        exact am_msk x 2 (by decide) (by decide) (by decide)
      · split
        · rename_i e
          subst e
          rw [show y = 1 from hy.of rfl]
          exact am_msk x 1 (by decide) (by decide) (by decide)
        · split
          · rename_i e
            subst e
            rw [show y = 32767 from hy.of rfl]
            exact am_msk x 15 (by decide) (by decide) (by decide)
          · exact am_i.top _
theorem am_nn {x : Int32} (h : 0 ≤ x.toInt) : ∃ j : Nat, j < 2 ^ 31 ∧ x = nI j ∧ x.toInt = (j : Int) := by
  obtain ⟨j, hj, e⟩ := nI_of (x := x) (by rw [Int32.lt_iff_toInt_lt]; show ¬ x.toInt < 0; omega)
  exact ⟨j, hj, e, by rw [e]; exact nI_toInt hj⟩
theorem am_mul_ok {a b : am_I} {x y : Int32} (hx : am_i a x) (hy : am_i b y) : am_i (am_mul a b) (x * y) := by
  unfold am_mul
  split
  · rename_i h
    have h1 := hx.1
    have h2 := hx.2
    have h3 := hy.1
    have h4 := hy.2
    obtain ⟨j, -, ex, tx⟩ := am_nn (x := x) (by omega)
    obtain ⟨k, -, ey, ty⟩ := am_nn (x := y) (by omega)
    have hj : j ≤ 32767 := by omega
    have hk : k ≤ 32767 := by omega
    have hjk : j * k ≤ 32767 * 32767 := Nat.mul_le_mul hj hk
    rw [ex, ey, pk_mul]
    have e : (nI (j * k)).toInt = ((j * k : Nat) : Int) := nI_toInt (by omega)
    unfold am_i
    rw [e]
    refine ⟨?_, ?_⟩
    · show a.1 * b.1 ≤ ((j * k : Nat) : Int)
      rw [Int.natCast_mul]
      exact Int.mul_le_mul (by omega) (by omega) h.2.1 (by omega)
    · show ((j * k : Nat) : Int) ≤ a.2 * b.2
      rw [Int.natCast_mul]
      exact Int.mul_le_mul (by omega) (by omega) (by omega) (by omega)
  · exact am_b_ok (fun x y => x * y) hx hy
theorem am_rem_ok {a b : am_I} {x y : Int32} (hx : am_i a x) (hy : am_i b y) : am_i (am_rem a b) (x - x / y * y) := by
  unfold am_rem
  split
  · exact am_b_ok (fun x y => x - x / y * y) hx hy
  · split
    · rename_i h
      have h1 := hx.1
      have h2 := hx.2
      have h3 := hy.1
      have h4 := hy.2
      obtain ⟨j, hj, ex, tx⟩ := am_nn (x := x) (by omega)
      obtain ⟨k, hk, ey, ty⟩ := am_nn (x := y) (by omega)
      have hk0 : 0 < k := by omega
      rw [ex, ey, pk_rem hj hk0 hk]
      have hl := Nat.mod_lt j hk0
      have hl2 := Nat.mod_le j k
      generalize j % k = q at hl hl2 ⊢
      have e : (nI q).toInt = ((q : Nat) : Int) := nI_toInt (by omega)
      unfold am_i
      rw [e]
      refine ⟨?_, ?_⟩
      · show (0 : Int) ≤ _
        omega
      · show _ ≤ (if a.2 ≤ b.2 - 1 then a.2 else b.2 - 1)
        split <;> omega
    · exact am_i.top _
theorem am_div_ok {a b : am_I} {x y : Int32} (hx : am_i a x) (hy : am_i b y) : am_i (am_div a b) (x / y) := by
  unfold am_div
  split
  · exact am_b_ok (fun x y => x / y) hx hy
  · split
    · rename_i h
      have h1 := hx.1
      have h2 := hx.2
      have h3 := hy.1
      have h4 := hy.2
      obtain ⟨j, hj, ex, tx⟩ := am_nn (x := x) (by omega)
      obtain ⟨k, hk, ey, ty⟩ := am_nn (x := y) (by omega)
      have hk0 : 0 < k := by omega
      rw [ex, ey, pk_div hj hk0 hk]
      have hl := Nat.div_mul_le_self j k
      have hq0 := Nat.div_le_self j k
      generalize j / k = q at hl hq0 ⊢
      have e : (nI q).toInt = ((q : Nat) : Int) := nI_toInt (by omega)
      unfold am_i
      rw [e]
      refine ⟨?_, ?_⟩
      · show (0 : Int) ≤ _
        omega
      · show _ ≤ a.2 / b.1
        refine Int.le_ediv_of_mul_le (by omega) ?_
        have h5 : (q : Int) * b.1 ≤ (q : Int) * (k : Int) := Int.mul_le_mul_of_nonneg_left (by omega) (by omega)
        have h6 : ((q * k : Nat) : Int) ≤ (j : Int) := by exact_mod_cast hl
        rw [Int.natCast_mul] at h6
        omega
    · exact am_i.top _
theorem am_ix_ok {a : am_I} {n : Nat} {x : Int32} (h : am_ix a = some n) (hx : am_i a x) : ¬ x < 0 ∧ x.toNatClampNeg = n := by
  unfold am_ix at h
  split at h
  · rename_i e
    cases h
    have e1 : x.toInt = a.1 := by have h1 := hx.1; have h2 := hx.2; omega
    refine ⟨?_, ?_⟩
    · rw [Int32.lt_iff_toInt_lt, e1]
      show ¬ a.1 < 0
      omega
    · show x.toInt.toNat = _
      rw [e1]
  · cases h
theorem am_fit_ok {ty : FieldType} {a : am_V} {v : Value} (h : am_fit ty a = true) (hv : am_v a v) : pm_fit ty v = true := by
  unfold am_fit at h
  split at h
  · rename_i a
    cases v with
    | int x => rfl
    | _ => exact hv.elim
  · rename_i a
    cases v with
    | long x => rfl
    | _ => exact hv.elim
  · rename_i a
    cases v with
    | int x =>
      rw [Bool.and_eq_true] at h
      have q1 := of_decide_eq_true h.1
      have q2 := of_decide_eq_true h.2
      have hx : am_i a x := hv
      have h1 := hx.1
      have h2 := hx.2
      have e : x.toInt = 0 ∨ x.toInt = 1 := by omega
      rcases e with e | e
      · have : x = 0 := Int32.toInt_inj.mp (by rw [e]; rfl)
        subst this
        rfl
      · have : x = 1 := Int32.toInt_inj.mp (by rw [e]; rfl)
        subst this
        rfl
    | _ => exact hv.elim
  · rename_i n q
    cases v with
    | ref x => rfl
    | _ => exact hv.elim
  · rename_i n q
    cases v with
    | ref x => rfl
    | _ => exact hv.elim
  · cases h
theorem am_ne0 {a : am_I} {x : Int32} (hx : am_i a x) (h : a.2 < 0 ∨ 0 < a.1) : ¬ x = 0 := by
  intro e
  subst e
  have h1 : a.1 ≤ 0 := hx.1
  have h2 : 0 ≤ a.2 := hx.2
  omega
theorem am_ne0l {a : am_I} {x : Int64} (hx : am_l a x) (h : a.2 < 0 ∨ 0 < a.1) : ¬ x = 0 := by
  intro e
  subst e
  have h1 : a.1 ≤ 0 := hx.1
  have h2 : 0 ≤ a.2 := hx.2
  omega
theorem am_cmp_ok {a b : am_I} {x y : Int64} (hx : am_l a x) (hy : am_l b y) : am_i (am_cmp a b) (lg_cmp x y) := by
  have h1 := hx.1
  have h2 := hx.2
  have h3 := hy.1
  have h4 := hy.2
  unfold am_cmp am_i lg_cmp
  by_cases hg : y < x
  · have hg1 := Int64.lt_iff_toInt_lt.mp hg
    rw [if_pos hg]
    refine ⟨?_, ?_⟩
    · show (if b.2 < a.1 then 1 else if b.2 ≤ a.1 then 0 else -1) ≤ (1 : Int)
      split
      · omega
      · split <;> omega
    · show (1 : Int) ≤ (if a.2 < b.1 then -1 else if a.2 ≤ b.1 then 0 else 1)
      split
      · omega
      · split <;> omega
  · have hg1 : ¬ y.toInt < x.toInt := fun q => hg (Int64.lt_iff_toInt_lt.mpr q)
    rw [if_neg hg]
    by_cases he : x = y
    · subst he
      rw [if_pos rfl]
      refine ⟨?_, ?_⟩
      · show (if b.2 < a.1 then 1 else if b.2 ≤ a.1 then 0 else -1) ≤ (0 : Int)
        split
        · omega
        · split <;> omega
      · show (0 : Int) ≤ (if a.2 < b.1 then -1 else if a.2 ≤ b.1 then 0 else 1)
        split
        · omega
        · split <;> omega
    · have he1 : ¬ x.toInt = y.toInt := fun q => he (Int64.toInt_inj.mp q)
      rw [if_neg he]
      refine ⟨?_, ?_⟩
      · show (if b.2 < a.1 then 1 else if b.2 ≤ a.1 then 0 else -1) ≤ (-1 : Int)
        split
        · omega
        · split <;> omega
      · show (-1 : Int) ≤ (if a.2 < b.1 then -1 else if a.2 ≤ b.1 then 0 else 1)
        split
        · omega
        · split <;> omega
theorem am_i2l_ok {a : am_I} {x : Int32} (hx : am_i a x) : am_l a x.toInt64 := by
  unfold am_l
  rw [Int32.toInt_toInt64]
  exact hx
theorem am_hul_l {a b : am_I} {x : Int32} (h : am_i a x) : am_i (am_hul a b) x := by
  have h1 := h.1
  have h2 := h.2
  unfold am_hul am_i
  refine ⟨?_, ?_⟩
  · show (if a.1 ≤ b.1 then a.1 else b.1) ≤ _
    split <;> omega
  · show _ ≤ (if a.2 ≤ b.2 then b.2 else a.2)
    split <;> omega
theorem am_hul_r {a b : am_I} {x : Int32} (h : am_i b x) : am_i (am_hul a b) x := by
  have h1 := h.1
  have h2 := h.2
  unfold am_hul am_i
  refine ⟨?_, ?_⟩
  · show (if a.1 ≤ b.1 then a.1 else b.1) ≤ _
    split <;> omega
  · show _ ≤ (if a.2 ≤ b.2 then b.2 else a.2)
    split <;> omega
theorem am_hl_ok : ∀ {l : List am_I} {m : List Int32} {n : Nat} {x : Int32}, am_all am_i l m → m[n]? = some x → am_i (am_hl l) x
  | [], [], _, _, _, h => by simp at h
  | [a], [b], 0, _, hl, h => by cases h; exact hl.1
  | [a], [b], n + 1, _, hl, h => by simp at h
  | a :: a2 :: r, b :: m, 0, _, hl, h => by cases h; exact am_hul_l hl.1
  | a :: a2 :: r, b :: m, n + 1, _, hl, h => am_hul_r (am_hl_ok (n := n) hl.2 h)
  | [], _ :: _, _, _, h, _ => h.elim
  | _ :: _, [], _, _, h, _ => h.elim
  | [_], _ :: _ :: _, _, _, h, _ => h.2.elim
theorem am_wx_ok {a : am_I} {x : Int32} {l : List am_I} {m : List Int32} (h : am_wx a l.length = true) (hx : am_i a x) (hm : am_all am_i l m) : ¬ x < 0 ∧ ∃ w, m[x.toNatClampNeg]? = some w ∧ am_i (am_hl l) w := by
  unfold am_wx at h
  rw [Bool.and_eq_true] at h
  have h1 : 0 ≤ a.1 := of_decide_eq_true h.1
  have h2 : a.2 < (l.length : Int) := of_decide_eq_true h.2
  have h3 := hx.1
  have h4 := hx.2
  have e := hm.len
  refine ⟨?_, ?_⟩
  · rw [Int32.lt_iff_toInt_lt]
    show ¬ x.toInt < 0
    omega
  · have hlt : x.toNatClampNeg < m.length := by
      show x.toInt.toNat < m.length
      omega
    exact ⟨m[x.toNatClampNeg], List.getElem?_eq_getElem hlt, am_hl_ok hm (List.getElem?_eq_getElem hlt)⟩
theorem am_hulset : ∀ {l : List am_I} {m : List Int32} {a : am_I} {x : Int32}, am_all am_i l m → am_i a x → ∀ n, am_all am_i (l.map (fun b => am_hul b a)) (m.set n x)
  | [], [], _, _, _, _, _ => trivial
  | b :: l, y :: m, a, x, h, hx, 0 => ⟨am_hul_r hx, by
    have hall : ∀ {l : List am_I} {m : List Int32}, am_all am_i l m → am_all am_i (l.map (fun b => am_hul b a)) m := by
      intro l
      induction l with
      | nil => intro m h; cases m with
        | nil => exact trivial
        | cons _ _ => exact h.elim
      | cons b l ih => intro m h; cases m with
        | nil => exact h.elim
        | cons y m => exact ⟨am_hul_l h.1, ih h.2⟩
    exact hall h.2⟩
  | b :: l, y :: m, a, x, h, hx, n + 1 => ⟨am_hul_l h.1, am_hulset h.2 hx n⟩
  | [], _ :: _, _, _, h, _, _ => h.elim
  | _ :: _, [], _, _, h, _, _ => h.elim
