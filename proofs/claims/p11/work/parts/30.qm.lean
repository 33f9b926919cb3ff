section
/-! THE MEMORY MACHINE: what the cells hold, as a function of address and place; their shapes are fixed. -/
abbrev qM : Type := Nat → Nat → Int32
abbrev qW : Type := Nat → Int64
abbrev qR : Type := Option (Option Value × qM × qW)
abbrev qK : Type := Nat → pm_L → List Value → qM → qW → qR
/-- a cell's shape: a row of ints (kind, length), the row of longs, a row of references, an object -/
abbrev qC : Type := (Nat × Nat) ⊕ (Nat ⊕ ((Nat × List Nat) ⊕ (Nat × List (Option Nat))))
def q_t0 : List qC := [.inr (.inr (.inr (6, [some 9, some 11, some 20, some 28, some 34, some 44, some 61, none, none]))), .inr (.inr (.inr (2, [some 10, none, none, none, none, none]))), .inl (1, 160), .inr (.inr (.inr (3, [some 12, none, none, none, some 9, none, none, none]))), .inr (.inr (.inr (4, [none, none, none, none, none, none, none, some 13, some 14, some 15, some 16, some 17, some 18, some 19]))), .inl (0, 6), .inl (0, 6), .inl (0, 6)]
def q_t1 : List qC := [.inl (0, 6), .inl (0, 5), .inl (0, 8), .inl (0, 8), .inr (.inr (.inr (4, [none, none, none, none, none, none, none, some 21, some 22, some 23, some 24, some 25, some 26, some 27]))), .inl (0, 6), .inl (0, 6), .inl (0, 6)]
def q_t2 : List qC := [.inl (0, 6), .inl (0, 5), .inl (0, 8), .inl (0, 8), .inr (.inr (.inr (5, [some 29, some 30, some 31, some 32, some 33, none, none]))), .inl (0, 6), .inl (0, 6), .inl (0, 6)]
def q_t3 : List qC := [.inl (0, 6), .inl (0, 6), .inr (.inr (.inr (0, [some 28, some 35, some 43]))), .inr (.inr (.inr (4, [none, none, none, none, none, none, none, some 36, some 37, some 38, some 39, some 40, some 41, some 42]))), .inl (0, 6), .inl (0, 6), .inl (0, 6), .inl (0, 6)]
def q_t4 : List qC := [.inl (0, 5), .inl (0, 8), .inl (0, 8), .inr (.inl 61), .inr (.inr (.inl (4, [45, 53]))), .inr (.inr (.inr (4, [none, none, none, none, none, none, none, some 46, some 47, some 48, some 49, some 50, some 51, some 52]))), .inl (0, 6), .inl (0, 6)]
def q_t5 : List qC := [.inl (0, 6), .inl (0, 6), .inl (0, 5), .inl (0, 8), .inl (0, 8), .inr (.inr (.inr (4, [none, none, none, none, none, none, none, some 54, some 55, some 56, some 57, some 58, some 59, some 60]))), .inl (0, 6), .inl (0, 6)]
def q_t6 : List qC := [.inl (0, 6), .inl (0, 6), .inl (0, 5), .inl (0, 8), .inl (0, 8), .inr (.inr (.inl (5, [62, 64, 66, 68]))), .inr (.inr (.inr (1, [some 63, none, none]))), .inl (0, 40)]
def q_t7 : List qC := [.inr (.inr (.inr (1, [some 65, none, none]))), .inl (0, 40), .inr (.inr (.inr (1, [some 67, none, none]))), .inl (0, 40), .inr (.inr (.inr (1, [some 69, none, none]))), .inl (0, 40), .inr (.inr (.inr (7, [some 71, some 72, none, none, none, some 73, none, none, none, none, none, none, some 74, none, none, none, none, none, none, none, some 75, some 76, some 77, some 78, some 79, some 80, some 81, none, some 82, some 83, some 84, some 85, some 86, none, some 87]))), .inl (0, 132)]
def q_t8 : List qC := [.inl (2, 2), .inl (0, 44), .inl (0, 160), .inl (0, 6), .inl (0, 6), .inl (0, 6), .inl (0, 6), .inl (0, 6)]
def q_t9 : List qC := [.inl (0, 6), .inl (0, 6), .inl (0, 61), .inl (0, 61), .inl (0, 4), .inl (0, 4), .inl (0, 160), .inl (0, 5)]
def q_tab : List (List qC) := [q_t0, q_t1, q_t2, q_t3, q_t4, q_t5, q_t6, q_t7, q_t8, q_t9]
def q_sh (a : Nat) : Option qC := match Nat.ble 8 a with
  | true => (match q_tab[(a - 8) / 8]? with
    | some l => l[(a - 8) % 8]?
    | none => none)
  | false => none
def q_up (g : qM) (a j : Nat) (x : Int32) : qM := fun b i => match Nat.beq b a && Nat.beq i j with
  | true => x
  | false => g b i
def q_uw (u : qW) (j : Nat) (x : Int64) : qW := fun i => match Nat.beq i j with
  | true => x
  | false => u i
def q_fs (f : Nat → Int32) : List (Option Nat) → Nat → List Value
  | [], _ => []
  | none :: r, j => .int (f j) :: q_fs f r (j + 1)
  | some a :: r, j => .ref a :: q_fs f r (j + 1)
def q_cel (g : qM) (u : qW) (a : Nat) : Option pm_C := match q_sh a with
  | some (.inl (t, n)) => some (.inl (t, (List.range n).map (g a)))
  | some (.inr (.inl n)) => some (.inr (.inl (3, (List.range n).map u)))
  | some (.inr (.inr (.inl (t, l)))) => some (.inr (.inr (.inl (t, l.map some))))
  | some (.inr (.inr (.inr (ci, fs)))) => some (.inr (.inr (.inr (ci, q_fs (g a) fs 0))))
  | none => none
def q_rep (g : qM) (u : qW) (h : pm_H) : Prop := ∀ a, pm_cell h a = q_cel g u a
def q_S (kq : qK) (kp : pm_K) : Prop := ∀ pc lv st g u h R, q_rep g u h → kq pc lv st g u = some R → ∃ h', kp pc lv st h 0 0 = some (R.1, h') ∧ q_rep R.2.1 R.2.2 h'
theorem q_up_ne {g : qM} {a b j : Nat} {x : Int32} (h : b ≠ a) : q_up g a j x b = g b := by
  funext i
  unfold q_up
  cases e : Nat.beq b a with
  | true => exact absurd (Nat.eq_of_beq_eq_true e) h
  | false => rfl
theorem q_up_at {g : qM} {a j i : Nat} {x : Int32} : q_up g a j x a i = if i = j then x else g a i := by
  unfold q_up
  rw [Nat.beq_refl]
  cases e : Nat.beq i j with
  | true => rw [if_pos (Nat.eq_of_beq_eq_true e)]; rfl
  | false => rw [if_neg (fun q => by rw [q, Nat.beq_refl] at e; cases e)]; rfl
theorem q_map_set {α : Type} (f f' : Nat → α) (n j : Nat) (x : α) (h1 : f' j = x) (h2 : ∀ i, i ≠ j → f' i = f i) : (List.range n).map f' = ((List.range n).map f).set j x := by
  apply List.ext_getElem?
  intro i
  by_cases e : j = i
  · subst e
    by_cases hj : j < n
    · rw [List.getElem?_set_self (by rw [List.length_map, List.length_range]; exact hj), List.getElem?_map, List.getElem?_range hj]
      exact congrArg some h1
    · rw [List.getElem?_eq_none (by rw [List.length_map, List.length_range]; omega), List.getElem?_eq_none (by rw [List.length_set, List.length_map, List.length_range]; omega)]
  · rw [List.getElem?_set_ne e, List.getElem?_map, List.getElem?_map]
    by_cases hi : i < n
    · rw [List.getElem?_range hi]
      exact congrArg some (h2 i (Ne.symm e))
    · rw [List.getElem?_eq_none (by rw [List.length_range]; omega)]
      rfl
theorem q_map_get {α : Type} {f : Nat → α} {n j : Nat} (h : j < n) : ((List.range n).map f)[j]? = some (f j) := by
  rw [List.getElem?_map, List.getElem?_range h]
  rfl
theorem q_fs_get {f : Nat → Int32} : ∀ {fs : List (Option Nat)} {j i : Nat} {c : Option Nat}, fs[i]? = some c → (q_fs f fs j)[i]? = some (match c with
  | none => .int (f (j + i))
  | some a => .ref a)
  | [], _, _, _, h => by simp at h
  | none :: r, j, 0, _, h => by cases h; rfl
  | some a :: r, j, 0, _, h => by cases h; rfl
  | none :: r, j, i + 1, c, h => by
    have := q_fs_get (f := f) (j := j + 1) (i := i) (c := c) (fs := r) h
    rw [show j + 1 + i = j + (i + 1) by omega] at this
    exact this
  | some a :: r, j, i + 1, c, h => by
    have := q_fs_get (f := f) (j := j + 1) (i := i) (c := c) (fs := r) h
    rw [show j + 1 + i = j + (i + 1) by omega] at this
    exact this
theorem q_fs_len {f : Nat → Int32} : ∀ {fs : List (Option Nat)} {j : Nat}, (q_fs f fs j).length = fs.length
  | [], _ => rfl
  | none :: r, j => by show (q_fs f r (j + 1)).length + 1 = r.length + 1; rw [q_fs_len]
  | some a :: r, j => by show (q_fs f r (j + 1)).length + 1 = r.length + 1; rw [q_fs_len]
theorem q_fs_set {f f' : Nat → Int32} : ∀ {fs : List (Option Nat)} {j i : Nat} {x : Int32}, fs[i]? = some none → f' (j + i) = x → (∀ k, k ≠ j + i → f' k = f k) → q_fs f' fs j = (q_fs f fs j).set i (.int x)
  | [], _, _, _, h, _, _ => by simp at h
  | none :: r, j, 0, x, _, h1, h2 => by
    show Value.int (f' j) :: q_fs f' r (j + 1) = .int x :: q_fs f r (j + 1)
    rw [show f' j = x from h1, q_fs_cg (fun k hk => h2 k (by omega))]
  | some a :: r, j, 0, _, h, _, _ => by cases h
  | none :: r, j, i + 1, x, h, h1, h2 => by
    show Value.int (f' j) :: q_fs f' r (j + 1) = .int (f j) :: (q_fs f r (j + 1)).set i (.int x)
    rw [h2 j (by omega), q_fs_set (f := f) (i := i) (x := x) h (by rw [show j + 1 + i = j + (i + 1) by omega]; exact h1) (fun k hk => h2 k (by omega))]
  | some a :: r, j, i + 1, x, h, h1, h2 => by
    show Value.ref a :: q_fs f' r (j + 1) = .ref a :: (q_fs f r (j + 1)).set i (.int x)
    rw [q_fs_set (f := f) (i := i) (x := x) h (by rw [show j + 1 + i = j + (i + 1) by omega]; exact h1) (fun k hk => h2 k (by omega))]
where q_fs_cg {f f' : Nat → Int32} : ∀ {fs : List (Option Nat)} {j : Nat}, (∀ k, j ≤ k → f' k = f k) → q_fs f' fs j = q_fs f fs j
  | [], _, _ => rfl
  | none :: r, j, h => by show Value.int (f' j) :: q_fs f' r (j + 1) = .int (f j) :: q_fs f r (j + 1); rw [h j (Nat.le_refl _), q_fs_cg (fun k hk => h k (by omega))]
  | some a :: r, j, h => by show Value.ref a :: q_fs f' r (j + 1) = .ref a :: q_fs f r (j + 1); rw [q_fs_cg (fun k hk => h k (by omega))]
theorem q_sh8 {a : Nat} {C : qC} (h : q_sh a = some C) : 8 ≤ a := by
  unfold q_sh at h
  split at h
  · rename_i e
    exact Nat.le_of_ble_eq_true e
  · cases h
theorem q_cel_ne {g g' : qM} {u u' : qW} {b : Nat} (h1 : g' b = g b) (h2 : u' = u ∨ ∀ n, q_sh b ≠ some (.inr (.inl n))) : q_cel g' u' b = q_cel g u b := by
  unfold q_cel
  cases e : q_sh b with
  | none => rfl
  | some C =>
    match C, e with
    | .inl (t, n), _ => dsimp only; rw [h1]
    | .inr (.inl n), e =>
      rcases h2 with h2 | h2
      · rw [h2]
      · exact absurd e (h2 n)
    | .inr (.inr (.inl (t, l))), _ => rfl
    | .inr (.inr (.inr (ci, fs))), _ => dsimp only; rw [h1]
theorem q_rep.set {g g' : qM} {u u' : qW} {h : pm_H} {a : Nat} {D : pm_C} (hr : q_rep g u h) {C : qC} (hs : q_sh a = some C) (hg : ∀ b, b ≠ a → g' b = g b) (hu : u' = u ∨ ∀ b, b ≠ a → ∀ n, q_sh b ≠ some (.inr (.inl n))) (hD : q_cel g' u' a = some D) : q_rep g' u' (h.set (a - 8) D) := by
  have h8 := q_sh8 hs
  intro b
  by_cases e : b = a
  · subst e
    rw [hD]
    have h1 := hr b
    unfold pm_cell at h1 ⊢
    rw [if_neg (by omega)] at h1 ⊢
    have hl : b - 8 < h.length := by
      rcases Nat.lt_or_ge (b - 8) h.length with q | q
      · exact q
      · rw [List.getElem?_eq_none q] at h1
        unfold q_cel at h1
        rw [hs] at h1
        match C, h1 with
        | .inl (t, n), h1 => cases h1
        | .inr (.inl n), h1 => cases h1
        | .inr (.inr (.inl (t, l))), h1 => cases h1
        | .inr (.inr (.inr (ci, fs))), h1 => cases h1
    exact List.getElem?_set_self hl
  · rw [q_cel_ne (hg b e) (hu.imp id (fun q => q b e)), ← hr b]
    unfold pm_cell
    split
    · rfl
    · exact List.getElem?_set_ne (by omega)
section QStep
variable (k : qK)
def qm_bi (f : Int32 → Int32 → Int32) (pc : Nat) (lv : pm_L) (st : List Value) (g : qM) (u : qW) : qR := match st with
  | .int y :: .int x :: r => k (pc + 1) lv (.int (f x y) :: r) g u
  | _ => none
def qm_bz (f : Int32 → Int32 → Int32) (pc : Nat) (lv : pm_L) (st : List Value) (g : qM) (u : qW) : qR := match st with
  | .int y :: .int x :: r => if y = 0 then none else k (pc + 1) lv (.int (f x y) :: r) g u
  | _ => none
def qm_bl (f : Int64 → Int64 → Int64) (pc : Nat) (lv : pm_L) (st : List Value) (g : qM) (u : qW) : qR := match st with
  | .long y :: .long x :: r => k (pc + 1) lv (.long (f x y) :: r) g u
  | _ => none
def qm_blz (f : Int64 → Int64 → Int64) (pc : Nat) (lv : pm_L) (st : List Value) (g : qM) (u : qW) : qR := match st with
  | .long y :: .long x :: r => if y = 0 then none else k (pc + 1) lv (.long (f x y) :: r) g u
  | _ => none
def qm_u (f : Int32 → Int32) (pc : Nat) (lv : pm_L) (st : List Value) (g : qM) (u : qW) : qR := match st with
  | .int x :: r => k (pc + 1) lv (.int (f x) :: r) g u
  | _ => none
def qm_ldi (i npc : Nat) (lv : pm_L) (st : List Value) (g : qM) (u : qW) : qR := match lv.lookup i with
  | some (.int x) => k npc lv (.int x :: st) g u
  | _ => none
def qm_ldl (i npc : Nat) (lv : pm_L) (st : List Value) (g : qM) (u : qW) : qR := match lv.lookup i with
  | some (.long x) => k npc lv (.long x :: st) g u
  | _ => none
def qm_lda (i npc : Nat) (lv : pm_L) (st : List Value) (g : qM) (u : qW) : qR := match lv.lookup i with
  | some (.ref x) => k npc lv (.ref x :: st) g u
  | _ => none
def qm_sti (nL i npc : Nat) (lv : pm_L) (st : List Value) (g : qM) (u : qW) : qR := match st with
  | .int x :: r => if i < nL then k npc (pm_s1 lv i (.int x)) r g u else none
  | _ => none
def qm_sta (nL i npc : Nat) (lv : pm_L) (st : List Value) (g : qM) (u : qW) : qR := match st with
  | .ref x :: r => if i < nL then k npc (pm_s1 lv i (.ref x)) r g u else none
  | _ => none
def qm_stl (nL i npc : Nat) (lv : pm_L) (st : List Value) (g : qM) (u : qW) : qR := match st with
  | .long x :: r => if i + 1 < nL then k npc (pm_s2 lv i (.long x)) r g u else none
  | _ => none
def qm_iinc (nL i : Nat) (n : Int) (pc : Nat) (lv : pm_L) (st : List Value) (g : qM) (u : qW) : qR := match lv.lookup i with
  | some (.int x) => if i < nL then k (pc + 3) (pm_s1 lv i (.int (x + Int32.ofInt n))) st g u else none
  | _ => none
def qm_if (cd : ClassFile.Cond) (tgt pc : Nat) (lv : pm_L) (st : List Value) (g : qM) (u : qW) : qR := match st with
  | .int x :: r => match cd with
    | .eq => if x = 0 then k tgt lv r g u else k (pc + 3) lv r g u
    | .ne => if x = 0 then k (pc + 3) lv r g u else k tgt lv r g u
    | .lt => if x < 0 then k tgt lv r g u else k (pc + 3) lv r g u
    | .ge => if 0 ≤ x then k tgt lv r g u else k (pc + 3) lv r g u
    | .gt => if 0 < x then k tgt lv r g u else k (pc + 3) lv r g u
    | .le => if x ≤ 0 then k tgt lv r g u else k (pc + 3) lv r g u
  | _ => none
def qm_ic (cd : ClassFile.Cond) (tgt pc : Nat) (lv : pm_L) (st : List Value) (g : qM) (u : qW) : qR := match st with
  | .int y :: .int x :: r => match cd with
    | .eq => if x = y then k tgt lv r g u else k (pc + 3) lv r g u
    | .ne => if x = y then k (pc + 3) lv r g u else k tgt lv r g u
    | .lt => if x < y then k tgt lv r g u else k (pc + 3) lv r g u
    | .ge => if y ≤ x then k tgt lv r g u else k (pc + 3) lv r g u
    | .gt => if y < x then k tgt lv r g u else k (pc + 3) lv r g u
    | .le => if x ≤ y then k tgt lv r g u else k (pc + 3) lv r g u
  | _ => none
def qm_jump (t : Int) (lv : pm_L) (st : List Value) (g : qM) (u : qW) : qR := if 0 ≤ t then k t.toNat lv st g u else none
def qm_tsw (d lo hi : Int) (offs : Array Int) (pc : Nat) (lv : pm_L) (st : List Value) (g : qM) (u : qW) : qR := match st with
  | .int x :: r => if x.toInt < lo then qm_jump k ((pc : Int) + d) lv r g u
    else if hi < x.toInt then qm_jump k ((pc : Int) + d) lv r g u
    else match offs[(x.toInt - lo).toNat]? with
      | some off => qm_jump k ((pc : Int) + off) lv r g u
      | none => none
  | _ => none
def qm_dup (pc : Nat) (lv : pm_L) (st : List Value) (g : qM) (u : qW) : qR := match st with
  | v :: r => if v.category = 1 then k (pc + 1) lv (v :: v :: r) g u else none
  | _ => none
def qm_dup2 (pc : Nat) (lv : pm_L) (st : List Value) (g : qM) (u : qW) : qR := match st with
  | v :: w :: r => if v.category = 1 then (if w.category = 1 then k (pc + 1) lv (v :: w :: v :: w :: r) g u else none) else none
  | _ => none
def qm_pop (pc : Nat) (lv : pm_L) (st : List Value) (g : qM) (u : qW) : qR := match st with
  | v :: r => if v.category = 1 then k (pc + 1) lv r g u else none
  | _ => none
def qm_pop2 (pc : Nat) (lv : pm_L) (st : List Value) (g : qM) (u : qW) : qR := match st with
  | v :: r => if v.category = 2 then k (pc + 1) lv r g u else none
  | _ => none
def qm_lcmp (pc : Nat) (lv : pm_L) (st : List Value) (g : qM) (u : qW) : qR := match st with
  | .long y :: .long x :: r => k (pc + 1) lv (.int (lg_cmp x y) :: r) g u
  | _ => none
def qm_ldcs (b pc : Nat) (lv : pm_L) (st : List Value) (g : qM) (u : qW) : qR := if 1 ≤ b then (if b ≤ 7 then k (pc + 2) lv (.ref b :: st) g u else none) else none
def qm_slen (pc : Nat) (lv : pm_L) (st : List Value) (g : qM) (u : qW) : qR := match st with
  | .ref b :: r => if 1 ≤ b then (if b ≤ 7 then (if (r.map Value.category).sum ≤ 8 then k (pc + 3) lv (.int (Int32.ofNat (sg_len.getD (b - 1) 0)) :: r) g u else none) else none) else none
  | _ => none
def qm_sch (pc : Nat) (lv : pm_L) (st : List Value) (g : qM) (u : qW) : qR := match st with
  | .int j :: .ref b :: r => if 1 ≤ b then (if b ≤ 7 then (if j < 0 then none else (if j.toNatClampNeg < sg_len.getD (b - 1) 0 then (if (r.map Value.category).sum ≤ 8 then k (pc + 3) lv (.int ((sg_byt.getD (b - 1) []).getD j.toNatClampNeg 0) :: r) g u else none) else none)) else none) else none
  | _ => none
def qm_i2l (pc : Nat) (lv : pm_L) (st : List Value) (g : qM) (u : qW) : qR := match st with
  | .int x :: r => k (pc + 1) lv (.long x.toInt64 :: r) g u
  | _ => none
def qm_getf (ci f pc : Nat) (lv : pm_L) (st : List Value) (g : qM) (u : qW) : qR := match st with
  | .ref a :: r => match q_sh a with
    | some (.inr (.inr (.inr (cj, fs)))) => if cj = ci then (match fs[f]? with
      | some none => k (pc + 3) lv (.int (g a f) :: r) g u
      | some (some b) => k (pc + 3) lv (.ref b :: r) g u
      | none => none) else none
    | _ => none
  | _ => none
def qm_putf (ci f pc : Nat) (lv : pm_L) (st : List Value) (g : qM) (u : qW) : qR := match st with
  | .int x :: .ref a :: r => match q_sh a with
    | some (.inr (.inr (.inr (cj, fs)))) => if cj = ci then (match fs[f]? with
      | some none => (match pm_fit (kY ci f) (.int x) with
        | true => k (pc + 3) lv r (q_up g a f x) u
        | false => none)
      | _ => none) else none
    | _ => none
  | _ => none
def qm_iald (pc : Nat) (lv : pm_L) (st : List Value) (g : qM) (u : qW) : qR := match st with
  | .int i :: .ref a :: r => match q_sh a with
      | some (.inl (t, n)) => if t = 0 then (if i < 0 then none else (if i.toNatClampNeg < n then k (pc + 1) lv (.int (g a i.toNatClampNeg) :: r) g u else none)) else none
      | _ => none
  | _ => none
def qm_bald (pc : Nat) (lv : pm_L) (st : List Value) (g : qM) (u : qW) : qR := match st with
  | .int i :: .ref a :: r => match q_sh a with
      | some (.inl (t, n)) => if t = 1 ∨ t = 2 then (if i < 0 then none else (if i.toNatClampNeg < n then k (pc + 1) lv (.int (g a i.toNatClampNeg) :: r) g u else none)) else none
      | _ => none
  | _ => none
def qm_lald (pc : Nat) (lv : pm_L) (st : List Value) (g : qM) (u : qW) : qR := match st with
  | .int i :: .ref a :: r => match q_sh a with
      | some (.inr (.inl n)) => if i < 0 then none else (if i.toNatClampNeg < n then k (pc + 1) lv (.long (u i.toNatClampNeg) :: r) g u else none)
      | _ => none
  | _ => none
def qm_aald (pc : Nat) (lv : pm_L) (st : List Value) (g : qM) (u : qW) : qR := match st with
  | .int i :: .ref a :: r => match q_sh a with
      | some (.inr (.inr (.inl (t, l)))) => if t = 4 ∨ t = 5 then (if i < 0 then none else (match l[i.toNatClampNeg]? with
        | some x => k (pc + 1) lv (.ref x :: r) g u
        | none => none)) else none
      | _ => none
  | _ => none
def qm_iast (pc : Nat) (lv : pm_L) (st : List Value) (g : qM) (u : qW) : qR := match st with
  | .int x :: .int i :: .ref a :: r => match q_sh a with
      | some (.inl (t, n)) => if t = 0 then (if i < 0 then none else (if i.toNatClampNeg < n then k (pc + 1) lv r (q_up g a i.toNatClampNeg x) u else none)) else none
      | _ => none
  | _ => none
def qm_bast (pc : Nat) (lv : pm_L) (st : List Value) (g : qM) (u : qW) : qR := match st with
  | .int x :: .int i :: .ref a :: r => match q_sh a with
      | some (.inl (t, n)) => if t = 1 then (if i < 0 then none else (if i.toNatClampNeg < n then k (pc + 1) lv r (q_up g a i.toNatClampNeg x.toInt8.toInt32) u else none))
        else if t = 2 then (if i < 0 then none else (if i.toNatClampNeg < n then k (pc + 1) lv r (q_up g a i.toNatClampNeg (x &&& 1)) u else none)) else none
      | _ => none
  | _ => none
def qm_last (pc : Nat) (lv : pm_L) (st : List Value) (g : qM) (u : qW) : qR := match st with
  | .long x :: .int i :: .ref a :: r => match q_sh a with
      | some (.inr (.inl n)) => if i < 0 then none else (if i.toNatClampNeg < n then k (pc + 1) lv r g (q_uw u i.toNatClampNeg x) else none)
      | _ => none
  | _ => none
def qm_alen (pc : Nat) (lv : pm_L) (st : List Value) (g : qM) (u : qW) : qR := match st with
  | .ref a :: r => match q_sh a with
      | some (.inl (t, n)) => if t < 3 then k (pc + 1) lv (.int (Int32.ofNat n) :: r) g u else none
      | _ => none
  | _ => none
/-- a row copied as a whole, from its first place on -/
def q_cp (g : qM) (a b n : Nat) : qM := fun c i => match Nat.beq c a && Nat.ble (i + 1) n with
  | true => g b i
  | false => g c i
def qm_copy (pc : Nat) (lv : pm_L) (st : List Value) (g : qM) (u : qW) : qR := match st with
  | [.int n, .int dp, .ref a, .int sp, .ref b] => if sp = 0 then (if dp = 0 then (if n < 0 then none else (match q_sh a, q_sh b with
      | some (.inl (t, na)), some (.inl (v, nb)) => if t = 0 ∧ v = 0 then (if n.toNatClampNeg ≤ nb then (if n.toNatClampNeg ≤ na then k (pc + 3) lv [] (q_cp g a b n.toNatClampNeg) u else none) else none) else none
      | _, _ => none)) else none) else none
  | _ => none
def qm_call (big : Nat → List Value → qM → qW → qR) (m2 : pm_M) (M2 : Nat) (pc : Nat) (lv : pm_L) (as rest : List Value) (g : qM) (u : qW) : qR :=
  if (rest.map Value.category).sum ≤ 8 then (if pm_c m2 = 0 then (if pm_s m2 = 0 then (match big M2 as g u with
    | some (r, g', u') => k (pc + 3) lv (r.toList ++ rest) g' u'
    | none => none) else none) else none) else none
def qm_inv (tab : Nat → Option pm_M) (big : Nat → List Value → qM → qW → qR) (M2 : Nat) (pc : Nat) (lv : pm_L) (st : List Value) (g : qM) (u : qW) : qR := match tab M2 with
  | none => none
  | some m2 => if pm_n m2 ≤ st.length then (match (st.take (pm_n m2)).reverse with
      | .ref a :: as => (match q_sh a with
        | some (.inr (.inr (.inr (cj, _)))) => if cj = pm_o m2 then qm_call k big m2 M2 pc lv (.ref a :: as) (st.drop (pm_n m2)) g u else none
        | _ => none)
      | _ => none) else none
def qm_ins (tab : Nat → Option pm_M) (big : Nat → List Value → qM → qW → qR) (M2 : Nat) (pc : Nat) (lv : pm_L) (st : List Value) (g : qM) (u : qW) : qR := match tab M2 with
  | none => none
  | some m2 => if pm_n m2 ≤ st.length then qm_call k big m2 M2 pc lv (st.take (pm_n m2)).reverse (st.drop (pm_n m2)) g u else none
end QStep
def qm_ret (mm : pm_M) (st : List Value) (g : qM) (u : qW) : qR := match st, pm_rt mm with
  | [.int v], some ty => (match pm_fit ty (.int v) with
    | true => some (some (.int v), g, u)
    | false => none)
  | _, _ => none
def qm_retl (mm : pm_M) (st : List Value) (g : qM) (u : qW) : qR := match st, pm_rt mm with
  | [.long v], some .long => some (some (.long v), g, u)
  | _, _ => none
def qm_reta (mm : pm_M) (st : List Value) (g : qM) (u : qW) : qR := match st, pm_rt mm with
  | [.ref v], some (.object _) => some (some (.ref v), g, u)
  | _, _ => none
def qm_retv (mm : pm_M) (st : List Value) (g : qM) (u : qW) : qR := match st, pm_rt mm with
  | [], none => some (none, g, u)
  | _, _ => none
def qm_step (tab : Nat → Option pm_M) (big : Nat → List Value → qM → qW → qR) (mm : pm_M) (k : qK) (e : pm_E) (pc : Nat) (lv : pm_L) (st : List Value) (g : qM) (u : qW) : qR := match e.1 with
  | .iconst n => k (pc + 1) lv (.int (Int32.ofInt n) :: st) g u
  | .bipush n => k (pc + 2) lv (.int (Int8.ofInt n).toInt32 :: st) g u
  | .sipush n => k (pc + 3) lv (.int (Int16.ofInt n).toInt32 :: st) g u
  | .lconst n => k (pc + 1) lv (.long (Int64.ofNat n) :: st) g u
  | .ldc _ => if e.2.1 = 0 then k (pc + 2) lv (.int (Int32.ofInt e.2.2.2) :: st) g u else if e.2.1 = 1 then qm_ldcs k e.2.2.1 pc lv st g u else none
  | .ldc_w _ => if e.2.1 = 0 then k (pc + 3) lv (.int (Int32.ofInt e.2.2.2) :: st) g u else none
  | .ldc2_w _ => k (pc + 3) lv (.long (Int64.ofInt e.2.2.2) :: st) g u
  | .iload_n i => qm_ldi k i (pc + 1) lv st g u
  | .iload i => qm_ldi k i (pc + 2) lv st g u
  | .lload_n i => qm_ldl k i (pc + 1) lv st g u
  | .lload i => qm_ldl k i (pc + 2) lv st g u
  | .aload_n i => qm_lda k i (pc + 1) lv st g u
  | .aload i => qm_lda k i (pc + 2) lv st g u
  | .istore_n i => qm_sti k (pm_ml mm) i (pc + 1) lv st g u
  | .istore i => qm_sti k (pm_ml mm) i (pc + 2) lv st g u
  | .lstore_n i => qm_stl k (pm_ml mm) i (pc + 1) lv st g u
  | .lstore i => qm_stl k (pm_ml mm) i (pc + 2) lv st g u
  | .astore_n i => qm_sta k (pm_ml mm) i (pc + 1) lv st g u
  | .astore i => qm_sta k (pm_ml mm) i (pc + 2) lv st g u
  | .iinc i n => qm_iinc k (pm_ml mm) i n pc lv st g u
  | .iadd => qm_bi k (fun x y => x + y) pc lv st g u
  | .isub => qm_bi k (fun x y => x - y) pc lv st g u
  | .imul => qm_bi k (fun x y => x * y) pc lv st g u
  | .iand => qm_bi k (fun x y => x &&& y) pc lv st g u
  | .ior => qm_bi k (fun x y => x ||| y) pc lv st g u
  | .ixor => qm_bi k (fun x y => x ^^^ y) pc lv st g u
  | .ishl => qm_bi k (fun x y => x <<< (y &&& 31)) pc lv st g u
  | .ishr => qm_bi k (fun x y => x >>> (y &&& 31)) pc lv st g u
  | .iushr => qm_bi k (fun x y => (x.toUInt32 >>> (y.toUInt32 &&& Int32.toUInt32 31)).toInt32) pc lv st g u
  | .idiv => qm_bz k (fun x y => x / y) pc lv st g u
  | .irem => qm_bz k (fun x y => x - x / y * y) pc lv st g u
  | .ladd => qm_bl k (fun x y => x + y) pc lv st g u
  | .lmul => qm_bl k (fun x y => x * y) pc lv st g u
  | .ldiv => qm_blz k (fun x y => x / y) pc lv st g u
  | .lrem => qm_blz k (fun x y => x - x / y * y) pc lv st g u
  | .ineg => qm_u k (fun x => -x) pc lv st g u
  | .i2b => qm_u k (fun x => x.toInt8.toInt32) pc lv st g u
  | .i2s => qm_u k (fun x => x.toInt16.toInt32) pc lv st g u
  | .i2l => qm_i2l k pc lv st g u
  | .lcmp => qm_lcmp k pc lv st g u
  | .dup => qm_dup k pc lv st g u
  | .dup2 => qm_dup2 k pc lv st g u
  | .pop => qm_pop k pc lv st g u
  | .pop2 => qm_pop2 k pc lv st g u
  | .ifCond cd _ => qm_if k cd e.2.1 pc lv st g u
  | .if_icmp cd _ => qm_ic k cd e.2.1 pc lv st g u
  | .goto _ => k e.2.1 lv st g u
  | .tableswitch d lo hi offs => qm_tsw k d lo hi offs pc lv st g u
  | .getfield _ => qm_getf k e.2.1 e.2.2.1 pc lv st g u
  | .putfield _ => qm_putf k e.2.1 e.2.2.1 pc lv st g u
  | .iaload => qm_iald k pc lv st g u
  | .baload => qm_bald k pc lv st g u
  | .laload => qm_lald k pc lv st g u
  | .aaload => qm_aald k pc lv st g u
  | .iastore => qm_iast k pc lv st g u
  | .bastore => qm_bast k pc lv st g u
  | .lastore => qm_last k pc lv st g u
  | .arraylength => qm_alen k pc lv st g u
  | .invokevirtual _ => if e.2.2.1 = 0 then qm_inv k tab big e.2.1 pc lv st g u else if e.2.2.1 = 4 then qm_slen k pc lv st g u else if e.2.2.1 = 5 then qm_sch k pc lv st g u else none
  | .invokespecial _ => if e.2.2.1 = 1 then qm_inv k tab big e.2.1 pc lv st g u else none
  | .invokestatic _ => if e.2.2.1 = 8 then qm_copy k pc lv st g u else if e.2.2.1 = 2 ∨ e.2.2.1 = 3 then qm_ins k tab big e.2.1 pc lv st g u else none
  | .ireturn => qm_ret mm st g u
  | .lreturn => qm_retl mm st g u
  | .areturn => qm_reta mm st g u
  | .return_ => qm_retv mm st g u
  | _ => none
def qm_next (tab : Nat → Option pm_M) (big : Nat → List Value → qM → qW → qR) (mm : pm_M) (k : qK) : qK := fun pc lv st g u => match pm_at mm pc with
  | some e => qm_step tab big mm k e pc lv st g u
  | none => none
noncomputable def qm_run (tab : Nat → Option pm_M) (big : Nat → List Value → qM → qW → qR) (mm : pm_M) (n : Nat) : qK := Nat.rec (motive := fun _ => qK) (fun _ _ _ _ _ => none) (fun _ k => qm_next tab big mm k) n
noncomputable def qm_big (tab : Nat → Option pm_M) (N : Nat) (d : Nat) : Nat → List Value → qM → qW → qR := Nat.rec (motive := fun _ => Nat → List Value → qM → qW → qR) (fun _ _ _ _ => none) (fun _ big M as g u => match tab M with
  | some mm => if pm_words as ≤ pm_ml mm then (if as.length = pm_n mm then qm_run tab big mm N 0 (lv_args 0 as) [] g u else none) else none
  | none => none) d
theorem qs_bi {kq : qK} {kp : pm_K} (hS : q_S kq kp) {lv : pm_L} {st : List Value} {g : qM} {u : qW} {h : pm_H} {R : Option Value × qM × qW} (hr : q_rep g u h) (f : Int32 → Int32 → Int32) (pc : Nat) (hk : qm_bi kq f pc lv st g u = some R) : ∃ h', pm_bi kp f pc lv st h 0 0 = some (R.1, h') ∧ q_rep R.2.1 R.2.2 h' := by
  unfold qm_bi at hk
  unfold pm_bi
  (repeat' split at hk) <;> first
    | exact hS _ _ _ _ _ _ _ hr hk
    | (cases hk; done)
    | (simp only [*]; exact hS _ _ _ _ _ _ _ hr hk)
    | (simp [*]; exact hS _ _ _ _ _ _ _ hr hk)
theorem qs_bz {kq : qK} {kp : pm_K} (hS : q_S kq kp) {lv : pm_L} {st : List Value} {g : qM} {u : qW} {h : pm_H} {R : Option Value × qM × qW} (hr : q_rep g u h) (f : Int32 → Int32 → Int32) (pc : Nat) (hk : qm_bz kq f pc lv st g u = some R) : ∃ h', pm_bz kp f pc lv st h 0 0 = some (R.1, h') ∧ q_rep R.2.1 R.2.2 h' := by
  unfold qm_bz at hk
  unfold pm_bz
  (repeat' split at hk) <;> first
    | exact hS _ _ _ _ _ _ _ hr hk
    | (cases hk; done)
    | (simp only [*]; exact hS _ _ _ _ _ _ _ hr hk)
    | (simp [*]; exact hS _ _ _ _ _ _ _ hr hk)
theorem qs_bl {kq : qK} {kp : pm_K} (hS : q_S kq kp) {lv : pm_L} {st : List Value} {g : qM} {u : qW} {h : pm_H} {R : Option Value × qM × qW} (hr : q_rep g u h) (f : Int64 → Int64 → Int64) (pc : Nat) (hk : qm_bl kq f pc lv st g u = some R) : ∃ h', pm_bl kp f pc lv st h 0 0 = some (R.1, h') ∧ q_rep R.2.1 R.2.2 h' := by
  unfold qm_bl at hk
  unfold pm_bl
  (repeat' split at hk) <;> first
    | exact hS _ _ _ _ _ _ _ hr hk
    | (cases hk; done)
    | (simp only [*]; exact hS _ _ _ _ _ _ _ hr hk)
    | (simp [*]; exact hS _ _ _ _ _ _ _ hr hk)
theorem qs_blz {kq : qK} {kp : pm_K} (hS : q_S kq kp) {lv : pm_L} {st : List Value} {g : qM} {u : qW} {h : pm_H} {R : Option Value × qM × qW} (hr : q_rep g u h) (f : Int64 → Int64 → Int64) (pc : Nat) (hk : qm_blz kq f pc lv st g u = some R) : ∃ h', pm_blz kp f pc lv st h 0 0 = some (R.1, h') ∧ q_rep R.2.1 R.2.2 h' := by
  unfold qm_blz at hk
  unfold pm_blz
  (repeat' split at hk) <;> first
    | exact hS _ _ _ _ _ _ _ hr hk
    | (cases hk; done)
    | (simp only [*]; exact hS _ _ _ _ _ _ _ hr hk)
    | (simp [*]; exact hS _ _ _ _ _ _ _ hr hk)
theorem qs_u {kq : qK} {kp : pm_K} (hS : q_S kq kp) {lv : pm_L} {st : List Value} {g : qM} {u : qW} {h : pm_H} {R : Option Value × qM × qW} (hr : q_rep g u h) (f : Int32 → Int32) (pc : Nat) (hk : qm_u kq f pc lv st g u = some R) : ∃ h', pm_u kp f pc lv st h 0 0 = some (R.1, h') ∧ q_rep R.2.1 R.2.2 h' := by
  unfold qm_u at hk
  unfold pm_u
  (repeat' split at hk) <;> first
    | exact hS _ _ _ _ _ _ _ hr hk
    | (cases hk; done)
    | (simp only [*]; exact hS _ _ _ _ _ _ _ hr hk)
    | (simp [*]; exact hS _ _ _ _ _ _ _ hr hk)
theorem qs_ldi {kq : qK} {kp : pm_K} (hS : q_S kq kp) {lv : pm_L} {st : List Value} {g : qM} {u : qW} {h : pm_H} {R : Option Value × qM × qW} (hr : q_rep g u h) (i npc : Nat) (hk : qm_ldi kq i npc lv st g u = some R) : ∃ h', pm_ldi kp i npc lv st h 0 0 = some (R.1, h') ∧ q_rep R.2.1 R.2.2 h' := by
  unfold qm_ldi at hk
  unfold pm_ldi
  (repeat' split at hk) <;> first
    | exact hS _ _ _ _ _ _ _ hr hk
    | (cases hk; done)
    | (simp only [*]; exact hS _ _ _ _ _ _ _ hr hk)
    | (simp [*]; exact hS _ _ _ _ _ _ _ hr hk)
theorem qs_ldl {kq : qK} {kp : pm_K} (hS : q_S kq kp) {lv : pm_L} {st : List Value} {g : qM} {u : qW} {h : pm_H} {R : Option Value × qM × qW} (hr : q_rep g u h) (i npc : Nat) (hk : qm_ldl kq i npc lv st g u = some R) : ∃ h', pm_ldl kp i npc lv st h 0 0 = some (R.1, h') ∧ q_rep R.2.1 R.2.2 h' := by
  unfold qm_ldl at hk
  unfold pm_ldl
  (repeat' split at hk) <;> first
    | exact hS _ _ _ _ _ _ _ hr hk
    | (cases hk; done)
    | (simp only [*]; exact hS _ _ _ _ _ _ _ hr hk)
    | (simp [*]; exact hS _ _ _ _ _ _ _ hr hk)
theorem qs_lda {kq : qK} {kp : pm_K} (hS : q_S kq kp) {lv : pm_L} {st : List Value} {g : qM} {u : qW} {h : pm_H} {R : Option Value × qM × qW} (hr : q_rep g u h) (i npc : Nat) (hk : qm_lda kq i npc lv st g u = some R) : ∃ h', pm_lda kp i npc lv st h 0 0 = some (R.1, h') ∧ q_rep R.2.1 R.2.2 h' := by
  unfold qm_lda at hk
  unfold pm_lda
  (repeat' split at hk) <;> first
    | exact hS _ _ _ _ _ _ _ hr hk
    | (cases hk; done)
    | (simp only [*]; exact hS _ _ _ _ _ _ _ hr hk)
    | (simp [*]; exact hS _ _ _ _ _ _ _ hr hk)
theorem qs_sti {kq : qK} {kp : pm_K} (hS : q_S kq kp) {lv : pm_L} {st : List Value} {g : qM} {u : qW} {h : pm_H} {R : Option Value × qM × qW} (hr : q_rep g u h) (nL i npc : Nat) (hk : qm_sti kq nL i npc lv st g u = some R) : ∃ h', pm_sti kp nL i npc lv st h 0 0 = some (R.1, h') ∧ q_rep R.2.1 R.2.2 h' := by
  unfold qm_sti at hk
  unfold pm_sti
  (repeat' split at hk) <;> first
    | exact hS _ _ _ _ _ _ _ hr hk
    | (cases hk; done)
    | (simp only [*]; exact hS _ _ _ _ _ _ _ hr hk)
    | (simp [*]; exact hS _ _ _ _ _ _ _ hr hk)
theorem qs_sta {kq : qK} {kp : pm_K} (hS : q_S kq kp) {lv : pm_L} {st : List Value} {g : qM} {u : qW} {h : pm_H} {R : Option Value × qM × qW} (hr : q_rep g u h) (nL i npc : Nat) (hk : qm_sta kq nL i npc lv st g u = some R) : ∃ h', pm_sta kp nL i npc lv st h 0 0 = some (R.1, h') ∧ q_rep R.2.1 R.2.2 h' := by
  unfold qm_sta at hk
  unfold pm_sta
  (repeat' split at hk) <;> first
    | exact hS _ _ _ _ _ _ _ hr hk
    | (cases hk; done)
    | (simp only [*]; exact hS _ _ _ _ _ _ _ hr hk)
    | (simp [*]; exact hS _ _ _ _ _ _ _ hr hk)
theorem qs_stl {kq : qK} {kp : pm_K} (hS : q_S kq kp) {lv : pm_L} {st : List Value} {g : qM} {u : qW} {h : pm_H} {R : Option Value × qM × qW} (hr : q_rep g u h) (nL i npc : Nat) (hk : qm_stl kq nL i npc lv st g u = some R) : ∃ h', pm_stl kp nL i npc lv st h 0 0 = some (R.1, h') ∧ q_rep R.2.1 R.2.2 h' := by
  unfold qm_stl at hk
  unfold pm_stl
  (repeat' split at hk) <;> first
    | exact hS _ _ _ _ _ _ _ hr hk
    | (cases hk; done)
    | (simp only [*]; exact hS _ _ _ _ _ _ _ hr hk)
    | (simp [*]; exact hS _ _ _ _ _ _ _ hr hk)
theorem qs_iinc {kq : qK} {kp : pm_K} (hS : q_S kq kp) {lv : pm_L} {st : List Value} {g : qM} {u : qW} {h : pm_H} {R : Option Value × qM × qW} (hr : q_rep g u h) (nL i : Nat) (n : Int) (pc : Nat) (hk : qm_iinc kq nL i n pc lv st g u = some R) : ∃ h', pm_iinc kp nL i n pc lv st h 0 0 = some (R.1, h') ∧ q_rep R.2.1 R.2.2 h' := by
  unfold qm_iinc at hk
  unfold pm_iinc
  (repeat' split at hk) <;> first
    | exact hS _ _ _ _ _ _ _ hr hk
    | (cases hk; done)
    | (simp only [*]; exact hS _ _ _ _ _ _ _ hr hk)
    | (simp [*]; exact hS _ _ _ _ _ _ _ hr hk)
theorem qs_if {kq : qK} {kp : pm_K} (hS : q_S kq kp) {lv : pm_L} {st : List Value} {g : qM} {u : qW} {h : pm_H} {R : Option Value × qM × qW} (hr : q_rep g u h) (cd : ClassFile.Cond) (tgt pc : Nat) (hk : qm_if kq cd tgt pc lv st g u = some R) : ∃ h', pm_if kp cd tgt pc lv st h 0 0 = some (R.1, h') ∧ q_rep R.2.1 R.2.2 h' := by
  unfold qm_if at hk
  unfold pm_if
  (repeat' split at hk) <;> first
    | exact hS _ _ _ _ _ _ _ hr hk
    | (cases hk; done)
    | (simp only [*]; exact hS _ _ _ _ _ _ _ hr hk)
    | (simp [*]; exact hS _ _ _ _ _ _ _ hr hk)
theorem qs_ic {kq : qK} {kp : pm_K} (hS : q_S kq kp) {lv : pm_L} {st : List Value} {g : qM} {u : qW} {h : pm_H} {R : Option Value × qM × qW} (hr : q_rep g u h) (cd : ClassFile.Cond) (tgt pc : Nat) (hk : qm_ic kq cd tgt pc lv st g u = some R) : ∃ h', pm_ic kp cd tgt pc lv st h 0 0 = some (R.1, h') ∧ q_rep R.2.1 R.2.2 h' := by
  unfold qm_ic at hk
  unfold pm_ic
  (repeat' split at hk) <;> first
    | exact hS _ _ _ _ _ _ _ hr hk
    | (cases hk; done)
    | (simp only [*]; exact hS _ _ _ _ _ _ _ hr hk)
    | (simp [*]; exact hS _ _ _ _ _ _ _ hr hk)
theorem qs_jump {kq : qK} {kp : pm_K} (hS : q_S kq kp) {lv : pm_L} {st : List Value} {g : qM} {u : qW} {h : pm_H} {R : Option Value × qM × qW} (hr : q_rep g u h) (t : Int) (hk : qm_jump kq t lv st g u = some R) : ∃ h', pm_jump kp t lv st h 0 0 = some (R.1, h') ∧ q_rep R.2.1 R.2.2 h' := by
  unfold qm_jump at hk
  unfold pm_jump
  (repeat' split at hk) <;> first
    | exact hS _ _ _ _ _ _ _ hr hk
    | (cases hk; done)
    | (simp only [*]; exact hS _ _ _ _ _ _ _ hr hk)
    | (simp [*]; exact hS _ _ _ _ _ _ _ hr hk)
theorem qs_tsw {kq : qK} {kp : pm_K} (hS : q_S kq kp) {lv : pm_L} {st : List Value} {g : qM} {u : qW} {h : pm_H} {R : Option Value × qM × qW} (hr : q_rep g u h) (d lo hi : Int) (offs : Array Int) (pc : Nat) (hk : qm_tsw kq d lo hi offs pc lv st g u = some R) : ∃ h', pm_tsw kp d lo hi offs pc lv st h 0 0 = some (R.1, h') ∧ q_rep R.2.1 R.2.2 h' := by
  unfold qm_tsw at hk
  unfold pm_tsw
  split at hk
  · dsimp only
    split at hk
    · rename_i q
      rw [if_pos q]
      exact qs_jump hS hr _ hk
    · rename_i q
      rw [if_neg q]
      split at hk
      · rename_i q2
        rw [if_pos q2]
        exact qs_jump hS hr _ hk
      · rename_i q2
        rw [if_neg q2]
        split at hk
        · rename_i off e
          rw [e]
          exact qs_jump hS hr _ hk
        · cases hk
  · cases hk
theorem qs_dup {kq : qK} {kp : pm_K} (hS : q_S kq kp) {lv : pm_L} {st : List Value} {g : qM} {u : qW} {h : pm_H} {R : Option Value × qM × qW} (hr : q_rep g u h) (pc : Nat) (hk : qm_dup kq pc lv st g u = some R) : ∃ h', pm_dup kp pc lv st h 0 0 = some (R.1, h') ∧ q_rep R.2.1 R.2.2 h' := by
  unfold qm_dup at hk
  unfold pm_dup
  (repeat' split at hk) <;> first
    | exact hS _ _ _ _ _ _ _ hr hk
    | (cases hk; done)
    | (simp only [*]; exact hS _ _ _ _ _ _ _ hr hk)
    | (simp [*]; exact hS _ _ _ _ _ _ _ hr hk)
theorem qs_dup2 {kq : qK} {kp : pm_K} (hS : q_S kq kp) {lv : pm_L} {st : List Value} {g : qM} {u : qW} {h : pm_H} {R : Option Value × qM × qW} (hr : q_rep g u h) (pc : Nat) (hk : qm_dup2 kq pc lv st g u = some R) : ∃ h', pm_dup2 kp pc lv st h 0 0 = some (R.1, h') ∧ q_rep R.2.1 R.2.2 h' := by
  unfold qm_dup2 at hk
  unfold pm_dup2
  (repeat' split at hk) <;> first
    | exact hS _ _ _ _ _ _ _ hr hk
    | (cases hk; done)
    | (simp only [*]; exact hS _ _ _ _ _ _ _ hr hk)
    | (simp [*]; exact hS _ _ _ _ _ _ _ hr hk)
theorem qs_pop {kq : qK} {kp : pm_K} (hS : q_S kq kp) {lv : pm_L} {st : List Value} {g : qM} {u : qW} {h : pm_H} {R : Option Value × qM × qW} (hr : q_rep g u h) (pc : Nat) (hk : qm_pop kq pc lv st g u = some R) : ∃ h', pm_pop kp pc lv st h 0 0 = some (R.1, h') ∧ q_rep R.2.1 R.2.2 h' := by
  unfold qm_pop at hk
  unfold pm_pop
  (repeat' split at hk) <;> first
    | exact hS _ _ _ _ _ _ _ hr hk
    | (cases hk; done)
    | (simp only [*]; exact hS _ _ _ _ _ _ _ hr hk)
    | (simp [*]; exact hS _ _ _ _ _ _ _ hr hk)
theorem qs_pop2 {kq : qK} {kp : pm_K} (hS : q_S kq kp) {lv : pm_L} {st : List Value} {g : qM} {u : qW} {h : pm_H} {R : Option Value × qM × qW} (hr : q_rep g u h) (pc : Nat) (hk : qm_pop2 kq pc lv st g u = some R) : ∃ h', pm_pop2 kp pc lv st h 0 0 = some (R.1, h') ∧ q_rep R.2.1 R.2.2 h' := by
  unfold qm_pop2 at hk
  unfold pm_pop2
  (repeat' split at hk) <;> first
    | exact hS _ _ _ _ _ _ _ hr hk
    | (cases hk; done)
    | (simp only [*]; exact hS _ _ _ _ _ _ _ hr hk)
    | (simp [*]; exact hS _ _ _ _ _ _ _ hr hk)
theorem qs_lcmp {kq : qK} {kp : pm_K} (hS : q_S kq kp) {lv : pm_L} {st : List Value} {g : qM} {u : qW} {h : pm_H} {R : Option Value × qM × qW} (hr : q_rep g u h) (pc : Nat) (hk : qm_lcmp kq pc lv st g u = some R) : ∃ h', pm_lcmp kp pc lv st h 0 0 = some (R.1, h') ∧ q_rep R.2.1 R.2.2 h' := by
  unfold qm_lcmp at hk
  unfold pm_lcmp
  (repeat' split at hk) <;> first
    | exact hS _ _ _ _ _ _ _ hr hk
    | (cases hk; done)
    | (simp only [*]; exact hS _ _ _ _ _ _ _ hr hk)
    | (simp [*]; exact hS _ _ _ _ _ _ _ hr hk)
theorem qs_ldcs {kq : qK} {kp : pm_K} (hS : q_S kq kp) {lv : pm_L} {st : List Value} {g : qM} {u : qW} {h : pm_H} {R : Option Value × qM × qW} (hr : q_rep g u h) (b pc : Nat) (hk : qm_ldcs kq b pc lv st g u = some R) : ∃ h', pm_ldcs kp b pc lv st h 0 0 = some (R.1, h') ∧ q_rep R.2.1 R.2.2 h' := by
  unfold qm_ldcs at hk
  unfold pm_ldcs
  (repeat' split at hk) <;> first
    | exact hS _ _ _ _ _ _ _ hr hk
    | (cases hk; done)
    | (simp only [*]; exact hS _ _ _ _ _ _ _ hr hk)
    | (simp [*]; exact hS _ _ _ _ _ _ _ hr hk)
theorem qs_slen {kq : qK} {kp : pm_K} (hS : q_S kq kp) {lv : pm_L} {st : List Value} {g : qM} {u : qW} {h : pm_H} {R : Option Value × qM × qW} (hr : q_rep g u h) (pc : Nat) (hk : qm_slen kq pc lv st g u = some R) : ∃ h', pm_slen kp pc lv st h 0 0 = some (R.1, h') ∧ q_rep R.2.1 R.2.2 h' := by
  unfold qm_slen at hk
  unfold pm_slen
  (repeat' split at hk) <;> first
    | exact hS _ _ _ _ _ _ _ hr hk
    | (cases hk; done)
    | (simp only [*]; exact hS _ _ _ _ _ _ _ hr hk)
    | (simp [*]; exact hS _ _ _ _ _ _ _ hr hk)
theorem qs_sch {kq : qK} {kp : pm_K} (hS : q_S kq kp) {lv : pm_L} {st : List Value} {g : qM} {u : qW} {h : pm_H} {R : Option Value × qM × qW} (hr : q_rep g u h) (pc : Nat) (hk : qm_sch kq pc lv st g u = some R) : ∃ h', pm_sch kp pc lv st h 0 0 = some (R.1, h') ∧ q_rep R.2.1 R.2.2 h' := by
  unfold qm_sch at hk
  unfold pm_sch
  (repeat' split at hk) <;> first
    | exact hS _ _ _ _ _ _ _ hr hk
    | (cases hk; done)
    | (simp only [*]; exact hS _ _ _ _ _ _ _ hr hk)
    | (simp [*]; exact hS _ _ _ _ _ _ _ hr hk)
theorem qs_i2l {kq : qK} {kp : pm_K} (hS : q_S kq kp) {lv : pm_L} {st : List Value} {g : qM} {u : qW} {h : pm_H} {R : Option Value × qM × qW} (hr : q_rep g u h) (pc : Nat) (hk : qm_i2l kq pc lv st g u = some R) : ∃ h', pm_i2l kp pc lv st h 0 0 = some (R.1, h') ∧ q_rep R.2.1 R.2.2 h' := by
  unfold qm_i2l at hk
  unfold pm_i2l
  (repeat' split at hk) <;> first
    | exact hS _ _ _ _ _ _ _ hr hk
    | (cases hk; done)
    | (simp only [*]; exact hS _ _ _ _ _ _ _ hr hk)
    | (simp [*]; exact hS _ _ _ _ _ _ _ hr hk)
theorem q_ar {g : qM} {u : qW} {h : pm_H} {a t n : Nat} (hr : q_rep g u h) (hs : q_sh a = some (.inl (t, n))) : pm_cell h a = some (.inl (t, (List.range n).map (g a))) := by
  rw [hr a]
  unfold q_cel
  rw [hs]
theorem q_lo {g : qM} {u : qW} {h : pm_H} {a n : Nat} (hr : q_rep g u h) (hs : q_sh a = some (.inr (.inl n))) : pm_cell h a = some (.inr (.inl (3, (List.range n).map u))) := by
  rw [hr a]
  unfold q_cel
  rw [hs]
theorem q_rr {g : qM} {u : qW} {h : pm_H} {a t : Nat} {l : List Nat} (hr : q_rep g u h) (hs : q_sh a = some (.inr (.inr (.inl (t, l))))) : pm_cell h a = some (.inr (.inr (.inl (t, l.map some)))) := by
  rw [hr a]
  unfold q_cel
  rw [hs]
theorem q_ob {g : qM} {u : qW} {h : pm_H} {a ci : Nat} {fs : List (Option Nat)} (hr : q_rep g u h) (hs : q_sh a = some (.inr (.inr (.inr (ci, fs))))) : pm_cell h a = some (.inr (.inr (.inr (ci, q_fs (g a) fs 0)))) := by
  rw [hr a]
  unfold q_cel
  rw [hs]
theorem q_wi {g : qM} {u : qW} {h : pm_H} {a t n j : Nat} {x : Int32} (hr : q_rep g u h) (hs : q_sh a = some (.inl (t, n))) : q_rep (q_up g a j x) u (h.set (a - 8) (.inl (t, ((List.range n).map (g a)).set j x))) := by
  refine hr.set hs (fun b hb => q_up_ne hb) (Or.inl rfl) ?_
  unfold q_cel
  rw [hs]
  dsimp only
  rw [q_map_set (g a) (q_up g a j x a) n j x (by rw [q_up_at, if_pos rfl]) (fun i hi => by rw [q_up_at, if_neg hi])]
theorem q_long1 : ∀ b, b ≠ 43 → ∀ n, q_sh b ≠ some (.inr (.inl n)) := by
  intro b hb n e
  have h8 := q_sh8 e
  have hc : (List.range 80).all (fun i => match q_sh (i + 8) with
    | some (.inr (.inl _)) => Nat.beq i 35
    | _ => true) = true := by decide +kernel
  by_cases hl : b - 8 < 80
  · have h1 := List.all_eq_true.mp hc (b - 8) (List.mem_range.mpr hl)
    rw [show b - 8 + 8 = b by omega, e] at h1
    have := Nat.eq_of_beq_eq_true h1
    omega
  · unfold q_sh at e
    split at e
    · rw [List.getElem?_eq_none (show q_tab.length ≤ (b - 8) / 8 by show 10 ≤ (b - 8) / 8; omega)] at e
      cases e
    · cases e
theorem q_sh43 {a n : Nat} (h : q_sh a = some (.inr (.inl n))) : a = 43 := by
  rcases Nat.decEq a 43 with q | q
  · exact absurd h (q_long1 a q n)
  · exact q
theorem q_wl {g : qM} {u : qW} {h : pm_H} {a n j : Nat} {x : Int64} (hr : q_rep g u h) (hs : q_sh a = some (.inr (.inl n))) : q_rep g (q_uw u j x) (h.set (a - 8) (.inr (.inl (3, ((List.range n).map u).set j x)))) := by
  refine hr.set hs (fun b hb => rfl) (Or.inr (fun b hb => q_long1 b (by rw [← q_sh43 hs]; exact hb))) ?_
  unfold q_cel
  rw [hs]
  dsimp only
  rw [q_map_set u (q_uw u j x) n j x (by unfold q_uw; rw [Nat.beq_refl]) (fun i hi => by
    unfold q_uw
    cases e : Nat.beq i j with
    | true => exact absurd (Nat.eq_of_beq_eq_true e) hi
    | false => rfl)]
theorem q_wo {g : qM} {u : qW} {h : pm_H} {a ci f : Nat} {fs : List (Option Nat)} {x : Int32} (hr : q_rep g u h) (hs : q_sh a = some (.inr (.inr (.inr (ci, fs))))) (hf : fs[f]? = some none) : q_rep (q_up g a f x) u (h.set (a - 8) (.inr (.inr (.inr (ci, (q_fs (g a) fs 0).set f (.int x)))))) := by
  refine hr.set hs (fun b hb => q_up_ne hb) (Or.inl rfl) ?_
  unfold q_cel
  rw [hs]
  dsimp only
  rw [q_fs_set (f := g a) (f' := q_up g a f x a) (j := 0) (i := f) (x := x) hf (by rw [q_up_at, Nat.zero_add, if_pos rfl]) (fun k hk => by rw [q_up_at, if_neg (by omega)])]
theorem qs_getf {kq : qK} {kp : pm_K} (hS : q_S kq kp) {lv : pm_L} {st : List Value} {g : qM} {u : qW} {h : pm_H} {R : Option Value × qM × qW} (hr : q_rep g u h) (ci f pc : Nat) (hk : qm_getf kq ci f pc lv st g u = some R) : ∃ h', pm_getf kp ci f pc lv st h 0 0 = some (R.1, h') ∧ q_rep R.2.1 R.2.2 h' := by
  unfold qm_getf at hk
  unfold pm_getf
  split at hk
  · split at hk
    · rename_i a r cj fs hs
      split at hk
      · rename_i e
        dsimp only
        rw [q_ob hr hs]
        dsimp only
        rw [if_pos e]
        split at hk
        · rename_i hf
          rw [q_fs_get hf]
          dsimp only
          rw [Nat.zero_add]
          exact hS _ _ _ _ _ _ _ hr hk
        · rename_i b hf
          rw [q_fs_get hf]
          exact hS _ _ _ _ _ _ _ hr hk
        · cases hk
      · cases hk
    · cases hk
  · cases hk
theorem qs_putf {kq : qK} {kp : pm_K} (hS : q_S kq kp) {lv : pm_L} {st : List Value} {g : qM} {u : qW} {h : pm_H} {R : Option Value × qM × qW} (hr : q_rep g u h) (ci f pc : Nat) (hk : qm_putf kq ci f pc lv st g u = some R) : ∃ h', pm_putf kp ci f pc lv st h 0 0 = some (R.1, h') ∧ q_rep R.2.1 R.2.2 h' := by
  unfold qm_putf at hk
  unfold pm_putf
  split at hk
  · split at hk
    · rename_i x a r cj fs hs
      split at hk
      · rename_i e
        subst e
        dsimp only
        rw [q_ob hr hs]
        dsimp only
        rw [if_pos rfl]
        split at hk
        · rename_i hf
          rw [if_pos (by rw [q_fs_len]; exact (List.getElem?_eq_some_iff.mp hf).1)]
          split at hk
          · rename_i hq
            rw [hq]
            exact hS _ _ _ _ _ _ _ (q_wo hr hs hf) hk
          · cases hk
        · cases hk
      · cases hk
    · cases hk
  · cases hk
theorem qs_iald {kq : qK} {kp : pm_K} (hS : q_S kq kp) {lv : pm_L} {st : List Value} {g : qM} {u : qW} {h : pm_H} {R : Option Value × qM × qW} (hr : q_rep g u h) (xs : List Int32) (pc : Nat) (hk : qm_iald kq pc lv st g u = some R) : ∃ h', pm_iald kp xs pc lv st h 0 0 = some (R.1, h') ∧ q_rep R.2.1 R.2.2 h' := by
  unfold qm_iald at hk
  unfold pm_iald
  split at hk
  · split at hk
    · rename_i i a r _ t m hs
      split at hk
      · rename_i e
        split at hk
        · cases hk
        · rename_i hi
          split at hk
          · rename_i hj
            dsimp only
            rw [if_neg hi]
            rw [if_neg (show ¬ a = 0 from fun q => by rw [q] at hs; cases hs)]
            rw [q_ar hr hs]
            dsimp only
            rw [if_pos e, q_map_get hj]
            exact hS _ _ _ _ _ _ _ hr hk
          · cases hk
      · cases hk
    · cases hk
  · cases hk
theorem qs_bald {kq : qK} {kp : pm_K} (hS : q_S kq kp) {lv : pm_L} {st : List Value} {g : qM} {u : qW} {h : pm_H} {R : Option Value × qM × qW} (hr : q_rep g u h) (pc : Nat) (hk : qm_bald kq pc lv st g u = some R) : ∃ h', pm_bald kp pc lv st h 0 0 = some (R.1, h') ∧ q_rep R.2.1 R.2.2 h' := by
  unfold qm_bald at hk
  unfold pm_bald
  split at hk
  · split at hk
    · rename_i i a r _ t m hs
      split at hk
      · rename_i e
        split at hk
        · cases hk
        · rename_i hi
          split at hk
          · rename_i hj
            dsimp only
            rw [if_neg hi]
            skip
            rw [q_ar hr hs]
            dsimp only
            rw [if_pos e, q_map_get hj]
            exact hS _ _ _ _ _ _ _ hr hk
          · cases hk
      · cases hk
    · cases hk
  · cases hk
theorem qs_lald {kq : qK} {kp : pm_K} (hS : q_S kq kp) {lv : pm_L} {st : List Value} {g : qM} {u : qW} {h : pm_H} {R : Option Value × qM × qW} (hr : q_rep g u h) (pc : Nat) (hk : qm_lald kq pc lv st g u = some R) : ∃ h', pm_lald kp pc lv st h 0 0 = some (R.1, h') ∧ q_rep R.2.1 R.2.2 h' := by
  unfold qm_lald at hk
  unfold pm_lald
  split at hk
  · split at hk
    · rename_i i a r m hs
      split at hk
      · cases hk
      · rename_i hi
        split at hk
        · rename_i hj
          dsimp only
          rw [if_neg hi]
          rw [q_lo hr hs]
          dsimp only
          rw [if_pos rfl, q_map_get hj]
          exact hS _ _ _ _ _ _ _ hr hk
        · cases hk
    · cases hk
  · cases hk
theorem qs_aald {kq : qK} {kp : pm_K} (hS : q_S kq kp) {lv : pm_L} {st : List Value} {g : qM} {u : qW} {h : pm_H} {R : Option Value × qM × qW} (hr : q_rep g u h) (pc : Nat) (hk : qm_aald kq pc lv st g u = some R) : ∃ h', pm_aald kp pc lv st h 0 0 = some (R.1, h') ∧ q_rep R.2.1 R.2.2 h' := by
  unfold qm_aald at hk
  unfold pm_aald
  split at hk
  · split at hk
    · rename_i i a r t l hs
      split at hk
      · rename_i e
        split at hk
        · cases hk
        · rename_i hi
          split at hk
          · rename_i x hj
            dsimp only
            rw [if_neg hi, q_rr hr hs]
            dsimp only
            rw [if_pos e, List.getElem?_map, hj]
            exact hS _ _ _ _ _ _ _ hr hk
          · cases hk
      · cases hk
    · cases hk
  · cases hk
theorem qs_iast {kq : qK} {kp : pm_K} (hS : q_S kq kp) {lv : pm_L} {st : List Value} {g : qM} {u : qW} {h : pm_H} {R : Option Value × qM × qW} (hr : q_rep g u h) (pc : Nat) (hk : qm_iast kq pc lv st g u = some R) : ∃ h', pm_iast kp pc lv st h 0 0 = some (R.1, h') ∧ q_rep R.2.1 R.2.2 h' := by
  unfold qm_iast at hk
  unfold pm_iast
  split at hk
  · split at hk
    · rename_i x i a r t m hs
      split at hk
      · rename_i e
        subst e
        split at hk
        · cases hk
        · rename_i hi
          split at hk
          · rename_i hj
            dsimp only
            rw [if_neg hi, q_ar hr hs]
            dsimp only
            rw [if_pos rfl, if_pos (by rw [List.length_map, List.length_range]; exact hj)]
            exact hS _ _ _ _ _ _ _ (q_wi hr hs) hk
          · cases hk
      · cases hk
    · cases hk
  · cases hk
theorem qs_bast {kq : qK} {kp : pm_K} (hS : q_S kq kp) {lv : pm_L} {st : List Value} {g : qM} {u : qW} {h : pm_H} {R : Option Value × qM × qW} (hr : q_rep g u h) (pc : Nat) (hk : qm_bast kq pc lv st g u = some R) : ∃ h', pm_bast kp pc lv st h 0 0 = some (R.1, h') ∧ q_rep R.2.1 R.2.2 h' := by
  unfold qm_bast at hk
  unfold pm_bast
  split at hk
  · split at hk
    · rename_i x i a r t m hs
      split at hk
      · rename_i e
        subst e
        split at hk
        · cases hk
        · rename_i hi
          split at hk
          · rename_i hj
            dsimp only
            rw [if_neg hi, q_ar hr hs]
            dsimp only
            rw [if_pos rfl, if_pos (by rw [List.length_map, List.length_range]; exact hj)]
            exact hS _ _ _ _ _ _ _ (q_wi hr hs) hk
          · cases hk
      · split at hk
        · rename_i e1 e
          subst e
          split at hk
          · cases hk
          · rename_i hi
            split at hk
            · rename_i hj
              dsimp only
              rw [if_neg hi, q_ar hr hs]
              dsimp only
              rw [if_neg (by decide), if_pos rfl, if_pos (by rw [List.length_map, List.length_range]; exact hj)]
              exact hS _ _ _ _ _ _ _ (q_wi hr hs) hk
            · cases hk
        · cases hk
    · cases hk
  · cases hk
theorem qs_last {kq : qK} {kp : pm_K} (hS : q_S kq kp) {lv : pm_L} {st : List Value} {g : qM} {u : qW} {h : pm_H} {R : Option Value × qM × qW} (hr : q_rep g u h) (pc : Nat) (hk : qm_last kq pc lv st g u = some R) : ∃ h', pm_last kp pc lv st h 0 0 = some (R.1, h') ∧ q_rep R.2.1 R.2.2 h' := by
  unfold qm_last at hk
  unfold pm_last
  split at hk
  · split at hk
    · rename_i x i a r m hs
      split at hk
      · cases hk
      · rename_i hi
        split at hk
        · rename_i hj
          dsimp only
          rw [if_neg hi, q_lo hr hs]
          dsimp only
          rw [if_pos rfl, if_pos (by rw [List.length_map, List.length_range]; exact hj)]
          exact hS _ _ _ _ _ _ _ (q_wl hr hs) hk
        · cases hk
    · cases hk
  · cases hk
theorem qs_alen {kq : qK} {kp : pm_K} (hS : q_S kq kp) {lv : pm_L} {st : List Value} {g : qM} {u : qW} {h : pm_H} {R : Option Value × qM × qW} (hr : q_rep g u h) (xs : List Int32) (pc : Nat) (hk : qm_alen kq pc lv st g u = some R) : ∃ h', pm_alen kp xs pc lv st h 0 0 = some (R.1, h') ∧ q_rep R.2.1 R.2.2 h' := by
  unfold qm_alen at hk
  unfold pm_alen
  split at hk
  · split at hk
    · rename_i a r _ t m hs
      split at hk
      · rename_i e
        dsimp only
        rw [if_neg (show ¬ a = 0 from fun q => by rw [q] at hs; cases hs), q_ar hr hs]
        dsimp only
        rw [if_pos e, List.length_map, List.length_range]
        exact hS _ _ _ _ _ _ _ hr hk
      · cases hk
    · cases hk
  · cases hk
theorem q_cp_ok {g : qM} {u : qW} {h : pm_H} {a b t v na nb n : Nat} (hr : q_rep g u h) (ha : q_sh a = some (.inl (t, na))) (hb : q_sh b = some (.inl (v, nb))) (h1 : n ≤ nb) (h2 : n ≤ na) : q_rep (q_cp g a b n) u (h.set (a - 8) (.inl (t, pm_cpy ((List.range nb).map (g b)) ((List.range na).map (g a)) 0 0 n))) := by
  refine hr.set ha (fun c hc => ?_) (Or.inl rfl) ?_
  · funext i
    unfold q_cp
    cases e : Nat.beq c a with
    | true => exact absurd (Nat.eq_of_beq_eq_true e) hc
    | false => rfl
  · unfold q_cel
    rw [ha]
    dsimp only
    refine congrArg (fun l => some (Sum.inl (t, l))) ?_
    unfold pm_cpy
    apply List.ext_getElem?
    intro i
    rw [List.drop_zero, List.take_zero, List.nil_append, Nat.zero_add]
    by_cases hi : i < n
    · rw [List.getElem?_append_left (by rw [List.length_take, List.length_map, List.length_range]; omega), List.getElem?_take_of_lt hi, q_map_get (by omega), q_map_get (by omega)]
      unfold q_cp
      rw [Nat.beq_refl, Nat.ble_eq_true_of_le hi]
      rfl
    · rw [List.getElem?_append_right (by rw [List.length_take, List.length_map, List.length_range]; omega), List.getElem?_drop, List.length_take, List.length_map, List.length_range, show n + (i - min n nb) = i by omega, List.getElem?_map, List.getElem?_map]
      by_cases hl : i < na
      · rw [List.getElem?_range hl]
        show some (q_cp g a b n a i) = some (g a i)
        unfold q_cp
        rw [Nat.beq_refl]
        cases e : Nat.ble (i + 1) n with
        | true => exact absurd (Nat.le_of_ble_eq_true e) (by omega)
        | false => rfl
      · rw [List.getElem?_eq_none (by rw [List.length_range]; omega)]
        rfl
theorem qs_copy {kq : qK} {kp : pm_K} (hS : q_S kq kp) {lv : pm_L} {st : List Value} {g : qM} {u : qW} {h : pm_H} {R : Option Value × qM × qW} (hr : q_rep g u h) (pc : Nat) (hk : qm_copy kq pc lv st g u = some R) : ∃ h', pm_copy kp pc lv st h 0 0 = some (R.1, h') ∧ q_rep R.2.1 R.2.2 h' := by
  unfold qm_copy at hk
  unfold pm_copy
  split at hk
  · rename_i n dp a sp b
    split at hk
    · rename_i e1
      subst e1
      split at hk
      · rename_i e2
        subst e2
        split at hk
        · cases hk
        · rename_i hn
          split at hk
          · rename_i t na v nb ha hb
            split at hk
            · rename_i e
              obtain ⟨e1, e2⟩ := e
              subst e1
              subst e2
              split at hk
              · rename_i h1
                split at hk
                · rename_i h2
                  dsimp only
                  rw [if_neg (by decide), if_neg (by decide), if_neg hn, q_ar hr ha, q_ar hr hb]
                  dsimp only
                  rw [if_pos ⟨rfl, rfl⟩, if_pos (by rw [List.length_map, List.length_range]; show 0 + n.toNatClampNeg ≤ nb; omega), if_pos (by rw [List.length_map, List.length_range]; show 0 + n.toNatClampNeg ≤ na; omega)]
                  exact hS _ _ _ _ _ _ _ (q_cp_ok hr ha hb h1 h2) hk
                · cases hk
              · cases hk
            · cases hk
          · cases hk
      · cases hk
    · cases hk
  · cases hk
theorem qs_call {kq : qK} {kp : pm_K} (hS : q_S kq kp) {lv : pm_L} {g : qM} {u : qW} {h : pm_H} {R : Option Value × qM × qW} (hr : q_rep g u h) {bq : Nat → List Value → qM → qW → qR} {bp : Nat → List Value → pm_H → pm_R} (hB : ∀ M2 as g u h R, q_rep g u h → bq M2 as g u = some R → ∃ h', bp M2 as h = some (R.1, h') ∧ q_rep R.2.1 R.2.2 h') (mm m2 : pm_M) (M2 pc : Nat) (as rest : List Value) (hk : qm_call kq bq m2 M2 pc lv as rest g u = some R) : ∃ h', pm_call kp bp mm m2 M2 pc lv as rest h 0 0 = some (R.1, h') ∧ q_rep R.2.1 R.2.2 h' := by
  unfold qm_call at hk
  unfold pm_call
  split at hk
  · rename_i e1
    split at hk
    · rename_i e2
      split at hk
      · rename_i e3
        rw [if_pos e1, e2, e3, if_pos (Nat.zero_le _), if_pos (Nat.zero_le _)]
        split at hk
        · rename_i r g' u' hb
          obtain ⟨h1, hb1, hr1⟩ := hB _ _ _ _ _ _ hr hb
          rw [hb1]
          exact hS _ _ _ _ _ _ _ hr1 hk
        · cases hk
      · cases hk
    · cases hk
  · cases hk
theorem qs_inv {kq : qK} {kp : pm_K} (hS : q_S kq kp) {lv : pm_L} {st : List Value} {g : qM} {u : qW} {h : pm_H} {R : Option Value × qM × qW} (hr : q_rep g u h) {bq : Nat → List Value → qM → qW → qR} {bp : Nat → List Value → pm_H → pm_R} (hB : ∀ M2 as g u h R, q_rep g u h → bq M2 as g u = some R → ∃ h', bp M2 as h = some (R.1, h') ∧ q_rep R.2.1 R.2.2 h') (tab : Nat → Option pm_M) (mm : pm_M) (M2 pc : Nat) (hk : qm_inv kq tab bq M2 pc lv st g u = some R) : ∃ h', pm_inv kp tab bp mm M2 pc lv st h 0 0 = some (R.1, h') ∧ q_rep R.2.1 R.2.2 h' := by
  unfold qm_inv at hk
  unfold pm_inv
  split at hk
  · cases hk
  · rename_i m2 hm
    rw [hm]
    dsimp only
    split at hk
    · rename_i hl
      rw [if_pos hl]
      split at hk
      · rename_i a as hst
        rw [hst]
        dsimp only
        split at hk
        · rename_i cj fs hs
          rw [q_ob hr hs]
          dsimp only
          split at hk
          · rename_i e
            rw [if_pos e]
            exact qs_call hS hr hB _ _ _ _ _ _ hk
          · cases hk
        · cases hk
      · cases hk
    · cases hk
theorem qs_ins {kq : qK} {kp : pm_K} (hS : q_S kq kp) {lv : pm_L} {st : List Value} {g : qM} {u : qW} {h : pm_H} {R : Option Value × qM × qW} (hr : q_rep g u h) {bq : Nat → List Value → qM → qW → qR} {bp : Nat → List Value → pm_H → pm_R} (hB : ∀ M2 as g u h R, q_rep g u h → bq M2 as g u = some R → ∃ h', bp M2 as h = some (R.1, h') ∧ q_rep R.2.1 R.2.2 h') (tab : Nat → Option pm_M) (mm : pm_M) (M2 pc : Nat) (hk : qm_ins kq tab bq M2 pc lv st g u = some R) : ∃ h', pm_ins kp tab bp mm M2 pc lv st h 0 0 = some (R.1, h') ∧ q_rep R.2.1 R.2.2 h' := by
  unfold qm_ins at hk
  unfold pm_ins
  split at hk
  · cases hk
  · rename_i m2 hm
    rw [hm]
    dsimp only
    split at hk
    · rename_i hl
      rw [if_pos hl]
      exact qs_call hS hr hB _ _ _ _ _ _ hk
    · cases hk
theorem qs_ret {mm : pm_M} {st : List Value} {g : qM} {u : qW} {h : pm_H} {R : Option Value × qM × qW} (hr : q_rep g u h) (hk : qm_ret mm st g u = some R) : ∃ h', pm_ret mm st h = some (R.1, h') ∧ q_rep R.2.1 R.2.2 h' := by
  unfold qm_ret at hk
  unfold pm_ret
  (repeat' split at hk) <;> first
    | (cases hk; exact ⟨h, by simp only [*], hr⟩)
    | (cases hk; exact ⟨h, rfl, hr⟩)
    | (cases hk; done)
theorem qs_retl {mm : pm_M} {st : List Value} {g : qM} {u : qW} {h : pm_H} {R : Option Value × qM × qW} (hr : q_rep g u h) (hk : qm_retl mm st g u = some R) : ∃ h', pm_retl mm st h = some (R.1, h') ∧ q_rep R.2.1 R.2.2 h' := by
  unfold qm_retl at hk
  unfold pm_retl
  (repeat' split at hk) <;> first
    | (cases hk; exact ⟨h, by simp only [*], hr⟩)
    | (cases hk; exact ⟨h, rfl, hr⟩)
    | (cases hk; done)
theorem qs_reta {mm : pm_M} {st : List Value} {g : qM} {u : qW} {h : pm_H} {R : Option Value × qM × qW} (hr : q_rep g u h) (hk : qm_reta mm st g u = some R) : ∃ h', pm_reta mm st h = some (R.1, h') ∧ q_rep R.2.1 R.2.2 h' := by
  unfold qm_reta at hk
  unfold pm_reta
  (repeat' split at hk) <;> first
    | (cases hk; exact ⟨h, by simp only [*], hr⟩)
    | (cases hk; exact ⟨h, rfl, hr⟩)
    | (cases hk; done)
theorem qs_retv {mm : pm_M} {st : List Value} {g : qM} {u : qW} {h : pm_H} {R : Option Value × qM × qW} (hr : q_rep g u h) (hk : qm_retv mm st g u = some R) : ∃ h', pm_retv mm st h = some (R.1, h') ∧ q_rep R.2.1 R.2.2 h' := by
  unfold qm_retv at hk
  unfold pm_retv
  (repeat' split at hk) <;> first
    | (cases hk; exact ⟨h, by simp only [*], hr⟩)
    | (cases hk; exact ⟨h, rfl, hr⟩)
    | (cases hk; done)
theorem qs_step {xs : List Int32} {tab : Nat → Option pm_M} {mm : pm_M} {e : pm_E} {pc : Nat} {kq : qK} {kp : pm_K} (hS : q_S kq kp) {lv : pm_L} {st : List Value} {g : qM} {u : qW} {h : pm_H} {R : Option Value × qM × qW} (hr : q_rep g u h) {bq : Nat → List Value → qM → qW → qR} {bp : Nat → List Value → pm_H → pm_R} (hB : ∀ M2 as g u h R, q_rep g u h → bq M2 as g u = some R → ∃ h', bp M2 as h = some (R.1, h') ∧ q_rep R.2.1 R.2.2 h') (hk : qm_step tab bq mm kq e pc lv st g u = some R) : ∃ h', pm_step xs tab bp mm kp e pc lv st h 0 0 = some (R.1, h') ∧ q_rep R.2.1 R.2.2 h' := by
  obtain ⟨i, a, b, z⟩ := e
  cases i with
  | iconst n => exact hS _ _ _ _ _ _ _ hr hk
  | bipush n => exact hS _ _ _ _ _ _ _ hr hk
  | sipush n => exact hS _ _ _ _ _ _ _ hr hk
  | lconst n => exact hS _ _ _ _ _ _ _ hr hk
  | ldc2_w ix => exact hS _ _ _ _ _ _ _ hr hk
  | iload_n i => exact qs_ldi hS hr _ _ hk
  | iload i => exact qs_ldi hS hr _ _ hk
  | lload_n i => exact qs_ldl hS hr _ _ hk
  | lload i => exact qs_ldl hS hr _ _ hk
  | aload_n i => exact qs_lda hS hr _ _ hk
  | aload i => exact qs_lda hS hr _ _ hk
  | istore_n i => exact qs_sti hS hr _ _ _ hk
  | istore i => exact qs_sti hS hr _ _ _ hk
  | lstore_n i => exact qs_stl hS hr _ _ _ hk
  | lstore i => exact qs_stl hS hr _ _ _ hk
  | astore_n i => exact qs_sta hS hr _ _ _ hk
  | astore i => exact qs_sta hS hr _ _ _ hk
  | iinc i n => exact qs_iinc hS hr _ _ _ _ hk
  | iadd => exact qs_bi hS hr _ _ hk
  | isub => exact qs_bi hS hr _ _ hk
  | imul => exact qs_bi hS hr _ _ hk
  | iand => exact qs_bi hS hr _ _ hk
  | ior => exact qs_bi hS hr _ _ hk
  | ixor => exact qs_bi hS hr _ _ hk
  | ishl => exact qs_bi hS hr _ _ hk
  | ishr => exact qs_bi hS hr _ _ hk
  | iushr => exact qs_bi hS hr _ _ hk
  | idiv => exact qs_bz hS hr _ _ hk
  | irem => exact qs_bz hS hr _ _ hk
  | ladd => exact qs_bl hS hr _ _ hk
  | lmul => exact qs_bl hS hr _ _ hk
  | ldiv => exact qs_blz hS hr _ _ hk
  | lrem => exact qs_blz hS hr _ _ hk
  | ineg => exact qs_u hS hr _ _ hk
  | i2b => exact qs_u hS hr _ _ hk
  | i2s => exact qs_u hS hr _ _ hk
  | i2l => exact qs_i2l hS hr _ hk
  | lcmp => exact qs_lcmp hS hr _ hk
  | dup => exact qs_dup hS hr _ hk
  | dup2 => exact qs_dup2 hS hr _ hk
  | pop => exact qs_pop hS hr _ hk
  | pop2 => exact qs_pop2 hS hr _ hk
  | ifCond cd ix => exact qs_if hS hr _ _ _ hk
  | if_icmp cd ix => exact qs_ic hS hr _ _ _ hk
  | goto ix => exact hS _ _ _ _ _ _ _ hr hk
  | tableswitch d lo hi offs => exact qs_tsw hS hr _ _ _ _ _ hk
  | getfield ix => exact qs_getf hS hr _ _ _ hk
  | putfield ix => exact qs_putf hS hr _ _ _ hk
  | iaload => exact qs_iald hS hr _ _ hk
  | baload => exact qs_bald hS hr _ hk
  | laload => exact qs_lald hS hr _ hk
  | aaload => exact qs_aald hS hr _ hk
  | iastore => exact qs_iast hS hr _ hk
  | bastore => exact qs_bast hS hr _ hk
  | lastore => exact qs_last hS hr _ hk
  | arraylength => exact qs_alen hS hr _ _ hk
  | ireturn => exact qs_ret hr hk
  | lreturn => exact qs_retl hr hk
  | areturn => exact qs_reta hr hk
  | return_ => exact qs_retv hr hk
  | ldc ix =>
    have hk1 : (if a = 0 then kq (pc + 2) lv (.int (Int32.ofInt z) :: st) g u else if a = 1 then qm_ldcs kq b pc lv st g u else none) = some R := hk
    show ∃ h', (if a = 0 then kp (pc + 2) lv (.int (Int32.ofInt z) :: st) h 0 0 else if a = 1 then pm_ldcs kp b pc lv st h 0 0 else none) = some (R.1, h') ∧ q_rep R.2.1 R.2.2 h'
    split at hk1
    · rename_i e
      rw [if_pos e]
      exact hS _ _ _ _ _ _ _ hr hk1
    · rename_i e
      rw [if_neg e]
      split at hk1
      · rename_i e2
        rw [if_pos e2]
        exact qs_ldcs hS hr _ _ hk1
      · cases hk1
  | ldc_w ix =>
    have hk1 : (if a = 0 then kq (pc + 3) lv (.int (Int32.ofInt z) :: st) g u else none) = some R := hk
    show ∃ h', (if a = 0 then kp (pc + 3) lv (.int (Int32.ofInt z) :: st) h 0 0 else none) = some (R.1, h') ∧ q_rep R.2.1 R.2.2 h'
    split at hk1
    · rename_i e
      rw [if_pos e]
      exact hS _ _ _ _ _ _ _ hr hk1
    · cases hk1
  | invokevirtual ix =>
    have hk1 : (if b = 0 then qm_inv kq tab bq a pc lv st g u else if b = 4 then qm_slen kq pc lv st g u else if b = 5 then qm_sch kq pc lv st g u else none) = some R := hk
    show ∃ h', (if b = 0 then pm_inv kp tab bp mm a pc lv st h 0 0 else if b = 4 then pm_slen kp pc lv st h 0 0 else if b = 5 then pm_sch kp pc lv st h 0 0 else none) = some (R.1, h') ∧ q_rep R.2.1 R.2.2 h'
    split at hk1
    · rename_i e
      rw [if_pos e]
      exact qs_inv hS hr hB _ _ _ _ hk1
    · rename_i e
      rw [if_neg e]
      split at hk1
      · rename_i e2
        rw [if_pos e2]
        exact qs_slen hS hr _ hk1
      · rename_i e2
        rw [if_neg e2]
        split at hk1
        · rename_i e3
          rw [if_pos e3]
          exact qs_sch hS hr _ hk1
        · cases hk1
  | invokespecial ix =>
    have hk1 : (if b = 1 then qm_inv kq tab bq a pc lv st g u else none) = some R := hk
    show ∃ h', (if b = 1 then pm_inv kp tab bp mm a pc lv st h 0 0 else if b = 9 then pm_obj kp pc lv st h 0 0 else none) = some (R.1, h') ∧ q_rep R.2.1 R.2.2 h'
    split at hk1
    · rename_i e
      rw [if_pos e]
      exact qs_inv hS hr hB _ _ _ _ hk1
    · cases hk1
  | invokestatic ix =>
    have hk1 : (if b = 8 then qm_copy kq pc lv st g u else if b = 2 ∨ b = 3 then qm_ins kq tab bq a pc lv st g u else none) = some R := hk
    show ∃ h', (if b = 8 then pm_copy kp pc lv st h 0 0 else if b = 2 ∨ b = 3 then pm_ins kp tab bp mm a pc lv st h 0 0 else none) = some (R.1, h') ∧ q_rep R.2.1 R.2.2 h'
    split at hk1
    · rename_i e
      rw [if_pos e]
      exact qs_copy hS hr _ hk1
    · rename_i e
      rw [if_neg e]
      split at hk1
      · rename_i e2
        rw [if_pos e2]
        exact qs_ins hS hr hB _ _ _ _ hk1
      · cases hk1
  | _ => exact absurd (show (none : qR) = some R from hk) (fun q => by cases q)
theorem qs_run {xs : List Int32} {tab : Nat → Option pm_M} {mm : pm_M} {bq : Nat → List Value → qM → qW → qR} {bp : Nat → List Value → pm_H → pm_R} (hB : ∀ M2 as g u h R, q_rep g u h → bq M2 as g u = some R → ∃ h', bp M2 as h = some (R.1, h') ∧ q_rep R.2.1 R.2.2 h') : ∀ n, q_S (qm_run tab bq mm n) (pm_run xs tab bp mm n)
  | 0 => fun _ _ _ _ _ _ _ _ hk => by cases hk
  | n + 1 => fun pc lv st g u h R hr hk => by
    have hk1 : (match pm_at mm pc with
      | some e => qm_step tab bq mm (qm_run tab bq mm n) e pc lv st g u
      | none => none) = some R := hk
    show ∃ h', (match pm_at mm pc with
      | some e => pm_step xs tab bp mm (pm_run xs tab bp mm n) e pc lv st h 0 0
      | none => none) = some (R.1, h') ∧ q_rep R.2.1 R.2.2 h'
    split at hk1
    · rename_i e he
      exact qs_step (qs_run hB n) hr hB hk1
    · cases hk1
theorem qs_big {xs : List Int32} {tab : Nat → Option pm_M} {N : Nat} : ∀ d M as g u h R, q_rep g u h → qm_big tab N d M as g u = some R → ∃ h', pm_big xs tab N d M as h = some (R.1, h') ∧ q_rep R.2.1 R.2.2 h'
  | 0, _, _, _, _, _, _, _, hk => by cases hk
  | d + 1, M, as, g, u, h, R, hr, hk => by
    have hk1 : (match tab M with
      | some mm => if pm_words as ≤ pm_ml mm then (if as.length = pm_n mm then qm_run tab (qm_big tab N d) mm N 0 (lv_args 0 as) [] g u else none) else none
      | none => none) = some R := hk
    show ∃ h', (match tab M with
      | some mm => if pm_words as ≤ pm_ml mm then (if as.length = pm_n mm then pm_run xs tab (pm_big xs tab N d) mm N 0 (lv_args 0 as) [] h 0 0 else none) else none
      | none => none) = some (R.1, h') ∧ q_rep R.2.1 R.2.2 h'
    split at hk1
    · rename_i mm hm
      split at hk1
      · rename_i e1
        rw [if_pos e1]
        split at hk1
        · rename_i e2
          rw [if_pos e2]
          exact qs_run (fun M2 as g u h R hr hk => qs_big d M2 as g u h R hr hk) N _ _ _ _ _ _ _ hr hk1
        · cases hk1
      · cases hk1
    · cases hk1
end
section
/-! RUNS THAT END: with steps enough, whatever the bounds. -/
def q_EV (mm : pm_M) (pc : Nat) (lv : pm_L) (st : List Value) (g : qM) (u : qW) (Q : Option Value × qM × qW → Prop) : Prop := ∃ R, (∃ F, ∀ N d n, F ≤ N → F ≤ d → F ≤ n → qm_run pm_m (qm_big pm_m N d) mm n pc lv st g u = some R) ∧ Q R
def q_BS (M : Nat) (as : List Value) (g : qM) (u : qW) (R : Option Value × qM × qW) : Prop := ∃ F, ∀ N d, F ≤ N → F ≤ d → qm_big pm_m N d M as g u = some R
section EV
variable {mm : pm_M} {pc : Nat} {lv : pm_L} {st : List Value} {g : qM} {u : qW} {Q : Option Value × qM × qW → Prop}
theorem q_step (k pc' : Nat) (lv' : pm_L) (st' : List Value) (g' : qM) (u' : qW) (h : ∀ big n, qm_run pm_m big mm (n + k) pc lv st g u = qm_run pm_m big mm n pc' lv' st' g' u') (hE : q_EV mm pc' lv' st' g' u' Q) : q_EV mm pc lv st g u Q := by
  obtain ⟨R, ⟨F, hF⟩, hQ⟩ := hE
  refine ⟨R, ⟨F + k, fun N d n h1 h2 h3 => ?_⟩, hQ⟩
  obtain ⟨n', rfl⟩ : ∃ n', n = n' + k := ⟨n - k, by omega⟩
  rw [h]
  exact hF N d n' (by omega) (by omega) (by omega)
theorem q_ret (k : Nat) (R' : Option Value × qM × qW) (h : ∀ big n, qm_run pm_m big mm (n + k) pc lv st g u = some R') (e : Q R') : q_EV mm pc lv st g u Q := by
  refine ⟨R', ⟨k, fun N d n h1 h2 h3 => ?_⟩, e⟩
  obtain ⟨n', rfl⟩ : ∃ n', n = n' + k := ⟨n - k, by omega⟩
  rw [h]
theorem q_ite (c : Prop) [Decidable c] (k pc1 pc2 : Nat) (st' : List Value) (h : ∀ big n, qm_run pm_m big mm (n + k) pc lv st g u = if c then qm_run pm_m big mm n pc1 lv st' g u else qm_run pm_m big mm n pc2 lv st' g u) (h1 : c → q_EV mm pc1 lv st' g u Q) (h2 : ¬ c → q_EV mm pc2 lv st' g u Q) : q_EV mm pc lv st g u Q := by
  by_cases hc : c
  · exact q_step k pc1 lv st' g u (fun big n => by rw [h, if_pos hc]) (h1 hc)
  · exact q_step k pc2 lv st' g u (fun big n => by rw [h, if_neg hc]) (h2 hc)
theorem q_call {M2 : Nat} {as rest : List Value} {r : Option Value} {g' : qM} {u' : qW} (hb : q_BS M2 as g u (r, g', u')) (h : ∀ (big : Nat → List Value → qM → qW → qR) (n : Nat), qm_run pm_m big mm (n + 1) pc lv st g u = (match big M2 as g u with
  | some (r, g', u') => qm_run pm_m big mm n (pc + 3) lv (r.toList ++ rest) g' u'
  | none => none)) (hE : q_EV mm (pc + 3) lv (r.toList ++ rest) g' u' Q) : q_EV mm pc lv st g u Q := by
  obtain ⟨R, ⟨F, hF⟩, hQ⟩ := hE
  obtain ⟨F2, hF2⟩ := hb
  refine ⟨R, ⟨F + F2 + 1, fun N d n h1 h2 h3 => ?_⟩, hQ⟩
  obtain ⟨n', rfl⟩ : ∃ n', n = n' + 1 := ⟨n - 1, by omega⟩
  rw [h, hF2 N d (by omega) (by omega)]
  exact hF N d n' (by omega) (by omega) (by omega)
theorem q_bs {M : Nat} {as : List Value} (hm : pm_m M = some mm) (hw : pm_words as ≤ pm_ml mm) (hl : as.length = pm_n mm) (hE : q_EV mm 0 (lv_args 0 as) [] g u Q) : ∃ R, q_BS M as g u R ∧ Q R := by
  obtain ⟨R, ⟨F, hF⟩, hQ⟩ := hE
  refine ⟨R, ⟨F + 1, fun N d h1 h2 => ?_⟩, hQ⟩
  obtain ⟨d', rfl⟩ : ∃ d', d = d' + 1 := ⟨d - 1, by omega⟩
  show (match pm_m M with
    | some mm => if pm_words as ≤ pm_ml mm then (if as.length = pm_n mm then qm_run pm_m (qm_big pm_m N d') mm N 0 (lv_args 0 as) [] g u else none) else none
    | none => none) = some R
  rw [hm]
  dsimp only
  rw [if_pos hw, if_pos hl]
  exact hF N d' N (by omega) (by omega) (by omega)
/-- one answer, told ahead -/
theorem q_bx {M : Nat} {as : List Value} {R : Option Value × qM × qW} (hm : pm_m M = some mm) (hw : pm_words as ≤ pm_ml mm) (hl : as.length = pm_n mm) (hE : q_EV mm 0 (lv_args 0 as) [] g u (fun R' => R' = R)) : q_BS M as g u R := by
  obtain ⟨R', h1, h2⟩ := q_bs hm hw hl hE
  rw [h2] at h1
  exact h1
theorem q_EV.imp {Q' : Option Value × qM × qW → Prop} (h : q_EV mm pc lv st g u Q) (hi : ∀ R, Q R → Q' R) : q_EV mm pc lv st g u Q' := by
  obtain ⟨R, h1, h2⟩ := h
  exact ⟨R, h1, hi R h2⟩
/-- the index i is the place j of a row of n -/
def q_ix (i : Int32) (j n : Nat) : Prop := ¬ i < 0 ∧ i.toNatClampNeg = j ∧ j < n
theorem q_iald {a n j : Nat} {i : Int32} (hx : q_ix i j n) (hs : q_sh a = some (.inl (0, n))) (he : pm_at mm pc = some (.iaload, 0, 0, 0)) (hE : q_EV mm (pc + 1) lv (.int (g a j) :: st) g u Q) : q_EV mm pc lv (.int i :: .ref a :: st) g u Q := by
  obtain ⟨h1, h2, h3⟩ := hx
  refine q_step 1 (pc + 1) lv (.int (g a j) :: st) g u (fun big n => ?_) hE
  show (match pm_at mm pc with
    | some e => qm_step pm_m big mm (qm_run pm_m big mm n) e pc lv (.int i :: .ref a :: st) g u
    | none => none) = _
  rw [he]
  show qm_iald (qm_run pm_m big mm n) pc lv (.int i :: .ref a :: st) g u = _
  unfold qm_iald
  dsimp only
  rw [hs]
  dsimp only
  rw [if_pos rfl, if_neg h1, h2, if_pos h3]
theorem q_bald {a n j t : Nat} {i : Int32} (hx : q_ix i j n) (hs : q_sh a = some (.inl (t, n))) (ht : t = 1 ∨ t = 2) (he : pm_at mm pc = some (.baload, 0, 0, 0)) (hE : q_EV mm (pc + 1) lv (.int (g a j) :: st) g u Q) : q_EV mm pc lv (.int i :: .ref a :: st) g u Q := by
  obtain ⟨h1, h2, h3⟩ := hx
  refine q_step 1 (pc + 1) lv (.int (g a j) :: st) g u (fun big n => ?_) hE
  show (match pm_at mm pc with
    | some e => qm_step pm_m big mm (qm_run pm_m big mm n) e pc lv (.int i :: .ref a :: st) g u
    | none => none) = _
  rw [he]
  show qm_bald (qm_run pm_m big mm n) pc lv (.int i :: .ref a :: st) g u = _
  unfold qm_bald
  dsimp only
  rw [hs]
  dsimp only
  rw [if_pos ht, if_neg h1, h2, if_pos h3]
theorem q_iast {a n j : Nat} {i x : Int32} (hx : q_ix i j n) (hs : q_sh a = some (.inl (0, n))) (he : pm_at mm pc = some (.iastore, 0, 0, 0)) (hE : q_EV mm (pc + 1) lv st (q_up g a j x) u Q) : q_EV mm pc lv (.int x :: .int i :: .ref a :: st) g u Q := by
  obtain ⟨h1, h2, h3⟩ := hx
  refine q_step 1 (pc + 1) lv st (q_up g a j x) u (fun big n => ?_) hE
  show (match pm_at mm pc with
    | some e => qm_step pm_m big mm (qm_run pm_m big mm n) e pc lv (.int x :: .int i :: .ref a :: st) g u
    | none => none) = _
  rw [he]
  show qm_iast (qm_run pm_m big mm n) pc lv (.int x :: .int i :: .ref a :: st) g u = _
  unfold qm_iast
  dsimp only
  rw [hs]
  dsimp only
  rw [if_pos rfl, if_neg h1, h2, if_pos h3]
theorem q_bast1 {a n j : Nat} {i x : Int32} (hx : q_ix i j n) (hs : q_sh a = some (.inl (1, n))) (he : pm_at mm pc = some (.bastore, 0, 0, 0)) (hE : q_EV mm (pc + 1) lv st (q_up g a j x.toInt8.toInt32) u Q) : q_EV mm pc lv (.int x :: .int i :: .ref a :: st) g u Q := by
  obtain ⟨h1, h2, h3⟩ := hx
  refine q_step 1 (pc + 1) lv st (q_up g a j x.toInt8.toInt32) u (fun big n => ?_) hE
  show (match pm_at mm pc with
    | some e => qm_step pm_m big mm (qm_run pm_m big mm n) e pc lv (.int x :: .int i :: .ref a :: st) g u
    | none => none) = _
  rw [he]
  show qm_bast (qm_run pm_m big mm n) pc lv (.int x :: .int i :: .ref a :: st) g u = _
  unfold qm_bast
  dsimp only
  rw [hs]
  dsimp only
  rw [if_pos rfl, if_neg h1, h2, if_pos h3]
theorem q_bast2 {a n j : Nat} {i x : Int32} (hx : q_ix i j n) (hs : q_sh a = some (.inl (2, n))) (he : pm_at mm pc = some (.bastore, 0, 0, 0)) (hE : q_EV mm (pc + 1) lv st (q_up g a j (x &&& 1)) u Q) : q_EV mm pc lv (.int x :: .int i :: .ref a :: st) g u Q := by
  obtain ⟨h1, h2, h3⟩ := hx
  refine q_step 1 (pc + 1) lv st (q_up g a j (x &&& 1)) u (fun big n => ?_) hE
  show (match pm_at mm pc with
    | some e => qm_step pm_m big mm (qm_run pm_m big mm n) e pc lv (.int x :: .int i :: .ref a :: st) g u
    | none => none) = _
  rw [he]
  show qm_bast (qm_run pm_m big mm n) pc lv (.int x :: .int i :: .ref a :: st) g u = _
  unfold qm_bast
  dsimp only
  rw [hs]
  dsimp only
  rw [if_neg (by decide), if_pos rfl, if_neg h1, h2, if_pos h3]
theorem q_lald {a n j : Nat} {i : Int32} (hx : q_ix i j n) (hs : q_sh a = some (.inr (.inl n))) (he : pm_at mm pc = some (.laload, 0, 0, 0)) (hE : q_EV mm (pc + 1) lv (.long (u j) :: st) g u Q) : q_EV mm pc lv (.int i :: .ref a :: st) g u Q := by
  obtain ⟨h1, h2, h3⟩ := hx
  refine q_step 1 (pc + 1) lv (.long (u j) :: st) g u (fun big n => ?_) hE
  show (match pm_at mm pc with
    | some e => qm_step pm_m big mm (qm_run pm_m big mm n) e pc lv (.int i :: .ref a :: st) g u
    | none => none) = _
  rw [he]
  show qm_lald (qm_run pm_m big mm n) pc lv (.int i :: .ref a :: st) g u = _
  unfold qm_lald
  dsimp only
  rw [hs]
  dsimp only
  rw [if_neg h1, h2, if_pos h3]
theorem q_last {a n j : Nat} {i : Int32} {x : Int64} (hx : q_ix i j n) (hs : q_sh a = some (.inr (.inl n))) (he : pm_at mm pc = some (.lastore, 0, 0, 0)) (hE : q_EV mm (pc + 1) lv st g (q_uw u j x) Q) : q_EV mm pc lv (.long x :: .int i :: .ref a :: st) g u Q := by
  obtain ⟨h1, h2, h3⟩ := hx
  refine q_step 1 (pc + 1) lv st g (q_uw u j x) (fun big n => ?_) hE
  show (match pm_at mm pc with
    | some e => qm_step pm_m big mm (qm_run pm_m big mm n) e pc lv (.long x :: .int i :: .ref a :: st) g u
    | none => none) = _
  rw [he]
  show qm_last (qm_run pm_m big mm n) pc lv (.long x :: .int i :: .ref a :: st) g u = _
  unfold qm_last
  dsimp only
  rw [hs]
  dsimp only
  rw [if_neg h1, h2, if_pos h3]
theorem q_idiv {x y : Int32} (hy : y ≠ 0) (he : pm_at mm pc = some (.idiv, 0, 0, 0)) (hE : q_EV mm (pc + 1) lv (.int (x / y) :: st) g u Q) : q_EV mm pc lv (.int y :: .int x :: st) g u Q := by
  refine q_step 1 (pc + 1) lv (.int (x / y) :: st) g u (fun big n => ?_) hE
  show (match pm_at mm pc with
    | some e => qm_step pm_m big mm (qm_run pm_m big mm n) e pc lv (.int y :: .int x :: st) g u
    | none => none) = _
  rw [he]
  show qm_bz (qm_run pm_m big mm n) (fun x y => x / y) pc lv (.int y :: .int x :: st) g u = _
  unfold qm_bz
  dsimp only
  rw [if_neg hy]
theorem q_irem {x y : Int32} (hy : y ≠ 0) (he : pm_at mm pc = some (.irem, 0, 0, 0)) (hE : q_EV mm (pc + 1) lv (.int (x - x / y * y) :: st) g u Q) : q_EV mm pc lv (.int y :: .int x :: st) g u Q := by
  refine q_step 1 (pc + 1) lv (.int (x - x / y * y) :: st) g u (fun big n => ?_) hE
  show (match pm_at mm pc with
    | some e => qm_step pm_m big mm (qm_run pm_m big mm n) e pc lv (.int y :: .int x :: st) g u
    | none => none) = _
  rw [he]
  show qm_bz (qm_run pm_m big mm n) (fun x y => x - x / y * y) pc lv (.int y :: .int x :: st) g u = _
  unfold qm_bz
  dsimp only
  rw [if_neg hy]
theorem q_if_eq {x : Int32} {off : Int} {tgt b : Nat} {z : Int} (he : pm_at mm pc = some (.ifCond .eq off, tgt, b, z)) (h1 : x = 0 → q_EV mm tgt lv st g u Q) (h2 : ¬ x = 0 → q_EV mm (pc + 3) lv st g u Q) : q_EV mm pc lv (.int x :: st) g u Q := by
  refine q_ite (x = 0) 1 tgt (pc + 3) st (fun big n => ?_) h1 h2
  show (match pm_at mm pc with
    | some e => qm_step pm_m big mm (qm_run pm_m big mm n) e pc lv (.int x :: st) g u
    | none => none) = _
  rw [he]
  rfl
theorem q_if_ne {x : Int32} {off : Int} {tgt b : Nat} {z : Int} (he : pm_at mm pc = some (.ifCond .ne off, tgt, b, z)) (h1 : x = 0 → q_EV mm (pc + 3) lv st g u Q) (h2 : ¬ x = 0 → q_EV mm tgt lv st g u Q) : q_EV mm pc lv (.int x :: st) g u Q := by
  refine q_ite (x = 0) 1 (pc + 3) tgt st (fun big n => ?_) h1 h2
  show (match pm_at mm pc with
    | some e => qm_step pm_m big mm (qm_run pm_m big mm n) e pc lv (.int x :: st) g u
    | none => none) = _
  rw [he]
  rfl
theorem q_if_lt {x : Int32} {off : Int} {tgt b : Nat} {z : Int} (he : pm_at mm pc = some (.ifCond .lt off, tgt, b, z)) (h1 : x < 0 → q_EV mm tgt lv st g u Q) (h2 : ¬ x < 0 → q_EV mm (pc + 3) lv st g u Q) : q_EV mm pc lv (.int x :: st) g u Q := by
  refine q_ite (x < 0) 1 tgt (pc + 3) st (fun big n => ?_) h1 h2
  show (match pm_at mm pc with
    | some e => qm_step pm_m big mm (qm_run pm_m big mm n) e pc lv (.int x :: st) g u
    | none => none) = _
  rw [he]
  rfl
theorem q_if_ge {x : Int32} {off : Int} {tgt b : Nat} {z : Int} (he : pm_at mm pc = some (.ifCond .ge off, tgt, b, z)) (h1 : 0 ≤ x → q_EV mm tgt lv st g u Q) (h2 : ¬ 0 ≤ x → q_EV mm (pc + 3) lv st g u Q) : q_EV mm pc lv (.int x :: st) g u Q := by
  refine q_ite (0 ≤ x) 1 tgt (pc + 3) st (fun big n => ?_) h1 h2
  show (match pm_at mm pc with
    | some e => qm_step pm_m big mm (qm_run pm_m big mm n) e pc lv (.int x :: st) g u
    | none => none) = _
  rw [he]
  rfl
theorem q_if_gt {x : Int32} {off : Int} {tgt b : Nat} {z : Int} (he : pm_at mm pc = some (.ifCond .gt off, tgt, b, z)) (h1 : 0 < x → q_EV mm tgt lv st g u Q) (h2 : ¬ 0 < x → q_EV mm (pc + 3) lv st g u Q) : q_EV mm pc lv (.int x :: st) g u Q := by
  refine q_ite (0 < x) 1 tgt (pc + 3) st (fun big n => ?_) h1 h2
  show (match pm_at mm pc with
    | some e => qm_step pm_m big mm (qm_run pm_m big mm n) e pc lv (.int x :: st) g u
    | none => none) = _
  rw [he]
  rfl
theorem q_if_le {x : Int32} {off : Int} {tgt b : Nat} {z : Int} (he : pm_at mm pc = some (.ifCond .le off, tgt, b, z)) (h1 : x ≤ 0 → q_EV mm tgt lv st g u Q) (h2 : ¬ x ≤ 0 → q_EV mm (pc + 3) lv st g u Q) : q_EV mm pc lv (.int x :: st) g u Q := by
  refine q_ite (x ≤ 0) 1 tgt (pc + 3) st (fun big n => ?_) h1 h2
  show (match pm_at mm pc with
    | some e => qm_step pm_m big mm (qm_run pm_m big mm n) e pc lv (.int x :: st) g u
    | none => none) = _
  rw [he]
  rfl
theorem q_ic_eq {x y : Int32} {off : Int} {tgt b : Nat} {z : Int} (he : pm_at mm pc = some (.if_icmp .eq off, tgt, b, z)) (h1 : x = y → q_EV mm tgt lv st g u Q) (h2 : ¬ x = y → q_EV mm (pc + 3) lv st g u Q) : q_EV mm pc lv (.int y :: .int x :: st) g u Q := by
  refine q_ite (x = y) 1 tgt (pc + 3) st (fun big n => ?_) h1 h2
  show (match pm_at mm pc with
    | some e => qm_step pm_m big mm (qm_run pm_m big mm n) e pc lv (.int y :: .int x :: st) g u
    | none => none) = _
  rw [he]
  rfl
theorem q_ic_ne {x y : Int32} {off : Int} {tgt b : Nat} {z : Int} (he : pm_at mm pc = some (.if_icmp .ne off, tgt, b, z)) (h1 : x = y → q_EV mm (pc + 3) lv st g u Q) (h2 : ¬ x = y → q_EV mm tgt lv st g u Q) : q_EV mm pc lv (.int y :: .int x :: st) g u Q := by
  refine q_ite (x = y) 1 (pc + 3) tgt st (fun big n => ?_) h1 h2
  show (match pm_at mm pc with
    | some e => qm_step pm_m big mm (qm_run pm_m big mm n) e pc lv (.int y :: .int x :: st) g u
    | none => none) = _
  rw [he]
  rfl
theorem q_ic_lt {x y : Int32} {off : Int} {tgt b : Nat} {z : Int} (he : pm_at mm pc = some (.if_icmp .lt off, tgt, b, z)) (h1 : x < y → q_EV mm tgt lv st g u Q) (h2 : ¬ x < y → q_EV mm (pc + 3) lv st g u Q) : q_EV mm pc lv (.int y :: .int x :: st) g u Q := by
  refine q_ite (x < y) 1 tgt (pc + 3) st (fun big n => ?_) h1 h2
  show (match pm_at mm pc with
    | some e => qm_step pm_m big mm (qm_run pm_m big mm n) e pc lv (.int y :: .int x :: st) g u
    | none => none) = _
  rw [he]
  rfl
theorem q_ic_ge {x y : Int32} {off : Int} {tgt b : Nat} {z : Int} (he : pm_at mm pc = some (.if_icmp .ge off, tgt, b, z)) (h1 : y ≤ x → q_EV mm tgt lv st g u Q) (h2 : ¬ y ≤ x → q_EV mm (pc + 3) lv st g u Q) : q_EV mm pc lv (.int y :: .int x :: st) g u Q := by
  refine q_ite (y ≤ x) 1 tgt (pc + 3) st (fun big n => ?_) h1 h2
  show (match pm_at mm pc with
    | some e => qm_step pm_m big mm (qm_run pm_m big mm n) e pc lv (.int y :: .int x :: st) g u
    | none => none) = _
  rw [he]
  rfl
theorem q_ic_gt {x y : Int32} {off : Int} {tgt b : Nat} {z : Int} (he : pm_at mm pc = some (.if_icmp .gt off, tgt, b, z)) (h1 : y < x → q_EV mm tgt lv st g u Q) (h2 : ¬ y < x → q_EV mm (pc + 3) lv st g u Q) : q_EV mm pc lv (.int y :: .int x :: st) g u Q := by
  refine q_ite (y < x) 1 tgt (pc + 3) st (fun big n => ?_) h1 h2
  show (match pm_at mm pc with
    | some e => qm_step pm_m big mm (qm_run pm_m big mm n) e pc lv (.int y :: .int x :: st) g u
    | none => none) = _
  rw [he]
  rfl
theorem q_ic_le {x y : Int32} {off : Int} {tgt b : Nat} {z : Int} (he : pm_at mm pc = some (.if_icmp .le off, tgt, b, z)) (h1 : x ≤ y → q_EV mm tgt lv st g u Q) (h2 : ¬ x ≤ y → q_EV mm (pc + 3) lv st g u Q) : q_EV mm pc lv (.int y :: .int x :: st) g u Q := by
  refine q_ite (x ≤ y) 1 tgt (pc + 3) st (fun big n => ?_) h1 h2
  show (match pm_at mm pc with
    | some e => qm_step pm_m big mm (qm_run pm_m big mm n) e pc lv (.int y :: .int x :: st) g u
    | none => none) = _
  rw [he]
  rfl
end EV
/-! numbers: places as ints -/
theorem q_nat {j : Nat} (h : j < 1000000) : (Int32.ofNat j).toInt = (j : Int) := Int32.toInt_ofNat_of_lt (by omega)
theorem q_ixn {j n : Nat} (h : j < n) (hn : n ≤ 1000) : q_ix (Int32.ofNat j) j n := by
  have e := q_nat (j := j) (by omega)
  refine ⟨fun q => ?_, ?_, h⟩
  · have q1 := Int32.lt_iff_toInt_lt.mp q
    rw [e] at q1
    have z : (0 : Int32).toInt = 0 := rfl
    omega
  · show (Int32.ofNat j).toInt.toNat = j
    rw [e]
    omega
theorem q_ixi {x : Int32} {n : Nat} (h1 : 0 ≤ x.toInt) (h2 : x.toInt < (n : Int)) : q_ix x x.toInt.toNat n := by
  refine ⟨fun q => ?_, rfl, by omega⟩
  have q1 := Int32.lt_iff_toInt_lt.mp q
  have z : (0 : Int32).toInt = 0 := rfl
  omega
theorem q_inj {x y : Int32} (h : x.toInt = y.toInt) : x = y := Int32.toInt_inj.mp h
theorem q_succ (j : Nat) : Int32.ofNat j + 1 = Int32.ofNat (j + 1) := (Int32.ofNat_add j 1).symm
theorem q_lt {i j : Nat} (hi : i < 1000000) (hj : j < 1000000) : Int32.ofNat i < Int32.ofNat j ↔ i < j := by
  rw [Int32.lt_iff_toInt_lt, q_nat hi, q_nat hj]
  omega
theorem q_le {i j : Nat} (hi : i < 1000000) (hj : j < 1000000) : Int32.ofNat i ≤ Int32.ofNat j ↔ i ≤ j := by
  rw [Int32.le_iff_toInt_le, q_nat hi, q_nat hj]
  omega
theorem q_eq {i j : Nat} (hi : i < 1000000) (hj : j < 1000000) : Int32.ofNat i = Int32.ofNat j ↔ i = j := by
  constructor
  · intro h
    have := congrArg Int32.toInt h
    rw [q_nat hi, q_nat hj] at this
    omega
  · intro h
    rw [h]
theorem q_of {x : Int32} (h : 0 ≤ x.toInt) : x = Int32.ofNat x.toInt.toNat := by
  apply q_inj
  have := Int32.toInt_lt x
  rw [Int32.toInt_ofNat_of_lt (by omega)]
  omega
end
section
/-! STALE LOCALS don't matter: what a run does with some locals it does with more of them. -/
def q_sub (l l' : pm_L) : Prop := ∀ q ∈ l, l'.lookup q.1 = some q.2
theorem q_sub.nil {l' : pm_L} : q_sub [] l' := fun _ h => by cases h
theorem q_sub.cons {i : Nat} {v : Value} {l l' : pm_L} (h : l'.lookup i = some v) (hl : q_sub l l') : q_sub ((i, v) :: l) l' := fun q hq => by
  rcases List.mem_cons.mp hq with e | e
  · rw [e]
    exact h
  · exact hl q e
theorem q_lk_mem {i : Nat} {v : Value} : ∀ {l : pm_L}, l.lookup i = some v → (i, v) ∈ l
  | [], h => by cases h
  | (j, w) :: l, h => by
    rw [List.lookup_cons] at h
    split at h
    · rename_i e
      have e1 : i = j := by simpa using e
      cases h
      rw [e1]
      exact List.mem_cons_self
    · exact List.mem_cons_of_mem _ (q_lk_mem h)
theorem q_sub.lk {l l' : pm_L} (h : q_sub l l') {i : Nat} {v : Value} (e : l.lookup i = some v) : l'.lookup i = some v := h (i, v) (q_lk_mem e)
theorem q_lk_filter {P : Nat × Value → Bool} {i : Nat} {v : Value} (hP : P (i, v) = true) : ∀ {l : pm_L}, l.lookup i = some v → (l.filter P).lookup i = some v
  | [], h => by cases h
  | (j, w) :: l, h => by
    rw [List.lookup_cons] at h
    split at h
    · rename_i e
      have e1 : i = j := by simpa using e
      cases h
      subst e1
      rw [List.filter_cons_of_pos hP, List.lookup_cons]
      simp
    · rename_i e
      by_cases hp : P (j, w) = true
      · rw [List.filter_cons_of_pos hp, List.lookup_cons]
        split
        · rename_i e2
          rw [e2] at e
          cases e
        · exact q_lk_filter hP h
      · rw [List.filter_cons_of_neg hp]
        exact q_lk_filter hP h
theorem q_lk_plc {i : Nat} {v : Value} : ∀ {l : pm_L}, (pm_plc i v l).lookup i = some v
  | [] => by
    show List.lookup i [(i, v)] = some v
    simp
  | (j, w) :: l => by
    show List.lookup i (if j < i then (j, w) :: pm_plc i v l else (i, v) :: (j, w) :: l) = some v
    split
    · rename_i h
      rw [List.lookup_cons]
      split
      · rename_i e
        have e1 : i = j := by simpa using e
        omega
      · exact q_lk_plc
    · simp
theorem q_lk_plc_ne {i j : Nat} {v w : Value} (hij : j ≠ i) : ∀ {l : pm_L}, l.lookup j = some w → (pm_plc i v l).lookup j = some w
  | [], h => by cases h
  | (a, b) :: l, h => by
    show List.lookup j (if a < i then (a, b) :: pm_plc i v l else (i, v) :: (a, b) :: l) = some w
    split
    · rw [List.lookup_cons] at h ⊢
      split
      · rename_i e
        rw [e] at h
        exact h
      · rename_i e
        rw [e] at h
        exact q_lk_plc_ne hij h
    · rw [List.lookup_cons]
      split
      · rename_i e
        have e1 : j = i := by simpa using e
        exact absurd e1 hij
      · exact h
theorem q_plc_mem {i : Nat} {v : Value} {q : Nat × Value} : ∀ {l : pm_L}, q ∈ pm_plc i v l → q = (i, v) ∨ q ∈ l
  | [], h => Or.inl (List.mem_singleton.mp h)
  | (a, b) :: l, h => by
    have h1 : q ∈ (if a < i then (a, b) :: pm_plc i v l else (i, v) :: (a, b) :: l) := h
    split at h1
    · rcases List.mem_cons.mp h1 with e | e
      · exact Or.inr (by rw [e]; exact List.mem_cons_self)
      · rcases q_plc_mem e with e | e
        · exact Or.inl e
        · exact Or.inr (List.mem_cons_of_mem _ e)
    · rcases List.mem_cons.mp h1 with e | e
      · exact Or.inl e
      · exact Or.inr e
theorem q_sub.plc {l l' : pm_L} (h : q_sub l l') (i : Nat) (v : Value) (P : Nat × Value → Bool) (hP : ∀ w, P (i, w) = false) : q_sub (pm_plc i v (l.filter P)) (pm_plc i v (l'.filter P)) := fun q hq => by
  rcases q_plc_mem hq with e | e
  · rw [e]
    exact q_lk_plc
  · obtain ⟨h1, h2⟩ := List.mem_filter.mp e
    obtain ⟨a, b⟩ := q
    have hne : a ≠ i := fun z => by
      rw [z, hP] at h2
      cases h2
    exact q_lk_plc_ne hne (q_lk_filter h2 (h _ h1))
theorem q_sub.s1 {l l' : pm_L} (h : q_sub l l') (i : Nat) (v : Value) : q_sub (pm_s1 l i v) (pm_s1 l' i v) := h.plc i v _ (fun w => by simp)
theorem q_sub.s2 {l l' : pm_L} (h : q_sub l l') (i : Nat) (v : Value) : q_sub (pm_s2 l i v) (pm_s2 l' i v) := h.plc i v _ (fun w => by simp)
def q_T (k : qK) : Prop := ∀ pc lv lv' st g u R, q_sub lv lv' → k pc lv st g u = some R → k pc lv' st g u = some R
theorem qw_bi {k : qK} (hT : q_T k) {lv lv' : pm_L} {st : List Value} {g : qM} {u : qW} {R : Option Value × qM × qW} (hl : q_sub lv lv') (f : Int32 → Int32 → Int32) (pc : Nat) (hk : qm_bi k f pc lv st g u = some R) : qm_bi k f pc lv' st g u = some R := by
  unfold qm_bi at hk ⊢
  (repeat' split at hk) <;> first
    | exact hT _ _ _ _ _ _ _ hl hk
    | (cases hk; done)
    | (simp only [*]; exact hT _ _ _ _ _ _ _ hl hk)
    | (simp [*]; exact hT _ _ _ _ _ _ _ hl hk)
theorem qw_bz {k : qK} (hT : q_T k) {lv lv' : pm_L} {st : List Value} {g : qM} {u : qW} {R : Option Value × qM × qW} (hl : q_sub lv lv') (f : Int32 → Int32 → Int32) (pc : Nat) (hk : qm_bz k f pc lv st g u = some R) : qm_bz k f pc lv' st g u = some R := by
  unfold qm_bz at hk ⊢
  (repeat' split at hk) <;> first
    | exact hT _ _ _ _ _ _ _ hl hk
    | (cases hk; done)
    | (simp only [*]; exact hT _ _ _ _ _ _ _ hl hk)
    | (simp [*]; exact hT _ _ _ _ _ _ _ hl hk)
theorem qw_bl {k : qK} (hT : q_T k) {lv lv' : pm_L} {st : List Value} {g : qM} {u : qW} {R : Option Value × qM × qW} (hl : q_sub lv lv') (f : Int64 → Int64 → Int64) (pc : Nat) (hk : qm_bl k f pc lv st g u = some R) : qm_bl k f pc lv' st g u = some R := by
  unfold qm_bl at hk ⊢
  (repeat' split at hk) <;> first
    | exact hT _ _ _ _ _ _ _ hl hk
    | (cases hk; done)
    | (simp only [*]; exact hT _ _ _ _ _ _ _ hl hk)
    | (simp [*]; exact hT _ _ _ _ _ _ _ hl hk)
theorem qw_blz {k : qK} (hT : q_T k) {lv lv' : pm_L} {st : List Value} {g : qM} {u : qW} {R : Option Value × qM × qW} (hl : q_sub lv lv') (f : Int64 → Int64 → Int64) (pc : Nat) (hk : qm_blz k f pc lv st g u = some R) : qm_blz k f pc lv' st g u = some R := by
  unfold qm_blz at hk ⊢
  (repeat' split at hk) <;> first
    | exact hT _ _ _ _ _ _ _ hl hk
    | (cases hk; done)
    | (simp only [*]; exact hT _ _ _ _ _ _ _ hl hk)
    | (simp [*]; exact hT _ _ _ _ _ _ _ hl hk)
theorem qw_u {k : qK} (hT : q_T k) {lv lv' : pm_L} {st : List Value} {g : qM} {u : qW} {R : Option Value × qM × qW} (hl : q_sub lv lv') (f : Int32 → Int32) (pc : Nat) (hk : qm_u k f pc lv st g u = some R) : qm_u k f pc lv' st g u = some R := by
  unfold qm_u at hk ⊢
  (repeat' split at hk) <;> first
    | exact hT _ _ _ _ _ _ _ hl hk
    | (cases hk; done)
    | (simp only [*]; exact hT _ _ _ _ _ _ _ hl hk)
    | (simp [*]; exact hT _ _ _ _ _ _ _ hl hk)
theorem qw_if {k : qK} (hT : q_T k) {lv lv' : pm_L} {st : List Value} {g : qM} {u : qW} {R : Option Value × qM × qW} (hl : q_sub lv lv') (cd : ClassFile.Cond) (tgt pc : Nat) (hk : qm_if k cd tgt pc lv st g u = some R) : qm_if k cd tgt pc lv' st g u = some R := by
  unfold qm_if at hk ⊢
  (repeat' split at hk) <;> first
    | exact hT _ _ _ _ _ _ _ hl hk
    | (cases hk; done)
    | (simp only [*]; exact hT _ _ _ _ _ _ _ hl hk)
    | (simp [*]; exact hT _ _ _ _ _ _ _ hl hk)
theorem qw_ic {k : qK} (hT : q_T k) {lv lv' : pm_L} {st : List Value} {g : qM} {u : qW} {R : Option Value × qM × qW} (hl : q_sub lv lv') (cd : ClassFile.Cond) (tgt pc : Nat) (hk : qm_ic k cd tgt pc lv st g u = some R) : qm_ic k cd tgt pc lv' st g u = some R := by
  unfold qm_ic at hk ⊢
  (repeat' split at hk) <;> first
    | exact hT _ _ _ _ _ _ _ hl hk
    | (cases hk; done)
    | (simp only [*]; exact hT _ _ _ _ _ _ _ hl hk)
    | (simp [*]; exact hT _ _ _ _ _ _ _ hl hk)
theorem qw_jump {k : qK} (hT : q_T k) {lv lv' : pm_L} {st : List Value} {g : qM} {u : qW} {R : Option Value × qM × qW} (hl : q_sub lv lv') (t : Int) (hk : qm_jump k t lv st g u = some R) : qm_jump k t lv' st g u = some R := by
  unfold qm_jump at hk ⊢
  (repeat' split at hk) <;> first
    | exact hT _ _ _ _ _ _ _ hl hk
    | (cases hk; done)
    | (simp only [*]; exact hT _ _ _ _ _ _ _ hl hk)
    | (simp [*]; exact hT _ _ _ _ _ _ _ hl hk)
theorem qw_dup {k : qK} (hT : q_T k) {lv lv' : pm_L} {st : List Value} {g : qM} {u : qW} {R : Option Value × qM × qW} (hl : q_sub lv lv') (pc : Nat) (hk : qm_dup k pc lv st g u = some R) : qm_dup k pc lv' st g u = some R := by
  unfold qm_dup at hk ⊢
  (repeat' split at hk) <;> first
    | exact hT _ _ _ _ _ _ _ hl hk
    | (cases hk; done)
    | (simp only [*]; exact hT _ _ _ _ _ _ _ hl hk)
    | (simp [*]; exact hT _ _ _ _ _ _ _ hl hk)
theorem qw_dup2 {k : qK} (hT : q_T k) {lv lv' : pm_L} {st : List Value} {g : qM} {u : qW} {R : Option Value × qM × qW} (hl : q_sub lv lv') (pc : Nat) (hk : qm_dup2 k pc lv st g u = some R) : qm_dup2 k pc lv' st g u = some R := by
  unfold qm_dup2 at hk ⊢
  (repeat' split at hk) <;> first
    | exact hT _ _ _ _ _ _ _ hl hk
    | (cases hk; done)
    | (simp only [*]; exact hT _ _ _ _ _ _ _ hl hk)
    | (simp [*]; exact hT _ _ _ _ _ _ _ hl hk)
theorem qw_pop {k : qK} (hT : q_T k) {lv lv' : pm_L} {st : List Value} {g : qM} {u : qW} {R : Option Value × qM × qW} (hl : q_sub lv lv') (pc : Nat) (hk : qm_pop k pc lv st g u = some R) : qm_pop k pc lv' st g u = some R := by
  unfold qm_pop at hk ⊢
  (repeat' split at hk) <;> first
    | exact hT _ _ _ _ _ _ _ hl hk
    | (cases hk; done)
    | (simp only [*]; exact hT _ _ _ _ _ _ _ hl hk)
    | (simp [*]; exact hT _ _ _ _ _ _ _ hl hk)
theorem qw_pop2 {k : qK} (hT : q_T k) {lv lv' : pm_L} {st : List Value} {g : qM} {u : qW} {R : Option Value × qM × qW} (hl : q_sub lv lv') (pc : Nat) (hk : qm_pop2 k pc lv st g u = some R) : qm_pop2 k pc lv' st g u = some R := by
  unfold qm_pop2 at hk ⊢
  (repeat' split at hk) <;> first
    | exact hT _ _ _ _ _ _ _ hl hk
    | (cases hk; done)
    | (simp only [*]; exact hT _ _ _ _ _ _ _ hl hk)
    | (simp [*]; exact hT _ _ _ _ _ _ _ hl hk)
theorem qw_lcmp {k : qK} (hT : q_T k) {lv lv' : pm_L} {st : List Value} {g : qM} {u : qW} {R : Option Value × qM × qW} (hl : q_sub lv lv') (pc : Nat) (hk : qm_lcmp k pc lv st g u = some R) : qm_lcmp k pc lv' st g u = some R := by
  unfold qm_lcmp at hk ⊢
  (repeat' split at hk) <;> first
    | exact hT _ _ _ _ _ _ _ hl hk
    | (cases hk; done)
    | (simp only [*]; exact hT _ _ _ _ _ _ _ hl hk)
    | (simp [*]; exact hT _ _ _ _ _ _ _ hl hk)
theorem qw_ldcs {k : qK} (hT : q_T k) {lv lv' : pm_L} {st : List Value} {g : qM} {u : qW} {R : Option Value × qM × qW} (hl : q_sub lv lv') (b pc : Nat) (hk : qm_ldcs k b pc lv st g u = some R) : qm_ldcs k b pc lv' st g u = some R := by
  unfold qm_ldcs at hk ⊢
  (repeat' split at hk) <;> first
    | exact hT _ _ _ _ _ _ _ hl hk
    | (cases hk; done)
    | (simp only [*]; exact hT _ _ _ _ _ _ _ hl hk)
    | (simp [*]; exact hT _ _ _ _ _ _ _ hl hk)
theorem qw_slen {k : qK} (hT : q_T k) {lv lv' : pm_L} {st : List Value} {g : qM} {u : qW} {R : Option Value × qM × qW} (hl : q_sub lv lv') (pc : Nat) (hk : qm_slen k pc lv st g u = some R) : qm_slen k pc lv' st g u = some R := by
  unfold qm_slen at hk ⊢
  (repeat' split at hk) <;> first
    | exact hT _ _ _ _ _ _ _ hl hk
    | (cases hk; done)
    | (simp only [*]; exact hT _ _ _ _ _ _ _ hl hk)
    | (simp [*]; exact hT _ _ _ _ _ _ _ hl hk)
theorem qw_sch {k : qK} (hT : q_T k) {lv lv' : pm_L} {st : List Value} {g : qM} {u : qW} {R : Option Value × qM × qW} (hl : q_sub lv lv') (pc : Nat) (hk : qm_sch k pc lv st g u = some R) : qm_sch k pc lv' st g u = some R := by
  unfold qm_sch at hk ⊢
  (repeat' split at hk) <;> first
    | exact hT _ _ _ _ _ _ _ hl hk
    | (cases hk; done)
    | (simp only [*]; exact hT _ _ _ _ _ _ _ hl hk)
    | (simp [*]; exact hT _ _ _ _ _ _ _ hl hk)
theorem qw_i2l {k : qK} (hT : q_T k) {lv lv' : pm_L} {st : List Value} {g : qM} {u : qW} {R : Option Value × qM × qW} (hl : q_sub lv lv') (pc : Nat) (hk : qm_i2l k pc lv st g u = some R) : qm_i2l k pc lv' st g u = some R := by
  unfold qm_i2l at hk ⊢
  (repeat' split at hk) <;> first
    | exact hT _ _ _ _ _ _ _ hl hk
    | (cases hk; done)
    | (simp only [*]; exact hT _ _ _ _ _ _ _ hl hk)
    | (simp [*]; exact hT _ _ _ _ _ _ _ hl hk)
theorem qw_getf {k : qK} (hT : q_T k) {lv lv' : pm_L} {st : List Value} {g : qM} {u : qW} {R : Option Value × qM × qW} (hl : q_sub lv lv') (ci f pc : Nat) (hk : qm_getf k ci f pc lv st g u = some R) : qm_getf k ci f pc lv' st g u = some R := by
  unfold qm_getf at hk ⊢
  (repeat' split at hk) <;> first
    | exact hT _ _ _ _ _ _ _ hl hk
    | (cases hk; done)
    | (simp only [*]; exact hT _ _ _ _ _ _ _ hl hk)
    | (simp [*]; exact hT _ _ _ _ _ _ _ hl hk)
theorem qw_putf {k : qK} (hT : q_T k) {lv lv' : pm_L} {st : List Value} {g : qM} {u : qW} {R : Option Value × qM × qW} (hl : q_sub lv lv') (ci f pc : Nat) (hk : qm_putf k ci f pc lv st g u = some R) : qm_putf k ci f pc lv' st g u = some R := by
  unfold qm_putf at hk ⊢
  (repeat' split at hk) <;> first
    | exact hT _ _ _ _ _ _ _ hl hk
    | (cases hk; done)
    | (simp only [*]; exact hT _ _ _ _ _ _ _ hl hk)
    | (simp [*]; exact hT _ _ _ _ _ _ _ hl hk)
theorem qw_iald {k : qK} (hT : q_T k) {lv lv' : pm_L} {st : List Value} {g : qM} {u : qW} {R : Option Value × qM × qW} (hl : q_sub lv lv') (pc : Nat) (hk : qm_iald k pc lv st g u = some R) : qm_iald k pc lv' st g u = some R := by
  unfold qm_iald at hk ⊢
  (repeat' split at hk) <;> first
    | exact hT _ _ _ _ _ _ _ hl hk
    | (cases hk; done)
    | (simp only [*]; exact hT _ _ _ _ _ _ _ hl hk)
    | (simp [*]; exact hT _ _ _ _ _ _ _ hl hk)
theorem qw_bald {k : qK} (hT : q_T k) {lv lv' : pm_L} {st : List Value} {g : qM} {u : qW} {R : Option Value × qM × qW} (hl : q_sub lv lv') (pc : Nat) (hk : qm_bald k pc lv st g u = some R) : qm_bald k pc lv' st g u = some R := by
  unfold qm_bald at hk ⊢
  (repeat' split at hk) <;> first
    | exact hT _ _ _ _ _ _ _ hl hk
    | (cases hk; done)
    | (simp only [*]; exact hT _ _ _ _ _ _ _ hl hk)
    | (simp [*]; exact hT _ _ _ _ _ _ _ hl hk)
theorem qw_lald {k : qK} (hT : q_T k) {lv lv' : pm_L} {st : List Value} {g : qM} {u : qW} {R : Option Value × qM × qW} (hl : q_sub lv lv') (pc : Nat) (hk : qm_lald k pc lv st g u = some R) : qm_lald k pc lv' st g u = some R := by
  unfold qm_lald at hk ⊢
  (repeat' split at hk) <;> first
    | exact hT _ _ _ _ _ _ _ hl hk
    | (cases hk; done)
    | (simp only [*]; exact hT _ _ _ _ _ _ _ hl hk)
    | (simp [*]; exact hT _ _ _ _ _ _ _ hl hk)
theorem qw_aald {k : qK} (hT : q_T k) {lv lv' : pm_L} {st : List Value} {g : qM} {u : qW} {R : Option Value × qM × qW} (hl : q_sub lv lv') (pc : Nat) (hk : qm_aald k pc lv st g u = some R) : qm_aald k pc lv' st g u = some R := by
  unfold qm_aald at hk ⊢
  (repeat' split at hk) <;> first
    | exact hT _ _ _ _ _ _ _ hl hk
    | (cases hk; done)
    | (simp only [*]; exact hT _ _ _ _ _ _ _ hl hk)
    | (simp [*]; exact hT _ _ _ _ _ _ _ hl hk)
theorem qw_iast {k : qK} (hT : q_T k) {lv lv' : pm_L} {st : List Value} {g : qM} {u : qW} {R : Option Value × qM × qW} (hl : q_sub lv lv') (pc : Nat) (hk : qm_iast k pc lv st g u = some R) : qm_iast k pc lv' st g u = some R := by
  unfold qm_iast at hk ⊢
  (repeat' split at hk) <;> first
    | exact hT _ _ _ _ _ _ _ hl hk
    | (cases hk; done)
    | (simp only [*]; exact hT _ _ _ _ _ _ _ hl hk)
    | (simp [*]; exact hT _ _ _ _ _ _ _ hl hk)
theorem qw_bast {k : qK} (hT : q_T k) {lv lv' : pm_L} {st : List Value} {g : qM} {u : qW} {R : Option Value × qM × qW} (hl : q_sub lv lv') (pc : Nat) (hk : qm_bast k pc lv st g u = some R) : qm_bast k pc lv' st g u = some R := by
  unfold qm_bast at hk ⊢
  (repeat' split at hk) <;> first
    | exact hT _ _ _ _ _ _ _ hl hk
    | (cases hk; done)
    | (simp only [*]; exact hT _ _ _ _ _ _ _ hl hk)
    | (simp [*]; exact hT _ _ _ _ _ _ _ hl hk)
theorem qw_last {k : qK} (hT : q_T k) {lv lv' : pm_L} {st : List Value} {g : qM} {u : qW} {R : Option Value × qM × qW} (hl : q_sub lv lv') (pc : Nat) (hk : qm_last k pc lv st g u = some R) : qm_last k pc lv' st g u = some R := by
  unfold qm_last at hk ⊢
  (repeat' split at hk) <;> first
    | exact hT _ _ _ _ _ _ _ hl hk
    | (cases hk; done)
    | (simp only [*]; exact hT _ _ _ _ _ _ _ hl hk)
    | (simp [*]; exact hT _ _ _ _ _ _ _ hl hk)
theorem qw_alen {k : qK} (hT : q_T k) {lv lv' : pm_L} {st : List Value} {g : qM} {u : qW} {R : Option Value × qM × qW} (hl : q_sub lv lv') (pc : Nat) (hk : qm_alen k pc lv st g u = some R) : qm_alen k pc lv' st g u = some R := by
  unfold qm_alen at hk ⊢
  (repeat' split at hk) <;> first
    | exact hT _ _ _ _ _ _ _ hl hk
    | (cases hk; done)
    | (simp only [*]; exact hT _ _ _ _ _ _ _ hl hk)
    | (simp [*]; exact hT _ _ _ _ _ _ _ hl hk)
theorem qw_copy {k : qK} (hT : q_T k) {lv lv' : pm_L} {st : List Value} {g : qM} {u : qW} {R : Option Value × qM × qW} (hl : q_sub lv lv') (pc : Nat) (hk : qm_copy k pc lv st g u = some R) : qm_copy k pc lv' st g u = some R := by
  unfold qm_copy at hk ⊢
  (repeat' split at hk) <;> first
    | exact hT _ _ _ _ _ _ _ hl hk
    | (cases hk; done)
    | (simp only [*]; exact hT _ _ _ _ _ _ _ hl hk)
    | (simp [*]; exact hT _ _ _ _ _ _ _ hl hk)
theorem qw_tsw {k : qK} (hT : q_T k) {lv lv' : pm_L} {st : List Value} {g : qM} {u : qW} {R : Option Value × qM × qW} (hl : q_sub lv lv') (d lo hi : Int) (offs : Array Int) (pc : Nat) (hk : qm_tsw k d lo hi offs pc lv st g u = some R) : qm_tsw k d lo hi offs pc lv' st g u = some R := by
  unfold qm_tsw at hk ⊢
  split at hk
  · (try dsimp only)
    split at hk
    · rename_i q
      rw [if_pos q]
      exact qw_jump hT hl _ hk
    · rename_i q
      rw [if_neg q]
      split at hk
      · rename_i q2
        rw [if_pos q2]
        exact qw_jump hT hl _ hk
      · rename_i q2
        rw [if_neg q2]
        split at hk
        · rename_i off e
          (try rw [e])
          exact qw_jump hT hl _ hk
        · cases hk
  · cases hk
theorem qw_ldi {k : qK} (hT : q_T k) {lv lv' : pm_L} {st : List Value} {g : qM} {u : qW} {R : Option Value × qM × qW} (hl : q_sub lv lv') (i npc : Nat) (hk : qm_ldi k i npc lv st g u = some R) : qm_ldi k i npc lv' st g u = some R := by
  unfold qm_ldi at hk ⊢
  split at hk
  · rename_i x e
    rw [hl.lk e]
    exact hT _ _ _ _ _ _ _ hl hk
  · cases hk
theorem qw_ldl {k : qK} (hT : q_T k) {lv lv' : pm_L} {st : List Value} {g : qM} {u : qW} {R : Option Value × qM × qW} (hl : q_sub lv lv') (i npc : Nat) (hk : qm_ldl k i npc lv st g u = some R) : qm_ldl k i npc lv' st g u = some R := by
  unfold qm_ldl at hk ⊢
  split at hk
  · rename_i x e
    rw [hl.lk e]
    exact hT _ _ _ _ _ _ _ hl hk
  · cases hk
theorem qw_lda {k : qK} (hT : q_T k) {lv lv' : pm_L} {st : List Value} {g : qM} {u : qW} {R : Option Value × qM × qW} (hl : q_sub lv lv') (i npc : Nat) (hk : qm_lda k i npc lv st g u = some R) : qm_lda k i npc lv' st g u = some R := by
  unfold qm_lda at hk ⊢
  split at hk
  · rename_i x e
    rw [hl.lk e]
    exact hT _ _ _ _ _ _ _ hl hk
  · cases hk
theorem qw_sti {k : qK} (hT : q_T k) {lv lv' : pm_L} {st : List Value} {g : qM} {u : qW} {R : Option Value × qM × qW} (hl : q_sub lv lv') (nL i npc : Nat) (hk : qm_sti k nL i npc lv st g u = some R) : qm_sti k nL i npc lv' st g u = some R := by
  unfold qm_sti at hk ⊢
  split at hk
  · split at hk
    · rename_i e
      (try dsimp only)
      rw [if_pos e]
      exact hT _ _ _ _ _ _ _ (hl.s1 _ _) hk
    · cases hk
  · cases hk
theorem qw_sta {k : qK} (hT : q_T k) {lv lv' : pm_L} {st : List Value} {g : qM} {u : qW} {R : Option Value × qM × qW} (hl : q_sub lv lv') (nL i npc : Nat) (hk : qm_sta k nL i npc lv st g u = some R) : qm_sta k nL i npc lv' st g u = some R := by
  unfold qm_sta at hk ⊢
  split at hk
  · split at hk
    · rename_i e
      (try dsimp only)
      rw [if_pos e]
      exact hT _ _ _ _ _ _ _ (hl.s1 _ _) hk
    · cases hk
  · cases hk
theorem qw_stl {k : qK} (hT : q_T k) {lv lv' : pm_L} {st : List Value} {g : qM} {u : qW} {R : Option Value × qM × qW} (hl : q_sub lv lv') (nL i npc : Nat) (hk : qm_stl k nL i npc lv st g u = some R) : qm_stl k nL i npc lv' st g u = some R := by
  unfold qm_stl at hk ⊢
  split at hk
  · split at hk
    · rename_i e
      (try dsimp only)
      rw [if_pos e]
      exact hT _ _ _ _ _ _ _ (hl.s2 _ _) hk
    · cases hk
  · cases hk
theorem qw_iinc {k : qK} (hT : q_T k) {lv lv' : pm_L} {st : List Value} {g : qM} {u : qW} {R : Option Value × qM × qW} (hl : q_sub lv lv') (nL i : Nat) (n : Int) (pc : Nat) (hk : qm_iinc k nL i n pc lv st g u = some R) : qm_iinc k nL i n pc lv' st g u = some R := by
  unfold qm_iinc at hk ⊢
  split at hk
  · rename_i x e
    rw [hl.lk e]
    dsimp only
    split at hk
    · rename_i e2
      rw [if_pos e2]
      exact hT _ _ _ _ _ _ _ (hl.s1 _ _) hk
    · cases hk
  · cases hk
theorem qw_call {k : qK} (hT : q_T k) {lv lv' : pm_L} {g : qM} {u : qW} {R : Option Value × qM × qW} (hl : q_sub lv lv') (big : Nat → List Value → qM → qW → qR) (m2 : pm_M) (M2 pc : Nat) (as rest : List Value) (hk : qm_call k big m2 M2 pc lv as rest g u = some R) : qm_call k big m2 M2 pc lv' as rest g u = some R := by
  unfold qm_call at hk ⊢
  (repeat' split at hk) <;> first
    | (cases hk; done)
    | (simp only [*, if_true]; exact hT _ _ _ _ _ _ _ hl hk)
    | (simp [*]; exact hT _ _ _ _ _ _ _ hl hk)
theorem qw_inv {k : qK} (hT : q_T k) {lv lv' : pm_L} {st : List Value} {g : qM} {u : qW} {R : Option Value × qM × qW} (hl : q_sub lv lv') (tab : Nat → Option pm_M) (big : Nat → List Value → qM → qW → qR) (M2 pc : Nat) (hk : qm_inv k tab big M2 pc lv st g u = some R) : qm_inv k tab big M2 pc lv' st g u = some R := by
  unfold qm_inv at hk ⊢
  split at hk
  · cases hk
  · rename_i m2 hm
    (try rw [hm])
    (try dsimp only)
    split at hk
    · rename_i h1
      rw [if_pos h1]
      split at hk
      · rename_i a as hst
        (try rw [hst])
        (try dsimp only)
        split at hk
        · rename_i cj fs hs
          (try rw [hs])
          (try dsimp only)
          split at hk
          · rename_i e
            rw [if_pos e]
            exact qw_call hT hl _ _ _ _ _ _ hk
          · cases hk
        · cases hk
      · cases hk
    · cases hk
theorem qw_ins {k : qK} (hT : q_T k) {lv lv' : pm_L} {st : List Value} {g : qM} {u : qW} {R : Option Value × qM × qW} (hl : q_sub lv lv') (tab : Nat → Option pm_M) (big : Nat → List Value → qM → qW → qR) (M2 pc : Nat) (hk : qm_ins k tab big M2 pc lv st g u = some R) : qm_ins k tab big M2 pc lv' st g u = some R := by
  unfold qm_ins at hk ⊢
  split at hk
  · cases hk
  · rename_i m2 hm
    (try rw [hm])
    (try dsimp only)
    split at hk
    · rename_i h1
      rw [if_pos h1]
      exact qw_call hT hl _ _ _ _ _ _ hk
    · cases hk
theorem qw_step {tab : Nat → Option pm_M} {big : Nat → List Value → qM → qW → qR} {mm : pm_M} {e : pm_E} {pc : Nat} {k : qK} (hT : q_T k) {lv lv' : pm_L} {st : List Value} {g : qM} {u : qW} {R : Option Value × qM × qW} (hl : q_sub lv lv') (hk : qm_step tab big mm k e pc lv st g u = some R) : qm_step tab big mm k e pc lv' st g u = some R := by
  obtain ⟨i, a, b, z⟩ := e
  cases i with
  | iconst n => exact hT _ _ _ _ _ _ _ hl hk
  | bipush n => exact hT _ _ _ _ _ _ _ hl hk
  | sipush n => exact hT _ _ _ _ _ _ _ hl hk
  | lconst n => exact hT _ _ _ _ _ _ _ hl hk
  | ldc2_w ix => exact hT _ _ _ _ _ _ _ hl hk
  | iload_n i => exact qw_ldi hT hl _ _ hk
  | iload i => exact qw_ldi hT hl _ _ hk
  | lload_n i => exact qw_ldl hT hl _ _ hk
  | lload i => exact qw_ldl hT hl _ _ hk
  | aload_n i => exact qw_lda hT hl _ _ hk
  | aload i => exact qw_lda hT hl _ _ hk
  | istore_n i => exact qw_sti hT hl _ _ _ hk
  | istore i => exact qw_sti hT hl _ _ _ hk
  | lstore_n i => exact qw_stl hT hl _ _ _ hk
  | lstore i => exact qw_stl hT hl _ _ _ hk
  | astore_n i => exact qw_sta hT hl _ _ _ hk
  | astore i => exact qw_sta hT hl _ _ _ hk
  | iinc i n => exact qw_iinc hT hl _ _ _ _ hk
  | iadd => exact qw_bi hT hl _ _ hk
  | isub => exact qw_bi hT hl _ _ hk
  | imul => exact qw_bi hT hl _ _ hk
  | iand => exact qw_bi hT hl _ _ hk
  | ior => exact qw_bi hT hl _ _ hk
  | ixor => exact qw_bi hT hl _ _ hk
  | ishl => exact qw_bi hT hl _ _ hk
  | ishr => exact qw_bi hT hl _ _ hk
  | iushr => exact qw_bi hT hl _ _ hk
  | idiv => exact qw_bz hT hl _ _ hk
  | irem => exact qw_bz hT hl _ _ hk
  | ladd => exact qw_bl hT hl _ _ hk
  | lmul => exact qw_bl hT hl _ _ hk
  | ldiv => exact qw_blz hT hl _ _ hk
  | lrem => exact qw_blz hT hl _ _ hk
  | ineg => exact qw_u hT hl _ _ hk
  | i2b => exact qw_u hT hl _ _ hk
  | i2s => exact qw_u hT hl _ _ hk
  | i2l => exact qw_i2l hT hl _ hk
  | lcmp => exact qw_lcmp hT hl _ hk
  | dup => exact qw_dup hT hl _ hk
  | dup2 => exact qw_dup2 hT hl _ hk
  | pop => exact qw_pop hT hl _ hk
  | pop2 => exact qw_pop2 hT hl _ hk
  | ifCond cd ix => exact qw_if hT hl _ _ _ hk
  | if_icmp cd ix => exact qw_ic hT hl _ _ _ hk
  | goto ix => exact hT _ _ _ _ _ _ _ hl hk
  | tableswitch d lo hi offs => exact qw_tsw hT hl _ _ _ _ _ hk
  | getfield ix => exact qw_getf hT hl _ _ _ hk
  | putfield ix => exact qw_putf hT hl _ _ _ hk
  | iaload => exact qw_iald hT hl _ hk
  | baload => exact qw_bald hT hl _ hk
  | laload => exact qw_lald hT hl _ hk
  | aaload => exact qw_aald hT hl _ hk
  | iastore => exact qw_iast hT hl _ hk
  | bastore => exact qw_bast hT hl _ hk
  | lastore => exact qw_last hT hl _ hk
  | arraylength => exact qw_alen hT hl _ hk
  | ireturn => exact hk
  | lreturn => exact hk
  | areturn => exact hk
  | return_ => exact hk
  | ldc ix =>
    have hk1 : (if a = 0 then k (pc + 2) lv (.int (Int32.ofInt z) :: st) g u else if a = 1 then qm_ldcs k b pc lv st g u else none) = some R := hk
    show (if a = 0 then k (pc + 2) lv' (.int (Int32.ofInt z) :: st) g u else if a = 1 then qm_ldcs k b pc lv' st g u else none) = some R
    split at hk1
    · rename_i e
      rw [if_pos e]
      exact hT _ _ _ _ _ _ _ hl hk1
    · rename_i e
      rw [if_neg e]
      split at hk1
      · rename_i e2
        rw [if_pos e2]
        exact qw_ldcs hT hl _ _ hk1
      · cases hk1
  | ldc_w ix =>
    have hk1 : (if a = 0 then k (pc + 3) lv (.int (Int32.ofInt z) :: st) g u else none) = some R := hk
    show (if a = 0 then k (pc + 3) lv' (.int (Int32.ofInt z) :: st) g u else none) = some R
    split at hk1
    · rename_i e
      rw [if_pos e]
      exact hT _ _ _ _ _ _ _ hl hk1
    · cases hk1
  | invokevirtual ix =>
    have hk1 : (if b = 0 then qm_inv k tab big a pc lv st g u else if b = 4 then qm_slen k pc lv st g u else if b = 5 then qm_sch k pc lv st g u else none) = some R := hk
    show (if b = 0 then qm_inv k tab big a pc lv' st g u else if b = 4 then qm_slen k pc lv' st g u else if b = 5 then qm_sch k pc lv' st g u else none) = some R
    split at hk1
    · rename_i e
      rw [if_pos e]
      exact qw_inv hT hl _ _ _ _ hk1
    · rename_i e
      rw [if_neg e]
      split at hk1
      · rename_i e2
        rw [if_pos e2]
        exact qw_slen hT hl _ hk1
      · rename_i e2
        rw [if_neg e2]
        split at hk1
        · rename_i e3
          rw [if_pos e3]
          exact qw_sch hT hl _ hk1
        · cases hk1
  | invokespecial ix =>
    have hk1 : (if b = 1 then qm_inv k tab big a pc lv st g u else none) = some R := hk
    show (if b = 1 then qm_inv k tab big a pc lv' st g u else none) = some R
    split at hk1
    · rename_i e
      rw [if_pos e]
      exact qw_inv hT hl _ _ _ _ hk1
    · cases hk1
  | invokestatic ix =>
    have hk1 : (if b = 8 then qm_copy k pc lv st g u else if b = 2 ∨ b = 3 then qm_ins k tab big a pc lv st g u else none) = some R := hk
    show (if b = 8 then qm_copy k pc lv' st g u else if b = 2 ∨ b = 3 then qm_ins k tab big a pc lv' st g u else none) = some R
    split at hk1
    · rename_i e
      rw [if_pos e]
      exact qw_copy hT hl _ hk1
    · rename_i e
      rw [if_neg e]
      split at hk1
      · rename_i e2
        rw [if_pos e2]
        exact qw_ins hT hl _ _ _ _ hk1
      · cases hk1
  | _ => exact absurd (show (none : qR) = some R from hk) (fun q => by cases q)
theorem qw_run {tab : Nat → Option pm_M} {big : Nat → List Value → qM → qW → qR} {mm : pm_M} : ∀ n, q_T (qm_run tab big mm n)
  | 0 => fun _ _ _ _ _ _ _ _ hk => by cases hk
  | n + 1 => fun pc lv lv' st g u R hl hk => by
    have hk1 : (match pm_at mm pc with
      | some e => qm_step tab big mm (qm_run tab big mm n) e pc lv st g u
      | none => none) = some R := hk
    show (match pm_at mm pc with
      | some e => qm_step tab big mm (qm_run tab big mm n) e pc lv' st g u
      | none => none) = some R
    split at hk1
    · rename_i e he
      (try rw [he])
      exact qw_step (qw_run n) hl hk1
    · cases hk1
theorem q_weak {mm : pm_M} {pc : Nat} (lv : pm_L) {lv' : pm_L} {st : List Value} {g : qM} {u : qW} {Q : Option Value × qM × qW → Prop} (hl : q_sub lv lv') (h : q_EV mm pc lv st g u Q) : q_EV mm pc lv' st g u Q := by
  obtain ⟨R, ⟨F, hF⟩, hQ⟩ := h
  exact ⟨R, ⟨F, fun N d n h1 h2 h3 => qw_run n _ _ _ _ _ _ _ hl (hF N d n h1 h2 h3)⟩, hQ⟩
end
section
/-! SMALL METHODS: what they answer. -/
def s_abs (x : Int32) : Int32 := if 0 ≤ x then x else -x
def s_cmp (x y : Int32) : Int32 := if y ≤ x then (if x = y then 0 else 1) else Int32.ofInt (-1)
def s_sgn (x : Int32) : Int32 := if x ≤ 0 then (if 0 ≤ x then 0 else Int32.ofInt (-1)) else 1
def s_in (v lo hi : Int64) : Int32 := if lg_cmp v lo < 0 then 0 else if 0 < lg_cmp v hi then 0 else 1
def s_col (w x : Int32) : Int32 := x - x / w * w
def s_row (w x : Int32) : Int32 := x / w
theorem b_abs (x : Int32) (g : qM) (u : qW) : q_BS 62 [.int x] g u (some (.int (s_abs x)), g, u) := by
  refine q_bx (mm := m_62) rfl (Nat.le_of_ble_eq_true rfl) rfl ?_
  refine q_step 1 1 [(0, .int x)] [.int x] g u (fun _ _ => rfl) ?_
  refine q_if_ge rfl (fun (hc0 : 0 ≤ x) => ?_) (fun (hc0 : ¬ (0 ≤ x)) => ?_)
  · refine q_ret 2 (some (.int x), g, u) (fun _ _ => rfl) ?_
    simp [s_abs, hc0]
  · refine q_ret 4 (some (.int (-x)), g, u) (fun _ _ => rfl) ?_
    simp [s_abs, hc0]
theorem b_cmp (x y : Int32) (g : qM) (u : qW) : q_BS 63 [.int x, .int y] g u (some (.int (s_cmp x y)), g, u) := by
  refine q_bx (mm := m_63) rfl (Nat.le_of_ble_eq_true rfl) rfl ?_
  refine q_step 2 2 [(0, .int x), (1, .int y)] [.int y, .int x] g u (fun _ _ => rfl) ?_
  refine q_ic_ge rfl (fun (hc0 : y ≤ x) => ?_) (fun (hc0 : ¬ (y ≤ x)) => ?_)
  · refine q_step 2 11 [(0, .int x), (1, .int y)] [.int y, .int x] g u (fun _ _ => rfl) ?_
    refine q_ic_ne rfl (fun (hc1 : x = y) => ?_) (fun (hc1 : ¬ (x = y)) => ?_)
    · refine q_ret 3 (some (.int (0 : Int32)), g, u) (fun _ _ => rfl) ?_
      unfold s_cmp
      rw [if_pos hc0, if_pos hc1]
    · refine q_ret 2 (some (.int (1 : Int32)), g, u) (fun _ _ => rfl) ?_
      unfold s_cmp
      rw [if_pos hc0, if_neg hc1]
  · refine q_ret 3 (some (.int (Int32.ofInt (-1))), g, u) (fun _ _ => rfl) ?_
    unfold s_cmp
    rw [if_neg hc0]
theorem b_rabs (x : Int32) (g : qM) (u : qW) : q_BS 186 [.int x] g u (some (.int (s_abs x)), g, u) := by
  refine q_bx (mm := m_186) rfl (Nat.le_of_ble_eq_true rfl) rfl ?_
  refine q_step 1 1 [(0, .int x)] [.int x] g u (fun _ _ => rfl) ?_
  refine q_if_ge rfl (fun (hc0 : 0 ≤ x) => ?_) (fun (hc0 : ¬ (0 ≤ x)) => ?_)
  · refine q_ret 2 (some (.int x), g, u) (fun _ _ => rfl) ?_
    simp [s_abs, hc0]
  · refine q_ret 4 (some (.int (-x)), g, u) (fun _ _ => rfl) ?_
    simp [s_abs, hc0]
theorem b_sgn (x : Int32) (g : qM) (u : qW) : q_BS 187 [.int x] g u (some (.int (s_sgn x)), g, u) := by
  refine q_bx (mm := m_187) rfl (Nat.le_of_ble_eq_true rfl) rfl ?_
  refine q_step 1 1 [(0, .int x)] [.int x] g u (fun _ _ => rfl) ?_
  refine q_if_le rfl (fun (hc0 : x ≤ 0) => ?_) (fun (hc0 : ¬ (x ≤ 0)) => ?_)
  · refine q_step 1 9 [(0, .int x)] [.int x] g u (fun _ _ => rfl) ?_
    refine q_if_ge rfl (fun (hc1 : 0 ≤ x) => ?_) (fun (hc1 : ¬ (0 ≤ x)) => ?_)
    · refine q_ret 2 (some (.int (0 : Int32)), g, u) (fun _ _ => rfl) ?_
      unfold s_sgn
      rw [if_pos hc0, if_pos hc1]
    · refine q_ret 3 (some (.int (Int32.ofInt (-1))), g, u) (fun _ _ => rfl) ?_
      unfold s_sgn
      rw [if_pos hc0, if_neg hc1]
  · refine q_ret 3 (some (.int (1 : Int32)), g, u) (fun _ _ => rfl) ?_
    unfold s_sgn
    rw [if_neg hc0]
theorem b_in (v lo hi : Int64) (g : qM) (u : qW) : q_BS 149 [.long v, .long lo, .long hi] g u (some (.int (s_in v lo hi)), g, u) := by
  refine q_bx (mm := m_149) rfl (Nat.le_of_ble_eq_true rfl) rfl ?_
  refine q_step 3 3 [(0, .long v), (2, .long lo), (4, .long hi)] [.int (lg_cmp v lo)] g u (fun _ _ => rfl) ?_
  refine q_if_lt rfl (fun (hc0 : (lg_cmp v lo) < 0) => ?_) (fun (hc0 : ¬ ((lg_cmp v lo) < 0)) => ?_)
  · refine q_ret 2 (some (.int (0 : Int32)), g, u) (fun _ _ => rfl) ?_
    simp [s_in, hc0]
  · refine q_step 3 10 [(0, .long v), (2, .long lo), (4, .long hi)] [.int (lg_cmp v hi)] g u (fun _ _ => rfl) ?_
    refine q_if_gt rfl (fun (hc1 : 0 < (lg_cmp v hi)) => ?_) (fun (hc1 : ¬ (0 < (lg_cmp v hi))) => ?_)
    · refine q_ret 2 (some (.int (0 : Int32)), g, u) (fun _ _ => rfl) ?_
      simp [s_in, hc0, hc1]
    · refine q_ret 3 (some (.int (1 : Int32)), g, u) (fun _ _ => rfl) ?_
      simp [s_in, hc0, hc1]
theorem b_flag (x : Int32) (g : qM) (u : qW) : q_BS 164 [.int x] g u (some (.int (if x = 0 then 0 else 1)), g, u) := by
  refine q_bx (mm := m_164) rfl (Nat.le_of_ble_eq_true rfl) rfl ?_
  refine q_step 1 1 [(0, .int x)] [.int x] g u (fun _ _ => rfl) ?_
  refine q_if_eq rfl (fun (hc0 : x = 0) => ?_) (fun (hc0 : ¬ (x = 0)) => ?_)
  · refine q_ret 2 (some (.int (0 : Int32)), g, u) (fun _ _ => rfl) ?_
    simp [hc0]
  · refine q_ret 3 (some (.int (1 : Int32)), g, u) (fun _ _ => rfl) ?_
    simp [hc0]
theorem b_col20 (x : Int32) (g : qM) (u : qW) (hw : ¬ g 20 0 ≤ 0) : q_BS 59 [.ref 20, .int x] g u (some (.int (s_col (g 20 0) x)), g, u) := by
  refine q_bx (mm := m_59) rfl (Nat.le_of_ble_eq_true rfl) rfl ?_
  refine q_step 2 4 [(0, .ref 20), (1, .int x)] [.int (g 20 0)] g u (fun _ _ => rfl) ?_
  refine q_if_le rfl (fun (hc0 : (g 20 0) ≤ 0) => ?_) (fun (hc0 : ¬ ((g 20 0) ≤ 0)) => ?_)
  · refine q_ret 2 (some (.int (0 : Int32)), g, u) (fun _ _ => rfl) ?_
    exact absurd hc0 hw
  · refine q_step 3 12 [(0, .ref 20), (1, .int x)] [.int (g 20 0), .int x] g u (fun _ _ => rfl) ?_
    refine q_irem (fun q => hw (by rw [q]; decide)) rfl ?_
    refine q_ret 2 (some (.int (x - x / (g 20 0) * (g 20 0))), g, u) (fun _ _ => rfl) ?_
    rfl
theorem b_row20 (x : Int32) (g : qM) (u : qW) (hw : ¬ g 20 0 ≤ 0) : q_BS 60 [.ref 20, .int x] g u (some (.int (s_row (g 20 0) x)), g, u) := by
  refine q_bx (mm := m_60) rfl (Nat.le_of_ble_eq_true rfl) rfl ?_
  refine q_step 2 4 [(0, .ref 20), (1, .int x)] [.int (g 20 0)] g u (fun _ _ => rfl) ?_
  refine q_if_le rfl (fun (hc0 : (g 20 0) ≤ 0) => ?_) (fun (hc0 : ¬ ((g 20 0) ≤ 0)) => ?_)
  · refine q_ret 2 (some (.int (0 : Int32)), g, u) (fun _ _ => rfl) ?_
    exact absurd hc0 hw
  · refine q_step 3 12 [(0, .ref 20), (1, .int x)] [.int (g 20 0), .int x] g u (fun _ _ => rfl) ?_
    refine q_idiv (fun q => hw (by rw [q]; decide)) rfl ?_
    refine q_ret 2 (some (.int (x / (g 20 0))), g, u) (fun _ _ => rfl) ?_
    rfl
theorem b_col35 (x : Int32) (g : qM) (u : qW) (hw : ¬ g 35 0 ≤ 0) : q_BS 59 [.ref 35, .int x] g u (some (.int (s_col (g 35 0) x)), g, u) := by
  refine q_bx (mm := m_59) rfl (Nat.le_of_ble_eq_true rfl) rfl ?_
  refine q_step 2 4 [(0, .ref 35), (1, .int x)] [.int (g 35 0)] g u (fun _ _ => rfl) ?_
  refine q_if_le rfl (fun (hc0 : (g 35 0) ≤ 0) => ?_) (fun (hc0 : ¬ ((g 35 0) ≤ 0)) => ?_)
  · refine q_ret 2 (some (.int (0 : Int32)), g, u) (fun _ _ => rfl) ?_
    exact absurd hc0 hw
  · refine q_step 3 12 [(0, .ref 35), (1, .int x)] [.int (g 35 0), .int x] g u (fun _ _ => rfl) ?_
    refine q_irem (fun q => hw (by rw [q]; decide)) rfl ?_
    refine q_ret 2 (some (.int (x - x / (g 35 0) * (g 35 0))), g, u) (fun _ _ => rfl) ?_
    rfl
theorem b_row35 (x : Int32) (g : qM) (u : qW) (hw : ¬ g 35 0 ≤ 0) : q_BS 60 [.ref 35, .int x] g u (some (.int (s_row (g 35 0) x)), g, u) := by
  refine q_bx (mm := m_60) rfl (Nat.le_of_ble_eq_true rfl) rfl ?_
  refine q_step 2 4 [(0, .ref 35), (1, .int x)] [.int (g 35 0)] g u (fun _ _ => rfl) ?_
  refine q_if_le rfl (fun (hc0 : (g 35 0) ≤ 0) => ?_) (fun (hc0 : ¬ ((g 35 0) ≤ 0)) => ?_)
  · refine q_ret 2 (some (.int (0 : Int32)), g, u) (fun _ _ => rfl) ?_
    exact absurd hc0 hw
  · refine q_step 3 12 [(0, .ref 35), (1, .int x)] [.int (g 35 0), .int x] g u (fun _ _ => rfl) ?_
    refine q_idiv (fun q => hw (by rw [q]; decide)) rfl ?_
    refine q_ret 2 (some (.int (x / (g 35 0))), g, u) (fun _ _ => rfl) ?_
    rfl
end
section
/-! THE STEP, as both sides have it: forces. c: cells, mo: moods, pl: pulls by how far. -/
def s_far (w x y : Int32) : Int32 := s_abs (s_col w y - s_col w x) + s_abs (s_row w y - s_row w x)
/-- how strongly the pair draws (0: not at all) -/
def s_str (w : Int32) (c mo pl : Nat → Int32) (p q : Nat) : Int32 := if mo p = 0 then 0 else if mo q = 0 then 0 else if s_far w (c p) (c q) ≤ 4 then (if mo p = mo q then -(pl (s_far w (c p) (c q)).toInt.toNat) else pl (s_far w (c p) (c q)).toInt.toNat) else 0
def s_pe (w : Int32) (c mo pl : Nat → Int32) (p q : Nat) : Int32 := s_str w c mo pl p q * s_cmp (s_col w (c q) - s_col w (c p)) 0
def s_ps (w : Int32) (c mo pl : Nat → Int32) (p q : Nat) : Int32 := s_str w c mo pl p q * s_cmp (s_row w (c q) - s_row w (c p)) 0
/-- what the pair (p, q) adds to j -/
def s_K (e : Nat → Nat → Int32) (p q j : Nat) : Int32 := if j = p then e p q else if j = q then -(e p q) else 0
/-- f q + f (q + 1) + .., k of them -/
def s_sf (f : Nat → Int32) : Nat → Nat → Int32
  | 0, _ => 0
  | k + 1, q => f q + s_sf f k (q + 1)
def s_acc (g : qM) (A B : Nat → Int32) : qM := fun a j => if a = 31 then g 31 j + A j else if a = 32 then g 32 j + B j else g a j
/-- columns and rows of the first i, their sums 0 -/
def s_W1 (w : Int32) (c : Nat → Int32) (i : Nat) (g : qM) : qM := fun a j => if a = 29 then (if j < i then s_col w (c j) else g 29 j) else if a = 30 then (if j < i then s_row w (c j) else g 30 j) else if a = 31 then (if j < i then 0 else g 31 j) else if a = 32 then (if j < i then 0 else g 32 j) else g a j
/-- ways of the first i -/
def s_W4 (f : Nat → Int32) (i : Nat) (g : qM) : qM := fun a j => if a = 33 then (if j < i then f j else g 33 j) else g a j
def s_way2 (s : Int32) : Int32 := if s = 0 then 4 else if s ≤ 0 then 0 else 2
def s_way (e s : Int32) : Int32 := if e = 0 then s_way2 s else if s_abs e < s_abs s then s_way2 s else if e ≤ 0 then 3 else 1
theorem s_acc_o {g : qM} {A B : Nat → Int32} {a j : Nat} (h1 : a ≠ 31) (h2 : a ≠ 32) : s_acc g A B a j = g a j := by
  unfold s_acc
  rw [if_neg h1, if_neg h2]
theorem s_acc_0 (g : qM) : s_acc g (fun _ => 0) (fun _ => 0) = g := by
  funext a j
  unfold s_acc
  split
  · rename_i h
    rw [h, Int32.add_zero]
  · split
    · rename_i h
      rw [h, Int32.add_zero]
    · rfl
theorem s_acc_acc (g : qM) (A B C D : Nat → Int32) : s_acc (s_acc g A B) C D = s_acc g (fun j => A j + C j) (fun j => B j + D j) := by
  funext a j
  unfold s_acc
  split
  · rw [if_pos rfl, Int32.add_assoc]
  · split
    · rw [if_neg (by decide), if_pos rfl, Int32.add_assoc]
    · rfl
theorem q_up_eq (g : qM) (a j : Nat) (x : Int32) (b i : Nat) : q_up g a j x b i = if b = a ∧ i = j then x else g b i := by
  unfold q_up
  by_cases h1 : b = a
  · by_cases h2 : i = j
    · rw [if_pos ⟨h1, h2⟩, h1, h2, Nat.beq_refl, Nat.beq_refl]
      rfl
    · rw [if_neg (fun q => h2 q.2)]
      cases e : Nat.beq i j with
      | true => exact absurd (Nat.eq_of_beq_eq_true e) h2
      | false => rw [Bool.and_false]
  · rw [if_neg (fun q => h1 q.1)]
    cases e : Nat.beq b a with
    | true => exact absurd (Nat.eq_of_beq_eq_true e) h1
    | false => rw [Bool.false_and]
theorem s_W1_s (w : Int32) (c : Nat → Int32) (i : Nat) (g : qM) : q_up (q_up (q_up (q_up (s_W1 w c i g) 29 i (s_col w (c i))) 30 i (s_row w (c i))) 31 i 0) 32 i 0 = s_W1 w c (i + 1) g := by
  funext a j
  simp only [q_up_eq, s_W1]
  by_cases e : j = i
  · subst e
    by_cases h1 : a = 32
    · simp [h1]
    · by_cases h2 : a = 31
      · simp [h2]
      · by_cases h3 : a = 30
        · simp [h3]
        · by_cases h4 : a = 29
          · simp [h4]
          · simp [h1, h2, h3, h4]
  · have q : (j < i + 1) = (j < i) := propext ⟨fun h => by omega, fun h => by omega⟩
    simp only [e, and_false, if_false, q]
theorem s_W1_0 (w : Int32) (c : Nat → Int32) (g : qM) : s_W1 w c 0 g = g := by
  funext a j
  simp only [s_W1, Nat.not_lt_zero, if_false]
  by_cases h1 : a = 32
  · simp [h1]
  · by_cases h2 : a = 31
    · simp [h2]
    · by_cases h3 : a = 30
      · simp [h3]
      · by_cases h4 : a = 29
        · simp [h4]
        · simp [h1, h2, h3, h4]
theorem s_W4_s (f : Nat → Int32) (i : Nat) (g : qM) : q_up (s_W4 f i g) 33 i (f i) = s_W4 f (i + 1) g := by
  funext a j
  simp only [q_up_eq, s_W4]
  by_cases h : a = 33
  · by_cases e : j = i
    · subst e
      simp [h]
    · have q : (j < i + 1) = (j < i) := propext ⟨fun h => by omega, fun h => by omega⟩
      simp only [h, e, and_false, if_false, q]
  · simp [h]
theorem s_W4_0 (f : Nat → Int32) (g : qM) : s_W4 f 0 g = g := by
  funext a j
  simp only [s_W4, Nat.not_lt_zero, if_false]
  split
  · rename_i h
    rw [h]
  · rfl
theorem s_pair (g : qM) (p q : Nat) (e f : Int32) (h : p ≠ q) : q_up (q_up (q_up (q_up g 31 p (g 31 p + e)) 31 q ((q_up g 31 p (g 31 p + e)) 31 q - e)) 32 p (g 32 p + f)) 32 q ((q_up (q_up (q_up g 31 p (g 31 p + e)) 31 q ((q_up g 31 p (g 31 p + e)) 31 q - e)) 32 p (g 32 p + f)) 32 q - f) = s_acc g (fun j => if j = p then e else if j = q then -e else 0) (fun j => if j = p then f else if j = q then -f else 0) := by
  have h' : ¬ q = p := fun x => h x.symm
  funext a j
  simp only [q_up_eq, s_acc]
  by_cases h1 : a = 31
  · by_cases h2 : j = p
    · simp [h1, h2, h]
    · by_cases h3 : j = q
      · simp [h1, h3, h', Int32.sub_eq_add_neg]
      · simp [h1, h2, h3]
  · by_cases h4 : a = 32
    · by_cases h2 : j = p
      · simp [h4, h2, h]
      · by_cases h3 : j = q
        · simp [h4, h3, h', Int32.sub_eq_add_neg]
        · simp [h4, h2, h3]
    · simp [h1, h4]
theorem s_acc_n (g : qM) (p q : Nat) : s_acc g (fun j => if j = p then (0 : Int32) else if j = q then -0 else 0) (fun j => if j = p then (0 : Int32) else if j = q then -0 else 0) = g := by
  have e : (fun j => if j = p then (0 : Int32) else if j = q then -0 else 0) = fun _ => 0 := by
    funext j
    split
    · rfl
    · split <;> rfl
  rw [e, s_acc_0]
end
section
theorem b_wayBy (e s : Int32) (g : qM) (u : qW) : q_BS 64 [.int e, .int s] g u (some (.int (s_way e s)), g, u) := by
  refine q_bx (mm := m_64) rfl (Nat.le_of_ble_eq_true rfl) rfl ?_
  refine q_step 1 1 [(0, .int e), (1, .int s)] [.int e] g u (fun _ _ => rfl) ?_
  refine q_if_eq rfl (fun (hc0 : e = 0) => ?_) (fun (hc0 : ¬ (e = 0)) => ?_)
  · refine q_step 1 26 [(0, .int e), (1, .int s)] [.int s] g u (fun _ _ => rfl) ?_
    refine q_if_eq rfl (fun (hc1 : s = 0) => ?_) (fun (hc1 : ¬ (s = 0)) => ?_)
    · refine q_ret 2 (some (.int (4 : Int32)), g, u) (fun _ _ => rfl) ?_
      unfold s_way s_way2
      rw [if_pos hc0, if_pos hc1]
    · refine q_step 1 30 [(0, .int e), (1, .int s)] [.int s] g u (fun _ _ => rfl) ?_
      refine q_if_le rfl (fun (hc2 : s ≤ 0) => ?_) (fun (hc2 : ¬ (s ≤ 0)) => ?_)
      · refine q_ret 2 (some (.int (0 : Int32)), g, u) (fun _ _ => rfl) ?_
        unfold s_way s_way2
        rw [if_pos hc0, if_neg hc1, if_pos hc2]
      · refine q_ret 3 (some (.int (2 : Int32)), g, u) (fun _ _ => rfl) ?_
        unfold s_way s_way2
        rw [if_pos hc0, if_neg hc1, if_neg hc2]
  · refine q_step 1 5 [(0, .int e), (1, .int s)] [.int e] g u (fun _ _ => rfl) ?_
    refine q_call (M2 := 62) (rest := []) (b_abs _ _ _) (fun _ _ => rfl) ?_
    refine q_step 1 9 [(0, .int e), (1, .int s)] [.int s, .int (s_abs e)] g u (fun _ _ => rfl) ?_
    refine q_call (M2 := 62) (rest := [.int (s_abs e)]) (b_abs _ _ _) (fun _ _ => rfl) ?_
    refine q_ic_lt rfl (fun (hc1 : (s_abs e) < (s_abs s)) => ?_) (fun (hc1 : ¬ ((s_abs e) < (s_abs s))) => ?_)
    · refine q_step 1 26 [(0, .int e), (1, .int s)] [.int s] g u (fun _ _ => rfl) ?_
      refine q_if_eq rfl (fun (hc2 : s = 0) => ?_) (fun (hc2 : ¬ (s = 0)) => ?_)
      · refine q_ret 2 (some (.int (4 : Int32)), g, u) (fun _ _ => rfl) ?_
        unfold s_way s_way2
        rw [if_neg hc0, if_pos hc1, if_pos hc2]
      · refine q_step 1 30 [(0, .int e), (1, .int s)] [.int s] g u (fun _ _ => rfl) ?_
        refine q_if_le rfl (fun (hc3 : s ≤ 0) => ?_) (fun (hc3 : ¬ (s ≤ 0)) => ?_)
        · refine q_ret 2 (some (.int (0 : Int32)), g, u) (fun _ _ => rfl) ?_
          unfold s_way s_way2
          rw [if_neg hc0, if_pos hc1, if_neg hc2, if_pos hc3]
        · refine q_ret 3 (some (.int (2 : Int32)), g, u) (fun _ _ => rfl) ?_
          unfold s_way s_way2
          rw [if_neg hc0, if_pos hc1, if_neg hc2, if_neg hc3]
    · refine q_step 1 16 [(0, .int e), (1, .int s)] [.int e] g u (fun _ _ => rfl) ?_
      refine q_if_le rfl (fun (hc2 : e ≤ 0) => ?_) (fun (hc2 : ¬ (e ≤ 0)) => ?_)
      · refine q_ret 2 (some (.int (3 : Int32)), g, u) (fun _ _ => rfl) ?_
        unfold s_way s_way2
        rw [if_neg hc0, if_neg hc1, if_pos hc2]
      · refine q_ret 3 (some (.int (1 : Int32)), g, u) (fun _ _ => rfl) ?_
        unfold s_way s_way2
        rw [if_neg hc0, if_neg hc1, if_neg hc2]
/-- what a look at a pair adds -/
def s_wpm (mo pl : Nat → Int32) (g : qM) (p q : Nat) : qM := s_acc g
  (fun j => if j = p then (if s_abs (g 29 q - g 29 p) + s_abs (g 30 q - g 30 p) ≤ 4 then (if mo p = mo q then -(pl (s_abs (g 29 q - g 29 p) + s_abs (g 30 q - g 30 p)).toInt.toNat) else pl (s_abs (g 29 q - g 29 p) + s_abs (g 30 q - g 30 p)).toInt.toNat) else 0) * s_cmp (g 29 q - g 29 p) 0 else if j = q then -((if s_abs (g 29 q - g 29 p) + s_abs (g 30 q - g 30 p) ≤ 4 then (if mo p = mo q then -(pl (s_abs (g 29 q - g 29 p) + s_abs (g 30 q - g 30 p)).toInt.toNat) else pl (s_abs (g 29 q - g 29 p) + s_abs (g 30 q - g 30 p)).toInt.toNat) else 0) * s_cmp (g 29 q - g 29 p) 0) else 0)
  (fun j => if j = p then (if s_abs (g 29 q - g 29 p) + s_abs (g 30 q - g 30 p) ≤ 4 then (if mo p = mo q then -(pl (s_abs (g 29 q - g 29 p) + s_abs (g 30 q - g 30 p)).toInt.toNat) else pl (s_abs (g 29 q - g 29 p) + s_abs (g 30 q - g 30 p)).toInt.toNat) else 0) * s_cmp (g 30 q - g 30 p) 0 else if j = q then -((if s_abs (g 29 q - g 29 p) + s_abs (g 30 q - g 30 p) ≤ 4 then (if mo p = mo q then -(pl (s_abs (g 29 q - g 29 p) + s_abs (g 30 q - g 30 p)).toInt.toNat) else pl (s_abs (g 29 q - g 29 p) + s_abs (g 30 q - g 30 p)).toInt.toNat) else 0) * s_cmp (g 30 q - g 30 p) 0) else 0)
theorem b_wp20 {p q : Nat} (g : qM) (u : qW) (hp : p < 6) (hq : q < 6) (hpq : p ≠ q) (hf : 0 ≤ (s_abs (g 29 q - g 29 p) + s_abs (g 30 q - g 30 p)).toInt) : q_BS 61 [.ref 28, .ref 20, .int (Int32.ofNat p), .int (Int32.ofNat q)] g u (none, s_wpm (g 22) (g 25) g p q, u) := by
  refine q_bx (mm := m_61) rfl (Nat.le_of_ble_eq_true rfl) rfl ?_
  refine q_step 3 5 [(0, .ref 28), (1, .ref 20), (2, .int (Int32.ofNat p)), (3, .int (Int32.ofNat q))] [.int (Int32.ofNat q), .ref 29] g u (fun _ _ => rfl) ?_
  refine q_iald (j := q) (q_ixn (by omega) (by omega)) rfl rfl ?_
  refine q_step 3 11 [(0, .ref 28), (1, .ref 20), (2, .int (Int32.ofNat p)), (3, .int (Int32.ofNat q))] [.int (Int32.ofNat p), .ref 29, .int (g 29 q)] g u (fun _ _ => rfl) ?_
  refine q_iald (j := p) (q_ixn (by omega) (by omega)) rfl rfl ?_
  refine q_step 5 20 [(0, .ref 28), (1, .ref 20), (2, .int (Int32.ofNat p)), (3, .int (Int32.ofNat q)), (4, .int ((g 29 q) - (g 29 p)))] [.int (Int32.ofNat q), .ref 30] g u (fun _ _ => rfl) ?_
  refine q_iald (j := q) (q_ixn (by omega) (by omega)) rfl rfl ?_
  refine q_step 3 26 [(0, .ref 28), (1, .ref 20), (2, .int (Int32.ofNat p)), (3, .int (Int32.ofNat q)), (4, .int ((g 29 q) - (g 29 p)))] [.int (Int32.ofNat p), .ref 30, .int (g 30 q)] g u (fun _ _ => rfl) ?_
  refine q_iald (j := p) (q_ixn (by omega) (by omega)) rfl rfl ?_
  refine q_step 3 32 [(0, .ref 28), (1, .ref 20), (2, .int (Int32.ofNat p)), (3, .int (Int32.ofNat q)), (4, .int ((g 29 q) - (g 29 p))), (5, .int ((g 30 q) - (g 30 p)))] [.int ((g 29 q) - (g 29 p))] g u (fun _ _ => rfl) ?_
  refine q_call (M2 := 62) (rest := []) (b_abs _ _ _) (fun _ _ => rfl) ?_
  refine q_step 1 37 [(0, .ref 28), (1, .ref 20), (2, .int (Int32.ofNat p)), (3, .int (Int32.ofNat q)), (4, .int ((g 29 q) - (g 29 p))), (5, .int ((g 30 q) - (g 30 p)))] [.int ((g 30 q) - (g 30 p)), .int (s_abs ((g 29 q) - (g 29 p)))] g u (fun _ _ => rfl) ?_
  refine q_call (M2 := 62) (rest := [.int (s_abs ((g 29 q) - (g 29 p)))]) (b_abs _ _ _) (fun _ _ => rfl) ?_
  refine q_step 4 46 [(0, .ref 28), (1, .ref 20), (2, .int (Int32.ofNat p)), (3, .int (Int32.ofNat q)), (4, .int ((g 29 q) - (g 29 p))), (5, .int ((g 30 q) - (g 30 p))), (6, .int ((s_abs ((g 29 q) - (g 29 p))) + (s_abs ((g 30 q) - (g 30 p)))))] [.int (4 : Int32), .int ((s_abs ((g 29 q) - (g 29 p))) + (s_abs ((g 30 q) - (g 30 p))))] g u (fun _ _ => rfl) ?_
  refine q_ic_le rfl (fun (hc0 : ((s_abs ((g 29 q) - (g 29 p))) + (s_abs ((g 30 q) - (g 30 p)))) ≤ (4 : Int32)) => ?_) (fun (hc0 : ¬ (((s_abs ((g 29 q) - (g 29 p))) + (s_abs ((g 30 q) - (g 30 p)))) ≤ (4 : Int32))) => ?_)
  · refine q_step 3 55 [(0, .ref 28), (1, .ref 20), (2, .int (Int32.ofNat p)), (3, .int (Int32.ofNat q)), (4, .int ((g 29 q) - (g 29 p))), (5, .int ((g 30 q) - (g 30 p))), (6, .int ((s_abs ((g 29 q) - (g 29 p))) + (s_abs ((g 30 q) - (g 30 p)))))] [.int (Int32.ofNat p), .ref 22] g u (fun _ _ => rfl) ?_
    refine q_iald (j := p) (q_ixn (by omega) (by omega)) rfl rfl ?_
    refine q_step 3 61 [(0, .ref 28), (1, .ref 20), (2, .int (Int32.ofNat p)), (3, .int (Int32.ofNat q)), (4, .int ((g 29 q) - (g 29 p))), (5, .int ((g 30 q) - (g 30 p))), (6, .int ((s_abs ((g 29 q) - (g 29 p))) + (s_abs ((g 30 q) - (g 30 p)))))] [.int (Int32.ofNat q), .ref 22, .int (g 22 p)] g u (fun _ _ => rfl) ?_
    refine q_iald (j := q) (q_ixn (by omega) (by omega)) rfl rfl ?_
    refine q_ic_ne rfl (fun (hc1 : (g 22 p) = (g 22 q)) => ?_) (fun (hc1 : ¬ ((g 22 p) = (g 22 q))) => ?_)
    · refine q_step 3 71 [(0, .ref 28), (1, .ref 20), (2, .int (Int32.ofNat p)), (3, .int (Int32.ofNat q)), (4, .int ((g 29 q) - (g 29 p))), (5, .int ((g 30 q) - (g 30 p))), (6, .int ((s_abs ((g 29 q) - (g 29 p))) + (s_abs ((g 30 q) - (g 30 p)))))] [.int ((s_abs ((g 29 q) - (g 29 p))) + (s_abs ((g 30 q) - (g 30 p)))), .ref 25] g u (fun _ _ => rfl) ?_
      refine q_iald (j := (((s_abs ((g 29 q) - (g 29 p))) + (s_abs ((g 30 q) - (g 30 p))))).toInt.toNat) (q_ixi hf (by have h4 := Int32.le_iff_toInt_le.mp hc0; have z : (4 : Int32).toInt = 4 := rfl; omega)) rfl rfl ?_
      refine q_step 6 90 [(0, .ref 28), (1, .ref 20), (2, .int (Int32.ofNat p)), (3, .int (Int32.ofNat q)), (4, .int ((g 29 q) - (g 29 p))), (5, .int ((g 30 q) - (g 30 p))), (6, .int ((s_abs ((g 29 q) - (g 29 p))) + (s_abs ((g 30 q) - (g 30 p))))), (7, .int (-(g 25 (((s_abs ((g 29 q) - (g 29 p))) + (s_abs ((g 30 q) - (g 30 p))))).toInt.toNat)))] [.int (0 : Int32), .int ((g 29 q) - (g 29 p)), .int (-(g 25 (((s_abs ((g 29 q) - (g 29 p))) + (s_abs ((g 30 q) - (g 30 p))))).toInt.toNat))] g u (fun _ _ => rfl) ?_
      refine q_call (M2 := 63) (rest := [.int (-(g 25 (((s_abs ((g 29 q) - (g 29 p))) + (s_abs ((g 30 q) - (g 30 p))))).toInt.toNat))]) (b_cmp _ _ _ _) (fun _ _ => rfl) ?_
      refine q_step 5 101 [(0, .ref 28), (1, .ref 20), (2, .int (Int32.ofNat p)), (3, .int (Int32.ofNat q)), (4, .int ((g 29 q) - (g 29 p))), (5, .int ((g 30 q) - (g 30 p))), (6, .int ((s_abs ((g 29 q) - (g 29 p))) + (s_abs ((g 30 q) - (g 30 p))))), (7, .int (-(g 25 (((s_abs ((g 29 q) - (g 29 p))) + (s_abs ((g 30 q) - (g 30 p))))).toInt.toNat))), (8, .int ((-(g 25 (((s_abs ((g 29 q) - (g 29 p))) + (s_abs ((g 30 q) - (g 30 p))))).toInt.toNat)) * (s_cmp ((g 29 q) - (g 29 p)) (0 : Int32))))] [.int (0 : Int32), .int ((g 30 q) - (g 30 p)), .int (-(g 25 (((s_abs ((g 29 q) - (g 29 p))) + (s_abs ((g 30 q) - (g 30 p))))).toInt.toNat))] g u (fun _ _ => rfl) ?_
      refine q_call (M2 := 63) (rest := [.int (-(g 25 (((s_abs ((g 29 q) - (g 29 p))) + (s_abs ((g 30 q) - (g 30 p))))).toInt.toNat))]) (b_cmp _ _ _ _) (fun _ _ => rfl) ?_
      refine q_step 6 113 [(0, .ref 28), (1, .ref 20), (2, .int (Int32.ofNat p)), (3, .int (Int32.ofNat q)), (4, .int ((g 29 q) - (g 29 p))), (5, .int ((g 30 q) - (g 30 p))), (6, .int ((s_abs ((g 29 q) - (g 29 p))) + (s_abs ((g 30 q) - (g 30 p))))), (7, .int (-(g 25 (((s_abs ((g 29 q) - (g 29 p))) + (s_abs ((g 30 q) - (g 30 p))))).toInt.toNat))), (8, .int ((-(g 25 (((s_abs ((g 29 q) - (g 29 p))) + (s_abs ((g 30 q) - (g 30 p))))).toInt.toNat)) * (s_cmp ((g 29 q) - (g 29 p)) (0 : Int32)))), (9, .int ((-(g 25 (((s_abs ((g 29 q) - (g 29 p))) + (s_abs ((g 30 q) - (g 30 p))))).toInt.toNat)) * (s_cmp ((g 30 q) - (g 30 p)) (0 : Int32))))] [.int (Int32.ofNat p), .ref 31, .int (Int32.ofNat p), .ref 31] g u (fun _ _ => rfl) ?_
      refine q_iald (j := p) (q_ixn (by omega) (by omega)) rfl rfl ?_
      refine q_step 2 117 [(0, .ref 28), (1, .ref 20), (2, .int (Int32.ofNat p)), (3, .int (Int32.ofNat q)), (4, .int ((g 29 q) - (g 29 p))), (5, .int ((g 30 q) - (g 30 p))), (6, .int ((s_abs ((g 29 q) - (g 29 p))) + (s_abs ((g 30 q) - (g 30 p))))), (7, .int (-(g 25 (((s_abs ((g 29 q) - (g 29 p))) + (s_abs ((g 30 q) - (g 30 p))))).toInt.toNat))), (8, .int ((-(g 25 (((s_abs ((g 29 q) - (g 29 p))) + (s_abs ((g 30 q) - (g 30 p))))).toInt.toNat)) * (s_cmp ((g 29 q) - (g 29 p)) (0 : Int32)))), (9, .int ((-(g 25 (((s_abs ((g 29 q) - (g 29 p))) + (s_abs ((g 30 q) - (g 30 p))))).toInt.toNat)) * (s_cmp ((g 30 q) - (g 30 p)) (0 : Int32))))] [.int ((g 31 p) + ((-(g 25 (((s_abs ((g 29 q) - (g 29 p))) + (s_abs ((g 30 q) - (g 30 p))))).toInt.toNat)) * (s_cmp ((g 29 q) - (g 29 p)) (0 : Int32)))), .int (Int32.ofNat p), .ref 31] g u (fun _ _ => rfl) ?_
      refine q_iast (j := p) (q_ixn (by omega) (by omega)) rfl rfl ?_
      refine q_step 4 124 [(0, .ref 28), (1, .ref 20), (2, .int (Int32.ofNat p)), (3, .int (Int32.ofNat q)), (4, .int ((g 29 q) - (g 29 p))), (5, .int ((g 30 q) - (g 30 p))), (6, .int ((s_abs ((g 29 q) - (g 29 p))) + (s_abs ((g 30 q) - (g 30 p))))), (7, .int (-(g 25 (((s_abs ((g 29 q) - (g 29 p))) + (s_abs ((g 30 q) - (g 30 p))))).toInt.toNat))), (8, .int ((-(g 25 (((s_abs ((g 29 q) - (g 29 p))) + (s_abs ((g 30 q) - (g 30 p))))).toInt.toNat)) * (s_cmp ((g 29 q) - (g 29 p)) (0 : Int32)))), (9, .int ((-(g 25 (((s_abs ((g 29 q) - (g 29 p))) + (s_abs ((g 30 q) - (g 30 p))))).toInt.toNat)) * (s_cmp ((g 30 q) - (g 30 p)) (0 : Int32))))] [.int (Int32.ofNat q), .ref 31, .int (Int32.ofNat q), .ref 31] (q_up g 31 p ((g 31 p) + ((-(g 25 (((s_abs ((g 29 q) - (g 29 p))) + (s_abs ((g 30 q) - (g 30 p))))).toInt.toNat)) * (s_cmp ((g 29 q) - (g 29 p)) (0 : Int32))))) u (fun _ _ => rfl) ?_
      refine q_iald (j := q) (q_ixn (by omega) (by omega)) rfl rfl ?_
      refine q_step 2 128 [(0, .ref 28), (1, .ref 20), (2, .int (Int32.ofNat p)), (3, .int (Int32.ofNat q)), (4, .int ((g 29 q) - (g 29 p))), (5, .int ((g 30 q) - (g 30 p))), (6, .int ((s_abs ((g 29 q) - (g 29 p))) + (s_abs ((g 30 q) - (g 30 p))))), (7, .int (-(g 25 (((s_abs ((g 29 q) - (g 29 p))) + (s_abs ((g 30 q) - (g 30 p))))).toInt.toNat))), (8, .int ((-(g 25 (((s_abs ((g 29 q) - (g 29 p))) + (s_abs ((g 30 q) - (g 30 p))))).toInt.toNat)) * (s_cmp ((g 29 q) - (g 29 p)) (0 : Int32)))), (9, .int ((-(g 25 (((s_abs ((g 29 q) - (g 29 p))) + (s_abs ((g 30 q) - (g 30 p))))).toInt.toNat)) * (s_cmp ((g 30 q) - (g 30 p)) (0 : Int32))))] [.int (((q_up g 31 p ((g 31 p) + ((-(g 25 (((s_abs ((g 29 q) - (g 29 p))) + (s_abs ((g 30 q) - (g 30 p))))).toInt.toNat)) * (s_cmp ((g 29 q) - (g 29 p)) (0 : Int32))))) 31 q) - ((-(g 25 (((s_abs ((g 29 q) - (g 29 p))) + (s_abs ((g 30 q) - (g 30 p))))).toInt.toNat)) * (s_cmp ((g 29 q) - (g 29 p)) (0 : Int32)))), .int (Int32.ofNat q), .ref 31] (q_up g 31 p ((g 31 p) + ((-(g 25 (((s_abs ((g 29 q) - (g 29 p))) + (s_abs ((g 30 q) - (g 30 p))))).toInt.toNat)) * (s_cmp ((g 29 q) - (g 29 p)) (0 : Int32))))) u (fun _ _ => rfl) ?_
      refine q_iast (j := q) (q_ixn (by omega) (by omega)) rfl rfl ?_
      refine q_step 4 135 [(0, .ref 28), (1, .ref 20), (2, .int (Int32.ofNat p)), (3, .int (Int32.ofNat q)), (4, .int ((g 29 q) - (g 29 p))), (5, .int ((g 30 q) - (g 30 p))), (6, .int ((s_abs ((g 29 q) - (g 29 p))) + (s_abs ((g 30 q) - (g 30 p))))), (7, .int (-(g 25 (((s_abs ((g 29 q) - (g 29 p))) + (s_abs ((g 30 q) - (g 30 p))))).toInt.toNat))), (8, .int ((-(g 25 (((s_abs ((g 29 q) - (g 29 p))) + (s_abs ((g 30 q) - (g 30 p))))).toInt.toNat)) * (s_cmp ((g 29 q) - (g 29 p)) (0 : Int32)))), (9, .int ((-(g 25 (((s_abs ((g 29 q) - (g 29 p))) + (s_abs ((g 30 q) - (g 30 p))))).toInt.toNat)) * (s_cmp ((g 30 q) - (g 30 p)) (0 : Int32))))] [.int (Int32.ofNat p), .ref 32, .int (Int32.ofNat p), .ref 32] (q_up (q_up g 31 p ((g 31 p) + ((-(g 25 (((s_abs ((g 29 q) - (g 29 p))) + (s_abs ((g 30 q) - (g 30 p))))).toInt.toNat)) * (s_cmp ((g 29 q) - (g 29 p)) (0 : Int32))))) 31 q (((q_up g 31 p ((g 31 p) + ((-(g 25 (((s_abs ((g 29 q) - (g 29 p))) + (s_abs ((g 30 q) - (g 30 p))))).toInt.toNat)) * (s_cmp ((g 29 q) - (g 29 p)) (0 : Int32))))) 31 q) - ((-(g 25 (((s_abs ((g 29 q) - (g 29 p))) + (s_abs ((g 30 q) - (g 30 p))))).toInt.toNat)) * (s_cmp ((g 29 q) - (g 29 p)) (0 : Int32))))) u (fun _ _ => rfl) ?_
      refine q_iald (j := p) (q_ixn (by omega) (by omega)) rfl rfl ?_
      refine q_step 2 139 [(0, .ref 28), (1, .ref 20), (2, .int (Int32.ofNat p)), (3, .int (Int32.ofNat q)), (4, .int ((g 29 q) - (g 29 p))), (5, .int ((g 30 q) - (g 30 p))), (6, .int ((s_abs ((g 29 q) - (g 29 p))) + (s_abs ((g 30 q) - (g 30 p))))), (7, .int (-(g 25 (((s_abs ((g 29 q) - (g 29 p))) + (s_abs ((g 30 q) - (g 30 p))))).toInt.toNat))), (8, .int ((-(g 25 (((s_abs ((g 29 q) - (g 29 p))) + (s_abs ((g 30 q) - (g 30 p))))).toInt.toNat)) * (s_cmp ((g 29 q) - (g 29 p)) (0 : Int32)))), (9, .int ((-(g 25 (((s_abs ((g 29 q) - (g 29 p))) + (s_abs ((g 30 q) - (g 30 p))))).toInt.toNat)) * (s_cmp ((g 30 q) - (g 30 p)) (0 : Int32))))] [.int ((g 32 p) + ((-(g 25 (((s_abs ((g 29 q) - (g 29 p))) + (s_abs ((g 30 q) - (g 30 p))))).toInt.toNat)) * (s_cmp ((g 30 q) - (g 30 p)) (0 : Int32)))), .int (Int32.ofNat p), .ref 32] (q_up (q_up g 31 p ((g 31 p) + ((-(g 25 (((s_abs ((g 29 q) - (g 29 p))) + (s_abs ((g 30 q) - (g 30 p))))).toInt.toNat)) * (s_cmp ((g 29 q) - (g 29 p)) (0 : Int32))))) 31 q (((q_up g 31 p ((g 31 p) + ((-(g 25 (((s_abs ((g 29 q) - (g 29 p))) + (s_abs ((g 30 q) - (g 30 p))))).toInt.toNat)) * (s_cmp ((g 29 q) - (g 29 p)) (0 : Int32))))) 31 q) - ((-(g 25 (((s_abs ((g 29 q) - (g 29 p))) + (s_abs ((g 30 q) - (g 30 p))))).toInt.toNat)) * (s_cmp ((g 29 q) - (g 29 p)) (0 : Int32))))) u (fun _ _ => rfl) ?_
      refine q_iast (j := p) (q_ixn (by omega) (by omega)) rfl rfl ?_
      refine q_step 4 146 [(0, .ref 28), (1, .ref 20), (2, .int (Int32.ofNat p)), (3, .int (Int32.ofNat q)), (4, .int ((g 29 q) - (g 29 p))), (5, .int ((g 30 q) - (g 30 p))), (6, .int ((s_abs ((g 29 q) - (g 29 p))) + (s_abs ((g 30 q) - (g 30 p))))), (7, .int (-(g 25 (((s_abs ((g 29 q) - (g 29 p))) + (s_abs ((g 30 q) - (g 30 p))))).toInt.toNat))), (8, .int ((-(g 25 (((s_abs ((g 29 q) - (g 29 p))) + (s_abs ((g 30 q) - (g 30 p))))).toInt.toNat)) * (s_cmp ((g 29 q) - (g 29 p)) (0 : Int32)))), (9, .int ((-(g 25 (((s_abs ((g 29 q) - (g 29 p))) + (s_abs ((g 30 q) - (g 30 p))))).toInt.toNat)) * (s_cmp ((g 30 q) - (g 30 p)) (0 : Int32))))] [.int (Int32.ofNat q), .ref 32, .int (Int32.ofNat q), .ref 32] (q_up (q_up (q_up g 31 p ((g 31 p) + ((-(g 25 (((s_abs ((g 29 q) - (g 29 p))) + (s_abs ((g 30 q) - (g 30 p))))).toInt.toNat)) * (s_cmp ((g 29 q) - (g 29 p)) (0 : Int32))))) 31 q (((q_up g 31 p ((g 31 p) + ((-(g 25 (((s_abs ((g 29 q) - (g 29 p))) + (s_abs ((g 30 q) - (g 30 p))))).toInt.toNat)) * (s_cmp ((g 29 q) - (g 29 p)) (0 : Int32))))) 31 q) - ((-(g 25 (((s_abs ((g 29 q) - (g 29 p))) + (s_abs ((g 30 q) - (g 30 p))))).toInt.toNat)) * (s_cmp ((g 29 q) - (g 29 p)) (0 : Int32))))) 32 p ((g 32 p) + ((-(g 25 (((s_abs ((g 29 q) - (g 29 p))) + (s_abs ((g 30 q) - (g 30 p))))).toInt.toNat)) * (s_cmp ((g 30 q) - (g 30 p)) (0 : Int32))))) u (fun _ _ => rfl) ?_
      refine q_iald (j := q) (q_ixn (by omega) (by omega)) rfl rfl ?_
      refine q_step 2 150 [(0, .ref 28), (1, .ref 20), (2, .int (Int32.ofNat p)), (3, .int (Int32.ofNat q)), (4, .int ((g 29 q) - (g 29 p))), (5, .int ((g 30 q) - (g 30 p))), (6, .int ((s_abs ((g 29 q) - (g 29 p))) + (s_abs ((g 30 q) - (g 30 p))))), (7, .int (-(g 25 (((s_abs ((g 29 q) - (g 29 p))) + (s_abs ((g 30 q) - (g 30 p))))).toInt.toNat))), (8, .int ((-(g 25 (((s_abs ((g 29 q) - (g 29 p))) + (s_abs ((g 30 q) - (g 30 p))))).toInt.toNat)) * (s_cmp ((g 29 q) - (g 29 p)) (0 : Int32)))), (9, .int ((-(g 25 (((s_abs ((g 29 q) - (g 29 p))) + (s_abs ((g 30 q) - (g 30 p))))).toInt.toNat)) * (s_cmp ((g 30 q) - (g 30 p)) (0 : Int32))))] [.int (((q_up (q_up (q_up g 31 p ((g 31 p) + ((-(g 25 (((s_abs ((g 29 q) - (g 29 p))) + (s_abs ((g 30 q) - (g 30 p))))).toInt.toNat)) * (s_cmp ((g 29 q) - (g 29 p)) (0 : Int32))))) 31 q (((q_up g 31 p ((g 31 p) + ((-(g 25 (((s_abs ((g 29 q) - (g 29 p))) + (s_abs ((g 30 q) - (g 30 p))))).toInt.toNat)) * (s_cmp ((g 29 q) - (g 29 p)) (0 : Int32))))) 31 q) - ((-(g 25 (((s_abs ((g 29 q) - (g 29 p))) + (s_abs ((g 30 q) - (g 30 p))))).toInt.toNat)) * (s_cmp ((g 29 q) - (g 29 p)) (0 : Int32))))) 32 p ((g 32 p) + ((-(g 25 (((s_abs ((g 29 q) - (g 29 p))) + (s_abs ((g 30 q) - (g 30 p))))).toInt.toNat)) * (s_cmp ((g 30 q) - (g 30 p)) (0 : Int32))))) 32 q) - ((-(g 25 (((s_abs ((g 29 q) - (g 29 p))) + (s_abs ((g 30 q) - (g 30 p))))).toInt.toNat)) * (s_cmp ((g 30 q) - (g 30 p)) (0 : Int32)))), .int (Int32.ofNat q), .ref 32] (q_up (q_up (q_up g 31 p ((g 31 p) + ((-(g 25 (((s_abs ((g 29 q) - (g 29 p))) + (s_abs ((g 30 q) - (g 30 p))))).toInt.toNat)) * (s_cmp ((g 29 q) - (g 29 p)) (0 : Int32))))) 31 q (((q_up g 31 p ((g 31 p) + ((-(g 25 (((s_abs ((g 29 q) - (g 29 p))) + (s_abs ((g 30 q) - (g 30 p))))).toInt.toNat)) * (s_cmp ((g 29 q) - (g 29 p)) (0 : Int32))))) 31 q) - ((-(g 25 (((s_abs ((g 29 q) - (g 29 p))) + (s_abs ((g 30 q) - (g 30 p))))).toInt.toNat)) * (s_cmp ((g 29 q) - (g 29 p)) (0 : Int32))))) 32 p ((g 32 p) + ((-(g 25 (((s_abs ((g 29 q) - (g 29 p))) + (s_abs ((g 30 q) - (g 30 p))))).toInt.toNat)) * (s_cmp ((g 30 q) - (g 30 p)) (0 : Int32))))) u (fun _ _ => rfl) ?_
      refine q_iast (j := q) (q_ixn (by omega) (by omega)) rfl rfl ?_
      refine q_ret 1 (none, (q_up (q_up (q_up (q_up g 31 p ((g 31 p) + ((-(g 25 (((s_abs ((g 29 q) - (g 29 p))) + (s_abs ((g 30 q) - (g 30 p))))).toInt.toNat)) * (s_cmp ((g 29 q) - (g 29 p)) (0 : Int32))))) 31 q (((q_up g 31 p ((g 31 p) + ((-(g 25 (((s_abs ((g 29 q) - (g 29 p))) + (s_abs ((g 30 q) - (g 30 p))))).toInt.toNat)) * (s_cmp ((g 29 q) - (g 29 p)) (0 : Int32))))) 31 q) - ((-(g 25 (((s_abs ((g 29 q) - (g 29 p))) + (s_abs ((g 30 q) - (g 30 p))))).toInt.toNat)) * (s_cmp ((g 29 q) - (g 29 p)) (0 : Int32))))) 32 p ((g 32 p) + ((-(g 25 (((s_abs ((g 29 q) - (g 29 p))) + (s_abs ((g 30 q) - (g 30 p))))).toInt.toNat)) * (s_cmp ((g 30 q) - (g 30 p)) (0 : Int32))))) 32 q (((q_up (q_up (q_up g 31 p ((g 31 p) + ((-(g 25 (((s_abs ((g 29 q) - (g 29 p))) + (s_abs ((g 30 q) - (g 30 p))))).toInt.toNat)) * (s_cmp ((g 29 q) - (g 29 p)) (0 : Int32))))) 31 q (((q_up g 31 p ((g 31 p) + ((-(g 25 (((s_abs ((g 29 q) - (g 29 p))) + (s_abs ((g 30 q) - (g 30 p))))).toInt.toNat)) * (s_cmp ((g 29 q) - (g 29 p)) (0 : Int32))))) 31 q) - ((-(g 25 (((s_abs ((g 29 q) - (g 29 p))) + (s_abs ((g 30 q) - (g 30 p))))).toInt.toNat)) * (s_cmp ((g 29 q) - (g 29 p)) (0 : Int32))))) 32 p ((g 32 p) + ((-(g 25 (((s_abs ((g 29 q) - (g 29 p))) + (s_abs ((g 30 q) - (g 30 p))))).toInt.toNat)) * (s_cmp ((g 30 q) - (g 30 p)) (0 : Int32))))) 32 q) - ((-(g 25 (((s_abs ((g 29 q) - (g 29 p))) + (s_abs ((g 30 q) - (g 30 p))))).toInt.toNat)) * (s_cmp ((g 30 q) - (g 30 p)) (0 : Int32))))), u) (fun _ _ => rfl) ?_
      unfold s_wpm
      rw [if_pos hc0, if_pos hc1]
      exact congrArg (fun m => ((none : Option Value), m, u)) (s_pair g p q _ _ hpq)
    · refine q_step 3 82 [(0, .ref 28), (1, .ref 20), (2, .int (Int32.ofNat p)), (3, .int (Int32.ofNat q)), (4, .int ((g 29 q) - (g 29 p))), (5, .int ((g 30 q) - (g 30 p))), (6, .int ((s_abs ((g 29 q) - (g 29 p))) + (s_abs ((g 30 q) - (g 30 p)))))] [.int ((s_abs ((g 29 q) - (g 29 p))) + (s_abs ((g 30 q) - (g 30 p)))), .ref 25] g u (fun _ _ => rfl) ?_
      refine q_iald (j := (((s_abs ((g 29 q) - (g 29 p))) + (s_abs ((g 30 q) - (g 30 p))))).toInt.toNat) (q_ixi hf (by have h4 := Int32.le_iff_toInt_le.mp hc0; have z : (4 : Int32).toInt = 4 := rfl; omega)) rfl rfl ?_
      refine q_step 4 90 [(0, .ref 28), (1, .ref 20), (2, .int (Int32.ofNat p)), (3, .int (Int32.ofNat q)), (4, .int ((g 29 q) - (g 29 p))), (5, .int ((g 30 q) - (g 30 p))), (6, .int ((s_abs ((g 29 q) - (g 29 p))) + (s_abs ((g 30 q) - (g 30 p))))), (7, .int (g 25 (((s_abs ((g 29 q) - (g 29 p))) + (s_abs ((g 30 q) - (g 30 p))))).toInt.toNat))] [.int (0 : Int32), .int ((g 29 q) - (g 29 p)), .int (g 25 (((s_abs ((g 29 q) - (g 29 p))) + (s_abs ((g 30 q) - (g 30 p))))).toInt.toNat)] g u (fun _ _ => rfl) ?_
      refine q_call (M2 := 63) (rest := [.int (g 25 (((s_abs ((g 29 q) - (g 29 p))) + (s_abs ((g 30 q) - (g 30 p))))).toInt.toNat)]) (b_cmp _ _ _ _) (fun _ _ => rfl) ?_
      refine q_step 5 101 [(0, .ref 28), (1, .ref 20), (2, .int (Int32.ofNat p)), (3, .int (Int32.ofNat q)), (4, .int ((g 29 q) - (g 29 p))), (5, .int ((g 30 q) - (g 30 p))), (6, .int ((s_abs ((g 29 q) - (g 29 p))) + (s_abs ((g 30 q) - (g 30 p))))), (7, .int (g 25 (((s_abs ((g 29 q) - (g 29 p))) + (s_abs ((g 30 q) - (g 30 p))))).toInt.toNat)), (8, .int ((g 25 (((s_abs ((g 29 q) - (g 29 p))) + (s_abs ((g 30 q) - (g 30 p))))).toInt.toNat) * (s_cmp ((g 29 q) - (g 29 p)) (0 : Int32))))] [.int (0 : Int32), .int ((g 30 q) - (g 30 p)), .int (g 25 (((s_abs ((g 29 q) - (g 29 p))) + (s_abs ((g 30 q) - (g 30 p))))).toInt.toNat)] g u (fun _ _ => rfl) ?_
      refine q_call (M2 := 63) (rest := [.int (g 25 (((s_abs ((g 29 q) - (g 29 p))) + (s_abs ((g 30 q) - (g 30 p))))).toInt.toNat)]) (b_cmp _ _ _ _) (fun _ _ => rfl) ?_
      refine q_step 6 113 [(0, .ref 28), (1, .ref 20), (2, .int (Int32.ofNat p)), (3, .int (Int32.ofNat q)), (4, .int ((g 29 q) - (g 29 p))), (5, .int ((g 30 q) - (g 30 p))), (6, .int ((s_abs ((g 29 q) - (g 29 p))) + (s_abs ((g 30 q) - (g 30 p))))), (7, .int (g 25 (((s_abs ((g 29 q) - (g 29 p))) + (s_abs ((g 30 q) - (g 30 p))))).toInt.toNat)), (8, .int ((g 25 (((s_abs ((g 29 q) - (g 29 p))) + (s_abs ((g 30 q) - (g 30 p))))).toInt.toNat) * (s_cmp ((g 29 q) - (g 29 p)) (0 : Int32)))), (9, .int ((g 25 (((s_abs ((g 29 q) - (g 29 p))) + (s_abs ((g 30 q) - (g 30 p))))).toInt.toNat) * (s_cmp ((g 30 q) - (g 30 p)) (0 : Int32))))] [.int (Int32.ofNat p), .ref 31, .int (Int32.ofNat p), .ref 31] g u (fun _ _ => rfl) ?_
      refine q_iald (j := p) (q_ixn (by omega) (by omega)) rfl rfl ?_
      refine q_step 2 117 [(0, .ref 28), (1, .ref 20), (2, .int (Int32.ofNat p)), (3, .int (Int32.ofNat q)), (4, .int ((g 29 q) - (g 29 p))), (5, .int ((g 30 q) - (g 30 p))), (6, .int ((s_abs ((g 29 q) - (g 29 p))) + (s_abs ((g 30 q) - (g 30 p))))), (7, .int (g 25 (((s_abs ((g 29 q) - (g 29 p))) + (s_abs ((g 30 q) - (g 30 p))))).toInt.toNat)), (8, .int ((g 25 (((s_abs ((g 29 q) - (g 29 p))) + (s_abs ((g 30 q) - (g 30 p))))).toInt.toNat) * (s_cmp ((g 29 q) - (g 29 p)) (0 : Int32)))), (9, .int ((g 25 (((s_abs ((g 29 q) - (g 29 p))) + (s_abs ((g 30 q) - (g 30 p))))).toInt.toNat) * (s_cmp ((g 30 q) - (g 30 p)) (0 : Int32))))] [.int ((g 31 p) + ((g 25 (((s_abs ((g 29 q) - (g 29 p))) + (s_abs ((g 30 q) - (g 30 p))))).toInt.toNat) * (s_cmp ((g 29 q) - (g 29 p)) (0 : Int32)))), .int (Int32.ofNat p), .ref 31] g u (fun _ _ => rfl) ?_
      refine q_iast (j := p) (q_ixn (by omega) (by omega)) rfl rfl ?_
      refine q_step 4 124 [(0, .ref 28), (1, .ref 20), (2, .int (Int32.ofNat p)), (3, .int (Int32.ofNat q)), (4, .int ((g 29 q) - (g 29 p))), (5, .int ((g 30 q) - (g 30 p))), (6, .int ((s_abs ((g 29 q) - (g 29 p))) + (s_abs ((g 30 q) - (g 30 p))))), (7, .int (g 25 (((s_abs ((g 29 q) - (g 29 p))) + (s_abs ((g 30 q) - (g 30 p))))).toInt.toNat)), (8, .int ((g 25 (((s_abs ((g 29 q) - (g 29 p))) + (s_abs ((g 30 q) - (g 30 p))))).toInt.toNat) * (s_cmp ((g 29 q) - (g 29 p)) (0 : Int32)))), (9, .int ((g 25 (((s_abs ((g 29 q) - (g 29 p))) + (s_abs ((g 30 q) - (g 30 p))))).toInt.toNat) * (s_cmp ((g 30 q) - (g 30 p)) (0 : Int32))))] [.int (Int32.ofNat q), .ref 31, .int (Int32.ofNat q), .ref 31] (q_up g 31 p ((g 31 p) + ((g 25 (((s_abs ((g 29 q) - (g 29 p))) + (s_abs ((g 30 q) - (g 30 p))))).toInt.toNat) * (s_cmp ((g 29 q) - (g 29 p)) (0 : Int32))))) u (fun _ _ => rfl) ?_
      refine q_iald (j := q) (q_ixn (by omega) (by omega)) rfl rfl ?_
      refine q_step 2 128 [(0, .ref 28), (1, .ref 20), (2, .int (Int32.ofNat p)), (3, .int (Int32.ofNat q)), (4, .int ((g 29 q) - (g 29 p))), (5, .int ((g 30 q) - (g 30 p))), (6, .int ((s_abs ((g 29 q) - (g 29 p))) + (s_abs ((g 30 q) - (g 30 p))))), (7, .int (g 25 (((s_abs ((g 29 q) - (g 29 p))) + (s_abs ((g 30 q) - (g 30 p))))).toInt.toNat)), (8, .int ((g 25 (((s_abs ((g 29 q) - (g 29 p))) + (s_abs ((g 30 q) - (g 30 p))))).toInt.toNat) * (s_cmp ((g 29 q) - (g 29 p)) (0 : Int32)))), (9, .int ((g 25 (((s_abs ((g 29 q) - (g 29 p))) + (s_abs ((g 30 q) - (g 30 p))))).toInt.toNat) * (s_cmp ((g 30 q) - (g 30 p)) (0 : Int32))))] [.int (((q_up g 31 p ((g 31 p) + ((g 25 (((s_abs ((g 29 q) - (g 29 p))) + (s_abs ((g 30 q) - (g 30 p))))).toInt.toNat) * (s_cmp ((g 29 q) - (g 29 p)) (0 : Int32))))) 31 q) - ((g 25 (((s_abs ((g 29 q) - (g 29 p))) + (s_abs ((g 30 q) - (g 30 p))))).toInt.toNat) * (s_cmp ((g 29 q) - (g 29 p)) (0 : Int32)))), .int (Int32.ofNat q), .ref 31] (q_up g 31 p ((g 31 p) + ((g 25 (((s_abs ((g 29 q) - (g 29 p))) + (s_abs ((g 30 q) - (g 30 p))))).toInt.toNat) * (s_cmp ((g 29 q) - (g 29 p)) (0 : Int32))))) u (fun _ _ => rfl) ?_
      refine q_iast (j := q) (q_ixn (by omega) (by omega)) rfl rfl ?_
      refine q_step 4 135 [(0, .ref 28), (1, .ref 20), (2, .int (Int32.ofNat p)), (3, .int (Int32.ofNat q)), (4, .int ((g 29 q) - (g 29 p))), (5, .int ((g 30 q) - (g 30 p))), (6, .int ((s_abs ((g 29 q) - (g 29 p))) + (s_abs ((g 30 q) - (g 30 p))))), (7, .int (g 25 (((s_abs ((g 29 q) - (g 29 p))) + (s_abs ((g 30 q) - (g 30 p))))).toInt.toNat)), (8, .int ((g 25 (((s_abs ((g 29 q) - (g 29 p))) + (s_abs ((g 30 q) - (g 30 p))))).toInt.toNat) * (s_cmp ((g 29 q) - (g 29 p)) (0 : Int32)))), (9, .int ((g 25 (((s_abs ((g 29 q) - (g 29 p))) + (s_abs ((g 30 q) - (g 30 p))))).toInt.toNat) * (s_cmp ((g 30 q) - (g 30 p)) (0 : Int32))))] [.int (Int32.ofNat p), .ref 32, .int (Int32.ofNat p), .ref 32] (q_up (q_up g 31 p ((g 31 p) + ((g 25 (((s_abs ((g 29 q) - (g 29 p))) + (s_abs ((g 30 q) - (g 30 p))))).toInt.toNat) * (s_cmp ((g 29 q) - (g 29 p)) (0 : Int32))))) 31 q (((q_up g 31 p ((g 31 p) + ((g 25 (((s_abs ((g 29 q) - (g 29 p))) + (s_abs ((g 30 q) - (g 30 p))))).toInt.toNat) * (s_cmp ((g 29 q) - (g 29 p)) (0 : Int32))))) 31 q) - ((g 25 (((s_abs ((g 29 q) - (g 29 p))) + (s_abs ((g 30 q) - (g 30 p))))).toInt.toNat) * (s_cmp ((g 29 q) - (g 29 p)) (0 : Int32))))) u (fun _ _ => rfl) ?_
      refine q_iald (j := p) (q_ixn (by omega) (by omega)) rfl rfl ?_
      refine q_step 2 139 [(0, .ref 28), (1, .ref 20), (2, .int (Int32.ofNat p)), (3, .int (Int32.ofNat q)), (4, .int ((g 29 q) - (g 29 p))), (5, .int ((g 30 q) - (g 30 p))), (6, .int ((s_abs ((g 29 q) - (g 29 p))) + (s_abs ((g 30 q) - (g 30 p))))), (7, .int (g 25 (((s_abs ((g 29 q) - (g 29 p))) + (s_abs ((g 30 q) - (g 30 p))))).toInt.toNat)), (8, .int ((g 25 (((s_abs ((g 29 q) - (g 29 p))) + (s_abs ((g 30 q) - (g 30 p))))).toInt.toNat) * (s_cmp ((g 29 q) - (g 29 p)) (0 : Int32)))), (9, .int ((g 25 (((s_abs ((g 29 q) - (g 29 p))) + (s_abs ((g 30 q) - (g 30 p))))).toInt.toNat) * (s_cmp ((g 30 q) - (g 30 p)) (0 : Int32))))] [.int ((g 32 p) + ((g 25 (((s_abs ((g 29 q) - (g 29 p))) + (s_abs ((g 30 q) - (g 30 p))))).toInt.toNat) * (s_cmp ((g 30 q) - (g 30 p)) (0 : Int32)))), .int (Int32.ofNat p), .ref 32] (q_up (q_up g 31 p ((g 31 p) + ((g 25 (((s_abs ((g 29 q) - (g 29 p))) + (s_abs ((g 30 q) - (g 30 p))))).toInt.toNat) * (s_cmp ((g 29 q) - (g 29 p)) (0 : Int32))))) 31 q (((q_up g 31 p ((g 31 p) + ((g 25 (((s_abs ((g 29 q) - (g 29 p))) + (s_abs ((g 30 q) - (g 30 p))))).toInt.toNat) * (s_cmp ((g 29 q) - (g 29 p)) (0 : Int32))))) 31 q) - ((g 25 (((s_abs ((g 29 q) - (g 29 p))) + (s_abs ((g 30 q) - (g 30 p))))).toInt.toNat) * (s_cmp ((g 29 q) - (g 29 p)) (0 : Int32))))) u (fun _ _ => rfl) ?_
      refine q_iast (j := p) (q_ixn (by omega) (by omega)) rfl rfl ?_
      refine q_step 4 146 [(0, .ref 28), (1, .ref 20), (2, .int (Int32.ofNat p)), (3, .int (Int32.ofNat q)), (4, .int ((g 29 q) - (g 29 p))), (5, .int ((g 30 q) - (g 30 p))), (6, .int ((s_abs ((g 29 q) - (g 29 p))) + (s_abs ((g 30 q) - (g 30 p))))), (7, .int (g 25 (((s_abs ((g 29 q) - (g 29 p))) + (s_abs ((g 30 q) - (g 30 p))))).toInt.toNat)), (8, .int ((g 25 (((s_abs ((g 29 q) - (g 29 p))) + (s_abs ((g 30 q) - (g 30 p))))).toInt.toNat) * (s_cmp ((g 29 q) - (g 29 p)) (0 : Int32)))), (9, .int ((g 25 (((s_abs ((g 29 q) - (g 29 p))) + (s_abs ((g 30 q) - (g 30 p))))).toInt.toNat) * (s_cmp ((g 30 q) - (g 30 p)) (0 : Int32))))] [.int (Int32.ofNat q), .ref 32, .int (Int32.ofNat q), .ref 32] (q_up (q_up (q_up g 31 p ((g 31 p) + ((g 25 (((s_abs ((g 29 q) - (g 29 p))) + (s_abs ((g 30 q) - (g 30 p))))).toInt.toNat) * (s_cmp ((g 29 q) - (g 29 p)) (0 : Int32))))) 31 q (((q_up g 31 p ((g 31 p) + ((g 25 (((s_abs ((g 29 q) - (g 29 p))) + (s_abs ((g 30 q) - (g 30 p))))).toInt.toNat) * (s_cmp ((g 29 q) - (g 29 p)) (0 : Int32))))) 31 q) - ((g 25 (((s_abs ((g 29 q) - (g 29 p))) + (s_abs ((g 30 q) - (g 30 p))))).toInt.toNat) * (s_cmp ((g 29 q) - (g 29 p)) (0 : Int32))))) 32 p ((g 32 p) + ((g 25 (((s_abs ((g 29 q) - (g 29 p))) + (s_abs ((g 30 q) - (g 30 p))))).toInt.toNat) * (s_cmp ((g 30 q) - (g 30 p)) (0 : Int32))))) u (fun _ _ => rfl) ?_
      refine q_iald (j := q) (q_ixn (by omega) (by omega)) rfl rfl ?_
      refine q_step 2 150 [(0, .ref 28), (1, .ref 20), (2, .int (Int32.ofNat p)), (3, .int (Int32.ofNat q)), (4, .int ((g 29 q) - (g 29 p))), (5, .int ((g 30 q) - (g 30 p))), (6, .int ((s_abs ((g 29 q) - (g 29 p))) + (s_abs ((g 30 q) - (g 30 p))))), (7, .int (g 25 (((s_abs ((g 29 q) - (g 29 p))) + (s_abs ((g 30 q) - (g 30 p))))).toInt.toNat)), (8, .int ((g 25 (((s_abs ((g 29 q) - (g 29 p))) + (s_abs ((g 30 q) - (g 30 p))))).toInt.toNat) * (s_cmp ((g 29 q) - (g 29 p)) (0 : Int32)))), (9, .int ((g 25 (((s_abs ((g 29 q) - (g 29 p))) + (s_abs ((g 30 q) - (g 30 p))))).toInt.toNat) * (s_cmp ((g 30 q) - (g 30 p)) (0 : Int32))))] [.int (((q_up (q_up (q_up g 31 p ((g 31 p) + ((g 25 (((s_abs ((g 29 q) - (g 29 p))) + (s_abs ((g 30 q) - (g 30 p))))).toInt.toNat) * (s_cmp ((g 29 q) - (g 29 p)) (0 : Int32))))) 31 q (((q_up g 31 p ((g 31 p) + ((g 25 (((s_abs ((g 29 q) - (g 29 p))) + (s_abs ((g 30 q) - (g 30 p))))).toInt.toNat) * (s_cmp ((g 29 q) - (g 29 p)) (0 : Int32))))) 31 q) - ((g 25 (((s_abs ((g 29 q) - (g 29 p))) + (s_abs ((g 30 q) - (g 30 p))))).toInt.toNat) * (s_cmp ((g 29 q) - (g 29 p)) (0 : Int32))))) 32 p ((g 32 p) + ((g 25 (((s_abs ((g 29 q) - (g 29 p))) + (s_abs ((g 30 q) - (g 30 p))))).toInt.toNat) * (s_cmp ((g 30 q) - (g 30 p)) (0 : Int32))))) 32 q) - ((g 25 (((s_abs ((g 29 q) - (g 29 p))) + (s_abs ((g 30 q) - (g 30 p))))).toInt.toNat) * (s_cmp ((g 30 q) - (g 30 p)) (0 : Int32)))), .int (Int32.ofNat q), .ref 32] (q_up (q_up (q_up g 31 p ((g 31 p) + ((g 25 (((s_abs ((g 29 q) - (g 29 p))) + (s_abs ((g 30 q) - (g 30 p))))).toInt.toNat) * (s_cmp ((g 29 q) - (g 29 p)) (0 : Int32))))) 31 q (((q_up g 31 p ((g 31 p) + ((g 25 (((s_abs ((g 29 q) - (g 29 p))) + (s_abs ((g 30 q) - (g 30 p))))).toInt.toNat) * (s_cmp ((g 29 q) - (g 29 p)) (0 : Int32))))) 31 q) - ((g 25 (((s_abs ((g 29 q) - (g 29 p))) + (s_abs ((g 30 q) - (g 30 p))))).toInt.toNat) * (s_cmp ((g 29 q) - (g 29 p)) (0 : Int32))))) 32 p ((g 32 p) + ((g 25 (((s_abs ((g 29 q) - (g 29 p))) + (s_abs ((g 30 q) - (g 30 p))))).toInt.toNat) * (s_cmp ((g 30 q) - (g 30 p)) (0 : Int32))))) u (fun _ _ => rfl) ?_
      refine q_iast (j := q) (q_ixn (by omega) (by omega)) rfl rfl ?_
      refine q_ret 1 (none, (q_up (q_up (q_up (q_up g 31 p ((g 31 p) + ((g 25 (((s_abs ((g 29 q) - (g 29 p))) + (s_abs ((g 30 q) - (g 30 p))))).toInt.toNat) * (s_cmp ((g 29 q) - (g 29 p)) (0 : Int32))))) 31 q (((q_up g 31 p ((g 31 p) + ((g 25 (((s_abs ((g 29 q) - (g 29 p))) + (s_abs ((g 30 q) - (g 30 p))))).toInt.toNat) * (s_cmp ((g 29 q) - (g 29 p)) (0 : Int32))))) 31 q) - ((g 25 (((s_abs ((g 29 q) - (g 29 p))) + (s_abs ((g 30 q) - (g 30 p))))).toInt.toNat) * (s_cmp ((g 29 q) - (g 29 p)) (0 : Int32))))) 32 p ((g 32 p) + ((g 25 (((s_abs ((g 29 q) - (g 29 p))) + (s_abs ((g 30 q) - (g 30 p))))).toInt.toNat) * (s_cmp ((g 30 q) - (g 30 p)) (0 : Int32))))) 32 q (((q_up (q_up (q_up g 31 p ((g 31 p) + ((g 25 (((s_abs ((g 29 q) - (g 29 p))) + (s_abs ((g 30 q) - (g 30 p))))).toInt.toNat) * (s_cmp ((g 29 q) - (g 29 p)) (0 : Int32))))) 31 q (((q_up g 31 p ((g 31 p) + ((g 25 (((s_abs ((g 29 q) - (g 29 p))) + (s_abs ((g 30 q) - (g 30 p))))).toInt.toNat) * (s_cmp ((g 29 q) - (g 29 p)) (0 : Int32))))) 31 q) - ((g 25 (((s_abs ((g 29 q) - (g 29 p))) + (s_abs ((g 30 q) - (g 30 p))))).toInt.toNat) * (s_cmp ((g 29 q) - (g 29 p)) (0 : Int32))))) 32 p ((g 32 p) + ((g 25 (((s_abs ((g 29 q) - (g 29 p))) + (s_abs ((g 30 q) - (g 30 p))))).toInt.toNat) * (s_cmp ((g 30 q) - (g 30 p)) (0 : Int32))))) 32 q) - ((g 25 (((s_abs ((g 29 q) - (g 29 p))) + (s_abs ((g 30 q) - (g 30 p))))).toInt.toNat) * (s_cmp ((g 30 q) - (g 30 p)) (0 : Int32))))), u) (fun _ _ => rfl) ?_
      unfold s_wpm
      rw [if_pos hc0, if_neg hc1]
      exact congrArg (fun m => ((none : Option Value), m, u)) (s_pair g p q _ _ hpq)
  · refine q_ret 1 (none, g, u) (fun _ _ => rfl) ?_
    unfold s_wpm
    rw [if_neg hc0, Int32.zero_mul, Int32.zero_mul, s_acc_n]
theorem b_wp35 {p q : Nat} (g : qM) (u : qW) (hp : p < 6) (hq : q < 6) (hpq : p ≠ q) (hf : 0 ≤ (s_abs (g 29 q - g 29 p) + s_abs (g 30 q - g 30 p)).toInt) : q_BS 61 [.ref 28, .ref 35, .int (Int32.ofNat p), .int (Int32.ofNat q)] g u (none, s_wpm (g 37) (g 40) g p q, u) := by
  refine q_bx (mm := m_61) rfl (Nat.le_of_ble_eq_true rfl) rfl ?_
  refine q_step 3 5 [(0, .ref 28), (1, .ref 35), (2, .int (Int32.ofNat p)), (3, .int (Int32.ofNat q))] [.int (Int32.ofNat q), .ref 29] g u (fun _ _ => rfl) ?_
  refine q_iald (j := q) (q_ixn (by omega) (by omega)) rfl rfl ?_
  refine q_step 3 11 [(0, .ref 28), (1, .ref 35), (2, .int (Int32.ofNat p)), (3, .int (Int32.ofNat q))] [.int (Int32.ofNat p), .ref 29, .int (g 29 q)] g u (fun _ _ => rfl) ?_
  refine q_iald (j := p) (q_ixn (by omega) (by omega)) rfl rfl ?_
  refine q_step 5 20 [(0, .ref 28), (1, .ref 35), (2, .int (Int32.ofNat p)), (3, .int (Int32.ofNat q)), (4, .int ((g 29 q) - (g 29 p)))] [.int (Int32.ofNat q), .ref 30] g u (fun _ _ => rfl) ?_
  refine q_iald (j := q) (q_ixn (by omega) (by omega)) rfl rfl ?_
  refine q_step 3 26 [(0, .ref 28), (1, .ref 35), (2, .int (Int32.ofNat p)), (3, .int (Int32.ofNat q)), (4, .int ((g 29 q) - (g 29 p)))] [.int (Int32.ofNat p), .ref 30, .int (g 30 q)] g u (fun _ _ => rfl) ?_
  refine q_iald (j := p) (q_ixn (by omega) (by omega)) rfl rfl ?_
  refine q_step 3 32 [(0, .ref 28), (1, .ref 35), (2, .int (Int32.ofNat p)), (3, .int (Int32.ofNat q)), (4, .int ((g 29 q) - (g 29 p))), (5, .int ((g 30 q) - (g 30 p)))] [.int ((g 29 q) - (g 29 p))] g u (fun _ _ => rfl) ?_
  refine q_call (M2 := 62) (rest := []) (b_abs _ _ _) (fun _ _ => rfl) ?_
  refine q_step 1 37 [(0, .ref 28), (1, .ref 35), (2, .int (Int32.ofNat p)), (3, .int (Int32.ofNat q)), (4, .int ((g 29 q) - (g 29 p))), (5, .int ((g 30 q) - (g 30 p)))] [.int ((g 30 q) - (g 30 p)), .int (s_abs ((g 29 q) - (g 29 p)))] g u (fun _ _ => rfl) ?_
  refine q_call (M2 := 62) (rest := [.int (s_abs ((g 29 q) - (g 29 p)))]) (b_abs _ _ _) (fun _ _ => rfl) ?_
  refine q_step 4 46 [(0, .ref 28), (1, .ref 35), (2, .int (Int32.ofNat p)), (3, .int (Int32.ofNat q)), (4, .int ((g 29 q) - (g 29 p))), (5, .int ((g 30 q) - (g 30 p))), (6, .int ((s_abs ((g 29 q) - (g 29 p))) + (s_abs ((g 30 q) - (g 30 p)))))] [.int (4 : Int32), .int ((s_abs ((g 29 q) - (g 29 p))) + (s_abs ((g 30 q) - (g 30 p))))] g u (fun _ _ => rfl) ?_
  refine q_ic_le rfl (fun (hc0 : ((s_abs ((g 29 q) - (g 29 p))) + (s_abs ((g 30 q) - (g 30 p)))) ≤ (4 : Int32)) => ?_) (fun (hc0 : ¬ (((s_abs ((g 29 q) - (g 29 p))) + (s_abs ((g 30 q) - (g 30 p)))) ≤ (4 : Int32))) => ?_)
  · refine q_step 3 55 [(0, .ref 28), (1, .ref 35), (2, .int (Int32.ofNat p)), (3, .int (Int32.ofNat q)), (4, .int ((g 29 q) - (g 29 p))), (5, .int ((g 30 q) - (g 30 p))), (6, .int ((s_abs ((g 29 q) - (g 29 p))) + (s_abs ((g 30 q) - (g 30 p)))))] [.int (Int32.ofNat p), .ref 37] g u (fun _ _ => rfl) ?_
    refine q_iald (j := p) (q_ixn (by omega) (by omega)) rfl rfl ?_
    refine q_step 3 61 [(0, .ref 28), (1, .ref 35), (2, .int (Int32.ofNat p)), (3, .int (Int32.ofNat q)), (4, .int ((g 29 q) - (g 29 p))), (5, .int ((g 30 q) - (g 30 p))), (6, .int ((s_abs ((g 29 q) - (g 29 p))) + (s_abs ((g 30 q) - (g 30 p)))))] [.int (Int32.ofNat q), .ref 37, .int (g 37 p)] g u (fun _ _ => rfl) ?_
    refine q_iald (j := q) (q_ixn (by omega) (by omega)) rfl rfl ?_
    refine q_ic_ne rfl (fun (hc1 : (g 37 p) = (g 37 q)) => ?_) (fun (hc1 : ¬ ((g 37 p) = (g 37 q))) => ?_)
    · refine q_step 3 71 [(0, .ref 28), (1, .ref 35), (2, .int (Int32.ofNat p)), (3, .int (Int32.ofNat q)), (4, .int ((g 29 q) - (g 29 p))), (5, .int ((g 30 q) - (g 30 p))), (6, .int ((s_abs ((g 29 q) - (g 29 p))) + (s_abs ((g 30 q) - (g 30 p)))))] [.int ((s_abs ((g 29 q) - (g 29 p))) + (s_abs ((g 30 q) - (g 30 p)))), .ref 40] g u (fun _ _ => rfl) ?_
      refine q_iald (j := (((s_abs ((g 29 q) - (g 29 p))) + (s_abs ((g 30 q) - (g 30 p))))).toInt.toNat) (q_ixi hf (by have h4 := Int32.le_iff_toInt_le.mp hc0; have z : (4 : Int32).toInt = 4 := rfl; omega)) rfl rfl ?_
      refine q_step 6 90 [(0, .ref 28), (1, .ref 35), (2, .int (Int32.ofNat p)), (3, .int (Int32.ofNat q)), (4, .int ((g 29 q) - (g 29 p))), (5, .int ((g 30 q) - (g 30 p))), (6, .int ((s_abs ((g 29 q) - (g 29 p))) + (s_abs ((g 30 q) - (g 30 p))))), (7, .int (-(g 40 (((s_abs ((g 29 q) - (g 29 p))) + (s_abs ((g 30 q) - (g 30 p))))).toInt.toNat)))] [.int (0 : Int32), .int ((g 29 q) - (g 29 p)), .int (-(g 40 (((s_abs ((g 29 q) - (g 29 p))) + (s_abs ((g 30 q) - (g 30 p))))).toInt.toNat))] g u (fun _ _ => rfl) ?_
      refine q_call (M2 := 63) (rest := [.int (-(g 40 (((s_abs ((g 29 q) - (g 29 p))) + (s_abs ((g 30 q) - (g 30 p))))).toInt.toNat))]) (b_cmp _ _ _ _) (fun _ _ => rfl) ?_
      refine q_step 5 101 [(0, .ref 28), (1, .ref 35), (2, .int (Int32.ofNat p)), (3, .int (Int32.ofNat q)), (4, .int ((g 29 q) - (g 29 p))), (5, .int ((g 30 q) - (g 30 p))), (6, .int ((s_abs ((g 29 q) - (g 29 p))) + (s_abs ((g 30 q) - (g 30 p))))), (7, .int (-(g 40 (((s_abs ((g 29 q) - (g 29 p))) + (s_abs ((g 30 q) - (g 30 p))))).toInt.toNat))), (8, .int ((-(g 40 (((s_abs ((g 29 q) - (g 29 p))) + (s_abs ((g 30 q) - (g 30 p))))).toInt.toNat)) * (s_cmp ((g 29 q) - (g 29 p)) (0 : Int32))))] [.int (0 : Int32), .int ((g 30 q) - (g 30 p)), .int (-(g 40 (((s_abs ((g 29 q) - (g 29 p))) + (s_abs ((g 30 q) - (g 30 p))))).toInt.toNat))] g u (fun _ _ => rfl) ?_
      refine q_call (M2 := 63) (rest := [.int (-(g 40 (((s_abs ((g 29 q) - (g 29 p))) + (s_abs ((g 30 q) - (g 30 p))))).toInt.toNat))]) (b_cmp _ _ _ _) (fun _ _ => rfl) ?_
      refine q_step 6 113 [(0, .ref 28), (1, .ref 35), (2, .int (Int32.ofNat p)), (3, .int (Int32.ofNat q)), (4, .int ((g 29 q) - (g 29 p))), (5, .int ((g 30 q) - (g 30 p))), (6, .int ((s_abs ((g 29 q) - (g 29 p))) + (s_abs ((g 30 q) - (g 30 p))))), (7, .int (-(g 40 (((s_abs ((g 29 q) - (g 29 p))) + (s_abs ((g 30 q) - (g 30 p))))).toInt.toNat))), (8, .int ((-(g 40 (((s_abs ((g 29 q) - (g 29 p))) + (s_abs ((g 30 q) - (g 30 p))))).toInt.toNat)) * (s_cmp ((g 29 q) - (g 29 p)) (0 : Int32)))), (9, .int ((-(g 40 (((s_abs ((g 29 q) - (g 29 p))) + (s_abs ((g 30 q) - (g 30 p))))).toInt.toNat)) * (s_cmp ((g 30 q) - (g 30 p)) (0 : Int32))))] [.int (Int32.ofNat p), .ref 31, .int (Int32.ofNat p), .ref 31] g u (fun _ _ => rfl) ?_
      refine q_iald (j := p) (q_ixn (by omega) (by omega)) rfl rfl ?_
      refine q_step 2 117 [(0, .ref 28), (1, .ref 35), (2, .int (Int32.ofNat p)), (3, .int (Int32.ofNat q)), (4, .int ((g 29 q) - (g 29 p))), (5, .int ((g 30 q) - (g 30 p))), (6, .int ((s_abs ((g 29 q) - (g 29 p))) + (s_abs ((g 30 q) - (g 30 p))))), (7, .int (-(g 40 (((s_abs ((g 29 q) - (g 29 p))) + (s_abs ((g 30 q) - (g 30 p))))).toInt.toNat))), (8, .int ((-(g 40 (((s_abs ((g 29 q) - (g 29 p))) + (s_abs ((g 30 q) - (g 30 p))))).toInt.toNat)) * (s_cmp ((g 29 q) - (g 29 p)) (0 : Int32)))), (9, .int ((-(g 40 (((s_abs ((g 29 q) - (g 29 p))) + (s_abs ((g 30 q) - (g 30 p))))).toInt.toNat)) * (s_cmp ((g 30 q) - (g 30 p)) (0 : Int32))))] [.int ((g 31 p) + ((-(g 40 (((s_abs ((g 29 q) - (g 29 p))) + (s_abs ((g 30 q) - (g 30 p))))).toInt.toNat)) * (s_cmp ((g 29 q) - (g 29 p)) (0 : Int32)))), .int (Int32.ofNat p), .ref 31] g u (fun _ _ => rfl) ?_
      refine q_iast (j := p) (q_ixn (by omega) (by omega)) rfl rfl ?_
      refine q_step 4 124 [(0, .ref 28), (1, .ref 35), (2, .int (Int32.ofNat p)), (3, .int (Int32.ofNat q)), (4, .int ((g 29 q) - (g 29 p))), (5, .int ((g 30 q) - (g 30 p))), (6, .int ((s_abs ((g 29 q) - (g 29 p))) + (s_abs ((g 30 q) - (g 30 p))))), (7, .int (-(g 40 (((s_abs ((g 29 q) - (g 29 p))) + (s_abs ((g 30 q) - (g 30 p))))).toInt.toNat))), (8, .int ((-(g 40 (((s_abs ((g 29 q) - (g 29 p))) + (s_abs ((g 30 q) - (g 30 p))))).toInt.toNat)) * (s_cmp ((g 29 q) - (g 29 p)) (0 : Int32)))), (9, .int ((-(g 40 (((s_abs ((g 29 q) - (g 29 p))) + (s_abs ((g 30 q) - (g 30 p))))).toInt.toNat)) * (s_cmp ((g 30 q) - (g 30 p)) (0 : Int32))))] [.int (Int32.ofNat q), .ref 31, .int (Int32.ofNat q), .ref 31] (q_up g 31 p ((g 31 p) + ((-(g 40 (((s_abs ((g 29 q) - (g 29 p))) + (s_abs ((g 30 q) - (g 30 p))))).toInt.toNat)) * (s_cmp ((g 29 q) - (g 29 p)) (0 : Int32))))) u (fun _ _ => rfl) ?_
      refine q_iald (j := q) (q_ixn (by omega) (by omega)) rfl rfl ?_
      refine q_step 2 128 [(0, .ref 28), (1, .ref 35), (2, .int (Int32.ofNat p)), (3, .int (Int32.ofNat q)), (4, .int ((g 29 q) - (g 29 p))), (5, .int ((g 30 q) - (g 30 p))), (6, .int ((s_abs ((g 29 q) - (g 29 p))) + (s_abs ((g 30 q) - (g 30 p))))), (7, .int (-(g 40 (((s_abs ((g 29 q) - (g 29 p))) + (s_abs ((g 30 q) - (g 30 p))))).toInt.toNat))), (8, .int ((-(g 40 (((s_abs ((g 29 q) - (g 29 p))) + (s_abs ((g 30 q) - (g 30 p))))).toInt.toNat)) * (s_cmp ((g 29 q) - (g 29 p)) (0 : Int32)))), (9, .int ((-(g 40 (((s_abs ((g 29 q) - (g 29 p))) + (s_abs ((g 30 q) - (g 30 p))))).toInt.toNat)) * (s_cmp ((g 30 q) - (g 30 p)) (0 : Int32))))] [.int (((q_up g 31 p ((g 31 p) + ((-(g 40 (((s_abs ((g 29 q) - (g 29 p))) + (s_abs ((g 30 q) - (g 30 p))))).toInt.toNat)) * (s_cmp ((g 29 q) - (g 29 p)) (0 : Int32))))) 31 q) - ((-(g 40 (((s_abs ((g 29 q) - (g 29 p))) + (s_abs ((g 30 q) - (g 30 p))))).toInt.toNat)) * (s_cmp ((g 29 q) - (g 29 p)) (0 : Int32)))), .int (Int32.ofNat q), .ref 31] (q_up g 31 p ((g 31 p) + ((-(g 40 (((s_abs ((g 29 q) - (g 29 p))) + (s_abs ((g 30 q) - (g 30 p))))).toInt.toNat)) * (s_cmp ((g 29 q) - (g 29 p)) (0 : Int32))))) u (fun _ _ => rfl) ?_
      refine q_iast (j := q) (q_ixn (by omega) (by omega)) rfl rfl ?_
      refine q_step 4 135 [(0, .ref 28), (1, .ref 35), (2, .int (Int32.ofNat p)), (3, .int (Int32.ofNat q)), (4, .int ((g 29 q) - (g 29 p))), (5, .int ((g 30 q) - (g 30 p))), (6, .int ((s_abs ((g 29 q) - (g 29 p))) + (s_abs ((g 30 q) - (g 30 p))))), (7, .int (-(g 40 (((s_abs ((g 29 q) - (g 29 p))) + (s_abs ((g 30 q) - (g 30 p))))).toInt.toNat))), (8, .int ((-(g 40 (((s_abs ((g 29 q) - (g 29 p))) + (s_abs ((g 30 q) - (g 30 p))))).toInt.toNat)) * (s_cmp ((g 29 q) - (g 29 p)) (0 : Int32)))), (9, .int ((-(g 40 (((s_abs ((g 29 q) - (g 29 p))) + (s_abs ((g 30 q) - (g 30 p))))).toInt.toNat)) * (s_cmp ((g 30 q) - (g 30 p)) (0 : Int32))))] [.int (Int32.ofNat p), .ref 32, .int (Int32.ofNat p), .ref 32] (q_up (q_up g 31 p ((g 31 p) + ((-(g 40 (((s_abs ((g 29 q) - (g 29 p))) + (s_abs ((g 30 q) - (g 30 p))))).toInt.toNat)) * (s_cmp ((g 29 q) - (g 29 p)) (0 : Int32))))) 31 q (((q_up g 31 p ((g 31 p) + ((-(g 40 (((s_abs ((g 29 q) - (g 29 p))) + (s_abs ((g 30 q) - (g 30 p))))).toInt.toNat)) * (s_cmp ((g 29 q) - (g 29 p)) (0 : Int32))))) 31 q) - ((-(g 40 (((s_abs ((g 29 q) - (g 29 p))) + (s_abs ((g 30 q) - (g 30 p))))).toInt.toNat)) * (s_cmp ((g 29 q) - (g 29 p)) (0 : Int32))))) u (fun _ _ => rfl) ?_
      refine q_iald (j := p) (q_ixn (by omega) (by omega)) rfl rfl ?_
      refine q_step 2 139 [(0, .ref 28), (1, .ref 35), (2, .int (Int32.ofNat p)), (3, .int (Int32.ofNat q)), (4, .int ((g 29 q) - (g 29 p))), (5, .int ((g 30 q) - (g 30 p))), (6, .int ((s_abs ((g 29 q) - (g 29 p))) + (s_abs ((g 30 q) - (g 30 p))))), (7, .int (-(g 40 (((s_abs ((g 29 q) - (g 29 p))) + (s_abs ((g 30 q) - (g 30 p))))).toInt.toNat))), (8, .int ((-(g 40 (((s_abs ((g 29 q) - (g 29 p))) + (s_abs ((g 30 q) - (g 30 p))))).toInt.toNat)) * (s_cmp ((g 29 q) - (g 29 p)) (0 : Int32)))), (9, .int ((-(g 40 (((s_abs ((g 29 q) - (g 29 p))) + (s_abs ((g 30 q) - (g 30 p))))).toInt.toNat)) * (s_cmp ((g 30 q) - (g 30 p)) (0 : Int32))))] [.int ((g 32 p) + ((-(g 40 (((s_abs ((g 29 q) - (g 29 p))) + (s_abs ((g 30 q) - (g 30 p))))).toInt.toNat)) * (s_cmp ((g 30 q) - (g 30 p)) (0 : Int32)))), .int (Int32.ofNat p), .ref 32] (q_up (q_up g 31 p ((g 31 p) + ((-(g 40 (((s_abs ((g 29 q) - (g 29 p))) + (s_abs ((g 30 q) - (g 30 p))))).toInt.toNat)) * (s_cmp ((g 29 q) - (g 29 p)) (0 : Int32))))) 31 q (((q_up g 31 p ((g 31 p) + ((-(g 40 (((s_abs ((g 29 q) - (g 29 p))) + (s_abs ((g 30 q) - (g 30 p))))).toInt.toNat)) * (s_cmp ((g 29 q) - (g 29 p)) (0 : Int32))))) 31 q) - ((-(g 40 (((s_abs ((g 29 q) - (g 29 p))) + (s_abs ((g 30 q) - (g 30 p))))).toInt.toNat)) * (s_cmp ((g 29 q) - (g 29 p)) (0 : Int32))))) u (fun _ _ => rfl) ?_
      refine q_iast (j := p) (q_ixn (by omega) (by omega)) rfl rfl ?_
      refine q_step 4 146 [(0, .ref 28), (1, .ref 35), (2, .int (Int32.ofNat p)), (3, .int (Int32.ofNat q)), (4, .int ((g 29 q) - (g 29 p))), (5, .int ((g 30 q) - (g 30 p))), (6, .int ((s_abs ((g 29 q) - (g 29 p))) + (s_abs ((g 30 q) - (g 30 p))))), (7, .int (-(g 40 (((s_abs ((g 29 q) - (g 29 p))) + (s_abs ((g 30 q) - (g 30 p))))).toInt.toNat))), (8, .int ((-(g 40 (((s_abs ((g 29 q) - (g 29 p))) + (s_abs ((g 30 q) - (g 30 p))))).toInt.toNat)) * (s_cmp ((g 29 q) - (g 29 p)) (0 : Int32)))), (9, .int ((-(g 40 (((s_abs ((g 29 q) - (g 29 p))) + (s_abs ((g 30 q) - (g 30 p))))).toInt.toNat)) * (s_cmp ((g 30 q) - (g 30 p)) (0 : Int32))))] [.int (Int32.ofNat q), .ref 32, .int (Int32.ofNat q), .ref 32] (q_up (q_up (q_up g 31 p ((g 31 p) + ((-(g 40 (((s_abs ((g 29 q) - (g 29 p))) + (s_abs ((g 30 q) - (g 30 p))))).toInt.toNat)) * (s_cmp ((g 29 q) - (g 29 p)) (0 : Int32))))) 31 q (((q_up g 31 p ((g 31 p) + ((-(g 40 (((s_abs ((g 29 q) - (g 29 p))) + (s_abs ((g 30 q) - (g 30 p))))).toInt.toNat)) * (s_cmp ((g 29 q) - (g 29 p)) (0 : Int32))))) 31 q) - ((-(g 40 (((s_abs ((g 29 q) - (g 29 p))) + (s_abs ((g 30 q) - (g 30 p))))).toInt.toNat)) * (s_cmp ((g 29 q) - (g 29 p)) (0 : Int32))))) 32 p ((g 32 p) + ((-(g 40 (((s_abs ((g 29 q) - (g 29 p))) + (s_abs ((g 30 q) - (g 30 p))))).toInt.toNat)) * (s_cmp ((g 30 q) - (g 30 p)) (0 : Int32))))) u (fun _ _ => rfl) ?_
      refine q_iald (j := q) (q_ixn (by omega) (by omega)) rfl rfl ?_
      refine q_step 2 150 [(0, .ref 28), (1, .ref 35), (2, .int (Int32.ofNat p)), (3, .int (Int32.ofNat q)), (4, .int ((g 29 q) - (g 29 p))), (5, .int ((g 30 q) - (g 30 p))), (6, .int ((s_abs ((g 29 q) - (g 29 p))) + (s_abs ((g 30 q) - (g 30 p))))), (7, .int (-(g 40 (((s_abs ((g 29 q) - (g 29 p))) + (s_abs ((g 30 q) - (g 30 p))))).toInt.toNat))), (8, .int ((-(g 40 (((s_abs ((g 29 q) - (g 29 p))) + (s_abs ((g 30 q) - (g 30 p))))).toInt.toNat)) * (s_cmp ((g 29 q) - (g 29 p)) (0 : Int32)))), (9, .int ((-(g 40 (((s_abs ((g 29 q) - (g 29 p))) + (s_abs ((g 30 q) - (g 30 p))))).toInt.toNat)) * (s_cmp ((g 30 q) - (g 30 p)) (0 : Int32))))] [.int (((q_up (q_up (q_up g 31 p ((g 31 p) + ((-(g 40 (((s_abs ((g 29 q) - (g 29 p))) + (s_abs ((g 30 q) - (g 30 p))))).toInt.toNat)) * (s_cmp ((g 29 q) - (g 29 p)) (0 : Int32))))) 31 q (((q_up g 31 p ((g 31 p) + ((-(g 40 (((s_abs ((g 29 q) - (g 29 p))) + (s_abs ((g 30 q) - (g 30 p))))).toInt.toNat)) * (s_cmp ((g 29 q) - (g 29 p)) (0 : Int32))))) 31 q) - ((-(g 40 (((s_abs ((g 29 q) - (g 29 p))) + (s_abs ((g 30 q) - (g 30 p))))).toInt.toNat)) * (s_cmp ((g 29 q) - (g 29 p)) (0 : Int32))))) 32 p ((g 32 p) + ((-(g 40 (((s_abs ((g 29 q) - (g 29 p))) + (s_abs ((g 30 q) - (g 30 p))))).toInt.toNat)) * (s_cmp ((g 30 q) - (g 30 p)) (0 : Int32))))) 32 q) - ((-(g 40 (((s_abs ((g 29 q) - (g 29 p))) + (s_abs ((g 30 q) - (g 30 p))))).toInt.toNat)) * (s_cmp ((g 30 q) - (g 30 p)) (0 : Int32)))), .int (Int32.ofNat q), .ref 32] (q_up (q_up (q_up g 31 p ((g 31 p) + ((-(g 40 (((s_abs ((g 29 q) - (g 29 p))) + (s_abs ((g 30 q) - (g 30 p))))).toInt.toNat)) * (s_cmp ((g 29 q) - (g 29 p)) (0 : Int32))))) 31 q (((q_up g 31 p ((g 31 p) + ((-(g 40 (((s_abs ((g 29 q) - (g 29 p))) + (s_abs ((g 30 q) - (g 30 p))))).toInt.toNat)) * (s_cmp ((g 29 q) - (g 29 p)) (0 : Int32))))) 31 q) - ((-(g 40 (((s_abs ((g 29 q) - (g 29 p))) + (s_abs ((g 30 q) - (g 30 p))))).toInt.toNat)) * (s_cmp ((g 29 q) - (g 29 p)) (0 : Int32))))) 32 p ((g 32 p) + ((-(g 40 (((s_abs ((g 29 q) - (g 29 p))) + (s_abs ((g 30 q) - (g 30 p))))).toInt.toNat)) * (s_cmp ((g 30 q) - (g 30 p)) (0 : Int32))))) u (fun _ _ => rfl) ?_
      refine q_iast (j := q) (q_ixn (by omega) (by omega)) rfl rfl ?_
      refine q_ret 1 (none, (q_up (q_up (q_up (q_up g 31 p ((g 31 p) + ((-(g 40 (((s_abs ((g 29 q) - (g 29 p))) + (s_abs ((g 30 q) - (g 30 p))))).toInt.toNat)) * (s_cmp ((g 29 q) - (g 29 p)) (0 : Int32))))) 31 q (((q_up g 31 p ((g 31 p) + ((-(g 40 (((s_abs ((g 29 q) - (g 29 p))) + (s_abs ((g 30 q) - (g 30 p))))).toInt.toNat)) * (s_cmp ((g 29 q) - (g 29 p)) (0 : Int32))))) 31 q) - ((-(g 40 (((s_abs ((g 29 q) - (g 29 p))) + (s_abs ((g 30 q) - (g 30 p))))).toInt.toNat)) * (s_cmp ((g 29 q) - (g 29 p)) (0 : Int32))))) 32 p ((g 32 p) + ((-(g 40 (((s_abs ((g 29 q) - (g 29 p))) + (s_abs ((g 30 q) - (g 30 p))))).toInt.toNat)) * (s_cmp ((g 30 q) - (g 30 p)) (0 : Int32))))) 32 q (((q_up (q_up (q_up g 31 p ((g 31 p) + ((-(g 40 (((s_abs ((g 29 q) - (g 29 p))) + (s_abs ((g 30 q) - (g 30 p))))).toInt.toNat)) * (s_cmp ((g 29 q) - (g 29 p)) (0 : Int32))))) 31 q (((q_up g 31 p ((g 31 p) + ((-(g 40 (((s_abs ((g 29 q) - (g 29 p))) + (s_abs ((g 30 q) - (g 30 p))))).toInt.toNat)) * (s_cmp ((g 29 q) - (g 29 p)) (0 : Int32))))) 31 q) - ((-(g 40 (((s_abs ((g 29 q) - (g 29 p))) + (s_abs ((g 30 q) - (g 30 p))))).toInt.toNat)) * (s_cmp ((g 29 q) - (g 29 p)) (0 : Int32))))) 32 p ((g 32 p) + ((-(g 40 (((s_abs ((g 29 q) - (g 29 p))) + (s_abs ((g 30 q) - (g 30 p))))).toInt.toNat)) * (s_cmp ((g 30 q) - (g 30 p)) (0 : Int32))))) 32 q) - ((-(g 40 (((s_abs ((g 29 q) - (g 29 p))) + (s_abs ((g 30 q) - (g 30 p))))).toInt.toNat)) * (s_cmp ((g 30 q) - (g 30 p)) (0 : Int32))))), u) (fun _ _ => rfl) ?_
      unfold s_wpm
      rw [if_pos hc0, if_pos hc1]
      exact congrArg (fun m => ((none : Option Value), m, u)) (s_pair g p q _ _ hpq)
    · refine q_step 3 82 [(0, .ref 28), (1, .ref 35), (2, .int (Int32.ofNat p)), (3, .int (Int32.ofNat q)), (4, .int ((g 29 q) - (g 29 p))), (5, .int ((g 30 q) - (g 30 p))), (6, .int ((s_abs ((g 29 q) - (g 29 p))) + (s_abs ((g 30 q) - (g 30 p)))))] [.int ((s_abs ((g 29 q) - (g 29 p))) + (s_abs ((g 30 q) - (g 30 p)))), .ref 40] g u (fun _ _ => rfl) ?_
      refine q_iald (j := (((s_abs ((g 29 q) - (g 29 p))) + (s_abs ((g 30 q) - (g 30 p))))).toInt.toNat) (q_ixi hf (by have h4 := Int32.le_iff_toInt_le.mp hc0; have z : (4 : Int32).toInt = 4 := rfl; omega)) rfl rfl ?_
      refine q_step 4 90 [(0, .ref 28), (1, .ref 35), (2, .int (Int32.ofNat p)), (3, .int (Int32.ofNat q)), (4, .int ((g 29 q) - (g 29 p))), (5, .int ((g 30 q) - (g 30 p))), (6, .int ((s_abs ((g 29 q) - (g 29 p))) + (s_abs ((g 30 q) - (g 30 p))))), (7, .int (g 40 (((s_abs ((g 29 q) - (g 29 p))) + (s_abs ((g 30 q) - (g 30 p))))).toInt.toNat))] [.int (0 : Int32), .int ((g 29 q) - (g 29 p)), .int (g 40 (((s_abs ((g 29 q) - (g 29 p))) + (s_abs ((g 30 q) - (g 30 p))))).toInt.toNat)] g u (fun _ _ => rfl) ?_
      refine q_call (M2 := 63) (rest := [.int (g 40 (((s_abs ((g 29 q) - (g 29 p))) + (s_abs ((g 30 q) - (g 30 p))))).toInt.toNat)]) (b_cmp _ _ _ _) (fun _ _ => rfl) ?_
      refine q_step 5 101 [(0, .ref 28), (1, .ref 35), (2, .int (Int32.ofNat p)), (3, .int (Int32.ofNat q)), (4, .int ((g 29 q) - (g 29 p))), (5, .int ((g 30 q) - (g 30 p))), (6, .int ((s_abs ((g 29 q) - (g 29 p))) + (s_abs ((g 30 q) - (g 30 p))))), (7, .int (g 40 (((s_abs ((g 29 q) - (g 29 p))) + (s_abs ((g 30 q) - (g 30 p))))).toInt.toNat)), (8, .int ((g 40 (((s_abs ((g 29 q) - (g 29 p))) + (s_abs ((g 30 q) - (g 30 p))))).toInt.toNat) * (s_cmp ((g 29 q) - (g 29 p)) (0 : Int32))))] [.int (0 : Int32), .int ((g 30 q) - (g 30 p)), .int (g 40 (((s_abs ((g 29 q) - (g 29 p))) + (s_abs ((g 30 q) - (g 30 p))))).toInt.toNat)] g u (fun _ _ => rfl) ?_
      refine q_call (M2 := 63) (rest := [.int (g 40 (((s_abs ((g 29 q) - (g 29 p))) + (s_abs ((g 30 q) - (g 30 p))))).toInt.toNat)]) (b_cmp _ _ _ _) (fun _ _ => rfl) ?_
      refine q_step 6 113 [(0, .ref 28), (1, .ref 35), (2, .int (Int32.ofNat p)), (3, .int (Int32.ofNat q)), (4, .int ((g 29 q) - (g 29 p))), (5, .int ((g 30 q) - (g 30 p))), (6, .int ((s_abs ((g 29 q) - (g 29 p))) + (s_abs ((g 30 q) - (g 30 p))))), (7, .int (g 40 (((s_abs ((g 29 q) - (g 29 p))) + (s_abs ((g 30 q) - (g 30 p))))).toInt.toNat)), (8, .int ((g 40 (((s_abs ((g 29 q) - (g 29 p))) + (s_abs ((g 30 q) - (g 30 p))))).toInt.toNat) * (s_cmp ((g 29 q) - (g 29 p)) (0 : Int32)))), (9, .int ((g 40 (((s_abs ((g 29 q) - (g 29 p))) + (s_abs ((g 30 q) - (g 30 p))))).toInt.toNat) * (s_cmp ((g 30 q) - (g 30 p)) (0 : Int32))))] [.int (Int32.ofNat p), .ref 31, .int (Int32.ofNat p), .ref 31] g u (fun _ _ => rfl) ?_
      refine q_iald (j := p) (q_ixn (by omega) (by omega)) rfl rfl ?_
      refine q_step 2 117 [(0, .ref 28), (1, .ref 35), (2, .int (Int32.ofNat p)), (3, .int (Int32.ofNat q)), (4, .int ((g 29 q) - (g 29 p))), (5, .int ((g 30 q) - (g 30 p))), (6, .int ((s_abs ((g 29 q) - (g 29 p))) + (s_abs ((g 30 q) - (g 30 p))))), (7, .int (g 40 (((s_abs ((g 29 q) - (g 29 p))) + (s_abs ((g 30 q) - (g 30 p))))).toInt.toNat)), (8, .int ((g 40 (((s_abs ((g 29 q) - (g 29 p))) + (s_abs ((g 30 q) - (g 30 p))))).toInt.toNat) * (s_cmp ((g 29 q) - (g 29 p)) (0 : Int32)))), (9, .int ((g 40 (((s_abs ((g 29 q) - (g 29 p))) + (s_abs ((g 30 q) - (g 30 p))))).toInt.toNat) * (s_cmp ((g 30 q) - (g 30 p)) (0 : Int32))))] [.int ((g 31 p) + ((g 40 (((s_abs ((g 29 q) - (g 29 p))) + (s_abs ((g 30 q) - (g 30 p))))).toInt.toNat) * (s_cmp ((g 29 q) - (g 29 p)) (0 : Int32)))), .int (Int32.ofNat p), .ref 31] g u (fun _ _ => rfl) ?_
      refine q_iast (j := p) (q_ixn (by omega) (by omega)) rfl rfl ?_
      refine q_step 4 124 [(0, .ref 28), (1, .ref 35), (2, .int (Int32.ofNat p)), (3, .int (Int32.ofNat q)), (4, .int ((g 29 q) - (g 29 p))), (5, .int ((g 30 q) - (g 30 p))), (6, .int ((s_abs ((g 29 q) - (g 29 p))) + (s_abs ((g 30 q) - (g 30 p))))), (7, .int (g 40 (((s_abs ((g 29 q) - (g 29 p))) + (s_abs ((g 30 q) - (g 30 p))))).toInt.toNat)), (8, .int ((g 40 (((s_abs ((g 29 q) - (g 29 p))) + (s_abs ((g 30 q) - (g 30 p))))).toInt.toNat) * (s_cmp ((g 29 q) - (g 29 p)) (0 : Int32)))), (9, .int ((g 40 (((s_abs ((g 29 q) - (g 29 p))) + (s_abs ((g 30 q) - (g 30 p))))).toInt.toNat) * (s_cmp ((g 30 q) - (g 30 p)) (0 : Int32))))] [.int (Int32.ofNat q), .ref 31, .int (Int32.ofNat q), .ref 31] (q_up g 31 p ((g 31 p) + ((g 40 (((s_abs ((g 29 q) - (g 29 p))) + (s_abs ((g 30 q) - (g 30 p))))).toInt.toNat) * (s_cmp ((g 29 q) - (g 29 p)) (0 : Int32))))) u (fun _ _ => rfl) ?_
      refine q_iald (j := q) (q_ixn (by omega) (by omega)) rfl rfl ?_
      refine q_step 2 128 [(0, .ref 28), (1, .ref 35), (2, .int (Int32.ofNat p)), (3, .int (Int32.ofNat q)), (4, .int ((g 29 q) - (g 29 p))), (5, .int ((g 30 q) - (g 30 p))), (6, .int ((s_abs ((g 29 q) - (g 29 p))) + (s_abs ((g 30 q) - (g 30 p))))), (7, .int (g 40 (((s_abs ((g 29 q) - (g 29 p))) + (s_abs ((g 30 q) - (g 30 p))))).toInt.toNat)), (8, .int ((g 40 (((s_abs ((g 29 q) - (g 29 p))) + (s_abs ((g 30 q) - (g 30 p))))).toInt.toNat) * (s_cmp ((g 29 q) - (g 29 p)) (0 : Int32)))), (9, .int ((g 40 (((s_abs ((g 29 q) - (g 29 p))) + (s_abs ((g 30 q) - (g 30 p))))).toInt.toNat) * (s_cmp ((g 30 q) - (g 30 p)) (0 : Int32))))] [.int (((q_up g 31 p ((g 31 p) + ((g 40 (((s_abs ((g 29 q) - (g 29 p))) + (s_abs ((g 30 q) - (g 30 p))))).toInt.toNat) * (s_cmp ((g 29 q) - (g 29 p)) (0 : Int32))))) 31 q) - ((g 40 (((s_abs ((g 29 q) - (g 29 p))) + (s_abs ((g 30 q) - (g 30 p))))).toInt.toNat) * (s_cmp ((g 29 q) - (g 29 p)) (0 : Int32)))), .int (Int32.ofNat q), .ref 31] (q_up g 31 p ((g 31 p) + ((g 40 (((s_abs ((g 29 q) - (g 29 p))) + (s_abs ((g 30 q) - (g 30 p))))).toInt.toNat) * (s_cmp ((g 29 q) - (g 29 p)) (0 : Int32))))) u (fun _ _ => rfl) ?_
      refine q_iast (j := q) (q_ixn (by omega) (by omega)) rfl rfl ?_
      refine q_step 4 135 [(0, .ref 28), (1, .ref 35), (2, .int (Int32.ofNat p)), (3, .int (Int32.ofNat q)), (4, .int ((g 29 q) - (g 29 p))), (5, .int ((g 30 q) - (g 30 p))), (6, .int ((s_abs ((g 29 q) - (g 29 p))) + (s_abs ((g 30 q) - (g 30 p))))), (7, .int (g 40 (((s_abs ((g 29 q) - (g 29 p))) + (s_abs ((g 30 q) - (g 30 p))))).toInt.toNat)), (8, .int ((g 40 (((s_abs ((g 29 q) - (g 29 p))) + (s_abs ((g 30 q) - (g 30 p))))).toInt.toNat) * (s_cmp ((g 29 q) - (g 29 p)) (0 : Int32)))), (9, .int ((g 40 (((s_abs ((g 29 q) - (g 29 p))) + (s_abs ((g 30 q) - (g 30 p))))).toInt.toNat) * (s_cmp ((g 30 q) - (g 30 p)) (0 : Int32))))] [.int (Int32.ofNat p), .ref 32, .int (Int32.ofNat p), .ref 32] (q_up (q_up g 31 p ((g 31 p) + ((g 40 (((s_abs ((g 29 q) - (g 29 p))) + (s_abs ((g 30 q) - (g 30 p))))).toInt.toNat) * (s_cmp ((g 29 q) - (g 29 p)) (0 : Int32))))) 31 q (((q_up g 31 p ((g 31 p) + ((g 40 (((s_abs ((g 29 q) - (g 29 p))) + (s_abs ((g 30 q) - (g 30 p))))).toInt.toNat) * (s_cmp ((g 29 q) - (g 29 p)) (0 : Int32))))) 31 q) - ((g 40 (((s_abs ((g 29 q) - (g 29 p))) + (s_abs ((g 30 q) - (g 30 p))))).toInt.toNat) * (s_cmp ((g 29 q) - (g 29 p)) (0 : Int32))))) u (fun _ _ => rfl) ?_
      refine q_iald (j := p) (q_ixn (by omega) (by omega)) rfl rfl ?_
      refine q_step 2 139 [(0, .ref 28), (1, .ref 35), (2, .int (Int32.ofNat p)), (3, .int (Int32.ofNat q)), (4, .int ((g 29 q) - (g 29 p))), (5, .int ((g 30 q) - (g 30 p))), (6, .int ((s_abs ((g 29 q) - (g 29 p))) + (s_abs ((g 30 q) - (g 30 p))))), (7, .int (g 40 (((s_abs ((g 29 q) - (g 29 p))) + (s_abs ((g 30 q) - (g 30 p))))).toInt.toNat)), (8, .int ((g 40 (((s_abs ((g 29 q) - (g 29 p))) + (s_abs ((g 30 q) - (g 30 p))))).toInt.toNat) * (s_cmp ((g 29 q) - (g 29 p)) (0 : Int32)))), (9, .int ((g 40 (((s_abs ((g 29 q) - (g 29 p))) + (s_abs ((g 30 q) - (g 30 p))))).toInt.toNat) * (s_cmp ((g 30 q) - (g 30 p)) (0 : Int32))))] [.int ((g 32 p) + ((g 40 (((s_abs ((g 29 q) - (g 29 p))) + (s_abs ((g 30 q) - (g 30 p))))).toInt.toNat) * (s_cmp ((g 30 q) - (g 30 p)) (0 : Int32)))), .int (Int32.ofNat p), .ref 32] (q_up (q_up g 31 p ((g 31 p) + ((g 40 (((s_abs ((g 29 q) - (g 29 p))) + (s_abs ((g 30 q) - (g 30 p))))).toInt.toNat) * (s_cmp ((g 29 q) - (g 29 p)) (0 : Int32))))) 31 q (((q_up g 31 p ((g 31 p) + ((g 40 (((s_abs ((g 29 q) - (g 29 p))) + (s_abs ((g 30 q) - (g 30 p))))).toInt.toNat) * (s_cmp ((g 29 q) - (g 29 p)) (0 : Int32))))) 31 q) - ((g 40 (((s_abs ((g 29 q) - (g 29 p))) + (s_abs ((g 30 q) - (g 30 p))))).toInt.toNat) * (s_cmp ((g 29 q) - (g 29 p)) (0 : Int32))))) u (fun _ _ => rfl) ?_
      refine q_iast (j := p) (q_ixn (by omega) (by omega)) rfl rfl ?_
      refine q_step 4 146 [(0, .ref 28), (1, .ref 35), (2, .int (Int32.ofNat p)), (3, .int (Int32.ofNat q)), (4, .int ((g 29 q) - (g 29 p))), (5, .int ((g 30 q) - (g 30 p))), (6, .int ((s_abs ((g 29 q) - (g 29 p))) + (s_abs ((g 30 q) - (g 30 p))))), (7, .int (g 40 (((s_abs ((g 29 q) - (g 29 p))) + (s_abs ((g 30 q) - (g 30 p))))).toInt.toNat)), (8, .int ((g 40 (((s_abs ((g 29 q) - (g 29 p))) + (s_abs ((g 30 q) - (g 30 p))))).toInt.toNat) * (s_cmp ((g 29 q) - (g 29 p)) (0 : Int32)))), (9, .int ((g 40 (((s_abs ((g 29 q) - (g 29 p))) + (s_abs ((g 30 q) - (g 30 p))))).toInt.toNat) * (s_cmp ((g 30 q) - (g 30 p)) (0 : Int32))))] [.int (Int32.ofNat q), .ref 32, .int (Int32.ofNat q), .ref 32] (q_up (q_up (q_up g 31 p ((g 31 p) + ((g 40 (((s_abs ((g 29 q) - (g 29 p))) + (s_abs ((g 30 q) - (g 30 p))))).toInt.toNat) * (s_cmp ((g 29 q) - (g 29 p)) (0 : Int32))))) 31 q (((q_up g 31 p ((g 31 p) + ((g 40 (((s_abs ((g 29 q) - (g 29 p))) + (s_abs ((g 30 q) - (g 30 p))))).toInt.toNat) * (s_cmp ((g 29 q) - (g 29 p)) (0 : Int32))))) 31 q) - ((g 40 (((s_abs ((g 29 q) - (g 29 p))) + (s_abs ((g 30 q) - (g 30 p))))).toInt.toNat) * (s_cmp ((g 29 q) - (g 29 p)) (0 : Int32))))) 32 p ((g 32 p) + ((g 40 (((s_abs ((g 29 q) - (g 29 p))) + (s_abs ((g 30 q) - (g 30 p))))).toInt.toNat) * (s_cmp ((g 30 q) - (g 30 p)) (0 : Int32))))) u (fun _ _ => rfl) ?_
      refine q_iald (j := q) (q_ixn (by omega) (by omega)) rfl rfl ?_
      refine q_step 2 150 [(0, .ref 28), (1, .ref 35), (2, .int (Int32.ofNat p)), (3, .int (Int32.ofNat q)), (4, .int ((g 29 q) - (g 29 p))), (5, .int ((g 30 q) - (g 30 p))), (6, .int ((s_abs ((g 29 q) - (g 29 p))) + (s_abs ((g 30 q) - (g 30 p))))), (7, .int (g 40 (((s_abs ((g 29 q) - (g 29 p))) + (s_abs ((g 30 q) - (g 30 p))))).toInt.toNat)), (8, .int ((g 40 (((s_abs ((g 29 q) - (g 29 p))) + (s_abs ((g 30 q) - (g 30 p))))).toInt.toNat) * (s_cmp ((g 29 q) - (g 29 p)) (0 : Int32)))), (9, .int ((g 40 (((s_abs ((g 29 q) - (g 29 p))) + (s_abs ((g 30 q) - (g 30 p))))).toInt.toNat) * (s_cmp ((g 30 q) - (g 30 p)) (0 : Int32))))] [.int (((q_up (q_up (q_up g 31 p ((g 31 p) + ((g 40 (((s_abs ((g 29 q) - (g 29 p))) + (s_abs ((g 30 q) - (g 30 p))))).toInt.toNat) * (s_cmp ((g 29 q) - (g 29 p)) (0 : Int32))))) 31 q (((q_up g 31 p ((g 31 p) + ((g 40 (((s_abs ((g 29 q) - (g 29 p))) + (s_abs ((g 30 q) - (g 30 p))))).toInt.toNat) * (s_cmp ((g 29 q) - (g 29 p)) (0 : Int32))))) 31 q) - ((g 40 (((s_abs ((g 29 q) - (g 29 p))) + (s_abs ((g 30 q) - (g 30 p))))).toInt.toNat) * (s_cmp ((g 29 q) - (g 29 p)) (0 : Int32))))) 32 p ((g 32 p) + ((g 40 (((s_abs ((g 29 q) - (g 29 p))) + (s_abs ((g 30 q) - (g 30 p))))).toInt.toNat) * (s_cmp ((g 30 q) - (g 30 p)) (0 : Int32))))) 32 q) - ((g 40 (((s_abs ((g 29 q) - (g 29 p))) + (s_abs ((g 30 q) - (g 30 p))))).toInt.toNat) * (s_cmp ((g 30 q) - (g 30 p)) (0 : Int32)))), .int (Int32.ofNat q), .ref 32] (q_up (q_up (q_up g 31 p ((g 31 p) + ((g 40 (((s_abs ((g 29 q) - (g 29 p))) + (s_abs ((g 30 q) - (g 30 p))))).toInt.toNat) * (s_cmp ((g 29 q) - (g 29 p)) (0 : Int32))))) 31 q (((q_up g 31 p ((g 31 p) + ((g 40 (((s_abs ((g 29 q) - (g 29 p))) + (s_abs ((g 30 q) - (g 30 p))))).toInt.toNat) * (s_cmp ((g 29 q) - (g 29 p)) (0 : Int32))))) 31 q) - ((g 40 (((s_abs ((g 29 q) - (g 29 p))) + (s_abs ((g 30 q) - (g 30 p))))).toInt.toNat) * (s_cmp ((g 29 q) - (g 29 p)) (0 : Int32))))) 32 p ((g 32 p) + ((g 40 (((s_abs ((g 29 q) - (g 29 p))) + (s_abs ((g 30 q) - (g 30 p))))).toInt.toNat) * (s_cmp ((g 30 q) - (g 30 p)) (0 : Int32))))) u (fun _ _ => rfl) ?_
      refine q_iast (j := q) (q_ixn (by omega) (by omega)) rfl rfl ?_
      refine q_ret 1 (none, (q_up (q_up (q_up (q_up g 31 p ((g 31 p) + ((g 40 (((s_abs ((g 29 q) - (g 29 p))) + (s_abs ((g 30 q) - (g 30 p))))).toInt.toNat) * (s_cmp ((g 29 q) - (g 29 p)) (0 : Int32))))) 31 q (((q_up g 31 p ((g 31 p) + ((g 40 (((s_abs ((g 29 q) - (g 29 p))) + (s_abs ((g 30 q) - (g 30 p))))).toInt.toNat) * (s_cmp ((g 29 q) - (g 29 p)) (0 : Int32))))) 31 q) - ((g 40 (((s_abs ((g 29 q) - (g 29 p))) + (s_abs ((g 30 q) - (g 30 p))))).toInt.toNat) * (s_cmp ((g 29 q) - (g 29 p)) (0 : Int32))))) 32 p ((g 32 p) + ((g 40 (((s_abs ((g 29 q) - (g 29 p))) + (s_abs ((g 30 q) - (g 30 p))))).toInt.toNat) * (s_cmp ((g 30 q) - (g 30 p)) (0 : Int32))))) 32 q (((q_up (q_up (q_up g 31 p ((g 31 p) + ((g 40 (((s_abs ((g 29 q) - (g 29 p))) + (s_abs ((g 30 q) - (g 30 p))))).toInt.toNat) * (s_cmp ((g 29 q) - (g 29 p)) (0 : Int32))))) 31 q (((q_up g 31 p ((g 31 p) + ((g 40 (((s_abs ((g 29 q) - (g 29 p))) + (s_abs ((g 30 q) - (g 30 p))))).toInt.toNat) * (s_cmp ((g 29 q) - (g 29 p)) (0 : Int32))))) 31 q) - ((g 40 (((s_abs ((g 29 q) - (g 29 p))) + (s_abs ((g 30 q) - (g 30 p))))).toInt.toNat) * (s_cmp ((g 29 q) - (g 29 p)) (0 : Int32))))) 32 p ((g 32 p) + ((g 40 (((s_abs ((g 29 q) - (g 29 p))) + (s_abs ((g 30 q) - (g 30 p))))).toInt.toNat) * (s_cmp ((g 30 q) - (g 30 p)) (0 : Int32))))) 32 q) - ((g 40 (((s_abs ((g 29 q) - (g 29 p))) + (s_abs ((g 30 q) - (g 30 p))))).toInt.toNat) * (s_cmp ((g 30 q) - (g 30 p)) (0 : Int32))))), u) (fun _ _ => rfl) ?_
      unfold s_wpm
      rw [if_pos hc0, if_neg hc1]
      exact congrArg (fun m => ((none : Option Value), m, u)) (s_pair g p q _ _ hpq)
  · refine q_ret 1 (none, g, u) (fun _ _ => rfl) ?_
    unfold s_wpm
    rw [if_neg hc0, Int32.zero_mul, Int32.zero_mul, s_acc_n]
end
section
theorem s_sf_0 {f : Nat → Int32} (h : ∀ q, f q = 0) : ∀ k q, s_sf f k q = 0
  | 0, _ => rfl
  | k + 1, q => by
    show f q + s_sf f k (q + 1) = 0
    rw [h q, s_sf_0 h k (q + 1)]
    rfl
theorem s_str_p {w : Int32} {c mo pl : Nat → Int32} {p q : Nat} (h : mo p = 0) : s_str w c mo pl p q = 0 := if_pos h
theorem s_str_q {w : Int32} {c mo pl : Nat → Int32} {p q : Nat} (h : mo q = 0) : s_str w c mo pl p q = 0 := by
  unfold s_str
  split
  · rfl
  · first
      | rfl
      | rw [if_pos h]
theorem s_K_0 {e : Nat → Nat → Int32} {p q j : Nat} (h : e p q = 0) : s_K e p q j = 0 := by
  unfold s_K
  rw [h]
  split
  · rfl
  · split <;> rfl
theorem s_wp_acc {w : Int32} {c mo pl : Nat → Int32} {n p q : Nat} {g : qM} {A B : Nat → Int32} (hp : p < n) (hq : q < n) (h1 : ¬ mo p = 0) (h2 : ¬ mo q = 0) : s_wpm mo pl (s_acc (s_W1 w c n g) A B) p q = s_acc (s_W1 w c n g) (fun j => A j + s_K (s_pe w c mo pl) p q j) (fun j => B j + s_K (s_ps w c mo pl) p q j) := by
  have e1 : ∀ j, j < n → (s_acc (s_W1 w c n g) A B) 29 j = s_col w (c j) := fun j hj => if_pos hj
  have e2 : ∀ j, j < n → (s_acc (s_W1 w c n g) A B) 30 j = s_row w (c j) := fun j hj => if_pos hj
  unfold s_wpm
  rw [s_acc_acc, e1 p hp, e1 q hq, e2 p hp, e2 q hq]
  unfold s_K s_pe s_ps s_str s_far
  rw [if_neg h1, if_neg h2]
/-- the sums of all pairs, as the class adds them -/
def s_A (e : Nat → Nat → Int32) (n j : Nat) : Int32 := s_sf (fun p => s_sf (fun q => s_K e p q j) (n - 1 - p) (p + 1)) n 0
def s_H (w : Int32) (c mo pl : Nat → Int32) (n : Nat) (g : qM) : qM := s_acc (s_W1 w c n g) (s_A (s_pe w c mo pl) n) (s_A (s_ps w c mo pl) n)
def s_wf (st : Nat → Int32) (H : qM) (j : Nat) : Int32 := if st j = 0 then s_way (H 31 j) (H 32 j) else 4
/-- the cells behind weigh -/
def s_weigh (w : Int32) (c mo st pl : Nat → Int32) (n : Nat) (g : qM) : qM := s_W4 (s_wf st (s_H w c mo pl n g)) n (s_H w c mo pl n g)
theorem w1_20 (g : qM) (u : qW) {Q : Option Value × qM × qW → Prop} {n : Nat} (hn : g 20 3 = Int32.ofNat n) (h6 : n ≤ 6) (hw : ¬ g 20 0 ≤ 0) : ∀ k i, i + k = n → q_EV m_58 64 [(0, .ref 28), (1, .ref 20), (2, .int (0 : Int32))] [] (s_W1 (g 20 0) (g 21) n g) u Q → q_EV m_58 2 [(0, .ref 28), (1, .ref 20), (2, .int (Int32.ofNat i))] [] (s_W1 (g 20 0) (g 21) i g) u Q := by
  intro k
  induction k with
  | zero =>
    intro i hi hE
    refine q_step 3 7 [(0, .ref 28), (1, .ref 20), (2, .int (Int32.ofNat i))] [.int (g 20 3), .int (Int32.ofNat i)] (s_W1 (g 20 0) (g 21) i g) u (fun _ _ => rfl) ?_
    refine q_ic_ge rfl (fun (hc0 : (g 20 3) ≤ (Int32.ofNat i)) => ?_) (fun hc0 => absurd (show (g 20 3) ≤ (Int32.ofNat i) from by rw [hn, q_le (by omega) (by omega)]; omega) hc0)
    refine q_step 2 64 [(0, .ref 28), (1, .ref 20), (2, .int (0 : Int32))] [] (s_W1 (g 20 0) (g 21) i g) u (fun _ _ => rfl) ?_
    have e : i = n := by omega
    subst e
    exact hE
  | succ k ih =>
    intro i hi hE
    refine q_step 3 7 [(0, .ref 28), (1, .ref 20), (2, .int (Int32.ofNat i))] [.int (g 20 3), .int (Int32.ofNat i)] (s_W1 (g 20 0) (g 21) i g) u (fun _ _ => rfl) ?_
    refine q_ic_ge rfl (fun hc0 => absurd (show (g 20 3) ≤ (Int32.ofNat i) from hc0) (fun z => by rw [hn, q_le (by omega) (by omega)] at z; omega)) (fun (hc0 : ¬ ((g 20 3) ≤ (Int32.ofNat i))) => ?_)
    refine q_step 7 21 [(0, .ref 28), (1, .ref 20), (2, .int (Int32.ofNat i))] [.int (Int32.ofNat i), .ref 21, .ref 20, .int (Int32.ofNat i), .ref 29] (s_W1 (g 20 0) (g 21) i g) u (fun _ _ => rfl) ?_
    refine q_iald (j := i) (q_ixn (by omega) (by omega)) rfl rfl ?_
    refine q_call (M2 := 59) (rest := [.int (Int32.ofNat i), .ref 29]) (b_col20 _ _ _ hw) (fun _ _ => rfl) ?_
    refine q_iast (j := i) (q_ixn (by omega) (by omega)) rfl rfl ?_
    refine q_step 7 37 [(0, .ref 28), (1, .ref 20), (2, .int (Int32.ofNat i))] [.int (Int32.ofNat i), .ref 21, .ref 20, .int (Int32.ofNat i), .ref 30] (q_up (s_W1 (g 20 0) (g 21) i g) 29 i (s_col (g 20 0) (g 21 i))) u (fun _ _ => rfl) ?_
    refine q_iald (j := i) (q_ixn (by omega) (by omega)) rfl rfl ?_
    refine q_call (M2 := 60) (rest := [.int (Int32.ofNat i), .ref 30]) (b_row20 _ _ _ hw) (fun _ _ => rfl) ?_
    refine q_iast (j := i) (q_ixn (by omega) (by omega)) rfl rfl ?_
    refine q_step 4 48 [(0, .ref 28), (1, .ref 20), (2, .int (Int32.ofNat i))] [.int (0 : Int32), .int (Int32.ofNat i), .ref 31] (q_up (q_up (s_W1 (g 20 0) (g 21) i g) 29 i (s_col (g 20 0) (g 21 i))) 30 i (s_row (g 20 0) (g 21 i))) u (fun _ _ => rfl) ?_
    refine q_iast (j := i) (q_ixn (by omega) (by omega)) rfl rfl ?_
    refine q_step 4 55 [(0, .ref 28), (1, .ref 20), (2, .int (Int32.ofNat i))] [.int (0 : Int32), .int (Int32.ofNat i), .ref 32] (q_up (q_up (q_up (s_W1 (g 20 0) (g 21) i g) 29 i (s_col (g 20 0) (g 21 i))) 30 i (s_row (g 20 0) (g 21 i))) 31 i (0 : Int32)) u (fun _ _ => rfl) ?_
    refine q_iast (j := i) (q_ixn (by omega) (by omega)) rfl rfl ?_
    refine q_step 2 2 [(0, .ref 28), (1, .ref 20), (2, .int ((Int32.ofNat i) + (1 : Int32)))] [] (q_up (q_up (q_up (q_up (s_W1 (g 20 0) (g 21) i g) 29 i (s_col (g 20 0) (g 21 i))) 30 i (s_row (g 20 0) (g 21 i))) 31 i (0 : Int32)) 32 i (0 : Int32)) u (fun _ _ => rfl) ?_
    rw [q_succ, s_W1_s]
    exact ih (i + 1) (by omega) hE
theorem w3_20 (g : qM) (u : qW) {Q : Option Value × qM × qW → Prop} {n : Nat} (hn : g 20 3 = Int32.ofNat n) (h6 : n ≤ 6) (hf : ∀ p q, p < n → q < n → 0 ≤ (s_far (g 20 0) ((g 21) p) ((g 21) q)).toInt) {p : Nat} (hp : p < n) : ∀ k q (A B : Nat → Int32), q + k = n → p < q → (∀ x, q_EV m_58 115 [(0, .ref 28), (1, .ref 20), (2, .int (Int32.ofNat p)), (3, .int x)] [] (s_acc (s_W1 (g 20 0) (g 21) n g) (fun j => A j + s_sf (fun q => s_K (s_pe (g 20 0) (g 21) (g 22) (g 25)) p q j) k q) (fun j => B j + s_sf (fun q => s_K (s_ps (g 20 0) (g 21) (g 22) (g 25)) p q j) k q)) u Q) → q_EV m_58 76 [(0, .ref 28), (1, .ref 20), (2, .int (Int32.ofNat p)), (3, .int (Int32.ofNat q))] [] (s_acc (s_W1 (g 20 0) (g 21) n g) A B) u Q := by
  intro k
  induction k with
  | zero =>
    intro q A B hq hpq hE
    refine q_step 3 81 [(0, .ref 28), (1, .ref 20), (2, .int (Int32.ofNat p)), (3, .int (Int32.ofNat q))] [.int (g 20 3), .int (Int32.ofNat q)] (s_acc (s_W1 (g 20 0) (g 21) n g) A B) u (fun _ _ => rfl) ?_
    refine q_ic_ge rfl (fun (hc0 : (g 20 3) ≤ (Int32.ofNat q)) => ?_) (fun hc0 => absurd (show (g 20 3) ≤ (Int32.ofNat q) from by rw [hn, q_le (by omega) (by omega)]; omega) hc0)
    have e := hE (Int32.ofNat q)
    simp only [s_sf, Int32.add_zero] at e
    exact e
  | succ k ih =>
    intro q A B hq hpq hE
    refine q_step 3 81 [(0, .ref 28), (1, .ref 20), (2, .int (Int32.ofNat p)), (3, .int (Int32.ofNat q))] [.int (g 20 3), .int (Int32.ofNat q)] (s_acc (s_W1 (g 20 0) (g 21) n g) A B) u (fun _ _ => rfl) ?_
    refine q_ic_ge rfl (fun hc0 => absurd (show (g 20 3) ≤ (Int32.ofNat q) from hc0) (fun z => by rw [hn, q_le (by omega) (by omega)] at z; omega)) (fun (hc0 : ¬ ((g 20 3) ≤ (Int32.ofNat q))) => ?_)
    refine q_step 3 89 [(0, .ref 28), (1, .ref 20), (2, .int (Int32.ofNat p)), (3, .int (Int32.ofNat q))] [.int (Int32.ofNat p), .ref 22] (s_acc (s_W1 (g 20 0) (g 21) n g) A B) u (fun _ _ => rfl) ?_
    refine q_iald (j := p) (q_ixn (by omega) (by omega)) rfl rfl ?_
    refine q_if_eq rfl (fun (hc1 : (g 22 p) = 0) => ?_) (fun (hc1 : ¬ ((g 22 p) = 0)) => ?_)
    · have e := hE (Int32.ofNat q)
      rw [show (fun j => A j + s_sf (fun q => s_K (s_pe (g 20 0) (g 21) (g 22) (g 25)) p q j) (k + 1) q) = A from funext fun j => by rw [s_sf_0 (fun q => s_K_0 (by unfold s_pe; rw [s_str_p hc1, Int32.zero_mul])), Int32.add_zero], show (fun j => B j + s_sf (fun q => s_K (s_ps (g 20 0) (g 21) (g 22) (g 25)) p q j) (k + 1) q) = B from funext fun j => by rw [s_sf_0 (fun q => s_K_0 (by unfold s_ps; rw [s_str_p hc1, Int32.zero_mul])), Int32.add_zero]] at e
      exact e
    · refine q_step 3 98 [(0, .ref 28), (1, .ref 20), (2, .int (Int32.ofNat p)), (3, .int (Int32.ofNat q))] [.int (Int32.ofNat q), .ref 22] (s_acc (s_W1 (g 20 0) (g 21) n g) A B) u (fun _ _ => rfl) ?_
      refine q_iald (j := q) (q_ixn (by omega) (by omega)) rfl rfl ?_
      refine q_if_eq rfl (fun (hc2 : (g 22 q) = 0) => ?_) (fun (hc2 : ¬ ((g 22 q) = 0)) => ?_)
      · refine q_step 2 76 [(0, .ref 28), (1, .ref 20), (2, .int (Int32.ofNat p)), (3, .int ((Int32.ofNat q) + (1 : Int32)))] [] (s_acc (s_W1 (g 20 0) (g 21) n g) A B) u (fun _ _ => rfl) ?_
        rw [q_succ]
        refine ih (q + 1) A B (by omega) (by omega) (fun x => ?_)
        have e := hE x
        rw [show (fun j => A j + s_sf (fun q => s_K (s_pe (g 20 0) (g 21) (g 22) (g 25)) p q j) (k + 1) q) = fun j => A j + s_sf (fun q => s_K (s_pe (g 20 0) (g 21) (g 22) (g 25)) p q j) k (q + 1) from funext fun j => by rw [s_sf, s_K_0 (by unfold s_pe; rw [s_str_q hc2, Int32.zero_mul]), Int32.zero_add], show (fun j => B j + s_sf (fun q => s_K (s_ps (g 20 0) (g 21) (g 22) (g 25)) p q j) (k + 1) q) = fun j => B j + s_sf (fun q => s_K (s_ps (g 20 0) (g 21) (g 22) (g 25)) p q j) k (q + 1) from funext fun j => by rw [s_sf, s_K_0 (by unfold s_ps; rw [s_str_q hc2, Int32.zero_mul]), Int32.zero_add]] at e
        exact e
      · refine q_step 4 106 [(0, .ref 28), (1, .ref 20), (2, .int (Int32.ofNat p)), (3, .int (Int32.ofNat q))] [.int (Int32.ofNat q), .int (Int32.ofNat p), .ref 20, .ref 28] (s_acc (s_W1 (g 20 0) (g 21) n g) A B) u (fun _ _ => rfl) ?_
        have hb : q_BS 61 [.ref 28, .ref 20, .int (Int32.ofNat p), .int (Int32.ofNat q)] (s_acc (s_W1 (g 20 0) (g 21) n g) A B) u (none, s_acc (s_W1 (g 20 0) (g 21) n g) (fun j => A j + s_K (s_pe (g 20 0) (g 21) (g 22) (g 25)) p q j) (fun j => B j + s_K (s_ps (g 20 0) (g 21) (g 22) (g 25)) p q j), u) := by
          have e1 : ∀ j, j < n → (s_acc (s_W1 (g 20 0) (g 21) n g) A B) 29 j = s_col (g 20 0) ((g 21) j) := fun j hj => if_pos hj
          have e2 : ∀ j, j < n → (s_acc (s_W1 (g 20 0) (g 21) n g) A B) 30 j = s_row (g 20 0) ((g 21) j) := fun j hj => if_pos hj
          have h := b_wp20 (p := p) (q := q) (s_acc (s_W1 (g 20 0) (g 21) n g) A B) u (by omega) (by omega) (by omega) (by rw [e1 p (by omega), e1 q (by omega), e2 p (by omega), e2 q (by omega)]; exact hf p q (by omega) (by omega))
          rw [show s_wpm ((s_acc (s_W1 (g 20 0) (g 21) n g) A B) 22) ((s_acc (s_W1 (g 20 0) (g 21) n g) A B) 25) (s_acc (s_W1 (g 20 0) (g 21) n g) A B) p q = _ from s_wp_acc (mo := (g 22)) (pl := (g 25)) (by omega) (by omega) hc1 hc2] at h
          exact h
        refine q_call (M2 := 61) (rest := []) (hb) (fun _ _ => rfl) ?_
        refine q_step 2 76 [(0, .ref 28), (1, .ref 20), (2, .int (Int32.ofNat p)), (3, .int ((Int32.ofNat q) + (1 : Int32)))] [] (s_acc (s_W1 (g 20 0) (g 21) n g) (fun j => A j + s_K (s_pe (g 20 0) (g 21) (g 22) (g 25)) p q j) (fun j => B j + s_K (s_ps (g 20 0) (g 21) (g 22) (g 25)) p q j)) u (fun _ _ => rfl) ?_
        rw [q_succ]
        refine ih (q + 1) _ _ (by omega) (by omega) (fun x => ?_)
        have e := hE x
        simp only [s_sf, ← Int32.add_assoc] at e
        exact e
theorem w2_20 (g : qM) (u : qW) {Q : Option Value × qM × qW → Prop} {n : Nat} (hn : g 20 3 = Int32.ofNat n) (h6 : n ≤ 6) (hf : ∀ p q, p < n → q < n → 0 ≤ (s_far (g 20 0) ((g 21) p) ((g 21) q)).toInt) : ∀ k p x (A B : Nat → Int32), p + k = n → (∀ x, q_EV m_58 123 [(0, .ref 28), (1, .ref 20), (2, .int (0 : Int32)), (3, .int x)] [] (s_acc (s_W1 (g 20 0) (g 21) n g) (fun j => A j + s_sf (fun p => s_sf (fun q => s_K (s_pe (g 20 0) (g 21) (g 22) (g 25)) p q j) (n - 1 - p) (p + 1)) k p) (fun j => B j + s_sf (fun p => s_sf (fun q => s_K (s_ps (g 20 0) (g 21) (g 22) (g 25)) p q j) (n - 1 - p) (p + 1)) k p)) u Q) → q_EV m_58 64 [(0, .ref 28), (1, .ref 20), (2, .int (Int32.ofNat p)), (3, .int x)] [] (s_acc (s_W1 (g 20 0) (g 21) n g) A B) u Q := by
  intro k
  induction k with
  | zero =>
    intro p x A B hp hE
    refine q_step 3 69 [(0, .ref 28), (1, .ref 20), (2, .int (Int32.ofNat p)), (3, .int x)] [.int (g 20 3), .int (Int32.ofNat p)] (s_acc (s_W1 (g 20 0) (g 21) n g) A B) u (fun _ _ => rfl) ?_
    refine q_ic_ge rfl (fun (hc0 : (g 20 3) ≤ (Int32.ofNat p)) => ?_) (fun hc0 => absurd (show (g 20 3) ≤ (Int32.ofNat p) from by rw [hn, q_le (by omega) (by omega)]; omega) hc0)
    refine q_step 2 123 [(0, .ref 28), (1, .ref 20), (2, .int (0 : Int32)), (3, .int x)] [] (s_acc (s_W1 (g 20 0) (g 21) n g) A B) u (fun _ _ => rfl) ?_
    have e := hE x
    simp only [s_sf, Int32.add_zero] at e
    exact e
  | succ k ih =>
    intro p x A B hp hE
    refine q_step 3 69 [(0, .ref 28), (1, .ref 20), (2, .int (Int32.ofNat p)), (3, .int x)] [.int (g 20 3), .int (Int32.ofNat p)] (s_acc (s_W1 (g 20 0) (g 21) n g) A B) u (fun _ _ => rfl) ?_
    refine q_ic_ge rfl (fun hc0 => absurd (show (g 20 3) ≤ (Int32.ofNat p) from hc0) (fun z => by rw [hn, q_le (by omega) (by omega)] at z; omega)) (fun (hc0 : ¬ ((g 20 3) ≤ (Int32.ofNat p))) => ?_)
    refine q_step 4 76 [(0, .ref 28), (1, .ref 20), (2, .int (Int32.ofNat p)), (3, .int ((Int32.ofNat p) + (1 : Int32)))] [] (s_acc (s_W1 (g 20 0) (g 21) n g) A B) u (fun _ _ => rfl) ?_
    rw [q_succ]
    refine w3_20 g u hn h6 hf (p := p) (by omega) (n - 1 - p) (p + 1) A B (by omega) (by omega) (fun x => ?_)
    refine q_step 2 64 [(0, .ref 28), (1, .ref 20), (2, .int ((Int32.ofNat p) + (1 : Int32))), (3, .int x)] [] (s_acc (s_W1 (g 20 0) (g 21) n g) (fun j => A j + s_sf (fun q => s_K (s_pe (g 20 0) (g 21) (g 22) (g 25)) p q j) (n - 1 - p) (p + 1)) (fun j => B j + s_sf (fun q => s_K (s_ps (g 20 0) (g 21) (g 22) (g 25)) p q j) (n - 1 - p) (p + 1))) u (fun _ _ => rfl) ?_
    rw [q_succ]
    refine ih (p + 1) x _ _ (by omega) (fun x => ?_)
    have e := hE x
    simp only [s_sf, ← Int32.add_assoc] at e
    exact e
theorem w4a_20 (H : qM) (u : qW) {n : Nat} (hn : H 20 3 = Int32.ofNat n) (h6 : n ≤ 6) : ∀ k i, i + k = n → q_EV m_58 123 [(0, .ref 28), (1, .ref 20), (2, .int (Int32.ofNat i))] [] (s_W4 (s_wf (H 23) H) i H) u (fun R => R = (none, s_W4 (s_wf (H 23) H) n H, u)) := by
  intro k
  induction k with
  | zero =>
    intro i hi
    refine q_step 3 128 [(0, .ref 28), (1, .ref 20), (2, .int (Int32.ofNat i))] [.int (H 20 3), .int (Int32.ofNat i)] (s_W4 (s_wf (H 23) H) i H) u (fun _ _ => rfl) ?_
    refine q_ic_ge rfl (fun (hc0 : (H 20 3) ≤ (Int32.ofNat i)) => ?_) (fun hc0 => absurd (show (H 20 3) ≤ (Int32.ofNat i) from by rw [hn, q_le (by omega) (by omega)]; omega) hc0)
    refine q_ret 1 (none, (s_W4 (s_wf (H 23) H) i H), u) (fun _ _ => rfl) ?_
    have e : i = n := by omega
    subst e
    rfl
  | succ k ih =>
    intro i hi
    refine q_step 3 128 [(0, .ref 28), (1, .ref 20), (2, .int (Int32.ofNat i))] [.int (H 20 3), .int (Int32.ofNat i)] (s_W4 (s_wf (H 23) H) i H) u (fun _ _ => rfl) ?_
    refine q_ic_ge rfl (fun hc0 => absurd (show (H 20 3) ≤ (Int32.ofNat i) from hc0) (fun z => by rw [hn, q_le (by omega) (by omega)] at z; omega)) (fun (hc0 : ¬ ((H 20 3) ≤ (Int32.ofNat i))) => ?_)
    refine q_step 6 141 [(0, .ref 28), (1, .ref 20), (2, .int (Int32.ofNat i))] [.int (Int32.ofNat i), .ref 23, .int (Int32.ofNat i), .ref 33] (s_W4 (s_wf (H 23) H) i H) u (fun _ _ => rfl) ?_
    refine q_iald (j := i) (q_ixn (by omega) (by omega)) rfl rfl ?_
    refine q_if_eq rfl (fun (hc1 : (H 23 i) = 0) => ?_) (fun (hc1 : ¬ ((H 23 i) = 0)) => ?_)
    · refine q_step 3 154 [(0, .ref 28), (1, .ref 20), (2, .int (Int32.ofNat i))] [.int (Int32.ofNat i), .ref 31, .int (Int32.ofNat i), .ref 33] (s_W4 (s_wf (H 23) H) i H) u (fun _ _ => rfl) ?_
      refine q_iald (j := i) (q_ixn (by omega) (by omega)) rfl rfl ?_
      refine q_step 3 160 [(0, .ref 28), (1, .ref 20), (2, .int (Int32.ofNat i))] [.int (Int32.ofNat i), .ref 32, .int (H 31 i), .int (Int32.ofNat i), .ref 33] (s_W4 (s_wf (H 23) H) i H) u (fun _ _ => rfl) ?_
      refine q_iald (j := i) (q_ixn (by omega) (by omega)) rfl rfl ?_
      refine q_call (M2 := 64) (rest := [.int (Int32.ofNat i), .ref 33]) (b_wayBy _ _ _ _) (fun _ _ => rfl) ?_
      refine q_iast (j := i) (q_ixn (by omega) (by omega)) rfl rfl ?_
      refine q_step 2 123 [(0, .ref 28), (1, .ref 20), (2, .int ((Int32.ofNat i) + (1 : Int32)))] [] (q_up (s_W4 (s_wf (H 23) H) i H) 33 i (s_way (H 31 i) (H 32 i))) u (fun _ _ => rfl) ?_
      rw [q_succ, show (s_way (H 31 i) (H 32 i)) = (s_wf (H 23) H) i from (if_pos hc1).symm, s_W4_s]
      exact ih (i + 1) (by omega)
    · refine q_step 2 164 [(0, .ref 28), (1, .ref 20), (2, .int (Int32.ofNat i))] [.int (4 : Int32), .int (Int32.ofNat i), .ref 33] (s_W4 (s_wf (H 23) H) i H) u (fun _ _ => rfl) ?_
      refine q_iast (j := i) (q_ixn (by omega) (by omega)) rfl rfl ?_
      refine q_step 2 123 [(0, .ref 28), (1, .ref 20), (2, .int ((Int32.ofNat i) + (1 : Int32)))] [] (q_up (s_W4 (s_wf (H 23) H) i H) 33 i (4 : Int32)) u (fun _ _ => rfl) ?_
      rw [q_succ, show (4 : Int32) = (s_wf (H 23) H) i from (if_neg hc1).symm, s_W4_s]
      exact ih (i + 1) (by omega)
theorem w4b_20 (H : qM) (u : qW) {n : Nat} (hn : H 20 3 = Int32.ofNat n) (h6 : n ≤ 6) (x : Int32) : ∀ k i, i + k = n → q_EV m_58 123 [(0, .ref 28), (1, .ref 20), (2, .int (Int32.ofNat i)), (3, .int x)] [] (s_W4 (s_wf (H 23) H) i H) u (fun R => R = (none, s_W4 (s_wf (H 23) H) n H, u)) := by
  intro k
  induction k with
  | zero =>
    intro i hi
    refine q_step 3 128 [(0, .ref 28), (1, .ref 20), (2, .int (Int32.ofNat i)), (3, .int x)] [.int (H 20 3), .int (Int32.ofNat i)] (s_W4 (s_wf (H 23) H) i H) u (fun _ _ => rfl) ?_
    refine q_ic_ge rfl (fun (hc0 : (H 20 3) ≤ (Int32.ofNat i)) => ?_) (fun hc0 => absurd (show (H 20 3) ≤ (Int32.ofNat i) from by rw [hn, q_le (by omega) (by omega)]; omega) hc0)
    refine q_ret 1 (none, (s_W4 (s_wf (H 23) H) i H), u) (fun _ _ => rfl) ?_
    have e : i = n := by omega
    subst e
    rfl
  | succ k ih =>
    intro i hi
    refine q_step 3 128 [(0, .ref 28), (1, .ref 20), (2, .int (Int32.ofNat i)), (3, .int x)] [.int (H 20 3), .int (Int32.ofNat i)] (s_W4 (s_wf (H 23) H) i H) u (fun _ _ => rfl) ?_
    refine q_ic_ge rfl (fun hc0 => absurd (show (H 20 3) ≤ (Int32.ofNat i) from hc0) (fun z => by rw [hn, q_le (by omega) (by omega)] at z; omega)) (fun (hc0 : ¬ ((H 20 3) ≤ (Int32.ofNat i))) => ?_)
    refine q_step 6 141 [(0, .ref 28), (1, .ref 20), (2, .int (Int32.ofNat i)), (3, .int x)] [.int (Int32.ofNat i), .ref 23, .int (Int32.ofNat i), .ref 33] (s_W4 (s_wf (H 23) H) i H) u (fun _ _ => rfl) ?_
    refine q_iald (j := i) (q_ixn (by omega) (by omega)) rfl rfl ?_
    refine q_if_eq rfl (fun (hc1 : (H 23 i) = 0) => ?_) (fun (hc1 : ¬ ((H 23 i) = 0)) => ?_)
    · refine q_step 3 154 [(0, .ref 28), (1, .ref 20), (2, .int (Int32.ofNat i)), (3, .int x)] [.int (Int32.ofNat i), .ref 31, .int (Int32.ofNat i), .ref 33] (s_W4 (s_wf (H 23) H) i H) u (fun _ _ => rfl) ?_
      refine q_iald (j := i) (q_ixn (by omega) (by omega)) rfl rfl ?_
      refine q_step 3 160 [(0, .ref 28), (1, .ref 20), (2, .int (Int32.ofNat i)), (3, .int x)] [.int (Int32.ofNat i), .ref 32, .int (H 31 i), .int (Int32.ofNat i), .ref 33] (s_W4 (s_wf (H 23) H) i H) u (fun _ _ => rfl) ?_
      refine q_iald (j := i) (q_ixn (by omega) (by omega)) rfl rfl ?_
      refine q_call (M2 := 64) (rest := [.int (Int32.ofNat i), .ref 33]) (b_wayBy _ _ _ _) (fun _ _ => rfl) ?_
      refine q_iast (j := i) (q_ixn (by omega) (by omega)) rfl rfl ?_
      refine q_step 2 123 [(0, .ref 28), (1, .ref 20), (2, .int ((Int32.ofNat i) + (1 : Int32))), (3, .int x)] [] (q_up (s_W4 (s_wf (H 23) H) i H) 33 i (s_way (H 31 i) (H 32 i))) u (fun _ _ => rfl) ?_
      rw [q_succ, show (s_way (H 31 i) (H 32 i)) = (s_wf (H 23) H) i from (if_pos hc1).symm, s_W4_s]
      exact ih (i + 1) (by omega)
    · refine q_step 2 164 [(0, .ref 28), (1, .ref 20), (2, .int (Int32.ofNat i)), (3, .int x)] [.int (4 : Int32), .int (Int32.ofNat i), .ref 33] (s_W4 (s_wf (H 23) H) i H) u (fun _ _ => rfl) ?_
      refine q_iast (j := i) (q_ixn (by omega) (by omega)) rfl rfl ?_
      refine q_step 2 123 [(0, .ref 28), (1, .ref 20), (2, .int ((Int32.ofNat i) + (1 : Int32))), (3, .int x)] [] (q_up (s_W4 (s_wf (H 23) H) i H) 33 i (4 : Int32)) u (fun _ _ => rfl) ?_
      rw [q_succ, show (4 : Int32) = (s_wf (H 23) H) i from (if_neg hc1).symm, s_W4_s]
      exact ih (i + 1) (by omega)
theorem b_weigh20 (g : qM) (u : qW) {n : Nat} (hn : g 20 3 = Int32.ofNat n) (h6 : n ≤ 6) (hw : ¬ g 20 0 ≤ 0) (hf : ∀ p q, p < n → q < n → 0 ≤ (s_far (g 20 0) ((g 21) p) ((g 21) q)).toInt) : q_BS 58 [.ref 28, .ref 20] g u (none, s_weigh (g 20 0) (g 21) (g 22) (g 23) (g 25) n g, u) := by
  refine q_bx (mm := m_58) rfl (Nat.le_of_ble_eq_true rfl) rfl ?_
  refine q_step 2 2 [(0, .ref 28), (1, .ref 20), (2, .int (0 : Int32))] [] g u (fun _ _ => rfl) ?_
  suffices hE : q_EV m_58 64 [(0, .ref 28), (1, .ref 20), (2, .int (0 : Int32))] [] (s_W1 (g 20 0) (g 21) n g) u (fun R' => R' = (none, s_weigh (g 20 0) (g 21) (g 22) (g 23) (g 25) n g, u)) by
    have key := w1_20 g u hn h6 hw n 0 (by omega) hE
    rw [s_W1_0] at key
    exact key
  by_cases h0 : n = 0
  · refine q_step 3 69 [(0, .ref 28), (1, .ref 20), (2, .int (0 : Int32))] [.int (g 20 3), .int (0 : Int32)] (s_W1 (g 20 0) (g 21) n g) u (fun _ _ => rfl) ?_
    refine q_ic_ge rfl (fun (hc0 : (g 20 3) ≤ (0 : Int32)) => ?_) (fun hc0 => absurd (show (g 20 3) ≤ (0 : Int32) from by rw [hn, h0]; decide) hc0)
    refine q_step 2 123 [(0, .ref 28), (1, .ref 20), (2, .int (0 : Int32))] [] (s_W1 (g 20 0) (g 21) n g) u (fun _ _ => rfl) ?_
    have e := w4a_20 (s_H (g 20 0) (g 21) (g 22) (g 25) n g) u hn h6 n 0 (by omega)
    rw [s_W4_0] at e
    subst h0
    have e2 : s_H (g 20 0) (g 21) (g 22) (g 25) 0 g = s_W1 (g 20 0) (g 21) 0 g := s_acc_0 _
    rw [← e2]
    exact e
  · refine q_step 3 69 [(0, .ref 28), (1, .ref 20), (2, .int (0 : Int32))] [.int (g 20 3), .int (0 : Int32)] (s_W1 (g 20 0) (g 21) n g) u (fun _ _ => rfl) ?_
    refine q_ic_ge rfl (fun hc0 => absurd (show (g 20 3) ≤ (0 : Int32) from hc0) (fun z => by rw [hn] at z; have z2 := (q_le (i := n) (j := 0) (by omega) (by omega)).mp z; omega)) (fun (hc0 : ¬ ((g 20 3) ≤ (0 : Int32))) => ?_)
    refine q_step 4 76 [(0, .ref 28), (1, .ref 20), (2, .int (0 : Int32)), (3, .int (1 : Int32))] [] (s_W1 (g 20 0) (g 21) n g) u (fun _ _ => rfl) ?_
    rw [← s_acc_0 (s_W1 (g 20 0) (g 21) n g)]
    refine w3_20 g u hn h6 hf (p := 0) (by omega) (n - 1 - 0) (0 + 1) (fun _ => 0) (fun _ => 0) (by omega) (by omega) (fun x => ?_)
    refine q_step 2 64 [(0, .ref 28), (1, .ref 20), (2, .int (1 : Int32)), (3, .int x)] [] (s_acc (s_W1 (g 20 0) (g 21) n g) (fun j => 0 + s_sf (fun q => s_K (s_pe (g 20 0) (g 21) (g 22) (g 25)) 0 q j) (n - 1 - 0) (0 + 1)) (fun j => 0 + s_sf (fun q => s_K (s_ps (g 20 0) (g 21) (g 22) (g 25)) 0 q j) (n - 1 - 0) (0 + 1))) u (fun _ _ => rfl) ?_
    refine w2_20 g u hn h6 hf (n - 1) 1 x _ _ (by omega) (fun x => ?_)
    have e := w4b_20 (s_H (g 20 0) (g 21) (g 22) (g 25) n g) u hn h6 x n 0 (by omega)
    rw [s_W4_0] at e
    obtain ⟨m, rfl⟩ : ∃ m, n = m + 1 := ⟨n - 1, by omega⟩
    simp only [Int32.zero_add]
    exact e
theorem w1_35 (g : qM) (u : qW) {Q : Option Value × qM × qW → Prop} {n : Nat} (hn : g 35 3 = Int32.ofNat n) (h6 : n ≤ 6) (hw : ¬ g 35 0 ≤ 0) : ∀ k i, i + k = n → q_EV m_58 64 [(0, .ref 28), (1, .ref 35), (2, .int (0 : Int32))] [] (s_W1 (g 35 0) (g 36) n g) u Q → q_EV m_58 2 [(0, .ref 28), (1, .ref 35), (2, .int (Int32.ofNat i))] [] (s_W1 (g 35 0) (g 36) i g) u Q := by
  intro k
  induction k with
  | zero =>
    intro i hi hE
    refine q_step 3 7 [(0, .ref 28), (1, .ref 35), (2, .int (Int32.ofNat i))] [.int (g 35 3), .int (Int32.ofNat i)] (s_W1 (g 35 0) (g 36) i g) u (fun _ _ => rfl) ?_
    refine q_ic_ge rfl (fun (hc0 : (g 35 3) ≤ (Int32.ofNat i)) => ?_) (fun hc0 => absurd (show (g 35 3) ≤ (Int32.ofNat i) from by rw [hn, q_le (by omega) (by omega)]; omega) hc0)
    refine q_step 2 64 [(0, .ref 28), (1, .ref 35), (2, .int (0 : Int32))] [] (s_W1 (g 35 0) (g 36) i g) u (fun _ _ => rfl) ?_
    have e : i = n := by omega
    subst e
    exact hE
  | succ k ih =>
    intro i hi hE
    refine q_step 3 7 [(0, .ref 28), (1, .ref 35), (2, .int (Int32.ofNat i))] [.int (g 35 3), .int (Int32.ofNat i)] (s_W1 (g 35 0) (g 36) i g) u (fun _ _ => rfl) ?_
    refine q_ic_ge rfl (fun hc0 => absurd (show (g 35 3) ≤ (Int32.ofNat i) from hc0) (fun z => by rw [hn, q_le (by omega) (by omega)] at z; omega)) (fun (hc0 : ¬ ((g 35 3) ≤ (Int32.ofNat i))) => ?_)
    refine q_step 7 21 [(0, .ref 28), (1, .ref 35), (2, .int (Int32.ofNat i))] [.int (Int32.ofNat i), .ref 36, .ref 35, .int (Int32.ofNat i), .ref 29] (s_W1 (g 35 0) (g 36) i g) u (fun _ _ => rfl) ?_
    refine q_iald (j := i) (q_ixn (by omega) (by omega)) rfl rfl ?_
    refine q_call (M2 := 59) (rest := [.int (Int32.ofNat i), .ref 29]) (b_col35 _ _ _ hw) (fun _ _ => rfl) ?_
    refine q_iast (j := i) (q_ixn (by omega) (by omega)) rfl rfl ?_
    refine q_step 7 37 [(0, .ref 28), (1, .ref 35), (2, .int (Int32.ofNat i))] [.int (Int32.ofNat i), .ref 36, .ref 35, .int (Int32.ofNat i), .ref 30] (q_up (s_W1 (g 35 0) (g 36) i g) 29 i (s_col (g 35 0) (g 36 i))) u (fun _ _ => rfl) ?_
    refine q_iald (j := i) (q_ixn (by omega) (by omega)) rfl rfl ?_
    refine q_call (M2 := 60) (rest := [.int (Int32.ofNat i), .ref 30]) (b_row35 _ _ _ hw) (fun _ _ => rfl) ?_
    refine q_iast (j := i) (q_ixn (by omega) (by omega)) rfl rfl ?_
    refine q_step 4 48 [(0, .ref 28), (1, .ref 35), (2, .int (Int32.ofNat i))] [.int (0 : Int32), .int (Int32.ofNat i), .ref 31] (q_up (q_up (s_W1 (g 35 0) (g 36) i g) 29 i (s_col (g 35 0) (g 36 i))) 30 i (s_row (g 35 0) (g 36 i))) u (fun _ _ => rfl) ?_
    refine q_iast (j := i) (q_ixn (by omega) (by omega)) rfl rfl ?_
    refine q_step 4 55 [(0, .ref 28), (1, .ref 35), (2, .int (Int32.ofNat i))] [.int (0 : Int32), .int (Int32.ofNat i), .ref 32] (q_up (q_up (q_up (s_W1 (g 35 0) (g 36) i g) 29 i (s_col (g 35 0) (g 36 i))) 30 i (s_row (g 35 0) (g 36 i))) 31 i (0 : Int32)) u (fun _ _ => rfl) ?_
    refine q_iast (j := i) (q_ixn (by omega) (by omega)) rfl rfl ?_
    refine q_step 2 2 [(0, .ref 28), (1, .ref 35), (2, .int ((Int32.ofNat i) + (1 : Int32)))] [] (q_up (q_up (q_up (q_up (s_W1 (g 35 0) (g 36) i g) 29 i (s_col (g 35 0) (g 36 i))) 30 i (s_row (g 35 0) (g 36 i))) 31 i (0 : Int32)) 32 i (0 : Int32)) u (fun _ _ => rfl) ?_
    rw [q_succ, s_W1_s]
    exact ih (i + 1) (by omega) hE
theorem w3_35 (g : qM) (u : qW) {Q : Option Value × qM × qW → Prop} {n : Nat} (hn : g 35 3 = Int32.ofNat n) (h6 : n ≤ 6) (hf : ∀ p q, p < n → q < n → 0 ≤ (s_far (g 35 0) ((g 36) p) ((g 36) q)).toInt) {p : Nat} (hp : p < n) : ∀ k q (A B : Nat → Int32), q + k = n → p < q → (∀ x, q_EV m_58 115 [(0, .ref 28), (1, .ref 35), (2, .int (Int32.ofNat p)), (3, .int x)] [] (s_acc (s_W1 (g 35 0) (g 36) n g) (fun j => A j + s_sf (fun q => s_K (s_pe (g 35 0) (g 36) (g 37) (g 40)) p q j) k q) (fun j => B j + s_sf (fun q => s_K (s_ps (g 35 0) (g 36) (g 37) (g 40)) p q j) k q)) u Q) → q_EV m_58 76 [(0, .ref 28), (1, .ref 35), (2, .int (Int32.ofNat p)), (3, .int (Int32.ofNat q))] [] (s_acc (s_W1 (g 35 0) (g 36) n g) A B) u Q := by
  intro k
  induction k with
  | zero =>
    intro q A B hq hpq hE
    refine q_step 3 81 [(0, .ref 28), (1, .ref 35), (2, .int (Int32.ofNat p)), (3, .int (Int32.ofNat q))] [.int (g 35 3), .int (Int32.ofNat q)] (s_acc (s_W1 (g 35 0) (g 36) n g) A B) u (fun _ _ => rfl) ?_
    refine q_ic_ge rfl (fun (hc0 : (g 35 3) ≤ (Int32.ofNat q)) => ?_) (fun hc0 => absurd (show (g 35 3) ≤ (Int32.ofNat q) from by rw [hn, q_le (by omega) (by omega)]; omega) hc0)
    have e := hE (Int32.ofNat q)
    simp only [s_sf, Int32.add_zero] at e
    exact e
  | succ k ih =>
    intro q A B hq hpq hE
    refine q_step 3 81 [(0, .ref 28), (1, .ref 35), (2, .int (Int32.ofNat p)), (3, .int (Int32.ofNat q))] [.int (g 35 3), .int (Int32.ofNat q)] (s_acc (s_W1 (g 35 0) (g 36) n g) A B) u (fun _ _ => rfl) ?_
    refine q_ic_ge rfl (fun hc0 => absurd (show (g 35 3) ≤ (Int32.ofNat q) from hc0) (fun z => by rw [hn, q_le (by omega) (by omega)] at z; omega)) (fun (hc0 : ¬ ((g 35 3) ≤ (Int32.ofNat q))) => ?_)
    refine q_step 3 89 [(0, .ref 28), (1, .ref 35), (2, .int (Int32.ofNat p)), (3, .int (Int32.ofNat q))] [.int (Int32.ofNat p), .ref 37] (s_acc (s_W1 (g 35 0) (g 36) n g) A B) u (fun _ _ => rfl) ?_
    refine q_iald (j := p) (q_ixn (by omega) (by omega)) rfl rfl ?_
    refine q_if_eq rfl (fun (hc1 : (g 37 p) = 0) => ?_) (fun (hc1 : ¬ ((g 37 p) = 0)) => ?_)
    · have e := hE (Int32.ofNat q)
      rw [show (fun j => A j + s_sf (fun q => s_K (s_pe (g 35 0) (g 36) (g 37) (g 40)) p q j) (k + 1) q) = A from funext fun j => by rw [s_sf_0 (fun q => s_K_0 (by unfold s_pe; rw [s_str_p hc1, Int32.zero_mul])), Int32.add_zero], show (fun j => B j + s_sf (fun q => s_K (s_ps (g 35 0) (g 36) (g 37) (g 40)) p q j) (k + 1) q) = B from funext fun j => by rw [s_sf_0 (fun q => s_K_0 (by unfold s_ps; rw [s_str_p hc1, Int32.zero_mul])), Int32.add_zero]] at e
      exact e
    · refine q_step 3 98 [(0, .ref 28), (1, .ref 35), (2, .int (Int32.ofNat p)), (3, .int (Int32.ofNat q))] [.int (Int32.ofNat q), .ref 37] (s_acc (s_W1 (g 35 0) (g 36) n g) A B) u (fun _ _ => rfl) ?_
      refine q_iald (j := q) (q_ixn (by omega) (by omega)) rfl rfl ?_
      refine q_if_eq rfl (fun (hc2 : (g 37 q) = 0) => ?_) (fun (hc2 : ¬ ((g 37 q) = 0)) => ?_)
      · refine q_step 2 76 [(0, .ref 28), (1, .ref 35), (2, .int (Int32.ofNat p)), (3, .int ((Int32.ofNat q) + (1 : Int32)))] [] (s_acc (s_W1 (g 35 0) (g 36) n g) A B) u (fun _ _ => rfl) ?_
        rw [q_succ]
        refine ih (q + 1) A B (by omega) (by omega) (fun x => ?_)
        have e := hE x
        rw [show (fun j => A j + s_sf (fun q => s_K (s_pe (g 35 0) (g 36) (g 37) (g 40)) p q j) (k + 1) q) = fun j => A j + s_sf (fun q => s_K (s_pe (g 35 0) (g 36) (g 37) (g 40)) p q j) k (q + 1) from funext fun j => by rw [s_sf, s_K_0 (by unfold s_pe; rw [s_str_q hc2, Int32.zero_mul]), Int32.zero_add], show (fun j => B j + s_sf (fun q => s_K (s_ps (g 35 0) (g 36) (g 37) (g 40)) p q j) (k + 1) q) = fun j => B j + s_sf (fun q => s_K (s_ps (g 35 0) (g 36) (g 37) (g 40)) p q j) k (q + 1) from funext fun j => by rw [s_sf, s_K_0 (by unfold s_ps; rw [s_str_q hc2, Int32.zero_mul]), Int32.zero_add]] at e
        exact e
      · refine q_step 4 106 [(0, .ref 28), (1, .ref 35), (2, .int (Int32.ofNat p)), (3, .int (Int32.ofNat q))] [.int (Int32.ofNat q), .int (Int32.ofNat p), .ref 35, .ref 28] (s_acc (s_W1 (g 35 0) (g 36) n g) A B) u (fun _ _ => rfl) ?_
        have hb : q_BS 61 [.ref 28, .ref 35, .int (Int32.ofNat p), .int (Int32.ofNat q)] (s_acc (s_W1 (g 35 0) (g 36) n g) A B) u (none, s_acc (s_W1 (g 35 0) (g 36) n g) (fun j => A j + s_K (s_pe (g 35 0) (g 36) (g 37) (g 40)) p q j) (fun j => B j + s_K (s_ps (g 35 0) (g 36) (g 37) (g 40)) p q j), u) := by
          have e1 : ∀ j, j < n → (s_acc (s_W1 (g 35 0) (g 36) n g) A B) 29 j = s_col (g 35 0) ((g 36) j) := fun j hj => if_pos hj
          have e2 : ∀ j, j < n → (s_acc (s_W1 (g 35 0) (g 36) n g) A B) 30 j = s_row (g 35 0) ((g 36) j) := fun j hj => if_pos hj
          have h := b_wp35 (p := p) (q := q) (s_acc (s_W1 (g 35 0) (g 36) n g) A B) u (by omega) (by omega) (by omega) (by rw [e1 p (by omega), e1 q (by omega), e2 p (by omega), e2 q (by omega)]; exact hf p q (by omega) (by omega))
          rw [show s_wpm ((s_acc (s_W1 (g 35 0) (g 36) n g) A B) 37) ((s_acc (s_W1 (g 35 0) (g 36) n g) A B) 40) (s_acc (s_W1 (g 35 0) (g 36) n g) A B) p q = _ from s_wp_acc (mo := (g 37)) (pl := (g 40)) (by omega) (by omega) hc1 hc2] at h
          exact h
        refine q_call (M2 := 61) (rest := []) (hb) (fun _ _ => rfl) ?_
        refine q_step 2 76 [(0, .ref 28), (1, .ref 35), (2, .int (Int32.ofNat p)), (3, .int ((Int32.ofNat q) + (1 : Int32)))] [] (s_acc (s_W1 (g 35 0) (g 36) n g) (fun j => A j + s_K (s_pe (g 35 0) (g 36) (g 37) (g 40)) p q j) (fun j => B j + s_K (s_ps (g 35 0) (g 36) (g 37) (g 40)) p q j)) u (fun _ _ => rfl) ?_
        rw [q_succ]
        refine ih (q + 1) _ _ (by omega) (by omega) (fun x => ?_)
        have e := hE x
        simp only [s_sf, ← Int32.add_assoc] at e
        exact e
theorem w2_35 (g : qM) (u : qW) {Q : Option Value × qM × qW → Prop} {n : Nat} (hn : g 35 3 = Int32.ofNat n) (h6 : n ≤ 6) (hf : ∀ p q, p < n → q < n → 0 ≤ (s_far (g 35 0) ((g 36) p) ((g 36) q)).toInt) : ∀ k p x (A B : Nat → Int32), p + k = n → (∀ x, q_EV m_58 123 [(0, .ref 28), (1, .ref 35), (2, .int (0 : Int32)), (3, .int x)] [] (s_acc (s_W1 (g 35 0) (g 36) n g) (fun j => A j + s_sf (fun p => s_sf (fun q => s_K (s_pe (g 35 0) (g 36) (g 37) (g 40)) p q j) (n - 1 - p) (p + 1)) k p) (fun j => B j + s_sf (fun p => s_sf (fun q => s_K (s_ps (g 35 0) (g 36) (g 37) (g 40)) p q j) (n - 1 - p) (p + 1)) k p)) u Q) → q_EV m_58 64 [(0, .ref 28), (1, .ref 35), (2, .int (Int32.ofNat p)), (3, .int x)] [] (s_acc (s_W1 (g 35 0) (g 36) n g) A B) u Q := by
  intro k
  induction k with
  | zero =>
    intro p x A B hp hE
    refine q_step 3 69 [(0, .ref 28), (1, .ref 35), (2, .int (Int32.ofNat p)), (3, .int x)] [.int (g 35 3), .int (Int32.ofNat p)] (s_acc (s_W1 (g 35 0) (g 36) n g) A B) u (fun _ _ => rfl) ?_
    refine q_ic_ge rfl (fun (hc0 : (g 35 3) ≤ (Int32.ofNat p)) => ?_) (fun hc0 => absurd (show (g 35 3) ≤ (Int32.ofNat p) from by rw [hn, q_le (by omega) (by omega)]; omega) hc0)
    refine q_step 2 123 [(0, .ref 28), (1, .ref 35), (2, .int (0 : Int32)), (3, .int x)] [] (s_acc (s_W1 (g 35 0) (g 36) n g) A B) u (fun _ _ => rfl) ?_
    have e := hE x
    simp only [s_sf, Int32.add_zero] at e
    exact e
  | succ k ih =>
    intro p x A B hp hE
    refine q_step 3 69 [(0, .ref 28), (1, .ref 35), (2, .int (Int32.ofNat p)), (3, .int x)] [.int (g 35 3), .int (Int32.ofNat p)] (s_acc (s_W1 (g 35 0) (g 36) n g) A B) u (fun _ _ => rfl) ?_
    refine q_ic_ge rfl (fun hc0 => absurd (show (g 35 3) ≤ (Int32.ofNat p) from hc0) (fun z => by rw [hn, q_le (by omega) (by omega)] at z; omega)) (fun (hc0 : ¬ ((g 35 3) ≤ (Int32.ofNat p))) => ?_)
    refine q_step 4 76 [(0, .ref 28), (1, .ref 35), (2, .int (Int32.ofNat p)), (3, .int ((Int32.ofNat p) + (1 : Int32)))] [] (s_acc (s_W1 (g 35 0) (g 36) n g) A B) u (fun _ _ => rfl) ?_
    rw [q_succ]
    refine w3_35 g u hn h6 hf (p := p) (by omega) (n - 1 - p) (p + 1) A B (by omega) (by omega) (fun x => ?_)
    refine q_step 2 64 [(0, .ref 28), (1, .ref 35), (2, .int ((Int32.ofNat p) + (1 : Int32))), (3, .int x)] [] (s_acc (s_W1 (g 35 0) (g 36) n g) (fun j => A j + s_sf (fun q => s_K (s_pe (g 35 0) (g 36) (g 37) (g 40)) p q j) (n - 1 - p) (p + 1)) (fun j => B j + s_sf (fun q => s_K (s_ps (g 35 0) (g 36) (g 37) (g 40)) p q j) (n - 1 - p) (p + 1))) u (fun _ _ => rfl) ?_
    rw [q_succ]
    refine ih (p + 1) x _ _ (by omega) (fun x => ?_)
    have e := hE x
    simp only [s_sf, ← Int32.add_assoc] at e
    exact e
theorem w4a_35 (H : qM) (u : qW) {n : Nat} (hn : H 35 3 = Int32.ofNat n) (h6 : n ≤ 6) : ∀ k i, i + k = n → q_EV m_58 123 [(0, .ref 28), (1, .ref 35), (2, .int (Int32.ofNat i))] [] (s_W4 (s_wf (H 38) H) i H) u (fun R => R = (none, s_W4 (s_wf (H 38) H) n H, u)) := by
  intro k
  induction k with
  | zero =>
    intro i hi
    refine q_step 3 128 [(0, .ref 28), (1, .ref 35), (2, .int (Int32.ofNat i))] [.int (H 35 3), .int (Int32.ofNat i)] (s_W4 (s_wf (H 38) H) i H) u (fun _ _ => rfl) ?_
    refine q_ic_ge rfl (fun (hc0 : (H 35 3) ≤ (Int32.ofNat i)) => ?_) (fun hc0 => absurd (show (H 35 3) ≤ (Int32.ofNat i) from by rw [hn, q_le (by omega) (by omega)]; omega) hc0)
    refine q_ret 1 (none, (s_W4 (s_wf (H 38) H) i H), u) (fun _ _ => rfl) ?_
    have e : i = n := by omega
    subst e
    rfl
  | succ k ih =>
    intro i hi
    refine q_step 3 128 [(0, .ref 28), (1, .ref 35), (2, .int (Int32.ofNat i))] [.int (H 35 3), .int (Int32.ofNat i)] (s_W4 (s_wf (H 38) H) i H) u (fun _ _ => rfl) ?_
    refine q_ic_ge rfl (fun hc0 => absurd (show (H 35 3) ≤ (Int32.ofNat i) from hc0) (fun z => by rw [hn, q_le (by omega) (by omega)] at z; omega)) (fun (hc0 : ¬ ((H 35 3) ≤ (Int32.ofNat i))) => ?_)
    refine q_step 6 141 [(0, .ref 28), (1, .ref 35), (2, .int (Int32.ofNat i))] [.int (Int32.ofNat i), .ref 38, .int (Int32.ofNat i), .ref 33] (s_W4 (s_wf (H 38) H) i H) u (fun _ _ => rfl) ?_
    refine q_iald (j := i) (q_ixn (by omega) (by omega)) rfl rfl ?_
    refine q_if_eq rfl (fun (hc1 : (H 38 i) = 0) => ?_) (fun (hc1 : ¬ ((H 38 i) = 0)) => ?_)
    · refine q_step 3 154 [(0, .ref 28), (1, .ref 35), (2, .int (Int32.ofNat i))] [.int (Int32.ofNat i), .ref 31, .int (Int32.ofNat i), .ref 33] (s_W4 (s_wf (H 38) H) i H) u (fun _ _ => rfl) ?_
      refine q_iald (j := i) (q_ixn (by omega) (by omega)) rfl rfl ?_
      refine q_step 3 160 [(0, .ref 28), (1, .ref 35), (2, .int (Int32.ofNat i))] [.int (Int32.ofNat i), .ref 32, .int (H 31 i), .int (Int32.ofNat i), .ref 33] (s_W4 (s_wf (H 38) H) i H) u (fun _ _ => rfl) ?_
      refine q_iald (j := i) (q_ixn (by omega) (by omega)) rfl rfl ?_
      refine q_call (M2 := 64) (rest := [.int (Int32.ofNat i), .ref 33]) (b_wayBy _ _ _ _) (fun _ _ => rfl) ?_
      refine q_iast (j := i) (q_ixn (by omega) (by omega)) rfl rfl ?_
      refine q_step 2 123 [(0, .ref 28), (1, .ref 35), (2, .int ((Int32.ofNat i) + (1 : Int32)))] [] (q_up (s_W4 (s_wf (H 38) H) i H) 33 i (s_way (H 31 i) (H 32 i))) u (fun _ _ => rfl) ?_
      rw [q_succ, show (s_way (H 31 i) (H 32 i)) = (s_wf (H 38) H) i from (if_pos hc1).symm, s_W4_s]
      exact ih (i + 1) (by omega)
    · refine q_step 2 164 [(0, .ref 28), (1, .ref 35), (2, .int (Int32.ofNat i))] [.int (4 : Int32), .int (Int32.ofNat i), .ref 33] (s_W4 (s_wf (H 38) H) i H) u (fun _ _ => rfl) ?_
      refine q_iast (j := i) (q_ixn (by omega) (by omega)) rfl rfl ?_
      refine q_step 2 123 [(0, .ref 28), (1, .ref 35), (2, .int ((Int32.ofNat i) + (1 : Int32)))] [] (q_up (s_W4 (s_wf (H 38) H) i H) 33 i (4 : Int32)) u (fun _ _ => rfl) ?_
      rw [q_succ, show (4 : Int32) = (s_wf (H 38) H) i from (if_neg hc1).symm, s_W4_s]
      exact ih (i + 1) (by omega)
theorem w4b_35 (H : qM) (u : qW) {n : Nat} (hn : H 35 3 = Int32.ofNat n) (h6 : n ≤ 6) (x : Int32) : ∀ k i, i + k = n → q_EV m_58 123 [(0, .ref 28), (1, .ref 35), (2, .int (Int32.ofNat i)), (3, .int x)] [] (s_W4 (s_wf (H 38) H) i H) u (fun R => R = (none, s_W4 (s_wf (H 38) H) n H, u)) := by
  intro k
  induction k with
  | zero =>
    intro i hi
    refine q_step 3 128 [(0, .ref 28), (1, .ref 35), (2, .int (Int32.ofNat i)), (3, .int x)] [.int (H 35 3), .int (Int32.ofNat i)] (s_W4 (s_wf (H 38) H) i H) u (fun _ _ => rfl) ?_
    refine q_ic_ge rfl (fun (hc0 : (H 35 3) ≤ (Int32.ofNat i)) => ?_) (fun hc0 => absurd (show (H 35 3) ≤ (Int32.ofNat i) from by rw [hn, q_le (by omega) (by omega)]; omega) hc0)
    refine q_ret 1 (none, (s_W4 (s_wf (H 38) H) i H), u) (fun _ _ => rfl) ?_
    have e : i = n := by omega
    subst e
    rfl
  | succ k ih =>
    intro i hi
    refine q_step 3 128 [(0, .ref 28), (1, .ref 35), (2, .int (Int32.ofNat i)), (3, .int x)] [.int (H 35 3), .int (Int32.ofNat i)] (s_W4 (s_wf (H 38) H) i H) u (fun _ _ => rfl) ?_
    refine q_ic_ge rfl (fun hc0 => absurd (show (H 35 3) ≤ (Int32.ofNat i) from hc0) (fun z => by rw [hn, q_le (by omega) (by omega)] at z; omega)) (fun (hc0 : ¬ ((H 35 3) ≤ (Int32.ofNat i))) => ?_)
    refine q_step 6 141 [(0, .ref 28), (1, .ref 35), (2, .int (Int32.ofNat i)), (3, .int x)] [.int (Int32.ofNat i), .ref 38, .int (Int32.ofNat i), .ref 33] (s_W4 (s_wf (H 38) H) i H) u (fun _ _ => rfl) ?_
    refine q_iald (j := i) (q_ixn (by omega) (by omega)) rfl rfl ?_
    refine q_if_eq rfl (fun (hc1 : (H 38 i) = 0) => ?_) (fun (hc1 : ¬ ((H 38 i) = 0)) => ?_)
    · refine q_step 3 154 [(0, .ref 28), (1, .ref 35), (2, .int (Int32.ofNat i)), (3, .int x)] [.int (Int32.ofNat i), .ref 31, .int (Int32.ofNat i), .ref 33] (s_W4 (s_wf (H 38) H) i H) u (fun _ _ => rfl) ?_
      refine q_iald (j := i) (q_ixn (by omega) (by omega)) rfl rfl ?_
      refine q_step 3 160 [(0, .ref 28), (1, .ref 35), (2, .int (Int32.ofNat i)), (3, .int x)] [.int (Int32.ofNat i), .ref 32, .int (H 31 i), .int (Int32.ofNat i), .ref 33] (s_W4 (s_wf (H 38) H) i H) u (fun _ _ => rfl) ?_
      refine q_iald (j := i) (q_ixn (by omega) (by omega)) rfl rfl ?_
      refine q_call (M2 := 64) (rest := [.int (Int32.ofNat i), .ref 33]) (b_wayBy _ _ _ _) (fun _ _ => rfl) ?_
      refine q_iast (j := i) (q_ixn (by omega) (by omega)) rfl rfl ?_
      refine q_step 2 123 [(0, .ref 28), (1, .ref 35), (2, .int ((Int32.ofNat i) + (1 : Int32))), (3, .int x)] [] (q_up (s_W4 (s_wf (H 38) H) i H) 33 i (s_way (H 31 i) (H 32 i))) u (fun _ _ => rfl) ?_
      rw [q_succ, show (s_way (H 31 i) (H 32 i)) = (s_wf (H 38) H) i from (if_pos hc1).symm, s_W4_s]
      exact ih (i + 1) (by omega)
    · refine q_step 2 164 [(0, .ref 28), (1, .ref 35), (2, .int (Int32.ofNat i)), (3, .int x)] [.int (4 : Int32), .int (Int32.ofNat i), .ref 33] (s_W4 (s_wf (H 38) H) i H) u (fun _ _ => rfl) ?_
      refine q_iast (j := i) (q_ixn (by omega) (by omega)) rfl rfl ?_
      refine q_step 2 123 [(0, .ref 28), (1, .ref 35), (2, .int ((Int32.ofNat i) + (1 : Int32))), (3, .int x)] [] (q_up (s_W4 (s_wf (H 38) H) i H) 33 i (4 : Int32)) u (fun _ _ => rfl) ?_
      rw [q_succ, show (4 : Int32) = (s_wf (H 38) H) i from (if_neg hc1).symm, s_W4_s]
      exact ih (i + 1) (by omega)
theorem b_weigh35 (g : qM) (u : qW) {n : Nat} (hn : g 35 3 = Int32.ofNat n) (h6 : n ≤ 6) (hw : ¬ g 35 0 ≤ 0) (hf : ∀ p q, p < n → q < n → 0 ≤ (s_far (g 35 0) ((g 36) p) ((g 36) q)).toInt) : q_BS 58 [.ref 28, .ref 35] g u (none, s_weigh (g 35 0) (g 36) (g 37) (g 38) (g 40) n g, u) := by
  refine q_bx (mm := m_58) rfl (Nat.le_of_ble_eq_true rfl) rfl ?_
  refine q_step 2 2 [(0, .ref 28), (1, .ref 35), (2, .int (0 : Int32))] [] g u (fun _ _ => rfl) ?_
  suffices hE : q_EV m_58 64 [(0, .ref 28), (1, .ref 35), (2, .int (0 : Int32))] [] (s_W1 (g 35 0) (g 36) n g) u (fun R' => R' = (none, s_weigh (g 35 0) (g 36) (g 37) (g 38) (g 40) n g, u)) by
    have key := w1_35 g u hn h6 hw n 0 (by omega) hE
    rw [s_W1_0] at key
    exact key
  by_cases h0 : n = 0
  · refine q_step 3 69 [(0, .ref 28), (1, .ref 35), (2, .int (0 : Int32))] [.int (g 35 3), .int (0 : Int32)] (s_W1 (g 35 0) (g 36) n g) u (fun _ _ => rfl) ?_
    refine q_ic_ge rfl (fun (hc0 : (g 35 3) ≤ (0 : Int32)) => ?_) (fun hc0 => absurd (show (g 35 3) ≤ (0 : Int32) from by rw [hn, h0]; decide) hc0)
    refine q_step 2 123 [(0, .ref 28), (1, .ref 35), (2, .int (0 : Int32))] [] (s_W1 (g 35 0) (g 36) n g) u (fun _ _ => rfl) ?_
    have e := w4a_35 (s_H (g 35 0) (g 36) (g 37) (g 40) n g) u hn h6 n 0 (by omega)
    rw [s_W4_0] at e
    subst h0
    have e2 : s_H (g 35 0) (g 36) (g 37) (g 40) 0 g = s_W1 (g 35 0) (g 36) 0 g := s_acc_0 _
    rw [← e2]
    exact e
  · refine q_step 3 69 [(0, .ref 28), (1, .ref 35), (2, .int (0 : Int32))] [.int (g 35 3), .int (0 : Int32)] (s_W1 (g 35 0) (g 36) n g) u (fun _ _ => rfl) ?_
    refine q_ic_ge rfl (fun hc0 => absurd (show (g 35 3) ≤ (0 : Int32) from hc0) (fun z => by rw [hn] at z; have z2 := (q_le (i := n) (j := 0) (by omega) (by omega)).mp z; omega)) (fun (hc0 : ¬ ((g 35 3) ≤ (0 : Int32))) => ?_)
    refine q_step 4 76 [(0, .ref 28), (1, .ref 35), (2, .int (0 : Int32)), (3, .int (1 : Int32))] [] (s_W1 (g 35 0) (g 36) n g) u (fun _ _ => rfl) ?_
    rw [← s_acc_0 (s_W1 (g 35 0) (g 36) n g)]
    refine w3_35 g u hn h6 hf (p := 0) (by omega) (n - 1 - 0) (0 + 1) (fun _ => 0) (fun _ => 0) (by omega) (by omega) (fun x => ?_)
    refine q_step 2 64 [(0, .ref 28), (1, .ref 35), (2, .int (1 : Int32)), (3, .int x)] [] (s_acc (s_W1 (g 35 0) (g 36) n g) (fun j => 0 + s_sf (fun q => s_K (s_pe (g 35 0) (g 36) (g 37) (g 40)) 0 q j) (n - 1 - 0) (0 + 1)) (fun j => 0 + s_sf (fun q => s_K (s_ps (g 35 0) (g 36) (g 37) (g 40)) 0 q j) (n - 1 - 0) (0 + 1))) u (fun _ _ => rfl) ?_
    refine w2_35 g u hn h6 hf (n - 1) 1 x _ _ (by omega) (fun x => ?_)
    have e := w4b_35 (s_H (g 35 0) (g 36) (g 37) (g 40) n g) u hn h6 x n 0 (by omega)
    rw [s_W4_0] at e
    obtain ⟨m, rfl⟩ : ∃ m, n = m + 1 := ⟨n - 1, by omega⟩
    simp only [Int32.zero_add]
    exact e
end
