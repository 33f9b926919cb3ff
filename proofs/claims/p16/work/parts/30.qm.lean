/-! THE MEMORY MACHINE: what the cells hold, as a function of address and place; their shapes are fixed. -/
abbrev qM : Type := Nat → Nat → Int32
abbrev qW : Type := Nat → Int64
abbrev qR : Type := Option (Option Value × qM × qW)
abbrev qK : Type := Nat → pm_L → List Value → qM → qW → qR
/-- a cell's shape: a row of ints (kind, length), the row of longs, a row of references, an object -/
abbrev qC : Type := (Nat × Nat) ⊕ (Nat ⊕ ((Nat × List Nat) ⊕ (Nat × List (Option Nat))))
def q_t0 : List qC := [.inr (.inr (.inr (6, [some 9, some 11, some 20, some 28, some 34, some 44, some 61, none, none]))), .inr (.inr (.inr (2, [some 10, none, none, none, none, none]))), .inl (1, 160), .inr (.inr (.inr (3, [some 12, none, none, none, some 9, none, none, none]))), .inr (.inr (.inr (4, [none, none, none, none, none, none, none, some 13, some 14, some 15, some 16, some 17, some 18, some 19]))), .inl (0, 6), .inl (0, 6), .inl (0, 6)]
def q_t1 : List qC := [.inl (0, 6), .inl (0, 5), .inl (0, 8), .inl (0, 8), .inr (.inr (.inr (4, [none, none, none, none, none, none, none, some 21, some 22, some 23, some 24, some 25, some 26, some 27]))), .inl (0, 6), .inl (0, 6), .inl (0, 6)]
def q_t2 : List qC := [.inl (0, 6), .inl (0, 5), .inl (0, 8), .inl (0, 8), .inr (.inr (.inr (5, [some 29, some 30, some 31, some 32, some 33, none, none]))), .inl (0, 6), .inl (0, 6), .inl (0, 6)]
def q_t3 : List qC := [.inl (0, 6), .inl (0, 6), .inr (.inr (.inr (0, [some 28, some 35, some 43]))), .inr (.inr (.inr (4, [none, none, none, none, none, none, none, some 36, some 37, some 38, some 39, some 40, some 41, some 42]))), .inl (0, 6), .inl (0, 6), .inl (0, 6), .inl (0, 6)]
def q_t4 : List qC := [.inl (0, 5), .inl (0, 8), .inl (0, 8), .inr (.inl 61), .inr (.inr (.inl (4, [45, 53]))), .inr (.inr (.inr (4, [none, none, none, none, none, none, none, some 46, some 47, some 48, some 49, some 50, some 51, some 52]))), .inl (0, 6), .inl (0, 6)]
def q_t5 : List qC := [.inl (0, 6), .inl (0, 6), .inl (0, 5), .inl (0, 8), .inl (0, 8), .inr (.inr (.inr (4, [none, none, none, none, none, none, none, some 54, some 55, some 56, some 57, some 58, some 59, some 60]))), .inl (0, 6), .inl (0, 6)]
def q_t6 : List qC := [.inl (0, 6), .inl (0, 6), .inl (0, 5), .inl (0, 8), .inl (0, 8), .inr (.inr (.inl (5, [62, 64, 66, 68]))), .inr (.inr (.inr (1, [some 63, none, none]))), .inl (0, 40)]
def q_t7 : List qC := [.inr (.inr (.inr (1, [some 65, none, none]))), .inl (0, 40), .inr (.inr (.inr (1, [some 67, none, none]))), .inl (0, 40), .inr (.inr (.inr (1, [some 69, none, none]))), .inl (0, 40), .inr (.inr (.inr (7, [some 71, some 72, none, none, none, some 73, none, none, none, none, none, none, some 74, none, none, none, none, none, none, none, some 75, some 76, some 77, some 78, some 79, some 80, some 81, none, some 82, some 83, some 84, some 85, some 86, none, some 87]))), .inl (0, 132)]
def q_t8 : List qC := [.inl (2, 2), .inl (0, 44), .inl (0, 160), .inl (0, 6), .inl (0, 6), .inl (0, 6), .inl (0, 6), .inl (0, 6)]
def q_t9 : List qC := [.inl (0, 6), .inl (0, 6), .inl (0, 61), .inl (0, 61), .inl (0, 4), .inl (0, 4), .inl (0, 160), .inl (0, 5)]
def q_tab : List (List qC) := [q_t0, q_t1, q_t2, q_t3, q_t4, q_t5, q_t6, q_t7, q_t8, q_t9]
def q_sh (a : Nat) : Option qC := match Nat.ble 8 a with
  | true => (match q_tab[(a - 8) / 8]? with
    | some l => l[(a - 8) % 8]?
    | none => none)
  | false => none
def q_up (g : qM) (a j : Nat) (x : Int32) : qM := fun b i => match Nat.beq b a && Nat.beq i j with
  | true => x
  | false => g b i
def q_uw (u : qW) (j : Nat) (x : Int64) : qW := fun i => match Nat.beq i j with
  | true => x
  | false => u i
def q_fs (f : Nat → Int32) : List (Option Nat) → Nat → List Value
  | [], _ => []
  | none :: r, j => .int (f j) :: q_fs f r (j + 1)
  | some a :: r, j => .ref a :: q_fs f r (j + 1)
def q_cel (g : qM) (u : qW) (a : Nat) : Option pm_C := match q_sh a with
  | some (.inl (t, n)) => some (.inl (t, (List.range n).map (g a)))
  | some (.inr (.inl n)) => some (.inr (.inl (3, (List.range n).map u)))
  | some (.inr (.inr (.inl (t, l)))) => some (.inr (.inr (.inl (t, l.map some))))
  | some (.inr (.inr (.inr (ci, fs)))) => some (.inr (.inr (.inr (ci, q_fs (g a) fs 0))))
  | none => none
def q_rep (g : qM) (u : qW) (h : pm_H) : Prop := ∀ a, pm_cell h a = q_cel g u a
def q_S (kq : qK) (kp : pm_K) : Prop := ∀ pc lv st g u h R, q_rep g u h → kq pc lv st g u = some R → ∃ h', kp pc lv st h 0 0 = some (R.1, h') ∧ q_rep R.2.1 R.2.2 h'
theorem q_up_ne {g : qM} {a b j : Nat} {x : Int32} (h : b ≠ a) : q_up g a j x b = g b := by
  funext i
  unfold q_up
  cases e : Nat.beq b a with
  | true => exact absurd (Nat.eq_of_beq_eq_true e) h
  | false => rfl
theorem q_up_at {g : qM} {a j i : Nat} {x : Int32} : q_up g a j x a i = if i = j then x else g a i := by
  unfold q_up
  rw [Nat.beq_refl]
  cases e : Nat.beq i j with
  | true => rw [if_pos (Nat.eq_of_beq_eq_true e)]; rfl
  | false => rw [if_neg (fun q => by rw [q, Nat.beq_refl] at e; cases e)]; rfl
theorem q_map_set {α : Type} (f f' : Nat → α) (n j : Nat) (x : α) (h1 : f' j = x) (h2 : ∀ i, i ≠ j → f' i = f i) : (List.range n).map f' = ((List.range n).map f).set j x := by
  apply List.ext_getElem?
  intro i
  by_cases e : j = i
  · subst e
    by_cases hj : j < n
    · rw [List.getElem?_set_self (by rw [List.length_map, List.length_range]; exact hj), List.getElem?_map, List.getElem?_range hj]
      exact congrArg some h1
    · rw [List.getElem?_eq_none (by rw [List.length_map, List.length_range]; omega), List.getElem?_eq_none (by rw [List.length_set, List.length_map, List.length_range]; omega)]
  · rw [List.getElem?_set_ne e, List.getElem?_map, List.getElem?_map]
    by_cases hi : i < n
    · rw [List.getElem?_range hi]
      exact congrArg some (h2 i (Ne.symm e))
    · rw [List.getElem?_eq_none (by rw [List.length_range]; omega)]
      rfl
theorem q_map_get {α : Type} {f : Nat → α} {n j : Nat} (h : j < n) : ((List.range n).map f)[j]? = some (f j) := by
  rw [List.getElem?_map, List.getElem?_range h]
  rfl
theorem q_fs_get {f : Nat → Int32} : ∀ {fs : List (Option Nat)} {j i : Nat} {c : Option Nat}, fs[i]? = some c → (q_fs f fs j)[i]? = some (match c with
  | none => .int (f (j + i))
  | some a => .ref a)
  | [], _, _, _, h => by simp at h
  | none :: r, j, 0, _, h => by cases h; rfl
  | some a :: r, j, 0, _, h => by cases h; rfl
  | none :: r, j, i + 1, c, h => by
    have := q_fs_get (f := f) (j := j + 1) (i := i) (c := c) (fs := r) h
    rw [show j + 1 + i = j + (i + 1) by omega] at this
    exact this
  | some a :: r, j, i + 1, c, h => by
    have := q_fs_get (f := f) (j := j + 1) (i := i) (c := c) (fs := r) h
    rw [show j + 1 + i = j + (i + 1) by omega] at this
    exact this
theorem q_fs_len {f : Nat → Int32} : ∀ {fs : List (Option Nat)} {j : Nat}, (q_fs f fs j).length = fs.length
  | [], _ => rfl
  | none :: r, j => by show (q_fs f r (j + 1)).length + 1 = r.length + 1; rw [q_fs_len]
  | some a :: r, j => by show (q_fs f r (j + 1)).length + 1 = r.length + 1; rw [q_fs_len]
theorem q_fs_set {f f' : Nat → Int32} : ∀ {fs : List (Option Nat)} {j i : Nat} {x : Int32}, fs[i]? = some none → f' (j + i) = x → (∀ k, k ≠ j + i → f' k = f k) → q_fs f' fs j = (q_fs f fs j).set i (.int x)
  | [], _, _, _, h, _, _ => by simp at h
  | none :: r, j, 0, x, _, h1, h2 => by
    show Value.int (f' j) :: q_fs f' r (j + 1) = .int x :: q_fs f r (j + 1)
    rw [show f' j = x from h1, q_fs_cg (fun k hk => h2 k (by omega))]
  | some a :: r, j, 0, _, h, _, _ => by cases h
  | none :: r, j, i + 1, x, h, h1, h2 => by
    show Value.int (f' j) :: q_fs f' r (j + 1) = .int (f j) :: (q_fs f r (j + 1)).set i (.int x)
    rw [h2 j (by omega), q_fs_set (f := f) (i := i) (x := x) h (by rw [show j + 1 + i = j + (i + 1) by omega]; exact h1) (fun k hk => h2 k (by omega))]
  | some a :: r, j, i + 1, x, h, h1, h2 => by
    show Value.ref a :: q_fs f' r (j + 1) = .ref a :: (q_fs f r (j + 1)).set i (.int x)
    rw [q_fs_set (f := f) (i := i) (x := x) h (by rw [show j + 1 + i = j + (i + 1) by omega]; exact h1) (fun k hk => h2 k (by omega))]
where q_fs_cg {f f' : Nat → Int32} : ∀ {fs : List (Option Nat)} {j : Nat}, (∀ k, j ≤ k → f' k = f k) → q_fs f' fs j = q_fs f fs j
  | [], _, _ => rfl
  | none :: r, j, h => by show Value.int (f' j) :: q_fs f' r (j + 1) = .int (f j) :: q_fs f r (j + 1); rw [h j (Nat.le_refl _), q_fs_cg (fun k hk => h k (by omega))]
  | some a :: r, j, h => by show Value.ref a :: q_fs f' r (j + 1) = .ref a :: q_fs f r (j + 1); rw [q_fs_cg (fun k hk => h k (by omega))]
theorem q_sh8 {a : Nat} {C : qC} (h : q_sh a = some C) : 8 ≤ a := by
  unfold q_sh at h
  split at h
  · rename_i e
    exact Nat.le_of_ble_eq_true e
  · cases h
theorem q_cel_ne {g g' : qM} {u u' : qW} {b : Nat} (h1 : g' b = g b) (h2 : u' = u ∨ ∀ n, q_sh b ≠ some (.inr (.inl n))) : q_cel g' u' b = q_cel g u b := by
  unfold q_cel
  cases e : q_sh b with
  | none => rfl
  | some C =>
    match C, e with
    | .inl (t, n), _ => dsimp only; rw [h1]
    | .inr (.inl n), e =>
      rcases h2 with h2 | h2
      · rw [h2]
      · exact absurd e (h2 n)
    | .inr (.inr (.inl (t, l))), _ => rfl
    | .inr (.inr (.inr (ci, fs))), _ => dsimp only; rw [h1]
theorem q_rep.set {g g' : qM} {u u' : qW} {h : pm_H} {a : Nat} {D : pm_C} (hr : q_rep g u h) {C : qC} (hs : q_sh a = some C) (hg : ∀ b, b ≠ a → g' b = g b) (hu : u' = u ∨ ∀ b, b ≠ a → ∀ n, q_sh b ≠ some (.inr (.inl n))) (hD : q_cel g' u' a = some D) : q_rep g' u' (h.set (a - 8) D) := by
  have h8 := q_sh8 hs
  intro b
  by_cases e : b = a
  · subst e
    rw [hD]
    have h1 := hr b
    unfold pm_cell at h1 ⊢
    rw [if_neg (by omega)] at h1 ⊢
    have hl : b - 8 < h.length := by
      rcases Nat.lt_or_ge (b - 8) h.length with q | q
      · exact q
      · rw [List.getElem?_eq_none q] at h1
        unfold q_cel at h1
        rw [hs] at h1
        match C, h1 with
        | .inl (t, n), h1 => cases h1
        | .inr (.inl n), h1 => cases h1
        | .inr (.inr (.inl (t, l))), h1 => cases h1
        | .inr (.inr (.inr (ci, fs))), h1 => cases h1
    exact List.getElem?_set_self hl
  · rw [q_cel_ne (hg b e) (hu.imp id (fun q => q b e)), ← hr b]
    unfold pm_cell
    split
    · rfl
    · exact List.getElem?_set_ne (by omega)
section QStep
variable (k : qK)
def qm_bi (f : Int32 → Int32 → Int32) (pc : Nat) (lv : pm_L) (st : List Value) (g : qM) (u : qW) : qR := match st with
  | .int y :: .int x :: r => k (pc + 1) lv (.int (f x y) :: r) g u
  | _ => none
def qm_bz (f : Int32 → Int32 → Int32) (pc : Nat) (lv : pm_L) (st : List Value) (g : qM) (u : qW) : qR := match st with
  | .int y :: .int x :: r => if y = 0 then none else k (pc + 1) lv (.int (f x y) :: r) g u
  | _ => none
def qm_bl (f : Int64 → Int64 → Int64) (pc : Nat) (lv : pm_L) (st : List Value) (g : qM) (u : qW) : qR := match st with
  | .long y :: .long x :: r => k (pc + 1) lv (.long (f x y) :: r) g u
  | _ => none
def qm_blz (f : Int64 → Int64 → Int64) (pc : Nat) (lv : pm_L) (st : List Value) (g : qM) (u : qW) : qR := match st with
  | .long y :: .long x :: r => if y = 0 then none else k (pc + 1) lv (.long (f x y) :: r) g u
  | _ => none
def qm_u (f : Int32 → Int32) (pc : Nat) (lv : pm_L) (st : List Value) (g : qM) (u : qW) : qR := match st with
  | .int x :: r => k (pc + 1) lv (.int (f x) :: r) g u
  | _ => none
def qm_ldi (i npc : Nat) (lv : pm_L) (st : List Value) (g : qM) (u : qW) : qR := match lv.lookup i with
  | some (.int x) => k npc lv (.int x :: st) g u
  | _ => none
def qm_ldl (i npc : Nat) (lv : pm_L) (st : List Value) (g : qM) (u : qW) : qR := match lv.lookup i with
  | some (.long x) => k npc lv (.long x :: st) g u
  | _ => none
def qm_lda (i npc : Nat) (lv : pm_L) (st : List Value) (g : qM) (u : qW) : qR := match lv.lookup i with
  | some (.ref x) => k npc lv (.ref x :: st) g u
  | _ => none
def qm_sti (nL i npc : Nat) (lv : pm_L) (st : List Value) (g : qM) (u : qW) : qR := match st with
  | .int x :: r => if i < nL then k npc (pm_s1 lv i (.int x)) r g u else none
  | _ => none
def qm_sta (nL i npc : Nat) (lv : pm_L) (st : List Value) (g : qM) (u : qW) : qR := match st with
  | .ref x :: r => if i < nL then k npc (pm_s1 lv i (.ref x)) r g u else none
  | _ => none
def qm_stl (nL i npc : Nat) (lv : pm_L) (st : List Value) (g : qM) (u : qW) : qR := match st with
  | .long x :: r => if i + 1 < nL then k npc (pm_s2 lv i (.long x)) r g u else none
  | _ => none
def qm_iinc (nL i : Nat) (n : Int) (pc : Nat) (lv : pm_L) (st : List Value) (g : qM) (u : qW) : qR := match lv.lookup i with
  | some (.int x) => if i < nL then k (pc + 3) (pm_s1 lv i (.int (x + Int32.ofInt n))) st g u else none
  | _ => none
def qm_if (cd : ClassFile.Cond) (tgt pc : Nat) (lv : pm_L) (st : List Value) (g : qM) (u : qW) : qR := match st with
  | .int x :: r => match cd with
    | .eq => if x = 0 then k tgt lv r g u else k (pc + 3) lv r g u
    | .ne => if x = 0 then k (pc + 3) lv r g u else k tgt lv r g u
    | .lt => if x < 0 then k tgt lv r g u else k (pc + 3) lv r g u
    | .ge => if 0 ≤ x then k tgt lv r g u else k (pc + 3) lv r g u
    | .gt => if 0 < x then k tgt lv r g u else k (pc + 3) lv r g u
    | .le => if x ≤ 0 then k tgt lv r g u else k (pc + 3) lv r g u
  | _ => none
def qm_ic (cd : ClassFile.Cond) (tgt pc : Nat) (lv : pm_L) (st : List Value) (g : qM) (u : qW) : qR := match st with
  | .int y :: .int x :: r => match cd with
    | .eq => if x = y then k tgt lv r g u else k (pc + 3) lv r g u
    | .ne => if x = y then k (pc + 3) lv r g u else k tgt lv r g u
    | .lt => if x < y then k tgt lv r g u else k (pc + 3) lv r g u
    | .ge => if y ≤ x then k tgt lv r g u else k (pc + 3) lv r g u
    | .gt => if y < x then k tgt lv r g u else k (pc + 3) lv r g u
    | .le => if x ≤ y then k tgt lv r g u else k (pc + 3) lv r g u
  | _ => none
def qm_jump (t : Int) (lv : pm_L) (st : List Value) (g : qM) (u : qW) : qR := if 0 ≤ t then k t.toNat lv st g u else none
def qm_tsw (d lo hi : Int) (offs : Array Int) (pc : Nat) (lv : pm_L) (st : List Value) (g : qM) (u : qW) : qR := match st with
  | .int x :: r => if x.toInt < lo then qm_jump k ((pc : Int) + d) lv r g u
    else if hi < x.toInt then qm_jump k ((pc : Int) + d) lv r g u
    else match offs[(x.toInt - lo).toNat]? with
      | some off => qm_jump k ((pc : Int) + off) lv r g u
      | none => none
  | _ => none
def qm_dup (pc : Nat) (lv : pm_L) (st : List Value) (g : qM) (u : qW) : qR := match st with
  | v :: r => if v.category = 1 then k (pc + 1) lv (v :: v :: r) g u else none
  | _ => none
def qm_dup2 (pc : Nat) (lv : pm_L) (st : List Value) (g : qM) (u : qW) : qR := match st with
  | v :: w :: r => if v.category = 1 then (if w.category = 1 then k (pc + 1) lv (v :: w :: v :: w :: r) g u else none) else none
  | _ => none
def qm_pop (pc : Nat) (lv : pm_L) (st : List Value) (g : qM) (u : qW) : qR := match st with
  | v :: r => if v.category = 1 then k (pc + 1) lv r g u else none
  | _ => none
def qm_pop2 (pc : Nat) (lv : pm_L) (st : List Value) (g : qM) (u : qW) : qR := match st with
  | v :: r => if v.category = 2 then k (pc + 1) lv r g u else none
  | _ => none
def qm_lcmp (pc : Nat) (lv : pm_L) (st : List Value) (g : qM) (u : qW) : qR := match st with
  | .long y :: .long x :: r => k (pc + 1) lv (.int (lg_cmp x y) :: r) g u
  | _ => none
def qm_ldcs (b pc : Nat) (lv : pm_L) (st : List Value) (g : qM) (u : qW) : qR := if 1 ≤ b then (if b ≤ 7 then k (pc + 2) lv (.ref b :: st) g u else none) else none
def qm_slen (pc : Nat) (lv : pm_L) (st : List Value) (g : qM) (u : qW) : qR := match st with
  | .ref b :: r => if 1 ≤ b then (if b ≤ 7 then (if (r.map Value.category).sum ≤ 8 then k (pc + 3) lv (.int (Int32.ofNat (sg_len.getD (b - 1) 0)) :: r) g u else none) else none) else none
  | _ => none
def qm_sch (pc : Nat) (lv : pm_L) (st : List Value) (g : qM) (u : qW) : qR := match st with
  | .int j :: .ref b :: r => if 1 ≤ b then (if b ≤ 7 then (if j < 0 then none else (if j.toNatClampNeg < sg_len.getD (b - 1) 0 then (if (r.map Value.category).sum ≤ 8 then k (pc + 3) lv (.int ((sg_byt.getD (b - 1) []).getD j.toNatClampNeg 0) :: r) g u else none) else none)) else none) else none
  | _ => none
def qm_i2l (pc : Nat) (lv : pm_L) (st : List Value) (g : qM) (u : qW) : qR := match st with
  | .int x :: r => k (pc + 1) lv (.long x.toInt64 :: r) g u
  | _ => none
def qm_getf (ci f pc : Nat) (lv : pm_L) (st : List Value) (g : qM) (u : qW) : qR := match st with
  | .ref a :: r => match q_sh a with
    | some (.inr (.inr (.inr (cj, fs)))) => if cj = ci then (match fs[f]? with
      | some none => k (pc + 3) lv (.int (g a f) :: r) g u
      | some (some b) => k (pc + 3) lv (.ref b :: r) g u
      | none => none) else none
    | _ => none
  | _ => none
def qm_putf (ci f pc : Nat) (lv : pm_L) (st : List Value) (g : qM) (u : qW) : qR := match st with
  | .int x :: .ref a :: r => match q_sh a with
    | some (.inr (.inr (.inr (cj, fs)))) => if cj = ci then (match fs[f]? with
      | some none => (match pm_fit (kY ci f) (.int x) with
        | true => k (pc + 3) lv r (q_up g a f x) u
        | false => none)
      | _ => none) else none
    | _ => none
  | _ => none
def qm_iald (pc : Nat) (lv : pm_L) (st : List Value) (g : qM) (u : qW) : qR := match st with
  | .int i :: .ref a :: r => match q_sh a with
      | some (.inl (t, n)) => if t = 0 then (if i < 0 then none else (if i.toNatClampNeg < n then k (pc + 1) lv (.int (g a i.toNatClampNeg) :: r) g u else none)) else none
      | _ => none
  | _ => none
def qm_bald (pc : Nat) (lv : pm_L) (st : List Value) (g : qM) (u : qW) : qR := match st with
  | .int i :: .ref a :: r => match q_sh a with
      | some (.inl (t, n)) => if t = 1 ∨ t = 2 then (if i < 0 then none else (if i.toNatClampNeg < n then k (pc + 1) lv (.int (g a i.toNatClampNeg) :: r) g u else none)) else none
      | _ => none
  | _ => none
def qm_lald (pc : Nat) (lv : pm_L) (st : List Value) (g : qM) (u : qW) : qR := match st with
  | .int i :: .ref a :: r => match q_sh a with
      | some (.inr (.inl n)) => if i < 0 then none else (if i.toNatClampNeg < n then k (pc + 1) lv (.long (u i.toNatClampNeg) :: r) g u else none)
      | _ => none
  | _ => none
def qm_aald (pc : Nat) (lv : pm_L) (st : List Value) (g : qM) (u : qW) : qR := match st with
  | .int i :: .ref a :: r => match q_sh a with
      | some (.inr (.inr (.inl (t, l)))) => if t = 4 ∨ t = 5 then (if i < 0 then none else (match l[i.toNatClampNeg]? with
        | some x => k (pc + 1) lv (.ref x :: r) g u
        | none => none)) else none
      | _ => none
  | _ => none
def qm_iast (pc : Nat) (lv : pm_L) (st : List Value) (g : qM) (u : qW) : qR := match st with
  | .int x :: .int i :: .ref a :: r => match q_sh a with
      | some (.inl (t, n)) => if t = 0 then (if i < 0 then none else (if i.toNatClampNeg < n then k (pc + 1) lv r (q_up g a i.toNatClampNeg x) u else none)) else none
      | _ => none
  | _ => none
def qm_bast (pc : Nat) (lv : pm_L) (st : List Value) (g : qM) (u : qW) : qR := match st with
  | .int x :: .int i :: .ref a :: r => match q_sh a with
      | some (.inl (t, n)) => if t = 1 then (if i < 0 then none else (if i.toNatClampNeg < n then k (pc + 1) lv r (q_up g a i.toNatClampNeg x.toInt8.toInt32) u else none))
        else if t = 2 then (if i < 0 then none else (if i.toNatClampNeg < n then k (pc + 1) lv r (q_up g a i.toNatClampNeg (x &&& 1)) u else none)) else none
      | _ => none
  | _ => none
def qm_last (pc : Nat) (lv : pm_L) (st : List Value) (g : qM) (u : qW) : qR := match st with
  | .long x :: .int i :: .ref a :: r => match q_sh a with
      | some (.inr (.inl n)) => if i < 0 then none else (if i.toNatClampNeg < n then k (pc + 1) lv r g (q_uw u i.toNatClampNeg x) else none)
      | _ => none
  | _ => none
def qm_alen (pc : Nat) (lv : pm_L) (st : List Value) (g : qM) (u : qW) : qR := match st with
  | .ref a :: r => match q_sh a with
      | some (.inl (t, n)) => if t < 3 then k (pc + 1) lv (.int (Int32.ofNat n) :: r) g u else none
      | _ => none
  | _ => none
/-- a row copied as a whole, from its first place on -/
def q_cp (g : qM) (a b n : Nat) : qM := fun c i => match Nat.beq c a && Nat.ble (i + 1) n with
  | true => g b i
  | false => g c i
def qm_copy (pc : Nat) (lv : pm_L) (st : List Value) (g : qM) (u : qW) : qR := match st with
  | [.int n, .int dp, .ref a, .int sp, .ref b] => if sp = 0 then (if dp = 0 then (if n < 0 then none else (match q_sh a, q_sh b with
      | some (.inl (t, na)), some (.inl (v, nb)) => if t = 0 ∧ v = 0 then (if n.toNatClampNeg ≤ nb then (if n.toNatClampNeg ≤ na then k (pc + 3) lv [] (q_cp g a b n.toNatClampNeg) u else none) else none) else none
      | _, _ => none)) else none) else none
  | _ => none
def qm_call (big : Nat → List Value → qM → qW → qR) (m2 : pm_M) (M2 : Nat) (pc : Nat) (lv : pm_L) (as rest : List Value) (g : qM) (u : qW) : qR :=
  if (rest.map Value.category).sum ≤ 8 then (if pm_c m2 = 0 then (if pm_s m2 = 0 then (match big M2 as g u with
    | some (r, g', u') => k (pc + 3) lv (r.toList ++ rest) g' u'
    | none => none) else none) else none) else none
def qm_inv (tab : Nat → Option pm_M) (big : Nat → List Value → qM → qW → qR) (M2 : Nat) (pc : Nat) (lv : pm_L) (st : List Value) (g : qM) (u : qW) : qR := match tab M2 with
  | none => none
  | some m2 => if pm_n m2 ≤ st.length then (match (st.take (pm_n m2)).reverse with
      | .ref a :: as => (match q_sh a with
        | some (.inr (.inr (.inr (cj, _)))) => if cj = pm_o m2 then qm_call k big m2 M2 pc lv (.ref a :: as) (st.drop (pm_n m2)) g u else none
        | _ => none)
      | _ => none) else none
def qm_ins (tab : Nat → Option pm_M) (big : Nat → List Value → qM → qW → qR) (M2 : Nat) (pc : Nat) (lv : pm_L) (st : List Value) (g : qM) (u : qW) : qR := match tab M2 with
  | none => none
  | some m2 => if pm_n m2 ≤ st.length then qm_call k big m2 M2 pc lv (st.take (pm_n m2)).reverse (st.drop (pm_n m2)) g u else none
end QStep
def qm_ret (mm : pm_M) (st : List Value) (g : qM) (u : qW) : qR := match st, pm_rt mm with
  | [.int v], some ty => (match pm_fit ty (.int v) with
    | true => some (some (.int v), g, u)
    | false => none)
  | _, _ => none
def qm_retl (mm : pm_M) (st : List Value) (g : qM) (u : qW) : qR := match st, pm_rt mm with
  | [.long v], some .long => some (some (.long v), g, u)
  | _, _ => none
def qm_reta (mm : pm_M) (st : List Value) (g : qM) (u : qW) : qR := match st, pm_rt mm with
  | [.ref v], some (.object _) => some (some (.ref v), g, u)
  | _, _ => none
def qm_retv (mm : pm_M) (st : List Value) (g : qM) (u : qW) : qR := match st, pm_rt mm with
  | [], none => some (none, g, u)
  | _, _ => none
def qm_step (tab : Nat → Option pm_M) (big : Nat → List Value → qM → qW → qR) (mm : pm_M) (k : qK) (e : pm_E) (pc : Nat) (lv : pm_L) (st : List Value) (g : qM) (u : qW) : qR := match e.1 with
  | .iconst n => k (pc + 1) lv (.int (Int32.ofInt n) :: st) g u
  | .bipush n => k (pc + 2) lv (.int (Int8.ofInt n).toInt32 :: st) g u
  | .sipush n => k (pc + 3) lv (.int (Int16.ofInt n).toInt32 :: st) g u
  | .lconst n => k (pc + 1) lv (.long (Int64.ofNat n) :: st) g u
  | .ldc _ => if e.2.1 = 0 then k (pc + 2) lv (.int (Int32.ofInt e.2.2.2) :: st) g u else if e.2.1 = 1 then qm_ldcs k e.2.2.1 pc lv st g u else none
  | .ldc_w _ => if e.2.1 = 0 then k (pc + 3) lv (.int (Int32.ofInt e.2.2.2) :: st) g u else none
  | .ldc2_w _ => k (pc + 3) lv (.long (Int64.ofInt e.2.2.2) :: st) g u
  | .iload_n i => qm_ldi k i (pc + 1) lv st g u
  | .iload i => qm_ldi k i (pc + 2) lv st g u
  | .lload_n i => qm_ldl k i (pc + 1) lv st g u
  | .lload i => qm_ldl k i (pc + 2) lv st g u
  | .aload_n i => qm_lda k i (pc + 1) lv st g u
  | .aload i => qm_lda k i (pc + 2) lv st g u
  | .istore_n i => qm_sti k (pm_ml mm) i (pc + 1) lv st g u
  | .istore i => qm_sti k (pm_ml mm) i (pc + 2) lv st g u
  | .lstore_n i => qm_stl k (pm_ml mm) i (pc + 1) lv st g u
  | .lstore i => qm_stl k (pm_ml mm) i (pc + 2) lv st g u
  | .astore_n i => qm_sta k (pm_ml mm) i (pc + 1) lv st g u
  | .astore i => qm_sta k (pm_ml mm) i (pc + 2) lv st g u
  | .iinc i n => qm_iinc k (pm_ml mm) i n pc lv st g u
  | .iadd => qm_bi k (fun x y => x + y) pc lv st g u
  | .isub => qm_bi k (fun x y => x - y) pc lv st g u
  | .imul => qm_bi k (fun x y => x * y) pc lv st g u
  | .iand => qm_bi k (fun x y => x &&& y) pc lv st g u
  | .ior => qm_bi k (fun x y => x ||| y) pc lv st g u
  | .ixor => qm_bi k (fun x y => x ^^^ y) pc lv st g u
  | .ishl => qm_bi k (fun x y => x <<< (y &&& 31)) pc lv st g u
  | .ishr => qm_bi k (fun x y => x >>> (y &&& 31)) pc lv st g u
  | .iushr => qm_bi k (fun x y => (x.toUInt32 >>> (y.toUInt32 &&& Int32.toUInt32 31)).toInt32) pc lv st g u
  | .idiv => qm_bz k (fun x y => x / y) pc lv st g u
  | .irem => qm_bz k (fun x y => x - x / y * y) pc lv st g u
  | .ladd => qm_bl k (fun x y => x + y) pc lv st g u
  | .lmul => qm_bl k (fun x y => x * y) pc lv st g u
  | .ldiv => qm_blz k (fun x y => x / y) pc lv st g u
  | .lrem => qm_blz k (fun x y => x - x / y * y) pc lv st g u
  | .ineg => qm_u k (fun x => -x) pc lv st g u
  | .i2b => qm_u k (fun x => x.toInt8.toInt32) pc lv st g u
  | .i2s => qm_u k (fun x => x.toInt16.toInt32) pc lv st g u
  | .i2l => qm_i2l k pc lv st g u
  | .lcmp => qm_lcmp k pc lv st g u
  | .dup => qm_dup k pc lv st g u
  | .dup2 => qm_dup2 k pc lv st g u
  | .pop => qm_pop k pc lv st g u
  | .pop2 => qm_pop2 k pc lv st g u
  | .ifCond cd _ => qm_if k cd e.2.1 pc lv st g u
  | .if_icmp cd _ => qm_ic k cd e.2.1 pc lv st g u
  | .goto _ => k e.2.1 lv st g u
  | .tableswitch d lo hi offs => qm_tsw k d lo hi offs pc lv st g u
  | .getfield _ => qm_getf k e.2.1 e.2.2.1 pc lv st g u
  | .putfield _ => qm_putf k e.2.1 e.2.2.1 pc lv st g u
  | .iaload => qm_iald k pc lv st g u
  | .baload => qm_bald k pc lv st g u
  | .laload => qm_lald k pc lv st g u
  | .aaload => qm_aald k pc lv st g u
  | .iastore => qm_iast k pc lv st g u
  | .bastore => qm_bast k pc lv st g u
  | .lastore => qm_last k pc lv st g u
  | .arraylength => qm_alen k pc lv st g u
  | .invokevirtual _ => if e.2.2.1 = 0 then qm_inv k tab big e.2.1 pc lv st g u else if e.2.2.1 = 4 then qm_slen k pc lv st g u else if e.2.2.1 = 5 then qm_sch k pc lv st g u else none
  | .invokespecial _ => if e.2.2.1 = 1 then qm_inv k tab big e.2.1 pc lv st g u else none
  | .invokestatic _ => if e.2.2.1 = 8 then qm_copy k pc lv st g u else if e.2.2.1 = 2 ∨ e.2.2.1 = 3 then qm_ins k tab big e.2.1 pc lv st g u else none
  | .ireturn => qm_ret mm st g u
  | .lreturn => qm_retl mm st g u
  | .areturn => qm_reta mm st g u
  | .return_ => qm_retv mm st g u
  | _ => none
def qm_next (tab : Nat → Option pm_M) (big : Nat → List Value → qM → qW → qR) (mm : pm_M) (k : qK) : qK := fun pc lv st g u => match pm_at mm pc with
  | some e => qm_step tab big mm k e pc lv st g u
  | none => none
noncomputable def qm_run (tab : Nat → Option pm_M) (big : Nat → List Value → qM → qW → qR) (mm : pm_M) (n : Nat) : qK := Nat.rec (motive := fun _ => qK) (fun _ _ _ _ _ => none) (fun _ k => qm_next tab big mm k) n
noncomputable def qm_big (tab : Nat → Option pm_M) (N : Nat) (d : Nat) : Nat → List Value → qM → qW → qR := Nat.rec (motive := fun _ => Nat → List Value → qM → qW → qR) (fun _ _ _ _ => none) (fun _ big M as g u => match tab M with
  | some mm => if pm_words as ≤ pm_ml mm then (if as.length = pm_n mm then qm_run tab big mm N 0 (lv_args 0 as) [] g u else none) else none
  | none => none) d
theorem qs_bi {kq : qK} {kp : pm_K} (hS : q_S kq kp) {lv : pm_L} {st : List Value} {g : qM} {u : qW} {h : pm_H} {R : Option Value × qM × qW} (hr : q_rep g u h) (f : Int32 → Int32 → Int32) (pc : Nat) (hk : qm_bi kq f pc lv st g u = some R) : ∃ h', pm_bi kp f pc lv st h 0 0 = some (R.1, h') ∧ q_rep R.2.1 R.2.2 h' := by
  unfold qm_bi at hk
  unfold pm_bi
  (repeat' split at hk) <;> first
    | exact hS _ _ _ _ _ _ _ hr hk
    | (cases hk; done)
    | (simp only [*]; exact hS _ _ _ _ _ _ _ hr hk)
    | (simp [*]; exact hS _ _ _ _ _ _ _ hr hk)
theorem qs_bz {kq : qK} {kp : pm_K} (hS : q_S kq kp) {lv : pm_L} {st : List Value} {g : qM} {u : qW} {h : pm_H} {R : Option Value × qM × qW} (hr : q_rep g u h) (f : Int32 → Int32 → Int32) (pc : Nat) (hk : qm_bz kq f pc lv st g u = some R) : ∃ h', pm_bz kp f pc lv st h 0 0 = some (R.1, h') ∧ q_rep R.2.1 R.2.2 h' := by
  unfold qm_bz at hk
  unfold pm_bz
  (repeat' split at hk) <;> first
    | exact hS _ _ _ _ _ _ _ hr hk
    | (cases hk; done)
    | (simp only [*]; exact hS _ _ _ _ _ _ _ hr hk)
    | (simp [*]; exact hS _ _ _ _ _ _ _ hr hk)
theorem qs_bl {kq : qK} {kp : pm_K} (hS : q_S kq kp) {lv : pm_L} {st : List Value} {g : qM} {u : qW} {h : pm_H} {R : Option Value × qM × qW} (hr : q_rep g u h) (f : Int64 → Int64 → Int64) (pc : Nat) (hk : qm_bl kq f pc lv st g u = some R) : ∃ h', pm_bl kp f pc lv st h 0 0 = some (R.1, h') ∧ q_rep R.2.1 R.2.2 h' := by
  unfold qm_bl at hk
  unfold pm_bl
  (repeat' split at hk) <;> first
    | exact hS _ _ _ _ _ _ _ hr hk
    | (cases hk; done)
    | (simp only [*]; exact hS _ _ _ _ _ _ _ hr hk)
    | (simp [*]; exact hS _ _ _ _ _ _ _ hr hk)
theorem qs_blz {kq : qK} {kp : pm_K} (hS : q_S kq kp) {lv : pm_L} {st : List Value} {g : qM} {u : qW} {h : pm_H} {R : Option Value × qM × qW} (hr : q_rep g u h) (f : Int64 → Int64 → Int64) (pc : Nat) (hk : qm_blz kq f pc lv st g u = some R) : ∃ h', pm_blz kp f pc lv st h 0 0 = some (R.1, h') ∧ q_rep R.2.1 R.2.2 h' := by
  unfold qm_blz at hk
  unfold pm_blz
  (repeat' split at hk) <;> first
    | exact hS _ _ _ _ _ _ _ hr hk
    | (cases hk; done)
    | (simp only [*]; exact hS _ _ _ _ _ _ _ hr hk)
    | (simp [*]; exact hS _ _ _ _ _ _ _ hr hk)
theorem qs_u {kq : qK} {kp : pm_K} (hS : q_S kq kp) {lv : pm_L} {st : List Value} {g : qM} {u : qW} {h : pm_H} {R : Option Value × qM × qW} (hr : q_rep g u h) (f : Int32 → Int32) (pc : Nat) (hk : qm_u kq f pc lv st g u = some R) : ∃ h', pm_u kp f pc lv st h 0 0 = some (R.1, h') ∧ q_rep R.2.1 R.2.2 h' := by
  unfold qm_u at hk
  unfold pm_u
  (repeat' split at hk) <;> first
    | exact hS _ _ _ _ _ _ _ hr hk
    | (cases hk; done)
    | (simp only [*]; exact hS _ _ _ _ _ _ _ hr hk)
    | (simp [*]; exact hS _ _ _ _ _ _ _ hr hk)
theorem qs_ldi {kq : qK} {kp : pm_K} (hS : q_S kq kp) {lv : pm_L} {st : List Value} {g : qM} {u : qW} {h : pm_H} {R : Option Value × qM × qW} (hr : q_rep g u h) (i npc : Nat) (hk : qm_ldi kq i npc lv st g u = some R) : ∃ h', pm_ldi kp i npc lv st h 0 0 = some (R.1, h') ∧ q_rep R.2.1 R.2.2 h' := by
  unfold qm_ldi at hk
  unfold pm_ldi
  (repeat' split at hk) <;> first
    | exact hS _ _ _ _ _ _ _ hr hk
    | (cases hk; done)
    | (simp only [*]; exact hS _ _ _ _ _ _ _ hr hk)
    | (simp [*]; exact hS _ _ _ _ _ _ _ hr hk)
theorem qs_ldl {kq : qK} {kp : pm_K} (hS : q_S kq kp) {lv : pm_L} {st : List Value} {g : qM} {u : qW} {h : pm_H} {R : Option Value × qM × qW} (hr : q_rep g u h) (i npc : Nat) (hk : qm_ldl kq i npc lv st g u = some R) : ∃ h', pm_ldl kp i npc lv st h 0 0 = some (R.1, h') ∧ q_rep R.2.1 R.2.2 h' := by
  unfold qm_ldl at hk
  unfold pm_ldl
  (repeat' split at hk) <;> first
    | exact hS _ _ _ _ _ _ _ hr hk
    | (cases hk; done)
    | (simp only [*]; exact hS _ _ _ _ _ _ _ hr hk)
    | (simp [*]; exact hS _ _ _ _ _ _ _ hr hk)
theorem qs_lda {kq : qK} {kp : pm_K} (hS : q_S kq kp) {lv : pm_L} {st : List Value} {g : qM} {u : qW} {h : pm_H} {R : Option Value × qM × qW} (hr : q_rep g u h) (i npc : Nat) (hk : qm_lda kq i npc lv st g u = some R) : ∃ h', pm_lda kp i npc lv st h 0 0 = some (R.1, h') ∧ q_rep R.2.1 R.2.2 h' := by
  unfold qm_lda at hk
  unfold pm_lda
  (repeat' split at hk) <;> first
    | exact hS _ _ _ _ _ _ _ hr hk
    | (cases hk; done)
    | (simp only [*]; exact hS _ _ _ _ _ _ _ hr hk)
    | (simp [*]; exact hS _ _ _ _ _ _ _ hr hk)
theorem qs_sti {kq : qK} {kp : pm_K} (hS : q_S kq kp) {lv : pm_L} {st : List Value} {g : qM} {u : qW} {h : pm_H} {R : Option Value × qM × qW} (hr : q_rep g u h) (nL i npc : Nat) (hk : qm_sti kq nL i npc lv st g u = some R) : ∃ h', pm_sti kp nL i npc lv st h 0 0 = some (R.1, h') ∧ q_rep R.2.1 R.2.2 h' := by
  unfold qm_sti at hk
  unfold pm_sti
  (repeat' split at hk) <;> first
    | exact hS _ _ _ _ _ _ _ hr hk
    | (cases hk; done)
    | (simp only [*]; exact hS _ _ _ _ _ _ _ hr hk)
    | (simp [*]; exact hS _ _ _ _ _ _ _ hr hk)
theorem qs_sta {kq : qK} {kp : pm_K} (hS : q_S kq kp) {lv : pm_L} {st : List Value} {g : qM} {u : qW} {h : pm_H} {R : Option Value × qM × qW} (hr : q_rep g u h) (nL i npc : Nat) (hk : qm_sta kq nL i npc lv st g u = some R) : ∃ h', pm_sta kp nL i npc lv st h 0 0 = some (R.1, h') ∧ q_rep R.2.1 R.2.2 h' := by
  unfold qm_sta at hk
  unfold pm_sta
  (repeat' split at hk) <;> first
    | exact hS _ _ _ _ _ _ _ hr hk
    | (cases hk; done)
    | (simp only [*]; exact hS _ _ _ _ _ _ _ hr hk)
    | (simp [*]; exact hS _ _ _ _ _ _ _ hr hk)
theorem qs_stl {kq : qK} {kp : pm_K} (hS : q_S kq kp) {lv : pm_L} {st : List Value} {g : qM} {u : qW} {h : pm_H} {R : Option Value × qM × qW} (hr : q_rep g u h) (nL i npc : Nat) (hk : qm_stl kq nL i npc lv st g u = some R) : ∃ h', pm_stl kp nL i npc lv st h 0 0 = some (R.1, h') ∧ q_rep R.2.1 R.2.2 h' := by
  unfold qm_stl at hk
  unfold pm_stl
  (repeat' split at hk) <;> first
    | exact hS _ _ _ _ _ _ _ hr hk
    | (cases hk; done)
    | (simp only [*]; exact hS _ _ _ _ _ _ _ hr hk)
    | (simp [*]; exact hS _ _ _ _ _ _ _ hr hk)
theorem qs_iinc {kq : qK} {kp : pm_K} (hS : q_S kq kp) {lv : pm_L} {st : List Value} {g : qM} {u : qW} {h : pm_H} {R : Option Value × qM × qW} (hr : q_rep g u h) (nL i : Nat) (n : Int) (pc : Nat) (hk : qm_iinc kq nL i n pc lv st g u = some R) : ∃ h', pm_iinc kp nL i n pc lv st h 0 0 = some (R.1, h') ∧ q_rep R.2.1 R.2.2 h' := by
  unfold qm_iinc at hk
  unfold pm_iinc
  (repeat' split at hk) <;> first
    | exact hS _ _ _ _ _ _ _ hr hk
    | (cases hk; done)
    | (simp only [*]; exact hS _ _ _ _ _ _ _ hr hk)
    | (simp [*]; exact hS _ _ _ _ _ _ _ hr hk)
theorem qs_if {kq : qK} {kp : pm_K} (hS : q_S kq kp) {lv : pm_L} {st : List Value} {g : qM} {u : qW} {h : pm_H} {R : Option Value × qM × qW} (hr : q_rep g u h) (cd : ClassFile.Cond) (tgt pc : Nat) (hk : qm_if kq cd tgt pc lv st g u = some R) : ∃ h', pm_if kp cd tgt pc lv st h 0 0 = some (R.1, h') ∧ q_rep R.2.1 R.2.2 h' := by
  unfold qm_if at hk
  unfold pm_if
  (repeat' split at hk) <;> first
    | exact hS _ _ _ _ _ _ _ hr hk
    | (cases hk; done)
    | (simp only [*]; exact hS _ _ _ _ _ _ _ hr hk)
    | (simp [*]; exact hS _ _ _ _ _ _ _ hr hk)
theorem qs_ic {kq : qK} {kp : pm_K} (hS : q_S kq kp) {lv : pm_L} {st : List Value} {g : qM} {u : qW} {h : pm_H} {R : Option Value × qM × qW} (hr : q_rep g u h) (cd : ClassFile.Cond) (tgt pc : Nat) (hk : qm_ic kq cd tgt pc lv st g u = some R) : ∃ h', pm_ic kp cd tgt pc lv st h 0 0 = some (R.1, h') ∧ q_rep R.2.1 R.2.2 h' := by
  unfold qm_ic at hk
  unfold pm_ic
  (repeat' split at hk) <;> first
    | exact hS _ _ _ _ _ _ _ hr hk
    | (cases hk; done)
    | (simp only [*]; exact hS _ _ _ _ _ _ _ hr hk)
    | (simp [*]; exact hS _ _ _ _ _ _ _ hr hk)
theorem qs_jump {kq : qK} {kp : pm_K} (hS : q_S kq kp) {lv : pm_L} {st : List Value} {g : qM} {u : qW} {h : pm_H} {R : Option Value × qM × qW} (hr : q_rep g u h) (t : Int) (hk : qm_jump kq t lv st g u = some R) : ∃ h', pm_jump kp t lv st h 0 0 = some (R.1, h') ∧ q_rep R.2.1 R.2.2 h' := by
  unfold qm_jump at hk
  unfold pm_jump
  (repeat' split at hk) <;> first
    | exact hS _ _ _ _ _ _ _ hr hk
    | (cases hk; done)
    | (simp only [*]; exact hS _ _ _ _ _ _ _ hr hk)
    | (simp [*]; exact hS _ _ _ _ _ _ _ hr hk)
theorem qs_tsw {kq : qK} {kp : pm_K} (hS : q_S kq kp) {lv : pm_L} {st : List Value} {g : qM} {u : qW} {h : pm_H} {R : Option Value × qM × qW} (hr : q_rep g u h) (d lo hi : Int) (offs : Array Int) (pc : Nat) (hk : qm_tsw kq d lo hi offs pc lv st g u = some R) : ∃ h', pm_tsw kp d lo hi offs pc lv st h 0 0 = some (R.1, h') ∧ q_rep R.2.1 R.2.2 h' := by
  unfold qm_tsw at hk
  unfold pm_tsw
  split at hk
  · dsimp only
    split at hk
    · rename_i q
      rw [if_pos q]
      exact qs_jump hS hr _ hk
    · rename_i q
      rw [if_neg q]
      split at hk
      · rename_i q2
        rw [if_pos q2]
        exact qs_jump hS hr _ hk
      · rename_i q2
        rw [if_neg q2]
        split at hk
        · rename_i off e
          rw [e]
          exact qs_jump hS hr _ hk
        · cases hk
  · cases hk
theorem qs_dup {kq : qK} {kp : pm_K} (hS : q_S kq kp) {lv : pm_L} {st : List Value} {g : qM} {u : qW} {h : pm_H} {R : Option Value × qM × qW} (hr : q_rep g u h) (pc : Nat) (hk : qm_dup kq pc lv st g u = some R) : ∃ h', pm_dup kp pc lv st h 0 0 = some (R.1, h') ∧ q_rep R.2.1 R.2.2 h' := by
  unfold qm_dup at hk
  unfold pm_dup
  (repeat' split at hk) <;> first
    | exact hS _ _ _ _ _ _ _ hr hk
    | (cases hk; done)
    | (simp only [*]; exact hS _ _ _ _ _ _ _ hr hk)
    | (simp [*]; exact hS _ _ _ _ _ _ _ hr hk)
theorem qs_dup2 {kq : qK} {kp : pm_K} (hS : q_S kq kp) {lv : pm_L} {st : List Value} {g : qM} {u : qW} {h : pm_H} {R : Option Value × qM × qW} (hr : q_rep g u h) (pc : Nat) (hk : qm_dup2 kq pc lv st g u = some R) : ∃ h', pm_dup2 kp pc lv st h 0 0 = some (R.1, h') ∧ q_rep R.2.1 R.2.2 h' := by
  unfold qm_dup2 at hk
  unfold pm_dup2
  (repeat' split at hk) <;> first
    | exact hS _ _ _ _ _ _ _ hr hk
    | (cases hk; done)
    | (simp only [*]; exact hS _ _ _ _ _ _ _ hr hk)
    | (simp [*]; exact hS _ _ _ _ _ _ _ hr hk)
theorem qs_pop {kq : qK} {kp : pm_K} (hS : q_S kq kp) {lv : pm_L} {st : List Value} {g : qM} {u : qW} {h : pm_H} {R : Option Value × qM × qW} (hr : q_rep g u h) (pc : Nat) (hk : qm_pop kq pc lv st g u = some R) : ∃ h', pm_pop kp pc lv st h 0 0 = some (R.1, h') ∧ q_rep R.2.1 R.2.2 h' := by
  unfold qm_pop at hk
  unfold pm_pop
  (repeat' split at hk) <;> first
    | exact hS _ _ _ _ _ _ _ hr hk
    | (cases hk; done)
    | (simp only [*]; exact hS _ _ _ _ _ _ _ hr hk)
    | (simp [*]; exact hS _ _ _ _ _ _ _ hr hk)
theorem qs_pop2 {kq : qK} {kp : pm_K} (hS : q_S kq kp) {lv : pm_L} {st : List Value} {g : qM} {u : qW} {h : pm_H} {R : Option Value × qM × qW} (hr : q_rep g u h) (pc : Nat) (hk : qm_pop2 kq pc lv st g u = some R) : ∃ h', pm_pop2 kp pc lv st h 0 0 = some (R.1, h') ∧ q_rep R.2.1 R.2.2 h' := by
  unfold qm_pop2 at hk
  unfold pm_pop2
  (repeat' split at hk) <;> first
    | exact hS _ _ _ _ _ _ _ hr hk
    | (cases hk; done)
    | (simp only [*]; exact hS _ _ _ _ _ _ _ hr hk)
    | (simp [*]; exact hS _ _ _ _ _ _ _ hr hk)
theorem qs_lcmp {kq : qK} {kp : pm_K} (hS : q_S kq kp) {lv : pm_L} {st : List Value} {g : qM} {u : qW} {h : pm_H} {R : Option Value × qM × qW} (hr : q_rep g u h) (pc : Nat) (hk : qm_lcmp kq pc lv st g u = some R) : ∃ h', pm_lcmp kp pc lv st h 0 0 = some (R.1, h') ∧ q_rep R.2.1 R.2.2 h' := by
  unfold qm_lcmp at hk
  unfold pm_lcmp
  (repeat' split at hk) <;> first
    | exact hS _ _ _ _ _ _ _ hr hk
    | (cases hk; done)
    | (simp only [*]; exact hS _ _ _ _ _ _ _ hr hk)
    | (simp [*]; exact hS _ _ _ _ _ _ _ hr hk)
theorem qs_ldcs {kq : qK} {kp : pm_K} (hS : q_S kq kp) {lv : pm_L} {st : List Value} {g : qM} {u : qW} {h : pm_H} {R : Option Value × qM × qW} (hr : q_rep g u h) (b pc : Nat) (hk : qm_ldcs kq b pc lv st g u = some R) : ∃ h', pm_ldcs kp b pc lv st h 0 0 = some (R.1, h') ∧ q_rep R.2.1 R.2.2 h' := by
  unfold qm_ldcs at hk
  unfold pm_ldcs
  (repeat' split at hk) <;> first
    | exact hS _ _ _ _ _ _ _ hr hk
    | (cases hk; done)
    | (simp only [*]; exact hS _ _ _ _ _ _ _ hr hk)
    | (simp [*]; exact hS _ _ _ _ _ _ _ hr hk)
theorem qs_slen {kq : qK} {kp : pm_K} (hS : q_S kq kp) {lv : pm_L} {st : List Value} {g : qM} {u : qW} {h : pm_H} {R : Option Value × qM × qW} (hr : q_rep g u h) (pc : Nat) (hk : qm_slen kq pc lv st g u = some R) : ∃ h', pm_slen kp pc lv st h 0 0 = some (R.1, h') ∧ q_rep R.2.1 R.2.2 h' := by
  unfold qm_slen at hk
  unfold pm_slen
  (repeat' split at hk) <;> first
    | exact hS _ _ _ _ _ _ _ hr hk
    | (cases hk; done)
    | (simp only [*]; exact hS _ _ _ _ _ _ _ hr hk)
    | (simp [*]; exact hS _ _ _ _ _ _ _ hr hk)
theorem qs_sch {kq : qK} {kp : pm_K} (hS : q_S kq kp) {lv : pm_L} {st : List Value} {g : qM} {u : qW} {h : pm_H} {R : Option Value × qM × qW} (hr : q_rep g u h) (pc : Nat) (hk : qm_sch kq pc lv st g u = some R) : ∃ h', pm_sch kp pc lv st h 0 0 = some (R.1, h') ∧ q_rep R.2.1 R.2.2 h' := by
  unfold qm_sch at hk
  unfold pm_sch
  (repeat' split at hk) <;> first
    | exact hS _ _ _ _ _ _ _ hr hk
    | (cases hk; done)
    | (simp only [*]; exact hS _ _ _ _ _ _ _ hr hk)
    | (simp [*]; exact hS _ _ _ _ _ _ _ hr hk)
theorem qs_i2l {kq : qK} {kp : pm_K} (hS : q_S kq kp) {lv : pm_L} {st : List Value} {g : qM} {u : qW} {h : pm_H} {R : Option Value × qM × qW} (hr : q_rep g u h) (pc : Nat) (hk : qm_i2l kq pc lv st g u = some R) : ∃ h', pm_i2l kp pc lv st h 0 0 = some (R.1, h') ∧ q_rep R.2.1 R.2.2 h' := by
  unfold qm_i2l at hk
  unfold pm_i2l
  (repeat' split at hk) <;> first
    | exact hS _ _ _ _ _ _ _ hr hk
    | (cases hk; done)
    | (simp only [*]; exact hS _ _ _ _ _ _ _ hr hk)
    | (simp [*]; exact hS _ _ _ _ _ _ _ hr hk)
theorem q_ar {g : qM} {u : qW} {h : pm_H} {a t n : Nat} (hr : q_rep g u h) (hs : q_sh a = some (.inl (t, n))) : pm_cell h a = some (.inl (t, (List.range n).map (g a))) := by
  rw [hr a]
  unfold q_cel
  rw [hs]
theorem q_lo {g : qM} {u : qW} {h : pm_H} {a n : Nat} (hr : q_rep g u h) (hs : q_sh a = some (.inr (.inl n))) : pm_cell h a = some (.inr (.inl (3, (List.range n).map u))) := by
  rw [hr a]
  unfold q_cel
  rw [hs]
theorem q_rr {g : qM} {u : qW} {h : pm_H} {a t : Nat} {l : List Nat} (hr : q_rep g u h) (hs : q_sh a = some (.inr (.inr (.inl (t, l))))) : pm_cell h a = some (.inr (.inr (.inl (t, l.map some)))) := by
  rw [hr a]
  unfold q_cel
  rw [hs]
theorem q_ob {g : qM} {u : qW} {h : pm_H} {a ci : Nat} {fs : List (Option Nat)} (hr : q_rep g u h) (hs : q_sh a = some (.inr (.inr (.inr (ci, fs))))) : pm_cell h a = some (.inr (.inr (.inr (ci, q_fs (g a) fs 0)))) := by
  rw [hr a]
  unfold q_cel
  rw [hs]
theorem q_wi {g : qM} {u : qW} {h : pm_H} {a t n j : Nat} {x : Int32} (hr : q_rep g u h) (hs : q_sh a = some (.inl (t, n))) : q_rep (q_up g a j x) u (h.set (a - 8) (.inl (t, ((List.range n).map (g a)).set j x))) := by
  refine hr.set hs (fun b hb => q_up_ne hb) (Or.inl rfl) ?_
  unfold q_cel
  rw [hs]
  dsimp only
  rw [q_map_set (g a) (q_up g a j x a) n j x (by rw [q_up_at, if_pos rfl]) (fun i hi => by rw [q_up_at, if_neg hi])]
theorem q_long1 : ∀ b, b ≠ 43 → ∀ n, q_sh b ≠ some (.inr (.inl n)) := by
  intro b hb n e
  have h8 := q_sh8 e
  have hc : (List.range 80).all (fun i => match q_sh (i + 8) with
    | some (.inr (.inl _)) => Nat.beq i 35
    | _ => true) = true := by decide +kernel
  by_cases hl : b - 8 < 80
  · have h1 := List.all_eq_true.mp hc (b - 8) (List.mem_range.mpr hl)
    rw [show b - 8 + 8 = b by omega, e] at h1
    have := Nat.eq_of_beq_eq_true h1
    omega
  · unfold q_sh at e
    split at e
    · rw [List.getElem?_eq_none (show q_tab.length ≤ (b - 8) / 8 by show 10 ≤ (b - 8) / 8; omega)] at e
      cases e
    · cases e
theorem q_sh43 {a n : Nat} (h : q_sh a = some (.inr (.inl n))) : a = 43 := by
  rcases Nat.decEq a 43 with q | q
  · exact absurd h (q_long1 a q n)
  · exact q
theorem q_wl {g : qM} {u : qW} {h : pm_H} {a n j : Nat} {x : Int64} (hr : q_rep g u h) (hs : q_sh a = some (.inr (.inl n))) : q_rep g (q_uw u j x) (h.set (a - 8) (.inr (.inl (3, ((List.range n).map u).set j x)))) := by
  refine hr.set hs (fun b hb => rfl) (Or.inr (fun b hb => q_long1 b (by rw [← q_sh43 hs]; exact hb))) ?_
  unfold q_cel
  rw [hs]
  dsimp only
  rw [q_map_set u (q_uw u j x) n j x (by unfold q_uw; rw [Nat.beq_refl]) (fun i hi => by
    unfold q_uw
    cases e : Nat.beq i j with
    | true => exact absurd (Nat.eq_of_beq_eq_true e) hi
    | false => rfl)]
theorem q_wo {g : qM} {u : qW} {h : pm_H} {a ci f : Nat} {fs : List (Option Nat)} {x : Int32} (hr : q_rep g u h) (hs : q_sh a = some (.inr (.inr (.inr (ci, fs))))) (hf : fs[f]? = some none) : q_rep (q_up g a f x) u (h.set (a - 8) (.inr (.inr (.inr (ci, (q_fs (g a) fs 0).set f (.int x)))))) := by
  refine hr.set hs (fun b hb => q_up_ne hb) (Or.inl rfl) ?_
  unfold q_cel
  rw [hs]
  dsimp only
  rw [q_fs_set (f := g a) (f' := q_up g a f x a) (j := 0) (i := f) (x := x) hf (by rw [q_up_at, Nat.zero_add, if_pos rfl]) (fun k hk => by rw [q_up_at, if_neg (by omega)])]
theorem qs_getf {kq : qK} {kp : pm_K} (hS : q_S kq kp) {lv : pm_L} {st : List Value} {g : qM} {u : qW} {h : pm_H} {R : Option Value × qM × qW} (hr : q_rep g u h) (ci f pc : Nat) (hk : qm_getf kq ci f pc lv st g u = some R) : ∃ h', pm_getf kp ci f pc lv st h 0 0 = some (R.1, h') ∧ q_rep R.2.1 R.2.2 h' := by
  unfold qm_getf at hk
  unfold pm_getf
  split at hk
  · split at hk
    · rename_i a r cj fs hs
      split at hk
      · rename_i e
        dsimp only
        rw [q_ob hr hs]
        dsimp only
        rw [if_pos e]
        split at hk
        · rename_i hf
          rw [q_fs_get hf]
          dsimp only
          rw [Nat.zero_add]
          exact hS _ _ _ _ _ _ _ hr hk
        · rename_i b hf
          rw [q_fs_get hf]
          exact hS _ _ _ _ _ _ _ hr hk
        · cases hk
      · cases hk
    · cases hk
  · cases hk
theorem qs_putf {kq : qK} {kp : pm_K} (hS : q_S kq kp) {lv : pm_L} {st : List Value} {g : qM} {u : qW} {h : pm_H} {R : Option Value × qM × qW} (hr : q_rep g u h) (ci f pc : Nat) (hk : qm_putf kq ci f pc lv st g u = some R) : ∃ h', pm_putf kp ci f pc lv st h 0 0 = some (R.1, h') ∧ q_rep R.2.1 R.2.2 h' := by
  unfold qm_putf at hk
  unfold pm_putf
  split at hk
  · split at hk
    · rename_i x a r cj fs hs
      split at hk
      · rename_i e
        subst e
        dsimp only
        rw [q_ob hr hs]
        dsimp only
        rw [if_pos rfl]
        split at hk
        · rename_i hf
          rw [if_pos (by rw [q_fs_len]; exact (List.getElem?_eq_some_iff.mp hf).1)]
          split at hk
          · rename_i hq
            rw [hq]
            exact hS _ _ _ _ _ _ _ (q_wo hr hs hf) hk
          · cases hk
        · cases hk
      · cases hk
    · cases hk
  · cases hk
theorem qs_iald {kq : qK} {kp : pm_K} (hS : q_S kq kp) {lv : pm_L} {st : List Value} {g : qM} {u : qW} {h : pm_H} {R : Option Value × qM × qW} (hr : q_rep g u h) (xs : List Int32) (pc : Nat) (hk : qm_iald kq pc lv st g u = some R) : ∃ h', pm_iald kp xs pc lv st h 0 0 = some (R.1, h') ∧ q_rep R.2.1 R.2.2 h' := by
  unfold qm_iald at hk
  unfold pm_iald
  split at hk
  · split at hk
    · rename_i i a r _ t m hs
      split at hk
      · rename_i e
        split at hk
        · cases hk
        · rename_i hi
          split at hk
          · rename_i hj
            dsimp only
            rw [if_neg hi]
            rw [if_neg (show ¬ a = 0 from fun q => by rw [q] at hs; cases hs)]
            rw [q_ar hr hs]
            dsimp only
            rw [if_pos e, q_map_get hj]
            exact hS _ _ _ _ _ _ _ hr hk
          · cases hk
      · cases hk
    · cases hk
  · cases hk
theorem qs_bald {kq : qK} {kp : pm_K} (hS : q_S kq kp) {lv : pm_L} {st : List Value} {g : qM} {u : qW} {h : pm_H} {R : Option Value × qM × qW} (hr : q_rep g u h) (pc : Nat) (hk : qm_bald kq pc lv st g u = some R) : ∃ h', pm_bald kp pc lv st h 0 0 = some (R.1, h') ∧ q_rep R.2.1 R.2.2 h' := by
  unfold qm_bald at hk
  unfold pm_bald
  split at hk
  · split at hk
    · rename_i i a r _ t m hs
      split at hk
      · rename_i e
        split at hk
        · cases hk
        · rename_i hi
          split at hk
          · rename_i hj
            dsimp only
            rw [if_neg hi]
            skip
            rw [q_ar hr hs]
            dsimp only
            rw [if_pos e, q_map_get hj]
            exact hS _ _ _ _ _ _ _ hr hk
          · cases hk
      · cases hk
    · cases hk
  · cases hk
theorem qs_lald {kq : qK} {kp : pm_K} (hS : q_S kq kp) {lv : pm_L} {st : List Value} {g : qM} {u : qW} {h : pm_H} {R : Option Value × qM × qW} (hr : q_rep g u h) (pc : Nat) (hk : qm_lald kq pc lv st g u = some R) : ∃ h', pm_lald kp pc lv st h 0 0 = some (R.1, h') ∧ q_rep R.2.1 R.2.2 h' := by
  unfold qm_lald at hk
  unfold pm_lald
  split at hk
  · split at hk
    · rename_i i a r m hs
      split at hk
      · cases hk
      · rename_i hi
        split at hk
        · rename_i hj
          dsimp only
          rw [if_neg hi]
          rw [q_lo hr hs]
          dsimp only
          rw [if_pos rfl, q_map_get hj]
          exact hS _ _ _ _ _ _ _ hr hk
        · cases hk
    · cases hk
  · cases hk
theorem qs_aald {kq : qK} {kp : pm_K} (hS : q_S kq kp) {lv : pm_L} {st : List Value} {g : qM} {u : qW} {h : pm_H} {R : Option Value × qM × qW} (hr : q_rep g u h) (pc : Nat) (hk : qm_aald kq pc lv st g u = some R) : ∃ h', pm_aald kp pc lv st h 0 0 = some (R.1, h') ∧ q_rep R.2.1 R.2.2 h' := by
  unfold qm_aald at hk
  unfold pm_aald
  split at hk
  · split at hk
    · rename_i i a r t l hs
      split at hk
      · rename_i e
        split at hk
        · cases hk
        · rename_i hi
          split at hk
          · rename_i x hj
            dsimp only
            rw [if_neg hi, q_rr hr hs]
            dsimp only
            rw [if_pos e, List.getElem?_map, hj]
            exact hS _ _ _ _ _ _ _ hr hk
          · cases hk
      · cases hk
    · cases hk
  · cases hk
theorem qs_iast {kq : qK} {kp : pm_K} (hS : q_S kq kp) {lv : pm_L} {st : List Value} {g : qM} {u : qW} {h : pm_H} {R : Option Value × qM × qW} (hr : q_rep g u h) (pc : Nat) (hk : qm_iast kq pc lv st g u = some R) : ∃ h', pm_iast kp pc lv st h 0 0 = some (R.1, h') ∧ q_rep R.2.1 R.2.2 h' := by
  unfold qm_iast at hk
  unfold pm_iast
  split at hk
  · split at hk
    · rename_i x i a r t m hs
      split at hk
      · rename_i e
        subst e
        split at hk
        · cases hk
        · rename_i hi
          split at hk
          · rename_i hj
            dsimp only
            rw [if_neg hi, q_ar hr hs]
            dsimp only
            rw [if_pos rfl, if_pos (by rw [List.length_map, List.length_range]; exact hj)]
            exact hS _ _ _ _ _ _ _ (q_wi hr hs) hk
          · cases hk
      · cases hk
    · cases hk
  · cases hk
theorem qs_bast {kq : qK} {kp : pm_K} (hS : q_S kq kp) {lv : pm_L} {st : List Value} {g : qM} {u : qW} {h : pm_H} {R : Option Value × qM × qW} (hr : q_rep g u h) (pc : Nat) (hk : qm_bast kq pc lv st g u = some R) : ∃ h', pm_bast kp pc lv st h 0 0 = some (R.1, h') ∧ q_rep R.2.1 R.2.2 h' := by
  unfold qm_bast at hk
  unfold pm_bast
  split at hk
  · split at hk
    · rename_i x i a r t m hs
      split at hk
      · rename_i e
        subst e
        split at hk
        · cases hk
        · rename_i hi
          split at hk
          · rename_i hj
            dsimp only
            rw [if_neg hi, q_ar hr hs]
            dsimp only
            rw [if_pos rfl, if_pos (by rw [List.length_map, List.length_range]; exact hj)]
            exact hS _ _ _ _ _ _ _ (q_wi hr hs) hk
          · cases hk
      · split at hk
        · rename_i e1 e
          subst e
          split at hk
          · cases hk
          · rename_i hi
            split at hk
            · rename_i hj
              dsimp only
              rw [if_neg hi, q_ar hr hs]
              dsimp only
              rw [if_neg (by decide), if_pos rfl, if_pos (by rw [List.length_map, List.length_range]; exact hj)]
              exact hS _ _ _ _ _ _ _ (q_wi hr hs) hk
            · cases hk
        · cases hk
    · cases hk
  · cases hk
theorem qs_last {kq : qK} {kp : pm_K} (hS : q_S kq kp) {lv : pm_L} {st : List Value} {g : qM} {u : qW} {h : pm_H} {R : Option Value × qM × qW} (hr : q_rep g u h) (pc : Nat) (hk : qm_last kq pc lv st g u = some R) : ∃ h', pm_last kp pc lv st h 0 0 = some (R.1, h') ∧ q_rep R.2.1 R.2.2 h' := by
  unfold qm_last at hk
  unfold pm_last
  split at hk
  · split at hk
    · rename_i x i a r m hs
      split at hk
      · cases hk
      · rename_i hi
        split at hk
        · rename_i hj
          dsimp only
          rw [if_neg hi, q_lo hr hs]
          dsimp only
          rw [if_pos rfl, if_pos (by rw [List.length_map, List.length_range]; exact hj)]
          exact hS _ _ _ _ _ _ _ (q_wl hr hs) hk
        · cases hk
    · cases hk
  · cases hk
theorem qs_alen {kq : qK} {kp : pm_K} (hS : q_S kq kp) {lv : pm_L} {st : List Value} {g : qM} {u : qW} {h : pm_H} {R : Option Value × qM × qW} (hr : q_rep g u h) (xs : List Int32) (pc : Nat) (hk : qm_alen kq pc lv st g u = some R) : ∃ h', pm_alen kp xs pc lv st h 0 0 = some (R.1, h') ∧ q_rep R.2.1 R.2.2 h' := by
  unfold qm_alen at hk
  unfold pm_alen
  split at hk
  · split at hk
    · rename_i a r _ t m hs
      split at hk
      · rename_i e
        dsimp only
        rw [if_neg (show ¬ a = 0 from fun q => by rw [q] at hs; cases hs), q_ar hr hs]
        dsimp only
        rw [if_pos e, List.length_map, List.length_range]
        exact hS _ _ _ _ _ _ _ hr hk
      · cases hk
    · cases hk
  · cases hk
theorem q_cp_ok {g : qM} {u : qW} {h : pm_H} {a b t v na nb n : Nat} (hr : q_rep g u h) (ha : q_sh a = some (.inl (t, na))) (hb : q_sh b = some (.inl (v, nb))) (h1 : n ≤ nb) (h2 : n ≤ na) : q_rep (q_cp g a b n) u (h.set (a - 8) (.inl (t, pm_cpy ((List.range nb).map (g b)) ((List.range na).map (g a)) 0 0 n))) := by
  refine hr.set ha (fun c hc => ?_) (Or.inl rfl) ?_
  · funext i
    unfold q_cp
    cases e : Nat.beq c a with
    | true => exact absurd (Nat.eq_of_beq_eq_true e) hc
    | false => rfl
  · unfold q_cel
    rw [ha]
    dsimp only
    refine congrArg (fun l => some (Sum.inl (t, l))) ?_
    unfold pm_cpy
    apply List.ext_getElem?
    intro i
    rw [List.drop_zero, List.take_zero, List.nil_append, Nat.zero_add]
    by_cases hi : i < n
    · rw [List.getElem?_append_left (by rw [List.length_take, List.length_map, List.length_range]; omega), List.getElem?_take_of_lt hi, q_map_get (by omega), q_map_get (by omega)]
      unfold q_cp
      rw [Nat.beq_refl, Nat.ble_eq_true_of_le hi]
      rfl
    · rw [List.getElem?_append_right (by rw [List.length_take, List.length_map, List.length_range]; omega), List.getElem?_drop, List.length_take, List.length_map, List.length_range, show n + (i - min n nb) = i by omega, List.getElem?_map, List.getElem?_map]
      by_cases hl : i < na
      · rw [List.getElem?_range hl]
        show some (q_cp g a b n a i) = some (g a i)
        unfold q_cp
        rw [Nat.beq_refl]
        cases e : Nat.ble (i + 1) n with
        | true => exact absurd (Nat.le_of_ble_eq_true e) (by omega)
        | false => rfl
      · rw [List.getElem?_eq_none (by rw [List.length_range]; omega)]
        rfl
theorem qs_copy {kq : qK} {kp : pm_K} (hS : q_S kq kp) {lv : pm_L} {st : List Value} {g : qM} {u : qW} {h : pm_H} {R : Option Value × qM × qW} (hr : q_rep g u h) (pc : Nat) (hk : qm_copy kq pc lv st g u = some R) : ∃ h', pm_copy kp pc lv st h 0 0 = some (R.1, h') ∧ q_rep R.2.1 R.2.2 h' := by
  unfold qm_copy at hk
  unfold pm_copy
  split at hk
  · rename_i n dp a sp b
    split at hk
    · rename_i e1
      subst e1
      split at hk
      · rename_i e2
        subst e2
        split at hk
        · cases hk
        · rename_i hn
          split at hk
          · rename_i t na v nb ha hb
            split at hk
            · rename_i e
              obtain ⟨e1, e2⟩ := e
              subst e1
              subst e2
              split at hk
              · rename_i h1
                split at hk
                · rename_i h2
                  dsimp only
                  rw [if_neg (by decide), if_neg (by decide), if_neg hn, q_ar hr ha, q_ar hr hb]
                  dsimp only
                  rw [if_pos ⟨rfl, rfl⟩, if_pos (by rw [List.length_map, List.length_range]; show 0 + n.toNatClampNeg ≤ nb; omega), if_pos (by rw [List.length_map, List.length_range]; show 0 + n.toNatClampNeg ≤ na; omega)]
                  exact hS _ _ _ _ _ _ _ (q_cp_ok hr ha hb h1 h2) hk
                · cases hk
              · cases hk
            · cases hk
          · cases hk
      · cases hk
    · cases hk
  · cases hk
theorem qs_call {kq : qK} {kp : pm_K} (hS : q_S kq kp) {lv : pm_L} {g : qM} {u : qW} {h : pm_H} {R : Option Value × qM × qW} (hr : q_rep g u h) {bq : Nat → List Value → qM → qW → qR} {bp : Nat → List Value → pm_H → pm_R} (hB : ∀ M2 as g u h R, q_rep g u h → bq M2 as g u = some R → ∃ h', bp M2 as h = some (R.1, h') ∧ q_rep R.2.1 R.2.2 h') (mm m2 : pm_M) (M2 pc : Nat) (as rest : List Value) (hk : qm_call kq bq m2 M2 pc lv as rest g u = some R) : ∃ h', pm_call kp bp mm m2 M2 pc lv as rest h 0 0 = some (R.1, h') ∧ q_rep R.2.1 R.2.2 h' := by
  unfold qm_call at hk
  unfold pm_call
  split at hk
  · rename_i e1
    split at hk
    · rename_i e2
      split at hk
      · rename_i e3
        rw [if_pos e1, e2, e3, if_pos (Nat.zero_le _), if_pos (Nat.zero_le _)]
        split at hk
        · rename_i r g' u' hb
          obtain ⟨h1, hb1, hr1⟩ := hB _ _ _ _ _ _ hr hb
          rw [hb1]
          exact hS _ _ _ _ _ _ _ hr1 hk
        · cases hk
      · cases hk
    · cases hk
  · cases hk
theorem qs_inv {kq : qK} {kp : pm_K} (hS : q_S kq kp) {lv : pm_L} {st : List Value} {g : qM} {u : qW} {h : pm_H} {R : Option Value × qM × qW} (hr : q_rep g u h) {bq : Nat → List Value → qM → qW → qR} {bp : Nat → List Value → pm_H → pm_R} (hB : ∀ M2 as g u h R, q_rep g u h → bq M2 as g u = some R → ∃ h', bp M2 as h = some (R.1, h') ∧ q_rep R.2.1 R.2.2 h') (tab : Nat → Option pm_M) (mm : pm_M) (M2 pc : Nat) (hk : qm_inv kq tab bq M2 pc lv st g u = some R) : ∃ h', pm_inv kp tab bp mm M2 pc lv st h 0 0 = some (R.1, h') ∧ q_rep R.2.1 R.2.2 h' := by
  unfold qm_inv at hk
  unfold pm_inv
  split at hk
  · cases hk
  · rename_i m2 hm
    rw [hm]
    dsimp only
    split at hk
    · rename_i hl
      rw [if_pos hl]
      split at hk
      · rename_i a as hst
        rw [hst]
        dsimp only
        split at hk
        · rename_i cj fs hs
          rw [q_ob hr hs]
          dsimp only
          split at hk
          · rename_i e
            rw [if_pos e]
            exact qs_call hS hr hB _ _ _ _ _ _ hk
          · cases hk
        · cases hk
      · cases hk
    · cases hk
theorem qs_ins {kq : qK} {kp : pm_K} (hS : q_S kq kp) {lv : pm_L} {st : List Value} {g : qM} {u : qW} {h : pm_H} {R : Option Value × qM × qW} (hr : q_rep g u h) {bq : Nat → List Value → qM → qW → qR} {bp : Nat → List Value → pm_H → pm_R} (hB : ∀ M2 as g u h R, q_rep g u h → bq M2 as g u = some R → ∃ h', bp M2 as h = some (R.1, h') ∧ q_rep R.2.1 R.2.2 h') (tab : Nat → Option pm_M) (mm : pm_M) (M2 pc : Nat) (hk : qm_ins kq tab bq M2 pc lv st g u = some R) : ∃ h', pm_ins kp tab bp mm M2 pc lv st h 0 0 = some (R.1, h') ∧ q_rep R.2.1 R.2.2 h' := by
  unfold qm_ins at hk
  unfold pm_ins
  split at hk
  · cases hk
  · rename_i m2 hm
    rw [hm]
    dsimp only
    split at hk
    · rename_i hl
      rw [if_pos hl]
      exact qs_call hS hr hB _ _ _ _ _ _ hk
    · cases hk
theorem qs_ret {mm : pm_M} {st : List Value} {g : qM} {u : qW} {h : pm_H} {R : Option Value × qM × qW} (hr : q_rep g u h) (hk : qm_ret mm st g u = some R) : ∃ h', pm_ret mm st h = some (R.1, h') ∧ q_rep R.2.1 R.2.2 h' := by
  unfold qm_ret at hk
  unfold pm_ret
  (repeat' split at hk) <;> first
    | (cases hk; exact ⟨h, by simp only [*], hr⟩)
    | (cases hk; exact ⟨h, rfl, hr⟩)
    | (cases hk; done)
theorem qs_retl {mm : pm_M} {st : List Value} {g : qM} {u : qW} {h : pm_H} {R : Option Value × qM × qW} (hr : q_rep g u h) (hk : qm_retl mm st g u = some R) : ∃ h', pm_retl mm st h = some (R.1, h') ∧ q_rep R.2.1 R.2.2 h' := by
  unfold qm_retl at hk
  unfold pm_retl
  (repeat' split at hk) <;> first
    | (cases hk; exact ⟨h, by simp only [*], hr⟩)
    | (cases hk; exact ⟨h, rfl, hr⟩)
    | (cases hk; done)
theorem qs_reta {mm : pm_M} {st : List Value} {g : qM} {u : qW} {h : pm_H} {R : Option Value × qM × qW} (hr : q_rep g u h) (hk : qm_reta mm st g u = some R) : ∃ h', pm_reta mm st h = some (R.1, h') ∧ q_rep R.2.1 R.2.2 h' := by
  unfold qm_reta at hk
  unfold pm_reta
  (repeat' split at hk) <;> first
    | (cases hk; exact ⟨h, by simp only [*], hr⟩)
    | (cases hk; exact ⟨h, rfl, hr⟩)
    | (cases hk; done)
theorem qs_retv {mm : pm_M} {st : List Value} {g : qM} {u : qW} {h : pm_H} {R : Option Value × qM × qW} (hr : q_rep g u h) (hk : qm_retv mm st g u = some R) : ∃ h', pm_retv mm st h = some (R.1, h') ∧ q_rep R.2.1 R.2.2 h' := by
  unfold qm_retv at hk
  unfold pm_retv
  (repeat' split at hk) <;> first
    | (cases hk; exact ⟨h, by simp only [*], hr⟩)
    | (cases hk; exact ⟨h, rfl, hr⟩)
    | (cases hk; done)
theorem qs_step {xs : List Int32} {tab : Nat → Option pm_M} {mm : pm_M} {e : pm_E} {pc : Nat} {kq : qK} {kp : pm_K} (hS : q_S kq kp) {lv : pm_L} {st : List Value} {g : qM} {u : qW} {h : pm_H} {R : Option Value × qM × qW} (hr : q_rep g u h) {bq : Nat → List Value → qM → qW → qR} {bp : Nat → List Value → pm_H → pm_R} (hB : ∀ M2 as g u h R, q_rep g u h → bq M2 as g u = some R → ∃ h', bp M2 as h = some (R.1, h') ∧ q_rep R.2.1 R.2.2 h') (hk : qm_step tab bq mm kq e pc lv st g u = some R) : ∃ h', pm_step xs tab bp mm kp e pc lv st h 0 0 = some (R.1, h') ∧ q_rep R.2.1 R.2.2 h' := by
  obtain ⟨i, a, b, z⟩ := e
  cases i with
  | iconst n => exact hS _ _ _ _ _ _ _ hr hk
  | bipush n => exact hS _ _ _ _ _ _ _ hr hk
  | sipush n => exact hS _ _ _ _ _ _ _ hr hk
  | lconst n => exact hS _ _ _ _ _ _ _ hr hk
  | ldc2_w ix => exact hS _ _ _ _ _ _ _ hr hk
  | iload_n i => exact qs_ldi hS hr _ _ hk
  | iload i => exact qs_ldi hS hr _ _ hk
  | lload_n i => exact qs_ldl hS hr _ _ hk
  | lload i => exact qs_ldl hS hr _ _ hk
  | aload_n i => exact qs_lda hS hr _ _ hk
  | aload i => exact qs_lda hS hr _ _ hk
  | istore_n i => exact qs_sti hS hr _ _ _ hk
  | istore i => exact qs_sti hS hr _ _ _ hk
  | lstore_n i => exact qs_stl hS hr _ _ _ hk
  | lstore i => exact qs_stl hS hr _ _ _ hk
  | astore_n i => exact qs_sta hS hr _ _ _ hk
  | astore i => exact qs_sta hS hr _ _ _ hk
  | iinc i n => exact qs_iinc hS hr _ _ _ _ hk
  | iadd => exact qs_bi hS hr _ _ hk
  | isub => exact qs_bi hS hr _ _ hk
  | imul => exact qs_bi hS hr _ _ hk
  | iand => exact qs_bi hS hr _ _ hk
  | ior => exact qs_bi hS hr _ _ hk
  | ixor => exact qs_bi hS hr _ _ hk
  | ishl => exact qs_bi hS hr _ _ hk
  | ishr => exact qs_bi hS hr _ _ hk
  | iushr => exact qs_bi hS hr _ _ hk
  | idiv => exact qs_bz hS hr _ _ hk
  | irem => exact qs_bz hS hr _ _ hk
  | ladd => exact qs_bl hS hr _ _ hk
  | lmul => exact qs_bl hS hr _ _ hk
  | ldiv => exact qs_blz hS hr _ _ hk
  | lrem => exact qs_blz hS hr _ _ hk
  | ineg => exact qs_u hS hr _ _ hk
  | i2b => exact qs_u hS hr _ _ hk
  | i2s => exact qs_u hS hr _ _ hk
  | i2l => exact qs_i2l hS hr _ hk
  | lcmp => exact qs_lcmp hS hr _ hk
  | dup => exact qs_dup hS hr _ hk
  | dup2 => exact qs_dup2 hS hr _ hk
  | pop => exact qs_pop hS hr _ hk
  | pop2 => exact qs_pop2 hS hr _ hk
  | ifCond cd ix => exact qs_if hS hr _ _ _ hk
  | if_icmp cd ix => exact qs_ic hS hr _ _ _ hk
  | goto ix => exact hS _ _ _ _ _ _ _ hr hk
  | tableswitch d lo hi offs => exact qs_tsw hS hr _ _ _ _ _ hk
  | getfield ix => exact qs_getf hS hr _ _ _ hk
  | putfield ix => exact qs_putf hS hr _ _ _ hk
  | iaload => exact qs_iald hS hr _ _ hk
  | baload => exact qs_bald hS hr _ hk
  | laload => exact qs_lald hS hr _ hk
  | aaload => exact qs_aald hS hr _ hk
  | iastore => exact qs_iast hS hr _ hk
  | bastore => exact qs_bast hS hr _ hk
  | lastore => exact qs_last hS hr _ hk
  | arraylength => exact qs_alen hS hr _ _ hk
  | ireturn => exact qs_ret hr hk
  | lreturn => exact qs_retl hr hk
  | areturn => exact qs_reta hr hk
  | return_ => exact qs_retv hr hk
  | ldc ix =>
    have hk1 : (if a = 0 then kq (pc + 2) lv (.int (Int32.ofInt z) :: st) g u else if a = 1 then qm_ldcs kq b pc lv st g u else none) = some R := hk
    show ∃ h', (if a = 0 then kp (pc + 2) lv (.int (Int32.ofInt z) :: st) h 0 0 else if a = 1 then pm_ldcs kp b pc lv st h 0 0 else none) = some (R.1, h') ∧ q_rep R.2.1 R.2.2 h'
    split at hk1
    · rename_i e
      rw [if_pos e]
      exact hS _ _ _ _ _ _ _ hr hk1
    · rename_i e
      rw [if_neg e]
      split at hk1
      · rename_i e2
        rw [if_pos e2]
        exact qs_ldcs hS hr _ _ hk1
      · cases hk1
  | ldc_w ix =>
    have hk1 : (if a = 0 then kq (pc + 3) lv (.int (Int32.ofInt z) :: st) g u else none) = some R := hk
    show ∃ h', (if a = 0 then kp (pc + 3) lv (.int (Int32.ofInt z) :: st) h 0 0 else none) = some (R.1, h') ∧ q_rep R.2.1 R.2.2 h'
    split at hk1
    · rename_i e
      rw [if_pos e]
      exact hS _ _ _ _ _ _ _ hr hk1
    · cases hk1
  | invokevirtual ix =>
    have hk1 : (if b = 0 then qm_inv kq tab bq a pc lv st g u else if b = 4 then qm_slen kq pc lv st g u else if b = 5 then qm_sch kq pc lv st g u else none) = some R := hk
    show ∃ h', (if b = 0 then pm_inv kp tab bp mm a pc lv st h 0 0 else if b = 4 then pm_slen kp pc lv st h 0 0 else if b = 5 then pm_sch kp pc lv st h 0 0 else none) = some (R.1, h') ∧ q_rep R.2.1 R.2.2 h'
    split at hk1
    · rename_i e
      rw [if_pos e]
      exact qs_inv hS hr hB _ _ _ _ hk1
    · rename_i e
      rw [if_neg e]
      split at hk1
      · rename_i e2
        rw [if_pos e2]
        exact qs_slen hS hr _ hk1
      · rename_i e2
        rw [if_neg e2]
        split at hk1
        · rename_i e3
          rw [if_pos e3]
          exact qs_sch hS hr _ hk1
        · cases hk1
  | invokespecial ix =>
    have hk1 : (if b = 1 then qm_inv kq tab bq a pc lv st g u else none) = some R := hk
    show ∃ h', (if b = 1 then pm_inv kp tab bp mm a pc lv st h 0 0 else if b = 9 then pm_obj kp pc lv st h 0 0 else none) = some (R.1, h') ∧ q_rep R.2.1 R.2.2 h'
    split at hk1
    · rename_i e
      rw [if_pos e]
      exact qs_inv hS hr hB _ _ _ _ hk1
    · cases hk1
  | invokestatic ix =>
    have hk1 : (if b = 8 then qm_copy kq pc lv st g u else if b = 2 ∨ b = 3 then qm_ins kq tab bq a pc lv st g u else none) = some R := hk
    show ∃ h', (if b = 8 then pm_copy kp pc lv st h 0 0 else if b = 2 ∨ b = 3 then pm_ins kp tab bp mm a pc lv st h 0 0 else none) = some (R.1, h') ∧ q_rep R.2.1 R.2.2 h'
    split at hk1
    · rename_i e
      rw [if_pos e]
      exact qs_copy hS hr _ hk1
    · rename_i e
      rw [if_neg e]
      split at hk1
      · rename_i e2
        rw [if_pos e2]
        exact qs_ins hS hr hB _ _ _ _ hk1
      · cases hk1
  | _ => exact absurd (show (none : qR) = some R from hk) (fun q => by cases q)
theorem qs_run {xs : List Int32} {tab : Nat → Option pm_M} {mm : pm_M} {bq : Nat → List Value → qM → qW → qR} {bp : Nat → List Value → pm_H → pm_R} (hB : ∀ M2 as g u h R, q_rep g u h → bq M2 as g u = some R → ∃ h', bp M2 as h = some (R.1, h') ∧ q_rep R.2.1 R.2.2 h') : ∀ n, q_S (qm_run tab bq mm n) (pm_run xs tab bp mm n)
  | 0 => fun _ _ _ _ _ _ _ _ hk => by cases hk
  | n + 1 => fun pc lv st g u h R hr hk => by
    have hk1 : (match pm_at mm pc with
      | some e => qm_step tab bq mm (qm_run tab bq mm n) e pc lv st g u
      | none => none) = some R := hk
    show ∃ h', (match pm_at mm pc with
      | some e => pm_step xs tab bp mm (pm_run xs tab bp mm n) e pc lv st h 0 0
      | none => none) = some (R.1, h') ∧ q_rep R.2.1 R.2.2 h'
    split at hk1
    · rename_i e he
      exact qs_step (qs_run hB n) hr hB hk1
    · cases hk1
theorem qs_big {xs : List Int32} {tab : Nat → Option pm_M} {N : Nat} : ∀ d M as g u h R, q_rep g u h → qm_big tab N d M as g u = some R → ∃ h', pm_big xs tab N d M as h = some (R.1, h') ∧ q_rep R.2.1 R.2.2 h'
  | 0, _, _, _, _, _, _, _, hk => by cases hk
  | d + 1, M, as, g, u, h, R, hr, hk => by
    have hk1 : (match tab M with
      | some mm => if pm_words as ≤ pm_ml mm then (if as.length = pm_n mm then qm_run tab (qm_big tab N d) mm N 0 (lv_args 0 as) [] g u else none) else none
      | none => none) = some R := hk
    show ∃ h', (match tab M with
      | some mm => if pm_words as ≤ pm_ml mm then (if as.length = pm_n mm then pm_run xs tab (pm_big xs tab N d) mm N 0 (lv_args 0 as) [] h 0 0 else none) else none
      | none => none) = some (R.1, h') ∧ q_rep R.2.1 R.2.2 h'
    split at hk1
    · rename_i mm hm
      split at hk1
      · rename_i e1
        rw [if_pos e1]
        split at hk1
        · rename_i e2
          rw [if_pos e2]
          exact qs_run (fun M2 as g u h R hr hk => qs_big d M2 as g u h R hr hk) N _ _ _ _ _ _ _ hr hk1
        · cases hk1
      · cases hk1
    · cases hk1
