/-! THE PURE MACHINE OVER INTERVALS: an int is (lo, hi). A run of it over boxes is a run of the pure machine at every point of them. -/
/-- how many cells, and those that aren't as am_base has them -/
abbrev am_H : Type := Nat × List (Nat × am_C)
abbrev am_L : Type := List (Nat × am_V)
abbrev am_R : Type := Option (Option am_V × am_H)
abbrev am_K : Type := Nat → am_L → List am_V → am_H → Nat → Nat → am_R
def am_cat (v : am_V) : Nat := match v with
  | .inr (.inl _) => 2
  | _ => 1
def am_b (f : Int32 → Int32 → Int32) (a b : am_I) : am_I := if a.1 = a.2 ∧ b.1 = b.2 then ((f (Int32.ofInt a.1) (Int32.ofInt b.1)).toInt, (f (Int32.ofInt a.1) (Int32.ofInt b.1)).toInt) else am_top
def am_bl (f : Int64 → Int64 → Int64) (a b : am_I) : am_I := if a.1 = a.2 ∧ b.1 = b.2 then ((f (Int64.ofInt a.1) (Int64.ofInt b.1)).toInt, (f (Int64.ofInt a.1) (Int64.ofInt b.1)).toInt) else am_topl
/-- a sum of longs, if it stays within 64 bits -/
def am_addl (a b : am_I) : am_I := if -9223372036854775808 ≤ a.1 + b.1 ∧ a.2 + b.2 ≤ 9223372036854775807 then (a.1 + b.1, a.2 + b.2) else am_bl (fun x y => x + y) a b
def am_u (f : Int32 → Int32) (a : am_I) : am_I := if a.1 = a.2 then ((f (Int32.ofInt a.1)).toInt, (f (Int32.ofInt a.1)).toInt) else am_top
def am_nrm (lo hi : Int) : am_I := if -2147483648 ≤ lo ∧ hi ≤ 2147483647 then (lo, hi) else if hi < -2147483648 ∧ -6442450944 ≤ lo then (lo + 4294967296, hi + 4294967296) else if 2147483647 < lo ∧ hi ≤ 6442450943 then (lo - 4294967296, hi - 4294967296) else am_top
def am_add (a b : am_I) : am_I := am_nrm (a.1 + b.1) (a.2 + b.2)
def am_sub (a b : am_I) : am_I := am_nrm (a.1 - b.2) (a.2 - b.1)
def am_neg (a : am_I) : am_I := am_nrm (-a.2) (-a.1)
def am_and (a b : am_I) : am_I := if a.1 = a.2 ∧ b.1 = b.2 then am_b (fun x y => x &&& y) a b else if b = (63, 63) then (0, 63) else if b = (3, 3) then (0, 3) else if b = (1, 1) then (0, 1) else if b = (32767, 32767) then (0, 32767) else am_top
def am_mul (a b : am_I) : am_I := if 0 ≤ a.1 ∧ 0 ≤ b.1 ∧ a.2 ≤ 32767 ∧ b.2 ≤ 32767 then (a.1 * b.1, a.2 * b.2) else am_b (fun x y => x * y) a b
def am_rem (a b : am_I) : am_I := if a.1 = a.2 ∧ b.1 = b.2 then am_b (fun x y => x - x / y * y) a b else if 0 ≤ a.1 ∧ 1 ≤ b.1 then (0, if a.2 ≤ b.2 - 1 then a.2 else b.2 - 1) else am_top
def am_div (a b : am_I) : am_I := if a.1 = a.2 ∧ b.1 = b.2 then am_b (fun x y => x / y) a b else if 0 ≤ a.1 ∧ 1 ≤ b.1 then (0, a.2 / b.1) else am_top
def am_ix (a : am_I) : Option Nat := if a.1 = a.2 ∧ 0 ≤ a.1 then some a.1.toNat else none
def am_g (h : am_H) (i : Nat) : Option am_C := if i < h.1 then (match h.2.lookup i with
  | some C => some C
  | none => am_base i) else none
def am_hul (a b : am_I) : am_I := (if a.1 ≤ b.1 then a.1 else b.1, if a.2 ≤ b.2 then b.2 else a.2)
/-- what an index that is a box can read -/
def am_hl : List am_I → am_I
  | [] => (0, 0)
  | [a] => a
  | a :: r => am_hul a (am_hl r)
/-- a box that lies in a row of n -/
def am_wx (a : am_I) (n : Nat) : Bool := decide (0 ≤ a.1) && decide (a.2 < (n : Int))
def am_cell (h : am_H) (a : Nat) : Option am_C := if a < 8 then none else am_g h (a - 8)
def am_up (i : Nat) (C : am_C) : List (Nat × am_C) → List (Nat × am_C)
  | [] => [(i, C)]
  | q :: r => if q.1 = i then (i, C) :: r else q :: am_up i C r
def am_st (h : am_H) (i : Nat) (C : am_C) : am_H := (h.1, am_up i C h.2)
def am_ps (h : am_H) (C : am_C) : Option am_H := some (h.1 + 1, am_up h.1 C h.2)
def am_s1 (lv : am_L) (i : Nat) (v : am_V) : am_L := pm_plc i v (lv.filter (fun q => !(q.1 == i) && !(q.1 + 1 == i && am_cat q.2 == 2)))
def am_s2 (lv : am_L) (i : Nat) (v : am_V) : am_L := pm_plc i v (lv.filter (fun q => !(q.1 == i) && (!(q.1 == i + 1) && !(q.1 + 1 == i && am_cat q.2 == 2))))
def am_fit : FieldType → am_V → Bool
  | .int, .inl _ => true
  | .long, .inr (.inl _) => true
  | .boolean, .inl a => decide (0 ≤ a.1) && decide (a.2 ≤ 1)
  | .object _, .inr (.inr (some _)) => true
  | .array _, .inr (.inr (some _)) => true
  | _, _ => false
def am_dec (cd : ClassFile.Cond) (a b : am_I) : Option Bool := match cd with
  | .eq => if a.2 < b.1 ∨ b.2 < a.1 then some false else if a.1 = a.2 ∧ b.1 = b.2 ∧ a.1 = b.1 then some true else none
  | .ne => if a.2 < b.1 ∨ b.2 < a.1 then some true else if a.1 = a.2 ∧ b.1 = b.2 ∧ a.1 = b.1 then some false else none
  | .lt => if a.2 < b.1 then some true else if b.2 ≤ a.1 then some false else none
  | .ge => if b.2 ≤ a.1 then some true else if a.2 < b.1 then some false else none
  | .gt => if b.2 < a.1 then some true else if a.2 ≤ b.1 then some false else none
  | .le => if a.2 ≤ b.1 then some true else if b.2 < a.1 then some false else none
def am_z (ci : Nat) : List am_V := (kZ ci).map (fun v => match v with
  | .int _ => .inl (0, 0)
  | _ => .inr (.inr none))
/-! boxes alike -/
def aeI (a b : am_I) : Bool := decide (a.1 = b.1) && decide (a.2 = b.2)
theorem aeI_ok {a b : am_I} (h : aeI a b = true) : a = b := by
  unfold aeI at h
  rw [Bool.and_eq_true] at h
  exact Prod.ext (of_decide_eq_true h.1) (of_decide_eq_true h.2)
def aeV : am_V → am_V → Bool
  | .inl a, .inl b => aeI a b
  | .inr (.inl a), .inr (.inl b) => aeI a b
  | .inr (.inr a), .inr (.inr b) => decide (a = b)
  | _, _ => false
theorem aeV_ok {a b : am_V} (h : aeV a b = true) : a = b := by
  unfold aeV at h
  split at h
  · rw [aeI_ok h]
  · rw [aeI_ok h]
  · rw [of_decide_eq_true h]
  · cases h
def aeL {α : Type} (e : α → α → Bool) : List α → List α → Bool
  | [], [] => true
  | a :: l, b :: m => e a b && aeL e l m
  | _, _ => false
theorem aeL_ok {α : Type} {e : α → α → Bool} (he : ∀ a b, e a b = true → a = b) : ∀ {l m : List α}, aeL e l m = true → l = m
  | [], [], _ => rfl
  | a :: l, b :: m, h => by
    have h1 : e a b = true ∧ aeL e l m = true := by rw [← Bool.and_eq_true]; exact h
    rw [he a b h1.1, aeL_ok he h1.2]
  | [], _ :: _, h => by cases h
  | _ :: _, [], h => by cases h
def aeC : am_C → am_C → Bool
  | .inl (t, l), .inl (u, m) => decide (t = u) && aeL aeI l m
  | .inr (.inl (t, l)), .inr (.inl (u, m)) => decide (t = u) && aeL aeI l m
  | .inr (.inr (.inl (t, l))), .inr (.inr (.inl (u, m))) => decide (t = u) && decide (l = m)
  | .inr (.inr (.inr (t, l))), .inr (.inr (.inr (u, m))) => decide (t = u) && aeL aeV l m
  | _, _ => false
theorem aeC_ok {a b : am_C} (h : aeC a b = true) : a = b := by
  unfold aeC at h
  split at h
  · rw [Bool.and_eq_true] at h
    rw [of_decide_eq_true h.1, aeL_ok (fun _ _ => aeI_ok) h.2]
  · rw [Bool.and_eq_true] at h
    rw [of_decide_eq_true h.1, aeL_ok (fun _ _ => aeI_ok) h.2]
  · rw [Bool.and_eq_true] at h
    rw [of_decide_eq_true h.1, of_decide_eq_true h.2]
  · rw [Bool.and_eq_true] at h
    rw [of_decide_eq_true h.1, aeL_ok (fun _ _ => aeV_ok) h.2]
  · cases h
def aeQ (a b : Nat × am_V) : Bool := decide (a.1 = b.1) && aeV a.2 b.2
theorem aeQ_ok {a b : Nat × am_V} (h : aeQ a b = true) : a = b := by
  unfold aeQ at h
  rw [Bool.and_eq_true] at h
  exact Prod.ext (of_decide_eq_true h.1) (aeV_ok h.2)
def aeO : Option am_V → Option am_V → Bool
  | none, none => true
  | some a, some b => aeV a b
  | _, _ => false
theorem aeO_ok {a b : Option am_V} (h : aeO a b = true) : a = b := by
  unfold aeO at h
  split at h
  · rfl
  · rw [aeV_ok h]
  · cases h
def aeP (a b : Nat × am_C) : Bool := decide (a.1 = b.1) && aeC a.2 b.2
theorem aeP_ok {a b : Nat × am_C} (h : aeP a b = true) : a = b := by
  unfold aeP at h
  rw [Bool.and_eq_true] at h
  exact Prod.ext (of_decide_eq_true h.1) (aeC_ok h.2)
def aeR (a b : Option am_V × am_H) : Bool := aeO a.1 b.1 && (decide (a.2.1 = b.2.1) && aeL aeP a.2.2 b.2.2)
theorem aeR_ok {a b : Option am_V × am_H} (h : aeR a b = true) : a = b := by
  unfold aeR at h
  rw [Bool.and_eq_true, Bool.and_eq_true] at h
  exact Prod.ext (aeO_ok h.1) (Prod.ext (of_decide_eq_true h.2.1) (aeL_ok (fun _ _ => aeP_ok) h.2.2))
/-- one answer of all -/
def am_each {α : Type} (f : α → am_R) : List α → am_R
  | [] => none
  | [a] => f a
  | a :: b :: r => (match f a, am_each f (b :: r) with
    | some R1, some R2 => (match aeR R1 R2 with
      | true => some R1
      | false => none)
    | _, _ => none)
def am_pcs (x : am_I) : List am_I := if x.1 < x.2 ∧ x.2 - x.1 ≤ 64 then (List.range (x.2 - x.1 + 1).toNat).map (fun (j : Nat) => (x.1 + (j : Int), x.1 + (j : Int))) else [x]
abbrev am_B : Type := Nat → List am_V → am_H → Option (List (Option am_V × am_H))
section AStep
variable (k : am_K)
def aq_bi (f : am_I → am_I → am_I) (pc : Nat) (lv : am_L) (st : List am_V) (h : am_H) (c sl : Nat) : am_R := match st with
  | .inl y :: .inl x :: r => k (pc + 1) lv (.inl (f x y) :: r) h c sl
  | _ => none
def aq_bz (f : am_I → am_I → am_I) (pc : Nat) (lv : am_L) (st : List am_V) (h : am_H) (c sl : Nat) : am_R := match st with
  | .inl y :: .inl x :: r => if y.2 < 0 ∨ 0 < y.1 then k (pc + 1) lv (.inl (f x y) :: r) h c sl else none
  | _ => none
def aq_bl (f : Int64 → Int64 → Int64) (pc : Nat) (lv : am_L) (st : List am_V) (h : am_H) (c sl : Nat) : am_R := match st with
  | .inr (.inl y) :: .inr (.inl x) :: r => k (pc + 1) lv (.inr (.inl (am_bl f x y)) :: r) h c sl
  | _ => none
def aq_bll (f : am_I → am_I → am_I) (pc : Nat) (lv : am_L) (st : List am_V) (h : am_H) (c sl : Nat) : am_R := match st with
  | .inr (.inl y) :: .inr (.inl x) :: r => k (pc + 1) lv (.inr (.inl (f x y)) :: r) h c sl
  | _ => none
def aq_blz (f : Int64 → Int64 → Int64) (pc : Nat) (lv : am_L) (st : List am_V) (h : am_H) (c sl : Nat) : am_R := match st with
  | .inr (.inl y) :: .inr (.inl x) :: r => if y.2 < 0 ∨ 0 < y.1 then k (pc + 1) lv (.inr (.inl (am_bl f x y)) :: r) h c sl else none
  | _ => none
def aq_u (f : Int32 → Int32) (pc : Nat) (lv : am_L) (st : List am_V) (h : am_H) (c sl : Nat) : am_R := match st with
  | .inl x :: r => k (pc + 1) lv (.inl (am_u f x) :: r) h c sl
  | _ => none
def aq_ldi (i npc : Nat) (lv : am_L) (st : List am_V) (h : am_H) (c sl : Nat) : am_R := match lv.lookup i with
  | some (.inl x) => k npc lv (.inl x :: st) h c sl
  | _ => none
def aq_ldl (i npc : Nat) (lv : am_L) (st : List am_V) (h : am_H) (c sl : Nat) : am_R := match lv.lookup i with
  | some (.inr (.inl x)) => k npc lv (.inr (.inl x) :: st) h c sl
  | _ => none
def aq_lda (i npc : Nat) (lv : am_L) (st : List am_V) (h : am_H) (c sl : Nat) : am_R := match lv.lookup i with
  | some (.inr (.inr (some x))) => k npc lv (.inr (.inr (some x)) :: st) h c sl
  | _ => none
def aq_sti (nL i npc : Nat) (lv : am_L) (st : List am_V) (h : am_H) (c sl : Nat) : am_R := match st with
  | .inl x :: r => if i < nL then k npc (am_s1 lv i (.inl x)) r h c sl else none
  | _ => none
/-- an istore that its table marks (1): a box is stored value by value -/
def aq_stp (nL i npc : Nat) (lv : am_L) (st : List am_V) (h : am_H) (c sl : Nat) : am_R := match st with
  | .inl x :: r => if i < nL then am_each (fun y => k npc (am_s1 lv i (.inl y)) r h c sl) (am_pcs x) else none
  | _ => none
def aq_sta (nL i npc : Nat) (lv : am_L) (st : List am_V) (h : am_H) (c sl : Nat) : am_R := match st with
  | .inr (.inr (some x)) :: r => if i < nL then k npc (am_s1 lv i (.inr (.inr (some x)))) r h c sl else none
  | _ => none
def aq_stl (nL i npc : Nat) (lv : am_L) (st : List am_V) (h : am_H) (c sl : Nat) : am_R := match st with
  | .inr (.inl x) :: r => if i + 1 < nL then k npc (am_s2 lv i (.inr (.inl x))) r h c sl else none
  | _ => none
def aq_iinc (nL i : Nat) (n : Int) (pc : Nat) (lv : am_L) (st : List am_V) (h : am_H) (c sl : Nat) : am_R := match lv.lookup i with
  | some (.inl x) => if i < nL then k (pc + 3) (am_s1 lv i (.inl (am_add x ((Int32.ofInt n).toInt, (Int32.ofInt n).toInt)))) st h c sl else none
  | _ => none
def aq_ic (cd : ClassFile.Cond) (tgt pc : Nat) (lv : am_L) (st : List am_V) (h : am_H) (c sl : Nat) : am_R := match st with
  | .inl y :: .inl x :: r => (match am_dec cd x y with
    | some true => k tgt lv r h c sl
    | some false => k (pc + 3) lv r h c sl
    | none => (match k tgt lv r h c sl, k (pc + 3) lv r h c sl with
      | some R1, some R2 => (match aeR R1 R2 with
        | true => some R1
        | false => none)
      | _, _ => none))
  | _ => none
def aq_if (cd : ClassFile.Cond) (tgt pc : Nat) (lv : am_L) (st : List am_V) (h : am_H) (c sl : Nat) : am_R := aq_ic k cd tgt pc lv (.inl (0, 0) :: st) h c sl
def aq_jump (t : Int) (lv : am_L) (st : List am_V) (h : am_H) (c sl : Nat) : am_R := if 0 ≤ t then k t.toNat lv st h c sl else none
def aq_tsw (d lo hi : Int) (offs : Array Int) (pc : Nat) (lv : am_L) (st : List am_V) (h : am_H) (c sl : Nat) : am_R := match st with
  | .inl x :: r => if x.2 < lo then aq_jump k ((pc : Int) + d) lv r h c sl
    else if hi < x.1 then aq_jump k ((pc : Int) + d) lv r h c sl
    else if x.1 = x.2 then (match offs[(x.1 - lo).toNat]? with
      | some off => aq_jump k ((pc : Int) + off) lv r h c sl
      | none => none) else none
  | _ => none
def aq_getf (ci f pc : Nat) (lv : am_L) (st : List am_V) (h : am_H) (c sl : Nat) : am_R := match st with
  | .inr (.inr (some a)) :: r => match am_cell h a with
    | some (.inr (.inr (.inr (cj, fs)))) => if cj = ci then (match fs[f]? with
      | some v => k (pc + 3) lv (v :: r) h c sl
      | none => none) else none
    | _ => none
  | _ => none
def aq_putf (ci f pc : Nat) (lv : am_L) (st : List am_V) (h : am_H) (c sl : Nat) : am_R := match st with
  | v :: .inr (.inr (some a)) :: r => match am_cell h a with
    | some (.inr (.inr (.inr (cj, fs)))) => if cj = ci then (if f < fs.length then (match am_fit (kY ci f) v with
      | true => k (pc + 3) lv r (am_st h (a - 8) (.inr (.inr (.inr (ci, fs.set f v))))) c sl
      | false => none) else none) else none
    | _ => none
  | _ => none
def aq_iald (xs : Option (List am_I)) (pc : Nat) (lv : am_L) (st : List am_V) (h : am_H) (c sl : Nat) : am_R := match st with
  | .inl i :: .inr (.inr (some a)) :: r => (match am_ix i with
    | some n => if a = 0 then (match xs with
        | some xs => (match xs[n]? with
          | some x => k (pc + 1) lv (.inl x :: r) h c sl
          | none => none)
        | none => none)
      else match am_cell h a with
        | some (.inl (t, l)) => if t = 0 then (match l[n]? with
          | some x => k (pc + 1) lv (.inl x :: r) h c sl
          | none => none) else none
        | _ => none
    | none => (match am_cell h a with
        | some (.inl (t, l)) => if t = 0 then (match am_wx i l.length with
          | true => k (pc + 1) lv (.inl (am_hl l) :: r) h c sl
          | false => none) else none
        | _ => none))
  | _ => none
def aq_bald (pc : Nat) (lv : am_L) (st : List am_V) (h : am_H) (c sl : Nat) : am_R := match st with
  | .inl i :: .inr (.inr (some a)) :: r => (match am_ix i with
    | some n => (match am_cell h a with
        | some (.inl (t, l)) => if t = 1 ∨ t = 2 then (match l[n]? with
          | some x => k (pc + 1) lv (.inl x :: r) h c sl
          | none => none) else none
        | _ => none)
    | none => none)
  | _ => none
def aq_lald (pc : Nat) (lv : am_L) (st : List am_V) (h : am_H) (c sl : Nat) : am_R := match st with
  | .inl i :: .inr (.inr (some a)) :: r => (match am_ix i with
    | some n => (match am_cell h a with
        | some (.inr (.inl (t, l))) => if t = 3 then (match l[n]? with
          | some x => k (pc + 1) lv (.inr (.inl x) :: r) h c sl
          | none => none) else none
        | _ => none)
    | none => none)
  | _ => none
def aq_aald (pc : Nat) (lv : am_L) (st : List am_V) (h : am_H) (c sl : Nat) : am_R := match st with
  | .inl i :: .inr (.inr (some a)) :: r => (match am_ix i with
    | some n => (match am_cell h a with
        | some (.inr (.inr (.inl (t, l)))) => if t = 4 ∨ t = 5 then (match l[n]? with
          | some (some x) => k (pc + 1) lv (.inr (.inr (some x)) :: r) h c sl
          | _ => none) else none
        | _ => none)
    | none => none)
  | _ => none
def aq_iast (pc : Nat) (lv : am_L) (st : List am_V) (h : am_H) (c sl : Nat) : am_R := match st with
  | .inl x :: .inl i :: .inr (.inr (some a)) :: r => (match am_ix i with
    | some n => (match am_cell h a with
        | some (.inl (t, l)) => if t = 0 then (if n < l.length then k (pc + 1) lv r (am_st h (a - 8) (.inl (0, l.set n x))) c sl else none) else none
        | _ => none)
    | none => (match am_cell h a with
        | some (.inl (t, l)) => if t = 0 then (match am_wx i l.length with
          | true => k (pc + 1) lv r (am_st h (a - 8) (.inl (0, l.map (fun b => am_hul b x)))) c sl
          | false => none) else none
        | _ => none))
  | _ => none
def aq_bast (pc : Nat) (lv : am_L) (st : List am_V) (h : am_H) (c sl : Nat) : am_R := match st with
  | .inl x :: .inl i :: .inr (.inr (some a)) :: r => (match am_ix i with
    | some n => (match am_cell h a with
        | some (.inl (t, l)) => if t = 1 then (if n < l.length then k (pc + 1) lv r (am_st h (a - 8) (.inl (1, l.set n (am_u (fun x => x.toInt8.toInt32) x)))) c sl else none)
          else if t = 2 then (if n < l.length then k (pc + 1) lv r (am_st h (a - 8) (.inl (2, l.set n (am_u (fun x => x &&& 1) x)))) c sl else none) else none
        | _ => none)
    | none => none)
  | _ => none
def aq_last (pc : Nat) (lv : am_L) (st : List am_V) (h : am_H) (c sl : Nat) : am_R := match st with
  | .inr (.inl x) :: .inl i :: .inr (.inr (some a)) :: r => (match am_ix i with
    | some n => (match am_cell h a with
        | some (.inr (.inl (t, l))) => if t = 3 then (if n < l.length then k (pc + 1) lv r (am_st h (a - 8) (.inr (.inl (3, l.set n x)))) c sl else none) else none
        | _ => none)
    | none => none)
  | _ => none
def aq_aast (pc : Nat) (lv : am_L) (st : List am_V) (h : am_H) (c sl : Nat) : am_R := match st with
  | .inr (.inr (some v)) :: .inl i :: .inr (.inr (some a)) :: r => (match am_ix i with
    | some n => (match am_cell h a with
      | some (.inr (.inr (.inl (t, l)))) => (match am_cell h v with
        | some (.inr (.inr (.inr (cj, _)))) => if t = 4 ∨ t = 5 then (if cj = pm_comp t then (if n < l.length then k (pc + 1) lv r (am_st h (a - 8) (.inr (.inr (.inl (t, l.set n (some v)))))) c sl else none) else none) else none
        | _ => none)
      | _ => none)
    | none => none)
  | _ => none
def aq_alen (xs : Option (List am_I)) (pc : Nat) (lv : am_L) (st : List am_V) (h : am_H) (c sl : Nat) : am_R := match st with
  | .inr (.inr (some a)) :: r => if a = 0 then (match xs with
      | some xs => k (pc + 1) lv (.inl ((Int32.ofNat xs.length).toInt, (Int32.ofNat xs.length).toInt) :: r) h c sl
      | none => none) else match am_cell h a with
      | some (.inl (t, l)) => if t < 3 then k (pc + 1) lv (.inl ((Int32.ofNat l.length).toInt, (Int32.ofNat l.length).toInt) :: r) h c sl else none
      | _ => none
  | _ => none
def aq_new (mm : pm_M) (ci pc : Nat) (lv : am_L) (st : List am_V) (h : am_H) (c sl : Nat) : am_R :=
  if c + 1 ≤ pm_c mm then (if sl + kM ci ≤ pm_s mm then (match am_ps h (.inr (.inr (.inr (ci, am_z ci)))) with
    | some h' => k (pc + 3) lv (.inr (.inr (some (8 + h.1))) :: st) h' (c + 1) (sl + kM ci)
    | none => none) else none) else none
def aq_newa (mm : pm_M) (at_ : ArrayType) (pc : Nat) (lv : am_L) (st : List am_V) (h : am_H) (c sl : Nat) : am_R := match st with
  | .inl n :: r => (match am_ix n with
    | some n => if n ≤ 1000000 then (if c + 1 ≤ pm_c mm then (if sl + n ≤ pm_s mm then (match at_ with
      | .int => (match am_ps h (.inl (0, List.replicate n (0, 0))) with
        | some h' => k (pc + 2) lv (.inr (.inr (some (8 + h.1))) :: r) h' (c + 1) (sl + n)
        | none => none)
      | .byte => (match am_ps h (.inl (1, List.replicate n (0, 0))) with
        | some h' => k (pc + 2) lv (.inr (.inr (some (8 + h.1))) :: r) h' (c + 1) (sl + n)
        | none => none)
      | .boolean => (match am_ps h (.inl (2, List.replicate n (0, 0))) with
        | some h' => k (pc + 2) lv (.inr (.inr (some (8 + h.1))) :: r) h' (c + 1) (sl + n)
        | none => none)
      | .long => (match am_ps h (.inr (.inl (3, List.replicate n (0, 0)))) with
        | some h' => k (pc + 2) lv (.inr (.inr (some (8 + h.1))) :: r) h' (c + 1) (sl + n)
        | none => none)
      | _ => none) else none) else none) else none
    | none => none)
  | _ => none
def aq_anew (mm : pm_M) (t pc : Nat) (lv : am_L) (st : List am_V) (h : am_H) (c sl : Nat) : am_R := match st with
  | .inl n :: r => (match am_ix n with
    | some n => if n ≤ 1000000 then (if c + 1 ≤ pm_c mm then (if sl + n ≤ pm_s mm then
      (match am_ps h (.inr (.inr (.inl (t, List.replicate n none)))) with
        | some h' => k (pc + 3) lv (.inr (.inr (some (8 + h.1))) :: r) h' (c + 1) (sl + n)
        | none => none) else none) else none) else none
    | none => none)
  | _ => none
def aq_copy (pc : Nat) (lv : am_L) (st : List am_V) (h : am_H) (c sl : Nat) : am_R := match st with
  | [.inl n, .inl dp, .inr (.inr (some a)), .inl sp, .inr (.inr (some b))] => (match am_ix n, am_ix dp, am_ix sp with
    | some n, some dp, some sp => (match am_cell h a, am_cell h b with
      | some (.inl (t, g)), some (.inl (u, f)) => if t = 0 ∧ u = 0 then (if sp + n ≤ f.length then (if dp + n ≤ g.length then
          k (pc + 3) lv [] (am_st h (a - 8) (.inl (0, pm_cpy f g sp dp n))) c sl else none) else none) else none
      | _, _ => none)
    | _, _, _ => none)
  | _ => none
def aq_call (big : am_B) (mm m2 : pm_M) (M2 : Nat) (pc : Nat) (lv : am_L) (as rest : List am_V) (h : am_H) (c sl : Nat) : am_R :=
  if (rest.map am_cat).sum ≤ 8 then (if c + pm_c m2 ≤ pm_c mm then (if sl + pm_s m2 ≤ pm_s mm then (match big M2 as h with
    | some Rs => am_each (fun (q : Option am_V × am_H) => k (pc + 3) lv (q.1.toList ++ rest) q.2 (c + pm_c m2) (sl + pm_s m2)) Rs
    | none => none) else none) else none) else none
def aq_inv (tab : Nat → Option pm_M) (big : am_B) (mm : pm_M) (M2 : Nat) (pc : Nat) (lv : am_L) (st : List am_V) (h : am_H) (c sl : Nat) : am_R := match tab M2 with
  | none => none
  | some m2 => if pm_n m2 ≤ st.length then (match (st.take (pm_n m2)).reverse with
      | .inr (.inr (some a)) :: as => (match am_cell h a with
        | some (.inr (.inr (.inr (cj, _)))) => if cj = pm_o m2 then aq_call k big mm m2 M2 pc lv (.inr (.inr (some a)) :: as) (st.drop (pm_n m2)) h c sl else none
        | _ => none)
      | _ => none) else none
def aq_ins (tab : Nat → Option pm_M) (big : am_B) (mm : pm_M) (M2 : Nat) (pc : Nat) (lv : am_L) (st : List am_V) (h : am_H) (c sl : Nat) : am_R := match tab M2 with
  | none => none
  | some m2 => if pm_n m2 ≤ st.length then aq_call k big mm m2 M2 pc lv (st.take (pm_n m2)).reverse (st.drop (pm_n m2)) h c sl else none
def aq_obj (pc : Nat) (lv : am_L) (st : List am_V) (h : am_H) (c sl : Nat) : am_R := match st with
  | [.inr (.inr (some _))] => k (pc + 3) lv [] h c sl
  | _ => none
def aq_dup (pc : Nat) (lv : am_L) (st : List am_V) (h : am_H) (c sl : Nat) : am_R := match st with
  | v :: r => if am_cat v = 1 then k (pc + 1) lv (v :: v :: r) h c sl else none
  | _ => none
def aq_dup2 (pc : Nat) (lv : am_L) (st : List am_V) (h : am_H) (c sl : Nat) : am_R := match st with
  | v :: w :: r => if am_cat v = 1 then (if am_cat w = 1 then k (pc + 1) lv (v :: w :: v :: w :: r) h c sl else none) else none
  | _ => none
def aq_pop (pc : Nat) (lv : am_L) (st : List am_V) (h : am_H) (c sl : Nat) : am_R := match st with
  | v :: r => if am_cat v = 1 then k (pc + 1) lv r h c sl else none
  | _ => none
def aq_pop2 (pc : Nat) (lv : am_L) (st : List am_V) (h : am_H) (c sl : Nat) : am_R := match st with
  | v :: r => if am_cat v = 2 then k (pc + 1) lv r h c sl else none
  | _ => none
def am_cmp (a b : am_I) : am_I := (if b.2 < a.1 then 1 else if b.2 ≤ a.1 then 0 else -1, if a.2 < b.1 then -1 else if a.2 ≤ b.1 then 0 else 1)
def aq_lcmp (pc : Nat) (lv : am_L) (st : List am_V) (h : am_H) (c sl : Nat) : am_R := match st with
  | .inr (.inl y) :: .inr (.inl x) :: r => k (pc + 1) lv (.inl (am_cmp x y) :: r) h c sl
  | _ => none
def aq_neg (pc : Nat) (lv : am_L) (st : List am_V) (h : am_H) (c sl : Nat) : am_R := match st with
  | .inl x :: r => k (pc + 1) lv (.inl (am_neg x) :: r) h c sl
  | _ => none
def aq_ldcs (b pc : Nat) (lv : am_L) (st : List am_V) (h : am_H) (c sl : Nat) : am_R := if 1 ≤ b then (if b ≤ 7 then k (pc + 2) lv (.inr (.inr (some b)) :: st) h c sl else none) else none
def aq_slen (pc : Nat) (lv : am_L) (st : List am_V) (h : am_H) (c sl : Nat) : am_R := match st with
  | .inr (.inr (some b)) :: r => if 1 ≤ b then (if b ≤ 7 then (if (r.map am_cat).sum ≤ 8 then k (pc + 3) lv (.inl ((Int32.ofNat (sg_len.getD (b - 1) 0)).toInt, (Int32.ofNat (sg_len.getD (b - 1) 0)).toInt) :: r) h c sl else none) else none) else none
  | _ => none
def aq_sch (pc : Nat) (lv : am_L) (st : List am_V) (h : am_H) (c sl : Nat) : am_R := match st with
  | .inl j :: .inr (.inr (some b)) :: r => if 1 ≤ b then (if b ≤ 7 then (match am_ix j with
    | some i => if i < sg_len.getD (b - 1) 0 then (if (r.map am_cat).sum ≤ 8 then k (pc + 3) lv (.inl (((sg_byt.getD (b - 1) []).getD i 0).toInt, ((sg_byt.getD (b - 1) []).getD i 0).toInt) :: r) h c sl else none) else none
    | none => none) else none) else none
  | _ => none
def aq_i2l (pc : Nat) (lv : am_L) (st : List am_V) (h : am_H) (c sl : Nat) : am_R := match st with
  | .inl x :: r => k (pc + 1) lv (.inr (.inl x) :: r) h c sl
  | _ => none
end AStep
def aq_ret (mm : pm_M) (st : List am_V) (h : am_H) : am_R := match st, pm_rt mm with
  | [.inl v], some ty => (match am_fit ty (.inl v) with
    | true => some (some (.inl v), h)
    | false => none)
  | _, _ => none
def aq_retl (mm : pm_M) (st : List am_V) (h : am_H) : am_R := match st, pm_rt mm with
  | [.inr (.inl v)], some .long => some (some (.inr (.inl v)), h)
  | _, _ => none
def aq_reta (mm : pm_M) (st : List am_V) (h : am_H) : am_R := match st, pm_rt mm with
  | [.inr (.inr (some v))], some (.object _) => some (some (.inr (.inr (some v))), h)
  | _, _ => none
def aq_retv (mm : pm_M) (st : List am_V) (h : am_H) : am_R := match st, pm_rt mm with
  | [], none => some (none, h)
  | _, _ => none
abbrev am_T : Type := Option (List am_I) → (Nat → Option pm_M) → am_B → pm_M → am_K → Nat → Nat → Int → am_K
def am_op (i : Instr) : am_T := match i with
  | .iconst n => fun xs tab big mm k a b z pc lv st h c sl => k (pc + 1) lv (.inl ((Int32.ofInt n).toInt, (Int32.ofInt n).toInt) :: st) h c sl
  | .bipush n => fun xs tab big mm k a b z pc lv st h c sl => k (pc + 2) lv (.inl ((Int8.ofInt n).toInt32.toInt, (Int8.ofInt n).toInt32.toInt) :: st) h c sl
  | .sipush n => fun xs tab big mm k a b z pc lv st h c sl => k (pc + 3) lv (.inl ((Int16.ofInt n).toInt32.toInt, (Int16.ofInt n).toInt32.toInt) :: st) h c sl
  | .lconst n => fun xs tab big mm k a b z pc lv st h c sl => k (pc + 1) lv (.inr (.inl ((Int64.ofNat n).toInt, (Int64.ofNat n).toInt)) :: st) h c sl
  | .ldc _ => fun xs tab big mm k a b z pc lv st h c sl => if a = 0 then k (pc + 2) lv (.inl ((Int32.ofInt z).toInt, (Int32.ofInt z).toInt) :: st) h c sl else if a = 1 then aq_ldcs k b pc lv st h c sl else none
  | .ldc_w _ => fun xs tab big mm k a b z pc lv st h c sl => if a = 0 then k (pc + 3) lv (.inl ((Int32.ofInt z).toInt, (Int32.ofInt z).toInt) :: st) h c sl else none
  | .ldc2_w _ => fun xs tab big mm k a b z pc lv st h c sl => k (pc + 3) lv (.inr (.inl ((Int64.ofInt z).toInt, (Int64.ofInt z).toInt)) :: st) h c sl
  | .iload_n i => fun xs tab big mm k a b z pc lv st h c sl => aq_ldi k i (pc + 1) lv st h c sl
  | .iload i => fun xs tab big mm k a b z pc lv st h c sl => aq_ldi k i (pc + 2) lv st h c sl
  | .lload_n i => fun xs tab big mm k a b z pc lv st h c sl => aq_ldl k i (pc + 1) lv st h c sl
  | .lload i => fun xs tab big mm k a b z pc lv st h c sl => aq_ldl k i (pc + 2) lv st h c sl
  | .aload_n i => fun xs tab big mm k a b z pc lv st h c sl => aq_lda k i (pc + 1) lv st h c sl
  | .aload i => fun xs tab big mm k a b z pc lv st h c sl => aq_lda k i (pc + 2) lv st h c sl
  | .istore_n i => fun xs tab big mm k a b z pc lv st h c sl => if a = 1 then aq_stp k (pm_ml mm) i (pc + 1) lv st h c sl else aq_sti k (pm_ml mm) i (pc + 1) lv st h c sl
  | .istore i => fun xs tab big mm k a b z pc lv st h c sl => if a = 1 then aq_stp k (pm_ml mm) i (pc + 2) lv st h c sl else aq_sti k (pm_ml mm) i (pc + 2) lv st h c sl
  | .lstore_n i => fun xs tab big mm k a b z pc lv st h c sl => aq_stl k (pm_ml mm) i (pc + 1) lv st h c sl
  | .lstore i => fun xs tab big mm k a b z pc lv st h c sl => aq_stl k (pm_ml mm) i (pc + 2) lv st h c sl
  | .astore_n i => fun xs tab big mm k a b z pc lv st h c sl => aq_sta k (pm_ml mm) i (pc + 1) lv st h c sl
  | .astore i => fun xs tab big mm k a b z pc lv st h c sl => aq_sta k (pm_ml mm) i (pc + 2) lv st h c sl
  | .iinc i n => fun xs tab big mm k a b z pc lv st h c sl => aq_iinc k (pm_ml mm) i n pc lv st h c sl
  | .iadd => fun xs tab big mm k a b z pc lv st h c sl => aq_bi k am_add pc lv st h c sl
  | .isub => fun xs tab big mm k a b z pc lv st h c sl => aq_bi k am_sub pc lv st h c sl
  | .imul => fun xs tab big mm k a b z pc lv st h c sl => aq_bi k am_mul pc lv st h c sl
  | .iand => fun xs tab big mm k a b z pc lv st h c sl => aq_bi k am_and pc lv st h c sl
  | .ior => fun xs tab big mm k a b z pc lv st h c sl => aq_bi k (am_b (fun x y => x ||| y)) pc lv st h c sl
  | .ixor => fun xs tab big mm k a b z pc lv st h c sl => aq_bi k (am_b (fun x y => x ^^^ y)) pc lv st h c sl
  | .ishl => fun xs tab big mm k a b z pc lv st h c sl => aq_bi k (am_b (fun x y => x <<< (y &&& 31))) pc lv st h c sl
  | .ishr => fun xs tab big mm k a b z pc lv st h c sl => aq_bi k (am_b (fun x y => x >>> (y &&& 31))) pc lv st h c sl
  | .iushr => fun xs tab big mm k a b z pc lv st h c sl => aq_bi k (am_b (fun x y => (x.toUInt32 >>> (y.toUInt32 &&& Int32.toUInt32 31)).toInt32)) pc lv st h c sl
  | .idiv => fun xs tab big mm k a b z pc lv st h c sl => aq_bz k am_div pc lv st h c sl
  | .irem => fun xs tab big mm k a b z pc lv st h c sl => aq_bz k am_rem pc lv st h c sl
  | .ladd => fun xs tab big mm k a b z pc lv st h c sl => aq_bll k am_addl pc lv st h c sl
  | .lmul => fun xs tab big mm k a b z pc lv st h c sl => aq_bl k (fun x y => x * y) pc lv st h c sl
  | .ldiv => fun xs tab big mm k a b z pc lv st h c sl => aq_blz k (fun x y => x / y) pc lv st h c sl
  | .lrem => fun xs tab big mm k a b z pc lv st h c sl => aq_blz k (fun x y => x - x / y * y) pc lv st h c sl
  | .ineg => fun xs tab big mm k a b z pc lv st h c sl => aq_neg k pc lv st h c sl
  | .i2b => fun xs tab big mm k a b z pc lv st h c sl => aq_u k (fun x => x.toInt8.toInt32) pc lv st h c sl
  | .i2s => fun xs tab big mm k a b z pc lv st h c sl => aq_u k (fun x => x.toInt16.toInt32) pc lv st h c sl
  | .i2l => fun xs tab big mm k a b z pc lv st h c sl => aq_i2l k pc lv st h c sl
  | .lcmp => fun xs tab big mm k a b z pc lv st h c sl => aq_lcmp k pc lv st h c sl
  | .dup => fun xs tab big mm k a b z pc lv st h c sl => aq_dup k pc lv st h c sl
  | .dup2 => fun xs tab big mm k a b z pc lv st h c sl => aq_dup2 k pc lv st h c sl
  | .pop => fun xs tab big mm k a b z pc lv st h c sl => aq_pop k pc lv st h c sl
  | .pop2 => fun xs tab big mm k a b z pc lv st h c sl => aq_pop2 k pc lv st h c sl
  | .ifCond cd _ => fun xs tab big mm k a b z pc lv st h c sl => aq_if k cd a pc lv st h c sl
  | .if_icmp cd _ => fun xs tab big mm k a b z pc lv st h c sl => aq_ic k cd a pc lv st h c sl
  | .goto _ => fun xs tab big mm k a b z pc lv st h c sl => k a lv st h c sl
  | .tableswitch d lo hi offs => fun xs tab big mm k a b z pc lv st h c sl => aq_tsw k d lo hi offs pc lv st h c sl
  | .getfield _ => fun xs tab big mm k a b z pc lv st h c sl => aq_getf k a b pc lv st h c sl
  | .putfield _ => fun xs tab big mm k a b z pc lv st h c sl => aq_putf k a b pc lv st h c sl
  | .iaload => fun xs tab big mm k a b z pc lv st h c sl => aq_iald k xs pc lv st h c sl
  | .baload => fun xs tab big mm k a b z pc lv st h c sl => aq_bald k pc lv st h c sl
  | .laload => fun xs tab big mm k a b z pc lv st h c sl => aq_lald k pc lv st h c sl
  | .aaload => fun xs tab big mm k a b z pc lv st h c sl => aq_aald k pc lv st h c sl
  | .iastore => fun xs tab big mm k a b z pc lv st h c sl => aq_iast k pc lv st h c sl
  | .bastore => fun xs tab big mm k a b z pc lv st h c sl => aq_bast k pc lv st h c sl
  | .lastore => fun xs tab big mm k a b z pc lv st h c sl => aq_last k pc lv st h c sl
  | .aastore => fun xs tab big mm k a b z pc lv st h c sl => aq_aast k pc lv st h c sl
  | .arraylength => fun xs tab big mm k a b z pc lv st h c sl => aq_alen k xs pc lv st h c sl
  | .new _ => fun xs tab big mm k a b z pc lv st h c sl => aq_new k mm a pc lv st h c sl
  | .newarray at_ => fun xs tab big mm k a b z pc lv st h c sl => aq_newa k mm at_ pc lv st h c sl
  | .anewarray _ => fun xs tab big mm k a b z pc lv st h c sl => aq_anew k mm a pc lv st h c sl
  | .invokevirtual _ => fun xs tab big mm k a b z pc lv st h c sl => if b = 0 then aq_inv k tab big mm a pc lv st h c sl else if b = 4 then aq_slen k pc lv st h c sl else if b = 5 then aq_sch k pc lv st h c sl else none
  | .invokespecial _ => fun xs tab big mm k a b z pc lv st h c sl => if b = 1 then aq_inv k tab big mm a pc lv st h c sl else if b = 9 then aq_obj k pc lv st h c sl else none
  | .invokestatic _ => fun xs tab big mm k a b z pc lv st h c sl => if b = 8 then aq_copy k pc lv st h c sl else if b = 2 ∨ b = 3 then aq_ins k tab big mm a pc lv st h c sl else none
  | .ireturn => fun xs tab big mm k a b z pc lv st h c sl => aq_ret mm st h
  | .lreturn => fun xs tab big mm k a b z pc lv st h c sl => aq_retl mm st h
  | .areturn => fun xs tab big mm k a b z pc lv st h c sl => aq_reta mm st h
  | .return_ => fun xs tab big mm k a b z pc lv st h c sl => aq_retv mm st h
  | _ => fun _ _ _ _ _ _ _ _ _ _ _ _ _ _ => none
def am_step (xs : Option (List am_I)) (tab : Nat → Option pm_M) (big : am_B) (mm : pm_M) (k : am_K) (e : pm_E) (pc : Nat) (lv : am_L) (st : List am_V) (h : am_H) (c sl : Nat) : am_R := am_op e.1 xs tab big mm k e.2.1 e.2.2.1 e.2.2.2 pc lv st h c sl
def am_next (xs : Option (List am_I)) (tab : Nat → Option pm_M) (big : am_B) (mm : pm_M) (k : am_K) : am_K := fun pc lv st h c sl => match pm_at mm pc with
  | some e => am_step xs tab big mm k e pc lv st h c sl
  | none => none
noncomputable def am_run (xs : Option (List am_I)) (tab : Nat → Option pm_M) (big : am_B) (mm : pm_M) (k0 : am_K) (n : Nat) : am_K := Nat.rec (motive := fun _ => am_K) k0 (fun _ k => am_next xs tab big mm k) n
def am_words (vs : List am_V) : Nat := (vs.map am_cat).sum
def am_args : Nat → List am_V → am_L
  | _, [] => []
  | i, v :: vs => (i, v) :: am_args (if am_cat v = 2 then i + 2 else i + 1) vs
noncomputable def am_big (xs : Option (List am_I)) (tab : Nat → Option pm_M) (N : Nat) (d : Nat) : Nat → List am_V → am_H → am_R := Nat.rec (motive := fun _ => Nat → List am_V → am_H → am_R) (fun _ _ _ => none) (fun _ big M as h => match tab M with
  | some mm => if am_words as ≤ pm_ml mm then (if as.length = pm_n mm then am_run xs tab (fun M as h => (big M as h).map (fun r => [r])) mm (fun _ _ _ _ _ _ => none) N 0 (am_args 0 as) [] h 0 0 else none) else none
  | none => none) d
