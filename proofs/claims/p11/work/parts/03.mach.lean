section
/-! THE PURE MACHINE. A reference is a number: 0 the script, 8 + i the i-th cell that the run has made. -/
/-- the texts of the seven string constants (references 1 to 7) -/
def sg_len : List Nat := [4, 4, 2, 5, 4, 5, 4]
def sg_byt : List (List Int32) := [[116, 111, 119, 110], [119, 97, 108, 108], [97, 116], [115, 116, 105, 108, 108], [112, 117, 108, 108], [112, 114, 101, 115, 115], [103, 111, 97, 108]]
abbrev pm_C : Type := (Nat × List Int32) ⊕ ((Nat × List Int64) ⊕ ((Nat × List (Option Nat)) ⊕ (Nat × List Value)))
abbrev pm_H : Type := List pm_C
abbrev pm_L : Type := List (Nat × Value)
abbrev pm_R : Type := Option (Option Value × pm_H)
abbrev pm_E : Type := Instr × Nat × Nat × Int
abbrev pm_K : Type := Nat → pm_L → List Value → pm_H → Nat → Nat → pm_R
/-- a method: name, bytes, locals, answer, class, arguments (the receiver too), frames, words, cells, slots, code -/
abbrev pm_M : Type := MethodName × ByteArray × Nat × Option FieldType × Nat × Nat × Nat × Nat × Nat × Nat × List (List (Option pm_E))
def pm_y (m : pm_M) : MethodName := m.1
def pm_b (m : pm_M) : ByteArray := m.2.1
def pm_ml (m : pm_M) : Nat := m.2.2.1
def pm_rt (m : pm_M) : Option FieldType := m.2.2.2.1
def pm_o (m : pm_M) : Nat := m.2.2.2.2.1
def pm_n (m : pm_M) : Nat := m.2.2.2.2.2.1
def pm_f (m : pm_M) : Nat := m.2.2.2.2.2.2.1
def pm_w (m : pm_M) : Nat := m.2.2.2.2.2.2.2.1
def pm_c (m : pm_M) : Nat := m.2.2.2.2.2.2.2.2.1
def pm_s (m : pm_M) : Nat := m.2.2.2.2.2.2.2.2.2.1
def pm_t (m : pm_M) : List (List (Option pm_E)) := m.2.2.2.2.2.2.2.2.2.2
def pm_rm (m : pm_M) : Room := { frames := pm_f m, cells := pm_c m, slots := pm_s m, locals := pm_w m }
def pm_at (m : pm_M) (pc : Nat) : Option pm_E := match (pm_t m)[pc / 16]? with
  | none => none
  | some ch => match ch[pc % 16]? with
    | some (some e) => some e
    | _ => none
def pm_len : Instr → Nat
  | .bipush _ | .ldc _ | .iload _ | .lload _ | .aload _ | .istore _ | .lstore _ | .astore _ | .newarray _ => 2
  | .sipush _ | .ldc_w _ | .ldc2_w _ | .iinc _ _ | .ifCond _ _ | .if_icmp _ _ | .goto _ | .getfield _ | .putfield _ | .invokevirtual _ | .invokespecial _ | .invokestatic _ | .new _ | .anewarray _ => 3
  | _ => 1
def pm_cell (h : pm_H) (a : Nat) : Option pm_C := if a < 8 then none else h[a - 8]?
/-- a place in the order of the numbers -/
def pm_plc {α : Type} (i : Nat) (v : α) : List (Nat × α) → List (Nat × α)
  | [] => [(i, v)]
  | q :: r => if q.1 < i then q :: pm_plc i v r else (i, v) :: q :: r
def pm_s1 (lv : pm_L) (i : Nat) (v : Value) : pm_L := pm_plc i v (lv.filter (fun q => !(q.1 == i) && !(q.1 + 1 == i && q.2.category == 2)))
def pm_s2 (lv : pm_L) (i : Nat) (v : Value) : pm_L := pm_plc i v (lv.filter (fun q => !(q.1 == i) && (!(q.1 == i + 1) && !(q.1 + 1 == i && q.2.category == 2))))
def pm_fit : FieldType → Value → Bool
  | .int, .int _ => true
  | .long, .long _ => true
  | .boolean, .int v => v == 0 || v == 1
  | .object _, .ref _ => true
  | .array _, .ref _ => true
  | _, _ => false
def pm_cpy {α : Type} (f g : List α) (sp dp n : Nat) : List α := g.take dp ++ ((f.drop sp).take n ++ g.drop (dp + n))
section Step
variable (k : pm_K)
def pm_bi (f : Int32 → Int32 → Int32) (pc : Nat) (lv : pm_L) (st : List Value) (h : pm_H) (c sl : Nat) : pm_R := match st with
  | .int y :: .int x :: r => k (pc + 1) lv (.int (f x y) :: r) h c sl
  | _ => none
def pm_bz (f : Int32 → Int32 → Int32) (pc : Nat) (lv : pm_L) (st : List Value) (h : pm_H) (c sl : Nat) : pm_R := match st with
  | .int y :: .int x :: r => if y = 0 then none else k (pc + 1) lv (.int (f x y) :: r) h c sl
  | _ => none
def pm_bl (f : Int64 → Int64 → Int64) (pc : Nat) (lv : pm_L) (st : List Value) (h : pm_H) (c sl : Nat) : pm_R := match st with
  | .long y :: .long x :: r => k (pc + 1) lv (.long (f x y) :: r) h c sl
  | _ => none
def pm_blz (f : Int64 → Int64 → Int64) (pc : Nat) (lv : pm_L) (st : List Value) (h : pm_H) (c sl : Nat) : pm_R := match st with
  | .long y :: .long x :: r => if y = 0 then none else k (pc + 1) lv (.long (f x y) :: r) h c sl
  | _ => none
def pm_u (f : Int32 → Int32) (pc : Nat) (lv : pm_L) (st : List Value) (h : pm_H) (c sl : Nat) : pm_R := match st with
  | .int x :: r => k (pc + 1) lv (.int (f x) :: r) h c sl
  | _ => none
def pm_ldi (i npc : Nat) (lv : pm_L) (st : List Value) (h : pm_H) (c sl : Nat) : pm_R := match lv.lookup i with
  | some (.int x) => k npc lv (.int x :: st) h c sl
  | _ => none
def pm_ldl (i npc : Nat) (lv : pm_L) (st : List Value) (h : pm_H) (c sl : Nat) : pm_R := match lv.lookup i with
  | some (.long x) => k npc lv (.long x :: st) h c sl
  | _ => none
def pm_lda (i npc : Nat) (lv : pm_L) (st : List Value) (h : pm_H) (c sl : Nat) : pm_R := match lv.lookup i with
  | some (.ref x) => k npc lv (.ref x :: st) h c sl
  | _ => none
def pm_sti (nL i npc : Nat) (lv : pm_L) (st : List Value) (h : pm_H) (c sl : Nat) : pm_R := match st with
  | .int x :: r => if i < nL then k npc (pm_s1 lv i (.int x)) r h c sl else none
  | _ => none
def pm_sta (nL i npc : Nat) (lv : pm_L) (st : List Value) (h : pm_H) (c sl : Nat) : pm_R := match st with
  | .ref x :: r => if i < nL then k npc (pm_s1 lv i (.ref x)) r h c sl else none
  | _ => none
def pm_stl (nL i npc : Nat) (lv : pm_L) (st : List Value) (h : pm_H) (c sl : Nat) : pm_R := match st with
  | .long x :: r => if i + 1 < nL then k npc (pm_s2 lv i (.long x)) r h c sl else none
  | _ => none
def pm_iinc (nL i : Nat) (n : Int) (pc : Nat) (lv : pm_L) (st : List Value) (h : pm_H) (c sl : Nat) : pm_R := match lv.lookup i with
  | some (.int x) => if i < nL then k (pc + 3) (pm_s1 lv i (.int (x + Int32.ofInt n))) st h c sl else none
  | _ => none
def pm_if (cd : ClassFile.Cond) (tgt pc : Nat) (lv : pm_L) (st : List Value) (h : pm_H) (c sl : Nat) : pm_R := match st with
  | .int x :: r => match cd with
    | .eq => if x = 0 then k tgt lv r h c sl else k (pc + 3) lv r h c sl
    | .ne => if x = 0 then k (pc + 3) lv r h c sl else k tgt lv r h c sl
    | .lt => if x < 0 then k tgt lv r h c sl else k (pc + 3) lv r h c sl
    | .ge => if 0 ≤ x then k tgt lv r h c sl else k (pc + 3) lv r h c sl
    | .gt => if 0 < x then k tgt lv r h c sl else k (pc + 3) lv r h c sl
    | .le => if x ≤ 0 then k tgt lv r h c sl else k (pc + 3) lv r h c sl
  | _ => none
def pm_ic (cd : ClassFile.Cond) (tgt pc : Nat) (lv : pm_L) (st : List Value) (h : pm_H) (c sl : Nat) : pm_R := match st with
  | .int y :: .int x :: r => match cd with
    | .eq => if x = y then k tgt lv r h c sl else k (pc + 3) lv r h c sl
    | .ne => if x = y then k (pc + 3) lv r h c sl else k tgt lv r h c sl
    | .lt => if x < y then k tgt lv r h c sl else k (pc + 3) lv r h c sl
    | .ge => if y ≤ x then k tgt lv r h c sl else k (pc + 3) lv r h c sl
    | .gt => if y < x then k tgt lv r h c sl else k (pc + 3) lv r h c sl
    | .le => if x ≤ y then k tgt lv r h c sl else k (pc + 3) lv r h c sl
  | _ => none
def pm_jump (t : Int) (lv : pm_L) (st : List Value) (h : pm_H) (c sl : Nat) : pm_R := if 0 ≤ t then k t.toNat lv st h c sl else none
def pm_tsw (d lo hi : Int) (offs : Array Int) (pc : Nat) (lv : pm_L) (st : List Value) (h : pm_H) (c sl : Nat) : pm_R := match st with
  | .int x :: r => if x.toInt < lo then pm_jump k ((pc : Int) + d) lv r h c sl
    else if hi < x.toInt then pm_jump k ((pc : Int) + d) lv r h c sl
    else match offs[(x.toInt - lo).toNat]? with
      | some off => pm_jump k ((pc : Int) + off) lv r h c sl
      | none => none
  | _ => none
def pm_getf (ci f pc : Nat) (lv : pm_L) (st : List Value) (h : pm_H) (c sl : Nat) : pm_R := match st with
  | .ref a :: r => match pm_cell h a with
    | some (.inr (.inr (.inr (cj, fs)))) => if cj = ci then (match fs[f]? with
      | some v => k (pc + 3) lv (v :: r) h c sl
      | none => none) else none
    | _ => none
  | _ => none
def pm_putf (ci f pc : Nat) (lv : pm_L) (st : List Value) (h : pm_H) (c sl : Nat) : pm_R := match st with
  | v :: .ref a :: r => match pm_cell h a with
    | some (.inr (.inr (.inr (cj, fs)))) => if cj = ci then (if f < fs.length then (match pm_fit (kY ci f) v with
      | true => k (pc + 3) lv r (h.set (a - 8) (.inr (.inr (.inr (ci, fs.set f v))))) c sl
      | false => none) else none) else none
    | _ => none
  | _ => none
def pm_iald (xs : List Int32) (pc : Nat) (lv : pm_L) (st : List Value) (h : pm_H) (c sl : Nat) : pm_R := match st with
  | .int i :: .ref a :: r => if i < 0 then none else if a = 0 then (match xs[i.toNatClampNeg]? with
      | some x => k (pc + 1) lv (.int x :: r) h c sl
      | none => none)
    else match pm_cell h a with
      | some (.inl (t, l)) => if t = 0 then (match l[i.toNatClampNeg]? with
        | some x => k (pc + 1) lv (.int x :: r) h c sl
        | none => none) else none
      | _ => none
  | _ => none
def pm_bald (pc : Nat) (lv : pm_L) (st : List Value) (h : pm_H) (c sl : Nat) : pm_R := match st with
  | .int i :: .ref a :: r => if i < 0 then none else match pm_cell h a with
      | some (.inl (t, l)) => if t = 1 ∨ t = 2 then (match l[i.toNatClampNeg]? with
        | some x => k (pc + 1) lv (.int x :: r) h c sl
        | none => none) else none
      | _ => none
  | _ => none
def pm_lald (pc : Nat) (lv : pm_L) (st : List Value) (h : pm_H) (c sl : Nat) : pm_R := match st with
  | .int i :: .ref a :: r => if i < 0 then none else match pm_cell h a with
      | some (.inr (.inl (t, l))) => if t = 3 then (match l[i.toNatClampNeg]? with
        | some x => k (pc + 1) lv (.long x :: r) h c sl
        | none => none) else none
      | _ => none
  | _ => none
def pm_aald (pc : Nat) (lv : pm_L) (st : List Value) (h : pm_H) (c sl : Nat) : pm_R := match st with
  | .int i :: .ref a :: r => if i < 0 then none else match pm_cell h a with
      | some (.inr (.inr (.inl (t, l)))) => if t = 4 ∨ t = 5 then (match l[i.toNatClampNeg]? with
        | some (some x) => k (pc + 1) lv (.ref x :: r) h c sl
        | _ => none) else none
      | _ => none
  | _ => none
def pm_iast (pc : Nat) (lv : pm_L) (st : List Value) (h : pm_H) (c sl : Nat) : pm_R := match st with
  | .int x :: .int i :: .ref a :: r => if i < 0 then none else match pm_cell h a with
      | some (.inl (t, l)) => if t = 0 then (if i.toNatClampNeg < l.length then k (pc + 1) lv r (h.set (a - 8) (.inl (0, l.set i.toNatClampNeg x))) c sl else none) else none
      | _ => none
  | _ => none
def pm_bast (pc : Nat) (lv : pm_L) (st : List Value) (h : pm_H) (c sl : Nat) : pm_R := match st with
  | .int x :: .int i :: .ref a :: r => if i < 0 then none else match pm_cell h a with
      | some (.inl (t, l)) => if t = 1 then (if i.toNatClampNeg < l.length then k (pc + 1) lv r (h.set (a - 8) (.inl (1, l.set i.toNatClampNeg x.toInt8.toInt32))) c sl else none)
        else if t = 2 then (if i.toNatClampNeg < l.length then k (pc + 1) lv r (h.set (a - 8) (.inl (2, l.set i.toNatClampNeg (x &&& 1)))) c sl else none) else none
      | _ => none
  | _ => none
def pm_last (pc : Nat) (lv : pm_L) (st : List Value) (h : pm_H) (c sl : Nat) : pm_R := match st with
  | .long x :: .int i :: .ref a :: r => if i < 0 then none else match pm_cell h a with
      | some (.inr (.inl (t, l))) => if t = 3 then (if i.toNatClampNeg < l.length then k (pc + 1) lv r (h.set (a - 8) (.inr (.inl (3, l.set i.toNatClampNeg x)))) c sl else none) else none
      | _ => none
  | _ => none
def pm_comp (t : Nat) : Nat := if t = 4 then 4 else 1
def pm_aast (pc : Nat) (lv : pm_L) (st : List Value) (h : pm_H) (c sl : Nat) : pm_R := match st with
  | .ref v :: .int i :: .ref a :: r => if i < 0 then none else match pm_cell h a, pm_cell h v with
      | some (.inr (.inr (.inl (t, l)))), some (.inr (.inr (.inr (cj, _)))) => if t = 4 ∨ t = 5 then (if cj = pm_comp t then (if i.toNatClampNeg < l.length then k (pc + 1) lv r (h.set (a - 8) (.inr (.inr (.inl (t, l.set i.toNatClampNeg (some v)))))) c sl else none) else none) else none
      | _, _ => none
  | _ => none
def pm_alen (xs : List Int32) (pc : Nat) (lv : pm_L) (st : List Value) (h : pm_H) (c sl : Nat) : pm_R := match st with
  | .ref a :: r => if a = 0 then k (pc + 1) lv (.int (Int32.ofNat xs.length) :: r) h c sl else match pm_cell h a with
      | some (.inl (t, l)) => if t < 3 then k (pc + 1) lv (.int (Int32.ofNat l.length) :: r) h c sl else none
      | _ => none
  | _ => none
def pm_new (mm : pm_M) (ci pc : Nat) (lv : pm_L) (st : List Value) (h : pm_H) (c sl : Nat) : pm_R :=
  if c + 1 ≤ pm_c mm then (if sl + kM ci ≤ pm_s mm then k (pc + 3) lv (.ref (8 + h.length) :: st) (h ++ [.inr (.inr (.inr (ci, kZ ci)))]) (c + 1) (sl + kM ci) else none) else none
def pm_newa (mm : pm_M) (at_ : ArrayType) (pc : Nat) (lv : pm_L) (st : List Value) (h : pm_H) (c sl : Nat) : pm_R := match st with
  | .int n :: r => if n < 0 then none else if n.toNatClampNeg ≤ 1000000 then (if c + 1 ≤ pm_c mm then (if sl + n.toNatClampNeg ≤ pm_s mm then (match at_ with
      | .int => k (pc + 2) lv (.ref (8 + h.length) :: r) (h ++ [.inl (0, List.replicate n.toNatClampNeg 0)]) (c + 1) (sl + n.toNatClampNeg)
      | .byte => k (pc + 2) lv (.ref (8 + h.length) :: r) (h ++ [.inl (1, List.replicate n.toNatClampNeg 0)]) (c + 1) (sl + n.toNatClampNeg)
      | .boolean => k (pc + 2) lv (.ref (8 + h.length) :: r) (h ++ [.inl (2, List.replicate n.toNatClampNeg 0)]) (c + 1) (sl + n.toNatClampNeg)
      | .long => k (pc + 2) lv (.ref (8 + h.length) :: r) (h ++ [.inr (.inl (3, List.replicate n.toNatClampNeg 0))]) (c + 1) (sl + n.toNatClampNeg)
      | _ => none) else none) else none) else none
  | _ => none
def pm_anew (mm : pm_M) (t pc : Nat) (lv : pm_L) (st : List Value) (h : pm_H) (c sl : Nat) : pm_R := match st with
  | .int n :: r => if n < 0 then none else if n.toNatClampNeg ≤ 1000000 then (if c + 1 ≤ pm_c mm then (if sl + n.toNatClampNeg ≤ pm_s mm then
      k (pc + 3) lv (.ref (8 + h.length) :: r) (h ++ [.inr (.inr (.inl (t, List.replicate n.toNatClampNeg none)))]) (c + 1) (sl + n.toNatClampNeg) else none) else none) else none
  | _ => none
def pm_copy (pc : Nat) (lv : pm_L) (st : List Value) (h : pm_H) (c sl : Nat) : pm_R := match st with
  | [.int n, .int dp, .ref a, .int sp, .ref b] => if sp < 0 then none else if dp < 0 then none else if n < 0 then none else match pm_cell h a, pm_cell h b with
      | some (.inl (t, g)), some (.inl (u, f)) => if t = 0 ∧ u = 0 then (if sp.toNatClampNeg + n.toNatClampNeg ≤ f.length then (if dp.toNatClampNeg + n.toNatClampNeg ≤ g.length then
          k (pc + 3) lv [] (h.set (a - 8) (.inl (0, pm_cpy f g sp.toNatClampNeg dp.toNatClampNeg n.toNatClampNeg))) c sl else none) else none) else none
      | _, _ => none
  | _ => none
def pm_call (big : Nat → List Value → pm_H → pm_R) (mm m2 : pm_M) (M2 : Nat) (pc : Nat) (lv : pm_L) (as rest : List Value) (h : pm_H) (c sl : Nat) : pm_R :=
  if (rest.map Value.category).sum ≤ 8 then (if c + pm_c m2 ≤ pm_c mm then (if sl + pm_s m2 ≤ pm_s mm then (match big M2 as h with
    | some (r, h') => k (pc + 3) lv (r.toList ++ rest) h' (c + pm_c m2) (sl + pm_s m2)
    | none => none) else none) else none) else none
def pm_inv (tab : Nat → Option pm_M) (big : Nat → List Value → pm_H → pm_R) (mm : pm_M) (M2 : Nat) (pc : Nat) (lv : pm_L) (st : List Value) (h : pm_H) (c sl : Nat) : pm_R := match tab M2 with
  | none => none
  | some m2 => if pm_n m2 ≤ st.length then (match (st.take (pm_n m2)).reverse with
      | .ref a :: as => (match pm_cell h a with
        | some (.inr (.inr (.inr (cj, _)))) => if cj = pm_o m2 then pm_call k big mm m2 M2 pc lv (.ref a :: as) (st.drop (pm_n m2)) h c sl else none
        | _ => none)
      | _ => none) else none
def pm_ins (tab : Nat → Option pm_M) (big : Nat → List Value → pm_H → pm_R) (mm : pm_M) (M2 : Nat) (pc : Nat) (lv : pm_L) (st : List Value) (h : pm_H) (c sl : Nat) : pm_R := match tab M2 with
  | none => none
  | some m2 => if pm_n m2 ≤ st.length then pm_call k big mm m2 M2 pc lv (st.take (pm_n m2)).reverse (st.drop (pm_n m2)) h c sl else none
def pm_obj (pc : Nat) (lv : pm_L) (st : List Value) (h : pm_H) (c sl : Nat) : pm_R := match st with
  | [.ref _] => k (pc + 3) lv [] h c sl
  | _ => none
def pm_dup (pc : Nat) (lv : pm_L) (st : List Value) (h : pm_H) (c sl : Nat) : pm_R := match st with
  | v :: r => if v.category = 1 then k (pc + 1) lv (v :: v :: r) h c sl else none
  | _ => none
def pm_dup2 (pc : Nat) (lv : pm_L) (st : List Value) (h : pm_H) (c sl : Nat) : pm_R := match st with
  | v :: w :: r => if v.category = 1 then (if w.category = 1 then k (pc + 1) lv (v :: w :: v :: w :: r) h c sl else none) else none
  | _ => none
def pm_pop (pc : Nat) (lv : pm_L) (st : List Value) (h : pm_H) (c sl : Nat) : pm_R := match st with
  | v :: r => if v.category = 1 then k (pc + 1) lv r h c sl else none
  | _ => none
def pm_pop2 (pc : Nat) (lv : pm_L) (st : List Value) (h : pm_H) (c sl : Nat) : pm_R := match st with
  | v :: r => if v.category = 2 then k (pc + 1) lv r h c sl else none
  | _ => none
def pm_lcmp (pc : Nat) (lv : pm_L) (st : List Value) (h : pm_H) (c sl : Nat) : pm_R := match st with
  | .long y :: .long x :: r => k (pc + 1) lv (.int (lg_cmp x y) :: r) h c sl
  | _ => none
def pm_ldcs (b pc : Nat) (lv : pm_L) (st : List Value) (h : pm_H) (c sl : Nat) : pm_R := if 1 ≤ b then (if b ≤ 7 then k (pc + 2) lv (.ref b :: st) h c sl else none) else none
def pm_slen (pc : Nat) (lv : pm_L) (st : List Value) (h : pm_H) (c sl : Nat) : pm_R := match st with
  | .ref b :: r => if 1 ≤ b then (if b ≤ 7 then (if (r.map Value.category).sum ≤ 8 then k (pc + 3) lv (.int (Int32.ofNat (sg_len.getD (b - 1) 0)) :: r) h c sl else none) else none) else none
  | _ => none
def pm_sch (pc : Nat) (lv : pm_L) (st : List Value) (h : pm_H) (c sl : Nat) : pm_R := match st with
  | .int j :: .ref b :: r => if 1 ≤ b then (if b ≤ 7 then (if j < 0 then none else (if j.toNatClampNeg < sg_len.getD (b - 1) 0 then (if (r.map Value.category).sum ≤ 8 then k (pc + 3) lv (.int ((sg_byt.getD (b - 1) []).getD j.toNatClampNeg 0) :: r) h c sl else none) else none)) else none) else none
  | _ => none
def pm_i2l (pc : Nat) (lv : pm_L) (st : List Value) (h : pm_H) (c sl : Nat) : pm_R := match st with
  | .int x :: r => k (pc + 1) lv (.long x.toInt64 :: r) h c sl
  | _ => none
end Step
def pm_ret (mm : pm_M) (st : List Value) (h : pm_H) : pm_R := match st, pm_rt mm with
  | [.int v], some ty => (match pm_fit ty (.int v) with
    | true => some (some (.int v), h)
    | false => none)
  | _, _ => none
def pm_retl (mm : pm_M) (st : List Value) (h : pm_H) : pm_R := match st, pm_rt mm with
  | [.long v], some .long => some (some (.long v), h)
  | _, _ => none
def pm_reta (mm : pm_M) (st : List Value) (h : pm_H) : pm_R := match st, pm_rt mm with
  | [.ref v], some (.object _) => some (some (.ref v), h)
  | _, _ => none
def pm_retv (mm : pm_M) (st : List Value) (h : pm_H) : pm_R := match st, pm_rt mm with
  | [], none => some (none, h)
  | _, _ => none
def pm_step (xs : List Int32) (tab : Nat → Option pm_M) (big : Nat → List Value → pm_H → pm_R) (mm : pm_M) (k : pm_K) (e : pm_E) (pc : Nat) (lv : pm_L) (st : List Value) (h : pm_H) (c sl : Nat) : pm_R := match e.1 with
  | .iconst n => k (pc + 1) lv (.int (Int32.ofInt n) :: st) h c sl
  | .bipush n => k (pc + 2) lv (.int (Int8.ofInt n).toInt32 :: st) h c sl
  | .sipush n => k (pc + 3) lv (.int (Int16.ofInt n).toInt32 :: st) h c sl
  | .lconst n => k (pc + 1) lv (.long (Int64.ofNat n) :: st) h c sl
  | .ldc _ => if e.2.1 = 0 then k (pc + 2) lv (.int (Int32.ofInt e.2.2.2) :: st) h c sl else if e.2.1 = 1 then pm_ldcs k e.2.2.1 pc lv st h c sl else none
  | .ldc_w _ => if e.2.1 = 0 then k (pc + 3) lv (.int (Int32.ofInt e.2.2.2) :: st) h c sl else none
  | .ldc2_w _ => k (pc + 3) lv (.long (Int64.ofInt e.2.2.2) :: st) h c sl
  | .iload_n i => pm_ldi k i (pc + 1) lv st h c sl
  | .iload i => pm_ldi k i (pc + 2) lv st h c sl
  | .lload_n i => pm_ldl k i (pc + 1) lv st h c sl
  | .lload i => pm_ldl k i (pc + 2) lv st h c sl
  | .aload_n i => pm_lda k i (pc + 1) lv st h c sl
  | .aload i => pm_lda k i (pc + 2) lv st h c sl
  | .istore_n i => pm_sti k (pm_ml mm) i (pc + 1) lv st h c sl
  | .istore i => pm_sti k (pm_ml mm) i (pc + 2) lv st h c sl
  | .lstore_n i => pm_stl k (pm_ml mm) i (pc + 1) lv st h c sl
  | .lstore i => pm_stl k (pm_ml mm) i (pc + 2) lv st h c sl
  | .astore_n i => pm_sta k (pm_ml mm) i (pc + 1) lv st h c sl
  | .astore i => pm_sta k (pm_ml mm) i (pc + 2) lv st h c sl
  | .iinc i n => pm_iinc k (pm_ml mm) i n pc lv st h c sl
  | .iadd => pm_bi k (fun x y => x + y) pc lv st h c sl
  | .isub => pm_bi k (fun x y => x - y) pc lv st h c sl
  | .imul => pm_bi k (fun x y => x * y) pc lv st h c sl
  | .iand => pm_bi k (fun x y => x &&& y) pc lv st h c sl
  | .ior => pm_bi k (fun x y => x ||| y) pc lv st h c sl
  | .ixor => pm_bi k (fun x y => x ^^^ y) pc lv st h c sl
  | .ishl => pm_bi k (fun x y => x <<< (y &&& 31)) pc lv st h c sl
  | .ishr => pm_bi k (fun x y => x >>> (y &&& 31)) pc lv st h c sl
  | .iushr => pm_bi k (fun x y => (x.toUInt32 >>> (y.toUInt32 &&& Int32.toUInt32 31)).toInt32) pc lv st h c sl
  | .idiv => pm_bz k (fun x y => x / y) pc lv st h c sl
  | .irem => pm_bz k (fun x y => x - x / y * y) pc lv st h c sl
  | .ladd => pm_bl k (fun x y => x + y) pc lv st h c sl
  | .lmul => pm_bl k (fun x y => x * y) pc lv st h c sl
  | .ldiv => pm_blz k (fun x y => x / y) pc lv st h c sl
  | .lrem => pm_blz k (fun x y => x - x / y * y) pc lv st h c sl
  | .ineg => pm_u k (fun x => -x) pc lv st h c sl
  | .i2b => pm_u k (fun x => x.toInt8.toInt32) pc lv st h c sl
  | .i2s => pm_u k (fun x => x.toInt16.toInt32) pc lv st h c sl
  | .i2l => pm_i2l k pc lv st h c sl
  | .lcmp => pm_lcmp k pc lv st h c sl
  | .dup => pm_dup k pc lv st h c sl
  | .dup2 => pm_dup2 k pc lv st h c sl
  | .pop => pm_pop k pc lv st h c sl
  | .pop2 => pm_pop2 k pc lv st h c sl
  | .ifCond cd _ => pm_if k cd e.2.1 pc lv st h c sl
  | .if_icmp cd _ => pm_ic k cd e.2.1 pc lv st h c sl
  | .goto _ => k e.2.1 lv st h c sl
  | .tableswitch d lo hi offs => pm_tsw k d lo hi offs pc lv st h c sl
  | .getfield _ => pm_getf k e.2.1 e.2.2.1 pc lv st h c sl
  | .putfield _ => pm_putf k e.2.1 e.2.2.1 pc lv st h c sl
  | .iaload => pm_iald k xs pc lv st h c sl
  | .baload => pm_bald k pc lv st h c sl
  | .laload => pm_lald k pc lv st h c sl
  | .aaload => pm_aald k pc lv st h c sl
  | .iastore => pm_iast k pc lv st h c sl
  | .bastore => pm_bast k pc lv st h c sl
  | .lastore => pm_last k pc lv st h c sl
  | .aastore => pm_aast k pc lv st h c sl
  | .arraylength => pm_alen k xs pc lv st h c sl
  | .new _ => pm_new k mm e.2.1 pc lv st h c sl
  | .newarray at_ => pm_newa k mm at_ pc lv st h c sl
  | .anewarray _ => pm_anew k mm e.2.1 pc lv st h c sl
  | .invokevirtual _ => if e.2.2.1 = 0 then pm_inv k tab big mm e.2.1 pc lv st h c sl else if e.2.2.1 = 4 then pm_slen k pc lv st h c sl else if e.2.2.1 = 5 then pm_sch k pc lv st h c sl else none
  | .invokespecial _ => if e.2.2.1 = 1 then pm_inv k tab big mm e.2.1 pc lv st h c sl else if e.2.2.1 = 9 then pm_obj k pc lv st h c sl else none
  | .invokestatic _ => if e.2.2.1 = 8 then pm_copy k pc lv st h c sl else if e.2.2.1 = 2 ∨ e.2.2.1 = 3 then pm_ins k tab big mm e.2.1 pc lv st h c sl else none
  | .ireturn => pm_ret mm st h
  | .lreturn => pm_retl mm st h
  | .areturn => pm_reta mm st h
  | .return_ => pm_retv mm st h
  | _ => none
def pm_next (xs : List Int32) (tab : Nat → Option pm_M) (big : Nat → List Value → pm_H → pm_R) (mm : pm_M) (k : pm_K) : pm_K := fun pc lv st h c sl => match pm_at mm pc with
  | some e => pm_step xs tab big mm k e pc lv st h c sl
  | none => none
/-- n steps at most in this frame -/
noncomputable def pm_run (xs : List Int32) (tab : Nat → Option pm_M) (big : Nat → List Value → pm_H → pm_R) (mm : pm_M) (n : Nat) : pm_K := Nat.rec (motive := fun _ => pm_K) (fun _ _ _ _ _ _ => none) (fun _ k => pm_next xs tab big mm k) n
def pm_words (vs : List Value) : Nat := (vs.map Value.category).sum
/-- a call, d frames deep at most, N steps in each frame -/
noncomputable def pm_big (xs : List Int32) (tab : Nat → Option pm_M) (N : Nat) (d : Nat) : Nat → List Value → pm_H → pm_R := Nat.rec (motive := fun _ => Nat → List Value → pm_H → pm_R) (fun _ _ _ => none) (fun _ big M as h => match tab M with
  | some mm => if pm_words as ≤ pm_ml mm then (if as.length = pm_n mm then pm_run xs tab big mm N 0 (lv_args 0 as) [] h 0 0 else none) else none
  | none => none) d
end
section
/-! THE WORLD OF THE STRING CONSTANTS: pure references 1 to 7. -/
def sg_ref : List (Nat × String) := [(76, "town"), (85, "wall"), (90, "at"), (96, "still"), (98, "pull"), (103, "press"), (108, "goal")]
def sg_ix (i : Nat) : Nat := (sg_ref.getD i (0, "")).1
def sg_tx (i : Nat) : String := (sg_ref.getD i (0, "")).2
def sg_W (pre : Nat → Nat) (base : Nat) (U : State) (H : Heap) : Prop :=
  vk_S 7 sg_len sg_byt (fun i => pre (i + 1)) (fun i => pre (i + 8)) (fun q => base ≤ q) U H ∧ (∀ i : Nat, i < 7 → vk_R "MoodTown$Telling" (sg_ix i) (sg_tx i) (pre (i + 1)) U) ∧ va_Z "java/lang/String" "COMPACT_STRINGS" "Z" (.int 1) (fun q => base ≤ q) U H ∧ va_Zq "jdk/internal/util/Preconditions" "SIOOBE_FORMATTER" "Ljava/util/function/BiFunction;" (fun q => base ≤ q) U H
/-- the script and the constants -/
def pm_Xs (pre : Nat → Nat) (base : Nat) (xs : List Int32) (U : State) (H : Heap) : Prop := va_X (pre 0) xs.length (fun j => xs.getD j 0) U H ∧ sg_W pre base U H
theorem pm_Xs.same {pre : Nat → Nat} {base : Nat} {xs : List Int32} {u U : State} {H : Heap} (hv : U.vm = u.vm) (h : pm_Xs pre base xs u H) : pm_Xs pre base xs U H := by
  have hA : u.vm.Alike U.vm := by rw [hv]; exact Vm.Alike.refl _
  obtain ⟨h1, h2, h3, h4, h5⟩ := h
  exact ⟨va_X.moved hA h1, vk_S.moved hA h2, fun i hi => vk_R.same hv (h3 i hi), va_Z.moved hA h4, va_Zq.moved hA h5⟩
theorem pm_Xs.warm {pre : Nat → Nat} {base : Nat} {xs : List Int32} {s U : State} {H : Heap} {locs : List Loc} (hW : s.WarmedH U.vm) (hb0 : pre 0 < base) (hb1 : base ≤ s.heap.size) (hS : va_S (fun q => base ≤ q) s.heap H locs) (h : pm_Xs pre base xs s s.heap) : pm_Xs pre base xs U H := by
  obtain ⟨h1, h2, h3, h4, h5⟩ := h
  exact ⟨va_X.moved hW.alike (va_X.kept h1 (hS.2.1 _ (Nat.lt_of_lt_of_le hb0 hb1) (Nat.not_le.mpr hb0))), vk_S.moved hW.alike (h2.kept hS.2.1), fun i hi => vk_R.warm hW (h3 i hi), va_Z.moved hW.alike (h4.kept hS.2.1), va_Zq.moved hW.alike (h5.kept hS.2.1)⟩
end
section
/-! FROM THE PURE MACHINE TO THE MACHINE: what a pure state means, and a row for each instruction (printed in part by wip/gen/gen04.py). -/
def pm_ad (pre : Nat → Nat) (base : Nat) (i : Nat) : Nat := if i < 8 then pre i else base + (i - 8)
def pm_rv (pre : Nat → Nat) (base : Nat) : Value → Value
  | .ref i => .ref (pm_ad pre base i)
  | v => v
theorem pm_cat (pre : Nat → Nat) (base : Nat) (v : Value) : (pm_rv pre base v).category = v.category := by cases v <;> rfl
theorem pm_cats (pre : Nat → Nat) (base : Nat) (l : List Value) : ((l.map (pm_rv pre base)).map fun v => v.category).sum = (l.map Value.category).sum := by
  rw [List.map_map]
  congr 1
  exact List.map_congr_left (fun v _ => pm_cat pre base v)
def pm_lv (pre : Nat → Nat) (base : Nat) (q : Nat × Value) : Nat × Value := (q.1, pm_rv pre base q.2)
def pm_e (pre : Nat → Nat) (base : Nat) (aC : Nat → ClassId) : pm_C → va_E
  | .inl (t, l) => .inl (aC t, l.length, .inl (fun j => l.getD j 0))
  | .inr (.inl (t, l)) => .inl (aC t, l.length, .inr (.inl (fun j => l.getD j 0)))
  | .inr (.inr (.inl (t, l))) => .inl (aC t, l.length, .inr (.inr (.inr (.inr (fun j => (l.getD j none).map (pm_ad pre base))))))
  | .inr (.inr (.inr (ci, fs))) => .inr (ci, fs.map (pm_rv pre base))
def pm_P (dC : Nat → ClassId) (dI : Nat → Nat → Nat) (aC : Nat → ClassId) (pre : Nat → Nat) (base : Nat) (h : pm_H) (H : Heap) : Prop := ∀ (i : Nat) (c : pm_C), h[i]? = some c → va_at (dC, dI) kC (base + i, pm_e pre base aC c) H
def pm_ty (aC : Nat → ClassId) : List (ClassId × FieldType) := [(aC 0, .int), (aC 1, .byte), (aC 2, .boolean), (aC 3, .long), (aC 4, .object "MoodTown$Town"), (aC 5, .object "MoodTown$Sheet")]
theorem pm_P.one {dC : Nat → ClassId} {dI : Nat → Nat → Nat} {aC : Nat → ClassId} {pre : Nat → Nat} {base : Nat} {h : pm_H} {H : Heap} (hP : pm_P dC dI aC pre base h H) {i : Nat} {c : pm_C} (hc : h[i]? = some c) : va_P (dC, dI) kC [(base + i, pm_e pre base aC c)] H := by
  intro k q hk
  cases k with
  | zero => cases hk; exact hP i c hc
  | succ k => simp at hk
theorem pm_P.set {dC : Nat → ClassId} {dI : Nat → Nat → Nat} {aC : Nat → ClassId} {pre : Nat → Nat} {base : Nat} {h : pm_H} {H H1 : Heap} (hP : pm_P dC dI aC pre base h H) {i : Nat} {c0 c : pm_C} (hc : h[i]? = some c0) (he : va_at (dC, dI) kC (base + i, pm_e pre base aC c) H1) (oq : ∀ q : Nat, q ≠ base + i → H1[q]? = H[q]?) : pm_P dC dI aC pre base (h.set i c) H1 := by
  have hl := (List.getElem?_eq_some_iff.mp hc).1
  intro j d hj
  by_cases hji : j = i
  · subst hji
    rw [List.getElem?_set_self hl] at hj
    cases hj
    exact he
  · rw [List.getElem?_set_ne (Ne.symm hji)] at hj
    exact (hP j d hj).kept (oq _ (by show base + j ≠ base + i; omega))
theorem pm_P.push {dC : Nat → ClassId} {dI : Nat → Nat → Nat} {aC : Nat → ClassId} {pre : Nat → Nat} {base : Nat} {h : pm_H} {H H1 : Heap} (hP : pm_P dC dI aC pre base h H) (hz : H.size = base + h.length) {c : pm_C} (he : va_at (dC, dI) kC (H.size, pm_e pre base aC c) H1) (oq : ∀ q : Nat, q < H.size → H1[q]? = H[q]?) : pm_P dC dI aC pre base (h ++ [c]) H1 := by
  intro j d hj
  by_cases hl : j < h.length
  · rw [List.getElem?_append_left hl] at hj
    exact (hP j d hj).kept (oq _ (by show base + j < H.size; omega))
  · rw [List.getElem?_append_right (by omega)] at hj
    have hz1 : j - h.length < 1 := (List.getElem?_eq_some_iff.mp hj).1
    rw [show j - h.length = 0 by omega] at hj
    cases hj
    rw [show base + j = H.size by omega]
    exact he
theorem pm_cell_eq {h : pm_H} {a : Nat} {c : pm_C} (pre : Nat → Nat) (base : Nat) (hc : pm_cell h a = some c) : h[a - 8]? = some c ∧ pm_ad pre base a = base + (a - 8) := by
  unfold pm_cell at hc
  by_cases ha : a < 8
  · rw [if_pos ha] at hc; cases hc
  · rw [if_neg ha] at hc
    exact ⟨hc, by unfold pm_ad; rw [if_neg ha]⟩
theorem pm_ad_new (pre : Nat → Nat) (base n : Nat) : pm_ad pre base (8 + n) = base + n := by
  unfold pm_ad
  rw [if_neg (by omega)]
  omega
theorem pm_look {lv : pm_L} {i : Nat} {v : Value} (h : lv.lookup i = some v) : ∃ k : Nat, lv[k]? = some (i, v) := by
  induction lv with
  | nil => cases h
  | cons q r ih =>
    obtain ⟨j, w⟩ := q
    rw [List.lookup_cons] at h
    by_cases hj : i = j
    · subst hj
      rw [beq_self_eq_true] at h
      cases h
      exact ⟨0, rfl⟩
    · rw [beq_eq_false_iff_ne.mpr hj] at h
      obtain ⟨k, hk⟩ := ih h
      exact ⟨k + 1, hk⟩
theorem pm_lvat {ls : Array Slot} {nL : Nat} {lv : pm_L} {pre : Nat → Nat} {base i : Nat} {v : Value} (hl : lv_has ls nL (lv.map (pm_lv pre base))) (h : lv.lookup i = some v) : ls[i]? = some (.val (pm_rv pre base v)) := by
  obtain ⟨k, hk⟩ := pm_look h
  exact lv_at hl k (by rw [List.getElem?_map, hk]; rfl)
theorem pm_plc_mem {α : Type} {i : Nat} {v : α} {q : Nat × α} : ∀ {l : List (Nat × α)}, q ∈ pm_plc i v l → q = (i, v) ∨ q ∈ l
  | [], h => by
    rcases List.mem_singleton.mp h with rfl
    exact Or.inl rfl
  | p :: r, h => by
    unfold pm_plc at h
    split at h
    · rcases List.mem_cons.mp h with rfl | h
      · exact Or.inr List.mem_cons_self
      · rcases pm_plc_mem h with e | h
        · exact Or.inl e
        · exact Or.inr (List.mem_cons_of_mem _ h)
    · rcases List.mem_cons.mp h with rfl | h
      · exact Or.inl rfl
      · exact Or.inr h
theorem pm_s1_has {ls : Array Slot} {nL : Nat} {pre : Nat → Nat} {base : Nat} {lv : pm_L} {i : Nat} {v : Value} (h : lv_has ls nL ((i, pm_rv pre base v) :: (lv.map (pm_lv pre base)).filter (fun q => !(q.1 == i) && !(q.1 + 1 == i && q.2.category == 2)))) : lv_has ls nL ((pm_s1 lv i v).map (pm_lv pre base)) := by
  refine ⟨h.1, h.2.1, fun q hq => h.2.2 q ?_⟩
  obtain ⟨p, hp, rfl⟩ := List.mem_map.mp hq
  rcases pm_plc_mem hp with rfl | hp
  · exact List.mem_cons_self
  · obtain ⟨h1, h2⟩ := List.mem_filter.mp hp
    refine List.mem_cons_of_mem _ (List.mem_filter.mpr ⟨List.mem_map.mpr ⟨p, h1, rfl⟩, ?_⟩)
    show (!(p.1 == i) && !(p.1 + 1 == i && (pm_rv pre base p.2).category == 2)) = true
    rw [pm_cat]
    exact h2
theorem pm_s2_has {ls : Array Slot} {nL : Nat} {pre : Nat → Nat} {base : Nat} {lv : pm_L} {i : Nat} {v : Value} (h : lv_has ls nL ((i, pm_rv pre base v) :: (lv.map (pm_lv pre base)).filter (fun q => !(q.1 == i) && (!(q.1 == i + 1) && !(q.1 + 1 == i && q.2.category == 2))))) : lv_has ls nL ((pm_s2 lv i v).map (pm_lv pre base)) := by
  refine ⟨h.1, h.2.1, fun q hq => h.2.2 q ?_⟩
  obtain ⟨p, hp, rfl⟩ := List.mem_map.mp hq
  rcases pm_plc_mem hp with rfl | hp
  · exact List.mem_cons_self
  · obtain ⟨h1, h2⟩ := List.mem_filter.mp hp
    refine List.mem_cons_of_mem _ (List.mem_filter.mpr ⟨List.mem_map.mpr ⟨p, h1, rfl⟩, ?_⟩)
    show (!(p.1 == i) && (!(p.1 == i + 1) && !(p.1 + 1 == i && (pm_rv pre base p.2).category == 2))) = true
    rw [pm_cat]
    exact h2
theorem pm_fit_ok {pre : Nat → Nat} {base : Nat} {ty : FieldType} {v : Value} (h : pm_fit ty v = true) : narrow ty (pm_rv pre base v) = pm_rv pre base v ∧ fits ty (pm_rv pre base v) = true := by
  unfold pm_fit at h
  split at h
  · exact ⟨rfl, rfl⟩
  · exact ⟨rfl, rfl⟩
  · rename_i v
    rw [Bool.or_eq_true, beq_iff_eq, beq_iff_eq] at h
    rcases h with rfl | rfl
    · exact ⟨show narrow .boolean (.int 0) = .int 0 by decide, show fits .boolean (.int 0) = true by decide⟩
    · exact ⟨show narrow .boolean (.int 1) = .int 1 by decide, show fits .boolean (.int 1) = true by decide⟩
  · exact ⟨rfl, rfl⟩
  · exact ⟨rfl, rfl⟩
  · cases h
def pm_nest : List (String × Nat × MethodName) := [("MoodTown$Walk", 111, ⟨"MoodTown", "flipOf", "(I)I"⟩), ("MoodTown$Search", 62, ⟨"MoodTown", "rowsOf", "(I)I"⟩), ("MoodTown$Town", 106, ⟨"MoodTown", "digitOf", "(III)I"⟩), ("MoodTown$Search", 108, ⟨"MoodTown", "digitOf", "(III)I"⟩), ("MoodTown$Search", 135, ⟨"MoodTown", "flipOf", "(I)I"⟩)]
def pm_N (U : State) : Prop := va_AO "MoodTown$Town" U ∧ va_AO "MoodTown$Sheet" U ∧ ∀ q ∈ pm_nest, va_Nw (.methodLinkNest q.1 q.2.1 q.2.2 "MoodTown") U
def pm_X (p : Program) (R : Room) (s : State) (m : MethodId) (args : Array Value) (meth : Method) (c0 : Code) (dC : Nat → ClassId) (dI : Nat → Nat → Nat) (aC : Nat → ClassId) (pre : Nat → Nat) (base : Nat) (xs : List Int32) (mm : pm_M) : Prop :=
  p.tables.exec = Jvm.exec ∧ c0.code = pm_b mm ∧ c0.maxLocals = pm_ml mm ∧ s.vm.findClass (kN (pm_o mm)) = some m.cls ∧ (∀ w ∈ lw_gt, w.before args s = true) ∧ ((pm_y mm).name = "<init>" → meth.name = "<init>") ∧ va_K (dC, dI) kC (pm_ty aC) s ∧ pm_Xs pre base xs s s.heap ∧ pre 0 < base ∧ base ≤ s.heap.size ∧ pm_N s ∧ R = pm_rm mm
/-- the machine comes from this pure state to an end with Q -/
def pm_W (p : Program) (l : Launch) (e : Env) (R : Room) (s : State) (m : MethodId) (args : Array Value) (below : List Frame) (meth : Method) (c0 : Code) (Q : State → Prop) (dC : Nat → ClassId) (dI : Nat → Nat → Nat) (aC : Nat → ClassId) (pre : Nat → Nat) (base : Nat) (mm : pm_M) (pc : Nat) (lv : pm_L) (st : List Value) (h : pm_H) (c sl : Nat) : Prop :=
  ∀ (H : Heap) (locs : List Loc) (ls : Array Slot), c ≤ pm_c mm → sl ≤ pm_s mm → lv_has ls (pm_ml mm) (lv.map (pm_lv pre base)) → pm_P dC dI aC pre base h H → H.size = base + h.length → va_S (fun q => base ≤ q) s.heap H locs → W p l e R s m args below meth c0 H locs c sl Q (F0 m pc ls (st.map (pm_rv pre base)))
def pm_IH (p : Program) (l : Launch) (e : Env) (R : Room) (s : State) (m : MethodId) (args : Array Value) (below : List Frame) (meth : Method) (c0 : Code) (Q : State → Prop) (dC : Nat → ClassId) (dI : Nat → Nat → Nat) (aC : Nat → ClassId) (pre : Nat → Nat) (base : Nat) (mm : pm_M) (k : pm_K) (r : Option Value × pm_H) : Prop :=
  ∀ (pc : Nat) (lv : pm_L) (st : List Value) (h : pm_H) (c sl : Nat), k pc lv st h c sl = some r → pm_W p l e R s m args below meth c0 Q dC dI aC pre base mm pc lv st h c sl
section Rows
variable {p : Program} {l : Launch} {e : Env} {R : Room} {s : State} {m : MethodId} {args : Array Value} {below : List Frame} {meth : Method} {c0 : Code} {Q : State → Prop} {dC : Nat → ClassId} {dI : Nat → Nat → Nat} {aC : Nat → ClassId} {pre : Nat → Nat} {base : Nat} {xs : List Int32} {mm : pm_M} {k : pm_K} {r : Option Value × pm_H} {pc : Nat} {lv : pm_L} {st : List Value} {h : pm_H} {c sl : Nat}
theorem ps_iconst (X : pm_X p R s m args meth c0 dC dI aC pre base xs mm) {n : Int} (hd : decode (pm_b mm) pc = .ok (.iconst n, 1)) (ih : pm_IH p l e R s m args below meth c0 Q dC dI aC pre base mm k r) (hk : k (pc + 1) lv (.int (Int32.ofInt n) :: st) h c sl = some r) : pm_W p l e R s m args below meth c0 Q dC dI aC pre base mm pc lv st h c sl := by
  intro H locs ls hc hs hl hP hz hS
  exact lv_iconst X.1 X.2.1 hd rfl (ih _ _ _ _ _ _ hk H locs ls hc hs hl hP hz hS)
theorem ps_bipush (X : pm_X p R s m args meth c0 dC dI aC pre base xs mm) {n : Int} (hd : decode (pm_b mm) pc = .ok (.bipush n, 2)) (ih : pm_IH p l e R s m args below meth c0 Q dC dI aC pre base mm k r) (hk : k (pc + 2) lv (.int (Int8.ofInt n).toInt32 :: st) h c sl = some r) : pm_W p l e R s m args below meth c0 Q dC dI aC pre base mm pc lv st h c sl := by
  intro H locs ls hc hs hl hP hz hS
  exact lv_bipush X.1 X.2.1 hd rfl (ih _ _ _ _ _ _ hk H locs ls hc hs hl hP hz hS)
theorem ps_sipush (X : pm_X p R s m args meth c0 dC dI aC pre base xs mm) {n : Int} (hd : decode (pm_b mm) pc = .ok (.sipush n, 3)) (ih : pm_IH p l e R s m args below meth c0 Q dC dI aC pre base mm k r) (hk : k (pc + 3) lv (.int (Int16.ofInt n).toInt32 :: st) h c sl = some r) : pm_W p l e R s m args below meth c0 Q dC dI aC pre base mm pc lv st h c sl := by
  intro H locs ls hc hs hl hP hz hS
  exact lv_sipush X.1 X.2.1 hd rfl (ih _ _ _ _ _ _ hk H locs ls hc hs hl hP hz hS)
theorem ps_lconst (X : pm_X p R s m args meth c0 dC dI aC pre base xs mm) {n : Fin 2} (hd : decode (pm_b mm) pc = .ok (.lconst n, 1)) (ih : pm_IH p l e R s m args below meth c0 Q dC dI aC pre base mm k r) (hk : k (pc + 1) lv (.long (Int64.ofNat n) :: st) h c sl = some r) : pm_W p l e R s m args below meth c0 Q dC dI aC pre base mm pc lv st h c sl := by
  intro H locs ls hc hs hl hP hz hS
  exact lv_lconst X.1 X.2.1 hd rfl (ih _ _ _ _ _ _ hk H locs ls hc hs hl hP hz hS)
theorem ps_ldc (X : pm_X p R s m args meth c0 dC dI aC pre base xs mm) {ix : Nat} {v : Int32} (hw : Cond.constant (kN (pm_o mm)) ix v ∈ lw_gt) (hd : decode (pm_b mm) pc = .ok (.ldc ix, 2)) (ih : pm_IH p l e R s m args below meth c0 Q dC dI aC pre base mm k r) (hk : k (pc + 2) lv (.int v :: st) h c sl = some r) : pm_W p l e R s m args below meth c0 Q dC dI aC pre base mm pc lv st h c sl := by
  intro H locs ls hc hs hl hP hz hS
  exact lv_ldc X.1 X.2.1 X.2.2.2.1 (X.2.2.2.2.1 _ hw) hd (ih _ _ _ _ _ _ hk H locs ls hc hs hl hP hz hS)
theorem ps_ldc_w (X : pm_X p R s m args meth c0 dC dI aC pre base xs mm) {ix : Nat} {v : Int32} (hw : Cond.constant (kN (pm_o mm)) ix v ∈ lw_gt) (hd : decode (pm_b mm) pc = .ok (.ldc_w ix, 3)) (ih : pm_IH p l e R s m args below meth c0 Q dC dI aC pre base mm k r) (hk : k (pc + 3) lv (.int v :: st) h c sl = some r) : pm_W p l e R s m args below meth c0 Q dC dI aC pre base mm pc lv st h c sl := by
  intro H locs ls hc hs hl hP hz hS
  exact lv_ldcw X.1 X.2.1 X.2.2.2.1 (X.2.2.2.2.1 _ hw) hd (ih _ _ _ _ _ _ hk H locs ls hc hs hl hP hz hS)
theorem ps_ldc2 (X : pm_X p R s m args meth c0 dC dI aC pre base xs mm) {ix : Nat} {v : Int64} (hw : Cond.constantLong (kN (pm_o mm)) ix v ∈ lw_gt) (hd : decode (pm_b mm) pc = .ok (.ldc2_w ix, 3)) (ih : pm_IH p l e R s m args below meth c0 Q dC dI aC pre base mm k r) (hk : k (pc + 3) lv (.long v :: st) h c sl = some r) : pm_W p l e R s m args below meth c0 Q dC dI aC pre base mm pc lv st h c sl := by
  intro H locs ls hc hs hl hP hz hS
  exact lv_ldc2 X.1 X.2.1 X.2.2.2.1 (X.2.2.2.2.1 _ hw) hd (ih _ _ _ _ _ _ hk H locs ls hc hs hl hP hz hS)
theorem ps_iload_n (X : pm_X p R s m args meth c0 dC dI aC pre base xs mm) {i : Fin 4} (hd : decode (pm_b mm) pc = .ok (.iload_n i, 1)) (ih : pm_IH p l e R s m args below meth c0 Q dC dI aC pre base mm k r) (hk : pm_ldi k i (pc + 1) lv st h c sl = some r) : pm_W p l e R s m args below meth c0 Q dC dI aC pre base mm pc lv st h c sl := by
  unfold pm_ldi at hk
  split at hk
  · rename_i x hx
    intro H locs ls hc hs hl hP hz hS
    exact lv_iload_n X.1 X.2.1 hd rfl (pm_lvat hl hx) (ih _ _ _ _ _ _ hk H locs ls hc hs hl hP hz hS)
  · cases hk
theorem ps_iload (X : pm_X p R s m args meth c0 dC dI aC pre base xs mm) {i : Nat} (hd : decode (pm_b mm) pc = .ok (.iload i, 2)) (ih : pm_IH p l e R s m args below meth c0 Q dC dI aC pre base mm k r) (hk : pm_ldi k i (pc + 2) lv st h c sl = some r) : pm_W p l e R s m args below meth c0 Q dC dI aC pre base mm pc lv st h c sl := by
  unfold pm_ldi at hk
  split at hk
  · rename_i x hx
    intro H locs ls hc hs hl hP hz hS
    exact lv_iload X.1 X.2.1 hd (pm_lvat hl hx) (ih _ _ _ _ _ _ hk H locs ls hc hs hl hP hz hS)
  · cases hk
theorem ps_lload_n (X : pm_X p R s m args meth c0 dC dI aC pre base xs mm) {i : Fin 4} (hd : decode (pm_b mm) pc = .ok (.lload_n i, 1)) (ih : pm_IH p l e R s m args below meth c0 Q dC dI aC pre base mm k r) (hk : pm_ldl k i (pc + 1) lv st h c sl = some r) : pm_W p l e R s m args below meth c0 Q dC dI aC pre base mm pc lv st h c sl := by
  unfold pm_ldl at hk
  split at hk
  · rename_i x hx
    intro H locs ls hc hs hl hP hz hS
    exact lv_lload_n X.1 X.2.1 hd rfl (pm_lvat hl hx) (ih _ _ _ _ _ _ hk H locs ls hc hs hl hP hz hS)
  · cases hk
theorem ps_lload (X : pm_X p R s m args meth c0 dC dI aC pre base xs mm) {i : Nat} (hd : decode (pm_b mm) pc = .ok (.lload i, 2)) (ih : pm_IH p l e R s m args below meth c0 Q dC dI aC pre base mm k r) (hk : pm_ldl k i (pc + 2) lv st h c sl = some r) : pm_W p l e R s m args below meth c0 Q dC dI aC pre base mm pc lv st h c sl := by
  unfold pm_ldl at hk
  split at hk
  · rename_i x hx
    intro H locs ls hc hs hl hP hz hS
    exact lv_lload X.1 X.2.1 hd (pm_lvat hl hx) (ih _ _ _ _ _ _ hk H locs ls hc hs hl hP hz hS)
  · cases hk
theorem ps_aload_n (X : pm_X p R s m args meth c0 dC dI aC pre base xs mm) {i : Fin 4} (hd : decode (pm_b mm) pc = .ok (.aload_n i, 1)) (ih : pm_IH p l e R s m args below meth c0 Q dC dI aC pre base mm k r) (hk : pm_lda k i (pc + 1) lv st h c sl = some r) : pm_W p l e R s m args below meth c0 Q dC dI aC pre base mm pc lv st h c sl := by
  unfold pm_lda at hk
  split at hk
  · rename_i x hx
    intro H locs ls hc hs hl hP hz hS
    exact lv_aload_n X.1 X.2.1 hd rfl (pm_lvat hl hx) (ih _ _ _ _ _ _ hk H locs ls hc hs hl hP hz hS)
  · cases hk
theorem ps_aload (X : pm_X p R s m args meth c0 dC dI aC pre base xs mm) {i : Nat} (hd : decode (pm_b mm) pc = .ok (.aload i, 2)) (ih : pm_IH p l e R s m args below meth c0 Q dC dI aC pre base mm k r) (hk : pm_lda k i (pc + 2) lv st h c sl = some r) : pm_W p l e R s m args below meth c0 Q dC dI aC pre base mm pc lv st h c sl := by
  unfold pm_lda at hk
  split at hk
  · rename_i x hx
    intro H locs ls hc hs hl hP hz hS
    exact lv_aload X.1 X.2.1 hd (pm_lvat hl hx) (ih _ _ _ _ _ _ hk H locs ls hc hs hl hP hz hS)
  · cases hk
theorem ps_istore_n (X : pm_X p R s m args meth c0 dC dI aC pre base xs mm) {i : Fin 4} (hd : decode (pm_b mm) pc = .ok (.istore_n i, 1)) (ih : pm_IH p l e R s m args below meth c0 Q dC dI aC pre base mm k r) (hk : pm_sti k (pm_ml mm) i (pc + 1) lv st h c sl = some r) : pm_W p l e R s m args below meth c0 Q dC dI aC pre base mm pc lv st h c sl := by
  unfold pm_sti at hk
  split at hk
  · rename_i x rr
    split at hk
    · rename_i hi
      intro H locs ls hc hs hl hP hz hS
      exact lv_istore_n X.1 X.2.1 hd rfl hl hi rfl (fun ls hl => ih _ _ _ _ _ _ hk H locs ls hc hs (pm_s1_has hl) hP hz hS)
    · cases hk
  · cases hk
theorem ps_istore (X : pm_X p R s m args meth c0 dC dI aC pre base xs mm) {i : Nat} (hd : decode (pm_b mm) pc = .ok (.istore i, 2)) (ih : pm_IH p l e R s m args below meth c0 Q dC dI aC pre base mm k r) (hk : pm_sti k (pm_ml mm) i (pc + 2) lv st h c sl = some r) : pm_W p l e R s m args below meth c0 Q dC dI aC pre base mm pc lv st h c sl := by
  unfold pm_sti at hk
  split at hk
  · rename_i x rr
    split at hk
    · rename_i hi
      intro H locs ls hc hs hl hP hz hS
      exact lv_istore X.1 X.2.1 hd hl hi rfl (fun ls hl => ih _ _ _ _ _ _ hk H locs ls hc hs (pm_s1_has hl) hP hz hS)
    · cases hk
  · cases hk
theorem ps_lstore_n (X : pm_X p R s m args meth c0 dC dI aC pre base xs mm) {i : Fin 4} (hd : decode (pm_b mm) pc = .ok (.lstore_n i, 1)) (ih : pm_IH p l e R s m args below meth c0 Q dC dI aC pre base mm k r) (hk : pm_stl k (pm_ml mm) i (pc + 1) lv st h c sl = some r) : pm_W p l e R s m args below meth c0 Q dC dI aC pre base mm pc lv st h c sl := by
  unfold pm_stl at hk
  split at hk
  · rename_i x rr
    split at hk
    · rename_i hi
      intro H locs ls hc hs hl hP hz hS
      exact lv_lstore_n X.1 X.2.1 hd rfl hl hi rfl (fun ls hl => ih _ _ _ _ _ _ hk H locs ls hc hs (pm_s2_has hl) hP hz hS)
    · cases hk
  · cases hk
theorem ps_lstore (X : pm_X p R s m args meth c0 dC dI aC pre base xs mm) {i : Nat} (hd : decode (pm_b mm) pc = .ok (.lstore i, 2)) (ih : pm_IH p l e R s m args below meth c0 Q dC dI aC pre base mm k r) (hk : pm_stl k (pm_ml mm) i (pc + 2) lv st h c sl = some r) : pm_W p l e R s m args below meth c0 Q dC dI aC pre base mm pc lv st h c sl := by
  unfold pm_stl at hk
  split at hk
  · rename_i x rr
    split at hk
    · rename_i hi
      intro H locs ls hc hs hl hP hz hS
      exact lv_lstore X.1 X.2.1 hd hl hi rfl (fun ls hl => ih _ _ _ _ _ _ hk H locs ls hc hs (pm_s2_has hl) hP hz hS)
    · cases hk
  · cases hk
theorem ps_astore_n (X : pm_X p R s m args meth c0 dC dI aC pre base xs mm) {i : Fin 4} (hd : decode (pm_b mm) pc = .ok (.astore_n i, 1)) (ih : pm_IH p l e R s m args below meth c0 Q dC dI aC pre base mm k r) (hk : pm_sta k (pm_ml mm) i (pc + 1) lv st h c sl = some r) : pm_W p l e R s m args below meth c0 Q dC dI aC pre base mm pc lv st h c sl := by
  unfold pm_sta at hk
  split at hk
  · rename_i x rr
    split at hk
    · rename_i hi
      intro H locs ls hc hs hl hP hz hS
      exact lv_astore_n X.1 X.2.1 hd rfl hl hi rfl (fun ls hl => ih _ _ _ _ _ _ hk H locs ls hc hs (pm_s1_has hl) hP hz hS)
    · cases hk
  · cases hk
theorem ps_astore (X : pm_X p R s m args meth c0 dC dI aC pre base xs mm) {i : Nat} (hd : decode (pm_b mm) pc = .ok (.astore i, 2)) (ih : pm_IH p l e R s m args below meth c0 Q dC dI aC pre base mm k r) (hk : pm_sta k (pm_ml mm) i (pc + 2) lv st h c sl = some r) : pm_W p l e R s m args below meth c0 Q dC dI aC pre base mm pc lv st h c sl := by
  unfold pm_sta at hk
  split at hk
  · rename_i x rr
    split at hk
    · rename_i hi
      intro H locs ls hc hs hl hP hz hS
      exact lv_astore X.1 X.2.1 hd hl hi rfl (fun ls hl => ih _ _ _ _ _ _ hk H locs ls hc hs (pm_s1_has hl) hP hz hS)
    · cases hk
  · cases hk
theorem ps_iinc (X : pm_X p R s m args meth c0 dC dI aC pre base xs mm) {i : Nat} {n : Int} (hd : decode (pm_b mm) pc = .ok (.iinc i n, 3)) (ih : pm_IH p l e R s m args below meth c0 Q dC dI aC pre base mm k r) (hk : pm_iinc k (pm_ml mm) i n pc lv st h c sl = some r) : pm_W p l e R s m args below meth c0 Q dC dI aC pre base mm pc lv st h c sl := by
  unfold pm_iinc at hk
  split at hk
  · rename_i x hx
    split at hk
    · rename_i hi
      intro H locs ls hc hs hl hP hz hS
      obtain ⟨q, hq⟩ := pm_look hx
      exact lv_iinc X.1 X.2.1 hd hl (k := q) (x := x) (by rw [List.getElem?_map, hq]; rfl) rfl hi rfl (fun ls hl => ih _ _ _ _ _ _ hk H locs ls hc hs (pm_s1_has hl) hP hz hS)
    · cases hk
  · cases hk
theorem ps_iadd (X : pm_X p R s m args meth c0 dC dI aC pre base xs mm)  (hd : decode (pm_b mm) pc = .ok (.iadd, 1)) (ih : pm_IH p l e R s m args below meth c0 Q dC dI aC pre base mm k r) (hk : pm_bi k (fun x y => x + y) pc lv st h c sl = some r) : pm_W p l e R s m args below meth c0 Q dC dI aC pre base mm pc lv st h c sl := by
  unfold pm_bi at hk
  split at hk
  · intro H locs ls hc hs hl hP hz hS
    exact lv_iadd X.1 X.2.1 hd (ih _ _ _ _ _ _ hk H locs ls hc hs hl hP hz hS)
  · cases hk
theorem ps_isub (X : pm_X p R s m args meth c0 dC dI aC pre base xs mm)  (hd : decode (pm_b mm) pc = .ok (.isub, 1)) (ih : pm_IH p l e R s m args below meth c0 Q dC dI aC pre base mm k r) (hk : pm_bi k (fun x y => x - y) pc lv st h c sl = some r) : pm_W p l e R s m args below meth c0 Q dC dI aC pre base mm pc lv st h c sl := by
  unfold pm_bi at hk
  split at hk
  · intro H locs ls hc hs hl hP hz hS
    exact lv_isub X.1 X.2.1 hd (ih _ _ _ _ _ _ hk H locs ls hc hs hl hP hz hS)
  · cases hk
theorem ps_imul (X : pm_X p R s m args meth c0 dC dI aC pre base xs mm)  (hd : decode (pm_b mm) pc = .ok (.imul, 1)) (ih : pm_IH p l e R s m args below meth c0 Q dC dI aC pre base mm k r) (hk : pm_bi k (fun x y => x * y) pc lv st h c sl = some r) : pm_W p l e R s m args below meth c0 Q dC dI aC pre base mm pc lv st h c sl := by
  unfold pm_bi at hk
  split at hk
  · intro H locs ls hc hs hl hP hz hS
    exact lv_imul X.1 X.2.1 hd (ih _ _ _ _ _ _ hk H locs ls hc hs hl hP hz hS)
  · cases hk
theorem ps_iand (X : pm_X p R s m args meth c0 dC dI aC pre base xs mm)  (hd : decode (pm_b mm) pc = .ok (.iand, 1)) (ih : pm_IH p l e R s m args below meth c0 Q dC dI aC pre base mm k r) (hk : pm_bi k (fun x y => x &&& y) pc lv st h c sl = some r) : pm_W p l e R s m args below meth c0 Q dC dI aC pre base mm pc lv st h c sl := by
  unfold pm_bi at hk
  split at hk
  · intro H locs ls hc hs hl hP hz hS
    exact lv_iand X.1 X.2.1 hd (ih _ _ _ _ _ _ hk H locs ls hc hs hl hP hz hS)
  · cases hk
theorem ps_ior (X : pm_X p R s m args meth c0 dC dI aC pre base xs mm)  (hd : decode (pm_b mm) pc = .ok (.ior, 1)) (ih : pm_IH p l e R s m args below meth c0 Q dC dI aC pre base mm k r) (hk : pm_bi k (fun x y => x ||| y) pc lv st h c sl = some r) : pm_W p l e R s m args below meth c0 Q dC dI aC pre base mm pc lv st h c sl := by
  unfold pm_bi at hk
  split at hk
  · intro H locs ls hc hs hl hP hz hS
    exact lv_ior X.1 X.2.1 hd (ih _ _ _ _ _ _ hk H locs ls hc hs hl hP hz hS)
  · cases hk
theorem ps_ixor (X : pm_X p R s m args meth c0 dC dI aC pre base xs mm)  (hd : decode (pm_b mm) pc = .ok (.ixor, 1)) (ih : pm_IH p l e R s m args below meth c0 Q dC dI aC pre base mm k r) (hk : pm_bi k (fun x y => x ^^^ y) pc lv st h c sl = some r) : pm_W p l e R s m args below meth c0 Q dC dI aC pre base mm pc lv st h c sl := by
  unfold pm_bi at hk
  split at hk
  · intro H locs ls hc hs hl hP hz hS
    exact lv_ixor X.1 X.2.1 hd (ih _ _ _ _ _ _ hk H locs ls hc hs hl hP hz hS)
  · cases hk
theorem ps_ishl (X : pm_X p R s m args meth c0 dC dI aC pre base xs mm)  (hd : decode (pm_b mm) pc = .ok (.ishl, 1)) (ih : pm_IH p l e R s m args below meth c0 Q dC dI aC pre base mm k r) (hk : pm_bi k (fun x y => x <<< (y &&& 31)) pc lv st h c sl = some r) : pm_W p l e R s m args below meth c0 Q dC dI aC pre base mm pc lv st h c sl := by
  unfold pm_bi at hk
  split at hk
  · intro H locs ls hc hs hl hP hz hS
    exact lv_ishl X.1 X.2.1 hd (ih _ _ _ _ _ _ hk H locs ls hc hs hl hP hz hS)
  · cases hk
theorem ps_ishr (X : pm_X p R s m args meth c0 dC dI aC pre base xs mm)  (hd : decode (pm_b mm) pc = .ok (.ishr, 1)) (ih : pm_IH p l e R s m args below meth c0 Q dC dI aC pre base mm k r) (hk : pm_bi k (fun x y => x >>> (y &&& 31)) pc lv st h c sl = some r) : pm_W p l e R s m args below meth c0 Q dC dI aC pre base mm pc lv st h c sl := by
  unfold pm_bi at hk
  split at hk
  · intro H locs ls hc hs hl hP hz hS
    exact lv_ishr X.1 X.2.1 hd (ih _ _ _ _ _ _ hk H locs ls hc hs hl hP hz hS)
  · cases hk
theorem ps_iushr (X : pm_X p R s m args meth c0 dC dI aC pre base xs mm)  (hd : decode (pm_b mm) pc = .ok (.iushr, 1)) (ih : pm_IH p l e R s m args below meth c0 Q dC dI aC pre base mm k r) (hk : pm_bi k (fun x y => (x.toUInt32 >>> (y.toUInt32 &&& Int32.toUInt32 31)).toInt32) pc lv st h c sl = some r) : pm_W p l e R s m args below meth c0 Q dC dI aC pre base mm pc lv st h c sl := by
  unfold pm_bi at hk
  split at hk
  · intro H locs ls hc hs hl hP hz hS
    exact lv_iushr X.1 X.2.1 hd rfl (ih _ _ _ _ _ _ hk H locs ls hc hs hl hP hz hS)
  · cases hk
theorem ps_idiv (X : pm_X p R s m args meth c0 dC dI aC pre base xs mm)  (hd : decode (pm_b mm) pc = .ok (.idiv, 1)) (ih : pm_IH p l e R s m args below meth c0 Q dC dI aC pre base mm k r) (hk : pm_bz k (fun x y => x / y) pc lv st h c sl = some r) : pm_W p l e R s m args below meth c0 Q dC dI aC pre base mm pc lv st h c sl := by
  unfold pm_bz at hk
  split at hk
  · split at hk
    · cases hk
    · rename_i hne
      intro H locs ls hc hs hl hP hz hS
      exact lv_idiv X.1 X.2.1 hd hne (ih _ _ _ _ _ _ hk H locs ls hc hs hl hP hz hS)
  · cases hk
theorem ps_irem (X : pm_X p R s m args meth c0 dC dI aC pre base xs mm)  (hd : decode (pm_b mm) pc = .ok (.irem, 1)) (ih : pm_IH p l e R s m args below meth c0 Q dC dI aC pre base mm k r) (hk : pm_bz k (fun x y => x - x / y * y) pc lv st h c sl = some r) : pm_W p l e R s m args below meth c0 Q dC dI aC pre base mm pc lv st h c sl := by
  unfold pm_bz at hk
  split at hk
  · split at hk
    · cases hk
    · rename_i hne
      intro H locs ls hc hs hl hP hz hS
      exact lv_irem X.1 X.2.1 hd hne (ih _ _ _ _ _ _ hk H locs ls hc hs hl hP hz hS)
  · cases hk
theorem ps_ladd (X : pm_X p R s m args meth c0 dC dI aC pre base xs mm)  (hd : decode (pm_b mm) pc = .ok (.ladd, 1)) (ih : pm_IH p l e R s m args below meth c0 Q dC dI aC pre base mm k r) (hk : pm_bl k (fun x y => x + y) pc lv st h c sl = some r) : pm_W p l e R s m args below meth c0 Q dC dI aC pre base mm pc lv st h c sl := by
  unfold pm_bl at hk
  split at hk
  · intro H locs ls hc hs hl hP hz hS
    exact lv_ladd X.1 X.2.1 hd (ih _ _ _ _ _ _ hk H locs ls hc hs hl hP hz hS)
  · cases hk
theorem ps_lmul (X : pm_X p R s m args meth c0 dC dI aC pre base xs mm)  (hd : decode (pm_b mm) pc = .ok (.lmul, 1)) (ih : pm_IH p l e R s m args below meth c0 Q dC dI aC pre base mm k r) (hk : pm_bl k (fun x y => x * y) pc lv st h c sl = some r) : pm_W p l e R s m args below meth c0 Q dC dI aC pre base mm pc lv st h c sl := by
  unfold pm_bl at hk
  split at hk
  · intro H locs ls hc hs hl hP hz hS
    exact lv_lmul X.1 X.2.1 hd (ih _ _ _ _ _ _ hk H locs ls hc hs hl hP hz hS)
  · cases hk
theorem ps_ldiv (X : pm_X p R s m args meth c0 dC dI aC pre base xs mm)  (hd : decode (pm_b mm) pc = .ok (.ldiv, 1)) (ih : pm_IH p l e R s m args below meth c0 Q dC dI aC pre base mm k r) (hk : pm_blz k (fun x y => x / y) pc lv st h c sl = some r) : pm_W p l e R s m args below meth c0 Q dC dI aC pre base mm pc lv st h c sl := by
  unfold pm_blz at hk
  split at hk
  · split at hk
    · cases hk
    · rename_i hne
      intro H locs ls hc hs hl hP hz hS
      exact lv_ldiv X.1 X.2.1 hd hne (ih _ _ _ _ _ _ hk H locs ls hc hs hl hP hz hS)
  · cases hk
theorem ps_lrem (X : pm_X p R s m args meth c0 dC dI aC pre base xs mm)  (hd : decode (pm_b mm) pc = .ok (.lrem, 1)) (ih : pm_IH p l e R s m args below meth c0 Q dC dI aC pre base mm k r) (hk : pm_blz k (fun x y => x - x / y * y) pc lv st h c sl = some r) : pm_W p l e R s m args below meth c0 Q dC dI aC pre base mm pc lv st h c sl := by
  unfold pm_blz at hk
  split at hk
  · split at hk
    · cases hk
    · rename_i hne
      intro H locs ls hc hs hl hP hz hS
      exact lv_lrem X.1 X.2.1 hd hne (ih _ _ _ _ _ _ hk H locs ls hc hs hl hP hz hS)
  · cases hk
theorem ps_ineg (X : pm_X p R s m args meth c0 dC dI aC pre base xs mm)  (hd : decode (pm_b mm) pc = .ok (.ineg, 1)) (ih : pm_IH p l e R s m args below meth c0 Q dC dI aC pre base mm k r) (hk : pm_u k (fun x => -x) pc lv st h c sl = some r) : pm_W p l e R s m args below meth c0 Q dC dI aC pre base mm pc lv st h c sl := by
  unfold pm_u at hk
  split at hk
  · intro H locs ls hc hs hl hP hz hS
    exact lv_ineg X.1 X.2.1 hd (ih _ _ _ _ _ _ hk H locs ls hc hs hl hP hz hS)
  · cases hk
theorem ps_i2b (X : pm_X p R s m args meth c0 dC dI aC pre base xs mm)  (hd : decode (pm_b mm) pc = .ok (.i2b, 1)) (ih : pm_IH p l e R s m args below meth c0 Q dC dI aC pre base mm k r) (hk : pm_u k (fun x => x.toInt8.toInt32) pc lv st h c sl = some r) : pm_W p l e R s m args below meth c0 Q dC dI aC pre base mm pc lv st h c sl := by
  unfold pm_u at hk
  split at hk
  · intro H locs ls hc hs hl hP hz hS
    exact lv_i2b X.1 X.2.1 hd rfl (ih _ _ _ _ _ _ hk H locs ls hc hs hl hP hz hS)
  · cases hk
theorem ps_i2s (X : pm_X p R s m args meth c0 dC dI aC pre base xs mm)  (hd : decode (pm_b mm) pc = .ok (.i2s, 1)) (ih : pm_IH p l e R s m args below meth c0 Q dC dI aC pre base mm k r) (hk : pm_u k (fun x => x.toInt16.toInt32) pc lv st h c sl = some r) : pm_W p l e R s m args below meth c0 Q dC dI aC pre base mm pc lv st h c sl := by
  unfold pm_u at hk
  split at hk
  · intro H locs ls hc hs hl hP hz hS
    exact lv_i2s X.1 X.2.1 hd rfl (ih _ _ _ _ _ _ hk H locs ls hc hs hl hP hz hS)
  · cases hk
theorem ps_i2l (X : pm_X p R s m args meth c0 dC dI aC pre base xs mm)  (hd : decode (pm_b mm) pc = .ok (.i2l, 1)) (ih : pm_IH p l e R s m args below meth c0 Q dC dI aC pre base mm k r) (hk : pm_i2l k pc lv st h c sl = some r) : pm_W p l e R s m args below meth c0 Q dC dI aC pre base mm pc lv st h c sl := by
  unfold pm_i2l at hk
  split at hk
  · intro H locs ls hc hs hl hP hz hS
    exact lv_i2l X.1 X.2.1 hd rfl (ih _ _ _ _ _ _ hk H locs ls hc hs hl hP hz hS)
  · cases hk
theorem ps_lcmp (X : pm_X p R s m args meth c0 dC dI aC pre base xs mm)  (hd : decode (pm_b mm) pc = .ok (.lcmp, 1)) (ih : pm_IH p l e R s m args below meth c0 Q dC dI aC pre base mm k r) (hk : pm_lcmp k pc lv st h c sl = some r) : pm_W p l e R s m args below meth c0 Q dC dI aC pre base mm pc lv st h c sl := by
  unfold pm_lcmp at hk
  split at hk
  · intro H locs ls hc hs hl hP hz hS
    exact W.lcmp X.1 X.2.1 hd (ih _ _ _ _ _ _ hk H locs ls hc hs hl hP hz hS)
  · cases hk
theorem ps_dup (X : pm_X p R s m args meth c0 dC dI aC pre base xs mm)  (hd : decode (pm_b mm) pc = .ok (.dup, 1)) (ih : pm_IH p l e R s m args below meth c0 Q dC dI aC pre base mm k r) (hk : pm_dup k pc lv st h c sl = some r) : pm_W p l e R s m args below meth c0 Q dC dI aC pre base mm pc lv st h c sl := by
  unfold pm_dup at hk
  split at hk
  · split at hk
    · rename_i hv
      intro H locs ls hc hs hl hP hz hS
      exact lv_dup X.1 X.2.1 hd (by rw [pm_cat]; exact hv) (ih _ _ _ _ _ _ hk H locs ls hc hs hl hP hz hS)
    · cases hk
  · cases hk
theorem ps_pop (X : pm_X p R s m args meth c0 dC dI aC pre base xs mm)  (hd : decode (pm_b mm) pc = .ok (.pop, 1)) (ih : pm_IH p l e R s m args below meth c0 Q dC dI aC pre base mm k r) (hk : pm_pop k pc lv st h c sl = some r) : pm_W p l e R s m args below meth c0 Q dC dI aC pre base mm pc lv st h c sl := by
  unfold pm_pop at hk
  split at hk
  · rename_i v rr
    split at hk
    · rename_i hv
      intro H locs ls hc hs hl hP hz hS
      exact lv_pop (va := pm_rv pre base v) X.1 X.2.1 hd (by rw [pm_cat]; exact hv) (ih _ _ _ _ _ _ hk H locs ls hc hs hl hP hz hS)
    · cases hk
  · cases hk
theorem ps_pop2 (X : pm_X p R s m args meth c0 dC dI aC pre base xs mm)  (hd : decode (pm_b mm) pc = .ok (.pop2, 1)) (ih : pm_IH p l e R s m args below meth c0 Q dC dI aC pre base mm k r) (hk : pm_pop2 k pc lv st h c sl = some r) : pm_W p l e R s m args below meth c0 Q dC dI aC pre base mm pc lv st h c sl := by
  unfold pm_pop2 at hk
  split at hk
  · rename_i v rr
    split at hk
    · rename_i hv
      intro H locs ls hc hs hl hP hz hS
      exact lv_pop2_2 (va := pm_rv pre base v) X.1 X.2.1 hd (by rw [pm_cat]; exact hv) (ih _ _ _ _ _ _ hk H locs ls hc hs hl hP hz hS)
    · cases hk
  · cases hk
theorem ps_dup2 (X : pm_X p R s m args meth c0 dC dI aC pre base xs mm)  (hd : decode (pm_b mm) pc = .ok (.dup2, 1)) (ih : pm_IH p l e R s m args below meth c0 Q dC dI aC pre base mm k r) (hk : pm_dup2 k pc lv st h c sl = some r) : pm_W p l e R s m args below meth c0 Q dC dI aC pre base mm pc lv st h c sl := by
  unfold pm_dup2 at hk
  split at hk
  · split at hk
    · rename_i hv
      split at hk
      · rename_i hw
        intro H locs ls hc hs hl hP hz hS
        exact lv_dup2_11 X.1 X.2.1 hd (by rw [pm_cat]; exact hv) (by rw [pm_cat]; exact hw) (ih _ _ _ _ _ _ hk H locs ls hc hs hl hP hz hS)
      · cases hk
    · cases hk
  · cases hk
theorem ps_ifCond (X : pm_X p R s m args meth c0 dC dI aC pre base xs mm) {cd : ClassFile.Cond} {off : Int} {tgt : Nat} (ht : (pc : Int) + off = (tgt : Int)) (hd : decode (pm_b mm) pc = .ok (.ifCond cd off, 3)) (ih : pm_IH p l e R s m args below meth c0 Q dC dI aC pre base mm k r) (hk : pm_if k cd tgt pc lv st h c sl = some r) : pm_W p l e R s m args below meth c0 Q dC dI aC pre base mm pc lv st h c sl := by
  unfold pm_if at hk
  split at hk
  · intro H locs ls hc hs hl hP hz hS
    cases cd with
    | eq => exact lv_if_eq X.1 X.2.1 hd ht (fun q => ih _ _ _ _ _ _ ((if_pos q).symm.trans hk) H locs ls hc hs hl hP hz hS) (fun q => ih _ _ _ _ _ _ ((if_neg q).symm.trans hk) H locs ls hc hs hl hP hz hS)
    | ne => exact lv_if_ne X.1 X.2.1 hd ht (fun q => ih _ _ _ _ _ _ ((if_neg q).symm.trans hk) H locs ls hc hs hl hP hz hS) (fun q => ih _ _ _ _ _ _ ((if_pos q).symm.trans hk) H locs ls hc hs hl hP hz hS)
    | lt => exact lv_if_lt X.1 X.2.1 hd ht (fun q => ih _ _ _ _ _ _ ((if_pos q).symm.trans hk) H locs ls hc hs hl hP hz hS) (fun q => ih _ _ _ _ _ _ ((if_neg q).symm.trans hk) H locs ls hc hs hl hP hz hS)
    | ge => exact lv_if_ge X.1 X.2.1 hd ht (fun q => ih _ _ _ _ _ _ ((if_pos q).symm.trans hk) H locs ls hc hs hl hP hz hS) (fun q => ih _ _ _ _ _ _ ((if_neg q).symm.trans hk) H locs ls hc hs hl hP hz hS)
    | gt => exact lv_if_gt X.1 X.2.1 hd ht (fun q => ih _ _ _ _ _ _ ((if_pos q).symm.trans hk) H locs ls hc hs hl hP hz hS) (fun q => ih _ _ _ _ _ _ ((if_neg q).symm.trans hk) H locs ls hc hs hl hP hz hS)
    | le => exact lv_if_le X.1 X.2.1 hd ht (fun q => ih _ _ _ _ _ _ ((if_pos q).symm.trans hk) H locs ls hc hs hl hP hz hS) (fun q => ih _ _ _ _ _ _ ((if_neg q).symm.trans hk) H locs ls hc hs hl hP hz hS)
  · cases hk
theorem ps_if_icmp (X : pm_X p R s m args meth c0 dC dI aC pre base xs mm) {cd : ClassFile.Cond} {off : Int} {tgt : Nat} (ht : (pc : Int) + off = (tgt : Int)) (hd : decode (pm_b mm) pc = .ok (.if_icmp cd off, 3)) (ih : pm_IH p l e R s m args below meth c0 Q dC dI aC pre base mm k r) (hk : pm_ic k cd tgt pc lv st h c sl = some r) : pm_W p l e R s m args below meth c0 Q dC dI aC pre base mm pc lv st h c sl := by
  unfold pm_ic at hk
  split at hk
  · intro H locs ls hc hs hl hP hz hS
    cases cd with
    | eq => exact lv_icmp_eq X.1 X.2.1 hd ht (fun q => ih _ _ _ _ _ _ ((if_pos q).symm.trans hk) H locs ls hc hs hl hP hz hS) (fun q => ih _ _ _ _ _ _ ((if_neg q).symm.trans hk) H locs ls hc hs hl hP hz hS)
    | ne => exact lv_icmp_ne X.1 X.2.1 hd ht (fun q => ih _ _ _ _ _ _ ((if_neg q).symm.trans hk) H locs ls hc hs hl hP hz hS) (fun q => ih _ _ _ _ _ _ ((if_pos q).symm.trans hk) H locs ls hc hs hl hP hz hS)
    | lt => exact lv_icmp_lt X.1 X.2.1 hd ht (fun q => ih _ _ _ _ _ _ ((if_pos q).symm.trans hk) H locs ls hc hs hl hP hz hS) (fun q => ih _ _ _ _ _ _ ((if_neg q).symm.trans hk) H locs ls hc hs hl hP hz hS)
    | ge => exact lv_icmp_ge X.1 X.2.1 hd ht (fun q => ih _ _ _ _ _ _ ((if_pos q).symm.trans hk) H locs ls hc hs hl hP hz hS) (fun q => ih _ _ _ _ _ _ ((if_neg q).symm.trans hk) H locs ls hc hs hl hP hz hS)
    | gt => exact lv_icmp_gt X.1 X.2.1 hd ht (fun q => ih _ _ _ _ _ _ ((if_pos q).symm.trans hk) H locs ls hc hs hl hP hz hS) (fun q => ih _ _ _ _ _ _ ((if_neg q).symm.trans hk) H locs ls hc hs hl hP hz hS)
    | le => exact lv_icmp_le X.1 X.2.1 hd ht (fun q => ih _ _ _ _ _ _ ((if_pos q).symm.trans hk) H locs ls hc hs hl hP hz hS) (fun q => ih _ _ _ _ _ _ ((if_neg q).symm.trans hk) H locs ls hc hs hl hP hz hS)
  · cases hk
theorem ps_goto (X : pm_X p R s m args meth c0 dC dI aC pre base xs mm) {off : Int} {tgt : Nat} (ht : (pc : Int) + off = (tgt : Int)) (hd : decode (pm_b mm) pc = .ok (.goto off, 3)) (ih : pm_IH p l e R s m args below meth c0 Q dC dI aC pre base mm k r) (hk : k tgt lv st h c sl = some r) : pm_W p l e R s m args below meth c0 Q dC dI aC pre base mm pc lv st h c sl := by
  intro H locs ls hc hs hl hP hz hS
  exact lv_goto X.1 X.2.1 hd ht (ih _ _ _ _ _ _ hk H locs ls hc hs hl hP hz hS)
theorem ps_jump {t : Int} (ih : pm_IH p l e R s m args below meth c0 Q dC dI aC pre base mm k r) (hk : pm_jump k t lv st h c sl = some r) : ∃ n : Nat, t = (n : Int) ∧ pm_W p l e R s m args below meth c0 Q dC dI aC pre base mm n lv st h c sl := by
  unfold pm_jump at hk
  split at hk
  · rename_i ht
    exact ⟨t.toNat, (Int.toNat_of_nonneg ht).symm, ih _ _ _ _ _ _ hk⟩
  · cases hk
theorem ps_tsw (X : pm_X p R s m args meth c0 dC dI aC pre base xs mm) {d lo hi : Int} {offs : Array Int} {len : Nat} (hd : decode (pm_b mm) pc = .ok (.tableswitch d lo hi offs, len)) (ih : pm_IH p l e R s m args below meth c0 Q dC dI aC pre base mm k r) (hk : pm_tsw k d lo hi offs pc lv st h c sl = some r) : pm_W p l e R s m args below meth c0 Q dC dI aC pre base mm pc lv st h c sl := by
  unfold pm_tsw at hk
  split at hk
  · split at hk
    · rename_i hlo
      obtain ⟨n, hn, hw⟩ := ps_jump ih hk
      intro H locs ls hc hs hl hP hz hS
      exact lv_tableOut X.1 X.2.1 hd (Or.inl hlo) hn (hw H locs ls hc hs hl hP hz hS)
    · split at hk
      · rename_i hhi
        obtain ⟨n, hn, hw⟩ := ps_jump ih hk
        intro H locs ls hc hs hl hP hz hS
        exact lv_tableOut X.1 X.2.1 hd (Or.inr hhi) hn (hw H locs ls hc hs hl hP hz hS)
      · rename_i hlo hhi
        split at hk
        · rename_i off hoff
          obtain ⟨n, hn, hw⟩ := ps_jump ih hk
          intro H locs ls hc hs hl hP hz hS
          exact lv_tableIn X.1 X.2.1 hd hlo hhi hoff hn (hw H locs ls hc hs hl hP hz hS)
        · cases hk
  · cases hk
end Rows
end
section
/-! FROM THE PURE MACHINE TO THE MACHINE: rows that read and write cells. -/
theorem pm_m1 {pre : Nat → Nat} {base a n : Nat} {rr : List Value} (h : pm_ad pre base a = n) : (Value.ref a :: rr).map (pm_rv pre base) = .ref n :: rr.map (pm_rv pre base) := by rw [← h]; rfl
theorem pm_m2 {pre : Nat → Nat} {base a n : Nat} {v : Value} {rr : List Value} (h : pm_ad pre base a = n) : (v :: Value.ref a :: rr).map (pm_rv pre base) = pm_rv pre base v :: .ref n :: rr.map (pm_rv pre base) := by rw [← h]; rfl
theorem pm_m3 {pre : Nat → Nat} {base a n : Nat} {v w : Value} {rr : List Value} (h : pm_ad pre base a = n) : (v :: w :: Value.ref a :: rr).map (pm_rv pre base) = pm_rv pre base v :: pm_rv pre base w :: .ref n :: rr.map (pm_rv pre base) := by rw [← h]; rfl
theorem pm_getD_set {α : Type} (l : List α) (n : Nat) (x d : α) (hn : n < l.length) (q : Nat) : (l.set n x).getD q d = if q = n then x else l.getD q d := by
  rw [List.getD_eq_getElem?_getD, List.getD_eq_getElem?_getD]
  by_cases hq : q = n
  · subst hq
    rw [List.getElem?_set_self hn, if_pos rfl]
    rfl
  · rw [List.getElem?_set_ne (Ne.symm hq), if_neg hq]
theorem pm_getD_rep {α : Type} (n : Nat) (x : α) (q : Nat) : (List.replicate n x).getD q x = x := by
  rw [List.getD_eq_getElem?_getD, List.getElem?_replicate]
  split <;> rfl
theorem pm_getD_of {α : Type} {l : List α} {n : Nat} {x : α} (d : α) (h : l[n]? = some x) : l.getD n d = x := by
  rw [List.getD_eq_getElem?_getD, h]; rfl
theorem pm_in {α : Type} {l : List α} {i : Int32} {x : α} (hi : ¬ i < 0) (h : l[i.toNatClampNeg]? = some x) : vp_in i l.length := by
  have h1 := (List.getElem?_eq_some_iff.mp h).1
  intro q
  rcases q with q | q
  · exact hi q
  · omega
theorem pm_inl {n : Nat} {i : Int32} (hi : ¬ i < 0) (h : i.toNatClampNeg < n) : vp_in i n := by
  intro q
  rcases q with q | q
  · exact hi q
  · omega
theorem kZrv (pre : Nat → Nat) (base ci : Nat) : (kZ ci).map (pm_rv pre base) = kZ ci := by
  unfold kZ
  split <;> rfl
section Cells
variable {p : Program} {l : Launch} {e : Env} {R : Room} {s : State} {m : MethodId} {args : Array Value} {below : List Frame} {meth : Method} {c0 : Code} {Q : State → Prop} {dC : Nat → ClassId} {dI : Nat → Nat → Nat} {aC : Nat → ClassId} {pre : Nat → Nat} {base : Nat} {xs : List Int32} {mm : pm_M} {k : pm_K} {r : Option Value × pm_H} {pc : Nat} {lv : pm_L} {st : List Value} {h : pm_H} {c sl : Nat}
theorem ps_getf (X : pm_X p R s m args meth c0 dC dI aC pre base xs mm) {ix ci f : Nat} (hf : ci < 8 ∧ f < kM ci ∧ Cond.fieldLink (kN (pm_o mm)) ix (kN ci) (kT ci f).2.1 (kT ci f).2.2.1 ∈ lw_gt) (hd : decode (pm_b mm) pc = .ok (.getfield ix, 3)) (ih : pm_IH p l e R s m args below meth c0 Q dC dI aC pre base mm k r) (hk : pm_getf k ci f pc lv st h c sl = some r) : pm_W p l e R s m args below meth c0 Q dC dI aC pre base mm pc lv st h c sl := by
  obtain ⟨hx, hb, hml, hown, hts, hin, hK, hX, hb0, hb1, hN, rfl⟩ := X
  unfold pm_getf at hk
  split at hk
  · rename_i a rr
    split at hk
    · rename_i cj fs hcell
      split at hk
      · rename_i hcj
        subst hcj
        split at hk
        · rename_i v hv
          intro H locs ls hc hs hl hP hz hS
          obtain ⟨h1, h2⟩ := pm_cell_eq pre base hcell
          rw [pm_m1 h2]
          exact va_get (D := (dC, dI)) hx hb hts (kI cj hf.1) hown hK (hP.one h1) 0 (fs := fs.map (pm_rv pre base)) rfl (kCi cj hf.1) f hf.2.1 (hts _ hf.2.2) (fun x hx => by rw [kTown cj hf.1 f hf.2.1] at hx; exact hx) (v := pm_rv pre base v) (by rw [List.getElem?_map, hv]; rfl) hd (ih _ _ _ _ _ _ hk H locs ls hc hs hl hP hz hS)
        · cases hk
      · cases hk
    · cases hk
  · cases hk
theorem ps_putf (X : pm_X p R s m args meth c0 dC dI aC pre base xs mm) {ix ci f : Nat} (hf : ci < 8 ∧ f < kM ci ∧ Cond.fieldLink (kN (pm_o mm)) ix (kN ci) (kT ci f).2.1 (kT ci f).2.2.1 ∈ lw_gt) (hfin : (kT ci f).2.2.2 = false ∨ ((kT ci f).2.2.2 = true ∧ (pm_y mm).name = "<init>" ∧ kN ci = kN (pm_o mm))) (hd : decode (pm_b mm) pc = .ok (.putfield ix, 3)) (ih : pm_IH p l e R s m args below meth c0 Q dC dI aC pre base mm k r) (hk : pm_putf k ci f pc lv st h c sl = some r) : pm_W p l e R s m args below meth c0 Q dC dI aC pre base mm pc lv st h c sl := by
  obtain ⟨hx, hb, hml, hown, hts, hin, hK, hX, hb0, hb1, hN, rfl⟩ := X
  unfold pm_putf at hk
  split at hk
  · rename_i v a rr
    split at hk
    · rename_i cj fs hcell
      split at hk
      · rename_i hcj
        subst hcj
        split at hk
        · rename_i hfl
          split at hk
          · rename_i hfit
            intro H locs ls hc hs hl hP hz hS
            obtain ⟨h1, h2⟩ := pm_cell_eq pre base hcell
            rw [pm_m2 h2]
            have hcc := kCi cj hf.1
            have hap := va_apart (own := kN (pm_o mm)) hts (kI cj hf.1) (kY cj) (kYok cj hf.1) (kNm cj hf.1) hK hcc
            obtain ⟨hn, hft⟩ := pm_fit_ok (pre := pre) (base := base) hfit
            obtain ⟨r', h1', cell, q1, q2, q3, q4⟩ := hP (a - 8) _ h1
            have hr : r' = (kN cj, kT cj, kM cj) := Option.some.inj (h1'.symm.trans hcc)
            subst hr
            obtain ⟨hS', hfc, kC', hkC, hkind⟩ := hK.1 cj _ hcc
            obtain ⟨cf, kf, fi, f', hi, hsl⟩ := hS' f hf.2.1
            have hlay := hts _ (kI cj hf.1 _ (u_in_lay hf.2.1))
            have hst := (u_facts hfc hkC (u_lays hts (kI cj hf.1) hf.2.1) hi).1
            have hsame : ∀ x, s.fieldFound? (kT cj f).1 (kT cj f).2.1 (kT cj f).2.2.1 = some x → s.fieldFound? (kN cj) (kT cj f).2.1 (kT cj f).2.2.1 = some x := fun x hx => by rw [kTown cj hf.1 f hf.2.1] at hx; exact hx
            have go : ∀ (H' : Heap), H'[base + (a - 8)]? = some (cell.setSlot f'.slot (pm_rv pre base v)) → H'.size = H.size → (∀ q, q ≠ base + (a - 8) → H'[q]? = H[q]?) → W p l e (pm_rm mm) s m args below meth c0 H' (locs ++ [⟨base + (a - 8), f'.slot⟩]) c sl Q (F0 m (pc + 3) ls (rr.map (pm_rv pre base))) := by
              intro H' e1 e2 e3
              rw [hsl] at e1 ⊢
              refine ih _ _ _ _ _ _ hk H' _ ls hc hs hl (hP.set h1 ?_ e3) (by rw [e2, hz, List.length_set]) (hS.put e2 e3 (Nat.le_add_right _ _))
              refine ⟨_, hcc, ?_⟩
              show t_OB _ _ _ _ _ (vp_V ((fs.set f v).map (pm_rv pre base)))
              rw [List.map_set]
              exact t_OB.to (V := updV (vp_V (fs.map (pm_rv pre base))) f (pm_rv pre base v)) ⟨_, e1, q2, q3, t_set q4 hap hf.2.1 _⟩ (fun j _ => vp_updV_set (by rw [List.length_map]; exact hfl) _ j)
            rcases hfin with hfin | ⟨hfin, hini, hkn⟩
            · unfold u_lay at hlay
              rw [if_neg (by rw [hfin]; decide)] at hlay
              have h6 := u_store hfc hkC hkind hlay hi (kYok cj hf.1 f hf.2.1) hn hft
              exact W.putK hx hb (f := f') ⟨hown, hts _ hf.2.2, ⟨_, _, _, hsame _ hi⟩, hst⟩ (by rw [q2]; exact h6) q1 q3 (by rw [hsl]; exact k2_hasslot (q4 f hf.2.1)) rfl rfl hd go
            · unfold u_lay at hlay
              rw [if_pos hfin] at hlay
              have hcf : m.cls = cf := by
                obtain ⟨_, _, c', _, _, _, -, -, hf', -, -, -, hown2, -⟩ := Cond.laysFinal_spec hlay
                have e1 : c' = cf := by have := hi.symm.trans hf'; simp at this; exact this.1.symm
                rw [kTown cj hf.1 f hf.2.1, hkn] at hown2
                rw [← e1]; exact Option.some.inj (hown.symm.trans hown2)
              have h6 := u_fits hfc hkC hkind (Or.inr hlay) hi (kYok cj hf.1 f hf.2.1) hn hft
              exact W.putFinK hx hb hown (hts _ hf.2.2) (hsame _ hi) hst hcf (hin hini) (by rw [q2]; exact h6) q1 q3 (by rw [hsl]; exact k2_hasslot (q4 f hf.2.1)) rfl rfl hd go
          · cases hk
        · cases hk
      · cases hk
    · cases hk
  · cases hk
theorem ps_iald (X : pm_X p R s m args meth c0 dC dI aC pre base xs mm)  (hd : decode (pm_b mm) pc = .ok (.iaload, 1)) (ih : pm_IH p l e R s m args below meth c0 Q dC dI aC pre base mm k r) (hk : pm_iald k xs pc lv st h c sl = some r) : pm_W p l e R s m args below meth c0 Q dC dI aC pre base mm pc lv st h c sl := by
  obtain ⟨hx, hb, hml, hown, hts, hin, hK, hX, hb0, hb1, hN, rfl⟩ := X
  unfold pm_iald at hk
  split at hk
  · rename_i i a rr
    split at hk
    · cases hk
    · rename_i hi
      split at hk
      · rename_i ha
        subst ha
        split at hk
        · rename_i x hx1
          intro H locs ls hc hs hl hP hz hS
          have := va_sld hx hb hX.1 (Nat.lt_of_lt_of_le hb0 hb1) (Nat.not_le.mpr hb0) hS (pm_in hi hx1) hd (rest := rr.map (pm_rv pre base)) (Q := Q) (ls := ls) (pc := pc) (l := l) (e := e) (R := pm_rm mm) (below := below) (meth := meth) (c := c0) (cells := c) (slots := sl) (by rw [pm_getD_of 0 hx1]; exact ih _ _ _ _ _ _ hk H locs ls hc hs hl hP hz hS)
          exact this
        · cases hk
      · split at hk
        · rename_i t ll hcell
          split at hk
          · rename_i ht
            subst ht
            split at hk
            · rename_i x hx1
              intro H locs ls hc hs hl hP hz hS
              obtain ⟨h1, h2⟩ := pm_cell_eq pre base hcell
              rw [pm_m2 h2]
              refine va_iald (D := (dC, dI)) hx hb hK (hP.one h1) 0 0 rfl rfl (pm_in hi hx1) hd ?_
              show W _ _ _ _ _ _ _ _ _ _ _ _ _ _ _ (F0 _ _ _ (.int (ll.getD i.toNatClampNeg 0) :: _))
              rw [pm_getD_of 0 hx1]
              exact ih _ _ _ _ _ _ hk H locs ls hc hs hl hP hz hS
            · cases hk
          · cases hk
        · cases hk
  · cases hk
theorem ps_bald (X : pm_X p R s m args meth c0 dC dI aC pre base xs mm)  (hd : decode (pm_b mm) pc = .ok (.baload, 1)) (ih : pm_IH p l e R s m args below meth c0 Q dC dI aC pre base mm k r) (hk : pm_bald k pc lv st h c sl = some r) : pm_W p l e R s m args below meth c0 Q dC dI aC pre base mm pc lv st h c sl := by
  obtain ⟨hx, hb, hml, hown, hts, hin, hK, hX, hb0, hb1, hN, rfl⟩ := X
  unfold pm_bald at hk
  split at hk
  · rename_i i a rr
    split at hk
    · cases hk
    · rename_i hi
      split at hk
      · rename_i t ll hcell
        split at hk
        · rename_i ht
          split at hk
          · rename_i x hx1
            intro H locs ls hc hs hl hP hz hS
            obtain ⟨h1, h2⟩ := pm_cell_eq pre base hcell
            rw [pm_m2 h2]
            rcases ht with rfl | rfl
            · refine va_bald (D := (dC, dI)) hx hb hK (hP.one h1) 0 1 rfl rfl (pm_in hi hx1) hd ?_
              show W _ _ _ _ _ _ _ _ _ _ _ _ _ _ _ (F0 _ _ _ (.int (ll.getD i.toNatClampNeg 0) :: _))
              rw [pm_getD_of 0 hx1]
              exact ih _ _ _ _ _ _ hk H locs ls hc hs hl hP hz hS
            · refine va_zald (D := (dC, dI)) hx hb hK (hP.one h1) 0 2 rfl rfl (pm_in hi hx1) hd ?_
              show W _ _ _ _ _ _ _ _ _ _ _ _ _ _ _ (F0 _ _ _ (.int (ll.getD i.toNatClampNeg 0) :: _))
              rw [pm_getD_of 0 hx1]
              exact ih _ _ _ _ _ _ hk H locs ls hc hs hl hP hz hS
          · cases hk
        · cases hk
      · cases hk
  · cases hk
theorem ps_lald (X : pm_X p R s m args meth c0 dC dI aC pre base xs mm)  (hd : decode (pm_b mm) pc = .ok (.laload, 1)) (ih : pm_IH p l e R s m args below meth c0 Q dC dI aC pre base mm k r) (hk : pm_lald k pc lv st h c sl = some r) : pm_W p l e R s m args below meth c0 Q dC dI aC pre base mm pc lv st h c sl := by
  obtain ⟨hx, hb, hml, hown, hts, hin, hK, hX, hb0, hb1, hN, rfl⟩ := X
  unfold pm_lald at hk
  split at hk
  · rename_i i a rr
    split at hk
    · cases hk
    · rename_i hi
      split at hk
      · rename_i t ll hcell
        split at hk
        · rename_i ht
          subst ht
          split at hk
          · rename_i x hx1
            intro H locs ls hc hs hl hP hz hS
            obtain ⟨h1, h2⟩ := pm_cell_eq pre base hcell
            rw [pm_m2 h2]
            refine va_lald (D := (dC, dI)) hx hb hK (hP.one h1) 0 3 rfl rfl (pm_in hi hx1) hd ?_
            show W _ _ _ _ _ _ _ _ _ _ _ _ _ _ _ (F0 _ _ _ (.long (ll.getD i.toNatClampNeg 0) :: _))
            rw [pm_getD_of 0 hx1]
            exact ih _ _ _ _ _ _ hk H locs ls hc hs hl hP hz hS
          · cases hk
        · cases hk
      · cases hk
  · cases hk
theorem ps_aald (X : pm_X p R s m args meth c0 dC dI aC pre base xs mm)  (hd : decode (pm_b mm) pc = .ok (.aaload, 1)) (ih : pm_IH p l e R s m args below meth c0 Q dC dI aC pre base mm k r) (hk : pm_aald k pc lv st h c sl = some r) : pm_W p l e R s m args below meth c0 Q dC dI aC pre base mm pc lv st h c sl := by
  obtain ⟨hx, hb, hml, hown, hts, hin, hK, hX, hb0, hb1, hN, rfl⟩ := X
  unfold pm_aald at hk
  split at hk
  · rename_i i a rr
    split at hk
    · cases hk
    · rename_i hi
      split at hk
      · rename_i t ll hcell
        split at hk
        · rename_i ht
          split at hk
          · rename_i x hx1
            intro H locs ls hc hs hl hP hz hS
            obtain ⟨h1, h2⟩ := pm_cell_eq pre base hcell
            rw [pm_m2 h2]
            have key : ∀ (C : String) (t0 : Nat), (pm_ty aC)[t0]? = some (aC t, .object C) → W p l e (pm_rm mm) s m args below meth c0 H locs c sl Q (F0 m pc ls (.int i :: .ref (base + (a - 8)) :: rr.map (pm_rv pre base))) := by
              intro C t0 htt
              refine va_aldq (D := (dC, dI)) hx hb hK (hP.one h1) 0 t0 rfl htt (pm_in hi hx1) hd ?_
              show W _ _ _ _ _ _ _ _ _ _ _ _ _ _ _ (F0 _ _ _ (va_rf ((ll.getD i.toNatClampNeg none).map (pm_ad pre base)) :: _))
              rw [pm_getD_of none hx1]
              exact ih _ _ _ _ _ _ hk H locs ls hc hs hl hP hz hS
            rcases ht with rfl | rfl
            · exact key _ 4 rfl
            · exact key _ 5 rfl
          · cases hk
        · cases hk
      · cases hk
  · cases hk
theorem ps_iast (X : pm_X p R s m args meth c0 dC dI aC pre base xs mm)  (hd : decode (pm_b mm) pc = .ok (.iastore, 1)) (ih : pm_IH p l e R s m args below meth c0 Q dC dI aC pre base mm k r) (hk : pm_iast k pc lv st h c sl = some r) : pm_W p l e R s m args below meth c0 Q dC dI aC pre base mm pc lv st h c sl := by
  obtain ⟨hx, hb, hml, hown, hts, hin, hK, hX, hb0, hb1, hN, rfl⟩ := X
  unfold pm_iast at hk
  split at hk
  · rename_i x i a rr
    split at hk
    · cases hk
    · rename_i hi
      split at hk
      · rename_i t ll hcell
        split at hk
        · rename_i ht
          subst ht
          split at hk
          · rename_i hlt
            intro H locs ls hc hs hl hP hz hS
            obtain ⟨h1, h2⟩ := pm_cell_eq pre base hcell
            rw [pm_m3 h2]
            refine W.iast hx hb (hP _ _ h1) ((hK.2 0 _ rfl).1 ll.length (fun j => .int (ll.getD j 0))) (fun q => by cases q) (by show ¬ (i < 0 ∨ (arrV _ _ _).slots.size ≤ _); rw [arrV_size]; exact pm_inl hi hlt) rfl rfl hd fun H1 e1 z oq => ?_
            refine ih _ _ _ _ _ _ hk H1 _ ls hc hs hl (hP.set h1 ?_ oq) (by rw [z, hz, List.length_set]) (hS.put z oq (Nat.le_add_right _ _))
            show H1[base + (a - 8)]? = some (vp_cell (aC 0) ((ll.set _ _).length, .inl (fun j => (ll.set _ _).getD j 0)))
            rw [e1, List.length_set]
            show some ((vp_cell _ _).setSlot _ _) = _
            rw [vp_cell_i, vp_cell_i, arrV_store]
            congr 2
            funext q
            rw [pm_getD_set _ _ _ _ hlt]
            by_cases hq : q = i.toNatClampNeg
            · subst hq
              first | (simp [updV]; done) | (simp [updV]; rfl)
            · simp [updV, hq]
          · cases hk
        · cases hk
      · cases hk
  · cases hk
theorem ps_last (X : pm_X p R s m args meth c0 dC dI aC pre base xs mm)  (hd : decode (pm_b mm) pc = .ok (.lastore, 1)) (ih : pm_IH p l e R s m args below meth c0 Q dC dI aC pre base mm k r) (hk : pm_last k pc lv st h c sl = some r) : pm_W p l e R s m args below meth c0 Q dC dI aC pre base mm pc lv st h c sl := by
  obtain ⟨hx, hb, hml, hown, hts, hin, hK, hX, hb0, hb1, hN, rfl⟩ := X
  unfold pm_last at hk
  split at hk
  · rename_i x i a rr
    split at hk
    · cases hk
    · rename_i hi
      split at hk
      · rename_i t ll hcell
        split at hk
        · rename_i ht
          subst ht
          split at hk
          · rename_i hlt
            intro H locs ls hc hs hl hP hz hS
            obtain ⟨h1, h2⟩ := pm_cell_eq pre base hcell
            rw [pm_m3 h2]
            refine W.last hx hb (hP _ _ h1) ((hK.2 3 _ rfl).1 ll.length (fun j => .long (ll.getD j 0))) (fun q => by cases q) (by show ¬ (i < 0 ∨ (arrV _ _ _).slots.size ≤ _); rw [arrV_size]; exact pm_inl hi hlt) rfl rfl hd fun H1 e1 z oq => ?_
            refine ih _ _ _ _ _ _ hk H1 _ ls hc hs hl (hP.set h1 ?_ oq) (by rw [z, hz, List.length_set]) (hS.put z oq (Nat.le_add_right _ _))
            show H1[base + (a - 8)]? = some (vp_cell (aC 3) ((ll.set _ _).length, .inr (.inl (fun j => (ll.set _ _).getD j 0))))
            rw [e1, List.length_set]
            show some ((vp_cell _ _).setSlot _ _) = _
            rw [vp_cell_l, vp_cell_l, arrV_store]
            congr 2
            funext q
            rw [pm_getD_set _ _ _ _ hlt]
            by_cases hq : q = i.toNatClampNeg
            · subst hq
              first | (simp [updV]; done) | (simp [updV]; rfl)
            · simp [updV, hq]
          · cases hk
        · cases hk
      · cases hk
  · cases hk
theorem ps_bast (X : pm_X p R s m args meth c0 dC dI aC pre base xs mm)  (hd : decode (pm_b mm) pc = .ok (.bastore, 1)) (ih : pm_IH p l e R s m args below meth c0 Q dC dI aC pre base mm k r) (hk : pm_bast k pc lv st h c sl = some r) : pm_W p l e R s m args below meth c0 Q dC dI aC pre base mm pc lv st h c sl := by
  obtain ⟨hx, hb, hml, hown, hts, hin, hK, hX, hb0, hb1, hN, rfl⟩ := X
  unfold pm_bast at hk
  split at hk
  · rename_i x i a rr
    split at hk
    · cases hk
    · rename_i hi
      split at hk
      · rename_i t ll hcell
        split at hk
        · rename_i ht
          subst ht
          split at hk
          · rename_i hlt
            intro H locs ls hc hs hl hP hz hS
            obtain ⟨h1, h2⟩ := pm_cell_eq pre base hcell
            rw [pm_m3 h2]
            refine W.bast hx hb (hP _ _ h1) ((hK.2 1 _ rfl).1 ll.length (fun j => .int (ll.getD j 0))) (fun q => by cases q) (by show ¬ (i < 0 ∨ (arrV _ _ _).slots.size ≤ _); rw [arrV_size]; exact pm_inl hi hlt) rfl rfl hd fun H1 e1 z oq => ?_
            refine ih _ _ _ _ _ _ hk H1 _ ls hc hs hl (hP.set h1 ?_ oq) (by rw [z, hz, List.length_set]) (hS.put z oq (Nat.le_add_right _ _))
            show H1[base + (a - 8)]? = some (vp_cell (aC 1) ((ll.set _ _).length, .inl (fun j => (ll.set _ _).getD j 0)))
            rw [e1, List.length_set]
            show some ((vp_cell _ _).setSlot _ _) = _
            rw [vp_cell_i, vp_cell_i, arrV_store]
            congr 2
            funext q
            rw [pm_getD_set _ _ _ _ hlt]
            by_cases hq : q = i.toNatClampNeg
            · subst hq
              first | (simp [updV]; done) | (simp [updV]; rfl)
            · simp [updV, hq]
          · cases hk
        · split at hk
          · rename_i ht
            subst ht
            split at hk
            · rename_i hlt
              intro H locs ls hc hs hl hP hz hS
              obtain ⟨h1, h2⟩ := pm_cell_eq pre base hcell
              rw [pm_m3 h2]
              refine W.zast hx hb (hP _ _ h1) ((hK.2 2 _ rfl).1 ll.length (fun j => .int (ll.getD j 0))) (fun q => by cases q) (by show ¬ (i < 0 ∨ (arrV _ _ _).slots.size ≤ _); rw [arrV_size]; exact pm_inl hi hlt) rfl rfl hd fun H1 e1 z oq => ?_
              refine ih _ _ _ _ _ _ hk H1 _ ls hc hs hl (hP.set h1 ?_ oq) (by rw [z, hz, List.length_set]) (hS.put z oq (Nat.le_add_right _ _))
              show H1[base + (a - 8)]? = some (vp_cell (aC 2) ((ll.set _ _).length, .inl (fun j => (ll.set _ _).getD j 0)))
              rw [e1, List.length_set]
              show some ((vp_cell _ _).setSlot _ _) = _
              rw [vp_cell_i, vp_cell_i, arrV_store]
              congr 2
              funext q
              rw [pm_getD_set _ _ _ _ hlt]
              by_cases hq : q = i.toNatClampNeg
              · subst hq
                first | (simp [updV]; done) | (simp [updV]; rfl)
              · simp [updV, hq]
            · cases hk
          · cases hk
      · cases hk
  · cases hk
end Cells
end
