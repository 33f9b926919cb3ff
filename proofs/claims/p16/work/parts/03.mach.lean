/-! THE PURE MACHINE. A reference is a number: 0 the script, 8 + i the i-th cell that the run has made. -/
/-- the texts of the seven string constants (references 1 to 7) -/
def sg_len : List Nat := [4, 4, 2, 5, 4, 5, 4]
def sg_byt : List (List Int32) := [[116, 111, 119, 110], [119, 97, 108, 108], [97, 116], [115, 116, 105, 108, 108], [112, 117, 108, 108], [112, 114, 101, 115, 115], [103, 111, 97, 108]]
abbrev pm_C : Type := (Nat × List Int32) ⊕ ((Nat × List Int64) ⊕ ((Nat × List (Option Nat)) ⊕ (Nat × List Value)))
abbrev pm_H : Type := List pm_C
abbrev pm_L : Type := List (Nat × Value)
abbrev pm_R : Type := Option (Option Value × pm_H)
abbrev pm_E : Type := Instr × Nat × Nat × Int
abbrev pm_K : Type := Nat → pm_L → List Value → pm_H → Nat → Nat → pm_R
/-- a method: name, bytes, locals, answer, class, arguments (the receiver too), frames, words, cells, slots, code -/
abbrev pm_M : Type := MethodName × ByteArray × Nat × Option FieldType × Nat × Nat × Nat × Nat × Nat × Nat × List (List (Option pm_E))
def pm_y (m : pm_M) : MethodName := m.1
def pm_b (m : pm_M) : ByteArray := m.2.1
def pm_ml (m : pm_M) : Nat := m.2.2.1
def pm_rt (m : pm_M) : Option FieldType := m.2.2.2.1
def pm_o (m : pm_M) : Nat := m.2.2.2.2.1
def pm_n (m : pm_M) : Nat := m.2.2.2.2.2.1
def pm_f (m : pm_M) : Nat := m.2.2.2.2.2.2.1
def pm_w (m : pm_M) : Nat := m.2.2.2.2.2.2.2.1
def pm_c (m : pm_M) : Nat := m.2.2.2.2.2.2.2.2.1
def pm_s (m : pm_M) : Nat := m.2.2.2.2.2.2.2.2.2.1
def pm_t (m : pm_M) : List (List (Option pm_E)) := m.2.2.2.2.2.2.2.2.2.2
def pm_rm (m : pm_M) : Room := { frames := pm_f m, cells := pm_c m, slots := pm_s m, locals := pm_w m }
def pm_at (m : pm_M) (pc : Nat) : Option pm_E := match (pm_t m)[pc / 16]? with
  | none => none
  | some ch => match ch[pc % 16]? with
    | some (some e) => some e
    | _ => none
def pm_len : Instr → Nat
  | .bipush _ | .ldc _ | .iload _ | .lload _ | .aload _ | .istore _ | .lstore _ | .astore _ | .newarray _ => 2
  | .sipush _ | .ldc_w _ | .ldc2_w _ | .iinc _ _ | .ifCond _ _ | .if_icmp _ _ | .goto _ | .getfield _ | .putfield _ | .invokevirtual _ | .invokespecial _ | .invokestatic _ | .new _ | .anewarray _ => 3
  | _ => 1
def pm_cell (h : pm_H) (a : Nat) : Option pm_C := if a < 8 then none else h[a - 8]?
/-- a place in the order of the numbers -/
def pm_plc {α : Type} (i : Nat) (v : α) : List (Nat × α) → List (Nat × α)
  | [] => [(i, v)]
  | q :: r => if q.1 < i then q :: pm_plc i v r else (i, v) :: q :: r
def pm_s1 (lv : pm_L) (i : Nat) (v : Value) : pm_L := pm_plc i v (lv.filter (fun q => !(q.1 == i) && !(q.1 + 1 == i && q.2.category == 2)))
def pm_s2 (lv : pm_L) (i : Nat) (v : Value) : pm_L := pm_plc i v (lv.filter (fun q => !(q.1 == i) && (!(q.1 == i + 1) && !(q.1 + 1 == i && q.2.category == 2))))
def pm_fit : FieldType → Value → Bool
  | .int, .int _ => true
  | .long, .long _ => true
  | .boolean, .int v => v == 0 || v == 1
  | .object _, .ref _ => true
  | .array _, .ref _ => true
  | _, _ => false
def pm_cpy {α : Type} (f g : List α) (sp dp n : Nat) : List α := g.take dp ++ ((f.drop sp).take n ++ g.drop (dp + n))
section Step
variable (k : pm_K)
def pm_bi (f : Int32 → Int32 → Int32) (pc : Nat) (lv : pm_L) (st : List Value) (h : pm_H) (c sl : Nat) : pm_R := match st with
  | .int y :: .int x :: r => k (pc + 1) lv (.int (f x y) :: r) h c sl
  | _ => none
def pm_bz (f : Int32 → Int32 → Int32) (pc : Nat) (lv : pm_L) (st : List Value) (h : pm_H) (c sl : Nat) : pm_R := match st with
  | .int y :: .int x :: r => if y = 0 then none else k (pc + 1) lv (.int (f x y) :: r) h c sl
  | _ => none
def pm_bl (f : Int64 → Int64 → Int64) (pc : Nat) (lv : pm_L) (st : List Value) (h : pm_H) (c sl : Nat) : pm_R := match st with
  | .long y :: .long x :: r => k (pc + 1) lv (.long (f x y) :: r) h c sl
  | _ => none
def pm_blz (f : Int64 → Int64 → Int64) (pc : Nat) (lv : pm_L) (st : List Value) (h : pm_H) (c sl : Nat) : pm_R := match st with
  | .long y :: .long x :: r => if y = 0 then none else k (pc + 1) lv (.long (f x y) :: r) h c sl
  | _ => none
def pm_u (f : Int32 → Int32) (pc : Nat) (lv : pm_L) (st : List Value) (h : pm_H) (c sl : Nat) : pm_R := match st with
  | .int x :: r => k (pc + 1) lv (.int (f x) :: r) h c sl
  | _ => none
def pm_ldi (i npc : Nat) (lv : pm_L) (st : List Value) (h : pm_H) (c sl : Nat) : pm_R := match lv.lookup i with
  | some (.int x) => k npc lv (.int x :: st) h c sl
  | _ => none
def pm_ldl (i npc : Nat) (lv : pm_L) (st : List Value) (h : pm_H) (c sl : Nat) : pm_R := match lv.lookup i with
  | some (.long x) => k npc lv (.long x :: st) h c sl
  | _ => none
def pm_lda (i npc : Nat) (lv : pm_L) (st : List Value) (h : pm_H) (c sl : Nat) : pm_R := match lv.lookup i with
  | some (.ref x) => k npc lv (.ref x :: st) h c sl
  | _ => none
def pm_sti (nL i npc : Nat) (lv : pm_L) (st : List Value) (h : pm_H) (c sl : Nat) : pm_R := match st with
  | .int x :: r => if i < nL then k npc (pm_s1 lv i (.int x)) r h c sl else none
  | _ => none
def pm_sta (nL i npc : Nat) (lv : pm_L) (st : List Value) (h : pm_H) (c sl : Nat) : pm_R := match st with
  | .ref x :: r => if i < nL then k npc (pm_s1 lv i (.ref x)) r h c sl else none
  | _ => none
def pm_stl (nL i npc : Nat) (lv : pm_L) (st : List Value) (h : pm_H) (c sl : Nat) : pm_R := match st with
  | .long x :: r => if i + 1 < nL then k npc (pm_s2 lv i (.long x)) r h c sl else none
  | _ => none
def pm_iinc (nL i : Nat) (n : Int) (pc : Nat) (lv : pm_L) (st : List Value) (h : pm_H) (c sl : Nat) : pm_R := match lv.lookup i with
  | some (.int x) => if i < nL then k (pc + 3) (pm_s1 lv i (.int (x + Int32.ofInt n))) st h c sl else none
  | _ => none
def pm_if (cd : ClassFile.Cond) (tgt pc : Nat) (lv : pm_L) (st : List Value) (h : pm_H) (c sl : Nat) : pm_R := match st with
  | .int x :: r => match cd with
    | .eq => if x = 0 then k tgt lv r h c sl else k (pc + 3) lv r h c sl
    | .ne => if x = 0 then k (pc + 3) lv r h c sl else k tgt lv r h c sl
    | .lt => if x < 0 then k tgt lv r h c sl else k (pc + 3) lv r h c sl
    | .ge => if 0 ≤ x then k tgt lv r h c sl else k (pc + 3) lv r h c sl
    | .gt => if 0 < x then k tgt lv r h c sl else k (pc + 3) lv r h c sl
    | .le => if x ≤ 0 then k tgt lv r h c sl else k (pc + 3) lv r h c sl
  | _ => none
def pm_ic (cd : ClassFile.Cond) (tgt pc : Nat) (lv : pm_L) (st : List Value) (h : pm_H) (c sl : Nat) : pm_R := match st with
  | .int y :: .int x :: r => match cd with
    | .eq => if x = y then k tgt lv r h c sl else k (pc + 3) lv r h c sl
    | .ne => if x = y then k (pc + 3) lv r h c sl else k tgt lv r h c sl
    | .lt => if x < y then k tgt lv r h c sl else k (pc + 3) lv r h c sl
    | .ge => if y ≤ x then k tgt lv r h c sl else k (pc + 3) lv r h c sl
    | .gt => if y < x then k tgt lv r h c sl else k (pc + 3) lv r h c sl
    | .le => if x ≤ y then k tgt lv r h c sl else k (pc + 3) lv r h c sl
  | _ => none
def pm_jump (t : Int) (lv : pm_L) (st : List Value) (h : pm_H) (c sl : Nat) : pm_R := if 0 ≤ t then k t.toNat lv st h c sl else none
def pm_tsw (d lo hi : Int) (offs : Array Int) (pc : Nat) (lv : pm_L) (st : List Value) (h : pm_H) (c sl : Nat) : pm_R := match st with
  | .int x :: r => if x.toInt < lo then pm_jump k ((pc : Int) + d) lv r h c sl
    else if hi < x.toInt then pm_jump k ((pc : Int) + d) lv r h c sl
    else match offs[(x.toInt - lo).toNat]? with
      | some off => pm_jump k ((pc : Int) + off) lv r h c sl
      | none => none
  | _ => none
def pm_getf (ci f pc : Nat) (lv : pm_L) (st : List Value) (h : pm_H) (c sl : Nat) : pm_R := match st with
  | .ref a :: r => match pm_cell h a with
    | some (.inr (.inr (.inr (cj, fs)))) => if cj = ci then (match fs[f]? with
      | some v => k (pc + 3) lv (v :: r) h c sl
      | none => none) else none
    | _ => none
  | _ => none
def pm_putf (ci f pc : Nat) (lv : pm_L) (st : List Value) (h : pm_H) (c sl : Nat) : pm_R := match st with
  | v :: .ref a :: r => match pm_cell h a with
    | some (.inr (.inr (.inr (cj, fs)))) => if cj = ci then (if f < fs.length then (match pm_fit (kY ci f) v with
      | true => k (pc + 3) lv r (h.set (a - 8) (.inr (.inr (.inr (ci, fs.set f v))))) c sl
      | false => none) else none) else none
    | _ => none
  | _ => none
def pm_iald (xs : List Int32) (pc : Nat) (lv : pm_L) (st : List Value) (h : pm_H) (c sl : Nat) : pm_R := match st with
  | .int i :: .ref a :: r => if i < 0 then none else if a = 0 then (match xs[i.toNatClampNeg]? with
      | some x => k (pc + 1) lv (.int x :: r) h c sl
      | none => none)
    else match pm_cell h a with
      | some (.inl (t, l)) => if t = 0 then (match l[i.toNatClampNeg]? with
        | some x => k (pc + 1) lv (.int x :: r) h c sl
        | none => none) else none
      | _ => none
  | _ => none
def pm_bald (pc : Nat) (lv : pm_L) (st : List Value) (h : pm_H) (c sl : Nat) : pm_R := match st with
  | .int i :: .ref a :: r => if i < 0 then none else match pm_cell h a with
      | some (.inl (t, l)) => if t = 1 ∨ t = 2 then (match l[i.toNatClampNeg]? with
        | some x => k (pc + 1) lv (.int x :: r) h c sl
        | none => none) else none
      | _ => none
  | _ => none
def pm_lald (pc : Nat) (lv : pm_L) (st : List Value) (h : pm_H) (c sl : Nat) : pm_R := match st with
  | .int i :: .ref a :: r => if i < 0 then none else match pm_cell h a with
      | some (.inr (.inl (t, l))) => if t = 3 then (match l[i.toNatClampNeg]? with
        | some x => k (pc + 1) lv (.long x :: r) h c sl
        | none => none) else none
      | _ => none
  | _ => none
def pm_aald (pc : Nat) (lv : pm_L) (st : List Value) (h : pm_H) (c sl : Nat) : pm_R := match st with
  | .int i :: .ref a :: r => if i < 0 then none else match pm_cell h a with
      | some (.inr (.inr (.inl (t, l)))) => if t = 4 ∨ t = 5 then (match l[i.toNatClampNeg]? with
        | some (some x) => k (pc + 1) lv (.ref x :: r) h c sl
        | _ => none) else none
      | _ => none
  | _ => none
def pm_iast (pc : Nat) (lv : pm_L) (st : List Value) (h : pm_H) (c sl : Nat) : pm_R := match st with
  | .int x :: .int i :: .ref a :: r => if i < 0 then none else match pm_cell h a with
      | some (.inl (t, l)) => if t = 0 then (if i.toNatClampNeg < l.length then k (pc + 1) lv r (h.set (a - 8) (.inl (0, l.set i.toNatClampNeg x))) c sl else none) else none
      | _ => none
  | _ => none
def pm_bast (pc : Nat) (lv : pm_L) (st : List Value) (h : pm_H) (c sl : Nat) : pm_R := match st with
  | .int x :: .int i :: .ref a :: r => if i < 0 then none else match pm_cell h a with
      | some (.inl (t, l)) => if t = 1 then (if i.toNatClampNeg < l.length then k (pc + 1) lv r (h.set (a - 8) (.inl (1, l.set i.toNatClampNeg x.toInt8.toInt32))) c sl else none)
        else if t = 2 then (if i.toNatClampNeg < l.length then k (pc + 1) lv r (h.set (a - 8) (.inl (2, l.set i.toNatClampNeg (x &&& 1)))) c sl else none) else none
      | _ => none
  | _ => none
def pm_last (pc : Nat) (lv : pm_L) (st : List Value) (h : pm_H) (c sl : Nat) : pm_R := match st with
  | .long x :: .int i :: .ref a :: r => if i < 0 then none else match pm_cell h a with
      | some (.inr (.inl (t, l))) => if t = 3 then (if i.toNatClampNeg < l.length then k (pc + 1) lv r (h.set (a - 8) (.inr (.inl (3, l.set i.toNatClampNeg x)))) c sl else none) else none
      | _ => none
  | _ => none
def pm_comp (t : Nat) : Nat := if t = 4 then 4 else 1
def pm_aast (pc : Nat) (lv : pm_L) (st : List Value) (h : pm_H) (c sl : Nat) : pm_R := match st with
  | .ref v :: .int i :: .ref a :: r => if i < 0 then none else match pm_cell h a, pm_cell h v with
      | some (.inr (.inr (.inl (t, l)))), some (.inr (.inr (.inr (cj, _)))) => if t = 4 ∨ t = 5 then (if cj = pm_comp t then (if i.toNatClampNeg < l.length then k (pc + 1) lv r (h.set (a - 8) (.inr (.inr (.inl (t, l.set i.toNatClampNeg (some v)))))) c sl else none) else none) else none
      | _, _ => none
  | _ => none
def pm_alen (xs : List Int32) (pc : Nat) (lv : pm_L) (st : List Value) (h : pm_H) (c sl : Nat) : pm_R := match st with
  | .ref a :: r => if a = 0 then k (pc + 1) lv (.int (Int32.ofNat xs.length) :: r) h c sl else match pm_cell h a with
      | some (.inl (t, l)) => if t < 3 then k (pc + 1) lv (.int (Int32.ofNat l.length) :: r) h c sl else none
      | _ => none
  | _ => none
def pm_new (mm : pm_M) (ci pc : Nat) (lv : pm_L) (st : List Value) (h : pm_H) (c sl : Nat) : pm_R :=
  if c + 1 ≤ pm_c mm then (if sl + kM ci ≤ pm_s mm then k (pc + 3) lv (.ref (8 + h.length) :: st) (h ++ [.inr (.inr (.inr (ci, kZ ci)))]) (c + 1) (sl + kM ci) else none) else none
def pm_newa (mm : pm_M) (at_ : ArrayType) (pc : Nat) (lv : pm_L) (st : List Value) (h : pm_H) (c sl : Nat) : pm_R := match st with
  | .int n :: r => if n < 0 then none else if n.toNatClampNeg ≤ 1000000 then (if c + 1 ≤ pm_c mm then (if sl + n.toNatClampNeg ≤ pm_s mm then (match at_ with
      | .int => k (pc + 2) lv (.ref (8 + h.length) :: r) (h ++ [.inl (0, List.replicate n.toNatClampNeg 0)]) (c + 1) (sl + n.toNatClampNeg)
      | .byte => k (pc + 2) lv (.ref (8 + h.length) :: r) (h ++ [.inl (1, List.replicate n.toNatClampNeg 0)]) (c + 1) (sl + n.toNatClampNeg)
      | .boolean => k (pc + 2) lv (.ref (8 + h.length) :: r) (h ++ [.inl (2, List.replicate n.toNatClampNeg 0)]) (c + 1) (sl + n.toNatClampNeg)
      | .long => k (pc + 2) lv (.ref (8 + h.length) :: r) (h ++ [.inr (.inl (3, List.replicate n.toNatClampNeg 0))]) (c + 1) (sl + n.toNatClampNeg)
      | _ => none) else none) else none) else none
  | _ => none
def pm_anew (mm : pm_M) (t pc : Nat) (lv : pm_L) (st : List Value) (h : pm_H) (c sl : Nat) : pm_R := match st with
  | .int n :: r => if n < 0 then none else if n.toNatClampNeg ≤ 1000000 then (if c + 1 ≤ pm_c mm then (if sl + n.toNatClampNeg ≤ pm_s mm then
      k (pc + 3) lv (.ref (8 + h.length) :: r) (h ++ [.inr (.inr (.inl (t, List.replicate n.toNatClampNeg none)))]) (c + 1) (sl + n.toNatClampNeg) else none) else none) else none
  | _ => none
def pm_copy (pc : Nat) (lv : pm_L) (st : List Value) (h : pm_H) (c sl : Nat) : pm_R := match st with
  | [.int n, .int dp, .ref a, .int sp, .ref b] => if sp < 0 then none else if dp < 0 then none else if n < 0 then none else match pm_cell h a, pm_cell h b with
      | some (.inl (t, g)), some (.inl (u, f)) => if t = 0 ∧ u = 0 then (if sp.toNatClampNeg + n.toNatClampNeg ≤ f.length then (if dp.toNatClampNeg + n.toNatClampNeg ≤ g.length then
          k (pc + 3) lv [] (h.set (a - 8) (.inl (0, pm_cpy f g sp.toNatClampNeg dp.toNatClampNeg n.toNatClampNeg))) c sl else none) else none) else none
      | _, _ => none
  | _ => none
def pm_call (big : Nat → List Value → pm_H → pm_R) (mm m2 : pm_M) (M2 : Nat) (pc : Nat) (lv : pm_L) (as rest : List Value) (h : pm_H) (c sl : Nat) : pm_R :=
  if (rest.map Value.category).sum ≤ 8 then (if c + pm_c m2 ≤ pm_c mm then (if sl + pm_s m2 ≤ pm_s mm then (match big M2 as h with
    | some (r, h') => k (pc + 3) lv (r.toList ++ rest) h' (c + pm_c m2) (sl + pm_s m2)
    | none => none) else none) else none) else none
def pm_inv (tab : Nat → Option pm_M) (big : Nat → List Value → pm_H → pm_R) (mm : pm_M) (M2 : Nat) (pc : Nat) (lv : pm_L) (st : List Value) (h : pm_H) (c sl : Nat) : pm_R := match tab M2 with
  | none => none
  | some m2 => if pm_n m2 ≤ st.length then (match (st.take (pm_n m2)).reverse with
      | .ref a :: as => (match pm_cell h a with
        | some (.inr (.inr (.inr (cj, _)))) => if cj = pm_o m2 then pm_call k big mm m2 M2 pc lv (.ref a :: as) (st.drop (pm_n m2)) h c sl else none
        | _ => none)
      | _ => none) else none
def pm_ins (tab : Nat → Option pm_M) (big : Nat → List Value → pm_H → pm_R) (mm : pm_M) (M2 : Nat) (pc : Nat) (lv : pm_L) (st : List Value) (h : pm_H) (c sl : Nat) : pm_R := match tab M2 with
  | none => none
  | some m2 => if pm_n m2 ≤ st.length then pm_call k big mm m2 M2 pc lv (st.take (pm_n m2)).reverse (st.drop (pm_n m2)) h c sl else none
def pm_obj (pc : Nat) (lv : pm_L) (st : List Value) (h : pm_H) (c sl : Nat) : pm_R := match st with
  | [.ref _] => k (pc + 3) lv [] h c sl
  | _ => none
def pm_dup (pc : Nat) (lv : pm_L) (st : List Value) (h : pm_H) (c sl : Nat) : pm_R := match st with
  | v :: r => if v.category = 1 then k (pc + 1) lv (v :: v :: r) h c sl else none
  | _ => none
def pm_dup2 (pc : Nat) (lv : pm_L) (st : List Value) (h : pm_H) (c sl : Nat) : pm_R := match st with
  | v :: w :: r => if v.category = 1 then (if w.category = 1 then k (pc + 1) lv (v :: w :: v :: w :: r) h c sl else none) else none
  | _ => none
def pm_pop (pc : Nat) (lv : pm_L) (st : List Value) (h : pm_H) (c sl : Nat) : pm_R := match st with
  | v :: r => if v.category = 1 then k (pc + 1) lv r h c sl else none
  | _ => none
def pm_pop2 (pc : Nat) (lv : pm_L) (st : List Value) (h : pm_H) (c sl : Nat) : pm_R := match st with
  | v :: r => if v.category = 2 then k (pc + 1) lv r h c sl else none
  | _ => none
def pm_lcmp (pc : Nat) (lv : pm_L) (st : List Value) (h : pm_H) (c sl : Nat) : pm_R := match st with
  | .long y :: .long x :: r => k (pc + 1) lv (.int (lg_cmp x y) :: r) h c sl
  | _ => none
def pm_ldcs (b pc : Nat) (lv : pm_L) (st : List Value) (h : pm_H) (c sl : Nat) : pm_R := if 1 ≤ b then (if b ≤ 7 then k (pc + 2) lv (.ref b :: st) h c sl else none) else none
def pm_slen (pc : Nat) (lv : pm_L) (st : List Value) (h : pm_H) (c sl : Nat) : pm_R := match st with
  | .ref b :: r => if 1 ≤ b then (if b ≤ 7 then (if (r.map Value.category).sum ≤ 8 then k (pc + 3) lv (.int (Int32.ofNat (sg_len.getD (b - 1) 0)) :: r) h c sl else none) else none) else none
  | _ => none
def pm_sch (pc : Nat) (lv : pm_L) (st : List Value) (h : pm_H) (c sl : Nat) : pm_R := match st with
  | .int j :: .ref b :: r => if 1 ≤ b then (if b ≤ 7 then (if j < 0 then none else (if j.toNatClampNeg < sg_len.getD (b - 1) 0 then (if (r.map Value.category).sum ≤ 8 then k (pc + 3) lv (.int ((sg_byt.getD (b - 1) []).getD j.toNatClampNeg 0) :: r) h c sl else none) else none)) else none) else none
  | _ => none
def pm_i2l (pc : Nat) (lv : pm_L) (st : List Value) (h : pm_H) (c sl : Nat) : pm_R := match st with
  | .int x :: r => k (pc + 1) lv (.long x.toInt64 :: r) h c sl
  | _ => none
end Step
def pm_ret (mm : pm_M) (st : List Value) (h : pm_H) : pm_R := match st, pm_rt mm with
  | [.int v], some ty => (match pm_fit ty (.int v) with
    | true => some (some (.int v), h)
    | false => none)
  | _, _ => none
def pm_retl (mm : pm_M) (st : List Value) (h : pm_H) : pm_R := match st, pm_rt mm with
  | [.long v], some .long => some (some (.long v), h)
  | _, _ => none
def pm_reta (mm : pm_M) (st : List Value) (h : pm_H) : pm_R := match st, pm_rt mm with
  | [.ref v], some (.object _) => some (some (.ref v), h)
  | _, _ => none
def pm_retv (mm : pm_M) (st : List Value) (h : pm_H) : pm_R := match st, pm_rt mm with
  | [], none => some (none, h)
  | _, _ => none
def pm_step (xs : List Int32) (tab : Nat → Option pm_M) (big : Nat → List Value → pm_H → pm_R) (mm : pm_M) (k : pm_K) (e : pm_E) (pc : Nat) (lv : pm_L) (st : List Value) (h : pm_H) (c sl : Nat) : pm_R := match e.1 with
  | .iconst n => k (pc + 1) lv (.int (Int32.ofInt n) :: st) h c sl
  | .bipush n => k (pc + 2) lv (.int (Int8.ofInt n).toInt32 :: st) h c sl
  | .sipush n => k (pc + 3) lv (.int (Int16.ofInt n).toInt32 :: st) h c sl
  | .lconst n => k (pc + 1) lv (.long (Int64.ofNat n) :: st) h c sl
  | .ldc _ => if e.2.1 = 0 then k (pc + 2) lv (.int (Int32.ofInt e.2.2.2) :: st) h c sl else if e.2.1 = 1 then pm_ldcs k e.2.2.1 pc lv st h c sl else none
  | .ldc_w _ => if e.2.1 = 0 then k (pc + 3) lv (.int (Int32.ofInt e.2.2.2) :: st) h c sl else none
  | .ldc2_w _ => k (pc + 3) lv (.long (Int64.ofInt e.2.2.2) :: st) h c sl
  | .iload_n i => pm_ldi k i (pc + 1) lv st h c sl
  | .iload i => pm_ldi k i (pc + 2) lv st h c sl
  | .lload_n i => pm_ldl k i (pc + 1) lv st h c sl
  | .lload i => pm_ldl k i (pc + 2) lv st h c sl
  | .aload_n i => pm_lda k i (pc + 1) lv st h c sl
  | .aload i => pm_lda k i (pc + 2) lv st h c sl
  | .istore_n i => pm_sti k (pm_ml mm) i (pc + 1) lv st h c sl
  | .istore i => pm_sti k (pm_ml mm) i (pc + 2) lv st h c sl
  | .lstore_n i => pm_stl k (pm_ml mm) i (pc + 1) lv st h c sl
  | .lstore i => pm_stl k (pm_ml mm) i (pc + 2) lv st h c sl
  | .astore_n i => pm_sta k (pm_ml mm) i (pc + 1) lv st h c sl
  | .astore i => pm_sta k (pm_ml mm) i (pc + 2) lv st h c sl
  | .iinc i n => pm_iinc k (pm_ml mm) i n pc lv st h c sl
  | .iadd => pm_bi k (fun x y => x + y) pc lv st h c sl
  | .isub => pm_bi k (fun x y => x - y) pc lv st h c sl
  | .imul => pm_bi k (fun x y => x * y) pc lv st h c sl
  | .iand => pm_bi k (fun x y => x &&& y) pc lv st h c sl
  | .ior => pm_bi k (fun x y => x ||| y) pc lv st h c sl
  | .ixor => pm_bi k (fun x y => x ^^^ y) pc lv st h c sl
  | .ishl => pm_bi k (fun x y => x <<< (y &&& 31)) pc lv st h c sl
  | .ishr => pm_bi k (fun x y => x >>> (y &&& 31)) pc lv st h c sl
  | .iushr => pm_bi k (fun x y => (x.toUInt32 >>> (y.toUInt32 &&& Int32.toUInt32 31)).toInt32) pc lv st h c sl
  | .idiv => pm_bz k (fun x y => x / y) pc lv st h c sl
  | .irem => pm_bz k (fun x y => x - x / y * y) pc lv st h c sl
  | .ladd => pm_bl k (fun x y => x + y) pc lv st h c sl
  | .lmul => pm_bl k (fun x y => x * y) pc lv st h c sl
  | .ldiv => pm_blz k (fun x y => x / y) pc lv st h c sl
  | .lrem => pm_blz k (fun x y => x - x / y * y) pc lv st h c sl
  | .ineg => pm_u k (fun x => -x) pc lv st h c sl
  | .i2b => pm_u k (fun x => x.toInt8.toInt32) pc lv st h c sl
  | .i2s => pm_u k (fun x => x.toInt16.toInt32) pc lv st h c sl
  | .i2l => pm_i2l k pc lv st h c sl
  | .lcmp => pm_lcmp k pc lv st h c sl
  | .dup => pm_dup k pc lv st h c sl
  | .dup2 => pm_dup2 k pc lv st h c sl
  | .pop => pm_pop k pc lv st h c sl
  | .pop2 => pm_pop2 k pc lv st h c sl
  | .ifCond cd _ => pm_if k cd e.2.1 pc lv st h c sl
  | .if_icmp cd _ => pm_ic k cd e.2.1 pc lv st h c sl
  | .goto _ => k e.2.1 lv st h c sl
  | .tableswitch d lo hi offs => pm_tsw k d lo hi offs pc lv st h c sl
  | .getfield _ => pm_getf k e.2.1 e.2.2.1 pc lv st h c sl
  | .putfield _ => pm_putf k e.2.1 e.2.2.1 pc lv st h c sl
  | .iaload => pm_iald k xs pc lv st h c sl
  | .baload => pm_bald k pc lv st h c sl
  | .laload => pm_lald k pc lv st h c sl
  | .aaload => pm_aald k pc lv st h c sl
  | .iastore => pm_iast k pc lv st h c sl
  | .bastore => pm_bast k pc lv st h c sl
  | .lastore => pm_last k pc lv st h c sl
  | .aastore => pm_aast k pc lv st h c sl
  | .arraylength => pm_alen k xs pc lv st h c sl
  | .new _ => pm_new k mm e.2.1 pc lv st h c sl
  | .newarray at_ => pm_newa k mm at_ pc lv st h c sl
  | .anewarray _ => pm_anew k mm e.2.1 pc lv st h c sl
  | .invokevirtual _ => if e.2.2.1 = 0 then pm_inv k tab big mm e.2.1 pc lv st h c sl else if e.2.2.1 = 4 then pm_slen k pc lv st h c sl else if e.2.2.1 = 5 then pm_sch k pc lv st h c sl else none
  | .invokespecial _ => if e.2.2.1 = 1 then pm_inv k tab big mm e.2.1 pc lv st h c sl else if e.2.2.1 = 9 then pm_obj k pc lv st h c sl else none
  | .invokestatic _ => if e.2.2.1 = 8 then pm_copy k pc lv st h c sl else if e.2.2.1 = 2 ∨ e.2.2.1 = 3 then pm_ins k tab big mm e.2.1 pc lv st h c sl else none
  | .ireturn => pm_ret mm st h
  | .lreturn => pm_retl mm st h
  | .areturn => pm_reta mm st h
  | .return_ => pm_retv mm st h
  | _ => none
def pm_next (xs : List Int32) (tab : Nat → Option pm_M) (big : Nat → List Value → pm_H → pm_R) (mm : pm_M) (k : pm_K) : pm_K := fun pc lv st h c sl => match pm_at mm pc with
  | some e => pm_step xs tab big mm k e pc lv st h c sl
  | none => none
/-- n steps at most in this frame -/
noncomputable def pm_run (xs : List Int32) (tab : Nat → Option pm_M) (big : Nat → List Value → pm_H → pm_R) (mm : pm_M) (n : Nat) : pm_K := Nat.rec (motive := fun _ => pm_K) (fun _ _ _ _ _ _ => none) (fun _ k => pm_next xs tab big mm k) n
def pm_words (vs : List Value) : Nat := (vs.map Value.category).sum
/-- a call, d frames deep at most, N steps in each frame -/
noncomputable def pm_big (xs : List Int32) (tab : Nat → Option pm_M) (N : Nat) (d : Nat) : Nat → List Value → pm_H → pm_R := Nat.rec (motive := fun _ => Nat → List Value → pm_H → pm_R) (fun _ _ _ => none) (fun _ big M as h => match tab M with
  | some mm => if pm_words as ≤ pm_ml mm then (if as.length = pm_n mm then pm_run xs tab big mm N 0 (lv_args 0 as) [] h 0 0 else none) else none
  | none => none) d
