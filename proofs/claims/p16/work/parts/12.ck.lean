/-! THE DECODER, read off the bytes one behind another: an instruction's bytes by a table of opcodes, proved once against the decoder itself (printed by wip/gen/gen12.py). -/
abbrev dk_D (α : Type) := Reader DecodeError α
def dk_B (c : ByteArray) (p b : Nat) : Prop := ∃ h : p < c.size, (c[p]'h).toNat = b
theorem dk_u1 {c : ByteArray} {p b : Nat} (hb : dk_B c p b) : (Reader.u1 : dk_D Nat) c p = .ok (b, p + 1) := by
  obtain ⟨h, e⟩ := hb
  have e1 : (Reader.u1 : dk_D Nat) c p = .ok ((c[p]'h).toNat, p + 1) := by
    show (do if h : p < c.size then do set (p + 1); pure (c[p]'h).toNat else MonadExcept.throw (HasTruncated.truncated p) : dk_D Nat) c p = _
    rw [dif_pos h]
    rfl
  rw [e1, e]
theorem dk_bind {α β : Type} {r : dk_D α} {f : α → dk_D β} {c : ByteArray} {p q : Nat} {a : α} (h : r c p = .ok (a, q)) : (r >>= f) c p = f a c q := by
  show (do let (a, s) ← r c p; f a c s : Except DecodeError (β × Nat)) = _
  rw [h]
  rfl
theorem dk_map {α β : Type} {g : α → β} {r : dk_D α} {c : ByteArray} {p q : Nat} {a : α} (h : r c p = .ok (a, q)) : (g <$> r) c p = .ok (g a, q) := by
  show (do let (a, s) ← r c p; .ok (g a, s) : Except DecodeError (β × Nat)) = _
  rw [h]
  rfl
theorem dk_u2 {c : ByteArray} {p a b : Nat} (h1 : dk_B c p a) (h2 : dk_B c (p + 1) b) : (Reader.u2 : dk_D Nat) c p = .ok (a * 256 + b, p + 2) := by
  show ((Reader.u1 : dk_D Nat) >>= fun x => (Reader.u1 : dk_D Nat) >>= fun y => (pure (x * 256 + y) : dk_D Nat)) c p = _
  rw [dk_bind (dk_u1 h1), dk_bind (dk_u1 h2)]
  rfl
theorem dk_s1 {c : ByteArray} {p a : Nat} (h : dk_B c p a) : (Reader.s1 : dk_D Int) c p = .ok (Reader.signed 8 a, p + 1) := by
  show (Reader.signed 8 <$> (Reader.u1 : dk_D Nat)) c p = _
  exact dk_map (dk_u1 h)
theorem dk_s2 {c : ByteArray} {p a b : Nat} (h1 : dk_B c p a) (h2 : dk_B c (p + 1) b) : (Reader.s2 : dk_D Int) c p = .ok (Reader.signed 16 (a * 256 + b), p + 2) := by
  show (Reader.signed 16 <$> (Reader.u2 : dk_D Nat)) c p = _
  exact dk_map (dk_u2 h1 h2)
def dk_F (r : dk_D Instr) (k : Nat) (f : Nat → Nat → Instr) : Prop := ∀ (c : ByteArray) (p a b : Nat), dk_B c p a → dk_B c (p + 1) b → r c p = .ok (f a b, p + k)
theorem dk_f0 (i : Instr) : dk_F (pure i) 0 (fun _ _ => i) := fun _ _ _ _ _ _ => rfl
theorem dk_f1 (g : Nat → Instr) : dk_F ((Reader.u1 : dk_D Nat) >>= fun x => pure (g x)) 1 (fun a _ => g a) := fun c p a b h1 _ => by
  rw [dk_bind (dk_u1 h1)]
  rfl
theorem dk_fs1 (g : Int → Instr) : dk_F ((Reader.s1 : dk_D Int) >>= fun x => pure (g x)) 1 (fun a _ => g (Reader.signed 8 a)) := fun c p a b h1 _ => by
  rw [dk_bind (dk_s1 h1)]
  rfl
theorem dk_f2 (g : Nat → Instr) : dk_F ((Reader.u2 : dk_D Nat) >>= fun x => pure (g x)) 2 (fun a b => g (a * 256 + b)) := fun c p a b h1 h2 => by
  rw [dk_bind (dk_u2 h1 h2)]
  rfl
theorem dk_fs2 (g : Int → Instr) : dk_F ((Reader.s2 : dk_D Int) >>= fun x => pure (g x)) 2 (fun a b => g (Reader.signed 16 (a * 256 + b))) := fun c p a b h1 h2 => by
  rw [dk_bind (dk_s2 h1 h2)]
  rfl
theorem dk_fi : dk_F ((Reader.u1 : dk_D Nat) >>= fun x => (Reader.s1 : dk_D Int) >>= fun y => pure (.iinc x y)) 2 (fun a b => .iinc a (Reader.signed 8 b)) := fun c p a b h1 h2 => by
  rw [dk_bind (dk_u1 h1), dk_bind (dk_s1 h2)]
  rfl
def dk_tab : List (Nat × Nat × (Nat → Nat → Instr)) := [(42, 0, fun _ _ => .aload_n 0), (180, 2, fun a b => .getfield (a * 256 + b)), (182, 2, fun a b => .invokevirtual (a * 256 + b)), (27, 0, fun _ _ => .iload_n 1), (167, 2, fun a b => .goto (Reader.signed 16 (a * 256 + b))), (3, 0, fun _ _ => .iconst 0), (46, 0, fun _ _ => .iaload), (172, 0, fun _ _ => .ireturn), (28, 0, fun _ _ => .iload_n 2), (29, 0, fun _ _ => .iload_n 3), (4, 0, fun _ _ => .iconst 1), (16, 1, fun a _ => .bipush (Reader.signed 8 a)), (96, 0, fun _ _ => .iadd), (21, 1, fun a _ => .iload a), (153, 2, fun a b => .ifCond .eq (Reader.signed 16 (a * 256 + b))), (43, 0, fun _ _ => .aload_n 1), (181, 2, fun a b => .putfield (a * 256 + b)), (184, 2, fun a b => .invokestatic (a * 256 + b)), (162, 2, fun a b => .if_icmp .ge (Reader.signed 16 (a * 256 + b))), (154, 2, fun a b => .ifCond .ne (Reader.signed 16 (a * 256 + b))), (132, 2, fun a b => .iinc a (Reader.signed 8 b)), (79, 0, fun _ _ => .iastore), (54, 1, fun a _ => .istore a), (5, 0, fun _ _ => .iconst 2), (87, 0, fun _ _ => .pop), (2, 0, fun _ _ => .iconst (-1)), (61, 0, fun _ _ => .istore_n 2), (160, 2, fun a b => .if_icmp .ne (Reader.signed 16 (a * 256 + b))), (100, 0, fun _ _ => .isub), (7, 0, fun _ _ => .iconst 4), (133, 0, fun _ _ => .i2l), (177, 0, fun _ _ => .return_), (62, 0, fun _ _ => .istore_n 3), (26, 0, fun _ _ => .iload_n 0), (6, 0, fun _ _ => .iconst 3), (104, 0, fun _ _ => .imul), (60, 0, fun _ _ => .istore_n 1), (44, 0, fun _ _ => .aload_n 2), (159, 2, fun a b => .if_icmp .eq (Reader.signed 16 (a * 256 + b))), (9, 0, fun _ _ => .lconst 0), (22, 1, fun a _ => .lload a), (20, 2, fun a b => .ldc2_w (a * 256 + b)), (8, 0, fun _ _ => .iconst 5), (89, 0, fun _ _ => .dup), (126, 0, fun _ _ => .iand), (155, 2, fun a b => .ifCond .lt (Reader.signed 16 (a * 256 + b))), (120, 0, fun _ _ => .ishl), (55, 1, fun a _ => .lstore a), (164, 2, fun a b => .if_icmp .le (Reader.signed 16 (a * 256 + b))), (161, 2, fun a b => .if_icmp .lt (Reader.signed 16 (a * 256 + b))), (163, 2, fun a b => .if_icmp .gt (Reader.signed 16 (a * 256 + b))), (183, 2, fun a b => .invokespecial (a * 256 + b)), (128, 0, fun _ _ => .ior), (122, 0, fun _ _ => .ishr), (10, 0, fun _ _ => .lconst 1), (17, 2, fun a b => .sipush (Reader.signed 16 (a * 256 + b))), (158, 2, fun a b => .ifCond .le (Reader.signed 16 (a * 256 + b))), (112, 0, fun _ _ => .irem), (187, 2, fun a b => .new (a * 256 + b)), (190, 0, fun _ _ => .arraylength), (148, 0, fun _ _ => .lcmp), (173, 0, fun _ _ => .lreturn), (51, 0, fun _ _ => .baload), (18, 1, fun a _ => .ldc a), (156, 2, fun a b => .ifCond .ge (Reader.signed 16 (a * 256 + b))), (50, 0, fun _ _ => .aaload), (92, 0, fun _ _ => .dup2), (25, 1, fun a _ => .aload a), (108, 0, fun _ _ => .idiv), (105, 0, fun _ _ => .lmul), (97, 0, fun _ _ => .ladd), (124, 0, fun _ _ => .iushr)]
set_option maxRecDepth 20000 in
theorem dk_K (pc : Nat) : ∃ K : Nat → dk_D Instr, Decoder.instr pc = ((Reader.u1 : dk_D Nat) >>= K) ∧ ∀ q ∈ dk_tab, dk_F (K q.1) q.2.1 q.2.2 := by
  refine ⟨_, rfl, ?_⟩
  exact List.forall_mem_cons.mpr ⟨dk_f0 (.aload_n 0), List.forall_mem_cons.mpr ⟨dk_f2 (fun x => .getfield x), List.forall_mem_cons.mpr ⟨dk_f2 (fun x => .invokevirtual x), List.forall_mem_cons.mpr ⟨dk_f0 (.iload_n 1), List.forall_mem_cons.mpr ⟨dk_fs2 (fun x => .goto x), List.forall_mem_cons.mpr ⟨dk_f0 (.iconst 0), List.forall_mem_cons.mpr ⟨dk_f0 (.iaload), List.forall_mem_cons.mpr ⟨dk_f0 (.ireturn), List.forall_mem_cons.mpr ⟨dk_f0 (.iload_n 2), List.forall_mem_cons.mpr ⟨dk_f0 (.iload_n 3), List.forall_mem_cons.mpr ⟨dk_f0 (.iconst 1), List.forall_mem_cons.mpr ⟨dk_fs1 (fun x => .bipush x), List.forall_mem_cons.mpr ⟨dk_f0 (.iadd), List.forall_mem_cons.mpr ⟨dk_f1 (fun x => .iload x), List.forall_mem_cons.mpr ⟨dk_fs2 (fun x => .ifCond .eq x), List.forall_mem_cons.mpr ⟨dk_f0 (.aload_n 1), List.forall_mem_cons.mpr ⟨dk_f2 (fun x => .putfield x), List.forall_mem_cons.mpr ⟨dk_f2 (fun x => .invokestatic x), List.forall_mem_cons.mpr ⟨dk_fs2 (fun x => .if_icmp .ge x), List.forall_mem_cons.mpr ⟨dk_fs2 (fun x => .ifCond .ne x), List.forall_mem_cons.mpr ⟨dk_fi, List.forall_mem_cons.mpr ⟨dk_f0 (.iastore), List.forall_mem_cons.mpr ⟨dk_f1 (fun x => .istore x), List.forall_mem_cons.mpr ⟨dk_f0 (.iconst 2), List.forall_mem_cons.mpr ⟨dk_f0 (.pop), List.forall_mem_cons.mpr ⟨dk_f0 (.iconst (-1)), List.forall_mem_cons.mpr ⟨dk_f0 (.istore_n 2), List.forall_mem_cons.mpr ⟨dk_fs2 (fun x => .if_icmp .ne x), List.forall_mem_cons.mpr ⟨dk_f0 (.isub), List.forall_mem_cons.mpr ⟨dk_f0 (.iconst 4), List.forall_mem_cons.mpr ⟨dk_f0 (.i2l), List.forall_mem_cons.mpr ⟨dk_f0 (.return_), List.forall_mem_cons.mpr ⟨dk_f0 (.istore_n 3), List.forall_mem_cons.mpr ⟨dk_f0 (.iload_n 0), List.forall_mem_cons.mpr ⟨dk_f0 (.iconst 3), List.forall_mem_cons.mpr ⟨dk_f0 (.imul), List.forall_mem_cons.mpr ⟨dk_f0 (.istore_n 1), List.forall_mem_cons.mpr ⟨dk_f0 (.aload_n 2), List.forall_mem_cons.mpr ⟨dk_fs2 (fun x => .if_icmp .eq x), List.forall_mem_cons.mpr ⟨dk_f0 (.lconst 0), List.forall_mem_cons.mpr ⟨dk_f1 (fun x => .lload x), List.forall_mem_cons.mpr ⟨dk_f2 (fun x => .ldc2_w x), List.forall_mem_cons.mpr ⟨dk_f0 (.iconst 5), List.forall_mem_cons.mpr ⟨dk_f0 (.dup), List.forall_mem_cons.mpr ⟨dk_f0 (.iand), List.forall_mem_cons.mpr ⟨dk_fs2 (fun x => .ifCond .lt x), List.forall_mem_cons.mpr ⟨dk_f0 (.ishl), List.forall_mem_cons.mpr ⟨dk_f1 (fun x => .lstore x), List.forall_mem_cons.mpr ⟨dk_fs2 (fun x => .if_icmp .le x), List.forall_mem_cons.mpr ⟨dk_fs2 (fun x => .if_icmp .lt x), List.forall_mem_cons.mpr ⟨dk_fs2 (fun x => .if_icmp .gt x), List.forall_mem_cons.mpr ⟨dk_f2 (fun x => .invokespecial x), List.forall_mem_cons.mpr ⟨dk_f0 (.ior), List.forall_mem_cons.mpr ⟨dk_f0 (.ishr), List.forall_mem_cons.mpr ⟨dk_f0 (.lconst 1), List.forall_mem_cons.mpr ⟨dk_fs2 (fun x => .sipush x), List.forall_mem_cons.mpr ⟨dk_fs2 (fun x => .ifCond .le x), List.forall_mem_cons.mpr ⟨dk_f0 (.irem), List.forall_mem_cons.mpr ⟨dk_f2 (fun x => .new x), List.forall_mem_cons.mpr ⟨dk_f0 (.arraylength), List.forall_mem_cons.mpr ⟨dk_f0 (.lcmp), List.forall_mem_cons.mpr ⟨dk_f0 (.lreturn), List.forall_mem_cons.mpr ⟨dk_f0 (.baload), List.forall_mem_cons.mpr ⟨dk_f1 (fun x => .ldc x), List.forall_mem_cons.mpr ⟨dk_fs2 (fun x => .ifCond .ge x), List.forall_mem_cons.mpr ⟨dk_f0 (.aaload), List.forall_mem_cons.mpr ⟨dk_f0 (.dup2), List.forall_mem_cons.mpr ⟨dk_f1 (fun x => .aload x), List.forall_mem_cons.mpr ⟨dk_f0 (.idiv), List.forall_mem_cons.mpr ⟨dk_f0 (.lmul), List.forall_mem_cons.mpr ⟨dk_f0 (.ladd), List.forall_mem_cons.mpr ⟨dk_f0 (.iushr), fun _ h => absurd h List.not_mem_nil⟩⟩⟩⟩⟩⟩⟩⟩⟩⟩⟩⟩⟩⟩⟩⟩⟩⟩⟩⟩⟩⟩⟩⟩⟩⟩⟩⟩⟩⟩⟩⟩⟩⟩⟩⟩⟩⟩⟩⟩⟩⟩⟩⟩⟩⟩⟩⟩⟩⟩⟩⟩⟩⟩⟩⟩⟩⟩⟩⟩⟩⟩⟩⟩⟩⟩⟩⟩⟩⟩⟩⟩
theorem dk_ok {c : ByteArray} {pc o a b k : Nat} {f : Nat → Nat → Instr} (hq : (o, k, f) ∈ dk_tab) (h0 : dk_B c pc o) (h1 : dk_B c (pc + 1) a) (h2 : dk_B c (pc + 2) b) : decode c pc = .ok (f a b, k + 1) := by
  obtain ⟨K, e, hK⟩ := dk_K pc
  have h := hK _ hq c (pc + 1) a b h1 h2
  have hr : Decoder.instr pc c pc = .ok (f a b, pc + 1 + k) := by
    rw [e, dk_bind (dk_u1 h0)]
    exact h
  have h3 : decode c pc = (do let (j, s) ← Decoder.instr pc c pc; pure (j, s - pc) : Except DecodeError (Instr × Nat)) := rfl
  rw [h3, hr]
  show Except.ok (f a b, pc + 1 + k - pc) = _
  rw [show pc + 1 + k - pc = k + 1 by omega]
theorem dk_Bo {c : ByteArray} {pc j : Nat} {x : UInt8} (h : (c.data.toList.drop pc)[j]? = some x) : dk_B c (pc + j) x.toNat := by
  obtain ⟨⟨L⟩⟩ := c
  have h2 : L[pc + j]? = some x := by
    rw [← List.getElem?_drop]
    exact h
  obtain ⟨h3, e⟩ := List.getElem?_eq_some_iff.mp h2
  exact ⟨h3, congrArg UInt8.toNat e⟩
def dk_look (o : Nat) : List (Nat × Nat × (Nat → Nat → Instr)) → Option (Nat × (Nat → Nat → Instr))
  | [] => none
  | x :: r => match Nat.beq x.1 o with
    | true => some x.2
    | false => dk_look o r
theorem dk_look_ok {o : Nat} {q : Nat × (Nat → Nat → Instr)} : ∀ t, dk_look o t = some q → (o, q.1, q.2) ∈ t
  | [], h => by
    have h : (none : Option (Nat × (Nat → Nat → Instr))) = some q := h
    cases h
  | x :: r, h => by
    have h1 : (match Nat.beq x.1 o with
      | true => some x.2
      | false => dk_look o r) = some q := h
    split at h1
    · rename_i hb
      obtain ⟨a, y⟩ := x
      obtain rfl : y = q := Option.some.inj h1
      obtain rfl : a = o := Nat.eq_of_beq_eq_true hb
      exact List.Mem.head _
    · exact List.Mem.tail _ (dk_look_ok r h1)
def dk_t (l : List UInt8) : Option (Instr × Nat) := match l with
  | o :: a :: b :: _ => (match dk_look o.toNat dk_tab with
    | some q => some (q.2 a.toNat b.toNat, q.1 + 1)
    | none => none)
  | _ => none
theorem dk_t_ok {c : ByteArray} {pc : Nat} {z : Instr × Nat} (h : dk_t (c.data.toList.drop pc) = some z) : decode c pc = .ok z := by
  unfold dk_t at h
  split at h
  · rename_i o a b r hl
    split at h
    · rename_i q hq
      obtain rfl := Option.some.inj h
      exact dk_ok (dk_look_ok _ hq) (dk_Bo (j := 0) (by rw [hl]; rfl)) (dk_Bo (j := 1) (by rw [hl]; rfl)) (dk_Bo (j := 2) (by rw [hl]; rfl))
    · cases h
  · cases h
/-! THE METHODS: each entry of the tables is what the bytes decode to, and its links stand (checker). -/
def ck_D (m : pm_M) (pc : Nat) (i : Instr) : Bool := match i with
  | .tableswitch d lo hi offs => (match decode (pm_b m) pc with
    | .ok q => decide (q.1 = .tableswitch d lo hi offs)
    | .error _ => false)
  | i => decide (decode (pm_b m) pc = .ok (i, pm_len i))
theorem ck_D_ok {m : pm_M} {pc : Nat} {i : Instr} (h : ck_D m pc i = true) : pm_okD m pc i := by
  cases i with
  | tableswitch d lo hi offs =>
    have h1 : (match decode (pm_b m) pc with
      | .ok q => decide (q.1 = .tableswitch d lo hi offs)
      | .error _ => false) = true := h
    split at h1
    · rename_i q hq
      obtain ⟨q1, q2⟩ := q
      have h2 : q1 = .tableswitch d lo hi offs := of_decide_eq_true h1
      subst h2
      exact ⟨q2, hq⟩
    · cases h1
  | _ =>
    show decode (pm_b m) pc = Except.ok _
    exact of_decide_eq_true h
def ck_R (m : pm_M) (M2 : Nat) : Bool := match pm_m M2 with
  | some m2 => decide (pm_f m2 + 1 ≤ pm_f m) && decide (8 + (pm_ml m2 + 11) + pm_w m2 ≤ pm_w m)
  | none => false
theorem ck_R_ok {m m2 : pm_M} {M2 : Nat} (h : ck_R m M2 = true) (hm : pm_m M2 = some m2) : pm_rmok m m2 := by
  unfold ck_R at h
  rw [hm] at h
  rw [Bool.and_eq_true] at h
  exact ⟨of_decide_eq_true h.1, of_decide_eq_true h.2⟩
def ck_L (m : pm_M) (pc : Nat) (e : pm_E) : Bool := match e.1 with
  | .ldc ix => if e.2.1 = 0 then decide ((pm_o m, ix, e.2.2.2) ∈ lkC) else if e.2.1 = 1 then decide (kN (pm_o m) = "MoodTown$Telling") && decide (sg_ix (e.2.2.1 - 1) = ix) else true
  | .ldc_w ix => if e.2.1 = 0 then decide ((pm_o m, ix, e.2.2.2) ∈ lkC) else true
  | .ldc2_w ix => decide ((pm_o m, ix, e.2.2.2) ∈ lkJ)
  | .ifCond _ off => decide ((pc : Int) + off = (e.2.1 : Int))
  | .if_icmp _ off => decide ((pc : Int) + off = (e.2.1 : Int))
  | .goto off => decide ((pc : Int) + off = (e.2.1 : Int))
  | .getfield ix => decide ((pm_o m, ix, e.2.1, e.2.2.1) ∈ lkF)
  | .putfield ix => decide ((pm_o m, ix, e.2.1, e.2.2.1) ∈ lkF) && (decide ((kT e.2.1 e.2.2.1).2.2.2 = false) || (decide ((kT e.2.1 e.2.2.1).2.2.2 = true) && (decide ((pm_y m).name = "<init>") && decide (kN e.2.1 = kN (pm_o m)))))
  | .new ix => decide ((pm_o m, ix, e.2.1) ∈ lkW)
  | .anewarray ix => decide ((pm_o m, ix, e.2.1) ∈ lkA)
  | .invokevirtual ix => if e.2.2.1 = 0 then decide ((pm_o m, ix, e.2.1, 0) ∈ lkM) && ck_R m e.2.1 else if e.2.2.1 = 4 then decide (kN (pm_o m) = "MoodTown$Tape" ∧ ix = 38 ∧ 2 ≤ pm_f m ∧ 40 ≤ pm_w m) else if e.2.2.1 = 5 then decide (kN (pm_o m) = "MoodTown$Tape" ∧ ix = 43 ∧ 4 ≤ pm_f m ∧ 85 ≤ pm_w m) else true
  | .invokespecial ix => if e.2.2.1 = 1 then decide ((pm_o m, ix, e.2.1, 1) ∈ lkM) && ck_R m e.2.1 else if e.2.2.1 = 9 then decide ((pm_o m, ix) ∈ lkO) && (decide (1 ≤ pm_f m) && decide (20 ≤ pm_w m)) else true
  | .invokestatic ix => if e.2.2.1 = 8 then decide ((pm_o m, ix) ∈ lkY) && (decide (1 ≤ pm_f m) && decide (18 ≤ pm_w m)) else if e.2.2.1 = 2 then decide ((pm_o m, ix, e.2.1, 2) ∈ lkM) && ck_R m e.2.1 else if e.2.2.1 = 3 then decide ((pm_o m, ix, e.2.1) ∈ lkN) && ck_R m e.2.1 else true
  | _ => true
theorem ck_L_ok {m : pm_M} {pc : Nat} {e : pm_E} (h : ck_L m pc e = true) : pm_okL pm_m m pc e := by
  obtain ⟨i, a, b, z⟩ := e
  cases i with
  | ldc ix =>
    refine ⟨fun ha => lkC_ok _ (of_decide_eq_true ((if_pos ha).symm.trans h)), fun ha => ?_⟩
    have ha : a = 1 := ha
    subst ha
    have h2 : (decide (kN (pm_o m) = "MoodTown$Telling") && decide (sg_ix (b - 1) = ix)) = true := h
    rw [Bool.and_eq_true] at h2
    exact ⟨of_decide_eq_true h2.1, of_decide_eq_true h2.2⟩
  | ldc_w ix => exact fun ha => lkC_ok _ (of_decide_eq_true ((if_pos ha).symm.trans h))
  | ldc2_w ix => exact lkJ_ok _ (of_decide_eq_true h)
  | ifCond _ off =>
    show (pc : Int) + off = (a : Int)
    exact of_decide_eq_true h
  | if_icmp _ off =>
    show (pc : Int) + off = (a : Int)
    exact of_decide_eq_true h
  | goto off =>
    show (pc : Int) + off = (a : Int)
    exact of_decide_eq_true h
  | getfield ix => exact lkF_ok _ (of_decide_eq_true h)
  | putfield ix =>
    have h1 := (Bool.and_eq_true _ _ ▸ h : _ ∧ _)
    refine ⟨lkF_ok _ (of_decide_eq_true h1.1), ?_⟩
    have h2 := h1.2
    rw [Bool.or_eq_true, Bool.and_eq_true, Bool.and_eq_true] at h2
    rcases h2 with h2 | h2
    · exact Or.inl (of_decide_eq_true h2)
    · exact Or.inr ⟨of_decide_eq_true h2.1, of_decide_eq_true h2.2.1, of_decide_eq_true h2.2.2⟩
  | new ix => exact lkW_ok _ (of_decide_eq_true h)
  | anewarray ix => exact lkA_ok _ (of_decide_eq_true h)
  | invokevirtual ix =>
    refine ⟨?_, fun hb => ?_, fun hb => ?_⟩
    rotate_left 1
    · have hb : b = 4 := hb
      subst hb
      exact of_decide_eq_true (p := kN (pm_o m) = "MoodTown$Tape" ∧ ix = 38 ∧ 2 ≤ pm_f m ∧ 40 ≤ pm_w m) h
    · have hb : b = 5 := hb
      subst hb
      exact of_decide_eq_true (p := kN (pm_o m) = "MoodTown$Tape" ∧ ix = 43 ∧ 4 ≤ pm_f m ∧ 85 ≤ pm_w m) h
    intro hb m2 hm
    have h1 := (if_pos hb).symm.trans h
    rw [Bool.and_eq_true] at h1
    obtain ⟨m3, hm3, hk, hl⟩ := lkM_ok _ (of_decide_eq_true h1.1)
    obtain rfl : m3 = m2 := Option.some.inj (hm3.symm.trans hm)
    exact ⟨hk.1, hl, hk.2.1, hk.2.2.1, hk.2.2.2.1, hk.2.2.2.2, ck_R_ok h1.2 hm⟩
  | invokespecial ix =>
    refine ⟨fun hb m2 hm => ?_, fun hb => ?_⟩
    · have h1 := (if_pos hb).symm.trans h
      rw [Bool.and_eq_true] at h1
      obtain ⟨m3, hm3, hk, hl⟩ := lkM_ok _ (of_decide_eq_true h1.1)
      obtain rfl : m3 = m2 := Option.some.inj (hm3.symm.trans hm)
      exact ⟨hk.1, hl, hk.2.1, hk.2.2.1, hk.2.2.2, ck_R_ok h1.2 hm⟩
    · have hb : b = 9 := hb
      have h0 := (if_neg (by show ¬ b = 1; omega)).symm.trans h
      have h1 := (if_pos hb).symm.trans h0
      rw [Bool.and_eq_true, Bool.and_eq_true] at h1
      exact ⟨lkO_ok _ (of_decide_eq_true h1.1), of_decide_eq_true h1.2.1, of_decide_eq_true h1.2.2⟩
  | invokestatic ix =>
    refine ⟨fun hb => ?_, fun hb m2 hm => ?_, fun hb m2 hm => ?_⟩
    · have h1 := (if_pos hb).symm.trans h
      rw [Bool.and_eq_true, Bool.and_eq_true] at h1
      exact ⟨lkY_ok _ (of_decide_eq_true h1.1), of_decide_eq_true h1.2.1, of_decide_eq_true h1.2.2⟩
    · have hb : b = 2 := hb
      have h0 := (if_neg (by show ¬ b = 8; omega)).symm.trans h
      have h1 := (if_pos hb).symm.trans h0
      rw [Bool.and_eq_true] at h1
      obtain ⟨m3, hm3, hk, hl⟩ := lkM_ok _ (of_decide_eq_true h1.1)
      obtain rfl : m3 = m2 := Option.some.inj (hm3.symm.trans hm)
      exact ⟨hk.1, hl, hk.2, ck_R_ok h1.2 hm⟩
    · have hb : b = 3 := hb
      have h0 := (if_neg (by show ¬ b = 8; omega)).symm.trans h
      have h0 := (if_neg (by show ¬ b = 2; omega)).symm.trans h0
      have h1 := (if_pos hb).symm.trans h0
      rw [Bool.and_eq_true] at h1
      obtain ⟨m3, hm3, hk, hl⟩ := lkN_ok _ (of_decide_eq_true h1.1)
      obtain rfl : m3 = m2 := Option.some.inj (hm3.symm.trans hm)
      exact ⟨hk.1, hl, hk.2, ck_R_ok h1.2 hm⟩
  | _ => exact trivial
def ck_Dw (m : pm_M) (pc : Nat) (l : List UInt8) (i : Instr) : Bool := match dk_t l with
  | some z => decide (z = (i, pm_len i))
  | none => ck_D m pc i
theorem ck_Dw_ok {m : pm_M} {pc : Nat} {l : List UInt8} {i : Instr} (hl : l = (pm_b m).data.toList.drop pc) (h : ck_Dw m pc l i = true) : pm_okD m pc i := by
  subst hl
  unfold ck_Dw at h
  split at h
  · rename_i z hz
    have hd := dk_t_ok hz
    rw [of_decide_eq_true h] at hd
    clear h hz
    cases i with
    | tableswitch d lo hi offs => exact ⟨_, hd⟩
    | _ => exact hd
  · exact ck_D_ok h
def ck_E (m : pm_M) (pc : Nat) (l : List UInt8) (e : Option pm_E) : Bool := match e with
  | some e => ck_Dw m pc l e.1 && ck_L m pc e
  | none => true
def ck_ch (m : pm_M) : List (Option pm_E) → Nat → List UInt8 → Bool
  | [], _, _ => true
  | e :: r, pc, l => ck_E m pc l e && ck_ch m r (pc + 1) l.tail
def ck_t (m : pm_M) : List (List (Option pm_E)) → Nat → Bool
  | [], _ => true
  | ch :: r, q => ck_ch m ch (16 * q) ((pm_b m).data.toList.drop (16 * q)) && ck_t m r (q + 1)
theorem ck_ch_ok {m : pm_M} : ∀ (ch : List (Option pm_E)) (pc j : Nat) (e : pm_E) (l : List UInt8), l = (pm_b m).data.toList.drop pc → ck_ch m ch pc l = true → ch[j]? = some (some e) → pm_okD m (pc + j) e.1 ∧ ck_L m (pc + j) e = true
  | [], _, _, _, _, _, _, h => by simp at h
  | e0 :: r, pc, j, e, l, hl, hc, h => by
    have h1 : ck_E m pc l e0 = true ∧ ck_ch m r (pc + 1) l.tail = true := by rw [← Bool.and_eq_true]; exact hc
    cases j with
    | zero =>
      cases h
      have h2 : ck_Dw m pc l e.1 = true ∧ ck_L m pc e = true := by rw [← Bool.and_eq_true]; exact h1.1
      exact ⟨ck_Dw_ok hl h2.1, h2.2⟩
    | succ j =>
      rw [show pc + (j + 1) = pc + 1 + j by omega]
      exact ck_ch_ok r (pc + 1) j e l.tail (by rw [hl, List.tail_drop]) h1.2 h
theorem ck_t_ok {m : pm_M} : ∀ (t : List (List (Option pm_E))) (q j : Nat) (ch : List (Option pm_E)), ck_t m t q = true → t[j]? = some ch → ck_ch m ch (16 * (q + j)) ((pm_b m).data.toList.drop (16 * (q + j))) = true
  | [], _, _, _, _, h => by simp at h
  | c0 :: r, q, j, ch, hc, h => by
    have h1 : ck_ch m c0 (16 * q) ((pm_b m).data.toList.drop (16 * q)) = true ∧ ck_t m r (q + 1) = true := by rw [← Bool.and_eq_true]; exact hc
    cases j with
    | zero => cases h; exact h1.1
    | succ j =>
      rw [show q + (j + 1) = q + 1 + j by omega]
      exact ck_t_ok r (q + 1) j ch h1.2 h
theorem ck_ok {m : pm_M} (h : ck_t m (pm_t m) 0 = true) (pc : Nat) (e : pm_E) (he : pm_at m pc = some e) : pm_okD m pc e.1 ∧ pm_okL pm_m m pc e := by
  unfold pm_at at he
  split at he
  · cases he
  · rename_i ch hch
    split at he
    · rename_i e1 he1
      cases he
      have h1 := ck_ch_ok ch _ _ e _ rfl (ck_t_ok (pm_t m) 0 (pc / 16) ch h hch) he1
      rw [show 16 * (0 + pc / 16) + pc % 16 = pc by omega] at h1
      exact ⟨h1.1, ck_L_ok h1.2⟩
    · cases he
def ck_P (m : pm_M) : Prop := plainFor (pm_y m) = true ∧ kN (pm_o m) = (pm_y m).cls ∧ ck_t m (pm_t m) 0 = true
