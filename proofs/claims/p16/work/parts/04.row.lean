/-! FROM THE PURE MACHINE TO THE MACHINE: what a pure state means, and a row for each instruction (printed in part by wip/gen/gen04.py). -/
def pm_ad (pre : Nat → Nat) (base : Nat) (i : Nat) : Nat := if i < 8 then pre i else base + (i - 8)
def pm_rv (pre : Nat → Nat) (base : Nat) : Value → Value
  | .ref i => .ref (pm_ad pre base i)
  | v => v
theorem pm_cat (pre : Nat → Nat) (base : Nat) (v : Value) : (pm_rv pre base v).category = v.category := by cases v <;> rfl
theorem pm_cats (pre : Nat → Nat) (base : Nat) (l : List Value) : ((l.map (pm_rv pre base)).map fun v => v.category).sum = (l.map Value.category).sum := by
  rw [List.map_map]
  congr 1
  exact List.map_congr_left (fun v _ => pm_cat pre base v)
def pm_lv (pre : Nat → Nat) (base : Nat) (q : Nat × Value) : Nat × Value := (q.1, pm_rv pre base q.2)
def pm_e (pre : Nat → Nat) (base : Nat) (aC : Nat → ClassId) : pm_C → va_E
  | .inl (t, l) => .inl (aC t, l.length, .inl (fun j => l.getD j 0))
  | .inr (.inl (t, l)) => .inl (aC t, l.length, .inr (.inl (fun j => l.getD j 0)))
  | .inr (.inr (.inl (t, l))) => .inl (aC t, l.length, .inr (.inr (.inr (.inr (fun j => (l.getD j none).map (pm_ad pre base))))))
  | .inr (.inr (.inr (ci, fs))) => .inr (ci, fs.map (pm_rv pre base))
def pm_P (dC : Nat → ClassId) (dI : Nat → Nat → Nat) (aC : Nat → ClassId) (pre : Nat → Nat) (base : Nat) (h : pm_H) (H : Heap) : Prop := ∀ (i : Nat) (c : pm_C), h[i]? = some c → va_at (dC, dI) kC (base + i, pm_e pre base aC c) H
def pm_ty (aC : Nat → ClassId) : List (ClassId × FieldType) := [(aC 0, .int), (aC 1, .byte), (aC 2, .boolean), (aC 3, .long), (aC 4, .object "MoodTown$Town"), (aC 5, .object "MoodTown$Sheet")]
theorem pm_P.one {dC : Nat → ClassId} {dI : Nat → Nat → Nat} {aC : Nat → ClassId} {pre : Nat → Nat} {base : Nat} {h : pm_H} {H : Heap} (hP : pm_P dC dI aC pre base h H) {i : Nat} {c : pm_C} (hc : h[i]? = some c) : va_P (dC, dI) kC [(base + i, pm_e pre base aC c)] H := by
  intro k q hk
  cases k with
  | zero => cases hk; exact hP i c hc
  | succ k => simp at hk
theorem pm_P.set {dC : Nat → ClassId} {dI : Nat → Nat → Nat} {aC : Nat → ClassId} {pre : Nat → Nat} {base : Nat} {h : pm_H} {H H1 : Heap} (hP : pm_P dC dI aC pre base h H) {i : Nat} {c0 c : pm_C} (hc : h[i]? = some c0) (he : va_at (dC, dI) kC (base + i, pm_e pre base aC c) H1) (oq : ∀ q : Nat, q ≠ base + i → H1[q]? = H[q]?) : pm_P dC dI aC pre base (h.set i c) H1 := by
  have hl := (List.getElem?_eq_some_iff.mp hc).1
  intro j d hj
  by_cases hji : j = i
  · subst hji
    rw [List.getElem?_set_self hl] at hj
    cases hj
    exact he
  · rw [List.getElem?_set_ne (Ne.symm hji)] at hj
    exact (hP j d hj).kept (oq _ (by show base + j ≠ base + i; omega))
theorem pm_P.push {dC : Nat → ClassId} {dI : Nat → Nat → Nat} {aC : Nat → ClassId} {pre : Nat → Nat} {base : Nat} {h : pm_H} {H H1 : Heap} (hP : pm_P dC dI aC pre base h H) (hz : H.size = base + h.length) {c : pm_C} (he : va_at (dC, dI) kC (H.size, pm_e pre base aC c) H1) (oq : ∀ q : Nat, q < H.size → H1[q]? = H[q]?) : pm_P dC dI aC pre base (h ++ [c]) H1 := by
  intro j d hj
  by_cases hl : j < h.length
  · rw [List.getElem?_append_left hl] at hj
    exact (hP j d hj).kept (oq _ (by show base + j < H.size; omega))
  · rw [List.getElem?_append_right (by omega)] at hj
    have hz1 : j - h.length < 1 := (List.getElem?_eq_some_iff.mp hj).1
    rw [show j - h.length = 0 by omega] at hj
    cases hj
    rw [show base + j = H.size by omega]
    exact he
theorem pm_cell_eq {h : pm_H} {a : Nat} {c : pm_C} (pre : Nat → Nat) (base : Nat) (hc : pm_cell h a = some c) : h[a - 8]? = some c ∧ pm_ad pre base a = base + (a - 8) := by
  unfold pm_cell at hc
  by_cases ha : a < 8
  · rw [if_pos ha] at hc; cases hc
  · rw [if_neg ha] at hc
    exact ⟨hc, by unfold pm_ad; rw [if_neg ha]⟩
theorem pm_ad_new (pre : Nat → Nat) (base n : Nat) : pm_ad pre base (8 + n) = base + n := by
  unfold pm_ad
  rw [if_neg (by omega)]
  omega
theorem pm_look {lv : pm_L} {i : Nat} {v : Value} (h : lv.lookup i = some v) : ∃ k : Nat, lv[k]? = some (i, v) := by
  induction lv with
  | nil => cases h
  | cons q r ih =>
    obtain ⟨j, w⟩ := q
    rw [List.lookup_cons] at h
    by_cases hj : i = j
    · subst hj
      rw [beq_self_eq_true] at h
      cases h
      exact ⟨0, rfl⟩
    · rw [beq_eq_false_iff_ne.mpr hj] at h
      obtain ⟨k, hk⟩ := ih h
      exact ⟨k + 1, hk⟩
theorem pm_lvat {ls : Array Slot} {nL : Nat} {lv : pm_L} {pre : Nat → Nat} {base i : Nat} {v : Value} (hl : lv_has ls nL (lv.map (pm_lv pre base))) (h : lv.lookup i = some v) : ls[i]? = some (.val (pm_rv pre base v)) := by
  obtain ⟨k, hk⟩ := pm_look h
  exact lv_at hl k (by rw [List.getElem?_map, hk]; rfl)
theorem pm_plc_mem {α : Type} {i : Nat} {v : α} {q : Nat × α} : ∀ {l : List (Nat × α)}, q ∈ pm_plc i v l → q = (i, v) ∨ q ∈ l
  | [], h => by
    rcases List.mem_singleton.mp h with rfl
    exact Or.inl rfl
  | p :: r, h => by
    unfold pm_plc at h
    split at h
    · rcases List.mem_cons.mp h with rfl | h
      · exact Or.inr List.mem_cons_self
      · rcases pm_plc_mem h with e | h
        · exact Or.inl e
        · exact Or.inr (List.mem_cons_of_mem _ h)
    · rcases List.mem_cons.mp h with rfl | h
      · exact Or.inl rfl
      · exact Or.inr h
theorem pm_s1_has {ls : Array Slot} {nL : Nat} {pre : Nat → Nat} {base : Nat} {lv : pm_L} {i : Nat} {v : Value} (h : lv_has ls nL ((i, pm_rv pre base v) :: (lv.map (pm_lv pre base)).filter (fun q => !(q.1 == i) && !(q.1 + 1 == i && q.2.category == 2)))) : lv_has ls nL ((pm_s1 lv i v).map (pm_lv pre base)) := by
  refine ⟨h.1, h.2.1, fun q hq => h.2.2 q ?_⟩
  obtain ⟨p, hp, rfl⟩ := List.mem_map.mp hq
  rcases pm_plc_mem hp with rfl | hp
  · exact List.mem_cons_self
  · obtain ⟨h1, h2⟩ := List.mem_filter.mp hp
    refine List.mem_cons_of_mem _ (List.mem_filter.mpr ⟨List.mem_map.mpr ⟨p, h1, rfl⟩, ?_⟩)
    show (!(p.1 == i) && !(p.1 + 1 == i && (pm_rv pre base p.2).category == 2)) = true
    rw [pm_cat]
    exact h2
theorem pm_s2_has {ls : Array Slot} {nL : Nat} {pre : Nat → Nat} {base : Nat} {lv : pm_L} {i : Nat} {v : Value} (h : lv_has ls nL ((i, pm_rv pre base v) :: (lv.map (pm_lv pre base)).filter (fun q => !(q.1 == i) && (!(q.1 == i + 1) && !(q.1 + 1 == i && q.2.category == 2))))) : lv_has ls nL ((pm_s2 lv i v).map (pm_lv pre base)) := by
  refine ⟨h.1, h.2.1, fun q hq => h.2.2 q ?_⟩
  obtain ⟨p, hp, rfl⟩ := List.mem_map.mp hq
  rcases pm_plc_mem hp with rfl | hp
  · exact List.mem_cons_self
  · obtain ⟨h1, h2⟩ := List.mem_filter.mp hp
    refine List.mem_cons_of_mem _ (List.mem_filter.mpr ⟨List.mem_map.mpr ⟨p, h1, rfl⟩, ?_⟩)
    show (!(p.1 == i) && (!(p.1 == i + 1) && !(p.1 + 1 == i && (pm_rv pre base p.2).category == 2))) = true
    rw [pm_cat]
    exact h2
theorem pm_fit_ok {pre : Nat → Nat} {base : Nat} {ty : FieldType} {v : Value} (h : pm_fit ty v = true) : narrow ty (pm_rv pre base v) = pm_rv pre base v ∧ fits ty (pm_rv pre base v) = true := by
  unfold pm_fit at h
  split at h
  · exact ⟨rfl, rfl⟩
  · exact ⟨rfl, rfl⟩
  · rename_i v
    rw [Bool.or_eq_true, beq_iff_eq, beq_iff_eq] at h
    rcases h with rfl | rfl
    · exact ⟨show narrow .boolean (.int 0) = .int 0 by decide, show fits .boolean (.int 0) = true by decide⟩
    · exact ⟨show narrow .boolean (.int 1) = .int 1 by decide, show fits .boolean (.int 1) = true by decide⟩
  · exact ⟨rfl, rfl⟩
  · exact ⟨rfl, rfl⟩
  · cases h
def pm_nest : List (String × Nat × MethodName) := [("MoodTown$Walk", 111, ⟨"MoodTown", "flipOf", "(I)I"⟩), ("MoodTown$Search", 62, ⟨"MoodTown", "rowsOf", "(I)I"⟩), ("MoodTown$Town", 106, ⟨"MoodTown", "digitOf", "(III)I"⟩), ("MoodTown$Search", 108, ⟨"MoodTown", "digitOf", "(III)I"⟩), ("MoodTown$Search", 135, ⟨"MoodTown", "flipOf", "(I)I"⟩)]
def pm_N (U : State) : Prop := va_AO "MoodTown$Town" U ∧ va_AO "MoodTown$Sheet" U ∧ ∀ q ∈ pm_nest, va_Nw (.methodLinkNest q.1 q.2.1 q.2.2 "MoodTown") U
def pm_X (p : Program) (R : Room) (s : State) (m : MethodId) (args : Array Value) (meth : Method) (c0 : Code) (dC : Nat → ClassId) (dI : Nat → Nat → Nat) (aC : Nat → ClassId) (pre : Nat → Nat) (base : Nat) (xs : List Int32) (mm : pm_M) : Prop :=
  p.tables.exec = Jvm.exec ∧ c0.code = pm_b mm ∧ c0.maxLocals = pm_ml mm ∧ s.vm.findClass (kN (pm_o mm)) = some m.cls ∧ (∀ w ∈ lw_gt, w.before args s = true) ∧ ((pm_y mm).name = "<init>" → meth.name = "<init>") ∧ va_K (dC, dI) kC (pm_ty aC) s ∧ pm_Xs pre base xs s s.heap ∧ pre 0 < base ∧ base ≤ s.heap.size ∧ pm_N s ∧ R = pm_rm mm
/-- the machine comes from this pure state to an end with Q -/
def pm_W (p : Program) (l : Launch) (e : Env) (R : Room) (s : State) (m : MethodId) (args : Array Value) (below : List Frame) (meth : Method) (c0 : Code) (Q : State → Prop) (dC : Nat → ClassId) (dI : Nat → Nat → Nat) (aC : Nat → ClassId) (pre : Nat → Nat) (base : Nat) (mm : pm_M) (pc : Nat) (lv : pm_L) (st : List Value) (h : pm_H) (c sl : Nat) : Prop :=
  ∀ (H : Heap) (locs : List Loc) (ls : Array Slot), c ≤ pm_c mm → sl ≤ pm_s mm → lv_has ls (pm_ml mm) (lv.map (pm_lv pre base)) → pm_P dC dI aC pre base h H → H.size = base + h.length → va_S (fun q => base ≤ q) s.heap H locs → W p l e R s m args below meth c0 H locs c sl Q (F0 m pc ls (st.map (pm_rv pre base)))
def pm_IH (p : Program) (l : Launch) (e : Env) (R : Room) (s : State) (m : MethodId) (args : Array Value) (below : List Frame) (meth : Method) (c0 : Code) (Q : State → Prop) (dC : Nat → ClassId) (dI : Nat → Nat → Nat) (aC : Nat → ClassId) (pre : Nat → Nat) (base : Nat) (mm : pm_M) (k : pm_K) (r : Option Value × pm_H) : Prop :=
  ∀ (pc : Nat) (lv : pm_L) (st : List Value) (h : pm_H) (c sl : Nat), k pc lv st h c sl = some r → pm_W p l e R s m args below meth c0 Q dC dI aC pre base mm pc lv st h c sl
section Rows
variable {p : Program} {l : Launch} {e : Env} {R : Room} {s : State} {m : MethodId} {args : Array Value} {below : List Frame} {meth : Method} {c0 : Code} {Q : State → Prop} {dC : Nat → ClassId} {dI : Nat → Nat → Nat} {aC : Nat → ClassId} {pre : Nat → Nat} {base : Nat} {xs : List Int32} {mm : pm_M} {k : pm_K} {r : Option Value × pm_H} {pc : Nat} {lv : pm_L} {st : List Value} {h : pm_H} {c sl : Nat}
theorem ps_iconst (X : pm_X p R s m args meth c0 dC dI aC pre base xs mm) {n : Int} (hd : decode (pm_b mm) pc = .ok (.iconst n, 1)) (ih : pm_IH p l e R s m args below meth c0 Q dC dI aC pre base mm k r) (hk : k (pc + 1) lv (.int (Int32.ofInt n) :: st) h c sl = some r) : pm_W p l e R s m args below meth c0 Q dC dI aC pre base mm pc lv st h c sl := by
  intro H locs ls hc hs hl hP hz hS
  exact lv_iconst X.1 X.2.1 hd rfl (ih _ _ _ _ _ _ hk H locs ls hc hs hl hP hz hS)
theorem ps_bipush (X : pm_X p R s m args meth c0 dC dI aC pre base xs mm) {n : Int} (hd : decode (pm_b mm) pc = .ok (.bipush n, 2)) (ih : pm_IH p l e R s m args below meth c0 Q dC dI aC pre base mm k r) (hk : k (pc + 2) lv (.int (Int8.ofInt n).toInt32 :: st) h c sl = some r) : pm_W p l e R s m args below meth c0 Q dC dI aC pre base mm pc lv st h c sl := by
  intro H locs ls hc hs hl hP hz hS
  exact lv_bipush X.1 X.2.1 hd rfl (ih _ _ _ _ _ _ hk H locs ls hc hs hl hP hz hS)
theorem ps_sipush (X : pm_X p R s m args meth c0 dC dI aC pre base xs mm) {n : Int} (hd : decode (pm_b mm) pc = .ok (.sipush n, 3)) (ih : pm_IH p l e R s m args below meth c0 Q dC dI aC pre base mm k r) (hk : k (pc + 3) lv (.int (Int16.ofInt n).toInt32 :: st) h c sl = some r) : pm_W p l e R s m args below meth c0 Q dC dI aC pre base mm pc lv st h c sl := by
  intro H locs ls hc hs hl hP hz hS
  exact lv_sipush X.1 X.2.1 hd rfl (ih _ _ _ _ _ _ hk H locs ls hc hs hl hP hz hS)
theorem ps_lconst (X : pm_X p R s m args meth c0 dC dI aC pre base xs mm) {n : Fin 2} (hd : decode (pm_b mm) pc = .ok (.lconst n, 1)) (ih : pm_IH p l e R s m args below meth c0 Q dC dI aC pre base mm k r) (hk : k (pc + 1) lv (.long (Int64.ofNat n) :: st) h c sl = some r) : pm_W p l e R s m args below meth c0 Q dC dI aC pre base mm pc lv st h c sl := by
  intro H locs ls hc hs hl hP hz hS
  exact lv_lconst X.1 X.2.1 hd rfl (ih _ _ _ _ _ _ hk H locs ls hc hs hl hP hz hS)
theorem ps_ldc (X : pm_X p R s m args meth c0 dC dI aC pre base xs mm) {ix : Nat} {v : Int32} (hw : Cond.constant (kN (pm_o mm)) ix v ∈ lw_gt) (hd : decode (pm_b mm) pc = .ok (.ldc ix, 2)) (ih : pm_IH p l e R s m args below meth c0 Q dC dI aC pre base mm k r) (hk : k (pc + 2) lv (.int v :: st) h c sl = some r) : pm_W p l e R s m args below meth c0 Q dC dI aC pre base mm pc lv st h c sl := by
  intro H locs ls hc hs hl hP hz hS
  exact lv_ldc X.1 X.2.1 X.2.2.2.1 (X.2.2.2.2.1 _ hw) hd (ih _ _ _ _ _ _ hk H locs ls hc hs hl hP hz hS)
theorem ps_ldc_w (X : pm_X p R s m args meth c0 dC dI aC pre base xs mm) {ix : Nat} {v : Int32} (hw : Cond.constant (kN (pm_o mm)) ix v ∈ lw_gt) (hd : decode (pm_b mm) pc = .ok (.ldc_w ix, 3)) (ih : pm_IH p l e R s m args below meth c0 Q dC dI aC pre base mm k r) (hk : k (pc + 3) lv (.int v :: st) h c sl = some r) : pm_W p l e R s m args below meth c0 Q dC dI aC pre base mm pc lv st h c sl := by
  intro H locs ls hc hs hl hP hz hS
  exact lv_ldcw X.1 X.2.1 X.2.2.2.1 (X.2.2.2.2.1 _ hw) hd (ih _ _ _ _ _ _ hk H locs ls hc hs hl hP hz hS)
theorem ps_ldc2 (X : pm_X p R s m args meth c0 dC dI aC pre base xs mm) {ix : Nat} {v : Int64} (hw : Cond.constantLong (kN (pm_o mm)) ix v ∈ lw_gt) (hd : decode (pm_b mm) pc = .ok (.ldc2_w ix, 3)) (ih : pm_IH p l e R s m args below meth c0 Q dC dI aC pre base mm k r) (hk : k (pc + 3) lv (.long v :: st) h c sl = some r) : pm_W p l e R s m args below meth c0 Q dC dI aC pre base mm pc lv st h c sl := by
  intro H locs ls hc hs hl hP hz hS
  exact lv_ldc2 X.1 X.2.1 X.2.2.2.1 (X.2.2.2.2.1 _ hw) hd (ih _ _ _ _ _ _ hk H locs ls hc hs hl hP hz hS)
theorem ps_iload_n (X : pm_X p R s m args meth c0 dC dI aC pre base xs mm) {i : Fin 4} (hd : decode (pm_b mm) pc = .ok (.iload_n i, 1)) (ih : pm_IH p l e R s m args below meth c0 Q dC dI aC pre base mm k r) (hk : pm_ldi k i (pc + 1) lv st h c sl = some r) : pm_W p l e R s m args below meth c0 Q dC dI aC pre base mm pc lv st h c sl := by
  unfold pm_ldi at hk
  split at hk
  · rename_i x hx
    intro H locs ls hc hs hl hP hz hS
    exact lv_iload_n X.1 X.2.1 hd rfl (pm_lvat hl hx) (ih _ _ _ _ _ _ hk H locs ls hc hs hl hP hz hS)
  · cases hk
theorem ps_iload (X : pm_X p R s m args meth c0 dC dI aC pre base xs mm) {i : Nat} (hd : decode (pm_b mm) pc = .ok (.iload i, 2)) (ih : pm_IH p l e R s m args below meth c0 Q dC dI aC pre base mm k r) (hk : pm_ldi k i (pc + 2) lv st h c sl = some r) : pm_W p l e R s m args below meth c0 Q dC dI aC pre base mm pc lv st h c sl := by
  unfold pm_ldi at hk
  split at hk
  · rename_i x hx
    intro H locs ls hc hs hl hP hz hS
    exact lv_iload X.1 X.2.1 hd (pm_lvat hl hx) (ih _ _ _ _ _ _ hk H locs ls hc hs hl hP hz hS)
  · cases hk
theorem ps_lload_n (X : pm_X p R s m args meth c0 dC dI aC pre base xs mm) {i : Fin 4} (hd : decode (pm_b mm) pc = .ok (.lload_n i, 1)) (ih : pm_IH p l e R s m args below meth c0 Q dC dI aC pre base mm k r) (hk : pm_ldl k i (pc + 1) lv st h c sl = some r) : pm_W p l e R s m args below meth c0 Q dC dI aC pre base mm pc lv st h c sl := by
  unfold pm_ldl at hk
  split at hk
  · rename_i x hx
    intro H locs ls hc hs hl hP hz hS
    exact lv_lload_n X.1 X.2.1 hd rfl (pm_lvat hl hx) (ih _ _ _ _ _ _ hk H locs ls hc hs hl hP hz hS)
  · cases hk
theorem ps_lload (X : pm_X p R s m args meth c0 dC dI aC pre base xs mm) {i : Nat} (hd : decode (pm_b mm) pc = .ok (.lload i, 2)) (ih : pm_IH p l e R s m args below meth c0 Q dC dI aC pre base mm k r) (hk : pm_ldl k i (pc + 2) lv st h c sl = some r) : pm_W p l e R s m args below meth c0 Q dC dI aC pre base mm pc lv st h c sl := by
  unfold pm_ldl at hk
  split at hk
  · rename_i x hx
    intro H locs ls hc hs hl hP hz hS
    exact lv_lload X.1 X.2.1 hd (pm_lvat hl hx) (ih _ _ _ _ _ _ hk H locs ls hc hs hl hP hz hS)
  · cases hk
theorem ps_aload_n (X : pm_X p R s m args meth c0 dC dI aC pre base xs mm) {i : Fin 4} (hd : decode (pm_b mm) pc = .ok (.aload_n i, 1)) (ih : pm_IH p l e R s m args below meth c0 Q dC dI aC pre base mm k r) (hk : pm_lda k i (pc + 1) lv st h c sl = some r) : pm_W p l e R s m args below meth c0 Q dC dI aC pre base mm pc lv st h c sl := by
  unfold pm_lda at hk
  split at hk
  · rename_i x hx
    intro H locs ls hc hs hl hP hz hS
    exact lv_aload_n X.1 X.2.1 hd rfl (pm_lvat hl hx) (ih _ _ _ _ _ _ hk H locs ls hc hs hl hP hz hS)
  · cases hk
theorem ps_aload (X : pm_X p R s m args meth c0 dC dI aC pre base xs mm) {i : Nat} (hd : decode (pm_b mm) pc = .ok (.aload i, 2)) (ih : pm_IH p l e R s m args below meth c0 Q dC dI aC pre base mm k r) (hk : pm_lda k i (pc + 2) lv st h c sl = some r) : pm_W p l e R s m args below meth c0 Q dC dI aC pre base mm pc lv st h c sl := by
  unfold pm_lda at hk
  split at hk
  · rename_i x hx
    intro H locs ls hc hs hl hP hz hS
    exact lv_aload X.1 X.2.1 hd (pm_lvat hl hx) (ih _ _ _ _ _ _ hk H locs ls hc hs hl hP hz hS)
  · cases hk
theorem ps_istore_n (X : pm_X p R s m args meth c0 dC dI aC pre base xs mm) {i : Fin 4} (hd : decode (pm_b mm) pc = .ok (.istore_n i, 1)) (ih : pm_IH p l e R s m args below meth c0 Q dC dI aC pre base mm k r) (hk : pm_sti k (pm_ml mm) i (pc + 1) lv st h c sl = some r) : pm_W p l e R s m args below meth c0 Q dC dI aC pre base mm pc lv st h c sl := by
  unfold pm_sti at hk
  split at hk
  · rename_i x rr
    split at hk
    · rename_i hi
      intro H locs ls hc hs hl hP hz hS
      exact lv_istore_n X.1 X.2.1 hd rfl hl hi rfl (fun ls hl => ih _ _ _ _ _ _ hk H locs ls hc hs (pm_s1_has hl) hP hz hS)
    · cases hk
  · cases hk
theorem ps_istore (X : pm_X p R s m args meth c0 dC dI aC pre base xs mm) {i : Nat} (hd : decode (pm_b mm) pc = .ok (.istore i, 2)) (ih : pm_IH p l e R s m args below meth c0 Q dC dI aC pre base mm k r) (hk : pm_sti k (pm_ml mm) i (pc + 2) lv st h c sl = some r) : pm_W p l e R s m args below meth c0 Q dC dI aC pre base mm pc lv st h c sl := by
  unfold pm_sti at hk
  split at hk
  · rename_i x rr
    split at hk
    · rename_i hi
      intro H locs ls hc hs hl hP hz hS
      exact lv_istore X.1 X.2.1 hd hl hi rfl (fun ls hl => ih _ _ _ _ _ _ hk H locs ls hc hs (pm_s1_has hl) hP hz hS)
    · cases hk
  · cases hk
theorem ps_lstore_n (X : pm_X p R s m args meth c0 dC dI aC pre base xs mm) {i : Fin 4} (hd : decode (pm_b mm) pc = .ok (.lstore_n i, 1)) (ih : pm_IH p l e R s m args below meth c0 Q dC dI aC pre base mm k r) (hk : pm_stl k (pm_ml mm) i (pc + 1) lv st h c sl = some r) : pm_W p l e R s m args below meth c0 Q dC dI aC pre base mm pc lv st h c sl := by
  unfold pm_stl at hk
  split at hk
  · rename_i x rr
    split at hk
    · rename_i hi
      intro H locs ls hc hs hl hP hz hS
      exact lv_lstore_n X.1 X.2.1 hd rfl hl hi rfl (fun ls hl => ih _ _ _ _ _ _ hk H locs ls hc hs (pm_s2_has hl) hP hz hS)
    · cases hk
  · cases hk
theorem ps_lstore (X : pm_X p R s m args meth c0 dC dI aC pre base xs mm) {i : Nat} (hd : decode (pm_b mm) pc = .ok (.lstore i, 2)) (ih : pm_IH p l e R s m args below meth c0 Q dC dI aC pre base mm k r) (hk : pm_stl k (pm_ml mm) i (pc + 2) lv st h c sl = some r) : pm_W p l e R s m args below meth c0 Q dC dI aC pre base mm pc lv st h c sl := by
  unfold pm_stl at hk
  split at hk
  · rename_i x rr
    split at hk
    · rename_i hi
      intro H locs ls hc hs hl hP hz hS
      exact lv_lstore X.1 X.2.1 hd hl hi rfl (fun ls hl => ih _ _ _ _ _ _ hk H locs ls hc hs (pm_s2_has hl) hP hz hS)
    · cases hk
  · cases hk
theorem ps_astore_n (X : pm_X p R s m args meth c0 dC dI aC pre base xs mm) {i : Fin 4} (hd : decode (pm_b mm) pc = .ok (.astore_n i, 1)) (ih : pm_IH p l e R s m args below meth c0 Q dC dI aC pre base mm k r) (hk : pm_sta k (pm_ml mm) i (pc + 1) lv st h c sl = some r) : pm_W p l e R s m args below meth c0 Q dC dI aC pre base mm pc lv st h c sl := by
  unfold pm_sta at hk
  split at hk
  · rename_i x rr
    split at hk
    · rename_i hi
      intro H locs ls hc hs hl hP hz hS
      exact lv_astore_n X.1 X.2.1 hd rfl hl hi rfl (fun ls hl => ih _ _ _ _ _ _ hk H locs ls hc hs (pm_s1_has hl) hP hz hS)
    · cases hk
  · cases hk
theorem ps_astore (X : pm_X p R s m args meth c0 dC dI aC pre base xs mm) {i : Nat} (hd : decode (pm_b mm) pc = .ok (.astore i, 2)) (ih : pm_IH p l e R s m args below meth c0 Q dC dI aC pre base mm k r) (hk : pm_sta k (pm_ml mm) i (pc + 2) lv st h c sl = some r) : pm_W p l e R s m args below meth c0 Q dC dI aC pre base mm pc lv st h c sl := by
  unfold pm_sta at hk
  split at hk
  · rename_i x rr
    split at hk
    · rename_i hi
      intro H locs ls hc hs hl hP hz hS
      exact lv_astore X.1 X.2.1 hd hl hi rfl (fun ls hl => ih _ _ _ _ _ _ hk H locs ls hc hs (pm_s1_has hl) hP hz hS)
    · cases hk
  · cases hk
theorem ps_iinc (X : pm_X p R s m args meth c0 dC dI aC pre base xs mm) {i : Nat} {n : Int} (hd : decode (pm_b mm) pc = .ok (.iinc i n, 3)) (ih : pm_IH p l e R s m args below meth c0 Q dC dI aC pre base mm k r) (hk : pm_iinc k (pm_ml mm) i n pc lv st h c sl = some r) : pm_W p l e R s m args below meth c0 Q dC dI aC pre base mm pc lv st h c sl := by
  unfold pm_iinc at hk
  split at hk
  · rename_i x hx
    split at hk
    · rename_i hi
      intro H locs ls hc hs hl hP hz hS
      obtain ⟨q, hq⟩ := pm_look hx
      exact lv_iinc X.1 X.2.1 hd hl (k := q) (x := x) (by rw [List.getElem?_map, hq]; rfl) rfl hi rfl (fun ls hl => ih _ _ _ _ _ _ hk H locs ls hc hs (pm_s1_has hl) hP hz hS)
    · cases hk
  · cases hk
theorem ps_iadd (X : pm_X p R s m args meth c0 dC dI aC pre base xs mm)  (hd : decode (pm_b mm) pc = .ok (.iadd, 1)) (ih : pm_IH p l e R s m args below meth c0 Q dC dI aC pre base mm k r) (hk : pm_bi k (fun x y => x + y) pc lv st h c sl = some r) : pm_W p l e R s m args below meth c0 Q dC dI aC pre base mm pc lv st h c sl := by
  unfold pm_bi at hk
  split at hk
  · intro H locs ls hc hs hl hP hz hS
    exact lv_iadd X.1 X.2.1 hd (ih _ _ _ _ _ _ hk H locs ls hc hs hl hP hz hS)
  · cases hk
theorem ps_isub (X : pm_X p R s m args meth c0 dC dI aC pre base xs mm)  (hd : decode (pm_b mm) pc = .ok (.isub, 1)) (ih : pm_IH p l e R s m args below meth c0 Q dC dI aC pre base mm k r) (hk : pm_bi k (fun x y => x - y) pc lv st h c sl = some r) : pm_W p l e R s m args below meth c0 Q dC dI aC pre base mm pc lv st h c sl := by
  unfold pm_bi at hk
  split at hk
  · intro H locs ls hc hs hl hP hz hS
    exact lv_isub X.1 X.2.1 hd (ih _ _ _ _ _ _ hk H locs ls hc hs hl hP hz hS)
  · cases hk
theorem ps_imul (X : pm_X p R s m args meth c0 dC dI aC pre base xs mm)  (hd : decode (pm_b mm) pc = .ok (.imul, 1)) (ih : pm_IH p l e R s m args below meth c0 Q dC dI aC pre base mm k r) (hk : pm_bi k (fun x y => x * y) pc lv st h c sl = some r) : pm_W p l e R s m args below meth c0 Q dC dI aC pre base mm pc lv st h c sl := by
  unfold pm_bi at hk
  split at hk
  · intro H locs ls hc hs hl hP hz hS
    exact lv_imul X.1 X.2.1 hd (ih _ _ _ _ _ _ hk H locs ls hc hs hl hP hz hS)
  · cases hk
theorem ps_iand (X : pm_X p R s m args meth c0 dC dI aC pre base xs mm)  (hd : decode (pm_b mm) pc = .ok (.iand, 1)) (ih : pm_IH p l e R s m args below meth c0 Q dC dI aC pre base mm k r) (hk : pm_bi k (fun x y => x &&& y) pc lv st h c sl = some r) : pm_W p l e R s m args below meth c0 Q dC dI aC pre base mm pc lv st h c sl := by
  unfold pm_bi at hk
  split at hk
  · intro H locs ls hc hs hl hP hz hS
    exact lv_iand X.1 X.2.1 hd (ih _ _ _ _ _ _ hk H locs ls hc hs hl hP hz hS)
  · cases hk
theorem ps_ior (X : pm_X p R s m args meth c0 dC dI aC pre base xs mm)  (hd : decode (pm_b mm) pc = .ok (.ior, 1)) (ih : pm_IH p l e R s m args below meth c0 Q dC dI aC pre base mm k r) (hk : pm_bi k (fun x y => x ||| y) pc lv st h c sl = some r) : pm_W p l e R s m args below meth c0 Q dC dI aC pre base mm pc lv st h c sl := by
  unfold pm_bi at hk
  split at hk
  · intro H locs ls hc hs hl hP hz hS
    exact lv_ior X.1 X.2.1 hd (ih _ _ _ _ _ _ hk H locs ls hc hs hl hP hz hS)
  · cases hk
theorem ps_ixor (X : pm_X p R s m args meth c0 dC dI aC pre base xs mm)  (hd : decode (pm_b mm) pc = .ok (.ixor, 1)) (ih : pm_IH p l e R s m args below meth c0 Q dC dI aC pre base mm k r) (hk : pm_bi k (fun x y => x ^^^ y) pc lv st h c sl = some r) : pm_W p l e R s m args below meth c0 Q dC dI aC pre base mm pc lv st h c sl := by
  unfold pm_bi at hk
  split at hk
  · intro H locs ls hc hs hl hP hz hS
    exact lv_ixor X.1 X.2.1 hd (ih _ _ _ _ _ _ hk H locs ls hc hs hl hP hz hS)
  · cases hk
theorem ps_ishl (X : pm_X p R s m args meth c0 dC dI aC pre base xs mm)  (hd : decode (pm_b mm) pc = .ok (.ishl, 1)) (ih : pm_IH p l e R s m args below meth c0 Q dC dI aC pre base mm k r) (hk : pm_bi k (fun x y => x <<< (y &&& 31)) pc lv st h c sl = some r) : pm_W p l e R s m args below meth c0 Q dC dI aC pre base mm pc lv st h c sl := by
  unfold pm_bi at hk
  split at hk
  · intro H locs ls hc hs hl hP hz hS
    exact lv_ishl X.1 X.2.1 hd (ih _ _ _ _ _ _ hk H locs ls hc hs hl hP hz hS)
  · cases hk
theorem ps_ishr (X : pm_X p R s m args meth c0 dC dI aC pre base xs mm)  (hd : decode (pm_b mm) pc = .ok (.ishr, 1)) (ih : pm_IH p l e R s m args below meth c0 Q dC dI aC pre base mm k r) (hk : pm_bi k (fun x y => x >>> (y &&& 31)) pc lv st h c sl = some r) : pm_W p l e R s m args below meth c0 Q dC dI aC pre base mm pc lv st h c sl := by
  unfold pm_bi at hk
  split at hk
  · intro H locs ls hc hs hl hP hz hS
    exact lv_ishr X.1 X.2.1 hd (ih _ _ _ _ _ _ hk H locs ls hc hs hl hP hz hS)
  · cases hk
theorem ps_iushr (X : pm_X p R s m args meth c0 dC dI aC pre base xs mm)  (hd : decode (pm_b mm) pc = .ok (.iushr, 1)) (ih : pm_IH p l e R s m args below meth c0 Q dC dI aC pre base mm k r) (hk : pm_bi k (fun x y => (x.toUInt32 >>> (y.toUInt32 &&& Int32.toUInt32 31)).toInt32) pc lv st h c sl = some r) : pm_W p l e R s m args below meth c0 Q dC dI aC pre base mm pc lv st h c sl := by
  unfold pm_bi at hk
  split at hk
  · intro H locs ls hc hs hl hP hz hS
    exact lv_iushr X.1 X.2.1 hd rfl (ih _ _ _ _ _ _ hk H locs ls hc hs hl hP hz hS)
  · cases hk
theorem ps_idiv (X : pm_X p R s m args meth c0 dC dI aC pre base xs mm)  (hd : decode (pm_b mm) pc = .ok (.idiv, 1)) (ih : pm_IH p l e R s m args below meth c0 Q dC dI aC pre base mm k r) (hk : pm_bz k (fun x y => x / y) pc lv st h c sl = some r) : pm_W p l e R s m args below meth c0 Q dC dI aC pre base mm pc lv st h c sl := by
  unfold pm_bz at hk
  split at hk
  · split at hk
    · cases hk
    · rename_i hne
      intro H locs ls hc hs hl hP hz hS
      exact lv_idiv X.1 X.2.1 hd hne (ih _ _ _ _ _ _ hk H locs ls hc hs hl hP hz hS)
  · cases hk
theorem ps_irem (X : pm_X p R s m args meth c0 dC dI aC pre base xs mm)  (hd : decode (pm_b mm) pc = .ok (.irem, 1)) (ih : pm_IH p l e R s m args below meth c0 Q dC dI aC pre base mm k r) (hk : pm_bz k (fun x y => x - x / y * y) pc lv st h c sl = some r) : pm_W p l e R s m args below meth c0 Q dC dI aC pre base mm pc lv st h c sl := by
  unfold pm_bz at hk
  split at hk
  · split at hk
    · cases hk
    · rename_i hne
      intro H locs ls hc hs hl hP hz hS
      exact lv_irem X.1 X.2.1 hd hne (ih _ _ _ _ _ _ hk H locs ls hc hs hl hP hz hS)
  · cases hk
theorem ps_ladd (X : pm_X p R s m args meth c0 dC dI aC pre base xs mm)  (hd : decode (pm_b mm) pc = .ok (.ladd, 1)) (ih : pm_IH p l e R s m args below meth c0 Q dC dI aC pre base mm k r) (hk : pm_bl k (fun x y => x + y) pc lv st h c sl = some r) : pm_W p l e R s m args below meth c0 Q dC dI aC pre base mm pc lv st h c sl := by
  unfold pm_bl at hk
  split at hk
  · intro H locs ls hc hs hl hP hz hS
    exact lv_ladd X.1 X.2.1 hd (ih _ _ _ _ _ _ hk H locs ls hc hs hl hP hz hS)
  · cases hk
theorem ps_lmul (X : pm_X p R s m args meth c0 dC dI aC pre base xs mm)  (hd : decode (pm_b mm) pc = .ok (.lmul, 1)) (ih : pm_IH p l e R s m args below meth c0 Q dC dI aC pre base mm k r) (hk : pm_bl k (fun x y => x * y) pc lv st h c sl = some r) : pm_W p l e R s m args below meth c0 Q dC dI aC pre base mm pc lv st h c sl := by
  unfold pm_bl at hk
  split at hk
  · intro H locs ls hc hs hl hP hz hS
    exact lv_lmul X.1 X.2.1 hd (ih _ _ _ _ _ _ hk H locs ls hc hs hl hP hz hS)
  · cases hk
theorem ps_ldiv (X : pm_X p R s m args meth c0 dC dI aC pre base xs mm)  (hd : decode (pm_b mm) pc = .ok (.ldiv, 1)) (ih : pm_IH p l e R s m args below meth c0 Q dC dI aC pre base mm k r) (hk : pm_blz k (fun x y => x / y) pc lv st h c sl = some r) : pm_W p l e R s m args below meth c0 Q dC dI aC pre base mm pc lv st h c sl := by
  unfold pm_blz at hk
  split at hk
  · split at hk
    · cases hk
    · rename_i hne
      intro H locs ls hc hs hl hP hz hS
      exact lv_ldiv X.1 X.2.1 hd hne (ih _ _ _ _ _ _ hk H locs ls hc hs hl hP hz hS)
  · cases hk
theorem ps_lrem (X : pm_X p R s m args meth c0 dC dI aC pre base xs mm)  (hd : decode (pm_b mm) pc = .ok (.lrem, 1)) (ih : pm_IH p l e R s m args below meth c0 Q dC dI aC pre base mm k r) (hk : pm_blz k (fun x y => x - x / y * y) pc lv st h c sl = some r) : pm_W p l e R s m args below meth c0 Q dC dI aC pre base mm pc lv st h c sl := by
  unfold pm_blz at hk
  split at hk
  · split at hk
    · cases hk
    · rename_i hne
      intro H locs ls hc hs hl hP hz hS
      exact lv_lrem X.1 X.2.1 hd hne (ih _ _ _ _ _ _ hk H locs ls hc hs hl hP hz hS)
  · cases hk
theorem ps_ineg (X : pm_X p R s m args meth c0 dC dI aC pre base xs mm)  (hd : decode (pm_b mm) pc = .ok (.ineg, 1)) (ih : pm_IH p l e R s m args below meth c0 Q dC dI aC pre base mm k r) (hk : pm_u k (fun x => -x) pc lv st h c sl = some r) : pm_W p l e R s m args below meth c0 Q dC dI aC pre base mm pc lv st h c sl := by
  unfold pm_u at hk
  split at hk
  · intro H locs ls hc hs hl hP hz hS
    exact lv_ineg X.1 X.2.1 hd (ih _ _ _ _ _ _ hk H locs ls hc hs hl hP hz hS)
  · cases hk
theorem ps_i2b (X : pm_X p R s m args meth c0 dC dI aC pre base xs mm)  (hd : decode (pm_b mm) pc = .ok (.i2b, 1)) (ih : pm_IH p l e R s m args below meth c0 Q dC dI aC pre base mm k r) (hk : pm_u k (fun x => x.toInt8.toInt32) pc lv st h c sl = some r) : pm_W p l e R s m args below meth c0 Q dC dI aC pre base mm pc lv st h c sl := by
  unfold pm_u at hk
  split at hk
  · intro H locs ls hc hs hl hP hz hS
    exact lv_i2b X.1 X.2.1 hd rfl (ih _ _ _ _ _ _ hk H locs ls hc hs hl hP hz hS)
  · cases hk
theorem ps_i2s (X : pm_X p R s m args meth c0 dC dI aC pre base xs mm)  (hd : decode (pm_b mm) pc = .ok (.i2s, 1)) (ih : pm_IH p l e R s m args below meth c0 Q dC dI aC pre base mm k r) (hk : pm_u k (fun x => x.toInt16.toInt32) pc lv st h c sl = some r) : pm_W p l e R s m args below meth c0 Q dC dI aC pre base mm pc lv st h c sl := by
  unfold pm_u at hk
  split at hk
  · intro H locs ls hc hs hl hP hz hS
    exact lv_i2s X.1 X.2.1 hd rfl (ih _ _ _ _ _ _ hk H locs ls hc hs hl hP hz hS)
  · cases hk
theorem ps_i2l (X : pm_X p R s m args meth c0 dC dI aC pre base xs mm)  (hd : decode (pm_b mm) pc = .ok (.i2l, 1)) (ih : pm_IH p l e R s m args below meth c0 Q dC dI aC pre base mm k r) (hk : pm_i2l k pc lv st h c sl = some r) : pm_W p l e R s m args below meth c0 Q dC dI aC pre base mm pc lv st h c sl := by
  unfold pm_i2l at hk
  split at hk
  · intro H locs ls hc hs hl hP hz hS
    exact lv_i2l X.1 X.2.1 hd rfl (ih _ _ _ _ _ _ hk H locs ls hc hs hl hP hz hS)
  · cases hk
theorem ps_lcmp (X : pm_X p R s m args meth c0 dC dI aC pre base xs mm)  (hd : decode (pm_b mm) pc = .ok (.lcmp, 1)) (ih : pm_IH p l e R s m args below meth c0 Q dC dI aC pre base mm k r) (hk : pm_lcmp k pc lv st h c sl = some r) : pm_W p l e R s m args below meth c0 Q dC dI aC pre base mm pc lv st h c sl := by
  unfold pm_lcmp at hk
  split at hk
  · intro H locs ls hc hs hl hP hz hS
    exact W.lcmp X.1 X.2.1 hd (ih _ _ _ _ _ _ hk H locs ls hc hs hl hP hz hS)
  · cases hk
theorem ps_dup (X : pm_X p R s m args meth c0 dC dI aC pre base xs mm)  (hd : decode (pm_b mm) pc = .ok (.dup, 1)) (ih : pm_IH p l e R s m args below meth c0 Q dC dI aC pre base mm k r) (hk : pm_dup k pc lv st h c sl = some r) : pm_W p l e R s m args below meth c0 Q dC dI aC pre base mm pc lv st h c sl := by
  unfold pm_dup at hk
  split at hk
  · split at hk
    · rename_i hv
      intro H locs ls hc hs hl hP hz hS
      exact lv_dup X.1 X.2.1 hd (by rw [pm_cat]; exact hv) (ih _ _ _ _ _ _ hk H locs ls hc hs hl hP hz hS)
    · cases hk
  · cases hk
theorem ps_pop (X : pm_X p R s m args meth c0 dC dI aC pre base xs mm)  (hd : decode (pm_b mm) pc = .ok (.pop, 1)) (ih : pm_IH p l e R s m args below meth c0 Q dC dI aC pre base mm k r) (hk : pm_pop k pc lv st h c sl = some r) : pm_W p l e R s m args below meth c0 Q dC dI aC pre base mm pc lv st h c sl := by
  unfold pm_pop at hk
  split at hk
  · rename_i v rr
    split at hk
    · rename_i hv
      intro H locs ls hc hs hl hP hz hS
      exact lv_pop (va := pm_rv pre base v) X.1 X.2.1 hd (by rw [pm_cat]; exact hv) (ih _ _ _ _ _ _ hk H locs ls hc hs hl hP hz hS)
    · cases hk
  · cases hk
theorem ps_pop2 (X : pm_X p R s m args meth c0 dC dI aC pre base xs mm)  (hd : decode (pm_b mm) pc = .ok (.pop2, 1)) (ih : pm_IH p l e R s m args below meth c0 Q dC dI aC pre base mm k r) (hk : pm_pop2 k pc lv st h c sl = some r) : pm_W p l e R s m args below meth c0 Q dC dI aC pre base mm pc lv st h c sl := by
  unfold pm_pop2 at hk
  split at hk
  · rename_i v rr
    split at hk
    · rename_i hv
      intro H locs ls hc hs hl hP hz hS
      exact lv_pop2_2 (va := pm_rv pre base v) X.1 X.2.1 hd (by rw [pm_cat]; exact hv) (ih _ _ _ _ _ _ hk H locs ls hc hs hl hP hz hS)
    · cases hk
  · cases hk
theorem ps_dup2 (X : pm_X p R s m args meth c0 dC dI aC pre base xs mm)  (hd : decode (pm_b mm) pc = .ok (.dup2, 1)) (ih : pm_IH p l e R s m args below meth c0 Q dC dI aC pre base mm k r) (hk : pm_dup2 k pc lv st h c sl = some r) : pm_W p l e R s m args below meth c0 Q dC dI aC pre base mm pc lv st h c sl := by
  unfold pm_dup2 at hk
  split at hk
  · split at hk
    · rename_i hv
      split at hk
      · rename_i hw
        intro H locs ls hc hs hl hP hz hS
        exact lv_dup2_11 X.1 X.2.1 hd (by rw [pm_cat]; exact hv) (by rw [pm_cat]; exact hw) (ih _ _ _ _ _ _ hk H locs ls hc hs hl hP hz hS)
      · cases hk
    · cases hk
  · cases hk
theorem ps_ifCond (X : pm_X p R s m args meth c0 dC dI aC pre base xs mm) {cd : ClassFile.Cond} {off : Int} {tgt : Nat} (ht : (pc : Int) + off = (tgt : Int)) (hd : decode (pm_b mm) pc = .ok (.ifCond cd off, 3)) (ih : pm_IH p l e R s m args below meth c0 Q dC dI aC pre base mm k r) (hk : pm_if k cd tgt pc lv st h c sl = some r) : pm_W p l e R s m args below meth c0 Q dC dI aC pre base mm pc lv st h c sl := by
  unfold pm_if at hk
  split at hk
  · intro H locs ls hc hs hl hP hz hS
    cases cd with
    | eq => exact lv_if_eq X.1 X.2.1 hd ht (fun q => ih _ _ _ _ _ _ ((if_pos q).symm.trans hk) H locs ls hc hs hl hP hz hS) (fun q => ih _ _ _ _ _ _ ((if_neg q).symm.trans hk) H locs ls hc hs hl hP hz hS)
    | ne => exact lv_if_ne X.1 X.2.1 hd ht (fun q => ih _ _ _ _ _ _ ((if_neg q).symm.trans hk) H locs ls hc hs hl hP hz hS) (fun q => ih _ _ _ _ _ _ ((if_pos q).symm.trans hk) H locs ls hc hs hl hP hz hS)
    | lt => exact lv_if_lt X.1 X.2.1 hd ht (fun q => ih _ _ _ _ _ _ ((if_pos q).symm.trans hk) H locs ls hc hs hl hP hz hS) (fun q => ih _ _ _ _ _ _ ((if_neg q).symm.trans hk) H locs ls hc hs hl hP hz hS)
    | ge => exact lv_if_ge X.1 X.2.1 hd ht (fun q => ih _ _ _ _ _ _ ((if_pos q).symm.trans hk) H locs ls hc hs hl hP hz hS) (fun q => ih _ _ _ _ _ _ ((if_neg q).symm.trans hk) H locs ls hc hs hl hP hz hS)
    | gt => exact lv_if_gt X.1 X.2.1 hd ht (fun q => ih _ _ _ _ _ _ ((if_pos q).symm.trans hk) H locs ls hc hs hl hP hz hS) (fun q => ih _ _ _ _ _ _ ((if_neg q).symm.trans hk) H locs ls hc hs hl hP hz hS)
    | le => exact lv_if_le X.1 X.2.1 hd ht (fun q => ih _ _ _ _ _ _ ((if_pos q).symm.trans hk) H locs ls hc hs hl hP hz hS) (fun q => ih _ _ _ _ _ _ ((if_neg q).symm.trans hk) H locs ls hc hs hl hP hz hS)
  · cases hk
theorem ps_if_icmp (X : pm_X p R s m args meth c0 dC dI aC pre base xs mm) {cd : ClassFile.Cond} {off : Int} {tgt : Nat} (ht : (pc : Int) + off = (tgt : Int)) (hd : decode (pm_b mm) pc = .ok (.if_icmp cd off, 3)) (ih : pm_IH p l e R s m args below meth c0 Q dC dI aC pre base mm k r) (hk : pm_ic k cd tgt pc lv st h c sl = some r) : pm_W p l e R s m args below meth c0 Q dC dI aC pre base mm pc lv st h c sl := by
  unfold pm_ic at hk
  split at hk
  · intro H locs ls hc hs hl hP hz hS
    cases cd with
    | eq => exact lv_icmp_eq X.1 X.2.1 hd ht (fun q => ih _ _ _ _ _ _ ((if_pos q).symm.trans hk) H locs ls hc hs hl hP hz hS) (fun q => ih _ _ _ _ _ _ ((if_neg q).symm.trans hk) H locs ls hc hs hl hP hz hS)
    | ne => exact lv_icmp_ne X.1 X.2.1 hd ht (fun q => ih _ _ _ _ _ _ ((if_neg q).symm.trans hk) H locs ls hc hs hl hP hz hS) (fun q => ih _ _ _ _ _ _ ((if_pos q).symm.trans hk) H locs ls hc hs hl hP hz hS)
    | lt => exact lv_icmp_lt X.1 X.2.1 hd ht (fun q => ih _ _ _ _ _ _ ((if_pos q).symm.trans hk) H locs ls hc hs hl hP hz hS) (fun q => ih _ _ _ _ _ _ ((if_neg q).symm.trans hk) H locs ls hc hs hl hP hz hS)
    | ge => exact lv_icmp_ge X.1 X.2.1 hd ht (fun q => ih _ _ _ _ _ _ ((if_pos q).symm.trans hk) H locs ls hc hs hl hP hz hS) (fun q => ih _ _ _ _ _ _ ((if_neg q).symm.trans hk) H locs ls hc hs hl hP hz hS)
    | gt => exact lv_icmp_gt X.1 X.2.1 hd ht (fun q => ih _ _ _ _ _ _ ((if_pos q).symm.trans hk) H locs ls hc hs hl hP hz hS) (fun q => ih _ _ _ _ _ _ ((if_neg q).symm.trans hk) H locs ls hc hs hl hP hz hS)
    | le => exact lv_icmp_le X.1 X.2.1 hd ht (fun q => ih _ _ _ _ _ _ ((if_pos q).symm.trans hk) H locs ls hc hs hl hP hz hS) (fun q => ih _ _ _ _ _ _ ((if_neg q).symm.trans hk) H locs ls hc hs hl hP hz hS)
  · cases hk
theorem ps_goto (X : pm_X p R s m args meth c0 dC dI aC pre base xs mm) {off : Int} {tgt : Nat} (ht : (pc : Int) + off = (tgt : Int)) (hd : decode (pm_b mm) pc = .ok (.goto off, 3)) (ih : pm_IH p l e R s m args below meth c0 Q dC dI aC pre base mm k r) (hk : k tgt lv st h c sl = some r) : pm_W p l e R s m args below meth c0 Q dC dI aC pre base mm pc lv st h c sl := by
  intro H locs ls hc hs hl hP hz hS
  exact lv_goto X.1 X.2.1 hd ht (ih _ _ _ _ _ _ hk H locs ls hc hs hl hP hz hS)
theorem ps_jump {t : Int} (ih : pm_IH p l e R s m args below meth c0 Q dC dI aC pre base mm k r) (hk : pm_jump k t lv st h c sl = some r) : ∃ n : Nat, t = (n : Int) ∧ pm_W p l e R s m args below meth c0 Q dC dI aC pre base mm n lv st h c sl := by
  unfold pm_jump at hk
  split at hk
  · rename_i ht
    exact ⟨t.toNat, (Int.toNat_of_nonneg ht).symm, ih _ _ _ _ _ _ hk⟩
  · cases hk
theorem ps_tsw (X : pm_X p R s m args meth c0 dC dI aC pre base xs mm) {d lo hi : Int} {offs : Array Int} {len : Nat} (hd : decode (pm_b mm) pc = .ok (.tableswitch d lo hi offs, len)) (ih : pm_IH p l e R s m args below meth c0 Q dC dI aC pre base mm k r) (hk : pm_tsw k d lo hi offs pc lv st h c sl = some r) : pm_W p l e R s m args below meth c0 Q dC dI aC pre base mm pc lv st h c sl := by
  unfold pm_tsw at hk
  split at hk
  · split at hk
    · rename_i hlo
      obtain ⟨n, hn, hw⟩ := ps_jump ih hk
      intro H locs ls hc hs hl hP hz hS
      exact lv_tableOut X.1 X.2.1 hd (Or.inl hlo) hn (hw H locs ls hc hs hl hP hz hS)
    · split at hk
      · rename_i hhi
        obtain ⟨n, hn, hw⟩ := ps_jump ih hk
        intro H locs ls hc hs hl hP hz hS
        exact lv_tableOut X.1 X.2.1 hd (Or.inr hhi) hn (hw H locs ls hc hs hl hP hz hS)
      · rename_i hlo hhi
        split at hk
        · rename_i off hoff
          obtain ⟨n, hn, hw⟩ := ps_jump ih hk
          intro H locs ls hc hs hl hP hz hS
          exact lv_tableIn X.1 X.2.1 hd hlo hhi hoff hn (hw H locs ls hc hs hl hP hz hS)
        · cases hk
  · cases hk
end Rows
