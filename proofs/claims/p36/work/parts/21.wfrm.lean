/-! WHAT A RUN LEAVES: a relation between the cells before and behind that every step keeps -/
def vm_el (M : Nat) (S : List Nat) : Bool := S.any (fun x => Nat.beq x M)
theorem vm_el_ok {M : Nat} {S : List Nat} (h : vm_el M S = true) : M ∈ S := by
  obtain ⟨x, hx, e⟩ := List.any_eq_true.mp h
  rw [← Nat.eq_of_beq_eq_true e]
  exact hx
/-- which steps may stand in the methods of S: writes of fields by okp, of rows by oka -/
def vm_al (okp : Nat → Nat → Bool) (oka : Bool) (S : List Nat) (e : pm_E) : Bool := match e.1 with
  | .putfield _ => okp e.2.1 e.2.2.1
  | .iastore => oka
  | .bastore => oka
  | .lastore => oka
  | .aastore => false
  | .new _ => false
  | .newarray _ => false
  | .anewarray _ => false
  | .invokevirtual _ => (match Nat.beq e.2.2.1 0 with
    | true => vm_el e.2.1 S
    | false => true)
  | .invokespecial _ => vm_el e.2.1 S
  | .invokestatic _ => (match Nat.beq e.2.2.1 8 with
    | true => oka
    | false => vm_el e.2.1 S)
  | _ => true
def vm_frm (okp : Nat → Nat → Bool) (oka : Bool) (S : List Nat) : Bool := S.all (fun M => match pm_m M with
  | some mm => (pm_t mm).all (fun ch => ch.all (fun o => match o with
    | some e => vm_al okp oka S e
    | none => true))
  | none => false)
section Frame
variable {okp : Nat → Nat → Bool} {oka : Bool} {S : List Nat} {Rel : pm_H → pm_H → Prop} {xs : List Int32} {big : Nat → List Value → pm_H → pm_R} {mm : pm_M} {k : pm_K} {r : Option Value × pm_H} {lv : pm_L} {st : List Value} {h : pm_H} {c sl : Nat}
theorem fr_bi (ih : ∀ pc lv st h c sl r, k pc lv st h c sl = some r → Rel h r.2) (f : Int32 → Int32 → Int32) (pc : Nat) (hk : pm_bi k f pc lv st h c sl = some r) : Rel h r.2 := by
  unfold pm_bi at hk
  (repeat' split at hk) <;> first
    | exact ih _ _ _ _ _ _ _ hk
    | cases hk
theorem fr_bz (ih : ∀ pc lv st h c sl r, k pc lv st h c sl = some r → Rel h r.2) (f : Int32 → Int32 → Int32) (pc : Nat) (hk : pm_bz k f pc lv st h c sl = some r) : Rel h r.2 := by
  unfold pm_bz at hk
  (repeat' split at hk) <;> first
    | exact ih _ _ _ _ _ _ _ hk
    | cases hk
theorem fr_bl (ih : ∀ pc lv st h c sl r, k pc lv st h c sl = some r → Rel h r.2) (f : Int64 → Int64 → Int64) (pc : Nat) (hk : pm_bl k f pc lv st h c sl = some r) : Rel h r.2 := by
  unfold pm_bl at hk
  (repeat' split at hk) <;> first
    | exact ih _ _ _ _ _ _ _ hk
    | cases hk
theorem fr_blz (ih : ∀ pc lv st h c sl r, k pc lv st h c sl = some r → Rel h r.2) (f : Int64 → Int64 → Int64) (pc : Nat) (hk : pm_blz k f pc lv st h c sl = some r) : Rel h r.2 := by
  unfold pm_blz at hk
  (repeat' split at hk) <;> first
    | exact ih _ _ _ _ _ _ _ hk
    | cases hk
theorem fr_u (ih : ∀ pc lv st h c sl r, k pc lv st h c sl = some r → Rel h r.2) (f : Int32 → Int32) (pc : Nat) (hk : pm_u k f pc lv st h c sl = some r) : Rel h r.2 := by
  unfold pm_u at hk
  (repeat' split at hk) <;> first
    | exact ih _ _ _ _ _ _ _ hk
    | cases hk
theorem fr_ldi (ih : ∀ pc lv st h c sl r, k pc lv st h c sl = some r → Rel h r.2) (i pc : Nat) (hk : pm_ldi k i pc lv st h c sl = some r) : Rel h r.2 := by
  unfold pm_ldi at hk
  (repeat' split at hk) <;> first
    | exact ih _ _ _ _ _ _ _ hk
    | cases hk
theorem fr_ldl (ih : ∀ pc lv st h c sl r, k pc lv st h c sl = some r → Rel h r.2) (i pc : Nat) (hk : pm_ldl k i pc lv st h c sl = some r) : Rel h r.2 := by
  unfold pm_ldl at hk
  (repeat' split at hk) <;> first
    | exact ih _ _ _ _ _ _ _ hk
    | cases hk
theorem fr_lda (ih : ∀ pc lv st h c sl r, k pc lv st h c sl = some r → Rel h r.2) (i pc : Nat) (hk : pm_lda k i pc lv st h c sl = some r) : Rel h r.2 := by
  unfold pm_lda at hk
  (repeat' split at hk) <;> first
    | exact ih _ _ _ _ _ _ _ hk
    | cases hk
theorem fr_sti (ih : ∀ pc lv st h c sl r, k pc lv st h c sl = some r → Rel h r.2) (nL i pc : Nat) (hk : pm_sti k nL i pc lv st h c sl = some r) : Rel h r.2 := by
  unfold pm_sti at hk
  (repeat' split at hk) <;> first
    | exact ih _ _ _ _ _ _ _ hk
    | cases hk
theorem fr_stl (ih : ∀ pc lv st h c sl r, k pc lv st h c sl = some r → Rel h r.2) (nL i pc : Nat) (hk : pm_stl k nL i pc lv st h c sl = some r) : Rel h r.2 := by
  unfold pm_stl at hk
  (repeat' split at hk) <;> first
    | exact ih _ _ _ _ _ _ _ hk
    | cases hk
theorem fr_sta (ih : ∀ pc lv st h c sl r, k pc lv st h c sl = some r → Rel h r.2) (nL i pc : Nat) (hk : pm_sta k nL i pc lv st h c sl = some r) : Rel h r.2 := by
  unfold pm_sta at hk
  (repeat' split at hk) <;> first
    | exact ih _ _ _ _ _ _ _ hk
    | cases hk
theorem fr_iinc (ih : ∀ pc lv st h c sl r, k pc lv st h c sl = some r → Rel h r.2) (nL i : Nat) (n : Int) (pc : Nat) (hk : pm_iinc k nL i n pc lv st h c sl = some r) : Rel h r.2 := by
  unfold pm_iinc at hk
  (repeat' split at hk) <;> first
    | exact ih _ _ _ _ _ _ _ hk
    | cases hk
theorem fr_if (ih : ∀ pc lv st h c sl r, k pc lv st h c sl = some r → Rel h r.2) (cd : ClassFile.Cond) (t pc : Nat) (hk : pm_if k cd t pc lv st h c sl = some r) : Rel h r.2 := by
  unfold pm_if at hk
  (repeat' split at hk) <;> first
    | exact ih _ _ _ _ _ _ _ hk
    | cases hk
theorem fr_ic (ih : ∀ pc lv st h c sl r, k pc lv st h c sl = some r → Rel h r.2) (cd : ClassFile.Cond) (t pc : Nat) (hk : pm_ic k cd t pc lv st h c sl = some r) : Rel h r.2 := by
  unfold pm_ic at hk
  (repeat' split at hk) <;> first
    | exact ih _ _ _ _ _ _ _ hk
    | cases hk
theorem fr_getf (ih : ∀ pc lv st h c sl r, k pc lv st h c sl = some r → Rel h r.2) (ci f pc : Nat) (hk : pm_getf k ci f pc lv st h c sl = some r) : Rel h r.2 := by
  unfold pm_getf at hk
  (repeat' split at hk) <;> first
    | exact ih _ _ _ _ _ _ _ hk
    | cases hk
theorem fr_iald (ih : ∀ pc lv st h c sl r, k pc lv st h c sl = some r → Rel h r.2) (xs : List Int32) (pc : Nat) (hk : pm_iald k xs pc lv st h c sl = some r) : Rel h r.2 := by
  unfold pm_iald at hk
  (repeat' split at hk) <;> first
    | exact ih _ _ _ _ _ _ _ hk
    | cases hk
theorem fr_bald (ih : ∀ pc lv st h c sl r, k pc lv st h c sl = some r → Rel h r.2) (pc : Nat) (hk : pm_bald k pc lv st h c sl = some r) : Rel h r.2 := by
  unfold pm_bald at hk
  (repeat' split at hk) <;> first
    | exact ih _ _ _ _ _ _ _ hk
    | cases hk
theorem fr_lald (ih : ∀ pc lv st h c sl r, k pc lv st h c sl = some r → Rel h r.2) (pc : Nat) (hk : pm_lald k pc lv st h c sl = some r) : Rel h r.2 := by
  unfold pm_lald at hk
  (repeat' split at hk) <;> first
    | exact ih _ _ _ _ _ _ _ hk
    | cases hk
theorem fr_aald (ih : ∀ pc lv st h c sl r, k pc lv st h c sl = some r → Rel h r.2) (pc : Nat) (hk : pm_aald k pc lv st h c sl = some r) : Rel h r.2 := by
  unfold pm_aald at hk
  (repeat' split at hk) <;> first
    | exact ih _ _ _ _ _ _ _ hk
    | cases hk
theorem fr_alen (ih : ∀ pc lv st h c sl r, k pc lv st h c sl = some r → Rel h r.2) (xs : List Int32) (pc : Nat) (hk : pm_alen k xs pc lv st h c sl = some r) : Rel h r.2 := by
  unfold pm_alen at hk
  (repeat' split at hk) <;> first
    | exact ih _ _ _ _ _ _ _ hk
    | cases hk
theorem fr_obj (ih : ∀ pc lv st h c sl r, k pc lv st h c sl = some r → Rel h r.2) (pc : Nat) (hk : pm_obj k pc lv st h c sl = some r) : Rel h r.2 := by
  unfold pm_obj at hk
  (repeat' split at hk) <;> first
    | exact ih _ _ _ _ _ _ _ hk
    | cases hk
theorem fr_dup (ih : ∀ pc lv st h c sl r, k pc lv st h c sl = some r → Rel h r.2) (pc : Nat) (hk : pm_dup k pc lv st h c sl = some r) : Rel h r.2 := by
  unfold pm_dup at hk
  (repeat' split at hk) <;> first
    | exact ih _ _ _ _ _ _ _ hk
    | cases hk
theorem fr_dup2 (ih : ∀ pc lv st h c sl r, k pc lv st h c sl = some r → Rel h r.2) (pc : Nat) (hk : pm_dup2 k pc lv st h c sl = some r) : Rel h r.2 := by
  unfold pm_dup2 at hk
  (repeat' split at hk) <;> first
    | exact ih _ _ _ _ _ _ _ hk
    | cases hk
theorem fr_pop (ih : ∀ pc lv st h c sl r, k pc lv st h c sl = some r → Rel h r.2) (pc : Nat) (hk : pm_pop k pc lv st h c sl = some r) : Rel h r.2 := by
  unfold pm_pop at hk
  (repeat' split at hk) <;> first
    | exact ih _ _ _ _ _ _ _ hk
    | cases hk
theorem fr_pop2 (ih : ∀ pc lv st h c sl r, k pc lv st h c sl = some r → Rel h r.2) (pc : Nat) (hk : pm_pop2 k pc lv st h c sl = some r) : Rel h r.2 := by
  unfold pm_pop2 at hk
  (repeat' split at hk) <;> first
    | exact ih _ _ _ _ _ _ _ hk
    | cases hk
theorem fr_lcmp (ih : ∀ pc lv st h c sl r, k pc lv st h c sl = some r → Rel h r.2) (pc : Nat) (hk : pm_lcmp k pc lv st h c sl = some r) : Rel h r.2 := by
  unfold pm_lcmp at hk
  (repeat' split at hk) <;> first
    | exact ih _ _ _ _ _ _ _ hk
    | cases hk
theorem fr_i2l (ih : ∀ pc lv st h c sl r, k pc lv st h c sl = some r → Rel h r.2) (pc : Nat) (hk : pm_i2l k pc lv st h c sl = some r) : Rel h r.2 := by
  unfold pm_i2l at hk
  (repeat' split at hk) <;> first
    | exact ih _ _ _ _ _ _ _ hk
    | cases hk
theorem fr_ldcs (ih : ∀ pc lv st h c sl r, k pc lv st h c sl = some r → Rel h r.2) (b pc : Nat) (hk : pm_ldcs k b pc lv st h c sl = some r) : Rel h r.2 := by
  unfold pm_ldcs at hk
  (repeat' split at hk) <;> first
    | exact ih _ _ _ _ _ _ _ hk
    | cases hk
theorem fr_slen (ih : ∀ pc lv st h c sl r, k pc lv st h c sl = some r → Rel h r.2) (pc : Nat) (hk : pm_slen k pc lv st h c sl = some r) : Rel h r.2 := by
  unfold pm_slen at hk
  (repeat' split at hk) <;> first
    | exact ih _ _ _ _ _ _ _ hk
    | cases hk
theorem fr_sch (ih : ∀ pc lv st h c sl r, k pc lv st h c sl = some r → Rel h r.2) (pc : Nat) (hk : pm_sch k pc lv st h c sl = some r) : Rel h r.2 := by
  unfold pm_sch at hk
  (repeat' split at hk) <;> first
    | exact ih _ _ _ _ _ _ _ hk
    | cases hk
theorem fr_jump (ih : ∀ pc lv st h c sl r, k pc lv st h c sl = some r → Rel h r.2) (t : Int) (hk : pm_jump k t lv st h c sl = some r) : Rel h r.2 := by
  unfold pm_jump at hk
  split at hk
  · exact ih _ _ _ _ _ _ _ hk
  · cases hk
theorem fr_tsw (ih : ∀ pc lv st h c sl r, k pc lv st h c sl = some r → Rel h r.2) (d lo hi : Int) (offs : Array Int) (pc : Nat) (hk : pm_tsw k d lo hi offs pc lv st h c sl = some r) : Rel h r.2 := by
  unfold pm_tsw at hk
  (repeat' split at hk) <;> first
    | exact fr_jump ih _ hk
    | cases hk
theorem fr_putf (ih : ∀ pc lv st h c sl r, k pc lv st h c sl = some r → Rel h r.2) (htr : ∀ a b c, Rel a b → Rel b c → Rel a c) (hput : ∀ h a ci fs f v, okp ci f = true → pm_cell h a = some (.inr (.inr (.inr (ci, fs)))) → Rel h (h.set (a - 8) (.inr (.inr (.inr (ci, fs.set f v)))))) (ci f pc : Nat) (hok : okp ci f = true) (hk : pm_putf k ci f pc lv st h c sl = some r) : Rel h r.2 := by
  unfold pm_putf at hk
  split at hk
  · split at hk
    · rename_i cj fs hc
      split at hk
      · rename_i e
        subst e
        split at hk
        · split at hk
          · exact htr _ _ _ (hput _ _ _ _ _ _ hok hc) (ih _ _ _ _ _ _ _ hk)
          · cases hk
        · cases hk
      · cases hk
    · cases hk
  · cases hk
theorem fr_iast (ih : ∀ pc lv st h c sl r, k pc lv st h c sl = some r → Rel h r.2) (htr : ∀ a b c, Rel a b → Rel b c → Rel a c) (harr : oka = true → ∀ h a t l l', pm_cell h a = some (.inl (t, l)) → Rel h (h.set (a - 8) (.inl (t, l')))) (pc : Nat) (hok : oka = true) (hk : pm_iast k pc lv st h c sl = some r) : Rel h r.2 := by
  unfold pm_iast at hk
  split at hk
  · split at hk
    · cases hk
    · split at hk
      · rename_i t l hc
        split at hk
        · rename_i e
          subst e
          split at hk
          · exact htr _ _ _ (harr hok _ _ _ _ _ hc) (ih _ _ _ _ _ _ _ hk)
          · cases hk
        · cases hk
      · cases hk
  · cases hk
theorem fr_bast (ih : ∀ pc lv st h c sl r, k pc lv st h c sl = some r → Rel h r.2) (htr : ∀ a b c, Rel a b → Rel b c → Rel a c) (harr : oka = true → ∀ h a t l l', pm_cell h a = some (.inl (t, l)) → Rel h (h.set (a - 8) (.inl (t, l')))) (pc : Nat) (hok : oka = true) (hk : pm_bast k pc lv st h c sl = some r) : Rel h r.2 := by
  unfold pm_bast at hk
  split at hk
  · split at hk
    · cases hk
    · split at hk
      · rename_i t l hc
        split at hk
        · rename_i e
          subst e
          split at hk
          · exact htr _ _ _ (harr hok _ _ _ _ _ hc) (ih _ _ _ _ _ _ _ hk)
          · cases hk
        · split at hk
          · rename_i e
            subst e
            split at hk
            · exact htr _ _ _ (harr hok _ _ _ _ _ hc) (ih _ _ _ _ _ _ _ hk)
            · cases hk
          · cases hk
      · cases hk
  · cases hk
theorem fr_last (ih : ∀ pc lv st h c sl r, k pc lv st h c sl = some r → Rel h r.2) (htr : ∀ a b c, Rel a b → Rel b c → Rel a c) (harl : oka = true → ∀ h a t l l', pm_cell h a = some (.inr (.inl (t, l))) → Rel h (h.set (a - 8) (.inr (.inl (t, l'))))) (pc : Nat) (hok : oka = true) (hk : pm_last k pc lv st h c sl = some r) : Rel h r.2 := by
  unfold pm_last at hk
  split at hk
  · split at hk
    · cases hk
    · split at hk
      · rename_i t l hc
        split at hk
        · rename_i e
          subst e
          split at hk
          · exact htr _ _ _ (harl hok _ _ _ _ _ hc) (ih _ _ _ _ _ _ _ hk)
          · cases hk
        · cases hk
      · cases hk
  · cases hk
theorem fr_copy (ih : ∀ pc lv st h c sl r, k pc lv st h c sl = some r → Rel h r.2) (htr : ∀ a b c, Rel a b → Rel b c → Rel a c) (harr : oka = true → ∀ h a t l l', pm_cell h a = some (.inl (t, l)) → Rel h (h.set (a - 8) (.inl (t, l')))) (pc : Nat) (hok : oka = true) (hk : pm_copy k pc lv st h c sl = some r) : Rel h r.2 := by
  unfold pm_copy at hk
  split at hk
  · split at hk
    · cases hk
    · split at hk
      · cases hk
      · split at hk
        · cases hk
        · split at hk
          · rename_i t g u f hc _
            split at hk
            · rename_i e
              obtain ⟨e1, e2⟩ := e
              subst e1
              split at hk
              · split at hk
                · exact htr _ _ _ (harr hok _ _ _ _ _ hc) (ih _ _ _ _ _ _ _ hk)
                · cases hk
              · cases hk
            · cases hk
          · cases hk
  · cases hk
theorem fr_call (ih : ∀ pc lv st h c sl r, k pc lv st h c sl = some r → Rel h r.2) (htr : ∀ a b c, Rel a b → Rel b c → Rel a c) {m2 : pm_M} {M2 : Nat} (hbig : ∀ M2 as h r, M2 ∈ S → big M2 as h = some r → Rel h r.2) (hM : M2 ∈ S) (pc : Nat) (as rest : List Value) (hk : pm_call k big mm m2 M2 pc lv as rest h c sl = some r) : Rel h r.2 := by
  unfold pm_call at hk
  split at hk
  · split at hk
    · split at hk
      · split at hk
        · rename_i v h' hb
          exact htr _ _ _ (hbig _ _ _ _ hM hb) (ih _ _ _ _ _ _ _ hk)
        · cases hk
      · cases hk
    · cases hk
  · cases hk
theorem fr_inv (ih : ∀ pc lv st h c sl r, k pc lv st h c sl = some r → Rel h r.2) (htr : ∀ a b c, Rel a b → Rel b c → Rel a c) {M2 : Nat} (hbig : ∀ M2 as h r, M2 ∈ S → big M2 as h = some r → Rel h r.2) (hM : M2 ∈ S) (pc : Nat) (hk : pm_inv k pm_m big mm M2 pc lv st h c sl = some r) : Rel h r.2 := by
  unfold pm_inv at hk
  (repeat' split at hk) <;> first
    | exact fr_call ih htr hbig hM _ _ _ hk
    | cases hk
theorem fr_ins (ih : ∀ pc lv st h c sl r, k pc lv st h c sl = some r → Rel h r.2) (htr : ∀ a b c, Rel a b → Rel b c → Rel a c) {M2 : Nat} (hbig : ∀ M2 as h r, M2 ∈ S → big M2 as h = some r → Rel h r.2) (hM : M2 ∈ S) (pc : Nat) (hk : pm_ins k pm_m big mm M2 pc lv st h c sl = some r) : Rel h r.2 := by
  unfold pm_ins at hk
  (repeat' split at hk) <;> first
    | exact fr_call ih htr hbig hM _ _ _ hk
    | cases hk
theorem fr_step {e : pm_E} {pc : Nat} (hrf : ∀ a, Rel a a) (ih : ∀ pc lv st h c sl r, k pc lv st h c sl = some r → Rel h r.2) (htr : ∀ a b c, Rel a b → Rel b c → Rel a c) (hput : ∀ h a ci fs f v, okp ci f = true → pm_cell h a = some (.inr (.inr (.inr (ci, fs)))) → Rel h (h.set (a - 8) (.inr (.inr (.inr (ci, fs.set f v)))))) (harr : oka = true → ∀ h a t l l', pm_cell h a = some (.inl (t, l)) → Rel h (h.set (a - 8) (.inl (t, l')))) (harl : oka = true → ∀ h a t l l', pm_cell h a = some (.inr (.inl (t, l))) → Rel h (h.set (a - 8) (.inr (.inl (t, l'))))) (hbig : ∀ M2 as h r, M2 ∈ S → big M2 as h = some r → Rel h r.2) (hal : vm_al okp oka S e = true) (hk : pm_step xs pm_m big mm k e pc lv st h c sl = some r) : Rel h r.2 := by
  obtain ⟨i, a, b, z⟩ := e
  cases i with
  | iconst n => exact ih _ _ _ _ _ _ _ hk
  | bipush n => exact ih _ _ _ _ _ _ _ hk
  | sipush n => exact ih _ _ _ _ _ _ _ hk
  | lconst n => exact ih _ _ _ _ _ _ _ hk
  | ldc2_w ix => exact ih _ _ _ _ _ _ _ hk
  | goto off => exact ih _ _ _ _ _ _ _ hk
  | iload_n i => exact fr_ldi ih _ _ hk
  | iload i => exact fr_ldi ih _ _ hk
  | lload_n i => exact fr_ldl ih _ _ hk
  | lload i => exact fr_ldl ih _ _ hk
  | aload_n i => exact fr_lda ih _ _ hk
  | aload i => exact fr_lda ih _ _ hk
  | istore_n i => exact fr_sti ih _ _ _ hk
  | istore i => exact fr_sti ih _ _ _ hk
  | lstore_n i => exact fr_stl ih _ _ _ hk
  | lstore i => exact fr_stl ih _ _ _ hk
  | astore_n i => exact fr_sta ih _ _ _ hk
  | astore i => exact fr_sta ih _ _ _ hk
  | iinc i n => exact fr_iinc ih _ _ _ _ hk
  | iadd => exact fr_bi ih _ _ hk
  | isub => exact fr_bi ih _ _ hk
  | imul => exact fr_bi ih _ _ hk
  | iand => exact fr_bi ih _ _ hk
  | ior => exact fr_bi ih _ _ hk
  | ixor => exact fr_bi ih _ _ hk
  | ishl => exact fr_bi ih _ _ hk
  | ishr => exact fr_bi ih _ _ hk
  | iushr => exact fr_bi ih _ _ hk
  | idiv => exact fr_bz ih _ _ hk
  | irem => exact fr_bz ih _ _ hk
  | ladd => exact fr_bl ih _ _ hk
  | lmul => exact fr_bl ih _ _ hk
  | ldiv => exact fr_blz ih _ _ hk
  | lrem => exact fr_blz ih _ _ hk
  | ineg => exact fr_u ih _ _ hk
  | i2b => exact fr_u ih _ _ hk
  | i2s => exact fr_u ih _ _ hk
  | i2l => exact fr_i2l ih _ hk
  | lcmp => exact fr_lcmp ih _ hk
  | dup => exact fr_dup ih _ hk
  | dup2 => exact fr_dup2 ih _ hk
  | pop => exact fr_pop ih _ hk
  | pop2 => exact fr_pop2 ih _ hk
  | baload => exact fr_bald ih _ hk
  | laload => exact fr_lald ih _ hk
  | aaload => exact fr_aald ih _ hk
  | ifCond cd off => exact fr_if ih _ _ _ hk
  | if_icmp cd off => exact fr_ic ih _ _ _ hk
  | tableswitch d lo hi offs => exact fr_tsw ih _ _ _ _ _ hk
  | getfield ix => exact fr_getf ih _ _ _ hk
  | putfield ix => exact fr_putf ih htr hput _ _ _ hal hk
  | iaload => exact fr_iald ih _ _ hk
  | iastore => exact fr_iast ih htr harr _ hal hk
  | bastore => exact fr_bast ih htr harr _ hal hk
  | lastore => exact fr_last ih htr harl _ hal hk
  | arraylength => exact fr_alen ih _ _ hk
  | ldc ix =>
    have hk1 : (if a = 0 then k (pc + 2) lv (.int (Int32.ofInt z) :: st) h c sl else if a = 1 then pm_ldcs k b pc lv st h c sl else none) = some r := hk
    split at hk1
    · exact ih _ _ _ _ _ _ _ hk1
    · split at hk1
      · exact fr_ldcs ih _ _ hk1
      · cases hk1
  | ldc_w ix =>
    have hk1 : (if a = 0 then k (pc + 3) lv (.int (Int32.ofInt z) :: st) h c sl else none) = some r := hk
    split at hk1
    · exact ih _ _ _ _ _ _ _ hk1
    · cases hk1
  | aastore => cases hal
  | new ix => cases hal
  | newarray t => cases hal
  | anewarray ix => cases hal
  | invokevirtual ix =>
    have hk1 : (if b = 0 then pm_inv k pm_m big mm a pc lv st h c sl else if b = 4 then pm_slen k pc lv st h c sl else if b = 5 then pm_sch k pc lv st h c sl else none) = some r := hk
    have hal1 : (match Nat.beq b 0 with
      | true => vm_el a S
      | false => true) = true := hal
    split at hk1
    · rename_i e
      rw [e] at hal1
      exact fr_inv ih htr hbig (vm_el_ok hal1) _ hk1
    · split at hk1
      · exact fr_slen ih _ hk1
      · split at hk1
        · exact fr_sch ih _ hk1
        · cases hk1
  | invokespecial ix =>
    have hk1 : (if b = 1 then pm_inv k pm_m big mm a pc lv st h c sl else if b = 9 then pm_obj k pc lv st h c sl else none) = some r := hk
    split at hk1
    · exact fr_inv ih htr hbig (vm_el_ok hal) _ hk1
    · split at hk1
      · exact fr_obj ih _ hk1
      · cases hk1
  | invokestatic ix =>
    have hk1 : (if b = 8 then pm_copy k pc lv st h c sl else if b = 2 ∨ b = 3 then pm_ins k pm_m big mm a pc lv st h c sl else none) = some r := hk
    have hal1 : (match Nat.beq b 8 with
      | true => oka
      | false => vm_el a S) = true := hal
    split at hk1
    · rename_i e
      rw [e] at hal1
      exact fr_copy ih htr harr _ hal1 hk1
    · rename_i e
      have e1 : Nat.beq b 8 = false := by
        cases hb : Nat.beq b 8 with
        | true => exact absurd (Nat.eq_of_beq_eq_true hb) e
        | false => rfl
      rw [e1] at hal1
      split at hk1
      · exact fr_ins ih htr hbig (vm_el_ok hal1) _ hk1
      · cases hk1
  | ireturn =>
    have hk1 : pm_ret mm st h = some r := hk
    unfold pm_ret at hk1
    (repeat' split at hk1) <;> first
      | (cases hk1; exact hrf _)
      | cases hk1
  | lreturn =>
    have hk1 : pm_retl mm st h = some r := hk
    unfold pm_retl at hk1
    (repeat' split at hk1) <;> first
      | (cases hk1; exact hrf _)
      | cases hk1
  | areturn =>
    have hk1 : pm_reta mm st h = some r := hk
    unfold pm_reta at hk1
    (repeat' split at hk1) <;> first
      | (cases hk1; exact hrf _)
      | cases hk1
  | return_ =>
    have hk1 : pm_retv mm st h = some r := hk
    unfold pm_retv at hk1
    (repeat' split at hk1) <;> first
      | (cases hk1; exact hrf _)
      | cases hk1
  | _ => exact absurd (show (none : pm_R) = some r from hk) (fun q => by cases q)
end Frame
theorem vm_al_at {okp : Nat → Nat → Bool} {oka : Bool} {S : List Nat} (hS : vm_frm okp oka S = true) {M : Nat} (hM : M ∈ S) {mm : pm_M} (hm : pm_m M = some mm) {pc : Nat} {e : pm_E} (he : pm_at mm pc = some e) : vm_al okp oka S e = true := by
  have h1 := List.all_eq_true.mp hS M hM
  rw [hm] at h1
  unfold pm_at at he
  split at he
  · cases he
  · rename_i ch hch
    split at he
    · rename_i e' he'
      cases he
      have h2 := List.all_eq_true.mp (List.all_eq_true.mp h1 ch (List.mem_of_getElem? hch)) _ (List.mem_of_getElem? he')
      exact h2
    · cases he
theorem vm_frame {okp : Nat → Nat → Bool} {oka : Bool} {S : List Nat} {Rel : pm_H → pm_H → Prop} {xs : List Int32} {N : Nat} (hS : vm_frm okp oka S = true) (hrf : ∀ a, Rel a a) (htr : ∀ a b c, Rel a b → Rel b c → Rel a c) (hput : ∀ h a ci fs f v, okp ci f = true → pm_cell h a = some (.inr (.inr (.inr (ci, fs)))) → Rel h (h.set (a - 8) (.inr (.inr (.inr (ci, fs.set f v)))))) (harr : oka = true → ∀ h a t l l', pm_cell h a = some (.inl (t, l)) → Rel h (h.set (a - 8) (.inl (t, l')))) (harl : oka = true → ∀ h a t l l', pm_cell h a = some (.inr (.inl (t, l))) → Rel h (h.set (a - 8) (.inr (.inl (t, l'))))) : ∀ d M as h r, M ∈ S → pm_big xs pm_m N d M as h = some r → Rel h r.2
  | 0, _, _, _, _, _, hk => by cases hk
  | d + 1, M, as, h, r, hM, hk => by
    have hk1 : (match pm_m M with
      | some mm => if pm_words as ≤ pm_ml mm then (if as.length = pm_n mm then pm_run xs pm_m (pm_big xs pm_m N d) mm N 0 (lv_args 0 as) [] h 0 0 else none) else none
      | none => none) = some r := hk
    split at hk1
    · rename_i mm hm
      split at hk1
      · split at hk1
        · have hrun : ∀ n pc lv st h c sl r, pm_run xs pm_m (pm_big xs pm_m N d) mm n pc lv st h c sl = some r → Rel h r.2 := by
            intro n
            induction n with
            | zero => intro _ _ _ _ _ _ _ q; cases q
            | succ n ihn =>
              intro pc lv st h c sl r q
              have q1 : (match pm_at mm pc with
                | some e => pm_step xs pm_m (pm_big xs pm_m N d) mm (pm_run xs pm_m (pm_big xs pm_m N d) mm n) e pc lv st h c sl
                | none => none) = some r := q
              split at q1
              · rename_i e he
                exact fr_step (S := S) hrf ihn htr hput harr harl (fun M2 as h r hM2 hb => vm_frame hS hrf htr hput harr harl d M2 as h r hM2 hb) (vm_al_at hS hM hm he) q1
              · cases q1
          exact hrun _ _ _ _ _ _ _ _ hk1
        · cases hk1
      · cases hk1
    · cases hk1
def vm_PUR : List Nat := [17, 21, 28, 29, 30, 37, 38, 39, 40, 43, 44, 45, 46, 48, 50, 57, 59, 60, 62, 63, 64, 71, 72, 73, 77, 78, 86, 87, 88, 90, 91, 93, 94, 95, 96, 99, 100, 109, 114, 116, 117, 123, 127, 131, 132, 135, 136, 139, 140, 141, 142, 143, 144, 149, 153, 156, 157, 158, 164, 166, 167, 168, 169, 171, 173, 177, 184, 185, 186, 187, 189, 192, 193, 194, 197, 202, 203, 205, 211, 220, 223]
theorem vm_PUR_ok : vm_frm (fun _ _ => false) false vm_PUR = true := by decide +kernel
theorem vm_pure {xs : List Int32} {N d M : Nat} {as : List Value} {h : pm_H} {r : Option Value × pm_H} (hM : M ∈ vm_PUR) (hk : pm_big xs pm_m N d M as h = some r) : r.2 = h := (vm_frame (Rel := fun a b => b = a) vm_PUR_ok (fun _ => rfl) (fun _ _ _ p q => q.trans p) (fun _ _ _ _ _ _ q => by cases q) (fun q => by cases q) (fun q => by cases q) d M as h r hM hk)
theorem vm_same.rf (ci f : Nat) (a : pm_H) : vm_same ci f a a := fun _ fs h => ⟨fs, h, rfl⟩
theorem vm_same.tr {ci f : Nat} {a b c : pm_H} (h1 : vm_same ci f a b) (h2 : vm_same ci f b c) : vm_same ci f a c := fun i fs h => by
  obtain ⟨fs1, e1, e2⟩ := h1 i fs h
  obtain ⟨fs2, e3, e4⟩ := h2 i fs1 e1
  exact ⟨fs2, e3, e4.trans e2⟩
theorem vm_same.put {ci f cj g a : Nat} {h : pm_H} {fs : List Value} {v : Value} (hne : (Nat.beq cj ci && Nat.beq g f) = false) (hc : pm_cell h a = some (.inr (.inr (.inr (cj, fs))))) : vm_same ci f h (h.set (a - 8) (.inr (.inr (.inr (cj, fs.set g v))))) := by
  intro i gs hi
  unfold pm_cell at hc
  split at hc
  · cases hc
  · by_cases e : i = a - 8
    · subst e
      rw [hc] at hi
      cases hi
      refine ⟨fs.set g v, List.getElem?_set_self (List.getElem?_eq_some_iff.mp hc).1, ?_⟩
      rw [Nat.beq_refl] at hne
      have hgf : ¬ g = f := fun q => by
        rw [q, Nat.beq_refl] at hne
        cases hne
      exact List.getElem?_set_ne hgf
    · exact ⟨gs, by rw [List.getElem?_set_ne (Ne.symm e)]; exact hi, rfl⟩
theorem vm_same.arr {ci f a : Nat} {h : pm_H} {C D : pm_C} (hC : ∀ fs, C ≠ vm_ob ci fs) (hc : pm_cell h a = some C) : vm_same ci f h (h.set (a - 8) D) := by
  intro i gs hi
  unfold pm_cell at hc
  split at hc
  · cases hc
  · by_cases e : i = a - 8
    · subst e
      rw [hc] at hi
      exact absurd (Option.some.inj hi) (hC gs)
    · exact ⟨gs, by rw [List.getElem?_set_ne (Ne.symm e)]; exact hi, rfl⟩
theorem vm_kept {ci f : Nat} {S : List Nat} (hS : vm_frm (fun cj g => !(Nat.beq cj ci && Nat.beq g f)) true S = true) {xs : List Int32} {N d M : Nat} {as : List Value} {h : pm_H} {r : Option Value × pm_H} (hM : M ∈ S) (hk : pm_big xs pm_m N d M as h = some r) : vm_same ci f h r.2 := vm_frame (Rel := vm_same ci f) hS (vm_same.rf ci f) (fun _ _ _ => vm_same.tr) (fun _ _ _ _ _ _ q hc => vm_same.put (by rw [Bool.not_eq_true'] at q; exact q) hc) (fun _ _ _ _ _ _ hc => vm_same.arr (fun _ q => by cases q) hc) (fun _ _ _ _ _ _ hc => vm_same.arr (fun _ q => by cases q) hc) d M as h r hM hk
def vm_K0 : List Nat := [5, 6, 14, 15, 16, 17, 18, 19, 20, 21, 22, 23, 24, 25, 26, 27, 28, 29, 30, 31, 32, 33, 34, 35, 36, 37, 38, 39, 40, 41, 42, 43, 44, 45, 46, 47, 48, 49, 50, 51, 52, 53, 54, 55, 56, 57, 58, 59, 60, 61, 62, 63, 64, 65, 66, 67, 68, 69, 70, 71, 72, 73, 74, 75, 76, 77, 78, 79, 80, 81, 82, 83, 84, 85, 86, 87, 88, 89, 90, 91, 92, 93, 94, 95, 96, 97, 98, 99, 100, 101, 102, 103, 104, 105, 106, 107, 108, 109, 110, 111, 112, 113, 114, 115, 116, 117, 118, 119, 120, 121, 122, 123, 124, 125, 126, 127, 128, 129, 130, 131, 132, 133, 134, 135, 136, 137, 138, 139, 140, 141, 142, 143, 144, 146, 147, 148, 149, 150, 151, 152, 153, 154, 155, 156, 157, 158, 159, 160, 161, 162, 163, 164, 165, 166, 167, 168, 169, 170, 171, 172, 173, 174, 175, 176, 177, 178, 179, 180, 181, 182, 183, 184, 185, 186, 187, 188, 189, 190, 191, 192, 193, 194, 195, 196, 197, 198, 199, 200, 201, 202, 203, 204, 205, 206, 207, 208, 209, 210, 211, 212, 213, 214, 215, 216, 217, 218, 219, 220, 221, 222, 223, 224]
theorem vm_K0_ok : vm_frm (fun cj g => !(Nat.beq cj 2 && Nat.beq g 1)) true vm_K0 = true := by decide +kernel
def vm_K1 : List Nat := [5, 6, 10, 11, 12, 15, 16, 17, 18, 19, 20, 21, 22, 23, 24, 25, 26, 27, 28, 29, 30, 31, 32, 33, 34, 35, 36, 37, 38, 39, 40, 41, 42, 43, 44, 45, 46, 47, 48, 49, 50, 51, 52, 53, 54, 55, 56, 57, 58, 59, 60, 61, 62, 63, 64, 65, 66, 67, 68, 69, 70, 71, 72, 73, 74, 75, 76, 77, 78, 79, 80, 81, 82, 83, 84, 85, 86, 87, 88, 89, 90, 91, 92, 93, 94, 95, 96, 97, 98, 99, 100, 101, 102, 103, 104, 105, 106, 107, 108, 109, 110, 111, 112, 113, 114, 115, 116, 117, 118, 119, 120, 121, 122, 123, 124, 125, 126, 127, 128, 129, 130, 131, 132, 133, 134, 135, 136, 137, 138, 139, 140, 141, 142, 143, 144, 146, 147, 148, 149, 150, 151, 152, 153, 154, 155, 156, 157, 158, 159, 160, 161, 162, 163, 164, 165, 166, 167, 168, 169, 170, 171, 172, 173, 174, 175, 176, 177, 178, 179, 180, 181, 182, 183, 184, 185, 186, 187, 188, 189, 190, 191, 192, 193, 194, 195, 196, 197, 198, 199, 200, 201, 202, 203, 204, 205, 206, 207, 208, 209, 210, 211, 212, 213, 214, 215, 216, 217, 218, 219, 220, 221, 222, 223, 224]
theorem vm_K1_ok : vm_frm (fun cj g => !(Nat.beq cj 3 && Nat.beq g 1)) true vm_K1 = true := by decide +kernel
def vm_K2 : List Nat := [5, 6, 10, 11, 12, 15, 16, 17, 18, 21, 28, 29, 30, 32, 37, 38, 39, 40, 41, 42, 43, 44, 45, 46, 47, 48, 49, 50, 51, 52, 53, 54, 55, 56, 57, 58, 59, 60, 61, 62, 63, 64, 65, 66, 67, 68, 69, 70, 71, 72, 73, 74, 75, 76, 77, 78, 79, 80, 81, 82, 83, 84, 85, 86, 87, 88, 89, 90, 91, 92, 93, 94, 95, 96, 97, 98, 99, 100, 101, 102, 103, 104, 105, 106, 107, 108, 109, 110, 111, 112, 113, 114, 115, 116, 117, 118, 119, 120, 121, 122, 123, 124, 125, 126, 127, 128, 129, 130, 131, 132, 133, 134, 135, 136, 137, 138, 139, 140, 141, 142, 143, 144, 146, 147, 148, 149, 150, 151, 152, 153, 154, 155, 156, 157, 158, 159, 160, 161, 162, 163, 164, 165, 166, 167, 168, 169, 170, 171, 172, 173, 174, 175, 176, 177, 178, 179, 180, 181, 182, 183, 184, 185, 186, 187, 188, 189, 190, 191, 192, 193, 194, 195, 196, 197, 198, 199, 200, 201, 202, 203, 204, 205, 206, 207, 208, 209, 210, 211, 212, 213, 214, 215, 216, 217, 218, 219, 220, 221, 222, 223, 224]
theorem vm_K2_ok : vm_frm (fun cj g => !(Nat.beq cj 3 && Nat.beq g 2)) true vm_K2 = true := by decide +kernel
def vm_K3 : List Nat := [6, 10, 11, 12, 15, 16, 17, 18, 20, 21, 23, 24, 25, 26, 27, 28, 29, 30, 31, 32, 33, 34, 35, 36, 37, 38, 39, 40, 42, 43, 44, 45, 46, 47, 48, 49, 50, 51, 52, 53, 54, 55, 56, 57, 58, 59, 60, 61, 62, 63, 64, 65, 68, 69, 70, 71, 72, 73, 74, 75, 76, 77, 78, 83, 86, 87, 88, 90, 91, 93, 94, 95, 96, 97, 98, 99, 100, 103, 108, 109, 114, 115, 116, 117, 118, 119, 122, 123, 127, 130, 131, 132, 133, 134, 135, 136, 137, 138, 139, 140, 141, 142, 143, 144, 146, 147, 148, 149, 150, 151, 152, 153, 154, 155, 156, 157, 158, 159, 160, 161, 162, 163, 164, 165, 166, 167, 168, 169, 170, 171, 172, 173, 174, 175, 176, 177, 178, 179, 180, 181, 182, 183, 184, 185, 186, 187, 188, 189, 190, 191, 192, 193, 194, 195, 196, 197, 198, 199, 200, 201, 202, 203, 204, 205, 206, 207, 208, 209, 210, 211, 212, 213, 214, 215, 216, 217, 218, 219, 220, 221, 222, 223, 224]
theorem vm_K3_ok : vm_frm (fun cj g => !(Nat.beq cj 4 && Nat.beq g 0)) true vm_K3 = true := by decide +kernel
def vm_K4 : List Nat := [6, 10, 11, 12, 15, 16, 17, 18, 20, 21, 23, 24, 25, 26, 27, 28, 29, 30, 31, 32, 33, 34, 35, 36, 37, 38, 39, 40, 42, 43, 44, 45, 46, 47, 48, 49, 50, 51, 52, 53, 54, 55, 56, 57, 58, 59, 60, 61, 62, 63, 64, 65, 68, 69, 70, 71, 72, 73, 74, 75, 76, 77, 78, 83, 86, 87, 88, 90, 91, 93, 94, 95, 96, 97, 98, 99, 100, 103, 108, 109, 114, 115, 116, 117, 118, 119, 122, 123, 127, 130, 131, 132, 133, 134, 135, 136, 137, 138, 139, 140, 141, 142, 143, 144, 146, 147, 148, 149, 150, 151, 152, 153, 154, 155, 156, 157, 158, 159, 160, 161, 162, 163, 164, 165, 166, 167, 168, 169, 170, 171, 172, 173, 174, 175, 176, 177, 178, 179, 180, 181, 182, 183, 184, 185, 186, 187, 188, 189, 190, 191, 192, 193, 194, 195, 196, 197, 198, 199, 200, 201, 202, 203, 204, 205, 206, 207, 208, 209, 210, 211, 212, 213, 214, 215, 216, 217, 218, 219, 220, 221, 222, 223, 224]
theorem vm_K4_ok : vm_frm (fun cj g => !(Nat.beq cj 4 && Nat.beq g 1)) true vm_K4 = true := by decide +kernel
def vm_K5 : List Nat := [6, 10, 11, 12, 15, 16, 17, 18, 20, 21, 22, 23, 24, 25, 26, 27, 28, 29, 30, 33, 34, 35, 36, 37, 38, 39, 40, 42, 43, 44, 45, 46, 47, 48, 49, 50, 51, 52, 53, 54, 55, 56, 57, 58, 59, 60, 61, 62, 63, 64, 65, 68, 69, 70, 71, 72, 73, 74, 75, 76, 77, 78, 83, 86, 87, 88, 90, 91, 93, 94, 95, 96, 97, 98, 99, 100, 108, 109, 114, 115, 116, 117, 118, 119, 122, 123, 127, 130, 131, 132, 133, 134, 135, 136, 137, 138, 139, 140, 141, 142, 143, 144, 146, 147, 148, 149, 150, 151, 152, 153, 154, 155, 156, 157, 158, 159, 160, 161, 162, 163, 164, 165, 166, 167, 168, 169, 170, 171, 172, 173, 174, 175, 176, 177, 178, 179, 180, 181, 182, 183, 184, 185, 186, 187, 188, 189, 190, 191, 192, 193, 194, 195, 196, 197, 198, 199, 200, 201, 202, 203, 204, 205, 206, 207, 208, 209, 210, 211, 212, 213, 214, 215, 216, 217, 218, 219, 220, 221, 222, 223, 224]
theorem vm_K5_ok : vm_frm (fun cj g => !(Nat.beq cj 4 && Nat.beq g 3)) true vm_K5 = true := by decide +kernel
def vm_K6 : List Nat := [5, 6, 10, 11, 12, 13, 14, 15, 16, 17, 18, 19, 20, 21, 22, 23, 24, 25, 26, 27, 28, 29, 30, 31, 32, 33, 34, 35, 36, 37, 38, 39, 40, 41, 42, 43, 44, 45, 46, 47, 48, 49, 50, 51, 52, 53, 54, 55, 56, 57, 58, 59, 60, 61, 62, 63, 64, 65, 66, 67, 68, 69, 70, 71, 72, 73, 74, 75, 76, 77, 78, 79, 80, 81, 82, 83, 84, 85, 86, 87, 88, 89, 90, 91, 92, 93, 94, 95, 96, 97, 98, 99, 100, 101, 102, 103, 104, 105, 106, 107, 108, 109, 110, 111, 112, 113, 114, 115, 116, 117, 118, 119, 120, 121, 122, 123, 124, 125, 126, 127, 128, 129, 130, 131, 132, 133, 134, 135, 136, 137, 138, 139, 140, 141, 142, 143, 144, 146, 148, 149, 150, 152, 153, 154, 155, 156, 157, 158, 159, 160, 161, 162, 163, 164, 165, 166, 167, 168, 169, 170, 171, 172, 173, 174, 175, 176, 177, 178, 179, 180, 181, 182, 183, 184, 185, 186, 187, 188, 189, 190, 191, 192, 193, 194, 195, 196, 197, 198, 199, 200, 201, 202, 203, 204, 205, 206, 207, 208, 209, 210, 211, 212, 213, 214, 215, 216, 217, 218, 219, 220, 221, 222, 223, 224]
theorem vm_K6_ok : vm_frm (fun cj g => !(Nat.beq cj 7 && Nat.beq g 4)) true vm_K6 = true := by decide +kernel
def vm_K7 : List Nat := [5, 6, 10, 11, 12, 13, 14, 15, 16, 17, 18, 19, 20, 21, 22, 23, 24, 25, 26, 27, 28, 29, 30, 31, 32, 33, 34, 35, 36, 37, 38, 39, 40, 41, 42, 43, 44, 45, 46, 47, 48, 49, 50, 51, 52, 53, 54, 55, 56, 57, 58, 59, 60, 61, 62, 63, 64, 65, 66, 67, 68, 69, 70, 71, 72, 73, 74, 75, 76, 77, 78, 79, 80, 81, 82, 83, 84, 85, 86, 87, 88, 89, 90, 91, 92, 93, 94, 95, 96, 97, 98, 99, 100, 101, 102, 103, 104, 105, 106, 107, 108, 109, 110, 111, 112, 113, 114, 115, 116, 117, 118, 119, 120, 121, 122, 123, 124, 125, 126, 127, 128, 129, 130, 131, 132, 133, 134, 135, 136, 137, 138, 139, 140, 141, 142, 143, 144, 147, 148, 149, 150, 152, 153, 154, 156, 157, 158, 160, 161, 162, 163, 164, 165, 166, 167, 168, 169, 170, 171, 172, 173, 174, 175, 176, 177, 178, 179, 180, 181, 182, 183, 184, 185, 186, 187, 188, 189, 190, 191, 192, 193, 194, 195, 196, 197, 198, 199, 200, 201, 202, 203, 204, 205, 206, 207, 208, 209, 210, 211, 212, 213, 214, 215, 216, 217, 218, 219, 220, 221, 222, 223, 224]
theorem vm_K7_ok : vm_frm (fun cj g => !(Nat.beq cj 7 && Nat.beq g 6)) true vm_K7 = true := by decide +kernel
def vm_K8 : List Nat := [5, 6, 10, 11, 12, 13, 14, 15, 16, 17, 18, 19, 20, 21, 22, 23, 24, 25, 26, 27, 28, 29, 30, 31, 32, 33, 34, 35, 36, 37, 38, 39, 40, 41, 42, 43, 44, 45, 46, 47, 48, 49, 50, 51, 52, 53, 54, 55, 56, 57, 58, 59, 60, 61, 62, 63, 64, 65, 66, 67, 68, 69, 70, 71, 72, 73, 74, 75, 76, 77, 78, 79, 80, 81, 82, 83, 84, 85, 86, 87, 88, 89, 90, 91, 92, 93, 94, 95, 96, 97, 98, 99, 100, 101, 102, 103, 104, 105, 106, 107, 108, 109, 110, 111, 112, 113, 114, 115, 116, 117, 118, 119, 120, 121, 122, 123, 124, 125, 126, 127, 128, 129, 130, 131, 132, 133, 134, 135, 136, 137, 138, 139, 140, 141, 142, 143, 144, 147, 148, 149, 150, 152, 153, 154, 156, 157, 158, 160, 161, 162, 163, 164, 165, 166, 167, 168, 169, 170, 171, 172, 173, 174, 175, 176, 177, 178, 179, 180, 181, 182, 183, 184, 185, 186, 187, 188, 189, 190, 191, 192, 193, 194, 195, 196, 197, 198, 199, 200, 201, 202, 203, 204, 205, 206, 207, 208, 209, 210, 211, 212, 213, 214, 215, 216, 217, 218, 219, 220, 221, 222, 223, 224]
theorem vm_K8_ok : vm_frm (fun cj g => !(Nat.beq cj 7 && Nat.beq g 7)) true vm_K8 = true := by decide +kernel
def vm_K9 : List Nat := [5, 6, 10, 11, 12, 13, 14, 15, 16, 17, 18, 19, 20, 21, 22, 23, 24, 25, 26, 27, 28, 29, 30, 31, 32, 33, 34, 35, 36, 37, 38, 39, 40, 41, 42, 43, 44, 45, 46, 47, 48, 49, 50, 51, 52, 53, 54, 55, 56, 57, 58, 59, 60, 61, 62, 63, 64, 65, 66, 67, 68, 69, 70, 71, 72, 73, 74, 75, 76, 77, 78, 79, 80, 81, 82, 83, 84, 85, 86, 87, 88, 89, 90, 91, 92, 93, 94, 95, 96, 97, 98, 99, 100, 101, 102, 103, 104, 105, 106, 107, 108, 109, 110, 111, 112, 113, 114, 115, 116, 117, 118, 119, 120, 121, 122, 123, 124, 125, 126, 127, 128, 129, 130, 131, 132, 133, 134, 135, 136, 137, 138, 139, 140, 141, 142, 143, 144, 147, 148, 149, 150, 152, 153, 154, 156, 157, 158, 160, 161, 162, 163, 164, 166, 167, 168, 169, 170, 171, 172, 173, 174, 175, 176, 177, 178, 179, 180, 181, 182, 183, 184, 185, 186, 187, 188, 189, 190, 191, 192, 193, 194, 195, 196, 197, 198, 199, 200, 201, 202, 203, 204, 205, 206, 207, 208, 209, 210, 211, 212, 213, 214, 215, 216, 217, 218, 219, 220, 221, 222, 223, 224]
theorem vm_K9_ok : vm_frm (fun cj g => !(Nat.beq cj 7 && Nat.beq g 8)) true vm_K9 = true := by decide +kernel
def vm_K10 : List Nat := [5, 6, 10, 11, 12, 13, 14, 15, 16, 17, 18, 19, 20, 21, 22, 23, 24, 25, 26, 27, 28, 29, 30, 31, 32, 33, 34, 35, 36, 37, 38, 39, 40, 41, 42, 43, 44, 45, 46, 47, 48, 49, 50, 51, 52, 53, 54, 55, 56, 57, 58, 59, 60, 61, 62, 63, 64, 65, 66, 67, 68, 69, 70, 71, 72, 73, 74, 75, 76, 77, 78, 79, 80, 81, 82, 83, 84, 85, 86, 87, 88, 89, 90, 91, 92, 93, 94, 95, 96, 97, 98, 99, 100, 101, 102, 103, 104, 105, 106, 107, 108, 109, 110, 111, 112, 113, 114, 115, 116, 117, 118, 119, 120, 121, 122, 123, 124, 125, 126, 127, 128, 129, 130, 131, 132, 133, 134, 135, 136, 137, 138, 139, 140, 141, 142, 143, 144, 146, 147, 149, 152, 153, 154, 155, 156, 157, 158, 159, 160, 161, 162, 163, 164, 165, 166, 167, 168, 169, 170, 171, 172, 173, 174, 175, 176, 177, 178, 179, 180, 181, 182, 183, 184, 185, 186, 187, 188, 189, 190, 191, 192, 193, 194, 195, 196, 197, 198, 199, 200, 201, 202, 203, 204, 205, 206, 207, 208, 209, 210, 211, 212, 213, 214, 215, 216, 217, 218, 219, 220, 221, 222, 223, 224]
theorem vm_K10_ok : vm_frm (fun cj g => !(Nat.beq cj 7 && Nat.beq g 13)) true vm_K10 = true := by decide +kernel
def vm_K11 : List Nat := [5, 6, 10, 11, 12, 13, 14, 15, 16, 17, 18, 19, 20, 21, 22, 23, 24, 25, 26, 27, 28, 29, 30, 31, 32, 33, 34, 35, 36, 37, 38, 39, 40, 41, 42, 43, 44, 45, 46, 47, 48, 49, 50, 51, 52, 53, 54, 55, 56, 57, 58, 59, 60, 61, 62, 63, 64, 65, 66, 67, 68, 69, 70, 71, 72, 73, 74, 75, 76, 77, 78, 79, 80, 81, 82, 83, 84, 85, 86, 87, 88, 89, 90, 91, 92, 93, 94, 95, 96, 97, 98, 99, 100, 101, 102, 103, 104, 105, 106, 107, 108, 109, 110, 111, 112, 113, 114, 115, 116, 117, 118, 119, 120, 121, 122, 123, 124, 125, 126, 127, 128, 129, 130, 131, 132, 133, 134, 135, 136, 137, 138, 139, 140, 141, 142, 143, 144, 146, 147, 148, 149, 150, 153, 154, 156, 157, 158, 161, 164, 166, 167, 168, 169, 170, 171, 172, 173, 174, 175, 176, 177, 178, 179, 180, 181, 182, 183, 184, 185, 186, 187, 188, 189, 190, 191, 192, 193, 194, 195, 196, 197, 198, 199, 200, 201, 202, 203, 204, 205, 206, 207, 208, 209, 210, 211, 212, 213, 214, 215, 216, 217, 218, 219, 220, 221, 222, 223, 224]
theorem vm_K11_ok : vm_frm (fun cj g => !(Nat.beq cj 7 && Nat.beq g 14)) true vm_K11 = true := by decide +kernel
def vm_K12 : List Nat := [5, 6, 10, 11, 12, 13, 14, 15, 16, 17, 18, 19, 20, 21, 22, 23, 24, 25, 26, 27, 28, 29, 30, 31, 32, 33, 34, 35, 36, 37, 38, 39, 40, 41, 42, 43, 44, 45, 46, 47, 48, 49, 50, 51, 52, 53, 54, 55, 56, 57, 58, 59, 60, 61, 62, 63, 64, 65, 66, 67, 68, 69, 70, 71, 72, 73, 74, 75, 76, 77, 78, 79, 80, 81, 82, 83, 84, 85, 86, 87, 88, 89, 90, 91, 92, 93, 94, 95, 96, 97, 98, 99, 100, 101, 102, 103, 104, 105, 106, 107, 108, 109, 110, 111, 112, 113, 114, 115, 116, 117, 118, 119, 120, 121, 122, 123, 124, 125, 126, 127, 128, 129, 130, 131, 132, 133, 134, 135, 136, 137, 138, 139, 140, 141, 142, 143, 144, 146, 147, 148, 149, 150, 153, 154, 156, 157, 158, 161, 164, 166, 167, 168, 169, 170, 171, 172, 173, 174, 175, 176, 177, 178, 179, 180, 181, 182, 183, 184, 185, 186, 187, 188, 189, 190, 191, 192, 193, 194, 195, 196, 197, 198, 199, 200, 201, 202, 203, 204, 205, 206, 207, 208, 209, 210, 211, 212, 213, 214, 215, 216, 217, 218, 219, 220, 221, 222, 223, 224]
theorem vm_K12_ok : vm_frm (fun cj g => !(Nat.beq cj 7 && Nat.beq g 16)) true vm_K12 = true := by decide +kernel
def vm_K13 : List Nat := [5, 6, 10, 11, 12, 13, 14, 15, 16, 17, 18, 19, 20, 21, 22, 23, 24, 25, 26, 27, 28, 29, 30, 31, 32, 33, 34, 35, 36, 37, 38, 39, 40, 41, 42, 43, 44, 45, 46, 47, 48, 49, 50, 51, 52, 53, 54, 55, 56, 57, 58, 59, 60, 61, 62, 63, 64, 65, 66, 67, 68, 69, 70, 71, 72, 73, 74, 75, 76, 77, 78, 79, 80, 81, 82, 83, 84, 85, 86, 87, 88, 89, 90, 91, 92, 93, 94, 95, 96, 97, 98, 99, 100, 101, 102, 103, 104, 105, 106, 107, 108, 109, 110, 111, 112, 113, 114, 115, 116, 117, 118, 119, 120, 121, 122, 123, 124, 125, 126, 127, 128, 129, 130, 131, 132, 133, 134, 135, 136, 137, 138, 139, 140, 141, 142, 143, 144, 146, 147, 148, 149, 150, 153, 154, 156, 157, 158, 161, 164, 166, 167, 168, 169, 170, 171, 172, 173, 174, 175, 176, 177, 178, 179, 180, 181, 182, 183, 184, 185, 186, 187, 188, 189, 190, 191, 192, 193, 194, 195, 196, 197, 198, 199, 200, 201, 202, 203, 204, 205, 206, 207, 208, 209, 210, 211, 212, 213, 214, 215, 216, 217, 218, 219, 220, 221, 222, 223, 224]
theorem vm_K13_ok : vm_frm (fun cj g => !(Nat.beq cj 7 && Nat.beq g 17)) true vm_K13 = true := by decide +kernel
def vm_K14 : List Nat := [5, 6, 10, 11, 12, 13, 14, 15, 16, 17, 18, 19, 20, 21, 22, 23, 24, 25, 26, 27, 28, 29, 30, 31, 32, 33, 34, 35, 36, 37, 38, 39, 40, 41, 42, 43, 44, 45, 46, 47, 48, 49, 50, 51, 52, 53, 54, 55, 56, 57, 58, 59, 60, 61, 62, 63, 64, 65, 66, 67, 68, 69, 70, 71, 72, 73, 74, 75, 76, 77, 78, 79, 80, 81, 82, 83, 84, 85, 86, 87, 88, 89, 90, 91, 92, 93, 94, 95, 96, 97, 98, 99, 100, 101, 102, 103, 104, 105, 106, 107, 108, 109, 110, 111, 112, 113, 114, 115, 116, 117, 118, 119, 120, 121, 122, 123, 124, 125, 126, 127, 128, 129, 130, 131, 132, 133, 134, 135, 136, 137, 138, 139, 140, 141, 142, 143, 144, 146, 147, 148, 149, 150, 153, 156, 157, 158, 164, 166, 167, 168, 169, 170, 171, 172, 173, 174, 175, 176, 177, 178, 179, 180, 181, 182, 183, 184, 185, 186, 187, 188, 189, 190, 191, 192, 193, 194, 195, 196, 197, 198, 199, 200, 201, 202, 203, 204, 205, 206, 207, 208, 209, 210, 211, 212, 213, 214, 215, 216, 217, 218, 219, 220, 221, 222, 223, 224]
theorem vm_K14_ok : vm_frm (fun cj g => !(Nat.beq cj 7 && Nat.beq g 18)) true vm_K14 = true := by decide +kernel
def vm_K15 : List Nat := [5, 6, 10, 11, 12, 13, 14, 15, 16, 17, 18, 19, 20, 21, 22, 23, 24, 25, 26, 27, 28, 29, 30, 31, 32, 33, 34, 35, 36, 37, 38, 39, 40, 41, 42, 43, 44, 45, 46, 47, 48, 49, 50, 51, 52, 53, 54, 55, 56, 57, 58, 59, 60, 61, 62, 63, 64, 65, 66, 67, 68, 69, 70, 71, 72, 73, 74, 75, 76, 77, 78, 79, 80, 81, 82, 83, 84, 85, 86, 87, 88, 89, 90, 91, 92, 93, 94, 95, 96, 97, 98, 99, 100, 101, 102, 103, 104, 105, 106, 107, 108, 109, 110, 111, 112, 113, 114, 115, 116, 117, 118, 119, 120, 121, 122, 123, 124, 125, 126, 127, 128, 129, 130, 131, 132, 133, 134, 135, 136, 137, 138, 139, 140, 141, 142, 143, 144, 146, 147, 148, 149, 150, 151, 152, 153, 154, 155, 156, 157, 158, 159, 160, 161, 162, 163, 164, 165, 166, 167, 168, 169, 171, 173, 174, 175, 177, 178, 179, 181, 182, 184, 185, 186, 187, 189, 191, 192, 193, 194, 197, 202, 203, 204, 205, 211, 212, 213, 216, 217, 218, 219, 220, 221, 222, 223]
theorem vm_K15_ok : vm_frm (fun cj g => !(Nat.beq cj 7 && Nat.beq g 27)) true vm_K15 = true := by decide +kernel
def vm_kl (ci f : Nat) : List Nat := (match Nat.beq ci 2 && Nat.beq f 1 with
  | true => vm_K0
  | false => (match Nat.beq ci 3 && Nat.beq f 1 with
  | true => vm_K1
  | false => (match Nat.beq ci 3 && Nat.beq f 2 with
  | true => vm_K2
  | false => (match Nat.beq ci 4 && Nat.beq f 0 with
  | true => vm_K3
  | false => (match Nat.beq ci 4 && Nat.beq f 1 with
  | true => vm_K4
  | false => (match Nat.beq ci 4 && Nat.beq f 3 with
  | true => vm_K5
  | false => (match Nat.beq ci 7 && Nat.beq f 4 with
  | true => vm_K6
  | false => (match Nat.beq ci 7 && Nat.beq f 6 with
  | true => vm_K7
  | false => (match Nat.beq ci 7 && Nat.beq f 7 with
  | true => vm_K8
  | false => (match Nat.beq ci 7 && Nat.beq f 8 with
  | true => vm_K9
  | false => (match Nat.beq ci 7 && Nat.beq f 13 with
  | true => vm_K10
  | false => (match Nat.beq ci 7 && Nat.beq f 14 with
  | true => vm_K11
  | false => (match Nat.beq ci 7 && Nat.beq f 16 with
  | true => vm_K12
  | false => (match Nat.beq ci 7 && Nat.beq f 17 with
  | true => vm_K13
  | false => (match Nat.beq ci 7 && Nat.beq f 18 with
  | true => vm_K14
  | false => (match Nat.beq ci 7 && Nat.beq f 27 with
  | true => vm_K15
  | false => []))))))))))))))))
theorem vm_kl_ok {ci f M : Nat} (h : M ∈ vm_kl ci f) {xs : List Int32} {N d : Nat} {as : List Value} {hp : pm_H} {r : Option Value × pm_H} (hk : pm_big xs pm_m N d M as hp = some r) : vm_same ci f hp r.2 := by
  unfold vm_kl at h
  split at h
  · rename_i e
    rw [Bool.and_eq_true] at e
    rw [Nat.eq_of_beq_eq_true e.1, Nat.eq_of_beq_eq_true e.2]
    exact vm_kept vm_K0_ok h hk
  · split at h
    · rename_i e
      rw [Bool.and_eq_true] at e
      rw [Nat.eq_of_beq_eq_true e.1, Nat.eq_of_beq_eq_true e.2]
      exact vm_kept vm_K1_ok h hk
    · split at h
      · rename_i e
        rw [Bool.and_eq_true] at e
        rw [Nat.eq_of_beq_eq_true e.1, Nat.eq_of_beq_eq_true e.2]
        exact vm_kept vm_K2_ok h hk
      · split at h
        · rename_i e
          rw [Bool.and_eq_true] at e
          rw [Nat.eq_of_beq_eq_true e.1, Nat.eq_of_beq_eq_true e.2]
          exact vm_kept vm_K3_ok h hk
        · split at h
          · rename_i e
            rw [Bool.and_eq_true] at e
            rw [Nat.eq_of_beq_eq_true e.1, Nat.eq_of_beq_eq_true e.2]
            exact vm_kept vm_K4_ok h hk
          · split at h
            · rename_i e
              rw [Bool.and_eq_true] at e
              rw [Nat.eq_of_beq_eq_true e.1, Nat.eq_of_beq_eq_true e.2]
              exact vm_kept vm_K5_ok h hk
            · split at h
              · rename_i e
                rw [Bool.and_eq_true] at e
                rw [Nat.eq_of_beq_eq_true e.1, Nat.eq_of_beq_eq_true e.2]
                exact vm_kept vm_K6_ok h hk
              · split at h
                · rename_i e
                  rw [Bool.and_eq_true] at e
                  rw [Nat.eq_of_beq_eq_true e.1, Nat.eq_of_beq_eq_true e.2]
                  exact vm_kept vm_K7_ok h hk
                · split at h
                  · rename_i e
                    rw [Bool.and_eq_true] at e
                    rw [Nat.eq_of_beq_eq_true e.1, Nat.eq_of_beq_eq_true e.2]
                    exact vm_kept vm_K8_ok h hk
                  · split at h
                    · rename_i e
                      rw [Bool.and_eq_true] at e
                      rw [Nat.eq_of_beq_eq_true e.1, Nat.eq_of_beq_eq_true e.2]
                      exact vm_kept vm_K9_ok h hk
                    · split at h
                      · rename_i e
                        rw [Bool.and_eq_true] at e
                        rw [Nat.eq_of_beq_eq_true e.1, Nat.eq_of_beq_eq_true e.2]
                        exact vm_kept vm_K10_ok h hk
                      · split at h
                        · rename_i e
                          rw [Bool.and_eq_true] at e
                          rw [Nat.eq_of_beq_eq_true e.1, Nat.eq_of_beq_eq_true e.2]
                          exact vm_kept vm_K11_ok h hk
                        · split at h
                          · rename_i e
                            rw [Bool.and_eq_true] at e
                            rw [Nat.eq_of_beq_eq_true e.1, Nat.eq_of_beq_eq_true e.2]
                            exact vm_kept vm_K12_ok h hk
                          · split at h
                            · rename_i e
                              rw [Bool.and_eq_true] at e
                              rw [Nat.eq_of_beq_eq_true e.1, Nat.eq_of_beq_eq_true e.2]
                              exact vm_kept vm_K13_ok h hk
                            · split at h
                              · rename_i e
                                rw [Bool.and_eq_true] at e
                                rw [Nat.eq_of_beq_eq_true e.1, Nat.eq_of_beq_eq_true e.2]
                                exact vm_kept vm_K14_ok h hk
                              · split at h
                                · rename_i e
                                  rw [Bool.and_eq_true] at e
                                  rw [Nat.eq_of_beq_eq_true e.1, Nat.eq_of_beq_eq_true e.2]
                                  exact vm_kept vm_K15_ok h hk
                                · cases h
noncomputable def vm_kok (K : List vm_U) : Bool := vm_all (fun u => match u.2.1 with
  | true => vm_any (fun x => Nat.beq x u.1.1) vm_PUR
  | false => vm_all (fun p => vm_any (fun x => Nat.beq x u.1.1) (vm_kl p.1 p.2.2)) u.2.2) K
theorem vm_wts {L : Nat} {K : List vm_U} (h : ∀ u ∈ K, vm_at L u.1) (hk : vm_kok K = true) : ∀ u ∈ K, vm_wt L u := by
  intro u hu xs d hd cs hc h1 h2
  obtain ⟨r, hr, hp⟩ := h u hu xs d hd cs hc h1 h2
  have hq := vm_all_ok hk u hu
  refine ⟨r, hr, hp, ?_, ?_⟩
  · intro e
    rw [e] at hq
    obtain ⟨x, hx, e1⟩ := vm_any_ok hq
    exact vm_pure (by rw [← Nat.eq_of_beq_eq_true e1]; exact hx) hr
  · intro e p hp1
    rw [e] at hq
    obtain ⟨x, hx, e1⟩ := vm_any_ok (vm_all_ok hq p hp1)
    exact vm_kl_ok (by rw [← Nat.eq_of_beq_eq_true e1]; exact hx) hr
theorem vm_up {L L' : Nat} {q : vm_Q} (h : vm_at L q) (hL : Nat.ble L L' = true) : vm_at L' q := h.up (Nat.le_of_ble_eq_true hL)
