/-! each step of a block is that of the interval machine -/
section Ops
variable {mm : pm_M} {p a b : Nat} {z : Int}
theorem fs_iload_n {i : Fin 4} (he : pm_at mm p = some (.iload_n i, a, b, z)) : vm_sok mm p (p + 1) (fun _ K => fq_ldi i K) := ⟨_, he, fun _ K lv st h c sl _ hk => (fe_ldi (p + 1) i K lv st h c sl).symm.trans hk⟩
theorem fs_iload {i : Nat} (he : pm_at mm p = some (.iload i, a, b, z)) : vm_sok mm p (p + 2) (fun _ K => fq_ldi i K) := ⟨_, he, fun _ K lv st h c sl _ hk => (fe_ldi (p + 2) i K lv st h c sl).symm.trans hk⟩
theorem fs_aload_n {i : Fin 4} (he : pm_at mm p = some (.aload_n i, a, b, z)) : vm_sok mm p (p + 1) (fun _ K => fq_lda i K) := ⟨_, he, fun _ K lv st h c sl _ hk => (fe_lda (p + 1) i K lv st h c sl).symm.trans hk⟩
theorem fs_aload {i : Nat} (he : pm_at mm p = some (.aload i, a, b, z)) : vm_sok mm p (p + 2) (fun _ K => fq_lda i K) := ⟨_, he, fun _ K lv st h c sl _ hk => (fe_lda (p + 2) i K lv st h c sl).symm.trans hk⟩
theorem fs_iconst {n : Int} {v : am_I} (he : pm_at mm p = some (.iconst n, a, b, z)) (hv : v = ((Int32.ofInt n).toInt, (Int32.ofInt n).toInt)) : vm_sok mm p (p + 1) (fun _ K => fq_cst (.inl v) K) := by
  subst hv
  exact ⟨_, he, fun _ K lv st h c sl _ hk => (fe_cst (p + 1) _ K lv st h c sl).symm.trans hk⟩
theorem fs_bipush {n : Int} {v : am_I} (he : pm_at mm p = some (.bipush n, a, b, z)) (hv : v = ((Int8.ofInt n).toInt32.toInt, (Int8.ofInt n).toInt32.toInt)) : vm_sok mm p (p + 2) (fun _ K => fq_cst (.inl v) K) := by
  subst hv
  exact ⟨_, he, fun _ K lv st h c sl _ hk => (fe_cst (p + 2) _ K lv st h c sl).symm.trans hk⟩
theorem fs_sipush {n : Int} {v : am_I} (he : pm_at mm p = some (.sipush n, a, b, z)) (hv : v = ((Int16.ofInt n).toInt32.toInt, (Int16.ofInt n).toInt32.toInt)) : vm_sok mm p (p + 3) (fun _ K => fq_cst (.inl v) K) := by
  subst hv
  exact ⟨_, he, fun _ K lv st h c sl _ hk => (fe_cst (p + 3) _ K lv st h c sl).symm.trans hk⟩
theorem fs_ldc {ix : Nat} {v : am_I} (he : pm_at mm p = some (.ldc ix, 0, b, z)) (hv : v = ((Int32.ofInt z).toInt, (Int32.ofInt z).toInt)) : vm_sok mm p (p + 2) (fun _ K => fq_cst (.inl v) K) := by
  subst hv
  refine ⟨_, he, fun _ K lv st h c sl R hk => ?_⟩
  show (if (0 : Nat) = 0 then vm_gd (p + 2) K (p + 2) lv (.inl ((Int32.ofInt z).toInt, (Int32.ofInt z).toInt) :: st) h c sl else none) = some R
  rw [if_pos rfl]
  exact (fe_cst (p + 2) _ K lv st h c sl).symm.trans hk
theorem fs_lconst {n : Fin 2} {v : am_I} (he : pm_at mm p = some (.lconst n, a, b, z)) (hv : v = ((Int64.ofNat n).toInt, (Int64.ofNat n).toInt)) : vm_sok mm p (p + 1) (fun _ K => fq_cst (.inr (.inl v)) K) := by
  subst hv
  exact ⟨_, he, fun _ K lv st h c sl _ hk => (fe_cst (p + 1) _ K lv st h c sl).symm.trans hk⟩
theorem fs_ldc2_w {ix : Nat} {v : am_I} (he : pm_at mm p = some (.ldc2_w ix, a, b, z)) (hv : v = ((Int64.ofInt z).toInt, (Int64.ofInt z).toInt)) : vm_sok mm p (p + 3) (fun _ K => fq_cst (.inr (.inl v)) K) := by
  subst hv
  exact ⟨_, he, fun _ K lv st h c sl _ hk => (fe_cst (p + 3) _ K lv st h c sl).symm.trans hk⟩
theorem fs_istore_n {i : Fin 4} (he : pm_at mm p = some (.istore_n i, 0, b, z)) (hi : Nat.ble (i + 1) (pm_ml mm) = true) : vm_sok mm p (p + 1) (fun _ K => fq_sti i K) := by
  refine ⟨_, he, fun _ K lv st h c sl R hk => ?_⟩
  show (if (0 : Nat) = 1 then aq_stp (vm_gd (p + 1) K) (pm_ml mm) i (p + 1) lv st h c sl else aq_sti (vm_gd (p + 1) K) (pm_ml mm) i (p + 1) lv st h c sl) = some R
  rw [if_neg (by omega)]
  exact (fe_sti (p + 1) i _ hi K lv st h c sl).symm.trans hk
theorem fs_istore {i : Nat} (he : pm_at mm p = some (.istore i, 0, b, z)) (hi : Nat.ble (i + 1) (pm_ml mm) = true) : vm_sok mm p (p + 2) (fun _ K => fq_sti i K) := by
  refine ⟨_, he, fun _ K lv st h c sl R hk => ?_⟩
  show (if (0 : Nat) = 1 then aq_stp (vm_gd (p + 2) K) (pm_ml mm) i (p + 2) lv st h c sl else aq_sti (vm_gd (p + 2) K) (pm_ml mm) i (p + 2) lv st h c sl) = some R
  rw [if_neg (by omega)]
  exact (fe_sti (p + 2) i _ hi K lv st h c sl).symm.trans hk
theorem fs_astore_n {i : Fin 4} (he : pm_at mm p = some (.astore_n i, a, b, z)) (hi : Nat.ble (i + 1) (pm_ml mm) = true) : vm_sok mm p (p + 1) (fun _ K => fq_sta i K) := ⟨_, he, fun _ K lv st h c sl _ hk => (fe_sta (p + 1) i _ hi K lv st h c sl).symm.trans hk⟩
theorem fs_astore {i : Nat} (he : pm_at mm p = some (.astore i, a, b, z)) (hi : Nat.ble (i + 1) (pm_ml mm) = true) : vm_sok mm p (p + 2) (fun _ K => fq_sta i K) := ⟨_, he, fun _ K lv st h c sl _ hk => (fe_sta (p + 2) i _ hi K lv st h c sl).symm.trans hk⟩
theorem fs_iinc {i : Nat} {n : Int} {v : am_I} (he : pm_at mm p = some (.iinc i n, a, b, z)) (hv : v = ((Int32.ofInt n).toInt, (Int32.ofInt n).toInt)) (hi : Nat.ble (i + 1) (pm_ml mm) = true) : vm_sok mm p (p + 3) (fun _ K => fq_iinc i v K) := ⟨_, he, fun _ K lv st h c sl _ hk => (fe_iinc p i _ n v hv hi K lv st h c sl).symm.trans hk⟩
theorem fs_iadd (he : pm_at mm p = some (.iadd, a, b, z)) : vm_sok mm p (p + 1) (fun _ K => fq_bi fm_add K) := ⟨_, he, fun _ K lv st h c sl _ hk => (fe_bi p fm_add_eq K lv st h c sl).symm.trans hk⟩
theorem fs_isub (he : pm_at mm p = some (.isub, a, b, z)) : vm_sok mm p (p + 1) (fun _ K => fq_bi fm_sub K) := ⟨_, he, fun _ K lv st h c sl _ hk => (fe_bi p fm_sub_eq K lv st h c sl).symm.trans hk⟩
theorem fs_imul (he : pm_at mm p = some (.imul, a, b, z)) : vm_sok mm p (p + 1) (fun _ K => fq_bi am_mul K) := ⟨_, he, fun _ K lv st h c sl _ hk => (fe_bi p rfl K lv st h c sl).symm.trans hk⟩
theorem fs_iand (he : pm_at mm p = some (.iand, a, b, z)) : vm_sok mm p (p + 1) (fun _ K => fq_bi am_and K) := ⟨_, he, fun _ K lv st h c sl _ hk => (fe_bi p rfl K lv st h c sl).symm.trans hk⟩
theorem fs_i2l (he : pm_at mm p = some (.i2l, a, b, z)) : vm_sok mm p (p + 1) (fun _ K => fq_i2l K) := ⟨_, he, fun _ K lv st h c sl _ hk => (fe_i2l p K lv st h c sl).symm.trans hk⟩
theorem fs_dup (he : pm_at mm p = some (.dup, a, b, z)) : vm_sok mm p (p + 1) (fun _ K => fq_dup K) := ⟨_, he, fun _ K lv st h c sl _ hk => (fe_dup p K lv st h c sl).symm.trans hk⟩
theorem fs_getfield {ix : Nat} (he : pm_at mm p = some (.getfield ix, a, b, z)) : vm_sok mm p (p + 3) (fun _ K => fq_getf a b K) := ⟨_, he, fun _ K lv st h c sl _ hk => (fe_getf p a b K lv st h c sl).symm.trans hk⟩
theorem fs_putfield {ix : Nat} {ty : FieldType} (he : pm_at mm p = some (.putfield ix, a, b, z)) (ht : ty = kY a b) : vm_sok mm p (p + 3) (fun _ K => fq_putf a b ty K) := ⟨_, he, fun _ K lv st h c sl _ hk => (fe_putf p a b ht K lv st h c sl).symm.trans hk⟩
theorem fs_iaload (he : pm_at mm p = some (.iaload, a, b, z)) : vm_sok mm p (p + 1) (fun _ K => fq_iald K) := ⟨_, he, fun _ K lv st h c sl _ hk => (fe_iald p K lv st h c sl).symm.trans hk⟩
theorem fs_iastore (he : pm_at mm p = some (.iastore, a, b, z)) : vm_sok mm p (p + 1) (fun _ K => fq_iast K) := ⟨_, he, fun _ K lv st h c sl _ hk => (fe_iast p K lv st h c sl).symm.trans hk⟩
def fq_slow (mm : pm_M) (e : pm_E) (p q : Nat) (ba : am_B) (K : am_D) : am_D := fun lv st h c sl => am_step none pm_m ba mm (vm_gd q K) e p lv st h c sl
theorem fs_slow {q : Nat} {e : pm_E} (he : pm_at mm p = some e) : vm_sok mm p q (fun ba K => fq_slow mm e p q ba K) := ⟨_, he, fun _ _ _ _ _ _ _ _ hk => hk⟩
def fq_jslow (mm : pm_M) (e : pm_E) (p : Nat) (ba : am_B) (k : am_K) : am_D := fun lv st h c sl => am_step none pm_m ba mm k e p lv st h c sl
theorem fj_slow {e : pm_E} (he : pm_at mm p = some e) : vm_eok mm p (fun ba k => fq_jslow mm e p ba k) := ⟨_, he, fun _ _ _ _ _ _ _ _ hk => hk⟩
def fq_goto (t : Nat) (k : am_K) : am_D := fun lv st h c sl => k t lv st h c sl
theorem fj_goto {off : Int} (he : pm_at mm p = some (.goto off, a, b, z)) : vm_eok mm p (fun _ k => fq_goto a k) := ⟨_, he, fun _ _ _ _ _ _ _ _ hk => hk⟩
def fm_gt (a b : am_I) : Option Bool := fm_lt b a
def fm_ne (a b : am_I) : Option Bool := fm_not (fm_eq a b)
theorem fj_icmp {f : am_I → am_I → Option Bool} {cd : ClassFile.Cond} {off : Int} (he : pm_at mm p = some (.if_icmp cd off, a, b, z)) (hf : f = fm_dec cd) : vm_eok mm p (fun _ k => fq_ic f a (p + 3) k) := ⟨_, he, fun _ _ _ _ _ _ _ _ hk => fo_ic hf hk⟩
theorem fj_if {f : am_I → am_I → Option Bool} {cd : ClassFile.Cond} {off : Int} (he : pm_at mm p = some (.ifCond cd off, a, b, z)) (hf : f = fm_dec cd) : vm_eok mm p (fun _ k => fq_if f a (p + 3) k) := ⟨_, he, fun _ _ _ _ _ _ _ _ hk => fo_ic hf hk⟩
def fr_int (ty : FieldType) (st : List am_V) (h : am_H) : am_R := match st with
  | [.inl v] => (match am_fit ty (.inl v) with
    | true => some (some (.inl v), h)
    | false => none)
  | _ => none
theorem fr_int_ok {ty : FieldType} (he : pm_at mm p = some (.ireturn, a, b, z)) (ht : pm_rt mm = some ty) : vm_yok mm p (.inl (fr_int ty)) := by
  refine ⟨_, he, fun st h R hk => ?_⟩
  unfold fr_int at hk
  split at hk
  · rename_i v
    show aq_ret mm [.inl v] h = some R
    unfold aq_ret
    rw [ht]
    exact hk
  · cases hk
def fr_void (st : List am_V) (h : am_H) : am_R := match st with
  | [] => some (none, h)
  | _ => none
theorem fr_void_ok (he : pm_at mm p = some (.return_, a, b, z)) (ht : pm_rt mm = none) : vm_yok mm p (.inl fr_void) := by
  refine ⟨_, he, fun st h R hk => ?_⟩
  unfold fr_void at hk
  split at hk
  · show aq_retv mm [] h = some R
    unfold aq_retv
    rw [ht]
    exact hk
  · cases hk
def fr_slow (mm : pm_M) (i : Instr) (st : List am_V) (h : am_H) : am_R := vm_ret i mm st h
theorem fr_slow_ok {i : Instr} (he : pm_at mm p = some (i, a, b, z)) : vm_yok mm p (.inl (fr_slow mm i)) := ⟨_, he, fun _ _ _ hk => hk⟩
theorem fy_blk {n : Nat} {G : vm_G} (h : vm_bok mm p n G) (hn : Nat.ble n 64 = true) : vm_yok mm p (.inr (n, G)) := ⟨Nat.le_of_ble_eq_true hn, h⟩
theorem ft_n : vm_tok mm [] := fun _ h => by cases h
theorem ft_c {l : List (Nat × vm_Y)} {T : vm_T} (h : ∀ q ∈ l, vm_yok mm q.1 q.2) (hT : vm_tok mm T) : vm_tok mm (l :: T) := fun m hm => by
  rcases List.mem_cons.mp hm with rfl | hm
  · exact h
  · exact hT m hm
theorem fl_n : ∀ q ∈ ([] : List (Nat × vm_Y)), vm_yok mm q.1 q.2 := fun _ h => by cases h
theorem fl_c {y : vm_Y} {l : List (Nat × vm_Y)} (h : vm_yok mm p y) (hl : ∀ q ∈ l, vm_yok mm q.1 q.2) : ∀ q ∈ (p, y) :: l, vm_yok mm q.1 q.2 := fun q hq => by
  rcases List.mem_cons.mp hq with rfl | hq
  · exact h
  · exact hl q hq
end Ops
