/-! ONE STEP, A FRAME, A CALL: the pure machine is sound. -/
def pm_rok (mm : pm_M) (i : Instr) (st : List Value) (h : pm_H) (r : Option Value × pm_H) : Prop := (i = .ireturn ∧ pm_ret mm st h = some r) ∨ (i = .lreturn ∧ pm_retl mm st h = some r) ∨ (i = .areturn ∧ pm_reta mm st h = some r) ∨ (i = .return_ ∧ pm_retv mm st h = some r)
section Sound
variable {p : Program} {l : Launch} {e : Env} {R : Room} {s : State} {m : MethodId} {args : Array Value} {below : List Frame} {meth : Method} {c0 : Code} {Q : State → Prop} {dC : Nat → ClassId} {dI : Nat → Nat → Nat} {aC : Nat → ClassId} {pre : Nat → Nat} {base : Nat} {xs : List Int32} {mm : pm_M} {k : pm_K} {r : Option Value × pm_H} {pc : Nat} {lv : pm_L} {st : List Value} {h : pm_H} {c sl : Nat} {tab : Nat → Option pm_M} {big : Nat → List Value → pm_H → pm_R}
set_option maxHeartbeats 4000000 in
theorem pm_step_ok (X : pm_X p R s m args meth c0 dC dI aC pre base xs mm) {ee : pm_E} (hD : pm_okD mm pc ee.1) (hL : pm_okL tab mm pc ee) (hbig : ∀ M2 m2 as h r, tab M2 = some m2 → big M2 as h = some r → pm_Met l dC dI aC pre base xs m2 as h r) (ih : pm_IH p l e R s m args below meth c0 Q dC dI aC pre base mm k r) (hret : ∀ i pc lv st h c sl, pm_rok mm i st h r → decode (pm_b mm) pc = .ok (i, 1) → pm_W p l e R s m args below meth c0 Q dC dI aC pre base mm pc lv st h c sl) (hk : pm_step xs tab big mm k ee pc lv st h c sl = some r) : pm_W p l e R s m args below meth c0 Q dC dI aC pre base mm pc lv st h c sl := by
  obtain ⟨i, a, b, z⟩ := ee
  cases i with
  | iconst => exact ps_iconst X hD ih hk
  | bipush => exact ps_bipush X hD ih hk
  | sipush => exact ps_sipush X hD ih hk
  | lconst => exact ps_lconst X hD ih hk
  | iload_n => exact ps_iload_n X hD ih hk
  | iload => exact ps_iload X hD ih hk
  | lload_n => exact ps_lload_n X hD ih hk
  | lload => exact ps_lload X hD ih hk
  | aload_n => exact ps_aload_n X hD ih hk
  | aload => exact ps_aload X hD ih hk
  | istore_n => exact ps_istore_n X hD ih hk
  | istore => exact ps_istore X hD ih hk
  | lstore_n => exact ps_lstore_n X hD ih hk
  | lstore => exact ps_lstore X hD ih hk
  | astore_n => exact ps_astore_n X hD ih hk
  | astore => exact ps_astore X hD ih hk
  | iinc => exact ps_iinc X hD ih hk
  | ldc2_w => exact ps_ldc2 X hL hD ih hk
  | ifCond => exact ps_ifCond X hL hD ih hk
  | if_icmp => exact ps_if_icmp X hL hD ih hk
  | goto => exact ps_goto X hL hD ih hk
  | getfield => exact ps_getf X hL hD ih hk
  | putfield => exact ps_putf X hL.1 hL.2 hD ih hk
  | iaload => exact ps_iald X hD ih hk
  | baload => exact ps_bald X hD ih hk
  | laload => exact ps_lald X hD ih hk
  | aaload => exact ps_aald X hD ih hk
  | iastore => exact ps_iast X hD ih hk
  | bastore => exact ps_bast X hD ih hk
  | lastore => exact ps_last X hD ih hk
  | aastore => exact ps_aast X hD ih hk
  | arraylength => exact ps_alen X hD ih hk
  | new => exact ps_new X hL hD ih hk
  | newarray => exact ps_newa X hD ih hk
  | ireturn => exact hret .ireturn _ _ _ _ _ _ (Or.inl ⟨rfl, hk⟩) hD
  | lreturn => exact hret .lreturn _ _ _ _ _ _ (Or.inr (Or.inl ⟨rfl, hk⟩)) hD
  | areturn => exact hret .areturn _ _ _ _ _ _ (Or.inr (Or.inr (Or.inl ⟨rfl, hk⟩))) hD
  | return_ => exact hret .return_ _ _ _ _ _ _ (Or.inr (Or.inr (Or.inr ⟨rfl, hk⟩))) hD
  | iadd => exact ps_iadd X hD ih hk
  | isub => exact ps_isub X hD ih hk
  | imul => exact ps_imul X hD ih hk
  | iand => exact ps_iand X hD ih hk
  | ior => exact ps_ior X hD ih hk
  | ixor => exact ps_ixor X hD ih hk
  | ishl => exact ps_ishl X hD ih hk
  | ishr => exact ps_ishr X hD ih hk
  | iushr => exact ps_iushr X hD ih hk
  | idiv => exact ps_idiv X hD ih hk
  | irem => exact ps_irem X hD ih hk
  | ladd => exact ps_ladd X hD ih hk
  | lmul => exact ps_lmul X hD ih hk
  | ldiv => exact ps_ldiv X hD ih hk
  | lrem => exact ps_lrem X hD ih hk
  | ineg => exact ps_ineg X hD ih hk
  | i2b => exact ps_i2b X hD ih hk
  | i2s => exact ps_i2s X hD ih hk
  | i2l => exact ps_i2l X hD ih hk
  | lcmp => exact ps_lcmp X hD ih hk
  | dup => exact ps_dup X hD ih hk
  | dup2 => exact ps_dup2 X hD ih hk
  | pop => exact ps_pop X hD ih hk
  | pop2 => exact ps_pop2 X hD ih hk
  | ldc ix =>
    by_cases ha : a = 0
    · exact ps_ldc X (hL.1 ha) hD ih ((if_pos ha).symm.trans hk)
    · have hk2 := (if_neg ha).symm.trans hk
      by_cases h1 : a = 1
      · exact ps_ldcs X (hL.2 h1) hD ih ((if_pos h1).symm.trans hk2)
      · exact absurd ((if_neg h1).symm.trans hk2) (fun q => by cases q)
  | ldc_w ix =>
    by_cases ha : a = 0
    · exact ps_ldc_w X (hL ha) hD ih ((if_pos ha).symm.trans hk)
    · exact absurd ((if_neg ha).symm.trans hk) (fun q => by cases q)
  | tableswitch d lo hi offs =>
    obtain ⟨len, hD⟩ := hD
    exact ps_tsw X hD ih hk
  | anewarray ix =>
    rcases hL.1 with ha | ha
    · have ha : a = 4 := ha
      subst ha
      exact ps_anew (t := 4) (C := "MoodTown$Town") X ⟨rfl, hL.2, Or.inl rfl⟩ hD ih hk
    · have ha : a = 5 := ha
      subst ha
      exact ps_anew (t := 5) (C := "MoodTown$Sheet") X ⟨rfl, hL.2, Or.inr rfl⟩ hD ih hk
  | invokevirtual ix =>
    by_cases hb : b = 0
    · have hk1 : pm_inv k tab big mm a pc lv st h c sl = some r := (if_pos hb).symm.trans hk
      cases ht : tab a with
      | none => unfold pm_inv at hk1; rw [ht] at hk1; cases hk1
      | some m2 => exact ps_inv0 X ht (fun as h r q => hbig _ _ _ _ _ ht q) (hL.1 hb m2 ht) hD ih hk1
    · have hk2 := (if_neg hb).symm.trans hk
      by_cases hb4 : b = 4
      · exact ps_slen X (hL.2.1 hb4) hD ih ((if_pos hb4).symm.trans hk2)
      · have hk3 := (if_neg hb4).symm.trans hk2
        by_cases hb5 : b = 5
        · exact ps_sch X (hL.2.2 hb5) hD ih ((if_pos hb5).symm.trans hk3)
        · exact absurd ((if_neg hb5).symm.trans hk3) (fun q => by cases q)
  | invokespecial ix =>
    by_cases hb : b = 1
    · have hk1 : pm_inv k tab big mm a pc lv st h c sl = some r := (if_pos hb).symm.trans hk
      cases ht : tab a with
      | none => unfold pm_inv at hk1; rw [ht] at hk1; cases hk1
      | some m2 => exact ps_inv1 X ht (fun as h r q => hbig _ _ _ _ _ ht q) (hL.1 hb m2 ht) hD ih hk1
    · have hk2 := (if_neg hb).symm.trans hk
      by_cases hb9 : b = 9
      · exact ps_obj X (hL.2 hb9) hD ih ((if_pos hb9).symm.trans hk2)
      · exact absurd ((if_neg hb9).symm.trans hk2) (fun q => by cases q)
  | invokestatic ix =>
    by_cases hb : b = 8
    · exact ps_copy X (hL.1 hb) hD ih ((if_pos hb).symm.trans hk)
    · have hk2 := (if_neg hb).symm.trans hk
      by_cases hb2 : b = 2 ∨ b = 3
      · have hk1 : pm_ins k tab big mm a pc lv st h c sl = some r := (if_pos hb2).symm.trans hk2
        cases ht : tab a with
        | none => unfold pm_ins at hk1; rw [ht] at hk1; cases hk1
        | some m2 =>
          rcases hb2 with hb2 | hb2
          · exact ps_ins2 X ht (fun as h r q => hbig _ _ _ _ _ ht q) (hL.2.1 hb2 m2 ht) hD ih hk1
          · exact ps_ins3 X ht (fun as h r q => hbig _ _ _ _ _ ht q) (hL.2.2 hb2 m2 ht) hD ih hk1
      · exact absurd ((if_neg hb2).symm.trans hk2) (fun q => by cases q)
  | _ => exact absurd (show (none : pm_R) = some r from hk) (fun q => by cases q)
theorem pm_run_ok (X : pm_X p R s m args meth c0 dC dI aC pre base xs mm) (hok : ∀ pc ee, pm_at mm pc = some ee → pm_okD mm pc ee.1 ∧ pm_okL tab mm pc ee) (hbig : ∀ M2 m2 as h r, tab M2 = some m2 → big M2 as h = some r → pm_Met l dC dI aC pre base xs m2 as h r) (hret : ∀ i pc lv st h c sl, pm_rok mm i st h r → decode (pm_b mm) pc = .ok (i, 1) → pm_W p l e R s m args below meth c0 Q dC dI aC pre base mm pc lv st h c sl) : ∀ n, pm_IH p l e R s m args below meth c0 Q dC dI aC pre base mm (pm_run xs tab big mm n) r := by
  intro n
  induction n with
  | zero => intro pc lv st h c sl hk; cases hk
  | succ n ih =>
    intro pc lv st h c sl hk
    have hk1 : pm_next xs tab big mm (pm_run xs tab big mm n) pc lv st h c sl = some r := hk
    unfold pm_next at hk1
    split at hk1
    · rename_i ee he
      exact pm_step_ok X (hok _ _ he).1 (hok _ _ he).2 hbig ih hret hk1
    · cases hk1
end Sound
theorem pm_args (pre : Nat → Nat) (base : Nat) : ∀ (as : List Value) (i : Nat), lv_args i (as.map (pm_rv pre base)) = (lv_args i as).map (pm_lv pre base)
  | [], _ => rfl
  | v :: as, i => by
    show (i, pm_rv pre base v) :: lv_args (if (pm_rv pre base v).category = 2 then i + 2 else i + 1) (as.map (pm_rv pre base)) = _
    rw [pm_cat, pm_args pre base as]
    rfl
theorem pm_sl (pre : Nat → Nat) (base : Nat) : ∀ (as : List Value), (lg_sl (as.map (pm_rv pre base))).length = pm_words as
  | [] => rfl
  | v :: as => by
    have ih := pm_sl pre base as
    unfold lg_sl at ih ⊢
    rw [List.map_cons, List.flatMap_cons, List.length_append, ih, pm_cat]
    unfold pm_words
    rw [List.map_cons, List.sum_cons]
    congr 1
    cases v <;> rfl
/-- what is asked of the table of methods -/
def pm_tabok (tab : Nat → Option pm_M) : Prop := ∀ M mm, tab M = some mm → plainFor (pm_y mm) = true ∧ kN (pm_o mm) = (pm_y mm).cls ∧ ∀ pc ee, pm_at mm pc = some ee → pm_okD mm pc ee.1 ∧ pm_okL tab mm pc ee
set_option maxHeartbeats 4000000 in
theorem pm_big_ok (l : Launch) (dC : Nat → ClassId) (dI : Nat → Nat → Nat) (aC : Nat → ClassId) (pre : Nat → Nat) (base : Nat) (xs : List Int32) {tab : Nat → Option pm_M} (htab : pm_tabok tab) (N : Nat) : ∀ (d M : Nat) (mm : pm_M) (as : List Value) (h : pm_H) (r : Option Value × pm_H), tab M = some mm → pm_big xs tab N d M as h = some r → pm_Met l dC dI aC pre base xs mm as h r := by
  intro d
  induction d with
  | zero => intro M mm as h r _ hk; cases hk
  | succ d ih =>
    intro M mm as h r hM hk
    obtain ⟨hplain, hown0, hok⟩ := htab M mm hM
    have hk1 : (match tab M with
      | some mm => if pm_words as ≤ pm_ml mm then (if as.length = pm_n mm then pm_run xs tab (pm_big xs tab N d) mm N 0 (lv_args 0 as) [] h 0 0 else none) else none
      | none => none) = some r := hk
    rw [hM] at hk1
    dsimp only at hk1
    split at hk1
    · rename_i hw
      split at hk1
      · refine va_MetF (cc := pm_b mm) (maxL := pm_ml mm) (ret := pm_rt mm) hplain rfl ?_
        intro p e s m args below meth c0 s₁ B hml hv
        obtain ⟨rfl, hP, hz, hK, hX, hN, hb0⟩ := hv
        have hr := B.returns
        have hlocks := B.notSynchronized
        have hts := atoms_spec (ws := pm_ws mm) B.pre
        have hown : s.vm.findClass (kN (pm_o mm)) = some m.cls := by rw [hown0]; exact findClass_of_methodNamed B.named
        have X : pm_X p (pm_rm mm) s m (as.map (pm_rv pre base)).toArray meth c0 dC dI aC pre base xs mm := ⟨B.exec, B.bytes, hml, hown, fun w hw => hts w (List.mem_cons_of_mem _ hw), fun hi => (name_of_methodNamed B.named B.method).1.trans hi, hK, hX, hb0, by omega, hN, rfl⟩
        have hret : ∀ i pc lv st h c sl, pm_rok mm i st h r → decode (pm_b mm) pc = .ok (i, 1) → pm_W p l e (pm_rm mm) s m (as.map (pm_rv pre base)).toArray below meth c0 (MQ below (pm_Qc dC dI aC pre base r) (as.map (pm_rv pre base)).toArray s (pm_c mm) (pm_s mm) (fun q => base ≤ q)) dC dI aC pre base mm pc lv st h c sl := by
          intro i pc lv st h c sl hro hd H locs ls hc hs hl hP hz hS
          refine W.widen hc hs ?_
          rcases hro with ⟨rfl, hro⟩ | ⟨rfl, hro⟩ | ⟨rfl, hro⟩ | ⟨rfl, hro⟩
          · unfold pm_ret at hro
            split at hro
            · rename_i v ty hty
              split at hro
              · rename_i hfit
                cases hro
                exact W.zret B.exec B.bytes (hr.trans hty) (pm_fit_ok (pre := pre) (base := base) hfit).1 (fun t ht hW => ⟨rfl, ⟨by rw [ht]; exact hP, by rw [ht]; exact hz⟩, hS.F ht⟩) hS.2.2 hd
              · cases hro
            · cases hro
          · unfold pm_retl at hro
            split at hro
            · rename_i v hty
              cases hro
              exact W.lret B.exec B.bytes (hr.trans hty) (fun t ht hW => ⟨rfl, ⟨by rw [ht]; exact hP, by rw [ht]; exact hz⟩, hS.F ht⟩) hS.2.2 hd
            · cases hro
          · unfold pm_reta at hro
            split at hro
            · rename_i v nm hty
              cases hro
              exact W.aret B.exec B.bytes (hr.trans hty) (Or.inl ⟨_, rfl⟩) (Or.inr ⟨_, rfl⟩) (fun t ht hW => ⟨rfl, ⟨by rw [ht]; exact hP, by rw [ht]; exact hz⟩, hS.F ht⟩) hS.2.2 hd
            · cases hro
          · unfold pm_retv at hro
            split at hro
            · rename_i hty
              cases hro
              exact W.vret B.exec B.bytes (hr.trans hty) (fun t ht hW => ⟨rfl, ⟨by rw [ht]; exact hP, by rw [ht]; exact hz⟩, hS.F ht⟩) hS.2.2 hd
            · cases hro
        have hl := lv_entry (as.map (pm_rv pre base)) (n := pm_ml mm) (by rw [pm_sl]; exact hw)
        rw [lg_entry_eq]
        rw [pm_args] at hl
        exact pm_run_ok X hok (fun M2 m2 as h r ht hb => ih M2 m2 as h r ht hb) hret N _ _ _ _ _ _ hk1 s.heap [] _ (Nat.zero_le _) (Nat.zero_le _) hl hP hz va_S.rf
      · cases hk1
    · cases hk1
