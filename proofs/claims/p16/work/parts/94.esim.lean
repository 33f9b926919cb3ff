/-! THE INTERVAL MACHINE is sound: a step, a frame, a call of any depth. -/
section SimStep
variable {Pr : Option am_V × am_H → Option Value × pm_H → Prop} {ka : am_K} {kc : pm_K} {pc : Nat} {lva : am_L} {sta : List am_V} {ha : am_H} {c sl : Nat} {R : Option am_V × am_H} {lv : pm_L} {st : List Value} {h : pm_H} {xa : Option (List am_I)} {xs : List Int32} {tab : Nat → Option pm_M} {ba : am_B} {bc : Nat → List Value → pm_H → pm_R} {mm : pm_M}
set_option maxHeartbeats 4000000 in
theorem at_step (hxs : ∀ l, xa = some l → am_all am_i l xs) (ih : am_S Pr ka kc) (hPr : ∀ R r, am_r R r → Pr R r) (hbig : ∀ M2 as h Rs, ba M2 as h = some Rs → ∀ cs hc, am_all am_v as cs → am_h h hc → ∃ r, bc M2 cs hc = some r ∧ ∃ Ra ∈ Rs, am_r Ra r) {ee : pm_E} (hk : am_step xa tab ba mm ka ee pc lva sta ha c sl = some R) (hl : am_all am_q lva lv) (hs : am_all am_v sta st) (hh : am_h ha h) : ∃ r, pm_step xs tab bc mm kc ee pc lv st h c sl = some r ∧ Pr R r := by
  obtain ⟨i, a, b, z⟩ := ee
  cases i with
  | iconst n => exact ih _ _ _ _ _ _ _ hk _ _ _ hl ⟨am_i.sg _, hs⟩ hh
  | bipush n => exact ih _ _ _ _ _ _ _ hk _ _ _ hl ⟨am_i.sg _, hs⟩ hh
  | sipush n => exact ih _ _ _ _ _ _ _ hk _ _ _ hl ⟨am_i.sg _, hs⟩ hh
  | lconst n => exact ih _ _ _ _ _ _ _ hk _ _ _ hl ⟨am_l.sg _, hs⟩ hh
  | ldc2_w ix => exact ih _ _ _ _ _ _ _ hk _ _ _ hl ⟨am_l.sg _, hs⟩ hh
  | goto off => exact ih _ _ _ _ _ _ _ hk _ _ _ hl hs hh
  | iload_n i => exact at_ldi ih hk hl hs hh
  | iload i => exact at_ldi ih hk hl hs hh
  | lload_n i => exact at_ldl ih hk hl hs hh
  | lstore_n i => exact at_stl ih hk hl hs hh
  | lload i => exact at_ldl ih hk hl hs hh
  | lstore i => exact at_stl ih hk hl hs hh
  | aload_n i => exact at_lda ih hk hl hs hh
  | astore_n i => exact at_sta ih hk hl hs hh
  | aload i => exact at_lda ih hk hl hs hh
  | astore i => exact at_sta ih hk hl hs hh
  | iinc i n => exact at_iinc ih hk hl hs hh
  | imul => exact at_bi ih (f := fun x y => x * y) (fun _ _ _ _ hx hy => am_mul_ok hx hy) hk hl hs hh
  | ior => exact at_bi ih (fa := am_b (fun x y => x ||| y)) (f := fun x y => x ||| y) (fun _ _ _ _ hx hy => am_b_ok (fun x y => x ||| y) hx hy) hk hl hs hh
  | ixor => exact at_bi ih (fa := am_b (fun x y => x ^^^ y)) (f := fun x y => x ^^^ y) (fun _ _ _ _ hx hy => am_b_ok (fun x y => x ^^^ y) hx hy) hk hl hs hh
  | ishl => exact at_bi ih (fa := am_b (fun x y => x <<< (y &&& 31))) (f := fun x y => x <<< (y &&& 31)) (fun _ _ _ _ hx hy => am_b_ok (fun x y => x <<< (y &&& 31)) hx hy) hk hl hs hh
  | ishr => exact at_bi ih (fa := am_b (fun x y => x >>> (y &&& 31))) (f := fun x y => x >>> (y &&& 31)) (fun _ _ _ _ hx hy => am_b_ok (fun x y => x >>> (y &&& 31)) hx hy) hk hl hs hh
  | iushr => exact at_bi ih (fa := am_b (fun x y => (x.toUInt32 >>> (y.toUInt32 &&& Int32.toUInt32 31)).toInt32)) (f := fun x y => (x.toUInt32 >>> (y.toUInt32 &&& Int32.toUInt32 31)).toInt32) (fun _ _ _ _ hx hy => am_b_ok (fun x y => (x.toUInt32 >>> (y.toUInt32 &&& Int32.toUInt32 31)).toInt32) hx hy) hk hl hs hh
  | iadd => exact at_bi ih (f := fun x y => x + y) (fun _ _ _ _ hx hy => am_add_ok hx hy) hk hl hs hh
  | isub => exact at_bi ih (f := fun x y => x - y) (fun _ _ _ _ hx hy => am_sub_ok hx hy) hk hl hs hh
  | iand => exact at_bi ih (f := fun x y => x &&& y) (fun _ _ _ _ hx hy => am_and_ok hx hy) hk hl hs hh
  | idiv => exact at_bz ih (f := fun x y => x / y) (fun _ _ _ _ hx hy => am_div_ok hx hy) hk hl hs hh
  | irem => exact at_bz ih (f := fun x y => x - x / y * y) (fun _ _ _ _ hx hy => am_rem_ok hx hy) hk hl hs hh
  | ladd => exact at_bll ih (fun _ _ _ _ => am_addl_ok) hk hl hs hh
  | lmul => exact at_bl ih hk hl hs hh
  | ldiv => exact at_blz ih hk hl hs hh
  | lrem => exact at_blz ih hk hl hs hh
  | ineg => exact at_neg ih hk hl hs hh
  | i2b => exact at_u ih hk hl hs hh
  | i2s => exact at_u ih hk hl hs hh
  | i2l => exact at_i2l ih hk hl hs hh
  | lcmp => exact at_lcmp ih hk hl hs hh
  | dup => exact at_dup ih hk hl hs hh
  | dup2 => exact at_dup2 ih hk hl hs hh
  | pop => exact at_pop ih hk hl hs hh
  | pop2 => exact at_pop2 ih hk hl hs hh
  | ifCond cd off => exact at_if ih hk hl hs hh
  | if_icmp cd off => exact at_ic ih hk hl hs hh
  | tableswitch d lo hi offs => exact at_tsw ih hk hl hs hh
  | getfield ix => exact at_getf ih hk hl hs hh
  | putfield ix => exact at_putf ih hk hl hs hh
  | iaload => exact at_iald ih hxs hk hl hs hh
  | arraylength => exact at_alen ih hxs hk hl hs hh
  | baload => exact at_bald ih hk hl hs hh
  | laload => exact at_lald ih hk hl hs hh
  | aaload => exact at_aald ih hk hl hs hh
  | iastore => exact at_iast ih hk hl hs hh
  | bastore => exact at_bast ih hk hl hs hh
  | lastore => exact at_last ih hk hl hs hh
  | aastore => exact at_aast ih hk hl hs hh
  | new ix => exact at_new ih hk hl hs hh
  | newarray q => exact at_newa ih hk hl hs hh
  | anewarray ix => exact at_anew ih hk hl hs hh
  | ireturn => exact at_ret hPr hk hs hh
  | lreturn => exact at_retl hPr hk hs hh
  | areturn => exact at_reta hPr hk hs hh
  | return_ => exact at_retv hPr hk hs hh
  | istore_n i =>
    by_cases hz : a = 1
    · exact at_stp ih ((if_pos hz).symm.trans hk) hl hs hh
    · exact at_sti ih ((if_neg hz).symm.trans hk) hl hs hh
  | istore i =>
    by_cases hz : a = 1
    · exact at_stp ih ((if_pos hz).symm.trans hk) hl hs hh
    · exact at_sti ih ((if_neg hz).symm.trans hk) hl hs hh
  | ldc_w ix =>
    by_cases hz : a = 0
    · have hk1 := (if_pos hz).symm.trans hk
      obtain ⟨r, hr, hp⟩ := ih _ _ _ _ _ _ _ hk1 lv (.int (Int32.ofInt z) :: st) h hl ⟨am_i.sg _, hs⟩ hh
      exact ⟨r, (if_pos hz).trans hr, hp⟩
    · exact absurd ((if_neg hz).symm.trans hk) (fun q => by cases q)
  | ldc ix =>
    by_cases hz : a = 0
    · have hk1 := (if_pos hz).symm.trans hk
      obtain ⟨r, hr, hp⟩ := ih _ _ _ _ _ _ _ hk1 lv (.int (Int32.ofInt z) :: st) h hl ⟨am_i.sg _, hs⟩ hh
      exact ⟨r, (if_pos hz).trans hr, hp⟩
    · have hk2 := (if_neg hz).symm.trans hk
      by_cases h1 : a = 1
      · obtain ⟨r, hr, hp⟩ := at_ldcs ih ((if_pos h1).symm.trans hk2) hl hs hh
        exact ⟨r, ((if_neg hz).trans (if_pos h1)).trans hr, hp⟩
      · exact absurd ((if_neg h1).symm.trans hk2) (fun q => by cases q)
  | invokevirtual ix =>
    by_cases hb : b = 0
    · obtain ⟨r, hr, hp⟩ := at_inv ih hbig ((if_pos hb).symm.trans hk) hl hs hh
      exact ⟨r, (if_pos hb).trans hr, hp⟩
    · have hk2 := (if_neg hb).symm.trans hk
      by_cases h4 : b = 4
      · obtain ⟨r, hr, hp⟩ := at_slen ih ((if_pos h4).symm.trans hk2) hl hs hh
        exact ⟨r, ((if_neg hb).trans (if_pos h4)).trans hr, hp⟩
      · have hk3 := (if_neg h4).symm.trans hk2
        by_cases h5 : b = 5
        · obtain ⟨r, hr, hp⟩ := at_sch ih ((if_pos h5).symm.trans hk3) hl hs hh
          exact ⟨r, ((if_neg hb).trans ((if_neg h4).trans (if_pos h5))).trans hr, hp⟩
        · exact absurd ((if_neg h5).symm.trans hk3) (fun q => by cases q)
  | invokespecial ix =>
    by_cases hb : b = 1
    · obtain ⟨r, hr, hp⟩ := at_inv ih hbig ((if_pos hb).symm.trans hk) hl hs hh
      exact ⟨r, (if_pos hb).trans hr, hp⟩
    · have hk2 := (if_neg hb).symm.trans hk
      by_cases hb9 : b = 9
      · obtain ⟨r, hr, hp⟩ := at_obj ih ((if_pos hb9).symm.trans hk2) hl hs hh
        exact ⟨r, (if_neg hb).trans ((if_pos hb9).trans hr), hp⟩
      · exact absurd ((if_neg hb9).symm.trans hk2) (fun q => by cases q)
  | invokestatic ix =>
    by_cases hb : b = 8
    · obtain ⟨r, hr, hp⟩ := at_copy ih ((if_pos hb).symm.trans hk) hl hs hh
      exact ⟨r, (if_pos hb).trans hr, hp⟩
    · have hk2 := (if_neg hb).symm.trans hk
      by_cases hb9 : b = 2 ∨ b = 3
      · obtain ⟨r, hr, hp⟩ := at_ins ih hbig ((if_pos hb9).symm.trans hk2) hl hs hh
        exact ⟨r, (if_neg hb).trans ((if_pos hb9).trans hr), hp⟩
      · exact absurd ((if_neg hb9).symm.trans hk2) (fun q => by cases q)
  | _ => exact absurd (show (none : am_R) = some R from hk) (fun q => by cases q)
end SimStep
/-- the pure machine, n steps on from a continuation -/
noncomputable def pm_runK (xs : List Int32) (tab : Nat → Option pm_M) (big : Nat → List Value → pm_H → pm_R) (mm : pm_M) (k0 : pm_K) (n : Nat) : pm_K := Nat.rec (motive := fun _ => pm_K) k0 (fun _ k => pm_next xs tab big mm k) n
theorem pm_runK_eq (xs : List Int32) (tab : Nat → Option pm_M) (big : Nat → List Value → pm_H → pm_R) (mm : pm_M) (n0 : Nat) : ∀ n, pm_runK xs tab big mm (pm_run xs tab big mm n0) n = pm_run xs tab big mm (n0 + n)
  | 0 => rfl
  | n + 1 => by
    show pm_next xs tab big mm (pm_runK xs tab big mm (pm_run xs tab big mm n0) n) = pm_next xs tab big mm (pm_run xs tab big mm (n0 + n))
    rw [pm_runK_eq xs tab big mm n0 n]
theorem at_run {Pr : Option am_V × am_H → Option Value × pm_H → Prop} {xa : Option (List am_I)} {xs : List Int32} {tab : Nat → Option pm_M} {ba : am_B} {bc : Nat → List Value → pm_H → pm_R} {mm : pm_M} {ka : am_K} {kc : pm_K} (hxs : ∀ l, xa = some l → am_all am_i l xs) (hPr : ∀ R r, am_r R r → Pr R r) (hbig : ∀ M2 as h Rs, ba M2 as h = some Rs → ∀ cs hc, am_all am_v as cs → am_h h hc → ∃ r, bc M2 cs hc = some r ∧ ∃ Ra ∈ Rs, am_r Ra r) (h0 : am_S Pr ka kc) : ∀ n, am_S Pr (am_run xa tab ba mm ka n) (pm_runK xs tab bc mm kc n)
  | 0 => h0
  | n + 1 => by
    intro pc lva sta ha c sl R hk lv st h hl hs hh
    have hk1 : am_next xa tab ba mm (am_run xa tab ba mm ka n) pc lva sta ha c sl = some R := hk
    show ∃ r, pm_next xs tab bc mm (pm_runK xs tab bc mm kc n) pc lv st h c sl = some r ∧ Pr R r
    unfold am_next at hk1
    unfold pm_next
    split at hk1
    · rename_i ee he
      rw [he]
      exact at_step hxs (at_run hxs hPr hbig h0 n) hPr hbig hk1 hl hs hh
    · cases hk1
theorem am_args_ok : ∀ {as : List am_V} {cs : List Value} (i : Nat), am_all am_v as cs → am_all am_q (am_args i as) (lv_args i cs)
  | [], [], _, _ => trivial
  | a :: as, v :: cs, i, h => by
    refine ⟨⟨rfl, h.1⟩, ?_⟩
    rw [h.1.cat]
    exact am_args_ok _ h.2
  | [], _ :: _, _, h => h.elim
  | _ :: _, [], _, h => h.elim
theorem at_big {xa : Option (List am_I)} {xs : List Int32} {tab : Nat → Option pm_M} (hxs : ∀ l, xa = some l → am_all am_i l xs) (N : Nat) : ∀ (d : Nat) (M2 : Nat) (as : List am_V) (h : am_H) (Ra : Option am_V × am_H), am_big xa tab N d M2 as h = some Ra → ∀ (cs : List Value) (hc : pm_H), am_all am_v as cs → am_h h hc → ∃ r, pm_big xs tab N d M2 cs hc = some r ∧ am_r Ra r
  | 0, _, _, _, _, hk, _, _, _, _ => by cases hk
  | d + 1, M2, as, h, Ra, hk, cs, hc, hs, hh => by
    have hk1 : (match tab M2 with
      | some mm => if am_words as ≤ pm_ml mm then (if as.length = pm_n mm then am_run xa tab (fun M as h => (am_big xa tab N d M as h).map (fun r => [r])) mm (fun _ _ _ _ _ _ => none) N 0 (am_args 0 as) [] h 0 0 else none) else none
      | none => none) = some Ra := hk
    show ∃ r, (match tab M2 with
      | some mm => if pm_words cs ≤ pm_ml mm then (if cs.length = pm_n mm then pm_run xs tab (pm_big xs tab N d) mm N 0 (lv_args 0 cs) [] hc 0 0 else none) else none
      | none => none) = some r ∧ am_r Ra r
    split at hk1
    · rename_i mm hm
      split at hk1
      · rename_i hw
        split at hk1
        · rename_i hn
          have hS := at_run (Pr := am_r) (tab := tab) (mm := mm) (ba := fun M as h => (am_big xa tab N d M as h).map (fun r => [r])) (bc := pm_big xs tab N d) hxs (fun _ _ h => h) (fun M2 as h Rs q cs hc hs hh => by
            cases hb : am_big xa tab N d M2 as h with
            | none => rw [hb] at q; cases q
            | some Ra =>
              rw [hb] at q
              cases q
              obtain ⟨r, h1, h2⟩ := at_big (tab := tab) hxs N d M2 as h Ra hb cs hc hs hh
              exact ⟨r, h1, Ra, List.mem_singleton.mpr rfl, h2⟩) (ka := fun _ _ _ _ _ _ => none) (kc := pm_run xs tab (pm_big xs tab N d) mm 0) (fun _ _ _ _ _ _ _ q => by cases q) N
          rw [pm_runK_eq, Nat.zero_add] at hS
          obtain ⟨r, hr, hp⟩ := hS _ _ _ _ _ _ _ hk1 (lv_args 0 cs) [] hc (am_args_ok 0 hs) trivial hh
          refine ⟨r, ?_, hp⟩
          rw [if_pos (by rw [show pm_words cs = am_words as from (am_all.sum (fun a b h => am_v.cat h) hs).symm]; exact hw), if_pos (by rw [← hs.len]; exact hn)]
          exact hr
        · cases hk1
      · cases hk1
    · cases hk1
