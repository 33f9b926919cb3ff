/-! THE LAW OUT OF A PURE RUN (its head is the skeleton's). -/
def R_law : String := "MoodTownLaw"
def lw_P (b : Addr) (xs : List Int32) (args : Array Value) (s : State) : Prop := args = #[.ref b] ∧ s.IntsAt b xs ∧ xs.length ≤ 320 ∧ (Jvm.Cond.and given_1 narrow_1).before args s = true
def lw_Q (_ : Array Value) (s : State) (o : Outcome) (t : State) : Prop := o = .returned (some (.int 1)) ∧ Framed s o t [] 600000 7302250
def lw_Z (below : List Frame) (a : Array Value) (s : State) : State → Prop := fun t => ∃ o, t.status = .running ∧ Ended t below o ∧ lw_Q a s o t
/-- the law's own end, with 1 on the stack, nothing written that was there before, its room as the claim has it -/
theorem lw_ret {p : Program} {l : Launch} {e : Env} {s : State} {m : MethodId} {below : List Frame} {meth : Method} {c : Code} {b : Nat} (hx : p.tables.exec = Jvm.exec) (hb : c.code = code) (hr : meth.sig.returnType = ret) (hlocks : meth.locks = false) {pc : Nat} {H : Heap} {ls : Array Slot} (hdg : decode code pc = .ok (.ireturn, 1)) : W p l e room_1 s m #[Value.ref b] below meth c H [] 600000 7302250 (lw_Z below #[Value.ref b] s) (F0 m pc ls [.int 1]) := by
  intro T hT X
  obtain ⟨fs, hret, hrun, hended, hW, hframe⟩ := X.leave (v := some (.int 1)) (hlocks := hlocks) (fun h => by rw [hr] at h; cases h)
  have hmeth' : T.vm.method? m = some meth := X.method'
  refine ⟨T.setFrames fs, ?_, .returned (some (.int 1)), hrun, hended, rfl, ⟨_, rfl⟩, hW, hframe⟩
  jvm_step X.here [X.here.top, hx, hb, hdg, hmeth', hr, ret, narrow_b1]
  (try refine ⟨rfl, ?_⟩); (try refine ⟨rfl, ?_⟩)
  first | (intro acts; rw [hret _ acts rfl rfl rfl]) | rw [hret _ _ rfl rfl rfl]
  exact Steps.refl _
/-- what holds at the law's entry: the machine, the code, the tables' words (any of lw_tbl by 'hts w (by decide +kernel)'), the script of L ints xs at the cell b, what the Statement gives of the start (any of its parts by flat_of_before) -/
def lw_At (p : Program) (s : State) (m : MethodId) (meth : Method) (c : Code) (b L : Nat) (xs : Nat → Int32) : Prop :=
  p.tables.exec = Jvm.exec ∧ c.code = code ∧ meth.sig.returnType = ret ∧ c.maxLocals = 4 ∧ s.vm.findClass R_law = some m.cls ∧ (∀ w ∈ lw_tbl, w.before #[Value.ref b] s = true) ∧ va_X b L xs s s.heap ∧ b < s.heap.size ∧ meth.locks = false ∧ (Jvm.Cond.and given_1 narrow_1).before #[Value.ref b] s = true
theorem pm_known {args : Array Value} {s : State} (hts : ∀ w ∈ lw_tbl, w.before args s = true) : ∃ (dC : Nat → ClassId) (dI : Nat → Nat → Nat), ∀ (k : Nat) (q : vw_C), kC[k]? = some q → u_Kn s q.1 q.2.1 q.2.2 (dC k) (dI k) := by
  have hgt : ∀ w ∈ lw_gt, w.before args s = true := fun w hw => hts w (List.mem_filter.mp hw).1
  obtain ⟨c0, i0, h0⟩ := u_known (C := kN 0) (T := kT 0) (N := kM 0) (n := kM 0) hgt (kI 0 (by decide)) (hts (.instantiable (kN 0) (kM 0)) (List.mem_of_getElem? (i := 281) (by decide +kernel)))
  obtain ⟨c1, i1, h1⟩ := u_known (C := kN 1) (T := kT 1) (N := kM 1) (n := kM 1) hgt (kI 1 (by decide)) (hts (.instantiable (kN 1) (kM 1)) (List.mem_of_getElem? (i := 302) (by decide +kernel)))
  obtain ⟨c2, i2, h2⟩ := u_known (C := kN 2) (T := kT 2) (N := kM 2) (n := kM 2) hgt (kI 2 (by decide)) (hts (.instantiable (kN 2) (kM 2)) (List.mem_of_getElem? (i := 84) (by decide +kernel)))
  obtain ⟨c3, i3, h3⟩ := u_known (C := kN 3) (T := kT 3) (N := kM 3) (n := kM 3) hgt (kI 3 (by decide)) (hts (.instantiable (kN 3) (kM 3)) (List.mem_of_getElem? (i := 115) (by decide +kernel)))
  obtain ⟨c4, i4, h4⟩ := u_known (C := kN 4) (T := kT 4) (N := kM 4) (n := kM 4) hgt (kI 4 (by decide)) (hts (.instantiable (kN 4) (kM 4)) (List.mem_of_getElem? (i := 121) (by decide +kernel)))
  obtain ⟨c5, i5, h5⟩ := u_known (C := kN 5) (T := kT 5) (N := kM 5) (n := kM 5) hgt (kI 5 (by decide)) (hts (.instantiable (kN 5) (kM 5)) (List.mem_of_getElem? (i := 248) (by decide +kernel)))
  obtain ⟨c6, i6, h6⟩ := u_known (C := kN 6) (T := kT 6) (N := kM 6) (n := kM 6) hgt (kI 6 (by decide)) (hts (.instantiable (kN 6) (kM 6)) (List.mem_of_getElem? (i := 76) (by decide +kernel)))
  obtain ⟨c7, i7, h7⟩ := u_known (C := kN 7) (T := kT 7) (N := kM 7) (n := kM 7) hgt (kI 7 (by decide)) (hts (.instantiable (kN 7) (kM 7)) (List.mem_of_getElem? (i := 972) (by decide +kernel)))
  refine ⟨fun k => if k = 0 then c0 else if k = 1 then c1 else if k = 2 then c2 else if k = 3 then c3 else if k = 4 then c4 else if k = 5 then c5 else if k = 6 then c6 else c7, fun k => if k = 0 then i0 else if k = 1 then i1 else if k = 2 then i2 else if k = 3 then i3 else if k = 4 then i4 else if k = 5 then i5 else if k = 6 then i6 else i7, ?_⟩
  intro k q hq
  match k, hq with
  | 0, hq => cases hq; exact h0
  | 1, hq => cases hq; exact h1
  | 2, hq => cases hq; exact h2
  | 3, hq => cases hq; exact h3
  | 4, hq => cases hq; exact h4
  | 5, hq => cases hq; exact h5
  | 6, hq => cases hq; exact h6
  | 7, hq => cases hq; exact h7
  | k + 8, hq => simp [kC] at hq
theorem pm_arr {args : Array Value} {s : State} {ty : FieldType} (hty : ∀ C, ty ≠ .object C) (h : (Cond.arrayClass ty).before args s = true) : ∃ cA : ClassId, ArrOfT s cA ty ∧ va_RA s cA ty := by
  obtain ⟨cA, kA, comp, h1, h2, h3⟩ := Cond.arrayClass_spec h
  refine ⟨cA, fun n z => ⟨fun k h => (by cases h), kA, h2, comp, h3⟩, ?_⟩
  cases ty with
  | object C => exact absurd rfl (hty C)
  | _ => exact h1
theorem pm_over {s : State} {C : String} (h : va_AO C s) : ∃ cA : ClassId, ArrOfT s cA (.object C) ∧ va_RA s cA (.object C) := by
  obtain ⟨comp, c, k, h1, h2, h3, h4, h5⟩ := Cond.arrayOver_spec h
  exact ⟨c, fun N z => ⟨(fun k h => by cases h), k, h3, comp, h4⟩, k, comp, h3, h4, h1, h5⟩
theorem pm_allN {args : Array Value} {s : State} (hts : ∀ w ∈ lw_tbl, w.before args s = true) : pm_N s := by
  refine ⟨va_AO.of (hts (.arrayOver (.object "MoodTown$Town")) (List.mem_of_getElem? (i := 299) (by decide +kernel))), va_AO.of (hts (.arrayOver (.object "MoodTown$Sheet")) (List.mem_of_getElem? (i := 301) (by decide +kernel))), ?_⟩
  intro q hq
  have h : pm_nest.all (fun q => decide (Cond.methodLinkNest q.1 q.2.1 q.2.2 "MoodTown" ∈ lw_tbl)) = true := by decide +kernel
  exact va_Nw.of rfl (hts _ (of_decide_eq_true (List.all_eq_true.mp h q hq)))
theorem pm_allK {args : Array Value} {s : State} (hts : ∀ w ∈ lw_tbl, w.before args s = true) : ∃ (dC : Nat → ClassId) (dI : Nat → Nat → Nat) (aC : Nat → ClassId), va_K (dC, dI) kC (pm_ty aC) s := by
  obtain ⟨dC, dI, hk⟩ := pm_known hts
  have hN := pm_allN hts
  obtain ⟨a0, h0⟩ := pm_arr (ty := .int) (fun C h => by cases h) (hts _ (List.mem_of_getElem? (i := 215) (by decide +kernel)))
  obtain ⟨a1, h1⟩ := pm_arr (ty := .byte) (fun C h => by cases h) (hts _ (List.mem_of_getElem? (i := 113) (by decide +kernel)))
  obtain ⟨a2, h2⟩ := pm_arr (ty := .boolean) (fun C h => by cases h) (hts _ (List.mem_of_getElem? (i := 1091) (by decide +kernel)))
  obtain ⟨a3, h3⟩ := pm_arr (ty := .long) (fun C h => by cases h) (hts _ (List.mem_of_getElem? (i := 298) (by decide +kernel)))
  obtain ⟨a4, h4⟩ := pm_over hN.1
  obtain ⟨a5, h5⟩ := pm_over hN.2.1
  refine ⟨dC, dI, fun k => if k = 0 then a0 else if k = 1 then a1 else if k = 2 then a2 else if k = 3 then a3 else if k = 4 then a4 else a5, hk, ?_⟩
  intro k q hq
  match k, hq with
  | 0, hq => cases hq; exact h0
  | 1, hq => cases hq; exact h1
  | 2, hq => cases hq; exact h2
  | 3, hq => cases hq; exact h3
  | 4, hq => cases hq; exact h4
  | 5, hq => cases hq; exact h5
  | k + 6, hq => simp [pm_ty] at hq
theorem pm_scr (xs : Nat → Int32) (L j : Nat) (hj : j < L) : ((List.range L).map xs).getD j 0 = xs j := by
  rw [List.getD_eq_getElem?_getD, List.getElem?_map, List.getElem?_range hj]
  rfl
/-- the law's walk out of a pure run of it that answers 1 -/
def sg_pre (b : Nat) (adK adV : Nat → Nat) : Nat → Nat
  | 0 => b
  | i + 1 => if i < 7 then adK i else adV (i - 7)
theorem sg_prA (b : Nat) (adK adV : Nat → Nat) {i : Nat} (hi : i < 7) : sg_pre b adK adV (i + 1) = adK i := if_pos hi
theorem sg_pre8 (b : Nat) (adK adV : Nat → Nat) (i : Nat) : sg_pre b adK adV (i + 8) = adV i := by
  show (if i + 7 < 7 then adK (i + 7) else adV (i + 7 - 7)) = adV i
  rw [if_neg (by omega), Nat.add_sub_cancel]
def sg_t (i : Nat) : Term := .string "MoodTown$Telling" (sg_ix i)
def sg_v (i : Nat) : Term := .field (sg_t i) "java/lang/String" "value" "[B"
def sg_w1 : List Cond := flatC (Jvm.Cond.and given_1 narrow_1)
theorem sg_c1 : (List.range 7).all (fun i => decide (Cond.exactly (sg_t i) "java/lang/String" ∈ sg_w1) && (decide (Cond.eq (.field (sg_t i) "java/lang/String" "coder" "B") (.int 0) ∈ sg_w1) && (decide (Cond.arrayOf (sg_v i) .byte ∈ sg_w1) && (decide (Cond.eq (.length (sg_v i)) (.int (Int32.ofNat (sg_len.getD i 0))) ∈ sg_w1) && decide (Cond.stringRef "MoodTown$Telling" (sg_ix i) (sg_tx i) ∈ lw_tbl))))) = true := by decide +kernel
theorem sg_c2 : (List.range 7).all (fun i => (List.range (sg_len.getD i 0)).all (fun j => decide (Cond.eq (.elem (sg_v i) (.int (Int32.ofNat j))) (.int ((sg_byt.getD i []).getD j 0)) ∈ sg_w1))) = true := by decide +kernel
theorem sg_c3 : (List.range 7).all (fun i => (List.range 7).all (fun j => decide (i = j) || (decide (Cond.not (Cond.eq (sg_t i) (sg_t j)) ∈ sg_w1) || decide (Cond.not (Cond.eq (sg_t j) (sg_t i)) ∈ sg_w1)))) = true := by decide +kernel
theorem sg_start {s : State} {b : Nat} (hts : ∀ w ∈ lw_tbl, w.before #[Value.ref b] s = true) (hgv : (Jvm.Cond.and given_1 narrow_1).before #[Value.ref b] s = true) : ∃ adK adV : Nat → Nat, sg_W (sg_pre b adK adV) s.heap.size s s.heap := by
  have hs : ∀ w ∈ sg_w1, w.before #[Value.ref b] s = true := flat_of_before _ hgv
  have hA : ∀ a : Nat, a < s.heap.size → ¬ s.heap.size ≤ a := fun a h => Nat.not_le.mpr h
  have c1 := fun (i : Nat) (hi : i < 7) => List.all_eq_true.mp sg_c1 i (List.mem_range.mpr hi)
  simp only [Bool.and_eq_true, decide_eq_true_eq] at c1
  have c2 := fun (i : Nat) (hi : i < 7) (j : Nat) (hj : j < sg_len.getD i 0) => List.all_eq_true.mp (List.all_eq_true.mp sg_c2 i (List.mem_range.mpr hi)) j (List.mem_range.mpr hj)
  simp only [decide_eq_true_eq] at c2
  have c3 := fun (i j : Nat) (hi : i < 7) (hj : j < 7) => List.all_eq_true.mp (List.all_eq_true.mp sg_c3 i (List.mem_range.mpr hi)) j (List.mem_range.mpr hj)
  simp only [Bool.or_eq_true, decide_eq_true_eq] at c3
  have hl : ∀ i : Nat, i < 7 → sg_len.getD i 0 < 2 ^ 31 := by decide
  obtain ⟨adK, adV, h1, h2⟩ := vk_Sof (args := #[Value.ref b]) (s := s) (N := 7) (tm := sg_t) (len := sg_len) (byt := sg_byt) (A := fun q => s.heap.size ≤ q) hl (fun i hi => hs _ (c1 i hi).1) (fun i hi => hs _ (c1 i hi).2.1) (fun i hi => hs _ (c1 i hi).2.2.1) (fun i hi => hs _ (c1 i hi).2.2.2.1) (fun i hi j hj => hs _ (c2 i hi j hj)) (fun i j hi hj hij => by
    rcases c3 i j hi hj with h | h | h
    · exact absurd h hij
    · exact Or.inl (hs _ h)
    · exact Or.inr (hs _ h)) hA
  refine ⟨adK, adV, ⟨fun i hi => ?_, fun i j hi hj e => ?_⟩, fun i hi => ?_, ?_, ?_⟩
  · dsimp only
    rw [sg_prA b adK adV hi, sg_pre8]
    exact h1.1 i hi
  · dsimp only at e
    rw [sg_prA b adK adV hi, sg_prA b adK adV hj] at e
    exact h1.2 i j hi hj e
  · rw [sg_prA b adK adV hi]
    exact vk_R.of (A := #[Value.ref b]) (hts _ (c1 i hi).2.2.2.2) (h2 i hi)
  · exact va_Zof (args := #[Value.ref b]) (hts _ (List.mem_of_getElem? (i := 405) (by decide +kernel))) (hts _ (List.mem_of_getElem? (i := 68) (by decide +kernel))) (va_eqi (hs _ (by decide +kernel))) hA
  · exact va_Zqof (args := #[Value.ref b]) (hts _ (List.mem_of_getElem? (i := 421) (by decide +kernel))) (hts _ (List.mem_of_getElem? (i := 70) (by decide +kernel))) (hs _ (by decide +kernel)) hA
theorem pm_law {p : Program} {e : Env} {s : State} {m : MethodId} {below : List Frame} {meth : Method} {c : Code} (l : Launch) {b L : Nat} {xs : Nat → Int32} (C0 : lw_At p s m meth c b L xs) {N d n : Nat} {h1 : pm_H} (hk : pm_run ((List.range L).map xs) pm_m (pm_big ((List.range L).map xs) pm_m N d) m_0 n 0 [(0, .ref 0)] [] [] 0 0 = some (some (.int 1), h1)) : W p l e room_1 s m #[Value.ref b] below meth c s.heap [] 0 0 (lw_Z below #[Value.ref b] s) (entryFrame m ([Value.ref b] : List Value).toArray 4) := by
  obtain ⟨hx, hb, hr, hml, hown, hts, hX, hbl, hlocks, hgv⟩ := id C0
  obtain ⟨dC, dI, aC, hK⟩ := pm_allK hts
  obtain ⟨adK, adV, hG⟩ := sg_start (b := b) hts hgv
  have hX1 : va_X b ((List.range L).map xs).length (fun j => ((List.range L).map xs).getD j 0) s s.heap := by
    obtain ⟨scr, g1, g2, g3, g4, g5⟩ := hX
    refine ⟨scr, g1, g2, g3, by rw [List.length_map, List.length_range]; exact g4, fun j hj => ?_⟩
    rw [List.length_map, List.length_range] at hj
    rw [g5 j hj]
    show _ = some (Value.int (((List.range L).map xs).getD j 0))
    rw [pm_scr xs L j hj]
  have X : pm_X p room_1 s m #[Value.ref b] meth c dC dI aC (sg_pre b adK adV) s.heap.size ((List.range L).map xs) m_0 := ⟨hx, hb, hml, hown, fun w hw => hts w (List.mem_filter.mp hw).1, fun h => absurd h (by decide +kernel), hK, ⟨hX1, hG⟩, hbl, Nat.le_refl _, pm_allN hts, rfl⟩
  have hret : ∀ i pc lv st h c1 sl, pm_rok m_0 i st h (some (.int 1), h1) → decode (pm_b m_0) pc = .ok (i, 1) → pm_W p l e room_1 s m #[Value.ref b] below meth c (lw_Z below #[Value.ref b] s) dC dI aC (sg_pre b adK adV) s.heap.size m_0 pc lv st h c1 sl := by
    intro i pc lv st h c1 sl hro hd H locs ls hc hs hl hP hz hS
    refine va_forget hS.2.2 ?_
    refine W.widen hc hs ?_
    rcases hro with ⟨rfl, hro⟩ | ⟨rfl, hro⟩ | ⟨rfl, hro⟩ | ⟨rfl, hro⟩
    · unfold pm_ret at hro
      split at hro
      · split at hro
        · cases hro
          exact lw_ret hx hb hr hlocks hd
        · cases hro
      · cases hro
    · unfold pm_retl at hro
      split at hro <;> cases hro
    · unfold pm_reta at hro
      split at hro <;> cases hro
    · unfold pm_retv at hro
      split at hro <;> cases hro
  have hl := lv_entry ([.ref b]) (n := 4) (Nat.le_of_ble_eq_true rfl)
  rw [lg_entry_eq]
  exact pm_run_ok X (ck_ok ck_0.2.2) (fun M2 m2 as h r ht hb => pm_big_ok l dC dI aC (sg_pre b adK adV) s.heap.size ((List.range L).map xs) pm_tab N d M2 m2 as h r ht hb) hret n _ _ _ _ _ _ hk s.heap [] _ (Nat.zero_le _) (Nat.zero_le _) hl (fun i q h => by simp at h) rfl va_S.rf
