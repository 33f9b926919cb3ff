section
/-! FROM THE PURE MACHINE TO THE MACHINE: calls, ends, one step, a frame, a call of any depth. -/
theorem pm_good {ws : List Cond} (h : ∀ w ∈ ws, w ∈ lw_gt) : GoodIn lw_gt ws := fun w hw => ⟨h w hw, good_of_word (List.mem_filter.mp (h w hw)).2⟩
def pm_Wd (dC : Nat → ClassId) (dI : Nat → Nat → Nat) (aC : Nat → ClassId) (pre : Nat → Nat) (base : Nat) (xs : List Int32) (h : pm_H) (U : State) : Prop := pm_P dC dI aC pre base h U.heap ∧ U.heap.size = base + h.length ∧ va_K (dC, dI) kC (pm_ty aC) U ∧ pm_Xs pre base xs U U.heap ∧ pm_N U ∧ pre 0 < base
def pm_Qc (dC : Nat → ClassId) (dI : Nat → Nat → Nat) (aC : Nat → ClassId) (pre : Nat → Nat) (base : Nat) (r : Option Value × pm_H) : Array Value → State → Outcome → State → Prop := fun _ st oc t => oc = .returned (r.1.map (pm_rv pre base)) ∧ (pm_P dC dI aC pre base r.2 t.heap ∧ t.heap.size = base + r.2.length) ∧ va_F (fun q => base ≤ q) st t
def pm_ws (m2 : pm_M) : List Cond := .code (pm_y m2) (pm_b m2) (pm_ml m2) (pm_rt m2) :: lw_gt
/-- the contract of one pure call -/
def pm_Met (l : Launch) (dC : Nat → ClassId) (dI : Nat → Nat → Nat) (aC : Nat → ClassId) (pre : Nat → Nat) (base : Nat) (xs : List Int32) (m2 : pm_M) (as : List Value) (h : pm_H) (r : Option Value × pm_H) : Prop := Met l (pm_y m2) (pm_ws m2) (pm_rm m2) (va_Pc (as.map (pm_rv pre base)) (pm_Wd dC dI aC pre base xs h)) (pm_Qc dC dI aC pre base r) (pm_c m2) (pm_s m2) (fun q => base ≤ q)
theorem pm_blind {av : List Value} {dC : Nat → ClassId} {dI : Nat → Nat → Nat} {aC : Nat → ClassId} {pre : Nat → Nat} {base : Nat} {xs : List Int32} {h : pm_H} : FrameBlind (va_Pc av (pm_Wd dC dI aC pre base xs h)) := fun a U g mk q => ⟨q.1, q.2.1, q.2.2.1, va_K.moved (u := U) (U := U.calling g mk a) (Vm.Alike.refl U.vm) q.2.2.2.1, pm_Xs.same (u := U) (U := U.calling g mk a) rfl q.2.2.2.2.1, ⟨va_AO.moved (u := U) (U := U.calling g mk a) (Vm.Alike.refl U.vm) q.2.2.2.2.2.1.1, va_AO.moved (u := U) (U := U.calling g mk a) (Vm.Alike.refl U.vm) q.2.2.2.2.2.1.2.1, fun w hw => va_Nw.same (u := U) (U := U.calling g mk a) rfl rfl (q.2.2.2.2.2.1.2.2 w hw)⟩, q.2.2.2.2.2.2⟩
def pm_hd (m2 : pm_M) (n : Nat) : Prop := Cond.code (pm_y m2) (pm_b m2) (pm_ml m2) (pm_rt m2) ∈ lw_gt ∧ Cond.initialized (pm_y m2).cls ∈ lw_gt ∧ (pm_y m2).cls ≠ "java/lang/invoke/MethodHandle" ∧ (pm_y m2).cls ≠ "java/lang/invoke/VarHandle" ∧ (parseMethodDescriptor (pm_y m2).desc).map (fun d => d.parameters.length) = some n
def pm_rmok (mm m2 : pm_M) : Prop := pm_f m2 + 1 ≤ pm_f mm ∧ 8 + (pm_ml m2 + 11) + pm_w m2 ≤ pm_w mm
def pm_ok0 (mm : pm_M) (ix : Nat) (m2 : pm_M) : Prop := pm_hd m2 (pm_n m2 - 1) ∧ Cond.methodLink (kN (pm_o mm)) ix (pm_y m2) ∈ lw_gt ∧ Cond.instanceMethod (pm_y m2) ∈ lw_gt ∧ Cond.selects (pm_y m2).cls (pm_y m2) (pm_y m2) ∈ lw_gt ∧ kN (pm_o m2) = (pm_y m2).cls ∧ pm_o m2 < 8 ∧ pm_rmok mm m2
def pm_ok1 (mm : pm_M) (ix : Nat) (m2 : pm_M) : Prop := pm_hd m2 (pm_n m2 - 1) ∧ Cond.methodLink (kN (pm_o mm)) ix (pm_y m2) ∈ lw_gt ∧ Cond.instanceMethod (pm_y m2) ∈ lw_gt ∧ (pm_y m2).name = "<init>" ∧ pm_rt m2 = none ∧ pm_rmok mm m2
def pm_ok2 (mm : pm_M) (ix : Nat) (m2 : pm_M) : Prop := pm_hd m2 (pm_n m2) ∧ Cond.methodLink (kN (pm_o mm)) ix (pm_y m2) ∈ lw_gt ∧ Cond.static (pm_y m2) ∈ lw_gt ∧ pm_rmok mm m2
def pm_ok3 (mm : pm_M) (ix : Nat) (m2 : pm_M) : Prop := pm_hd m2 (pm_n m2) ∧ (kN (pm_o mm), ix, pm_y m2) ∈ pm_nest ∧ Cond.static (pm_y m2) ∈ lw_gt ∧ pm_rmok mm m2
def pm_okF (mm : pm_M) (ix ci f : Nat) : Prop := ci < 8 ∧ f < kM ci ∧ Cond.fieldLink (kN (pm_o mm)) ix (kN ci) (kT ci f).2.1 (kT ci f).2.2.1 ∈ lw_gt
def pm_okL (tab : Nat → Option pm_M) (mm : pm_M) (pc : Nat) (e : pm_E) : Prop := match e.1 with
  | .ldc ix => (e.2.1 = 0 → Cond.constant (kN (pm_o mm)) ix (Int32.ofInt e.2.2.2) ∈ lw_gt) ∧ (e.2.1 = 1 → kN (pm_o mm) = "MoodTown$Telling" ∧ sg_ix (e.2.2.1 - 1) = ix)
  | .ldc_w ix => e.2.1 = 0 → Cond.constant (kN (pm_o mm)) ix (Int32.ofInt e.2.2.2) ∈ lw_gt
  | .ldc2_w ix => Cond.constantLong (kN (pm_o mm)) ix (Int64.ofInt e.2.2.2) ∈ lw_gt
  | .ifCond _ off => (pc : Int) + off = (e.2.1 : Int)
  | .if_icmp _ off => (pc : Int) + off = (e.2.1 : Int)
  | .goto off => (pc : Int) + off = (e.2.1 : Int)
  | .getfield ix => pm_okF mm ix e.2.1 e.2.2.1
  | .putfield ix => pm_okF mm ix e.2.1 e.2.2.1 ∧ ((kT e.2.1 e.2.2.1).2.2.2 = false ∨ ((kT e.2.1 e.2.2.1).2.2.2 = true ∧ (pm_y mm).name = "<init>" ∧ kN e.2.1 = kN (pm_o mm)))
  | .new ix => e.2.1 < 8 ∧ Cond.classLink (kN (pm_o mm)) ix (kN e.2.1) ∈ lw_gt ∧ Cond.instantiable (kN e.2.1) (kM e.2.1) ∈ lw_gt ∧ Cond.initialized (kN e.2.1) ∈ lw_gt
  | .anewarray ix => (e.2.1 = 4 ∨ e.2.1 = 5) ∧ Cond.classLink (kN (pm_o mm)) ix (kN (pm_comp e.2.1)) ∈ lw_gt
  | .invokevirtual ix => (e.2.2.1 = 0 → ∀ m2, tab e.2.1 = some m2 → pm_ok0 mm ix m2) ∧ (e.2.2.1 = 4 → kN (pm_o mm) = "MoodTown$Tape" ∧ ix = 38 ∧ 2 ≤ pm_f mm ∧ 40 ≤ pm_w mm) ∧ (e.2.2.1 = 5 → kN (pm_o mm) = "MoodTown$Tape" ∧ ix = 43 ∧ 4 ≤ pm_f mm ∧ 85 ≤ pm_w mm)
  | .invokespecial ix => (e.2.2.1 = 1 → ∀ m2, tab e.2.1 = some m2 → pm_ok1 mm ix m2) ∧ (e.2.2.1 = 9 → Cond.methodLink (kN (pm_o mm)) ix objectInit ∈ lw_gt ∧ 1 ≤ pm_f mm ∧ 20 ≤ pm_w mm)
  | .invokestatic ix => (e.2.2.1 = 8 → Cond.methodLink (kN (pm_o mm)) ix arraycopyName ∈ lw_gt ∧ 1 ≤ pm_f mm ∧ 18 ≤ pm_w mm) ∧ (e.2.2.1 = 2 → ∀ m2, tab e.2.1 = some m2 → pm_ok2 mm ix m2) ∧ (e.2.2.1 = 3 → ∀ m2, tab e.2.1 = some m2 → pm_ok3 mm ix m2)
  | _ => True
def pm_okD (mm : pm_M) (pc : Nat) (i : Instr) : Prop := match i with
  | .tableswitch d lo hi offs => ∃ len, decode (pm_b mm) pc = .ok (.tableswitch d lo hi offs, len)
  | i => decode (pm_b mm) pc = .ok (i, pm_len i)
section Calls
variable {p : Program} {l : Launch} {e : Env} {R : Room} {s : State} {m : MethodId} {args : Array Value} {below : List Frame} {meth : Method} {c0 : Code} {Q : State → Prop} {dC : Nat → ClassId} {dI : Nat → Nat → Nat} {aC : Nat → ClassId} {pre : Nat → Nat} {base : Nat} {xs : List Int32} {mm : pm_M} {k : pm_K} {r : Option Value × pm_H} {pc : Nat} {lv : pm_L} {st : List Value} {h : pm_H} {c sl : Nat}
theorem pm_pre {U : State} {H : Heap} {locs : List Loc} {av av' : List Value} (hK : va_K (dC, dI) kC (pm_ty aC) s) (hX : pm_Xs pre base xs s s.heap) (hN : pm_N s) (hb0 : pre 0 < base) (hb1 : base ≤ s.heap.size) (hP : pm_P dC dI aC pre base h H) (hz : H.size = base + h.length) (hS : va_S (fun q => base ≤ q) s.heap H locs) (ha : av = av') (hU : U.heap = H) (hW : s.WarmedH U.vm) : va_Pc av (pm_Wd dC dI aC pre base xs h) av'.toArray U := by
  subst ha
  refine ⟨rfl, by rw [hU]; exact hP, by rw [hU]; exact hz, va_K.moved hW.alike hK, ?_, ⟨va_AO.moved hW.alike hN.1, va_AO.moved hW.alike hN.2.1, fun w hw => va_Nw.warmM hW (hN.2.2 w hw)⟩, hb0⟩
  rw [hU]
  exact pm_Xs.warm hW hb0 hb1 hS hX
theorem pm_back {m2 : pm_M} {rr : Option Value × pm_H} {rest st0 : List Value} {a : Array Value} {H : Heap} {locs : List Loc} {ls : Array Slot} (hr : va_Run p l e R s m args below meth c0 H locs c sl (pm_c m2) (pm_s m2) (F0 m pc ls st0) (rest.map (pm_rv pre base)) (pm_Qc dC dI aC pre base rr a) (fun q => base ≤ q)) (ih : pm_IH p l e R s m args below meth c0 Q dC dI aC pre base mm k r) (hk : k (pc + 3) lv (rr.1.toList ++ rest) rr.2 (c + pm_c m2) (sl + pm_s m2) = some r) (hc1 : c + pm_c m2 ≤ pm_c mm) (hs1 : sl + pm_s m2 ≤ pm_s mm) (hl : lv_has ls (pm_ml mm) (lv.map (pm_lv pre base))) (hS : va_S (fun q => base ≤ q) s.heap H locs) : W p l e R s m args below meth c0 H locs c sl Q (F0 m pc ls st0) := by
  intro T hT X
  obtain ⟨v, st₀, t, T', L, h0, X', hL, e1, e2, ⟨hv, ⟨hP1, hz1⟩, hz, hkp⟩, stp⟩ := hr T hT X
  have hv : v = rr.1.map (pm_rv pre base) := Outcome.returned.inj hv
  rw [h0] at hz hkp
  have hst : (rr.1.toList ++ rest).map (pm_rv pre base) = v.toList ++ rest.map (pm_rv pre base) := by
    rw [hv, List.map_append]
    congr 1
    cases rr.1 <;> rfl
  obtain ⟨t2, a1, b1⟩ := ih _ _ _ _ _ _ hk T'.heap (locs ++ L) ls hc1 hs1 hl (by rw [e1]; exact hP1) (by rw [e1]; exact hz1) ⟨Nat.le_trans hS.1 (by rw [e1]; exact hz), fun q h1 h2 => by rw [e1, hkp q (Nat.lt_of_lt_of_le h1 hS.1) h2]; exact hS.2.1 q h1 h2, fun q hq => by
      rcases List.mem_append.mp hq with h | h
      · exact hS.2.2 q h
      · exact hL q h⟩ T' rfl X'
  rw [hst] at a1
  exact ⟨t2, stp t2 a1, b1⟩
theorem pm_split {n : Nat} {a : Value} {as : List Value} (hrev : (st.take n).reverse = a :: as) : st = as.reverse ++ a :: st.drop n := by
  have e := congrArg List.reverse hrev
  rw [List.reverse_reverse, List.reverse_cons] at e
  calc st = st.take n ++ st.drop n := (List.take_append_drop n st).symm
    _ = as.reverse ++ a :: st.drop n := by rw [e, List.append_assoc]; rfl
theorem pm_splen {n : Nat} {a : Value} {as : List Value} (hn : n ≤ st.length) (hrev : (st.take n).reverse = a :: as) : as.length = n - 1 := by
  have e := congrArg List.length hrev
  rw [List.length_reverse, List.length_take, List.length_cons] at e
  omega
theorem ps_inv0 (X : pm_X p R s m args meth c0 dC dI aC pre base xs mm) {tab : Nat → Option pm_M} {big : Nat → List Value → pm_H → pm_R} {ix M2 : Nat} {m2 : pm_M} (htab : tab M2 = some m2) (hbig : ∀ as h r, big M2 as h = some r → pm_Met l dC dI aC pre base xs m2 as h r) (hf : pm_ok0 mm ix m2) (hd : decode (pm_b mm) pc = .ok (.invokevirtual ix, 3)) (ih : pm_IH p l e R s m args below meth c0 Q dC dI aC pre base mm k r) (hk : pm_inv k tab big mm M2 pc lv st h c sl = some r) : pm_W p l e R s m args below meth c0 Q dC dI aC pre base mm pc lv st h c sl := by
  obtain ⟨hx, hb, hml, hown, hts, hin, hK, hX, hb0, hb1, hN, rfl⟩ := X
  unfold pm_inv at hk
  rw [htab] at hk
  dsimp only at hk
  split at hk
  · rename_i hn
    split at hk
    · rename_i a as hrev
      split at hk
      · rename_i cj fs hcell
        split at hk
        · rename_i hcj
          unfold pm_call at hk
          split at hk
          · rename_i hcat
            split at hk
            · rename_i hc1
              split at hk
              · rename_i hs1
                split at hk
                · rename_i rv rh hbg
                  intro H locs ls hc hs hl hP hz hS
                  obtain ⟨h1, h2⟩ := pm_cell_eq pre base hcell
                  have hmap : st.map (pm_rv pre base) = (as.map (pm_rv pre base)).reverse ++ .ref (base + (a - 8)) :: (st.drop (pm_n m2)).map (pm_rv pre base) := by
                    conv => lhs; rw [pm_split hrev]
                    rw [List.map_append, List.map_reverse, pm_m1 h2]
                  rw [hmap]
                  have hrecv : ∃ cellB : Cell, H[base + (a - 8)]? = some cellB ∧ cellB.vm.isStatics = false ∧ s.vm.findClass (pm_y m2).cls = some cellB.cls := by
                    have hv := va_recv hK (hP.one h1) (kCi cj (by rw [hcj]; exact hf.2.2.2.2.2.1)) (q0 := 0) rfl
                    rw [← hf.2.2.2.2.1, ← hcj]
                    exact hv
                  exact pm_back (rr := (rv, rh)) (va_runV (C := (pm_y m2).cls) (As := as.map (pm_rv pre base)) (rest := (st.drop (pm_n m2)).map (pm_rv pre base)) ⟨hx, hb, hml, hown, hts⟩ (hbig _ _ _ hbg) (cwV (pm_n m2 - 1) hts (pm_good (fun w hw => by
                    rcases List.mem_append.mp hw with hw | hw
                    · simp only [List.mem_cons, List.not_mem_nil, or_false] at hw
                      rcases hw with rfl | rfl | rfl | rfl
                      · exact hf.2.1
                      · exact hf.2.2.1
                      · exact hf.2.2.2.1
                      · exact hf.1.2.1
                    · rcases List.mem_cons.mp hw with rfl | hw
                      · exact hf.1.1
                      · exact hw)) rfl rfl rfl ⟨rfl, hf.1.2.2⟩ hf.2.2.2.2.2.2) ⟨pm_blind, hrecv, fun U hU hW => pm_pre hK hX hN hb0 hb1 hP hz hS (pm_m1 h2) hU hW⟩ rfl (by rw [List.length_map]; exact pm_splen hn hrev) hl.1 rfl (lv_room (by rw [pm_cats]; exact hcat)) hd ⟨hc1, hs1⟩) ih hk hc1 hs1 hl hS
                · cases hk
              · cases hk
            · cases hk
          · cases hk
        · cases hk
      · cases hk
    · cases hk
  · cases hk
theorem ps_inv1 (X : pm_X p R s m args meth c0 dC dI aC pre base xs mm) {tab : Nat → Option pm_M} {big : Nat → List Value → pm_H → pm_R} {ix M2 : Nat} {m2 : pm_M} (htab : tab M2 = some m2) (hbig : ∀ as h r, big M2 as h = some r → pm_Met l dC dI aC pre base xs m2 as h r) (hf : pm_ok1 mm ix m2) (hd : decode (pm_b mm) pc = .ok (.invokespecial ix, 3)) (ih : pm_IH p l e R s m args below meth c0 Q dC dI aC pre base mm k r) (hk : pm_inv k tab big mm M2 pc lv st h c sl = some r) : pm_W p l e R s m args below meth c0 Q dC dI aC pre base mm pc lv st h c sl := by
  obtain ⟨hx, hb, hml, hown, hts, hin, hK, hX, hb0, hb1, hN, rfl⟩ := X
  unfold pm_inv at hk
  rw [htab] at hk
  dsimp only at hk
  split at hk
  · rename_i hn
    split at hk
    · rename_i a as hrev
      split at hk
      · rename_i cj fs hcell
        split at hk
        · rename_i hcj
          unfold pm_call at hk
          split at hk
          · rename_i hcat
            split at hk
            · rename_i hc1
              split at hk
              · rename_i hs1
                split at hk
                · rename_i rv rh hbg
                  intro H locs ls hc hs hl hP hz hS
                  obtain ⟨h1, h2⟩ := pm_cell_eq pre base hcell
                  have hmap : st.map (pm_rv pre base) = (as.map (pm_rv pre base)).reverse ++ .ref (base + (a - 8)) :: (st.drop (pm_n m2)).map (pm_rv pre base) := by
                    conv => lhs; rw [pm_split hrev]
                    rw [List.map_append, List.map_reverse, pm_m1 h2]
                  rw [hmap]
                  exact pm_back (rr := (rv, rh)) (va_runI (As := as.map (pm_rv pre base)) (rest := (st.drop (pm_n m2)).map (pm_rv pre base)) ⟨hx, hb, hml, hown, hts⟩ (hbig _ _ _ hbg) (cwI (pm_n m2 - 1) hts (pm_good (fun w hw => by
                    rcases List.mem_cons.mp hw with rfl | hw
                    · exact hf.1.1
                    · exact hw)) (by unfold pm_ws; rw [hf.2.2.2.2.1]) rfl rfl (hts _ hf.1.2.1) (hts _ hf.2.1) (hts _ hf.2.2.1) hf.2.2.2.1 hf.1.2.2 hf.2.2.2.2.2) ⟨pm_blind, fun U hU hW => pm_pre hK hX hN hb0 hb1 hP hz hS (pm_m1 h2) hU hW⟩ rfl (by rw [List.length_map]; exact pm_splen hn hrev) hl.1 rfl (lv_room (by rw [pm_cats]; exact hcat)) hd ⟨hc1, hs1⟩) ih hk hc1 hs1 hl hS
                · cases hk
              · cases hk
            · cases hk
          · cases hk
        · cases hk
      · cases hk
    · cases hk
  · cases hk
theorem ps_ins2 (X : pm_X p R s m args meth c0 dC dI aC pre base xs mm) {tab : Nat → Option pm_M} {big : Nat → List Value → pm_H → pm_R} {ix M2 : Nat} {m2 : pm_M} (htab : tab M2 = some m2) (hbig : ∀ as h r, big M2 as h = some r → pm_Met l dC dI aC pre base xs m2 as h r) (hf : pm_ok2 mm ix m2) (hd : decode (pm_b mm) pc = .ok (.invokestatic ix, 3)) (ih : pm_IH p l e R s m args below meth c0 Q dC dI aC pre base mm k r) (hk : pm_ins k tab big mm M2 pc lv st h c sl = some r) : pm_W p l e R s m args below meth c0 Q dC dI aC pre base mm pc lv st h c sl := by
  obtain ⟨hx, hb, hml, hown, hts, hin, hK, hX, hb0, hb1, hN, rfl⟩ := X
  unfold pm_ins at hk
  rw [htab] at hk
  dsimp only at hk
  split at hk
  · rename_i hn
    unfold pm_call at hk
    split at hk
    · rename_i hcat
      split at hk
      · rename_i hc1
        split at hk
        · rename_i hs1
          split at hk
          · rename_i rv rh hbg
            intro H locs ls hc hs hl hP hz hS
            have hmap : st.map (pm_rv pre base) = ((st.take (pm_n m2)).reverse.map (pm_rv pre base)).reverse ++ (st.drop (pm_n m2)).map (pm_rv pre base) := by
              conv => lhs; rw [← List.take_append_drop (pm_n m2) st]
              rw [List.map_append, List.map_reverse, List.reverse_reverse]
            rw [hmap]
            exact pm_back (rr := (rv, rh)) (va_runS (As := (st.take (pm_n m2)).reverse.map (pm_rv pre base)) (rest := (st.drop (pm_n m2)).map (pm_rv pre base)) ⟨hx, hb, hml, hown, hts⟩ (hbig _ _ _ hbg) (va_cwS (pm_n m2) hts (pm_good (fun w hw => by
              rcases List.mem_append.mp hw with hw | hw
              · simp only [List.mem_cons, List.not_mem_nil, or_false] at hw
                rcases hw with rfl | rfl | rfl
                · exact hf.2.1
                · exact hf.2.2.1
                · exact hf.1.2.1
              · rcases List.mem_cons.mp hw with rfl | hw
                · exact hf.1.1
                · exact hw)) rfl rfl rfl hf.1.2.2 hf.2.2.2) ⟨pm_blind, fun U hU hW => pm_pre hK hX hN hb0 hb1 hP hz hS rfl hU hW⟩ rfl (by rw [List.length_map, List.length_reverse, List.length_take]; omega) hl.1 rfl (lv_room (by rw [pm_cats]; exact hcat)) hd ⟨hc1, hs1⟩) ih hk hc1 hs1 hl hS
          · cases hk
        · cases hk
      · cases hk
    · cases hk
  · cases hk
theorem ps_ins3 (X : pm_X p R s m args meth c0 dC dI aC pre base xs mm) {tab : Nat → Option pm_M} {big : Nat → List Value → pm_H → pm_R} {ix M2 : Nat} {m2 : pm_M} (htab : tab M2 = some m2) (hbig : ∀ as h r, big M2 as h = some r → pm_Met l dC dI aC pre base xs m2 as h r) (hf : pm_ok3 mm ix m2) (hd : decode (pm_b mm) pc = .ok (.invokestatic ix, 3)) (ih : pm_IH p l e R s m args below meth c0 Q dC dI aC pre base mm k r) (hk : pm_ins k tab big mm M2 pc lv st h c sl = some r) : pm_W p l e R s m args below meth c0 Q dC dI aC pre base mm pc lv st h c sl := by
  obtain ⟨hx, hb, hml, hown, hts, hin, hK, hX, hb0, hb1, hN, rfl⟩ := X
  unfold pm_ins at hk
  rw [htab] at hk
  dsimp only at hk
  split at hk
  · rename_i hn
    unfold pm_call at hk
    split at hk
    · rename_i hcat
      split at hk
      · rename_i hc1
        split at hk
        · rename_i hs1
          split at hk
          · rename_i rv rh hbg
            intro H locs ls hc hs hl hP hz hS
            have hmap : st.map (pm_rv pre base) = ((st.take (pm_n m2)).reverse.map (pm_rv pre base)).reverse ++ (st.drop (pm_n m2)).map (pm_rv pre base) := by
              conv => lhs; rw [← List.take_append_drop (pm_n m2) st]
              rw [List.map_append, List.map_reverse, List.reverse_reverse]
            rw [hmap]
            have hnest : va_Nw (.methodLinkNest (kN (pm_o mm)) ix (pm_y m2) "MoodTown") s := hN.2.2 (kN (pm_o mm), ix, pm_y m2) hf.2.1
            exact pm_back (rr := (rv, rh)) (va_runSN (host := "MoodTown") (As := (st.take (pm_n m2)).reverse.map (pm_rv pre base)) (rest := (st.drop (pm_n m2)).map (pm_rv pre base)) ⟨hx, hb, hml, hown, hts⟩ (hbig _ _ _ hbg) ⟨va_cnB (pm_n m2) hts (pm_good (fun w hw => by
              rcases List.mem_cons.mp hw with rfl | hw
              · exact hf.1.1
              · exact hw)) rfl rfl rfl hnest (hts _ hf.1.2.1) hf.1.2.2 hf.2.2.2, hts _ hf.2.2.1, trivial⟩ ⟨pm_blind, fun U hU hW => pm_pre hK hX hN hb0 hb1 hP hz hS rfl hU hW⟩ rfl (by rw [List.length_map, List.length_reverse, List.length_take]; omega) hl.1 rfl (lv_room (by rw [pm_cats]; exact hcat)) hd ⟨hc1, hs1⟩) ih hk hc1 hs1 hl hS
          · cases hk
        · cases hk
      · cases hk
    · cases hk
  · cases hk
end Calls
end
section
/-! STRING.LENGTH AND STRING.CHARAT of a constant: contracts of the JDK's methods over the world of the constants. -/
def sy_len : MethodName := ⟨"java/lang/String", "length", "()I"⟩
def sy_cod : MethodName := ⟨"java/lang/String", "coder", "()B"⟩
def sy_ch : MethodName := ⟨"java/lang/String", "charAt", "(I)C"⟩
def sy_l1 : MethodName := ⟨"java/lang/String", "isLatin1", "()Z"⟩
def sy_la : MethodName := ⟨"java/lang/StringLatin1", "charAt", "([BI)C"⟩
def sy_ck : MethodName := ⟨"java/lang/String", "checkIndex", "(II)V"⟩
def sy_pc : MethodName := ⟨"jdk/internal/util/Preconditions", "checkIndex", "(IILjava/util/function/BiFunction;)I"⟩
theorem sw_len_l : Cond.methodLink "MoodTown$Tape" 38 sy_len ∈ lw_gt := lw_gi 396 (by decide +kernel) (by decide +kernel)
theorem sw_len_i : Cond.instanceMethod sy_len ∈ lw_gt := lw_gi 397 (by decide +kernel) (by decide +kernel)
theorem sw_len_s : Cond.selects "java/lang/String" sy_len sy_len ∈ lw_gt := lw_gi 398 (by decide +kernel) (by decide +kernel)
theorem sw_len_c : Cond.code sy_len prog_12_method_54_code 1 (some .int) ∈ lw_gt := lw_gi 399 (by decide +kernel) (by decide +kernel)
theorem sw_cod_l : Cond.methodLink "java/lang/String" 335 sy_cod ∈ lw_gt := lw_gi 400 (by decide +kernel) (by decide +kernel)
theorem sw_cod_i : Cond.instanceMethod sy_cod ∈ lw_gt := lw_gi 401 (by decide +kernel) (by decide +kernel)
theorem sw_cod_s : Cond.selects "java/lang/String" sy_cod sy_cod ∈ lw_gt := lw_gi 402 (by decide +kernel) (by decide +kernel)
theorem sw_cod_c : Cond.code sy_cod prog_12_method_152_code 1 (some .byte) ∈ lw_gt := lw_gi 403 (by decide +kernel) (by decide +kernel)
theorem sw_cs_l : Cond.fieldLink "java/lang/String" 38 "java/lang/String" "COMPACT_STRINGS" "Z" ∈ lw_gt := lw_gi 404 (by decide +kernel) (by decide +kernel)
theorem sw_ch_l : Cond.methodLink "MoodTown$Tape" 43 sy_ch ∈ lw_gt := lw_gi 406 (by decide +kernel) (by decide +kernel)
theorem sw_ch_i : Cond.instanceMethod sy_ch ∈ lw_gt := lw_gi 407 (by decide +kernel) (by decide +kernel)
theorem sw_ch_s : Cond.selects "java/lang/String" sy_ch sy_ch ∈ lw_gt := lw_gi 408 (by decide +kernel) (by decide +kernel)
theorem sw_ch_c : Cond.code sy_ch prog_12_method_56_code 2 (some .char) ∈ lw_gt := lw_gi 409 (by decide +kernel) (by decide +kernel)
theorem sw_l1_l : Cond.methodLink "java/lang/String" 492 sy_l1 ∈ lw_gt := lw_gi 410 (by decide +kernel) (by decide +kernel)
theorem sw_l1_i : Cond.instanceMethod sy_l1 ∈ lw_gt := lw_gi 411 (by decide +kernel) (by decide +kernel)
theorem sw_l1_s : Cond.selects "java/lang/String" sy_l1 sy_l1 ∈ lw_gt := lw_gi 412 (by decide +kernel) (by decide +kernel)
theorem sw_l1_c : Cond.code sy_l1 prog_12_method_154_code 1 (some .boolean) ∈ lw_gt := lw_gi 413 (by decide +kernel) (by decide +kernel)
theorem sw_la_l : Cond.methodLink "java/lang/String" 495 sy_la ∈ lw_gt := lw_gi 414 (by decide +kernel) (by decide +kernel)
theorem sw_la_t : Cond.static sy_la ∈ lw_gt := lw_gi 415 (by decide +kernel) (by decide +kernel)
theorem sw_la_c : Cond.code sy_la prog_13_method_2_code 2 (some .char) ∈ lw_gt := lw_gi 416 (by decide +kernel) (by decide +kernel)
theorem sw_ck_l : Cond.methodLink "java/lang/StringLatin1" 9 sy_ck ∈ lw_gt := lw_gi 417 (by decide +kernel) (by decide +kernel)
theorem sw_ck_t : Cond.static sy_ck ∈ lw_gt := lw_gi 418 (by decide +kernel) (by decide +kernel)
theorem sw_ck_c : Cond.code sy_ck prog_12_method_155_code 2 none ∈ lw_gt := lw_gi 419 (by decide +kernel) (by decide +kernel)
theorem sw_fm_l : Cond.fieldLink "java/lang/String" 1053 "jdk/internal/util/Preconditions" "SIOOBE_FORMATTER" "Ljava/util/function/BiFunction;" ∈ lw_gt := lw_gi 420 (by decide +kernel) (by decide +kernel)
theorem sw_pc_l : Cond.methodLink "java/lang/String" 1059 sy_pc ∈ lw_gt := lw_gi 422 (by decide +kernel) (by decide +kernel)
theorem sw_pc_t : Cond.static sy_pc ∈ lw_gt := lw_gi 423 (by decide +kernel) (by decide +kernel)
theorem sw_pc_c : Cond.code sy_pc prog_17_method_11_code 3 (some .int) ∈ lw_gt := lw_gi 424 (by decide +kernel) (by decide +kernel)
theorem sw_val_l : Cond.fieldLink "java/lang/String" 9 "java/lang/String" "value" "[B" ∈ lw_gt := lw_gi 1410 (by decide +kernel) (by decide +kernel)
theorem sw_cdr_l : Cond.fieldLink "java/lang/String" 15 "java/lang/String" "coder" "B" ∈ lw_gt := lw_gi 1411 (by decide +kernel) (by decide +kernel)
theorem sw_st_n : Cond.initialized "java/lang/String" ∈ lw_gt := lw_gi 68 (by decide +kernel) (by decide +kernel)
theorem sw_sl_n : Cond.initialized "java/lang/StringLatin1" ∈ lw_gt := lw_gi 69 (by decide +kernel) (by decide +kernel)
theorem sw_sp_n : Cond.initialized "jdk/internal/util/Preconditions" ∈ lw_gt := lw_gi 70 (by decide +kernel) (by decide +kernel)
def sj_pc : pm_M := (sy_pc, prog_17_method_11_code, 3, some .int, 0, 3, 0, 0, 0, 0, [])
def sj_ck : pm_M := (sy_ck, prog_12_method_155_code, 2, none, 0, 2, 1, 22, 0, 0, [])
def sj_la : pm_M := (sy_la, prog_13_method_2_code, 2, some .char, 0, 2, 2, 43, 0, 0, [])
def sj_cod : pm_M := (sy_cod, prog_12_method_152_code, 1, some .byte, 0, 1, 0, 0, 0, 0, [])
def sj_l1 : pm_M := (sy_l1, prog_12_method_154_code, 1, some .boolean, 0, 1, 0, 0, 0, 0, [])
def sj_len : pm_M := (sy_len, prog_12_method_54_code, 1, some .int, 0, 1, 1, 20, 0, 0, [])
def sj_ch : pm_M := (sy_ch, prog_12_method_56_code, 2, some .char, 0, 2, 3, 64, 0, 0, [])
theorem sg_char : (List.range 7).all (fun i => (List.range (sg_len.getD i 0)).all (fun j => decide (narrow .char (.int ((sg_byt.getD i []).getD j 0)) = .int ((sg_byt.getD i []).getD j 0)) && decide ((((sg_byt.getD i []).getD j 0 &&& 255).toUInt32 % 65536).toInt32 = (sg_byt.getD i []).getD j 0))) = true := by decide +kernel
theorem sg_char_ok {i j : Nat} (hi : i < 7) (hj : j < sg_len.getD i 0) : narrow .char (.int ((sg_byt.getD i []).getD j 0)) = .int ((sg_byt.getD i []).getD j 0) ∧ (((sg_byt.getD i []).getD j 0 &&& 255).toUInt32 % 65536).toInt32 = (sg_byt.getD i []).getD j 0 := by
  have h := List.all_eq_true.mp (List.all_eq_true.mp sg_char i (List.mem_range.mpr hi)) j (List.mem_range.mpr hj)
  rw [Bool.and_eq_true] at h
  exact ⟨of_decide_eq_true h.1, of_decide_eq_true h.2⟩
theorem sg_lens : (List.range 7).all (fun i => decide (sg_len.getD i 0 ≤ 5) && decide ((Int32.ofNat (sg_len.getD i 0)) >>> ((0 : Int32) &&& 31) = Int32.ofNat (sg_len.getD i 0))) = true := by decide +kernel
theorem sg_lens_ok {i : Nat} (hi : i < 7) : sg_len.getD i 0 ≤ 5 ∧ (Int32.ofNat (sg_len.getD i 0)) >>> ((0 : Int32) &&& 31) = Int32.ofNat (sg_len.getD i 0) := by
  have h := List.all_eq_true.mp sg_lens i (List.mem_range.mpr hi)
  rw [Bool.and_eq_true] at h
  exact ⟨of_decide_eq_true h.1, of_decide_eq_true h.2⟩
theorem sg_lt {j : Int32} {n : Nat} (hn : n ≤ 5) (h0 : ¬ j < 0) (h : j.toNatClampNeg < n) : j < Int32.ofNat n := by
  rw [Int32.lt_iff_toInt_lt]
  have h1 : (0 : Int) ≤ j.toInt := by
    have := Int32.not_lt.mp h0
    simpa using Int32.le_iff_toInt_le.mp this
  have h2 : (j.toInt.toNat : Int) = j.toInt := Int.toNat_of_nonneg h1
  have h3 : j.toInt.toNat < n := h
  have h4 : (Int32.ofNat n).toInt = (n : Int) := Int32.toInt_ofNat_of_lt (by omega)
  omega
def sg_Met (l : Launch) (dC : Nat → ClassId) (dI : Nat → Nat → Nat) (aC : Nat → ClassId) (pre : Nat → Nat) (base : Nat) (xs : List Int32) (m2 : pm_M) (av : List Value) (h : pm_H) (v : Option Value) : Prop := Met l (pm_y m2) (pm_ws m2) (pm_rm m2) (va_Pc av (pm_Wd dC dI aC pre base xs h)) (pm_Qc dC dI aC pre base (v, h)) (pm_c m2) (pm_s m2) (fun q => base ≤ q)
def sg_X (p : Program) (R : Room) (s : State) (m : MethodId) (args : Array Value) (meth : Method) (c0 : Code) (dC : Nat → ClassId) (dI : Nat → Nat → Nat) (aC : Nat → ClassId) (pre : Nat → Nat) (base : Nat) (xs : List Int32) (own : String) (bs : ByteArray) (ml : Nat) (rm : Room) : Prop :=
  p.tables.exec = Jvm.exec ∧ c0.code = bs ∧ c0.maxLocals = ml ∧ s.vm.findClass own = some m.cls ∧ (∀ w ∈ lw_gt, w.before args s = true) ∧ va_K (dC, dI) kC (pm_ty aC) s ∧ pm_Xs pre base xs s s.heap ∧ pre 0 < base ∧ base ≤ s.heap.size ∧ pm_N s ∧ R = rm
section Jdk
variable {p : Program} {l : Launch} {e : Env} {R : Room} {s : State} {m : MethodId} {args : Array Value} {below : List Frame} {meth : Method} {c0 : Code} {Q : State → Prop} {dC : Nat → ClassId} {dI : Nat → Nat → Nat} {aC : Nat → ClassId} {pre : Nat → Nat} {base : Nat} {xs : List Int32} {mm : pm_M} {k : pm_K} {r : Option Value × pm_H} {pc : Nat} {lv : pm_L} {st : List Value} {h : pm_H} {c sl : Nat} {own : String} {bs : ByteArray} {ml : Nat} {rm : Room}
theorem sg_enter (m2 : pm_M) (hplain : plainFor (pm_y m2) = true) {av : List Value} (hsl : (lg_sl av).length ≤ pm_ml m2) {v : Option Value} (body : ∀ (p : Program) (e : Env) (s : State) (m : MethodId) (below : List Frame) (meth : Method) (c0 : Code) (ls : Array Slot), sg_X p (pm_rm m2) s m av.toArray meth c0 dC dI aC pre base xs (pm_y m2).cls (pm_b m2) (pm_ml m2) (pm_rm m2) → meth.sig.returnType = pm_rt m2 → meth.locks = false → lv_has ls (pm_ml m2) (lv_args 0 av) → pm_P dC dI aC pre base h s.heap → s.heap.size = base + h.length → W p l e (pm_rm m2) s m av.toArray below meth c0 s.heap [] 0 0 (MQ below (pm_Qc dC dI aC pre base (v, h)) av.toArray s (pm_c m2) (pm_s m2) (fun q => base ≤ q)) (F0 m 0 ls [])) : sg_Met l dC dI aC pre base xs m2 av h v := by
  refine va_MetF (cc := pm_b m2) (maxL := pm_ml m2) (ret := pm_rt m2) hplain rfl ?_
  intro p e s m args below meth c0 s₁ B hml hv
  obtain ⟨rfl, hP, hz, hK, hX, hN, hb0⟩ := hv
  have hts := atoms_spec (ws := pm_ws m2) B.pre
  have hl := lv_entry av (n := pm_ml m2) hsl
  rw [lg_entry_eq]
  exact body p e s m below meth c0 _ ⟨B.exec, B.bytes, hml, findClass_of_methodNamed B.named, fun w hw => hts w (List.mem_cons_of_mem _ hw), hK, hX, hb0, by omega, hN, rfl⟩ B.returns B.notSynchronized hl hP hz
/-- what stands behind such a call -/
theorem sg_back {m2 : pm_M} {v : Option Value} {rest st0 : List Value} {a : Array Value} {H : Heap} {locs : List Loc} {ls : Array Slot} (hr : va_Run p l e R s m args below meth c0 H locs c sl 0 0 (F0 m pc ls st0) rest (pm_Qc dC dI aC pre base (v, h) a) (fun q => base ≤ q)) (hv0 : v.map (pm_rv pre base) = v) (hS : va_S (fun q => base ≤ q) s.heap H locs)
    (kk : ∀ (H1 : Heap) (locs1 : List Loc), pm_P dC dI aC pre base h H1 → H1.size = base + h.length → va_S (fun q => base ≤ q) s.heap H1 locs1 → W p l e R s m args below meth c0 H1 locs1 c sl Q (F0 m (pc + 3) ls (v.toList ++ rest))) : W p l e R s m args below meth c0 H locs c sl Q (F0 m pc ls st0) := by
  intro T hT X
  obtain ⟨w, st₀, t, T', L, h0, X', hL, e1, e2, ⟨hv, ⟨hP1, hz1⟩, hz, hkp⟩, stp⟩ := hr T hT X
  have hv : w = v := (Outcome.returned.inj hv).trans hv0
  subst hv
  rw [h0] at hz hkp
  obtain ⟨t2, a1, b1⟩ := kk T'.heap (locs ++ L) (by rw [e1]; exact hP1) (by rw [e1]; exact hz1) ⟨Nat.le_trans hS.1 (by rw [e1]; exact hz), fun q h1 h2 => by rw [e1, hkp q (Nat.lt_of_lt_of_le h1 hS.1) h2]; exact hS.2.1 q h1 h2, fun q hq => by
      rcases List.mem_append.mp hq with h | h
      · exact hS.2.2 q h
      · exact hL q h⟩ T' rfl X'
  exact ⟨t2, stp t2 a1, b1⟩
theorem sg_pre1 (hK : va_K (dC, dI) kC (pm_ty aC) s) (hX : pm_Xs pre base xs s s.heap) (hN : pm_N s) (hb0 : pre 0 < base) (hb1 : base ≤ s.heap.size) {H : Heap} {locs : List Loc} (hP : pm_P dC dI aC pre base h H) (hz : H.size = base + h.length) (hS : va_S (fun q => base ≤ q) s.heap H locs) (av : List Value) : ∀ U : State, U.heap = H → s.WarmedH U.vm → va_Pc av (pm_Wd dC dI aC pre base xs h) av.toArray U := fun U hU hW => pm_pre hK hX hN hb0 hb1 hP hz hS rfl hU hW
/-- a static call -/
theorem sg_callS (X : sg_X p R s m args meth c0 dC dI aC pre base xs own bs ml rm) {m2 : pm_M} {ix : Nat} {As rest : List Value} {v : Option Value} {H : Heap} {locs : List Loc} {ls : Array Slot} (hM : sg_Met l dC dI aC pre base xs m2 As h v) (hc0 : pm_c m2 = 0) (hs0 : pm_s m2 = 0) (w1 : Cond.methodLink own ix (pm_y m2) ∈ lw_gt) (w2 : Cond.static (pm_y m2) ∈ lw_gt) (w3 : Cond.initialized (pm_y m2).cls ∈ lw_gt) (w4 : Cond.code (pm_y m2) (pm_b m2) (pm_ml m2) (pm_rt m2) ∈ lw_gt)
    (hd : (pm_y m2).cls ≠ "java/lang/invoke/MethodHandle" ∧ (pm_y m2).cls ≠ "java/lang/invoke/VarHandle" ∧ (parseMethodDescriptor (pm_y m2).desc).map (fun d => d.parameters.length) = some As.length) (hR : pm_f m2 + 1 ≤ rm.frames ∧ 8 + (pm_ml m2 + 11) + pm_w m2 ≤ rm.locals) (hc : c ≤ rm.cells) (hs : sl ≤ rm.slots) (hls : ls.size = ml) (hrest : (rest.map fun v => v.category).sum ≤ 8) (hv0 : v.map (pm_rv pre base) = v) (hdg : decode bs pc = .ok (.invokestatic ix, 3)) (hP : pm_P dC dI aC pre base h H) (hz : H.size = base + h.length) (hS : va_S (fun q => base ≤ q) s.heap H locs)
    (kk : ∀ (H1 : Heap) (locs1 : List Loc), pm_P dC dI aC pre base h H1 → H1.size = base + h.length → va_S (fun q => base ≤ q) s.heap H1 locs1 → W p l e R s m args below meth c0 H1 locs1 c sl Q (F0 m (pc + 3) ls (v.toList ++ rest))) : W p l e R s m args below meth c0 H locs c sl Q (F0 m pc ls (As.reverse ++ rest)) := by
  obtain ⟨hx, hb, hml, hown, hts, hK, hX, hb0, hb1, hN, rfl⟩ := X
  have hM1 : Met l (pm_y m2) (pm_ws m2) (pm_rm m2) (va_Pc As (pm_Wd dC dI aC pre base xs h)) (pm_Qc dC dI aC pre base (v, h)) 0 0 (fun q => base ≤ q) := by
    have := hM
    unfold sg_Met at this
    rw [hc0, hs0] at this
    exact this
  exact sg_back (m2 := m2) (va_runS (As := As) (rest := rest) ⟨hx, hb, hml, hown, hts⟩ hM1 (va_cwS As.length hts (pm_good (fun w hw => by
    rcases List.mem_append.mp hw with hw | hw
    · simp only [List.mem_cons, List.not_mem_nil, or_false] at hw
      rcases hw with rfl | rfl | rfl
      · exact w1
      · exact w2
      · exact w3
    · rcases List.mem_cons.mp hw with rfl | hw
      · exact w4
      · exact hw)) rfl (by show pm_c m2 = 0; exact hc0) (by show pm_s m2 = 0; exact hs0) hd hR) ⟨pm_blind, sg_pre1 hK hX hN hb0 hb1 hP hz hS As⟩ rfl rfl hls rfl (lv_room hrest) hdg ⟨by omega, by omega⟩) hv0 hS kk
/-- a call on a constant -/
theorem sg_callV (X : sg_X p R s m args meth c0 dC dI aC pre base xs own bs ml rm) {m2 : pm_M} {i ix : Nat} {As rest : List Value} {v : Option Value} {H : Heap} {locs : List Loc} {ls : Array Slot} (hi : i < 7) (hM : sg_Met l dC dI aC pre base xs m2 (.ref (pre (i + 1)) :: As) h v) (hc0 : pm_c m2 = 0) (hs0 : pm_s m2 = 0) (hcl : (pm_y m2).cls = "java/lang/String") (w1 : Cond.methodLink own ix (pm_y m2) ∈ lw_gt) (w2 : Cond.instanceMethod (pm_y m2) ∈ lw_gt) (w3 : Cond.selects "java/lang/String" (pm_y m2) (pm_y m2) ∈ lw_gt) (w4 : Cond.code (pm_y m2) (pm_b m2) (pm_ml m2) (pm_rt m2) ∈ lw_gt)
    (hd : (parseMethodDescriptor (pm_y m2).desc).map (fun d => d.parameters.length) = some As.length) (hR : pm_f m2 + 1 ≤ rm.frames ∧ 8 + (pm_ml m2 + 11) + pm_w m2 ≤ rm.locals) (hc : c ≤ rm.cells) (hs : sl ≤ rm.slots) (hls : ls.size = ml) (hrest : (rest.map fun v => v.category).sum ≤ 8) (hv0 : v.map (pm_rv pre base) = v) (hdg : decode bs pc = .ok (.invokevirtual ix, 3)) (hP : pm_P dC dI aC pre base h H) (hz : H.size = base + h.length) (hS : va_S (fun q => base ≤ q) s.heap H locs)
    (kk : ∀ (H1 : Heap) (locs1 : List Loc), pm_P dC dI aC pre base h H1 → H1.size = base + h.length → va_S (fun q => base ≤ q) s.heap H1 locs1 → W p l e R s m args below meth c0 H1 locs1 c sl Q (F0 m (pc + 3) ls (v.toList ++ rest))) : W p l e R s m args below meth c0 H locs c sl Q (F0 m pc ls (As.reverse ++ .ref (pre (i + 1)) :: rest)) := by
  obtain ⟨hx, hb, hml, hown, hts, hK, hX, hb0, hb1, hN, rfl⟩ := X
  have hM1 : Met l (pm_y m2) (pm_ws m2) (pm_rm m2) (va_Pc (.ref (pre (i + 1)) :: As) (pm_Wd dC dI aC pre base xs h)) (pm_Qc dC dI aC pre base (v, h)) 0 0 (fun q => base ≤ q) := by
    have := hM
    unfold sg_Met at this
    rw [hc0, hs0] at this
    exact this
  have hV := hX.2.1
  exact sg_back (m2 := m2) (va_runV (C := "java/lang/String") (b := pre (i + 1)) (As := As) (rest := rest) ⟨hx, hb, hml, hown, hts⟩ hM1 (cwV As.length hts (pm_good (fun w hw => by
    rcases List.mem_append.mp hw with hw | hw
    · simp only [List.mem_cons, List.not_mem_nil, or_false] at hw
      rcases hw with rfl | rfl | rfl | rfl
      · exact w1
      · exact w2
      · exact w3
      · exact sw_st_n
    · rcases List.mem_cons.mp hw with rfl | hw
      · exact w4
      · exact hw)) rfl (by show pm_c m2 = 0; exact hc0) (by show pm_s m2 = 0; exact hs0) ⟨hcl, by rw [hcl]; decide, by rw [hcl]; decide, hd⟩ hR) ⟨pm_blind, vk_recv (i := i) hV hi hS, sg_pre1 hK hX hN hb0 hb1 hP hz hS (.ref (pre (i + 1)) :: As)⟩ rfl rfl hls rfl (lv_room hrest) hdg ⟨by omega, by omega⟩) hv0 hS kk
theorem sm_cod {i : Nat} (hi : i < 7) : sg_Met l dC dI aC pre base xs sj_cod [.ref (pre (i + 1))] h (some (.int 0)) := by
  refine sg_enter sj_cod (by decide) (by exact Nat.le_refl 1) ?_
  intro p e s m below meth c0 ls X hr hlk hl hP hz
  obtain ⟨hx, hb, hml, hown, hts, hK, ⟨hX0, hV, hR, hZ, hF⟩, hb0, hb1, hN, -⟩ := id X
  have a0 : ls[0]? = some (.val (.ref (pre (i + 1)))) := lv_at hl 0 rfl
  refine va_gets (rest := []) hx hb hZ va_S.rf hown (hts _ sw_cs_l) (fun _ q => q) (by decide +kernel) ?_
  refine lv_if_eq (off := 10) (tgt := 13) hx hb (by decide +kernel) rfl (fun q => absurd q (by decide)) (fun _ => ?_)
  refine lv_aload_n (k := 0) hx hb (by decide +kernel) rfl a0 ?_
  refine vk_getf hx hb (hV.1 i hi).2.1 va_S.rf hown (hts _ sw_cdr_l) (fun _ q => q) (by decide +kernel) ?_
  refine lv_goto (off := 4) (tgt := 14) hx hb (by decide +kernel) rfl ?_
  exact W.zret hx hb hr (by decide) (fun t ht hW => ⟨rfl, ⟨by rw [ht]; exact hP, by rw [ht]; exact hz⟩, (va_S.rf (A := fun q => base ≤ q)).F ht⟩) (va_S.rf (A := fun q => base ≤ q) (H0 := s.heap)).2.2 (by decide +kernel) hlk
theorem sm_l1 {i : Nat} (hi : i < 7) : sg_Met l dC dI aC pre base xs sj_l1 [.ref (pre (i + 1))] h (some (.int 1)) := by
  refine sg_enter sj_l1 (by decide) (by exact Nat.le_refl 1) ?_
  intro p e s m below meth c0 ls X hr hlk hl hP hz
  obtain ⟨hx, hb, hml, hown, hts, hK, ⟨hX0, hV, hR, hZ, hF⟩, hb0, hb1, hN, -⟩ := id X
  have a0 : ls[0]? = some (.val (.ref (pre (i + 1)))) := lv_at hl 0 rfl
  refine va_gets (rest := []) hx hb hZ va_S.rf hown (hts _ sw_cs_l) (fun _ q => q) (by decide +kernel) ?_
  refine lv_if_eq (off := 14) (tgt := 17) hx hb (by decide +kernel) rfl (fun q => absurd q (by decide)) (fun _ => ?_)
  refine lv_aload_n (k := 0) hx hb (by decide +kernel) rfl a0 ?_
  refine vk_getf hx hb (hV.1 i hi).2.1 va_S.rf hown (hts _ sw_cdr_l) (fun _ q => q) (by decide +kernel) ?_
  refine lv_if_ne (off := 7) (tgt := 17) hx hb (by decide +kernel) rfl (fun q => absurd rfl q) (fun _ => ?_)
  refine lv_iconst (n := 1) hx hb (by decide +kernel) rfl ?_
  refine lv_goto (off := 4) (tgt := 18) hx hb (by decide +kernel) rfl ?_
  exact W.zret hx hb hr (by decide) (fun t ht hW => ⟨rfl, ⟨by rw [ht]; exact hP, by rw [ht]; exact hz⟩, (va_S.rf (A := fun q => base ≤ q)).F ht⟩) (va_S.rf (A := fun q => base ≤ q) (H0 := s.heap)).2.2 (by decide +kernel) hlk
theorem sm_len {i : Nat} (hi : i < 7) : sg_Met l dC dI aC pre base xs sj_len [.ref (pre (i + 1))] h (some (.int (Int32.ofNat (sg_len.getD i 0)))) := by
  refine sg_enter sj_len (by decide) (by exact Nat.le_refl 1) ?_
  intro p e s m below meth c0 ls X hr hlk hl hP hz
  obtain ⟨hx, hb, hml, hown, hts, hK, ⟨hX0, hV, hR, hZ, hF⟩, hb0, hb1, hN, -⟩ := id X
  have a0 : ls[0]? = some (.val (.ref (pre (i + 1)))) := lv_at hl 0 rfl
  refine lv_aload_n (k := 0) hx hb (by decide +kernel) rfl a0 ?_
  refine vk_getf hx hb (hV.1 i hi).2.2.1 va_S.rf hown (hts _ sw_val_l) (fun _ q => q) (by decide +kernel) ?_
  refine va_tlen hx hb (hV.1 i hi).2.2.2 va_S.rf rfl (by decide +kernel) ?_
  refine lv_aload_n (k := 0) hx hb (by decide +kernel) rfl a0 ?_
  refine sg_callV (As := []) (m2 := sj_cod) X hi (sm_cod hi) rfl rfl rfl sw_cod_l sw_cod_i sw_cod_s sw_cod_c (by decide) (by decide) (Nat.zero_le _) (Nat.zero_le _) hl.1 (by show 1 ≤ 8; decide) rfl (by decide +kernel) hP hz va_S.rf (fun H1 locs1 hP1 hz1 hS1 => ?_)
  refine lv_ishr (rest := []) hx hb (by decide +kernel) ?_
  rw [(sg_lens_ok hi).2]
  exact W.zret hx hb hr rfl (fun t ht hW => ⟨rfl, ⟨by rw [ht]; exact hP1, by rw [ht]; exact hz1⟩, hS1.F ht⟩) hS1.2.2 (by decide +kernel) hlk
theorem sm_pc {j n : Int32} {fv : Value} (hf : fv = .null ∨ ∃ t, fv = .ref t) (h0 : ¬ j < 0) (hj : j < n) : sg_Met l dC dI aC pre base xs sj_pc [.int j, .int n, fv] h (some (.int j)) := by
  refine sg_enter sj_pc (by decide) (by rcases hf with rfl | ⟨t, rfl⟩ <;> exact Nat.le_refl 3) ?_
  intro p e s m below meth c0 ls X hr hlk hl hP hz
  obtain ⟨hx, hb, hml, hown, hts, hK, ⟨hX0, hV, hR, hZ, hF⟩, hb0, hb1, hN, -⟩ := id X
  have a0 : ls[0]? = some (.val (.int j)) := lv_at hl 0 rfl
  have a1 : ls[1]? = some (.val (.int n)) := lv_at hl 1 rfl
  refine lv_iload_n (k := 0) hx hb (by decide +kernel) rfl a0 ?_
  refine lv_if_lt (off := 8) (tgt := 9) hx hb (by decide +kernel) rfl (fun q => absurd q h0) (fun _ => ?_)
  refine lv_iload_n (k := 0) hx hb (by decide +kernel) rfl a0 ?_
  refine lv_iload_n (k := 1) hx hb (by decide +kernel) rfl a1 ?_
  refine lv_icmp_lt (off := 10) (tgt := 16) hx hb (by decide +kernel) rfl (fun _ => ?_) (fun q => absurd hj q)
  refine lv_iload_n (k := 0) hx hb (by decide +kernel) rfl a0 ?_
  exact W.zret hx hb hr rfl (fun t ht hW => ⟨rfl, ⟨by rw [ht]; exact hP, by rw [ht]; exact hz⟩, (va_S.rf (A := fun q => base ≤ q)).F ht⟩) (va_S.rf (A := fun q => base ≤ q) (H0 := s.heap)).2.2 (by decide +kernel) hlk
theorem sm_ck {j n : Int32} (h0 : ¬ j < 0) (hj : j < n) : sg_Met l dC dI aC pre base xs sj_ck [.int j, .int n] h none := by
  refine sg_enter sj_ck (by decide) (by exact Nat.le_refl 2) ?_
  intro p e s m below meth c0 ls X hr hlk hl hP hz
  obtain ⟨hx, hb, hml, hown, hts, hK, ⟨hX0, hV, hR, hZ, hF⟩, hb0, hb1, hN, -⟩ := id X
  have a0 : ls[0]? = some (.val (.int j)) := lv_at hl 0 rfl
  have a1 : ls[1]? = some (.val (.int n)) := lv_at hl 1 rfl
  have hF2 : ∃ fv : Value, (fv = .null ∨ ∃ t, fv = .ref t) ∧ va_Z "jdk/internal/util/Preconditions" "SIOOBE_FORMATTER" "Ljava/util/function/BiFunction;" fv (fun q => base ≤ q) s s.heap := by
    rcases hF with hF | ⟨t, hF⟩
    · exact ⟨_, Or.inl rfl, hF⟩
    · exact ⟨_, Or.inr ⟨t, rfl⟩, hF⟩
  obtain ⟨fv, hfv, hF3⟩ := hF2
  refine lv_iload_n (k := 0) hx hb (by decide +kernel) rfl a0 ?_
  refine lv_iload_n (k := 1) hx hb (by decide +kernel) rfl a1 ?_
  refine va_gets hx hb hF3 va_S.rf hown (hts _ sw_fm_l) (fun _ q => q) (by decide +kernel) ?_
  refine sg_callS (As := [.int j, .int n, fv]) (rest := []) (m2 := sj_pc) X (sm_pc hfv h0 hj) rfl rfl sw_pc_l sw_pc_t sw_sp_n sw_pc_c ⟨by decide, by decide, by show _ = some 3; decide⟩ (by decide) (Nat.zero_le _) (Nat.zero_le _) hl.1 (by decide) rfl (by decide +kernel) hP hz va_S.rf (fun H1 locs1 hP1 hz1 hS1 => ?_)
  refine lv_pop (rest := []) hx hb (by decide +kernel) rfl ?_
  exact W.vret hx hb hr (fun t ht hW => ⟨rfl, ⟨by rw [ht]; exact hP1, by rw [ht]; exact hz1⟩, hS1.F ht⟩) hS1.2.2 (by decide +kernel) hlk
theorem sm_la {i : Nat} {j : Int32} (hi : i < 7) (h0 : ¬ j < 0) (hj : j.toNatClampNeg < sg_len.getD i 0) : sg_Met l dC dI aC pre base xs sj_la [.ref (pre (i + 8)), .int j] h (some (.int ((sg_byt.getD i []).getD j.toNatClampNeg 0))) := by
  refine sg_enter sj_la (by decide) (by exact Nat.le_refl 2) ?_
  intro p e s m below meth c0 ls X hr hlk hl hP hz
  obtain ⟨hx, hb, hml, hown, hts, hK, ⟨hX0, hV, hR, hZ, hF⟩, hb0, hb1, hN, -⟩ := id X
  have a0 : ls[0]? = some (.val (.ref (pre (i + 8)))) := lv_at hl 0 rfl
  have a1 : ls[1]? = some (.val (.int j)) := lv_at hl 1 rfl
  refine lv_iload_n (k := 1) hx hb (by decide +kernel) rfl a1 ?_
  refine lv_aload_n (k := 0) hx hb (by decide +kernel) rfl a0 ?_
  refine va_tlen hx hb (hV.1 i hi).2.2.2 va_S.rf rfl (by decide +kernel) ?_
  refine sg_callS (As := [.int j, .int (Int32.ofNat (sg_len.getD i 0))]) (rest := []) (m2 := sj_ck) X (sm_ck h0 (sg_lt (sg_lens_ok hi).1 h0 hj)) rfl rfl sw_ck_l sw_ck_t sw_st_n sw_ck_c ⟨by decide, by decide, by show _ = some 2; decide⟩ (by decide) (Nat.zero_le _) (Nat.zero_le _) hl.1 (by decide) rfl (by decide +kernel) hP hz va_S.rf (fun H1 locs1 hP1 hz1 hS1 => ?_)
  refine lv_aload_n (rest := []) (k := 0) hx hb (by decide +kernel) rfl a0 ?_
  refine lv_iload_n (k := 1) hx hb (by decide +kernel) rfl a1 ?_
  refine va_tb hx hb (hV.1 i hi).2.2.2 hS1 (pm_inl h0 hj) rfl (by decide +kernel) ?_
  refine lv_sipush (n := 255) hx hb (by decide +kernel) rfl ?_
  refine lv_iand hx hb (by decide +kernel) ?_
  refine lv_i2c hx hb (by decide +kernel) (sg_char_ok hi hj).2 ?_
  exact W.zret hx hb hr (sg_char_ok hi hj).1 (fun t ht hW => ⟨rfl, ⟨by rw [ht]; exact hP1, by rw [ht]; exact hz1⟩, hS1.F ht⟩) hS1.2.2 (by decide +kernel) hlk
theorem sm_ch {i : Nat} {j : Int32} (hi : i < 7) (h0 : ¬ j < 0) (hj : j.toNatClampNeg < sg_len.getD i 0) : sg_Met l dC dI aC pre base xs sj_ch [.ref (pre (i + 1)), .int j] h (some (.int ((sg_byt.getD i []).getD j.toNatClampNeg 0))) := by
  refine sg_enter sj_ch (by decide) (by exact Nat.le_refl 2) ?_
  intro p e s m below meth c0 ls X hr hlk hl hP hz
  obtain ⟨hx, hb, hml, hown, hts, hK, ⟨hX0, hV, hR, hZ, hF⟩, hb0, hb1, hN, -⟩ := id X
  have a0 : ls[0]? = some (.val (.ref (pre (i + 1)))) := lv_at hl 0 rfl
  have a1 : ls[1]? = some (.val (.int j)) := lv_at hl 1 rfl
  refine lv_aload_n (k := 0) hx hb (by decide +kernel) rfl a0 ?_
  refine sg_callV (As := []) (rest := []) (m2 := sj_l1) X hi (sm_l1 hi) rfl rfl rfl sw_l1_l sw_l1_i sw_l1_s sw_l1_c (by decide) (by decide) (Nat.zero_le _) (Nat.zero_le _) hl.1 (by decide) rfl (by decide +kernel) hP hz va_S.rf (fun H1 locs1 hP1 hz1 hS1 => ?_)
  refine lv_if_eq (rest := []) (off := 12) (tgt := 16) hx hb (by decide +kernel) rfl (fun q => absurd q (by decide)) (fun _ => ?_)
  refine lv_aload_n (k := 0) hx hb (by decide +kernel) rfl a0 ?_
  refine vk_getf hx hb (hV.1 i hi).2.2.1 hS1 hown (hts _ sw_val_l) (fun _ q => q) (by decide +kernel) ?_
  refine lv_iload_n (k := 1) hx hb (by decide +kernel) rfl a1 ?_
  refine sg_callS (As := [.ref (pre (i + 8)), .int j]) (rest := []) (m2 := sj_la) X (sm_la hi h0 hj) rfl rfl sw_la_l sw_la_t sw_sl_n sw_la_c ⟨by decide, by decide, by show _ = some 2; decide⟩ (by decide) (Nat.zero_le _) (Nat.zero_le _) hl.1 (by decide) rfl (by decide +kernel) hP1 hz1 hS1 (fun H2 locs2 hP2 hz2 hS2 => ?_)
  exact W.zret hx hb hr (sg_char_ok hi hj).1 (fun t ht hW => ⟨rfl, ⟨by rw [ht]; exact hP2, by rw [ht]; exact hz2⟩, hS2.F ht⟩) hS2.2.2 (by decide +kernel) hlk
theorem sg_ad {b : Nat} (h1 : 1 ≤ b) (h2 : b ≤ 7) : pm_ad pre base b = pre (b - 1 + 1) := by
  unfold pm_ad
  rw [if_pos (by omega), Nat.sub_add_cancel h1]
theorem ps_ldcs (X : pm_X p R s m args meth c0 dC dI aC pre base xs mm) {ix b : Nat} (hf : kN (pm_o mm) = "MoodTown$Telling" ∧ sg_ix (b - 1) = ix) (hd : decode (pm_b mm) pc = .ok (.ldc ix, 2)) (ih : pm_IH p l e R s m args below meth c0 Q dC dI aC pre base mm k r) (hk : pm_ldcs k b pc lv st h c sl = some r) : pm_W p l e R s m args below meth c0 Q dC dI aC pre base mm pc lv st h c sl := by
  obtain ⟨hx, hb, hml, hown, hts, hin, hK, hX, hb0, hb1, hN, rfl⟩ := X
  unfold pm_ldcs at hk
  split at hk
  · rename_i h1
    split at hk
    · rename_i h2
      intro H locs ls hc hs hl hP hz hS
      have hr := ih _ _ _ _ _ _ hk H locs ls hc hs hl hP hz hS
      rw [pm_m1 (sg_ad h1 h2)] at hr
      rw [hf.1] at hown
      have hZ := hX.2.2.1 (b - 1) (by omega)
      rw [hf.2] at hZ
      exact va_ldcS hx hb hown hZ hd hr
    · cases hk
  · cases hk
theorem ps_slen (X : pm_X p R s m args meth c0 dC dI aC pre base xs mm) {ix : Nat} (hf : kN (pm_o mm) = "MoodTown$Tape" ∧ ix = 38 ∧ 2 ≤ pm_f mm ∧ 40 ≤ pm_w mm) (hd : decode (pm_b mm) pc = .ok (.invokevirtual ix, 3)) (ih : pm_IH p l e R s m args below meth c0 Q dC dI aC pre base mm k r) (hk : pm_slen k pc lv st h c sl = some r) : pm_W p l e R s m args below meth c0 Q dC dI aC pre base mm pc lv st h c sl := by
  obtain ⟨hx, hb, hml, hown, hts, hin, hK, hX, hb0, hb1, hN, rfl⟩ := X
  obtain ⟨hf1, rfl, hf3, hf4⟩ := hf
  rw [hf1] at hown
  unfold pm_slen at hk
  split at hk
  · rename_i b rr
    split at hk
    · rename_i h1
      split at hk
      · rename_i h2
        split at hk
        · rename_i hcat
          intro H locs ls hc hs hl hP hz hS
          have hi7 : b - 1 < 7 := Nat.lt_of_le_of_lt (Nat.sub_le_sub_right h2 1) (by decide)
          rw [pm_m1 (sg_ad h1 h2)]
          exact sg_callV (As := []) (m2 := sj_len) (i := b - 1) (rest := rr.map (pm_rv pre base)) ⟨hx, hb, hml, hown, hts, hK, hX, hb0, hb1, hN, rfl⟩ hi7 (sm_len hi7) rfl rfl rfl sw_len_l sw_len_i sw_len_s sw_len_c (by decide) ⟨hf3, hf4⟩ hc hs hl.1 (by rw [pm_cats]; exact hcat) rfl hd hP hz hS (fun H1 locs1 hP1 hz1 hS1 => ih _ _ _ _ _ _ hk H1 locs1 ls hc hs hl hP1 hz1 hS1)
        · cases hk
      · cases hk
    · cases hk
  · cases hk
theorem ps_sch (X : pm_X p R s m args meth c0 dC dI aC pre base xs mm) {ix : Nat} (hf : kN (pm_o mm) = "MoodTown$Tape" ∧ ix = 43 ∧ 4 ≤ pm_f mm ∧ 85 ≤ pm_w mm) (hd : decode (pm_b mm) pc = .ok (.invokevirtual ix, 3)) (ih : pm_IH p l e R s m args below meth c0 Q dC dI aC pre base mm k r) (hk : pm_sch k pc lv st h c sl = some r) : pm_W p l e R s m args below meth c0 Q dC dI aC pre base mm pc lv st h c sl := by
  obtain ⟨hx, hb, hml, hown, hts, hin, hK, hX, hb0, hb1, hN, rfl⟩ := X
  obtain ⟨hf1, rfl, hf3, hf4⟩ := hf
  rw [hf1] at hown
  unfold pm_sch at hk
  split at hk
  · rename_i j b rr
    split at hk
    · rename_i h1
      split at hk
      · rename_i h2
        split at hk
        · cases hk
        · rename_i h0
          split at hk
          · rename_i hj
            split at hk
            · rename_i hcat
              intro H locs ls hc hs hl hP hz hS
              have hi7 : b - 1 < 7 := Nat.lt_of_le_of_lt (Nat.sub_le_sub_right h2 1) (by decide)
              rw [pm_m2 (sg_ad h1 h2)]
              exact sg_callV (As := [.int j]) (m2 := sj_ch) (i := b - 1) (rest := rr.map (pm_rv pre base)) ⟨hx, hb, hml, hown, hts, hK, hX, hb0, hb1, hN, rfl⟩ hi7 (sm_ch hi7 h0 hj) rfl rfl rfl sw_ch_l sw_ch_i sw_ch_s sw_ch_c (by show _ = some 1; decide) ⟨hf3, hf4⟩ hc hs hl.1 (by rw [pm_cats]; exact hcat) rfl hd hP hz hS (fun H1 locs1 hP1 hz1 hS1 => ih _ _ _ _ _ _ hk H1 locs1 ls hc hs hl hP1 hz1 hS1)
            · cases hk
          · cases hk
      · cases hk
    · cases hk
  · cases hk
end Jdk
end
section
/-! ONE STEP, A FRAME, A CALL: the pure machine is sound. -/
def pm_rok (mm : pm_M) (i : Instr) (st : List Value) (h : pm_H) (r : Option Value × pm_H) : Prop := (i = .ireturn ∧ pm_ret mm st h = some r) ∨ (i = .lreturn ∧ pm_retl mm st h = some r) ∨ (i = .areturn ∧ pm_reta mm st h = some r) ∨ (i = .return_ ∧ pm_retv mm st h = some r)
section Sound
variable {p : Program} {l : Launch} {e : Env} {R : Room} {s : State} {m : MethodId} {args : Array Value} {below : List Frame} {meth : Method} {c0 : Code} {Q : State → Prop} {dC : Nat → ClassId} {dI : Nat → Nat → Nat} {aC : Nat → ClassId} {pre : Nat → Nat} {base : Nat} {xs : List Int32} {mm : pm_M} {k : pm_K} {r : Option Value × pm_H} {pc : Nat} {lv : pm_L} {st : List Value} {h : pm_H} {c sl : Nat} {tab : Nat → Option pm_M} {big : Nat → List Value → pm_H → pm_R}
set_option maxHeartbeats 4000000 in
theorem pm_step_ok (X : pm_X p R s m args meth c0 dC dI aC pre base xs mm) {ee : pm_E} (hD : pm_okD mm pc ee.1) (hL : pm_okL tab mm pc ee) (hbig : ∀ M2 m2 as h r, tab M2 = some m2 → big M2 as h = some r → pm_Met l dC dI aC pre base xs m2 as h r) (ih : pm_IH p l e R s m args below meth c0 Q dC dI aC pre base mm k r) (hret : ∀ i pc lv st h c sl, pm_rok mm i st h r → decode (pm_b mm) pc = .ok (i, 1) → pm_W p l e R s m args below meth c0 Q dC dI aC pre base mm pc lv st h c sl) (hk : pm_step xs tab big mm k ee pc lv st h c sl = some r) : pm_W p l e R s m args below meth c0 Q dC dI aC pre base mm pc lv st h c sl := by
  obtain ⟨i, a, b, z⟩ := ee
  cases i with
  | iconst => exact ps_iconst X hD ih hk
  | bipush => exact ps_bipush X hD ih hk
  | sipush => exact ps_sipush X hD ih hk
  | lconst => exact ps_lconst X hD ih hk
  | iload_n => exact ps_iload_n X hD ih hk
  | iload => exact ps_iload X hD ih hk
  | lload_n => exact ps_lload_n X hD ih hk
  | lload => exact ps_lload X hD ih hk
  | aload_n => exact ps_aload_n X hD ih hk
  | aload => exact ps_aload X hD ih hk
  | istore_n => exact ps_istore_n X hD ih hk
  | istore => exact ps_istore X hD ih hk
  | lstore_n => exact ps_lstore_n X hD ih hk
  | lstore => exact ps_lstore X hD ih hk
  | astore_n => exact ps_astore_n X hD ih hk
  | astore => exact ps_astore X hD ih hk
  | iinc => exact ps_iinc X hD ih hk
  | ldc2_w => exact ps_ldc2 X hL hD ih hk
  | ifCond => exact ps_ifCond X hL hD ih hk
  | if_icmp => exact ps_if_icmp X hL hD ih hk
  | goto => exact ps_goto X hL hD ih hk
  | getfield => exact ps_getf X hL hD ih hk
  | putfield => exact ps_putf X hL.1 hL.2 hD ih hk
  | iaload => exact ps_iald X hD ih hk
  | baload => exact ps_bald X hD ih hk
  | laload => exact ps_lald X hD ih hk
  | aaload => exact ps_aald X hD ih hk
  | iastore => exact ps_iast X hD ih hk
  | bastore => exact ps_bast X hD ih hk
  | lastore => exact ps_last X hD ih hk
  | aastore => exact ps_aast X hD ih hk
  | arraylength => exact ps_alen X hD ih hk
  | new => exact ps_new X hL hD ih hk
  | newarray => exact ps_newa X hD ih hk
  | ireturn => exact hret .ireturn _ _ _ _ _ _ (Or.inl ⟨rfl, hk⟩) hD
  | lreturn => exact hret .lreturn _ _ _ _ _ _ (Or.inr (Or.inl ⟨rfl, hk⟩)) hD
  | areturn => exact hret .areturn _ _ _ _ _ _ (Or.inr (Or.inr (Or.inl ⟨rfl, hk⟩))) hD
  | return_ => exact hret .return_ _ _ _ _ _ _ (Or.inr (Or.inr (Or.inr ⟨rfl, hk⟩))) hD
  | iadd => exact ps_iadd X hD ih hk
  | isub => exact ps_isub X hD ih hk
  | imul => exact ps_imul X hD ih hk
  | iand => exact ps_iand X hD ih hk
  | ior => exact ps_ior X hD ih hk
  | ixor => exact ps_ixor X hD ih hk
  | ishl => exact ps_ishl X hD ih hk
  | ishr => exact ps_ishr X hD ih hk
  | iushr => exact ps_iushr X hD ih hk
  | idiv => exact ps_idiv X hD ih hk
  | irem => exact ps_irem X hD ih hk
  | ladd => exact ps_ladd X hD ih hk
  | lmul => exact ps_lmul X hD ih hk
  | ldiv => exact ps_ldiv X hD ih hk
  | lrem => exact ps_lrem X hD ih hk
  | ineg => exact ps_ineg X hD ih hk
  | i2b => exact ps_i2b X hD ih hk
  | i2s => exact ps_i2s X hD ih hk
  | i2l => exact ps_i2l X hD ih hk
  | lcmp => exact ps_lcmp X hD ih hk
  | dup => exact ps_dup X hD ih hk
  | dup2 => exact ps_dup2 X hD ih hk
  | pop => exact ps_pop X hD ih hk
  | pop2 => exact ps_pop2 X hD ih hk
  | ldc ix =>
    by_cases ha : a = 0
    · exact ps_ldc X (hL.1 ha) hD ih ((if_pos ha).symm.trans hk)
    · have hk2 := (if_neg ha).symm.trans hk
      by_cases h1 : a = 1
      · exact ps_ldcs X (hL.2 h1) hD ih ((if_pos h1).symm.trans hk2)
      · exact absurd ((if_neg h1).symm.trans hk2) (fun q => by cases q)
  | ldc_w ix =>
    by_cases ha : a = 0
    · exact ps_ldc_w X (hL ha) hD ih ((if_pos ha).symm.trans hk)
    · exact absurd ((if_neg ha).symm.trans hk) (fun q => by cases q)
  | tableswitch d lo hi offs =>
    obtain ⟨len, hD⟩ := hD
    exact ps_tsw X hD ih hk
  | anewarray ix =>
    rcases hL.1 with ha | ha
    · have ha : a = 4 := ha
      subst ha
      exact ps_anew (t := 4) (C := "MoodTown$Town") X ⟨rfl, hL.2, Or.inl rfl⟩ hD ih hk
    · have ha : a = 5 := ha
      subst ha
      exact ps_anew (t := 5) (C := "MoodTown$Sheet") X ⟨rfl, hL.2, Or.inr rfl⟩ hD ih hk
  | invokevirtual ix =>
    by_cases hb : b = 0
    · have hk1 : pm_inv k tab big mm a pc lv st h c sl = some r := (if_pos hb).symm.trans hk
      cases ht : tab a with
      | none => unfold pm_inv at hk1; rw [ht] at hk1; cases hk1
      | some m2 => exact ps_inv0 X ht (fun as h r q => hbig _ _ _ _ _ ht q) (hL.1 hb m2 ht) hD ih hk1
    · have hk2 := (if_neg hb).symm.trans hk
      by_cases hb4 : b = 4
      · exact ps_slen X (hL.2.1 hb4) hD ih ((if_pos hb4).symm.trans hk2)
      · have hk3 := (if_neg hb4).symm.trans hk2
        by_cases hb5 : b = 5
        · exact ps_sch X (hL.2.2 hb5) hD ih ((if_pos hb5).symm.trans hk3)
        · exact absurd ((if_neg hb5).symm.trans hk3) (fun q => by cases q)
  | invokespecial ix =>
    by_cases hb : b = 1
    · have hk1 : pm_inv k tab big mm a pc lv st h c sl = some r := (if_pos hb).symm.trans hk
      cases ht : tab a with
      | none => unfold pm_inv at hk1; rw [ht] at hk1; cases hk1
      | some m2 => exact ps_inv1 X ht (fun as h r q => hbig _ _ _ _ _ ht q) (hL.1 hb m2 ht) hD ih hk1
    · have hk2 := (if_neg hb).symm.trans hk
      by_cases hb9 : b = 9
      · exact ps_obj X (hL.2 hb9) hD ih ((if_pos hb9).symm.trans hk2)
      · exact absurd ((if_neg hb9).symm.trans hk2) (fun q => by cases q)
  | invokestatic ix =>
    by_cases hb : b = 8
    · exact ps_copy X (hL.1 hb) hD ih ((if_pos hb).symm.trans hk)
    · have hk2 := (if_neg hb).symm.trans hk
      by_cases hb2 : b = 2 ∨ b = 3
      · have hk1 : pm_ins k tab big mm a pc lv st h c sl = some r := (if_pos hb2).symm.trans hk2
        cases ht : tab a with
        | none => unfold pm_ins at hk1; rw [ht] at hk1; cases hk1
        | some m2 =>
          rcases hb2 with hb2 | hb2
          · exact ps_ins2 X ht (fun as h r q => hbig _ _ _ _ _ ht q) (hL.2.1 hb2 m2 ht) hD ih hk1
          · exact ps_ins3 X ht (fun as h r q => hbig _ _ _ _ _ ht q) (hL.2.2 hb2 m2 ht) hD ih hk1
      · exact absurd ((if_neg hb2).symm.trans hk2) (fun q => by cases q)
  | _ => exact absurd (show (none : pm_R) = some r from hk) (fun q => by cases q)
theorem pm_run_ok (X : pm_X p R s m args meth c0 dC dI aC pre base xs mm) (hok : ∀ pc ee, pm_at mm pc = some ee → pm_okD mm pc ee.1 ∧ pm_okL tab mm pc ee) (hbig : ∀ M2 m2 as h r, tab M2 = some m2 → big M2 as h = some r → pm_Met l dC dI aC pre base xs m2 as h r) (hret : ∀ i pc lv st h c sl, pm_rok mm i st h r → decode (pm_b mm) pc = .ok (i, 1) → pm_W p l e R s m args below meth c0 Q dC dI aC pre base mm pc lv st h c sl) : ∀ n, pm_IH p l e R s m args below meth c0 Q dC dI aC pre base mm (pm_run xs tab big mm n) r := by
  intro n
  induction n with
  | zero => intro pc lv st h c sl hk; cases hk
  | succ n ih =>
    intro pc lv st h c sl hk
    have hk1 : pm_next xs tab big mm (pm_run xs tab big mm n) pc lv st h c sl = some r := hk
    unfold pm_next at hk1
    split at hk1
    · rename_i ee he
      exact pm_step_ok X (hok _ _ he).1 (hok _ _ he).2 hbig ih hret hk1
    · cases hk1
end Sound
theorem pm_args (pre : Nat → Nat) (base : Nat) : ∀ (as : List Value) (i : Nat), lv_args i (as.map (pm_rv pre base)) = (lv_args i as).map (pm_lv pre base)
  | [], _ => rfl
  | v :: as, i => by
    show (i, pm_rv pre base v) :: lv_args (if (pm_rv pre base v).category = 2 then i + 2 else i + 1) (as.map (pm_rv pre base)) = _
    rw [pm_cat, pm_args pre base as]
    rfl
theorem pm_sl (pre : Nat → Nat) (base : Nat) : ∀ (as : List Value), (lg_sl (as.map (pm_rv pre base))).length = pm_words as
  | [] => rfl
  | v :: as => by
    have ih := pm_sl pre base as
    unfold lg_sl at ih ⊢
    rw [List.map_cons, List.flatMap_cons, List.length_append, ih, pm_cat]
    unfold pm_words
    rw [List.map_cons, List.sum_cons]
    congr 1
    cases v <;> rfl
/-- what is asked of the table of methods -/
def pm_tabok (tab : Nat → Option pm_M) : Prop := ∀ M mm, tab M = some mm → plainFor (pm_y mm) = true ∧ kN (pm_o mm) = (pm_y mm).cls ∧ ∀ pc ee, pm_at mm pc = some ee → pm_okD mm pc ee.1 ∧ pm_okL tab mm pc ee
set_option maxHeartbeats 4000000 in
theorem pm_big_ok (l : Launch) (dC : Nat → ClassId) (dI : Nat → Nat → Nat) (aC : Nat → ClassId) (pre : Nat → Nat) (base : Nat) (xs : List Int32) {tab : Nat → Option pm_M} (htab : pm_tabok tab) (N : Nat) : ∀ (d M : Nat) (mm : pm_M) (as : List Value) (h : pm_H) (r : Option Value × pm_H), tab M = some mm → pm_big xs tab N d M as h = some r → pm_Met l dC dI aC pre base xs mm as h r := by
  intro d
  induction d with
  | zero => intro M mm as h r _ hk; cases hk
  | succ d ih =>
    intro M mm as h r hM hk
    obtain ⟨hplain, hown0, hok⟩ := htab M mm hM
    have hk1 : (match tab M with
      | some mm => if pm_words as ≤ pm_ml mm then (if as.length = pm_n mm then pm_run xs tab (pm_big xs tab N d) mm N 0 (lv_args 0 as) [] h 0 0 else none) else none
      | none => none) = some r := hk
    rw [hM] at hk1
    dsimp only at hk1
    split at hk1
    · rename_i hw
      split at hk1
      · refine va_MetF (cc := pm_b mm) (maxL := pm_ml mm) (ret := pm_rt mm) hplain rfl ?_
        intro p e s m args below meth c0 s₁ B hml hv
        obtain ⟨rfl, hP, hz, hK, hX, hN, hb0⟩ := hv
        have hr := B.returns
        have hlocks := B.notSynchronized
        have hts := atoms_spec (ws := pm_ws mm) B.pre
        have hown : s.vm.findClass (kN (pm_o mm)) = some m.cls := by rw [hown0]; exact findClass_of_methodNamed B.named
        have X : pm_X p (pm_rm mm) s m (as.map (pm_rv pre base)).toArray meth c0 dC dI aC pre base xs mm := ⟨B.exec, B.bytes, hml, hown, fun w hw => hts w (List.mem_cons_of_mem _ hw), fun hi => (name_of_methodNamed B.named B.method).1.trans hi, hK, hX, hb0, by omega, hN, rfl⟩
        have hret : ∀ i pc lv st h c sl, pm_rok mm i st h r → decode (pm_b mm) pc = .ok (i, 1) → pm_W p l e (pm_rm mm) s m (as.map (pm_rv pre base)).toArray below meth c0 (MQ below (pm_Qc dC dI aC pre base r) (as.map (pm_rv pre base)).toArray s (pm_c mm) (pm_s mm) (fun q => base ≤ q)) dC dI aC pre base mm pc lv st h c sl := by
          intro i pc lv st h c sl hro hd H locs ls hc hs hl hP hz hS
          refine W.widen hc hs ?_
          rcases hro with ⟨rfl, hro⟩ | ⟨rfl, hro⟩ | ⟨rfl, hro⟩ | ⟨rfl, hro⟩
          · unfold pm_ret at hro
            split at hro
            · rename_i v ty hty
              split at hro
              · rename_i hfit
                cases hro
                exact W.zret B.exec B.bytes (hr.trans hty) (pm_fit_ok (pre := pre) (base := base) hfit).1 (fun t ht hW => ⟨rfl, ⟨by rw [ht]; exact hP, by rw [ht]; exact hz⟩, hS.F ht⟩) hS.2.2 hd
              · cases hro
            · cases hro
          · unfold pm_retl at hro
            split at hro
            · rename_i v hty
              cases hro
              exact W.lret B.exec B.bytes (hr.trans hty) (fun t ht hW => ⟨rfl, ⟨by rw [ht]; exact hP, by rw [ht]; exact hz⟩, hS.F ht⟩) hS.2.2 hd
            · cases hro
          · unfold pm_reta at hro
            split at hro
            · rename_i v nm hty
              cases hro
              exact W.aret B.exec B.bytes (hr.trans hty) (Or.inl ⟨_, rfl⟩) (Or.inr ⟨_, rfl⟩) (fun t ht hW => ⟨rfl, ⟨by rw [ht]; exact hP, by rw [ht]; exact hz⟩, hS.F ht⟩) hS.2.2 hd
            · cases hro
          · unfold pm_retv at hro
            split at hro
            · rename_i hty
              cases hro
              exact W.vret B.exec B.bytes (hr.trans hty) (fun t ht hW => ⟨rfl, ⟨by rw [ht]; exact hP, by rw [ht]; exact hz⟩, hS.F ht⟩) hS.2.2 hd
            · cases hro
        have hl := lv_entry (as.map (pm_rv pre base)) (n := pm_ml mm) (by rw [pm_sl]; exact hw)
        rw [lg_entry_eq]
        rw [pm_args] at hl
        exact pm_run_ok X hok (fun M2 m2 as h r ht hb => ih M2 m2 as h r ht hb) hret N _ _ _ _ _ _ hk1 s.heap [] _ (Nat.zero_le _) (Nat.zero_le _) hl hP hz va_S.rf
      · cases hk1
    · cases hk1
end
