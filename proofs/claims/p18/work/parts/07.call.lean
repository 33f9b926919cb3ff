/-! FROM THE PURE MACHINE TO THE MACHINE: calls, ends, one step, a frame, a call of any depth. -/
theorem pm_good {ws : List Cond} (h : ∀ w ∈ ws, w ∈ lw_gt) : GoodIn lw_gt ws := fun w hw => ⟨h w hw, good_of_word (List.mem_filter.mp (h w hw)).2⟩
def pm_Wd (dC : Nat → ClassId) (dI : Nat → Nat → Nat) (aC : Nat → ClassId) (pre : Nat → Nat) (base : Nat) (xs : List Int32) (h : pm_H) (U : State) : Prop := pm_P dC dI aC pre base h U.heap ∧ U.heap.size = base + h.length ∧ va_K (dC, dI) kC (pm_ty aC) U ∧ pm_Xs pre base xs U U.heap ∧ pm_N U ∧ pre 0 < base
def pm_Qc (dC : Nat → ClassId) (dI : Nat → Nat → Nat) (aC : Nat → ClassId) (pre : Nat → Nat) (base : Nat) (r : Option Value × pm_H) : Array Value → State → Outcome → State → Prop := fun _ st oc t => oc = .returned (r.1.map (pm_rv pre base)) ∧ (pm_P dC dI aC pre base r.2 t.heap ∧ t.heap.size = base + r.2.length) ∧ va_F (fun q => base ≤ q) st t
def pm_ws (m2 : pm_M) : List Cond := .code (pm_y m2) (pm_b m2) (pm_ml m2) (pm_rt m2) :: lw_gt
/-- the contract of one pure call -/
def pm_Met (l : Launch) (dC : Nat → ClassId) (dI : Nat → Nat → Nat) (aC : Nat → ClassId) (pre : Nat → Nat) (base : Nat) (xs : List Int32) (m2 : pm_M) (as : List Value) (h : pm_H) (r : Option Value × pm_H) : Prop := Met l (pm_y m2) (pm_ws m2) (pm_rm m2) (va_Pc (as.map (pm_rv pre base)) (pm_Wd dC dI aC pre base xs h)) (pm_Qc dC dI aC pre base r) (pm_c m2) (pm_s m2) (fun q => base ≤ q)
theorem pm_blind {av : List Value} {dC : Nat → ClassId} {dI : Nat → Nat → Nat} {aC : Nat → ClassId} {pre : Nat → Nat} {base : Nat} {xs : List Int32} {h : pm_H} : FrameBlind (va_Pc av (pm_Wd dC dI aC pre base xs h)) := fun a U g mk q => ⟨q.1, q.2.1, q.2.2.1, va_K.moved (u := U) (U := U.calling g mk a) (Vm.Alike.refl U.vm) q.2.2.2.1, pm_Xs.same (u := U) (U := U.calling g mk a) rfl q.2.2.2.2.1, ⟨va_AO.moved (u := U) (U := U.calling g mk a) (Vm.Alike.refl U.vm) q.2.2.2.2.2.1.1, va_AO.moved (u := U) (U := U.calling g mk a) (Vm.Alike.refl U.vm) q.2.2.2.2.2.1.2.1, fun w hw => va_Nw.same (u := U) (U := U.calling g mk a) rfl rfl (q.2.2.2.2.2.1.2.2 w hw)⟩, q.2.2.2.2.2.2⟩
def pm_hd (m2 : pm_M) (n : Nat) : Prop := Cond.code (pm_y m2) (pm_b m2) (pm_ml m2) (pm_rt m2) ∈ lw_gt ∧ Cond.initialized (pm_y m2).cls ∈ lw_gt ∧ (pm_y m2).cls ≠ "java/lang/invoke/MethodHandle" ∧ (pm_y m2).cls ≠ "java/lang/invoke/VarHandle" ∧ (parseMethodDescriptor (pm_y m2).desc).map (fun d => d.parameters.length) = some n
def pm_rmok (mm m2 : pm_M) : Prop := pm_f m2 + 1 ≤ pm_f mm ∧ 8 + (pm_ml m2 + 11) + pm_w m2 ≤ pm_w mm
def pm_ok0 (mm : pm_M) (ix : Nat) (m2 : pm_M) : Prop := pm_hd m2 (pm_n m2 - 1) ∧ Cond.methodLink (kN (pm_o mm)) ix (pm_y m2) ∈ lw_gt ∧ Cond.instanceMethod (pm_y m2) ∈ lw_gt ∧ Cond.selects (pm_y m2).cls (pm_y m2) (pm_y m2) ∈ lw_gt ∧ kN (pm_o m2) = (pm_y m2).cls ∧ pm_o m2 < 8 ∧ pm_rmok mm m2
def pm_ok1 (mm : pm_M) (ix : Nat) (m2 : pm_M) : Prop := pm_hd m2 (pm_n m2 - 1) ∧ Cond.methodLink (kN (pm_o mm)) ix (pm_y m2) ∈ lw_gt ∧ Cond.instanceMethod (pm_y m2) ∈ lw_gt ∧ (pm_y m2).name = "<init>" ∧ pm_rt m2 = none ∧ pm_rmok mm m2
def pm_ok2 (mm : pm_M) (ix : Nat) (m2 : pm_M) : Prop := pm_hd m2 (pm_n m2) ∧ Cond.methodLink (kN (pm_o mm)) ix (pm_y m2) ∈ lw_gt ∧ Cond.static (pm_y m2) ∈ lw_gt ∧ pm_rmok mm m2
def pm_ok3 (mm : pm_M) (ix : Nat) (m2 : pm_M) : Prop := pm_hd m2 (pm_n m2) ∧ (kN (pm_o mm), ix, pm_y m2) ∈ pm_nest ∧ Cond.static (pm_y m2) ∈ lw_gt ∧ pm_rmok mm m2
def pm_okF (mm : pm_M) (ix ci f : Nat) : Prop := ci < 8 ∧ f < kM ci ∧ Cond.fieldLink (kN (pm_o mm)) ix (kN ci) (kT ci f).2.1 (kT ci f).2.2.1 ∈ lw_gt
def pm_okL (tab : Nat → Option pm_M) (mm : pm_M) (pc : Nat) (e : pm_E) : Prop := match e.1 with
  | .ldc ix => (e.2.1 = 0 → Cond.constant (kN (pm_o mm)) ix (Int32.ofInt e.2.2.2) ∈ lw_gt) ∧ (e.2.1 = 1 → kN (pm_o mm) = "MoodTown$Telling" ∧ sg_ix (e.2.2.1 - 1) = ix)
  | .ldc_w ix => e.2.1 = 0 → Cond.constant (kN (pm_o mm)) ix (Int32.ofInt e.2.2.2) ∈ lw_gt
  | .ldc2_w ix => Cond.constantLong (kN (pm_o mm)) ix (Int64.ofInt e.2.2.2) ∈ lw_gt
  | .ifCond _ off => (pc : Int) + off = (e.2.1 : Int)
  | .if_icmp _ off => (pc : Int) + off = (e.2.1 : Int)
  | .goto off => (pc : Int) + off = (e.2.1 : Int)
  | .getfield ix => pm_okF mm ix e.2.1 e.2.2.1
  | .putfield ix => pm_okF mm ix e.2.1 e.2.2.1 ∧ ((kT e.2.1 e.2.2.1).2.2.2 = false ∨ ((kT e.2.1 e.2.2.1).2.2.2 = true ∧ (pm_y mm).name = "<init>" ∧ kN e.2.1 = kN (pm_o mm)))
  | .new ix => e.2.1 < 8 ∧ Cond.classLink (kN (pm_o mm)) ix (kN e.2.1) ∈ lw_gt ∧ Cond.instantiable (kN e.2.1) (kM e.2.1) ∈ lw_gt ∧ Cond.initialized (kN e.2.1) ∈ lw_gt
  | .anewarray ix => (e.2.1 = 4 ∨ e.2.1 = 5) ∧ Cond.classLink (kN (pm_o mm)) ix (kN (pm_comp e.2.1)) ∈ lw_gt
  | .invokevirtual ix => (e.2.2.1 = 0 → ∀ m2, tab e.2.1 = some m2 → pm_ok0 mm ix m2) ∧ (e.2.2.1 = 4 → kN (pm_o mm) = "MoodTown$Tape" ∧ ix = 38 ∧ 2 ≤ pm_f mm ∧ 40 ≤ pm_w mm) ∧ (e.2.2.1 = 5 → kN (pm_o mm) = "MoodTown$Tape" ∧ ix = 43 ∧ 4 ≤ pm_f mm ∧ 85 ≤ pm_w mm)
  | .invokespecial ix => (e.2.2.1 = 1 → ∀ m2, tab e.2.1 = some m2 → pm_ok1 mm ix m2) ∧ (e.2.2.1 = 9 → Cond.methodLink (kN (pm_o mm)) ix objectInit ∈ lw_gt ∧ 1 ≤ pm_f mm ∧ 20 ≤ pm_w mm)
  | .invokestatic ix => (e.2.2.1 = 8 → Cond.methodLink (kN (pm_o mm)) ix arraycopyName ∈ lw_gt ∧ 1 ≤ pm_f mm ∧ 18 ≤ pm_w mm) ∧ (e.2.2.1 = 2 → ∀ m2, tab e.2.1 = some m2 → pm_ok2 mm ix m2) ∧ (e.2.2.1 = 3 → ∀ m2, tab e.2.1 = some m2 → pm_ok3 mm ix m2)
  | _ => True
def pm_okD (mm : pm_M) (pc : Nat) (i : Instr) : Prop := match i with
  | .tableswitch d lo hi offs => ∃ len, decode (pm_b mm) pc = .ok (.tableswitch d lo hi offs, len)
  | i => decode (pm_b mm) pc = .ok (i, pm_len i)
section Calls
variable {p : Program} {l : Launch} {e : Env} {R : Room} {s : State} {m : MethodId} {args : Array Value} {below : List Frame} {meth : Method} {c0 : Code} {Q : State → Prop} {dC : Nat → ClassId} {dI : Nat → Nat → Nat} {aC : Nat → ClassId} {pre : Nat → Nat} {base : Nat} {xs : List Int32} {mm : pm_M} {k : pm_K} {r : Option Value × pm_H} {pc : Nat} {lv : pm_L} {st : List Value} {h : pm_H} {c sl : Nat}
theorem pm_pre {U : State} {H : Heap} {locs : List Loc} {av av' : List Value} (hK : va_K (dC, dI) kC (pm_ty aC) s) (hX : pm_Xs pre base xs s s.heap) (hN : pm_N s) (hb0 : pre 0 < base) (hb1 : base ≤ s.heap.size) (hP : pm_P dC dI aC pre base h H) (hz : H.size = base + h.length) (hS : va_S (fun q => base ≤ q) s.heap H locs) (ha : av = av') (hU : U.heap = H) (hW : s.WarmedH U.vm) : va_Pc av (pm_Wd dC dI aC pre base xs h) av'.toArray U := by
  subst ha
  refine ⟨rfl, by rw [hU]; exact hP, by rw [hU]; exact hz, va_K.moved hW.alike hK, ?_, ⟨va_AO.moved hW.alike hN.1, va_AO.moved hW.alike hN.2.1, fun w hw => va_Nw.warmM hW (hN.2.2 w hw)⟩, hb0⟩
  rw [hU]
  exact pm_Xs.warm hW hb0 hb1 hS hX
theorem pm_back {m2 : pm_M} {rr : Option Value × pm_H} {rest st0 : List Value} {a : Array Value} {H : Heap} {locs : List Loc} {ls : Array Slot} (hr : va_Run p l e R s m args below meth c0 H locs c sl (pm_c m2) (pm_s m2) (F0 m pc ls st0) (rest.map (pm_rv pre base)) (pm_Qc dC dI aC pre base rr a) (fun q => base ≤ q)) (ih : pm_IH p l e R s m args below meth c0 Q dC dI aC pre base mm k r) (hk : k (pc + 3) lv (rr.1.toList ++ rest) rr.2 (c + pm_c m2) (sl + pm_s m2) = some r) (hc1 : c + pm_c m2 ≤ pm_c mm) (hs1 : sl + pm_s m2 ≤ pm_s mm) (hl : lv_has ls (pm_ml mm) (lv.map (pm_lv pre base))) (hS : va_S (fun q => base ≤ q) s.heap H locs) : W p l e R s m args below meth c0 H locs c sl Q (F0 m pc ls st0) := by
  intro T hT X
  obtain ⟨v, st₀, t, T', L, h0, X', hL, e1, e2, ⟨hv, ⟨hP1, hz1⟩, hz, hkp⟩, stp⟩ := hr T hT X
  have hv : v = rr.1.map (pm_rv pre base) := Outcome.returned.inj hv
  rw [h0] at hz hkp
  have hst : (rr.1.toList ++ rest).map (pm_rv pre base) = v.toList ++ rest.map (pm_rv pre base) := by
    rw [hv, List.map_append]
    congr 1
    cases rr.1 <;> rfl
  obtain ⟨t2, a1, b1⟩ := ih _ _ _ _ _ _ hk T'.heap (locs ++ L) ls hc1 hs1 hl (by rw [e1]; exact hP1) (by rw [e1]; exact hz1) ⟨Nat.le_trans hS.1 (by rw [e1]; exact hz), fun q h1 h2 => by rw [e1, hkp q (Nat.lt_of_lt_of_le h1 hS.1) h2]; exact hS.2.1 q h1 h2, fun q hq => by
      rcases List.mem_append.mp hq with h | h
      · exact hS.2.2 q h
      · exact hL q h⟩ T' rfl X'
  rw [hst] at a1
  exact ⟨t2, stp t2 a1, b1⟩
theorem pm_split {n : Nat} {a : Value} {as : List Value} (hrev : (st.take n).reverse = a :: as) : st = as.reverse ++ a :: st.drop n := by
  have e := congrArg List.reverse hrev
  rw [List.reverse_reverse, List.reverse_cons] at e
  calc st = st.take n ++ st.drop n := (List.take_append_drop n st).symm
    _ = as.reverse ++ a :: st.drop n := by rw [e, List.append_assoc]; rfl
theorem pm_splen {n : Nat} {a : Value} {as : List Value} (hn : n ≤ st.length) (hrev : (st.take n).reverse = a :: as) : as.length = n - 1 := by
  have e := congrArg List.length hrev
  rw [List.length_reverse, List.length_take, List.length_cons] at e
  omega
theorem ps_inv0 (X : pm_X p R s m args meth c0 dC dI aC pre base xs mm) {tab : Nat → Option pm_M} {big : Nat → List Value → pm_H → pm_R} {ix M2 : Nat} {m2 : pm_M} (htab : tab M2 = some m2) (hbig : ∀ as h r, big M2 as h = some r → pm_Met l dC dI aC pre base xs m2 as h r) (hf : pm_ok0 mm ix m2) (hd : decode (pm_b mm) pc = .ok (.invokevirtual ix, 3)) (ih : pm_IH p l e R s m args below meth c0 Q dC dI aC pre base mm k r) (hk : pm_inv k tab big mm M2 pc lv st h c sl = some r) : pm_W p l e R s m args below meth c0 Q dC dI aC pre base mm pc lv st h c sl := by
  obtain ⟨hx, hb, hml, hown, hts, hin, hK, hX, hb0, hb1, hN, rfl⟩ := X
  unfold pm_inv at hk
  rw [htab] at hk
  dsimp only at hk
  split at hk
  · rename_i hn
    split at hk
    · rename_i a as hrev
      split at hk
      · rename_i cj fs hcell
        split at hk
        · rename_i hcj
          unfold pm_call at hk
          split at hk
          · rename_i hcat
            split at hk
            · rename_i hc1
              split at hk
              · rename_i hs1
                split at hk
                · rename_i rv rh hbg
                  intro H locs ls hc hs hl hP hz hS
                  obtain ⟨h1, h2⟩ := pm_cell_eq pre base hcell
                  have hmap : st.map (pm_rv pre base) = (as.map (pm_rv pre base)).reverse ++ .ref (base + (a - 8)) :: (st.drop (pm_n m2)).map (pm_rv pre base) := by
                    conv => lhs; rw [pm_split hrev]
                    rw [List.map_append, List.map_reverse, pm_m1 h2]
                  rw [hmap]
                  have hrecv : ∃ cellB : Cell, H[base + (a - 8)]? = some cellB ∧ cellB.vm.isStatics = false ∧ s.vm.findClass (pm_y m2).cls = some cellB.cls := by
                    have hv := va_recv hK (hP.one h1) (kCi cj (by rw [hcj]; exact hf.2.2.2.2.2.1)) (q0 := 0) rfl
                    rw [← hf.2.2.2.2.1, ← hcj]
                    exact hv
                  exact pm_back (rr := (rv, rh)) (va_runV (C := (pm_y m2).cls) (As := as.map (pm_rv pre base)) (rest := (st.drop (pm_n m2)).map (pm_rv pre base)) ⟨hx, hb, hml, hown, hts⟩ (hbig _ _ _ hbg) (cwV (pm_n m2 - 1) hts (pm_good (fun w hw => by
                    rcases List.mem_append.mp hw with hw | hw
                    · simp only [List.mem_cons, List.not_mem_nil, or_false] at hw
                      rcases hw with rfl | rfl | rfl | rfl
                      · exact hf.2.1
                      · exact hf.2.2.1
                      · exact hf.2.2.2.1
                      · exact hf.1.2.1
                    · rcases List.mem_cons.mp hw with rfl | hw
                      · exact hf.1.1
                      · exact hw)) rfl rfl rfl ⟨rfl, hf.1.2.2⟩ hf.2.2.2.2.2.2) ⟨pm_blind, hrecv, fun U hU hW => pm_pre hK hX hN hb0 hb1 hP hz hS (pm_m1 h2) hU hW⟩ rfl (by rw [List.length_map]; exact pm_splen hn hrev) hl.1 rfl (lv_room (by rw [pm_cats]; exact hcat)) hd ⟨hc1, hs1⟩) ih hk hc1 hs1 hl hS
                · cases hk
              · cases hk
            · cases hk
          · cases hk
        · cases hk
      · cases hk
    · cases hk
  · cases hk
theorem ps_inv1 (X : pm_X p R s m args meth c0 dC dI aC pre base xs mm) {tab : Nat → Option pm_M} {big : Nat → List Value → pm_H → pm_R} {ix M2 : Nat} {m2 : pm_M} (htab : tab M2 = some m2) (hbig : ∀ as h r, big M2 as h = some r → pm_Met l dC dI aC pre base xs m2 as h r) (hf : pm_ok1 mm ix m2) (hd : decode (pm_b mm) pc = .ok (.invokespecial ix, 3)) (ih : pm_IH p l e R s m args below meth c0 Q dC dI aC pre base mm k r) (hk : pm_inv k tab big mm M2 pc lv st h c sl = some r) : pm_W p l e R s m args below meth c0 Q dC dI aC pre base mm pc lv st h c sl := by
  obtain ⟨hx, hb, hml, hown, hts, hin, hK, hX, hb0, hb1, hN, rfl⟩ := X
  unfold pm_inv at hk
  rw [htab] at hk
  dsimp only at hk
  split at hk
  · rename_i hn
    split at hk
    · rename_i a as hrev
      split at hk
      · rename_i cj fs hcell
        split at hk
        · rename_i hcj
          unfold pm_call at hk
          split at hk
          · rename_i hcat
            split at hk
            · rename_i hc1
              split at hk
              · rename_i hs1
                split at hk
                · rename_i rv rh hbg
                  intro H locs ls hc hs hl hP hz hS
                  obtain ⟨h1, h2⟩ := pm_cell_eq pre base hcell
                  have hmap : st.map (pm_rv pre base) = (as.map (pm_rv pre base)).reverse ++ .ref (base + (a - 8)) :: (st.drop (pm_n m2)).map (pm_rv pre base) := by
                    conv => lhs; rw [pm_split hrev]
                    rw [List.map_append, List.map_reverse, pm_m1 h2]
                  rw [hmap]
                  exact pm_back (rr := (rv, rh)) (va_runI (As := as.map (pm_rv pre base)) (rest := (st.drop (pm_n m2)).map (pm_rv pre base)) ⟨hx, hb, hml, hown, hts⟩ (hbig _ _ _ hbg) (cwI (pm_n m2 - 1) hts (pm_good (fun w hw => by
                    rcases List.mem_cons.mp hw with rfl | hw
                    · exact hf.1.1
                    · exact hw)) (by unfold pm_ws; rw [hf.2.2.2.2.1]) rfl rfl (hts _ hf.1.2.1) (hts _ hf.2.1) (hts _ hf.2.2.1) hf.2.2.2.1 hf.1.2.2 hf.2.2.2.2.2) ⟨pm_blind, fun U hU hW => pm_pre hK hX hN hb0 hb1 hP hz hS (pm_m1 h2) hU hW⟩ rfl (by rw [List.length_map]; exact pm_splen hn hrev) hl.1 rfl (lv_room (by rw [pm_cats]; exact hcat)) hd ⟨hc1, hs1⟩) ih hk hc1 hs1 hl hS
                · cases hk
              · cases hk
            · cases hk
          · cases hk
        · cases hk
      · cases hk
    · cases hk
  · cases hk
theorem ps_ins2 (X : pm_X p R s m args meth c0 dC dI aC pre base xs mm) {tab : Nat → Option pm_M} {big : Nat → List Value → pm_H → pm_R} {ix M2 : Nat} {m2 : pm_M} (htab : tab M2 = some m2) (hbig : ∀ as h r, big M2 as h = some r → pm_Met l dC dI aC pre base xs m2 as h r) (hf : pm_ok2 mm ix m2) (hd : decode (pm_b mm) pc = .ok (.invokestatic ix, 3)) (ih : pm_IH p l e R s m args below meth c0 Q dC dI aC pre base mm k r) (hk : pm_ins k tab big mm M2 pc lv st h c sl = some r) : pm_W p l e R s m args below meth c0 Q dC dI aC pre base mm pc lv st h c sl := by
  obtain ⟨hx, hb, hml, hown, hts, hin, hK, hX, hb0, hb1, hN, rfl⟩ := X
  unfold pm_ins at hk
  rw [htab] at hk
  dsimp only at hk
  split at hk
  · rename_i hn
    unfold pm_call at hk
    split at hk
    · rename_i hcat
      split at hk
      · rename_i hc1
        split at hk
        · rename_i hs1
          split at hk
          · rename_i rv rh hbg
            intro H locs ls hc hs hl hP hz hS
            have hmap : st.map (pm_rv pre base) = ((st.take (pm_n m2)).reverse.map (pm_rv pre base)).reverse ++ (st.drop (pm_n m2)).map (pm_rv pre base) := by
              conv => lhs; rw [← List.take_append_drop (pm_n m2) st]
              rw [List.map_append, List.map_reverse, List.reverse_reverse]
            rw [hmap]
            exact pm_back (rr := (rv, rh)) (va_runS (As := (st.take (pm_n m2)).reverse.map (pm_rv pre base)) (rest := (st.drop (pm_n m2)).map (pm_rv pre base)) ⟨hx, hb, hml, hown, hts⟩ (hbig _ _ _ hbg) (va_cwS (pm_n m2) hts (pm_good (fun w hw => by
              rcases List.mem_append.mp hw with hw | hw
              · simp only [List.mem_cons, List.not_mem_nil, or_false] at hw
                rcases hw with rfl | rfl | rfl
                · exact hf.2.1
                · exact hf.2.2.1
                · exact hf.1.2.1
              · rcases List.mem_cons.mp hw with rfl | hw
                · exact hf.1.1
                · exact hw)) rfl rfl rfl hf.1.2.2 hf.2.2.2) ⟨pm_blind, fun U hU hW => pm_pre hK hX hN hb0 hb1 hP hz hS rfl hU hW⟩ rfl (by rw [List.length_map, List.length_reverse, List.length_take]; omega) hl.1 rfl (lv_room (by rw [pm_cats]; exact hcat)) hd ⟨hc1, hs1⟩) ih hk hc1 hs1 hl hS
          · cases hk
        · cases hk
      · cases hk
    · cases hk
  · cases hk
end Calls
