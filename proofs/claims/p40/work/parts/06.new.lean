/-! FROM THE PURE MACHINE TO THE MACHINE: new cells, arrays of references, arraycopy. -/
theorem kA_int : Cond.arrayClass .int ∈ lw_gt := lw_gi 215 (by decide +kernel) (by decide +kernel)
theorem kA_byte : Cond.arrayClass .byte ∈ lw_gt := lw_gi 113 (by decide +kernel) (by decide +kernel)
theorem kA_boolean : Cond.arrayClass .boolean ∈ lw_gt := lw_gi 1091 (by decide +kernel) (by decide +kernel)
theorem kA_long : Cond.arrayClass .long ∈ lw_gt := lw_gi 298 (by decide +kernel) (by decide +kernel)
theorem kO_inst : Cond.instanceMethod objectInit ∈ lw_gt := lw_gi 81 (by decide +kernel) (by decide +kernel)
theorem kO_code : Cond.code objectInit ⟨#[0xb1]⟩ 1 none ∈ lw_gt := lw_gi 82 (by decide +kernel) (by decide +kernel)
theorem kY_nat : Cond.native arraycopyName ∈ lw_gt := lw_gi 537 (by decide +kernel) (by decide +kernel)
theorem kY_stat : Cond.static arraycopyName ∈ lw_gt := lw_gi 536 (by decide +kernel) (by decide +kernel)
theorem kY_init : Cond.initialized "java/lang/System" ∈ lw_gt := lw_gi 72 (by decide +kernel) (by decide +kernel)
theorem pm_len_cpy {α : Type} (f g : List α) (sp dp n : Nat) (h1 : sp + n ≤ f.length) (h2 : dp + n ≤ g.length) : (pm_cpy f g sp dp n).length = g.length := by
  unfold pm_cpy
  simp only [List.length_append, List.length_take, List.length_drop]
  omega
theorem pm_getD_cpy {α : Type} (f g : List α) (sp dp n : Nat) (d : α) (h1 : sp + n ≤ f.length) (h2 : dp + n ≤ g.length) (q : Nat) : (pm_cpy f g sp dp n).getD q d = va_cpy (fun j => f.getD j d) (fun j => g.getD j d) sp dp n q := by
  unfold pm_cpy va_cpy
  simp only [List.getD_eq_getElem?_getD]
  congr 1
  have e1 : (g.take dp).length = dp := by rw [List.length_take]; omega
  have e2 : ((f.drop sp).take n).length = n := by rw [List.length_take, List.length_drop]; omega
  by_cases ha : q < dp
  · rw [if_neg (by omega), List.getElem?_append_left (by omega), List.getElem?_take_of_lt ha]
  · by_cases hb : q < dp + n
    · rw [if_pos ⟨by omega, hb⟩, List.getElem?_append_right (by omega), e1, List.getElem?_append_left (by omega), List.getElem?_take_of_lt (by omega), List.getElem?_drop]
    · rw [if_neg (by omega), List.getElem?_append_right (by omega), e1, List.getElem?_append_right (by omega), e2, List.getElem?_drop, show dp + n + (q - dp - n) = q by omega]
section New
variable {p : Program} {l : Launch} {e : Env} {R : Room} {s : State} {m : MethodId} {args : Array Value} {below : List Frame} {meth : Method} {c0 : Code} {Q : State → Prop} {dC : Nat → ClassId} {dI : Nat → Nat → Nat} {aC : Nat → ClassId} {pre : Nat → Nat} {base : Nat} {xs : List Int32} {mm : pm_M} {k : pm_K} {r : Option Value × pm_H} {pc : Nat} {lv : pm_L} {st : List Value} {h : pm_H} {c sl : Nat}
theorem pm_Sp {H H1 : Heap} {locs : List Loc} (hS : va_S (fun q => base ≤ q) s.heap H locs) (z1 : H1.size = H.size + 1) (o1 : ∀ q, q < H.size → H1[q]? = H[q]?) : va_S (fun q => base ≤ q) s.heap H1 locs := ⟨Nat.le_trans hS.1 (by omega), fun x h1 h2 => (o1 x (Nat.lt_of_lt_of_le h1 hS.1)).trans (hS.2.1 x h1 h2), hS.2.2⟩
theorem ps_new (X : pm_X p R s m args meth c0 dC dI aC pre base xs mm) {ix ci : Nat} (hf : ci < 8 ∧ Cond.classLink (kN (pm_o mm)) ix (kN ci) ∈ lw_gt ∧ Cond.instantiable (kN ci) (kM ci) ∈ lw_gt ∧ Cond.initialized (kN ci) ∈ lw_gt) (hd : decode (pm_b mm) pc = .ok (.new ix, 3)) (ih : pm_IH p l e R s m args below meth c0 Q dC dI aC pre base mm k r) (hk : pm_new k mm ci pc lv st h c sl = some r) : pm_W p l e R s m args below meth c0 Q dC dI aC pre base mm pc lv st h c sl := by
  obtain ⟨hx, hb, hml, hown, hts, hin, hK, hX, hb0, hb1, hN, rfl⟩ := X
  unfold pm_new at hk
  split at hk
  · rename_i hc1
    split at hk
    · rename_i hs1
      intro H locs ls hc hs hl hP hz hS
      have hcc := kCi ci hf.1
      have hKn := hK.1 ci _ hcc
      refine W.newcK hx hb hown (hts _ hf.2.1) (hts _ hf.2.2.1) (hts _ hf.2.2.2) rfl hd hc1 hs1 hKn.2.1 rfl fun H1 kC' hkC e1 z1 o1 => ?_
      have g := ih _ _ _ _ _ _ hk H1 locs ls hc1 hs1 hl (hP.push hz ⟨_, hcc, (u_born (kY ci) hts (kI ci hf.1) hKn hkC e1 (kYok ci hf.1)).to (fun j hj => by show _ = vp_V ((kZ ci).map _) j; rw [kZrv]; exact kZok ci hf.1 j hj)⟩ o1) (by rw [z1, hz, List.length_append]; rfl) (pm_Sp hS z1 o1)
      rw [pm_m1 (n := H.size) (by rw [pm_ad_new, hz])] at g
      exact g
    · cases hk
  · cases hk
theorem ps_newa (X : pm_X p R s m args meth c0 dC dI aC pre base xs mm) {at_ : ArrayType} (hd : decode (pm_b mm) pc = .ok (.newarray at_, 2)) (ih : pm_IH p l e R s m args below meth c0 Q dC dI aC pre base mm k r) (hk : pm_newa k mm at_ pc lv st h c sl = some r) : pm_W p l e R s m args below meth c0 Q dC dI aC pre base mm pc lv st h c sl := by
  obtain ⟨hx, hb, hml, hown, hts, hin, hK, hX, hb0, hb1, hN, rfl⟩ := X
  unfold pm_newa at hk
  split at hk
  · rename_i n rr
    split at hk
    · cases hk
    · rename_i hn
      split at hk
      · rename_i hNl
        split at hk
        · rename_i hc1
          split at hk
          · rename_i hs1
            intro H locs ls hc hs hl hP hz hS
            split at hk
            · have hcA := hK.2 0 _ rfl
              refine va_newaK (atype := .int) hx hb (hts _ kA_int) rfl hd rfl hn rfl (by show _ * 4 ≤ _; omega) hc1 hs1 rfl fun H1 cA e1 z1 o1 hAr hNm => ?_
              have ec : cA = aC 0 := Option.some.inj (hNm.symm.trans hcA.2)
              subst ec
              have g := ih _ _ _ _ _ _ hk H1 locs ls hc1 hs1 hl (hP.push hz (by
                show H1[H.size]? = some (vp_cell (aC 0) ((List.replicate n.toNatClampNeg 0).length, .inl (fun j => (List.replicate n.toNatClampNeg 0).getD j 0)))
                rw [e1, vp_cell_i, List.length_replicate]
                congr 2
                funext q
                rw [pm_getD_rep]
                rfl) o1) (by rw [z1, hz, List.length_append]; rfl) (pm_Sp hS z1 o1)
              rw [pm_m1 (n := H.size) (by rw [pm_ad_new, hz])] at g
              exact g
            · have hcA := hK.2 1 _ rfl
              refine va_newaK (atype := .byte) hx hb (hts _ kA_byte) rfl hd rfl hn rfl (by show _ * 1 ≤ _; omega) hc1 hs1 rfl fun H1 cA e1 z1 o1 hAr hNm => ?_
              have ec : cA = aC 1 := Option.some.inj (hNm.symm.trans hcA.2)
              subst ec
              have g := ih _ _ _ _ _ _ hk H1 locs ls hc1 hs1 hl (hP.push hz (by
                show H1[H.size]? = some (vp_cell (aC 1) ((List.replicate n.toNatClampNeg 0).length, .inl (fun j => (List.replicate n.toNatClampNeg 0).getD j 0)))
                rw [e1, vp_cell_i, List.length_replicate]
                congr 2
                funext q
                rw [pm_getD_rep]
                rfl) o1) (by rw [z1, hz, List.length_append]; rfl) (pm_Sp hS z1 o1)
              rw [pm_m1 (n := H.size) (by rw [pm_ad_new, hz])] at g
              exact g
            · have hcA := hK.2 2 _ rfl
              refine va_newaK (atype := .boolean) hx hb (hts _ kA_boolean) rfl hd rfl hn rfl (by show _ * 1 ≤ _; omega) hc1 hs1 rfl fun H1 cA e1 z1 o1 hAr hNm => ?_
              have ec : cA = aC 2 := Option.some.inj (hNm.symm.trans hcA.2)
              subst ec
              have g := ih _ _ _ _ _ _ hk H1 locs ls hc1 hs1 hl (hP.push hz (by
                show H1[H.size]? = some (vp_cell (aC 2) ((List.replicate n.toNatClampNeg 0).length, .inl (fun j => (List.replicate n.toNatClampNeg 0).getD j 0)))
                rw [e1, vp_cell_i, List.length_replicate]
                congr 2
                funext q
                rw [pm_getD_rep]
                rfl) o1) (by rw [z1, hz, List.length_append]; rfl) (pm_Sp hS z1 o1)
              rw [pm_m1 (n := H.size) (by rw [pm_ad_new, hz])] at g
              exact g
            · have hcA := hK.2 3 _ rfl
              refine va_newaK (atype := .long) hx hb (hts _ kA_long) rfl hd rfl hn rfl (by show _ * 8 ≤ _; omega) hc1 hs1 rfl fun H1 cA e1 z1 o1 hAr hNm => ?_
              have ec : cA = aC 3 := Option.some.inj (hNm.symm.trans hcA.2)
              subst ec
              have g := ih _ _ _ _ _ _ hk H1 locs ls hc1 hs1 hl (hP.push hz (by
                show H1[H.size]? = some (vp_cell (aC 3) ((List.replicate n.toNatClampNeg 0).length, .inr (.inl (fun j => (List.replicate n.toNatClampNeg 0).getD j 0))))
                rw [e1, vp_cell_l, List.length_replicate]
                congr 2
                funext q
                rw [pm_getD_rep]
                rfl) o1) (by rw [z1, hz, List.length_append]; rfl) (pm_Sp hS z1 o1)
              rw [pm_m1 (n := H.size) (by rw [pm_ad_new, hz])] at g
              exact g
            · cases hk
          · cases hk
        · cases hk
      · cases hk
  · cases hk
theorem ps_anew (X : pm_X p R s m args meth c0 dC dI aC pre base xs mm) {ix t : Nat} {C : String} (hf : (pm_ty aC)[t]? = some (aC t, .object C) ∧ Cond.classLink (kN (pm_o mm)) ix C ∈ lw_gt ∧ (C = "MoodTown$Town" ∨ C = "MoodTown$Sheet")) (hd : decode (pm_b mm) pc = .ok (.anewarray ix, 3)) (ih : pm_IH p l e R s m args below meth c0 Q dC dI aC pre base mm k r) (hk : pm_anew k mm t pc lv st h c sl = some r) : pm_W p l e R s m args below meth c0 Q dC dI aC pre base mm pc lv st h c sl := by
  obtain ⟨hx, hb, hml, hown, hts, hin, hK, hX, hb0, hb1, hN, rfl⟩ := X
  unfold pm_anew at hk
  split at hk
  · rename_i n rr
    split at hk
    · cases hk
    · rename_i hn
      split at hk
      · rename_i hNl
        split at hk
        · rename_i hc1
          split at hk
          · rename_i hs1
            intro H locs ls hc hs hl hP hz hS
            have hover : va_AO C s := by
              rcases hf.2.2 with rfl | rfl
              · exact hN.1
              · exact hN.2.1
            refine W.anew hx hb hown (hts _ hf.2.1) (va_AO.use hover) rfl hd rfl hn (by omega) hc1 hs1 fun cA kA comp f1 f2 f3 f4 => ?_
            generalize hH1 : H.push ({ cls := cA, slots := Array.replicate n.toNatClampNeg .null, vm := .none } : Cell) = H1
            have z1 : H1.size = H.size + 1 := by rw [← hH1, Array.size_push]
            have e1 : H1[H.size]? = some (arrV cA n.toNatClampNeg (fun _ => .null)) := by rw [← hH1, Array.getElem?_push_size, ← arrV_new]
            have o1 : ∀ q : Nat, q < H.size → H1[q]? = H[q]? := fun q hq => by rw [← hH1, Array.getElem?_push, if_neg (Nat.ne_of_lt hq)]
            obtain ⟨-, kA2, comp2, -, -, -, g4⟩ := hK.2 t _ hf.1
            have ec : cA = aC t := Option.some.inj (f1.symm.trans g4)
            subst ec
            have g := ih _ _ _ _ _ _ hk H1 locs ls hc1 hs1 hl (hP.push hz (by
              show H1[H.size]? = some (vp_cell (aC t) ((List.replicate n.toNatClampNeg none).length, .inr (.inr (.inr (.inr (fun j => ((List.replicate n.toNatClampNeg none).getD j none).map (pm_ad pre base)))))))
              rw [e1, vp_cell_q, List.length_replicate]
              congr 2
              funext q
              rw [pm_getD_rep]
              rfl) o1) (by rw [z1, hz, List.length_append]; rfl) (pm_Sp hS z1 o1)
            rw [pm_m1 (n := H.size) (by rw [pm_ad_new, hz])] at g
            exact g
          · cases hk
        · cases hk
      · cases hk
  · cases hk
theorem ps_aast (X : pm_X p R s m args meth c0 dC dI aC pre base xs mm)  (hd : decode (pm_b mm) pc = .ok (.aastore, 1)) (ih : pm_IH p l e R s m args below meth c0 Q dC dI aC pre base mm k r) (hk : pm_aast k pc lv st h c sl = some r) : pm_W p l e R s m args below meth c0 Q dC dI aC pre base mm pc lv st h c sl := by
  obtain ⟨hx, hb, hml, hown, hts, hin, hK, hX, hb0, hb1, hN, rfl⟩ := X
  unfold pm_aast at hk
  split at hk
  · rename_i v i a rr
    split at hk
    · cases hk
    · rename_i hi
      split at hk
      · rename_i t ll cj fs hcell hcv
        split at hk
        · rename_i ht
          split at hk
          · rename_i hcj
            split at hk
            · rename_i hlt
              intro H locs ls hc hs hl hP hz hS
              obtain ⟨h1, h2⟩ := pm_cell_eq pre base hcell
              obtain ⟨v1, v2⟩ := pm_cell_eq pre base hcv
              rw [pm_m3 h2]
              show W _ _ _ _ _ _ _ _ _ _ _ _ _ _ _ (F0 _ _ _ (.ref (pm_ad pre base v) :: _ :: _ :: _))
              have key : ∀ (C : String), (pm_ty aC)[t]? = some (aC t, .object C) → kC[cj]? = some (kN cj, kT cj, kM cj) → kN cj = C → W p l e (pm_rm mm) s m args below meth c0 H locs c sl Q (F0 m pc ls (.ref (pm_ad pre base v) :: .int i :: .ref (base + (a - 8)) :: rr.map (pm_rv pre base))) := by
                intro C htt hcc hN
                subst hN
                obtain ⟨r', hr', cellV, g1, g2, g3, -⟩ := hP (v - 8) _ v1
                have hcls := (hK.1 cj _ hcc).2
                obtain ⟨kA, comp, k1, k2, k3, -⟩ := (hK.2 t _ htt).2
                have hcomp : comp = dC cj := Option.some.inj (k3.symm.trans hcls.1)
                subst hcomp
                have hcls2 := hcls
                obtain ⟨kC', hkC, -⟩ := hcls2.2
                rw [v2]
                refine W.aast hx hb (hP (a - 8) _ h1) (fun q h => by cases h) (fun h => by cases h) k1 k2 rfl hkC ⟨hi, by show _ < (arrV _ _ _).slots.size; rw [arrV_size]; exact hlt⟩ g1 (fun q h => by rw [g3] at h; cases h) (by rw [g2]; exact hkC) (by rw [g2]; exact va_assign hcls) rfl rfl hd fun H1 e1 z oq => ?_
                refine ih _ _ _ _ _ _ hk H1 _ ls hc hs hl (hP.set h1 ?_ oq) (by rw [z, hz, List.length_set]) (hS.put z oq (Nat.le_add_right _ _))
                show H1[base + (a - 8)]? = some (vp_cell (aC t) ((ll.set _ _).length, .inr (.inr (.inr (.inr (fun j => ((ll.set _ _).getD j none).map (pm_ad pre base)))))))
                rw [e1, List.length_set]
                show some ((vp_cell _ _).setSlot _ _) = _
                rw [vp_cell_q, vp_cell_q, arrV_store]
                congr 2
                funext q
                rw [pm_getD_set _ _ _ _ hlt]
                by_cases hq : q = i.toNatClampNeg
                · subst hq
                  simp [updV, va_rf, v2]
                · simp [updV, hq]
              rcases ht with rfl | rfl
              · subst hcj
                exact key _ rfl rfl rfl
              · subst hcj
                exact key _ rfl rfl rfl
            · cases hk
          · cases hk
        · cases hk
      · cases hk
  · cases hk
theorem ps_alen (X : pm_X p R s m args meth c0 dC dI aC pre base xs mm)  (hd : decode (pm_b mm) pc = .ok (.arraylength, 1)) (ih : pm_IH p l e R s m args below meth c0 Q dC dI aC pre base mm k r) (hk : pm_alen k xs pc lv st h c sl = some r) : pm_W p l e R s m args below meth c0 Q dC dI aC pre base mm pc lv st h c sl := by
  obtain ⟨hx, hb, hml, hown, hts, hin, hK, hX, hb0, hb1, hN, rfl⟩ := X
  unfold pm_alen at hk
  split at hk
  · rename_i a rr
    split at hk
    · rename_i ha
      subst ha
      intro H locs ls hc hs hl hP hz hS
      exact va_slen (A := fun q => base ≤ q) hx hb hX.1 (Nat.lt_of_lt_of_le hb0 hb1) (Nat.not_le.mpr hb0) hS hd (ih _ _ _ _ _ _ hk H locs ls hc hs hl hP hz hS)
    · split at hk
      · rename_i t ll hcell
        split at hk
        · rename_i ht
          intro H locs ls hc hs hl hP hz hS
          obtain ⟨h1, h2⟩ := pm_cell_eq pre base hcell
          rw [pm_m1 h2]
          have key : ∀ (ty : FieldType), (pm_ty aC)[t]? = some (aC t, ty) → W p l e (pm_rm mm) s m args below meth c0 H locs c sl Q (F0 m pc ls (.ref (base + (a - 8)) :: rr.map (pm_rv pre base))) := fun ty htt => va_alen (D := (dC, dI)) hx hb hK (hP.one h1) 0 t rfl htt rfl hd (ih _ _ _ _ _ _ hk H locs ls hc hs hl hP hz hS)
          rcases (by omega : t = 0 ∨ t = 1 ∨ t = 2) with rfl | rfl | rfl
          · exact key _ rfl
          · exact key _ rfl
          · exact key _ rfl
        · cases hk
      · cases hk
  · cases hk
theorem ps_copy (X : pm_X p R s m args meth c0 dC dI aC pre base xs mm) {ix : Nat} (hf : Cond.methodLink (kN (pm_o mm)) ix arraycopyName ∈ lw_gt ∧ 1 ≤ pm_f mm ∧ 18 ≤ pm_w mm) (hd : decode (pm_b mm) pc = .ok (.invokestatic ix, 3)) (ih : pm_IH p l e R s m args below meth c0 Q dC dI aC pre base mm k r) (hk : pm_copy k pc lv st h c sl = some r) : pm_W p l e R s m args below meth c0 Q dC dI aC pre base mm pc lv st h c sl := by
  obtain ⟨hx, hb, hml, hown, hts, hin, hK, hX, hb0, hb1, hN, rfl⟩ := X
  unfold pm_copy at hk
  split at hk
  · rename_i n dp a sp b
    split at hk
    · cases hk
    · rename_i hsp
      split at hk
      · cases hk
      · rename_i hdp
        split at hk
        · cases hk
        · rename_i hn0
          split at hk
          · rename_i t g u f hca hcb
            split at hk
            · rename_i htu
              obtain ⟨rfl, rfl⟩ := htu
              split at hk
              · rename_i h4
                split at hk
                · rename_i h5
                  intro H locs ls hc hs hl hP hz hS
                  obtain ⟨a1, a2⟩ := pm_cell_eq pre base hca
                  obtain ⟨b1, b2⟩ := pm_cell_eq pre base hcb
                  show W _ _ _ _ _ _ _ _ _ _ _ _ _ _ _ (F0 _ _ _ (.int n :: .int dp :: .ref (pm_ad pre base a) :: .int sp :: .ref (pm_ad pre base b) :: []))
                  rw [a2, b2]
                  have nn : ∀ z : Int32, ¬ z < 0 → z.toInt = (z.toNatClampNeg : Int) := by
                    intro z hz
                    have hz0 : (0 : Int) ≤ z.toInt := by
                      have := Int32.not_lt.mp hz
                      simpa using Int32.le_iff_toInt_le.mp this
                    show z.toInt = ((z.toInt.toNat : Nat) : Int)
                    omega
                  intro T hT XT
                  have hc0 : H[base + (b - 8)]? = some (vp_cell (aC 0) (f.length, .inl (fun j => f.getD j 0))) := hP _ _ b1
                  have hc1 : H[base + (a - 8)]? = some (vp_cell (aC 0) (g.length, .inl (fun j => g.getD j 0))) := hP _ _ a1
                  obtain ⟨-, k0, hk0, cm0, hkk0⟩ := (hK.2 0 _ rfl).1 f.length (fun j => .int (f.getD j 0))
                  obtain ⟨-, k1, hk1, cm1, hkk1⟩ := (hK.2 0 _ rfl).1 g.length (fun j => .int (g.getD j 0))
                  obtain ⟨vm', X', step⟩ := XT.arraycopy hx hown (hts _ hf.1) (hts _ kY_nat) (hts _ kY_stat) (hts _ kY_init) (src := base + (b - 8)) (dst := base + (a - 8)) (cs := vp_cell (aC 0) (f.length, .inl (fun j => f.getD j 0))) (cd := vp_cell (aC 0) (g.length, .inl (fun j => g.getD j 0))) (srcPos := sp) (destPos := dp) (n := n) (by rw [hT]; exact hc0) (by rw [hT]; exact hc1)
                    (fun _ h => by cases h) (fun _ h => by cases h) (fun h => by cases h) (fun h => by cases h) hk0 hk1 hkk0 hkk1 (by simp [refKind]) hsp hdp hn0
                    (by rw [nn sp hsp, nn n hn0]; show ¬ _ > ((arrV (aC 0) f.length (fun j => .int (f.getD j 0))).slots.size : Int); rw [arrV_size]; omega)
                    (by rw [nn dp hdp, nn n hn0]; show ¬ _ > ((arrV (aC 0) g.length (fun j => .int (g.getD j 0))).slots.size : Int); rw [arrV_size]; omega)
                    (fun vm₁ _ i hi => by
                      have e : (vp_cell (aC 0) (f.length, .inl (fun j => f.getD j 0))).slots.getD (sp.toNatClampNeg + i) .null = .int (f.getD (sp.toNatClampNeg + i) 0) := by
                        show (arrV (aC 0) f.length (fun j => .int (f.getD j 0))).slots.getD _ _ = _
                        rw [Array.getD_eq_getD_getElem?, arrV_read _ _ (by omega)]
                        rfl
                      refine ⟨?_, ?_⟩
                      · rw [e]; rfl
                      · rw [e]; exact trivial)
                    (g := F0 m pc ls (.int n :: .int dp :: .ref (base + (a - 8)) :: .int sp :: .ref (base + (b - 8)) :: [])) rfl (by rw [hml]; exact hl.1) (rest := []) rfl (by rw [hb]; exact hd) hf.2.1 (by show 2 * 0 + 0 + _ ≤ _; exact hf.2.2)
                  have e1 : copied (vp_cell (aC 0) (f.length, .inl (fun j => f.getD j 0))) (vp_cell (aC 0) (g.length, .inl (fun j => g.getD j 0))) sp dp n = vp_cell (aC 0) ((pm_cpy f g sp.toNatClampNeg dp.toNatClampNeg n.toNatClampNeg).length, .inl (fun j => (pm_cpy f g sp.toNatClampNeg dp.toNatClampNeg n.toNatClampNeg).getD j 0)) := by
                    rw [pm_len_cpy _ _ _ _ _ h4 h5, funext (pm_getD_cpy f g _ _ _ 0 h4 h5)]
                    exact va_copied (fun z => .int z) (aC 0) (aC 0) (fun j => f.getD j 0) (fun j => g.getD j 0) h4
                  rw [e1] at X' step
                  have hl1 : base + (a - 8) < H.size := (Array.getElem?_eq_some_iff.mp hc1).1
                  generalize hcell : vp_cell (aC 0) ((pm_cpy f g sp.toNatClampNeg dp.toNatClampNeg n.toNatClampNeg).length, Sum.inl (fun j => (pm_cpy f g sp.toNatClampNeg dp.toNatClampNeg n.toNatClampNeg).getD j 0)) = nc at X' step
                  have hheap : ((T.setVm vm').setCell (base + (a - 8)) nc).heap = H.setIfInBounds (base + (a - 8)) nc := by rw [← hT]; rfl
                  have oq : ∀ q : Nat, q ≠ base + (a - 8) → (H.setIfInBounds (base + (a - 8)) nc)[q]? = H[q]? := fun q hq => by simp [Array.getElem?_setIfInBounds, Ne.symm hq]
                  obtain ⟨t, w1, w2⟩ := ih _ _ _ _ _ _ hk _ _ ls hc hs hl (hP.set (H1 := H.setIfInBounds (base + (a - 8)) nc) a1 (show (H.setIfInBounds (base + (a - 8)) nc)[base + (a - 8)]? = some (vp_cell _ _) by rw [← hcell]; simp [Array.getElem?_setIfInBounds, hl1]) oq) (by rw [Array.size_setIfInBounds, hz, List.length_set]) ⟨by rw [Array.size_setIfInBounds]; exact hS.1, fun q g1 g2 => by
                      rw [oq q (fun e => g2 (by rw [e]; exact Nat.le_add_right _ _))]
                      exact hS.2.1 q g1 g2, fun q hq => by
                      rcases List.mem_append.mp hq with h | h
                      · exact hS.2.2 q h
                      · obtain ⟨z, -, hz⟩ := List.mem_map.mp h
                        rw [← hz]
                        exact Nat.le_add_right _ _⟩ _ hheap X'
                  exact ⟨t, step t w1, w2⟩
                · cases hk
              · cases hk
            · cases hk
          · cases hk
  · cases hk
theorem ps_obj (X : pm_X p R s m args meth c0 dC dI aC pre base xs mm) {ix : Nat} (hf : Cond.methodLink (kN (pm_o mm)) ix objectInit ∈ lw_gt ∧ 1 ≤ pm_f mm ∧ 20 ≤ pm_w mm) (hd : decode (pm_b mm) pc = .ok (.invokespecial ix, 3)) (ih : pm_IH p l e R s m args below meth c0 Q dC dI aC pre base mm k r) (hk : pm_obj k pc lv st h c sl = some r) : pm_W p l e R s m args below meth c0 Q dC dI aC pre base mm pc lv st h c sl := by
  obtain ⟨hx, hb, hml, hown, hts, hin, hK, hX, hb0, hb1, hN, rfl⟩ := X
  unfold pm_obj at hk
  split at hk
  · rename_i a
    intro H locs ls hc hs hl hP hz hS
    exact W.objInit hx hb hown (hts _ hf.1) (hts _ kO_inst) (hts _ kO_code) rfl (by rw [hml]; exact hl.1) rfl hd hf.2.1 (Nat.le_trans (by show 2 * 0 + 0 + 12 ≤ 20; omega) hf.2.2) (ih _ _ _ _ _ _ hk H locs ls hc hs hl hP hz hS)
  · cases hk
end New
