/-! FROM THE PURE MACHINE TO THE MACHINE: rows that read and write cells. -/
theorem pm_m1 {pre : Nat → Nat} {base a n : Nat} {rr : List Value} (h : pm_ad pre base a = n) : (Value.ref a :: rr).map (pm_rv pre base) = .ref n :: rr.map (pm_rv pre base) := by rw [← h]; rfl
theorem pm_m2 {pre : Nat → Nat} {base a n : Nat} {v : Value} {rr : List Value} (h : pm_ad pre base a = n) : (v :: Value.ref a :: rr).map (pm_rv pre base) = pm_rv pre base v :: .ref n :: rr.map (pm_rv pre base) := by rw [← h]; rfl
theorem pm_m3 {pre : Nat → Nat} {base a n : Nat} {v w : Value} {rr : List Value} (h : pm_ad pre base a = n) : (v :: w :: Value.ref a :: rr).map (pm_rv pre base) = pm_rv pre base v :: pm_rv pre base w :: .ref n :: rr.map (pm_rv pre base) := by rw [← h]; rfl
theorem pm_getD_set {α : Type} (l : List α) (n : Nat) (x d : α) (hn : n < l.length) (q : Nat) : (l.set n x).getD q d = if q = n then x else l.getD q d := by
  rw [List.getD_eq_getElem?_getD, List.getD_eq_getElem?_getD]
  by_cases hq : q = n
  · subst hq
    rw [List.getElem?_set_self hn, if_pos rfl]
    rfl
  · rw [List.getElem?_set_ne (Ne.symm hq), if_neg hq]
theorem pm_getD_rep {α : Type} (n : Nat) (x : α) (q : Nat) : (List.replicate n x).getD q x = x := by
  rw [List.getD_eq_getElem?_getD, List.getElem?_replicate]
  split <;> rfl
theorem pm_getD_of {α : Type} {l : List α} {n : Nat} {x : α} (d : α) (h : l[n]? = some x) : l.getD n d = x := by
  rw [List.getD_eq_getElem?_getD, h]; rfl
theorem pm_in {α : Type} {l : List α} {i : Int32} {x : α} (hi : ¬ i < 0) (h : l[i.toNatClampNeg]? = some x) : vp_in i l.length := by
  have h1 := (List.getElem?_eq_some_iff.mp h).1
  intro q
  rcases q with q | q
  · exact hi q
  · omega
theorem pm_inl {n : Nat} {i : Int32} (hi : ¬ i < 0) (h : i.toNatClampNeg < n) : vp_in i n := by
  intro q
  rcases q with q | q
  · exact hi q
  · omega
theorem kZrv (pre : Nat → Nat) (base ci : Nat) : (kZ ci).map (pm_rv pre base) = kZ ci := by
  unfold kZ
  split <;> rfl
section Cells
variable {p : Program} {l : Launch} {e : Env} {R : Room} {s : State} {m : MethodId} {args : Array Value} {below : List Frame} {meth : Method} {c0 : Code} {Q : State → Prop} {dC : Nat → ClassId} {dI : Nat → Nat → Nat} {aC : Nat → ClassId} {pre : Nat → Nat} {base : Nat} {xs : List Int32} {mm : pm_M} {k : pm_K} {r : Option Value × pm_H} {pc : Nat} {lv : pm_L} {st : List Value} {h : pm_H} {c sl : Nat}
theorem ps_getf (X : pm_X p R s m args meth c0 dC dI aC pre base xs mm) {ix ci f : Nat} (hf : ci < 8 ∧ f < kM ci ∧ Cond.fieldLink (kN (pm_o mm)) ix (kN ci) (kT ci f).2.1 (kT ci f).2.2.1 ∈ lw_gt) (hd : decode (pm_b mm) pc = .ok (.getfield ix, 3)) (ih : pm_IH p l e R s m args below meth c0 Q dC dI aC pre base mm k r) (hk : pm_getf k ci f pc lv st h c sl = some r) : pm_W p l e R s m args below meth c0 Q dC dI aC pre base mm pc lv st h c sl := by
  obtain ⟨hx, hb, hml, hown, hts, hin, hK, hX, hb0, hb1, hN, rfl⟩ := X
  unfold pm_getf at hk
  split at hk
  · rename_i a rr
    split at hk
    · rename_i cj fs hcell
      split at hk
      · rename_i hcj
        subst hcj
        split at hk
        · rename_i v hv
          intro H locs ls hc hs hl hP hz hS
          obtain ⟨h1, h2⟩ := pm_cell_eq pre base hcell
          rw [pm_m1 h2]
          exact va_get (D := (dC, dI)) hx hb hts (kI cj hf.1) hown hK (hP.one h1) 0 (fs := fs.map (pm_rv pre base)) rfl (kCi cj hf.1) f hf.2.1 (hts _ hf.2.2) (fun x hx => by rw [kTown cj hf.1 f hf.2.1] at hx; exact hx) (v := pm_rv pre base v) (by rw [List.getElem?_map, hv]; rfl) hd (ih _ _ _ _ _ _ hk H locs ls hc hs hl hP hz hS)
        · cases hk
      · cases hk
    · cases hk
  · cases hk
theorem ps_putf (X : pm_X p R s m args meth c0 dC dI aC pre base xs mm) {ix ci f : Nat} (hf : ci < 8 ∧ f < kM ci ∧ Cond.fieldLink (kN (pm_o mm)) ix (kN ci) (kT ci f).2.1 (kT ci f).2.2.1 ∈ lw_gt) (hfin : (kT ci f).2.2.2 = false ∨ ((kT ci f).2.2.2 = true ∧ (pm_y mm).name = "<init>" ∧ kN ci = kN (pm_o mm))) (hd : decode (pm_b mm) pc = .ok (.putfield ix, 3)) (ih : pm_IH p l e R s m args below meth c0 Q dC dI aC pre base mm k r) (hk : pm_putf k ci f pc lv st h c sl = some r) : pm_W p l e R s m args below meth c0 Q dC dI aC pre base mm pc lv st h c sl := by
  obtain ⟨hx, hb, hml, hown, hts, hin, hK, hX, hb0, hb1, hN, rfl⟩ := X
  unfold pm_putf at hk
  split at hk
  · rename_i v a rr
    split at hk
    · rename_i cj fs hcell
      split at hk
      · rename_i hcj
        subst hcj
        split at hk
        · rename_i hfl
          split at hk
          · rename_i hfit
            intro H locs ls hc hs hl hP hz hS
            obtain ⟨h1, h2⟩ := pm_cell_eq pre base hcell
            rw [pm_m2 h2]
            have hcc := kCi cj hf.1
            have hap := va_apart (own := kN (pm_o mm)) hts (kI cj hf.1) (kY cj) (kYok cj hf.1) (kNm cj hf.1) hK hcc
            obtain ⟨hn, hft⟩ := pm_fit_ok (pre := pre) (base := base) hfit
            obtain ⟨r', h1', cell, q1, q2, q3, q4⟩ := hP (a - 8) _ h1
            have hr : r' = (kN cj, kT cj, kM cj) := Option.some.inj (h1'.symm.trans hcc)
            subst hr
            obtain ⟨hS', hfc, kC', hkC, hkind⟩ := hK.1 cj _ hcc
            obtain ⟨cf, kf, fi, f', hi, hsl⟩ := hS' f hf.2.1
            have hlay := hts _ (kI cj hf.1 _ (u_in_lay hf.2.1))
            have hst := (u_facts hfc hkC (u_lays hts (kI cj hf.1) hf.2.1) hi).1
            have hsame : ∀ x, s.fieldFound? (kT cj f).1 (kT cj f).2.1 (kT cj f).2.2.1 = some x → s.fieldFound? (kN cj) (kT cj f).2.1 (kT cj f).2.2.1 = some x := fun x hx => by rw [kTown cj hf.1 f hf.2.1] at hx; exact hx
            have go : ∀ (H' : Heap), H'[base + (a - 8)]? = some (cell.setSlot f'.slot (pm_rv pre base v)) → H'.size = H.size → (∀ q, q ≠ base + (a - 8) → H'[q]? = H[q]?) → W p l e (pm_rm mm) s m args below meth c0 H' (locs ++ [⟨base + (a - 8), f'.slot⟩]) c sl Q (F0 m (pc + 3) ls (rr.map (pm_rv pre base))) := by
              intro H' e1 e2 e3
              rw [hsl] at e1 ⊢
              refine ih _ _ _ _ _ _ hk H' _ ls hc hs hl (hP.set h1 ?_ e3) (by rw [e2, hz, List.length_set]) (hS.put e2 e3 (Nat.le_add_right _ _))
              refine ⟨_, hcc, ?_⟩
              show t_OB _ _ _ _ _ (vp_V ((fs.set f v).map (pm_rv pre base)))
              rw [List.map_set]
              exact t_OB.to (V := updV (vp_V (fs.map (pm_rv pre base))) f (pm_rv pre base v)) ⟨_, e1, q2, q3, t_set q4 hap hf.2.1 _⟩ (fun j _ => vp_updV_set (by rw [List.length_map]; exact hfl) _ j)
            rcases hfin with hfin | ⟨hfin, hini, hkn⟩
            · unfold u_lay at hlay
              rw [if_neg (by rw [hfin]; decide)] at hlay
              have h6 := u_store hfc hkC hkind hlay hi (kYok cj hf.1 f hf.2.1) hn hft
              exact W.putK hx hb (f := f') ⟨hown, hts _ hf.2.2, ⟨_, _, _, hsame _ hi⟩, hst⟩ (by rw [q2]; exact h6) q1 q3 (by rw [hsl]; exact k2_hasslot (q4 f hf.2.1)) rfl rfl hd go
            · unfold u_lay at hlay
              rw [if_pos hfin] at hlay
              have hcf : m.cls = cf := by
                obtain ⟨_, _, c', _, _, _, -, -, hf', -, -, -, hown2, -⟩ := Cond.laysFinal_spec hlay
                have e1 : c' = cf := by have := hi.symm.trans hf'; simp at this; exact this.1.symm
                rw [kTown cj hf.1 f hf.2.1, hkn] at hown2
                rw [← e1]; exact Option.some.inj (hown.symm.trans hown2)
              have h6 := u_fits hfc hkC hkind (Or.inr hlay) hi (kYok cj hf.1 f hf.2.1) hn hft
              exact W.putFinK hx hb hown (hts _ hf.2.2) (hsame _ hi) hst hcf (hin hini) (by rw [q2]; exact h6) q1 q3 (by rw [hsl]; exact k2_hasslot (q4 f hf.2.1)) rfl rfl hd go
          · cases hk
        · cases hk
      · cases hk
    · cases hk
  · cases hk
theorem ps_iald (X : pm_X p R s m args meth c0 dC dI aC pre base xs mm)  (hd : decode (pm_b mm) pc = .ok (.iaload, 1)) (ih : pm_IH p l e R s m args below meth c0 Q dC dI aC pre base mm k r) (hk : pm_iald k xs pc lv st h c sl = some r) : pm_W p l e R s m args below meth c0 Q dC dI aC pre base mm pc lv st h c sl := by
  obtain ⟨hx, hb, hml, hown, hts, hin, hK, hX, hb0, hb1, hN, rfl⟩ := X
  unfold pm_iald at hk
  split at hk
  · rename_i i a rr
    split at hk
    · cases hk
    · rename_i hi
      split at hk
      · rename_i ha
        subst ha
        split at hk
        · rename_i x hx1
          intro H locs ls hc hs hl hP hz hS
          have := va_sld hx hb hX.1 (Nat.lt_of_lt_of_le hb0 hb1) (Nat.not_le.mpr hb0) hS (pm_in hi hx1) hd (rest := rr.map (pm_rv pre base)) (Q := Q) (ls := ls) (pc := pc) (l := l) (e := e) (R := pm_rm mm) (below := below) (meth := meth) (c := c0) (cells := c) (slots := sl) (by rw [pm_getD_of 0 hx1]; exact ih _ _ _ _ _ _ hk H locs ls hc hs hl hP hz hS)
          exact this
        · cases hk
      · split at hk
        · rename_i t ll hcell
          split at hk
          · rename_i ht
            subst ht
            split at hk
            · rename_i x hx1
              intro H locs ls hc hs hl hP hz hS
              obtain ⟨h1, h2⟩ := pm_cell_eq pre base hcell
              rw [pm_m2 h2]
              refine va_iald (D := (dC, dI)) hx hb hK (hP.one h1) 0 0 rfl rfl (pm_in hi hx1) hd ?_
              show W _ _ _ _ _ _ _ _ _ _ _ _ _ _ _ (F0 _ _ _ (.int (ll.getD i.toNatClampNeg 0) :: _))
              rw [pm_getD_of 0 hx1]
              exact ih _ _ _ _ _ _ hk H locs ls hc hs hl hP hz hS
            · cases hk
          · cases hk
        · cases hk
  · cases hk
theorem ps_bald (X : pm_X p R s m args meth c0 dC dI aC pre base xs mm)  (hd : decode (pm_b mm) pc = .ok (.baload, 1)) (ih : pm_IH p l e R s m args below meth c0 Q dC dI aC pre base mm k r) (hk : pm_bald k pc lv st h c sl = some r) : pm_W p l e R s m args below meth c0 Q dC dI aC pre base mm pc lv st h c sl := by
  obtain ⟨hx, hb, hml, hown, hts, hin, hK, hX, hb0, hb1, hN, rfl⟩ := X
  unfold pm_bald at hk
  split at hk
  · rename_i i a rr
    split at hk
    · cases hk
    · rename_i hi
      split at hk
      · rename_i t ll hcell
        split at hk
        · rename_i ht
          split at hk
          · rename_i x hx1
            intro H locs ls hc hs hl hP hz hS
            obtain ⟨h1, h2⟩ := pm_cell_eq pre base hcell
            rw [pm_m2 h2]
            rcases ht with rfl | rfl
            · refine va_bald (D := (dC, dI)) hx hb hK (hP.one h1) 0 1 rfl rfl (pm_in hi hx1) hd ?_
              show W _ _ _ _ _ _ _ _ _ _ _ _ _ _ _ (F0 _ _ _ (.int (ll.getD i.toNatClampNeg 0) :: _))
              rw [pm_getD_of 0 hx1]
              exact ih _ _ _ _ _ _ hk H locs ls hc hs hl hP hz hS
            · refine va_zald (D := (dC, dI)) hx hb hK (hP.one h1) 0 2 rfl rfl (pm_in hi hx1) hd ?_
              show W _ _ _ _ _ _ _ _ _ _ _ _ _ _ _ (F0 _ _ _ (.int (ll.getD i.toNatClampNeg 0) :: _))
              rw [pm_getD_of 0 hx1]
              exact ih _ _ _ _ _ _ hk H locs ls hc hs hl hP hz hS
          · cases hk
        · cases hk
      · cases hk
  · cases hk
theorem ps_lald (X : pm_X p R s m args meth c0 dC dI aC pre base xs mm)  (hd : decode (pm_b mm) pc = .ok (.laload, 1)) (ih : pm_IH p l e R s m args below meth c0 Q dC dI aC pre base mm k r) (hk : pm_lald k pc lv st h c sl = some r) : pm_W p l e R s m args below meth c0 Q dC dI aC pre base mm pc lv st h c sl := by
  obtain ⟨hx, hb, hml, hown, hts, hin, hK, hX, hb0, hb1, hN, rfl⟩ := X
  unfold pm_lald at hk
  split at hk
  · rename_i i a rr
    split at hk
    · cases hk
    · rename_i hi
      split at hk
      · rename_i t ll hcell
        split at hk
        · rename_i ht
          subst ht
          split at hk
          · rename_i x hx1
            intro H locs ls hc hs hl hP hz hS
            obtain ⟨h1, h2⟩ := pm_cell_eq pre base hcell
            rw [pm_m2 h2]
            refine va_lald (D := (dC, dI)) hx hb hK (hP.one h1) 0 3 rfl rfl (pm_in hi hx1) hd ?_
            show W _ _ _ _ _ _ _ _ _ _ _ _ _ _ _ (F0 _ _ _ (.long (ll.getD i.toNatClampNeg 0) :: _))
            rw [pm_getD_of 0 hx1]
            exact ih _ _ _ _ _ _ hk H locs ls hc hs hl hP hz hS
          · cases hk
        · cases hk
      · cases hk
  · cases hk
theorem ps_aald (X : pm_X p R s m args meth c0 dC dI aC pre base xs mm)  (hd : decode (pm_b mm) pc = .ok (.aaload, 1)) (ih : pm_IH p l e R s m args below meth c0 Q dC dI aC pre base mm k r) (hk : pm_aald k pc lv st h c sl = some r) : pm_W p l e R s m args below meth c0 Q dC dI aC pre base mm pc lv st h c sl := by
  obtain ⟨hx, hb, hml, hown, hts, hin, hK, hX, hb0, hb1, hN, rfl⟩ := X
  unfold pm_aald at hk
  split at hk
  · rename_i i a rr
    split at hk
    · cases hk
    · rename_i hi
      split at hk
      · rename_i t ll hcell
        split at hk
        · rename_i ht
          split at hk
          · rename_i x hx1
            intro H locs ls hc hs hl hP hz hS
            obtain ⟨h1, h2⟩ := pm_cell_eq pre base hcell
            rw [pm_m2 h2]
            have key : ∀ (C : String) (t0 : Nat), (pm_ty aC)[t0]? = some (aC t, .object C) → W p l e (pm_rm mm) s m args below meth c0 H locs c sl Q (F0 m pc ls (.int i :: .ref (base + (a - 8)) :: rr.map (pm_rv pre base))) := by
              intro C t0 htt
              refine va_aldq (D := (dC, dI)) hx hb hK (hP.one h1) 0 t0 rfl htt (pm_in hi hx1) hd ?_
              show W _ _ _ _ _ _ _ _ _ _ _ _ _ _ _ (F0 _ _ _ (va_rf ((ll.getD i.toNatClampNeg none).map (pm_ad pre base)) :: _))
              rw [pm_getD_of none hx1]
              exact ih _ _ _ _ _ _ hk H locs ls hc hs hl hP hz hS
            rcases ht with rfl | rfl
            · exact key _ 4 rfl
            · exact key _ 5 rfl
          · cases hk
        · cases hk
      · cases hk
  · cases hk
theorem ps_iast (X : pm_X p R s m args meth c0 dC dI aC pre base xs mm)  (hd : decode (pm_b mm) pc = .ok (.iastore, 1)) (ih : pm_IH p l e R s m args below meth c0 Q dC dI aC pre base mm k r) (hk : pm_iast k pc lv st h c sl = some r) : pm_W p l e R s m args below meth c0 Q dC dI aC pre base mm pc lv st h c sl := by
  obtain ⟨hx, hb, hml, hown, hts, hin, hK, hX, hb0, hb1, hN, rfl⟩ := X
  unfold pm_iast at hk
  split at hk
  · rename_i x i a rr
    split at hk
    · cases hk
    · rename_i hi
      split at hk
      · rename_i t ll hcell
        split at hk
        · rename_i ht
          subst ht
          split at hk
          · rename_i hlt
            intro H locs ls hc hs hl hP hz hS
            obtain ⟨h1, h2⟩ := pm_cell_eq pre base hcell
            rw [pm_m3 h2]
            refine W.iast hx hb (hP _ _ h1) ((hK.2 0 _ rfl).1 ll.length (fun j => .int (ll.getD j 0))) (fun q => by cases q) (by show ¬ (i < 0 ∨ (arrV _ _ _).slots.size ≤ _); rw [arrV_size]; exact pm_inl hi hlt) rfl rfl hd fun H1 e1 z oq => ?_
            refine ih _ _ _ _ _ _ hk H1 _ ls hc hs hl (hP.set h1 ?_ oq) (by rw [z, hz, List.length_set]) (hS.put z oq (Nat.le_add_right _ _))
            show H1[base + (a - 8)]? = some (vp_cell (aC 0) ((ll.set _ _).length, .inl (fun j => (ll.set _ _).getD j 0)))
            rw [e1, List.length_set]
            show some ((vp_cell _ _).setSlot _ _) = _
            rw [vp_cell_i, vp_cell_i, arrV_store]
            congr 2
            funext q
            rw [pm_getD_set _ _ _ _ hlt]
            by_cases hq : q = i.toNatClampNeg
            · subst hq
              first | (simp [updV]; done) | (simp [updV]; rfl)
            · simp [updV, hq]
          · cases hk
        · cases hk
      · cases hk
  · cases hk
theorem ps_last (X : pm_X p R s m args meth c0 dC dI aC pre base xs mm)  (hd : decode (pm_b mm) pc = .ok (.lastore, 1)) (ih : pm_IH p l e R s m args below meth c0 Q dC dI aC pre base mm k r) (hk : pm_last k pc lv st h c sl = some r) : pm_W p l e R s m args below meth c0 Q dC dI aC pre base mm pc lv st h c sl := by
  obtain ⟨hx, hb, hml, hown, hts, hin, hK, hX, hb0, hb1, hN, rfl⟩ := X
  unfold pm_last at hk
  split at hk
  · rename_i x i a rr
    split at hk
    · cases hk
    · rename_i hi
      split at hk
      · rename_i t ll hcell
        split at hk
        · rename_i ht
          subst ht
          split at hk
          · rename_i hlt
            intro H locs ls hc hs hl hP hz hS
            obtain ⟨h1, h2⟩ := pm_cell_eq pre base hcell
            rw [pm_m3 h2]
            refine W.last hx hb (hP _ _ h1) ((hK.2 3 _ rfl).1 ll.length (fun j => .long (ll.getD j 0))) (fun q => by cases q) (by show ¬ (i < 0 ∨ (arrV _ _ _).slots.size ≤ _); rw [arrV_size]; exact pm_inl hi hlt) rfl rfl hd fun H1 e1 z oq => ?_
            refine ih _ _ _ _ _ _ hk H1 _ ls hc hs hl (hP.set h1 ?_ oq) (by rw [z, hz, List.length_set]) (hS.put z oq (Nat.le_add_right _ _))
            show H1[base + (a - 8)]? = some (vp_cell (aC 3) ((ll.set _ _).length, .inr (.inl (fun j => (ll.set _ _).getD j 0))))
            rw [e1, List.length_set]
            show some ((vp_cell _ _).setSlot _ _) = _
            rw [vp_cell_l, vp_cell_l, arrV_store]
            congr 2
            funext q
            rw [pm_getD_set _ _ _ _ hlt]
            by_cases hq : q = i.toNatClampNeg
            · subst hq
              first | (simp [updV]; done) | (simp [updV]; rfl)
            · simp [updV, hq]
          · cases hk
        · cases hk
      · cases hk
  · cases hk
theorem ps_bast (X : pm_X p R s m args meth c0 dC dI aC pre base xs mm)  (hd : decode (pm_b mm) pc = .ok (.bastore, 1)) (ih : pm_IH p l e R s m args below meth c0 Q dC dI aC pre base mm k r) (hk : pm_bast k pc lv st h c sl = some r) : pm_W p l e R s m args below meth c0 Q dC dI aC pre base mm pc lv st h c sl := by
  obtain ⟨hx, hb, hml, hown, hts, hin, hK, hX, hb0, hb1, hN, rfl⟩ := X
  unfold pm_bast at hk
  split at hk
  · rename_i x i a rr
    split at hk
    · cases hk
    · rename_i hi
      split at hk
      · rename_i t ll hcell
        split at hk
        · rename_i ht
          subst ht
          split at hk
          · rename_i hlt
            intro H locs ls hc hs hl hP hz hS
            obtain ⟨h1, h2⟩ := pm_cell_eq pre base hcell
            rw [pm_m3 h2]
            refine W.bast hx hb (hP _ _ h1) ((hK.2 1 _ rfl).1 ll.length (fun j => .int (ll.getD j 0))) (fun q => by cases q) (by show ¬ (i < 0 ∨ (arrV _ _ _).slots.size ≤ _); rw [arrV_size]; exact pm_inl hi hlt) rfl rfl hd fun H1 e1 z oq => ?_
            refine ih _ _ _ _ _ _ hk H1 _ ls hc hs hl (hP.set h1 ?_ oq) (by rw [z, hz, List.length_set]) (hS.put z oq (Nat.le_add_right _ _))
            show H1[base + (a - 8)]? = some (vp_cell (aC 1) ((ll.set _ _).length, .inl (fun j => (ll.set _ _).getD j 0)))
            rw [e1, List.length_set]
            show some ((vp_cell _ _).setSlot _ _) = _
            rw [vp_cell_i, vp_cell_i, arrV_store]
            congr 2
            funext q
            rw [pm_getD_set _ _ _ _ hlt]
            by_cases hq : q = i.toNatClampNeg
            · subst hq
              first | (simp [updV]; done) | (simp [updV]; rfl)
            · simp [updV, hq]
          · cases hk
        · split at hk
          · rename_i ht
            subst ht
            split at hk
            · rename_i hlt
              intro H locs ls hc hs hl hP hz hS
              obtain ⟨h1, h2⟩ := pm_cell_eq pre base hcell
              rw [pm_m3 h2]
              refine W.zast hx hb (hP _ _ h1) ((hK.2 2 _ rfl).1 ll.length (fun j => .int (ll.getD j 0))) (fun q => by cases q) (by show ¬ (i < 0 ∨ (arrV _ _ _).slots.size ≤ _); rw [arrV_size]; exact pm_inl hi hlt) rfl rfl hd fun H1 e1 z oq => ?_
              refine ih _ _ _ _ _ _ hk H1 _ ls hc hs hl (hP.set h1 ?_ oq) (by rw [z, hz, List.length_set]) (hS.put z oq (Nat.le_add_right _ _))
              show H1[base + (a - 8)]? = some (vp_cell (aC 2) ((ll.set _ _).length, .inl (fun j => (ll.set _ _).getD j 0)))
              rw [e1, List.length_set]
              show some ((vp_cell _ _).setSlot _ _) = _
              rw [vp_cell_i, vp_cell_i, arrV_store]
              congr 2
              funext q
              rw [pm_getD_set _ _ _ _ hlt]
              by_cases hq : q = i.toNatClampNeg
              · subst hq
                first | (simp [updV]; done) | (simp [updV]; rfl)
              · simp [updV, hq]
            · cases hk
          · cases hk
      · cases hk
  · cases hk
end Cells
