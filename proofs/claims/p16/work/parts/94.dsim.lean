/-! THE INTERVAL MACHINE is sound for the pure machine: each instruction, a frame, a call. -/
def am_S (Pr : Option am_V × am_H → Option Value × pm_H → Prop) (ka : am_K) (kc : pm_K) : Prop := ∀ (pc : Nat) (lva : am_L) (sta : List am_V) (ha : am_H) (c sl : Nat) (R : Option am_V × am_H), ka pc lva sta ha c sl = some R → ∀ (lv : pm_L) (st : List Value) (h : pm_H), am_all am_q lva lv → am_all am_v sta st → am_h ha h → ∃ r, kc pc lv st h c sl = some r ∧ Pr R r
theorem am_each_ok {α : Type} {f : α → am_R} {R : Option am_V × am_H} : ∀ {l : List α}, am_each f l = some R → ∀ a ∈ l, f a = some R
  | [], h, _, _ => by cases h
  | [a], h, b, hb => by
    rcases List.mem_singleton.mp hb with rfl
    exact h
  | a :: b :: r, h, d, hd => by
    have h1 : (match f a, am_each f (b :: r) with
      | some R1, some R2 => (match aeR R1 R2 with
        | true => some R1
        | false => none)
      | _, _ => none) = some R := h
    split at h1
    · rename_i R1 R2 e1 e2
      split at h1
      · rename_i he
        cases h1
        rcases List.mem_cons.mp hd with rfl | hd
        · exact e1
        · rw [aeR_ok he]
          exact am_each_ok e2 d hd
      · cases h1
    · cases h1
theorem am_pcs_ok {x : am_I} {z : Int32} (h : am_i x z) : ∃ y ∈ am_pcs x, am_i y z := by
  have h1 := h.1
  have h2 := h.2
  unfold am_pcs
  split
  · refine ⟨(x.1 + ((z.toInt - x.1).toNat : Int), x.1 + ((z.toInt - x.1).toNat : Int)), List.mem_map.mpr ⟨(z.toInt - x.1).toNat, List.mem_range.mpr (by omega), rfl⟩, ?_⟩
    have e : x.1 + ((z.toInt - x.1).toNat : Int) = z.toInt := by omega
    rw [e]
    exact am_i.sg z
  · exact ⟨x, List.mem_singleton.mpr rfl, h⟩
section Sim
variable {Pr : Option am_V × am_H → Option Value × pm_H → Prop} {ka : am_K} {kc : pm_K} {pc : Nat} {lva : am_L} {sta : List am_V} {ha : am_H} {c sl : Nat} {R : Option am_V × am_H} {lv : pm_L} {st : List Value} {h : pm_H}
theorem at_bi (ih : am_S Pr ka kc) {fa : am_I → am_I → am_I} {f : Int32 → Int32 → Int32} (hf : ∀ a b x y, am_i a x → am_i b y → am_i (fa a b) (f x y)) (hk : aq_bi ka fa pc lva sta ha c sl = some R) (hl : am_all am_q lva lv) (hs : am_all am_v sta st) (hh : am_h ha h) : ∃ r, pm_bi kc f pc lv st h c sl = some r ∧ Pr R r := by
  unfold aq_bi at hk
  split at hk
  · obtain ⟨y, st, rfl, hy, hs⟩ := av_i hs
    obtain ⟨x, st, rfl, hx, hs⟩ := av_i hs
    exact ih _ _ _ _ _ _ _ hk _ _ _ hl ⟨hf _ _ _ _ hx hy, hs⟩ hh
  · cases hk
theorem at_bz (ih : am_S Pr ka kc) {fa : am_I → am_I → am_I} {f : Int32 → Int32 → Int32} (hf : ∀ a b x y, am_i a x → am_i b y → am_i (fa a b) (f x y)) (hk : aq_bz ka fa pc lva sta ha c sl = some R) (hl : am_all am_q lva lv) (hs : am_all am_v sta st) (hh : am_h ha h) : ∃ r, pm_bz kc f pc lv st h c sl = some r ∧ Pr R r := by
  unfold aq_bz at hk
  split at hk
  · obtain ⟨y, st, rfl, hy, hs⟩ := av_i hs
    obtain ⟨x, st, rfl, hx, hs⟩ := av_i hs
    split at hk
    · rename_i hn
      obtain ⟨r, hr, hp⟩ := ih _ _ _ _ _ _ _ hk lv (.int (f x y) :: st) h hl ⟨hf _ _ _ _ hx hy, hs⟩ hh
      exact ⟨r, (if_neg (am_ne0 hy hn)).trans hr, hp⟩
    · cases hk
  · cases hk
theorem at_bll (ih : am_S Pr ka kc) {fa : am_I → am_I → am_I} {f : Int64 → Int64 → Int64} (hf : ∀ a b x y, am_l a x → am_l b y → am_l (fa a b) (f x y)) (hk : aq_bll ka fa pc lva sta ha c sl = some R) (hl : am_all am_q lva lv) (hs : am_all am_v sta st) (hh : am_h ha h) : ∃ r, pm_bl kc f pc lv st h c sl = some r ∧ Pr R r := by
  unfold aq_bll at hk
  split at hk
  · obtain ⟨y, st, rfl, hy, hs⟩ := av_l hs
    obtain ⟨x, st, rfl, hx, hs⟩ := av_l hs
    exact ih _ _ _ _ _ _ _ hk _ _ _ hl ⟨hf _ _ _ _ hx hy, hs⟩ hh
  · cases hk
theorem at_bl (ih : am_S Pr ka kc) {f : Int64 → Int64 → Int64} (hk : aq_bl ka f pc lva sta ha c sl = some R) (hl : am_all am_q lva lv) (hs : am_all am_v sta st) (hh : am_h ha h) : ∃ r, pm_bl kc f pc lv st h c sl = some r ∧ Pr R r := by
  unfold aq_bl at hk
  split at hk
  · obtain ⟨y, st, rfl, hy, hs⟩ := av_l hs
    obtain ⟨x, st, rfl, hx, hs⟩ := av_l hs
    exact ih _ _ _ _ _ _ _ hk _ _ _ hl ⟨am_bl_ok f hx hy, hs⟩ hh
  · cases hk
theorem at_blz (ih : am_S Pr ka kc) {f : Int64 → Int64 → Int64} (hk : aq_blz ka f pc lva sta ha c sl = some R) (hl : am_all am_q lva lv) (hs : am_all am_v sta st) (hh : am_h ha h) : ∃ r, pm_blz kc f pc lv st h c sl = some r ∧ Pr R r := by
  unfold aq_blz at hk
  split at hk
  · obtain ⟨y, st, rfl, hy, hs⟩ := av_l hs
    obtain ⟨x, st, rfl, hx, hs⟩ := av_l hs
    split at hk
    · rename_i hn
      obtain ⟨r, hr, hp⟩ := ih _ _ _ _ _ _ _ hk lv (.long (f x y) :: st) h hl ⟨am_bl_ok f hx hy, hs⟩ hh
      exact ⟨r, (if_neg (am_ne0l hy hn)).trans hr, hp⟩
    · cases hk
  · cases hk
theorem at_u (ih : am_S Pr ka kc) {f : Int32 → Int32} (hk : aq_u ka f pc lva sta ha c sl = some R) (hl : am_all am_q lva lv) (hs : am_all am_v sta st) (hh : am_h ha h) : ∃ r, pm_u kc f pc lv st h c sl = some r ∧ Pr R r := by
  unfold aq_u at hk
  split at hk
  · obtain ⟨x, st, rfl, hx, hs⟩ := av_i hs
    exact ih _ _ _ _ _ _ _ hk _ _ _ hl ⟨am_u_ok f hx, hs⟩ hh
  · cases hk
theorem at_neg (ih : am_S Pr ka kc)  (hk : aq_neg ka pc lva sta ha c sl = some R) (hl : am_all am_q lva lv) (hs : am_all am_v sta st) (hh : am_h ha h) : ∃ r, pm_u kc (fun x => -x) pc lv st h c sl = some r ∧ Pr R r := by
  unfold aq_neg at hk
  split at hk
  · obtain ⟨x, st, rfl, hx, hs⟩ := av_i hs
    exact ih _ _ _ _ _ _ _ hk _ _ _ hl ⟨am_neg_ok hx, hs⟩ hh
  · cases hk
theorem at_i2l (ih : am_S Pr ka kc)  (hk : aq_i2l ka pc lva sta ha c sl = some R) (hl : am_all am_q lva lv) (hs : am_all am_v sta st) (hh : am_h ha h) : ∃ r, pm_i2l kc pc lv st h c sl = some r ∧ Pr R r := by
  unfold aq_i2l at hk
  split at hk
  · obtain ⟨x, st, rfl, hx, hs⟩ := av_i hs
    exact ih _ _ _ _ _ _ _ hk _ _ _ hl ⟨am_i2l_ok hx, hs⟩ hh
  · cases hk
theorem at_lcmp (ih : am_S Pr ka kc)  (hk : aq_lcmp ka pc lva sta ha c sl = some R) (hl : am_all am_q lva lv) (hs : am_all am_v sta st) (hh : am_h ha h) : ∃ r, pm_lcmp kc pc lv st h c sl = some r ∧ Pr R r := by
  unfold aq_lcmp at hk
  split at hk
  · obtain ⟨y, st, rfl, hy, hs⟩ := av_l hs
    obtain ⟨x, st, rfl, hx, hs⟩ := av_l hs
    exact ih _ _ _ _ _ _ _ hk _ _ _ hl ⟨am_cmp_ok hx hy, hs⟩ hh
  · cases hk
theorem at_dup (ih : am_S Pr ka kc)  (hk : aq_dup ka pc lva sta ha c sl = some R) (hl : am_all am_q lva lv) (hs : am_all am_v sta st) (hh : am_h ha h) : ∃ r, pm_dup kc pc lv st h c sl = some r ∧ Pr R r := by
  unfold aq_dup at hk
  split at hk
  · obtain ⟨x, st, rfl, hx, hs⟩ := av_c hs
    split at hk
    · rename_i hc
      obtain ⟨r, hr, hp⟩ := ih _ _ _ _ _ _ _ hk lv (x :: x :: st) h hl ⟨hx, hx, hs⟩ hh
      exact ⟨r, (if_pos (hx.cat.symm.trans hc)).trans hr, hp⟩
    · cases hk
  · cases hk
theorem at_pop (ih : am_S Pr ka kc)  (hk : aq_pop ka pc lva sta ha c sl = some R) (hl : am_all am_q lva lv) (hs : am_all am_v sta st) (hh : am_h ha h) : ∃ r, pm_pop kc pc lv st h c sl = some r ∧ Pr R r := by
  unfold aq_pop at hk
  split at hk
  · obtain ⟨x, st, rfl, hx, hs⟩ := av_c hs
    split at hk
    · rename_i hc
      obtain ⟨r, hr, hp⟩ := ih _ _ _ _ _ _ _ hk lv st h hl hs hh
      exact ⟨r, (if_pos (hx.cat.symm.trans hc)).trans hr, hp⟩
    · cases hk
  · cases hk
theorem at_pop2 (ih : am_S Pr ka kc)  (hk : aq_pop2 ka pc lva sta ha c sl = some R) (hl : am_all am_q lva lv) (hs : am_all am_v sta st) (hh : am_h ha h) : ∃ r, pm_pop2 kc pc lv st h c sl = some r ∧ Pr R r := by
  unfold aq_pop2 at hk
  split at hk
  · obtain ⟨x, st, rfl, hx, hs⟩ := av_c hs
    split at hk
    · rename_i hc
      obtain ⟨r, hr, hp⟩ := ih _ _ _ _ _ _ _ hk lv st h hl hs hh
      exact ⟨r, (if_pos (hx.cat.symm.trans hc)).trans hr, hp⟩
    · cases hk
  · cases hk
theorem at_dup2 (ih : am_S Pr ka kc)  (hk : aq_dup2 ka pc lva sta ha c sl = some R) (hl : am_all am_q lva lv) (hs : am_all am_v sta st) (hh : am_h ha h) : ∃ r, pm_dup2 kc pc lv st h c sl = some r ∧ Pr R r := by
  unfold aq_dup2 at hk
  split at hk
  · obtain ⟨x, st, rfl, hx, hs⟩ := av_c hs
    obtain ⟨y, st, rfl, hy, hs⟩ := av_c hs
    split at hk
    · rename_i hc
      split at hk
      · rename_i hd
        obtain ⟨r, hr, hp⟩ := ih _ _ _ _ _ _ _ hk lv (x :: y :: x :: y :: st) h hl ⟨hx, hy, hx, hy, hs⟩ hh
        exact ⟨r, (if_pos (hx.cat.symm.trans hc)).trans ((if_pos (hy.cat.symm.trans hd)).trans hr), hp⟩
      · cases hk
    · cases hk
  · cases hk
theorem at_ldi (ih : am_S Pr ka kc) {i npc : Nat} (hk : aq_ldi ka i npc lva sta ha c sl = some R) (hl : am_all am_q lva lv) (hs : am_all am_v sta st) (hh : am_h ha h) : ∃ r, pm_ldi kc i npc lv st h c sl = some r ∧ Pr R r := by
  unfold aq_ldi at hk
  split at hk
  · rename_i x hx
    obtain ⟨v, hv, hr0⟩ := am_look hl hx
    cases v with
    | int z =>
      obtain ⟨r, hr, hp⟩ := ih _ _ _ _ _ _ _ hk lv (.int z :: st) h hl ⟨hr0, hs⟩ hh
      refine ⟨r, ?_, hp⟩
      unfold pm_ldi
      rw [hv]
      exact hr
    | _ => exact hr0.elim
  · cases hk
theorem at_ldl (ih : am_S Pr ka kc) {i npc : Nat} (hk : aq_ldl ka i npc lva sta ha c sl = some R) (hl : am_all am_q lva lv) (hs : am_all am_v sta st) (hh : am_h ha h) : ∃ r, pm_ldl kc i npc lv st h c sl = some r ∧ Pr R r := by
  unfold aq_ldl at hk
  split at hk
  · rename_i x hx
    obtain ⟨v, hv, hr0⟩ := am_look hl hx
    cases v with
    | long z =>
      obtain ⟨r, hr, hp⟩ := ih _ _ _ _ _ _ _ hk lv (.long z :: st) h hl ⟨hr0, hs⟩ hh
      refine ⟨r, ?_, hp⟩
      unfold pm_ldl
      rw [hv]
      exact hr
    | _ => exact hr0.elim
  · cases hk
theorem at_lda (ih : am_S Pr ka kc) {i npc : Nat} (hk : aq_lda ka i npc lva sta ha c sl = some R) (hl : am_all am_q lva lv) (hs : am_all am_v sta st) (hh : am_h ha h) : ∃ r, pm_lda kc i npc lv st h c sl = some r ∧ Pr R r := by
  unfold aq_lda at hk
  split at hk
  · rename_i x hx
    obtain ⟨v, hv, hr0⟩ := am_look hl hx
    cases v with
    | ref z =>
      obtain ⟨r, hr, hp⟩ := ih _ _ _ _ _ _ _ hk lv (.ref z :: st) h hl ⟨hr0, hs⟩ hh
      refine ⟨r, ?_, hp⟩
      unfold pm_lda
      rw [hv]
      exact hr
    | _ => exact hr0.elim
  · cases hk
theorem at_stp (ih : am_S Pr ka kc) {nL i npc : Nat} (hk : aq_stp ka nL i npc lva sta ha c sl = some R) (hl : am_all am_q lva lv) (hs : am_all am_v sta st) (hh : am_h ha h) : ∃ r, pm_sti kc nL i npc lv st h c sl = some r ∧ Pr R r := by
  unfold aq_stp at hk
  split at hk
  · obtain ⟨x, st, rfl, hx, hs⟩ := av_i hs
    split at hk
    · rename_i hi
      obtain ⟨y, hy, hxy⟩ := am_pcs_ok hx
      obtain ⟨r, hr, hp⟩ := ih _ _ _ _ _ _ _ (am_each_ok hk y hy) _ st h (am_s1_ok (v := .int x) hl hxy) hs hh
      exact ⟨r, (if_pos hi).trans hr, hp⟩
    · cases hk
  · cases hk
theorem at_sti (ih : am_S Pr ka kc) {nL i npc : Nat} (hk : aq_sti ka nL i npc lva sta ha c sl = some R) (hl : am_all am_q lva lv) (hs : am_all am_v sta st) (hh : am_h ha h) : ∃ r, pm_sti kc nL i npc lv st h c sl = some r ∧ Pr R r := by
  unfold aq_sti at hk
  split at hk
  · obtain ⟨x, st, rfl, hx, hs⟩ := av_i hs
    split at hk
    · rename_i hi
      obtain ⟨r, hr, hp⟩ := ih _ _ _ _ _ _ _ hk _ st h (am_s1_ok (v := .int x) hl hx) hs hh
      exact ⟨r, (if_pos hi).trans hr, hp⟩
    · cases hk
  · cases hk
theorem at_stl (ih : am_S Pr ka kc) {nL i npc : Nat} (hk : aq_stl ka nL i npc lva sta ha c sl = some R) (hl : am_all am_q lva lv) (hs : am_all am_v sta st) (hh : am_h ha h) : ∃ r, pm_stl kc nL i npc lv st h c sl = some r ∧ Pr R r := by
  unfold aq_stl at hk
  split at hk
  · obtain ⟨x, st, rfl, hx, hs⟩ := av_l hs
    split at hk
    · rename_i hi
      obtain ⟨r, hr, hp⟩ := ih _ _ _ _ _ _ _ hk _ st h (am_s2_ok (v := .long x) hl hx) hs hh
      exact ⟨r, (if_pos hi).trans hr, hp⟩
    · cases hk
  · cases hk
theorem at_sta (ih : am_S Pr ka kc) {nL i npc : Nat} (hk : aq_sta ka nL i npc lva sta ha c sl = some R) (hl : am_all am_q lva lv) (hs : am_all am_v sta st) (hh : am_h ha h) : ∃ r, pm_sta kc nL i npc lv st h c sl = some r ∧ Pr R r := by
  unfold aq_sta at hk
  split at hk
  · rename_i x rr
    obtain ⟨st, rfl, -, hs⟩ := av_r hs
    split at hk
    · rename_i hi
      obtain ⟨r, hr, hp⟩ := ih _ _ _ _ _ _ _ hk _ st h (am_s1_ok (v := .ref x) hl rfl) hs hh
      exact ⟨r, (if_pos hi).trans hr, hp⟩
    · cases hk
  · cases hk
theorem at_iinc (ih : am_S Pr ka kc) {nL i : Nat} {n : Int} (hk : aq_iinc ka nL i n pc lva sta ha c sl = some R) (hl : am_all am_q lva lv) (hs : am_all am_v sta st) (hh : am_h ha h) : ∃ r, pm_iinc kc nL i n pc lv st h c sl = some r ∧ Pr R r := by
  unfold aq_iinc at hk
  split at hk
  · rename_i x hx
    obtain ⟨v, hv, hr0⟩ := am_look hl hx
    cases v with
    | int z =>
      split at hk
      · rename_i hi
        obtain ⟨r, hr, hp⟩ := ih _ _ _ _ _ _ _ hk _ st h (am_s1_ok (v := .int (z + Int32.ofInt n)) hl (am_add_ok hr0 (am_i.sg _))) hs hh
        refine ⟨r, ?_, hp⟩
        unfold pm_iinc
        rw [hv]
        exact (if_pos hi).trans hr
      · cases hk
    | _ => exact hr0.elim
  · cases hk
theorem am_dec_ok {cd : ClassFile.Cond} {a b : am_I} {t : Bool} {x y : Int32} {tgt : Nat} (hd : am_dec cd a b = some t) (hx : am_i a x) (hy : am_i b y) : pm_ic kc cd tgt pc lv (.int y :: .int x :: st) h c sl = (match t with
    | true => kc tgt lv st h c sl
    | false => kc (pc + 3) lv st h c sl) := by
  have h1 := hx.1
  have h2 := hx.2
  have h3 := hy.1
  have h4 := hy.2
  cases cd with
  | eq =>
    have hd : (if a.2 < b.1 ∨ b.2 < a.1 then some false else if a.1 = a.2 ∧ b.1 = b.2 ∧ a.1 = b.1 then some true else none) = some t := hd
    split at hd
    · cases hd
      exact if_neg (fun q => by subst q; omega)
    · split at hd
      · cases hd
        exact if_pos (Int32.toInt_inj.mp (by omega))
      · cases hd
  | ne =>
    have hd : (if a.2 < b.1 ∨ b.2 < a.1 then some true else if a.1 = a.2 ∧ b.1 = b.2 ∧ a.1 = b.1 then some false else none) = some t := hd
    split at hd
    · cases hd
      exact if_neg (fun q => by subst q; omega)
    · split at hd
      · cases hd
        exact if_pos (Int32.toInt_inj.mp (by omega))
      · cases hd
  | lt =>
    have hd : (if a.2 < b.1 then some true else if b.2 ≤ a.1 then some false else none) = some t := hd
    split at hd
    · cases hd
      exact if_pos (Int32.lt_iff_toInt_lt.mpr (by omega))
    · split at hd
      · cases hd
        exact if_neg (fun q => by have := Int32.lt_iff_toInt_lt.mp q; omega)
      · cases hd
  | ge =>
    have hd : (if b.2 ≤ a.1 then some true else if a.2 < b.1 then some false else none) = some t := hd
    split at hd
    · cases hd
      exact if_pos (Int32.le_iff_toInt_le.mpr (by omega))
    · split at hd
      · cases hd
        exact if_neg (fun q => by have := Int32.le_iff_toInt_le.mp q; omega)
      · cases hd
  | gt =>
    have hd : (if b.2 < a.1 then some true else if a.2 ≤ b.1 then some false else none) = some t := hd
    split at hd
    · cases hd
      exact if_pos (Int32.lt_iff_toInt_lt.mpr (by omega))
    · split at hd
      · cases hd
        exact if_neg (fun q => by have := Int32.lt_iff_toInt_lt.mp q; omega)
      · cases hd
  | le =>
    have hd : (if a.2 ≤ b.1 then some true else if b.2 < a.1 then some false else none) = some t := hd
    split at hd
    · cases hd
      exact if_pos (Int32.le_iff_toInt_le.mpr (by omega))
    · split at hd
      · cases hd
        exact if_neg (fun q => by have := Int32.le_iff_toInt_le.mp q; omega)
      · cases hd
theorem pm_ic_or (cd : ClassFile.Cond) (x y : Int32) (tgt : Nat) : pm_ic kc cd tgt pc lv (.int y :: .int x :: st) h c sl = kc tgt lv st h c sl ∨ pm_ic kc cd tgt pc lv (.int y :: .int x :: st) h c sl = kc (pc + 3) lv st h c sl := by
  cases cd with
  | eq =>
    by_cases q : x = y
    · exact Or.inl (if_pos q)
    · exact Or.inr (if_neg q)
  | ne =>
    by_cases q : x = y
    · exact Or.inr (if_pos q)
    · exact Or.inl (if_neg q)
  | lt =>
    by_cases q : x < y
    · exact Or.inl (if_pos q)
    · exact Or.inr (if_neg q)
  | ge =>
    by_cases q : y ≤ x
    · exact Or.inl (if_pos q)
    · exact Or.inr (if_neg q)
  | gt =>
    by_cases q : y < x
    · exact Or.inl (if_pos q)
    · exact Or.inr (if_neg q)
  | le =>
    by_cases q : x ≤ y
    · exact Or.inl (if_pos q)
    · exact Or.inr (if_neg q)
theorem at_ic (ih : am_S Pr ka kc) {cd : ClassFile.Cond} {tgt : Nat} (hk : aq_ic ka cd tgt pc lva sta ha c sl = some R) (hl : am_all am_q lva lv) (hs : am_all am_v sta st) (hh : am_h ha h) : ∃ r, pm_ic kc cd tgt pc lv st h c sl = some r ∧ Pr R r := by
  unfold aq_ic at hk
  split at hk
  · obtain ⟨y, st, rfl, hy, hs⟩ := av_i hs
    obtain ⟨x, st, rfl, hx, hs⟩ := av_i hs
    split at hk
    · rename_i hd
      obtain ⟨r, hr, hp⟩ := ih _ _ _ _ _ _ _ hk lv st h hl hs hh
      exact ⟨r, (am_dec_ok hd hx hy).trans hr, hp⟩
    · rename_i hd
      obtain ⟨r, hr, hp⟩ := ih _ _ _ _ _ _ _ hk lv st h hl hs hh
      exact ⟨r, (am_dec_ok hd hx hy).trans hr, hp⟩
    · split at hk
      · rename_i R1 R2 e1 e2
        split at hk
        · rename_i he
          cases hk
          have e := aeR_ok he
          rcases pm_ic_or (kc := kc) (pc := pc) (lv := lv) (st := st) (h := h) (c := c) (sl := sl) cd x y tgt with q | q
          · obtain ⟨r, hr, hp⟩ := ih _ _ _ _ _ _ _ e1 lv st h hl hs hh
            exact ⟨r, q.trans hr, hp⟩
          · obtain ⟨r, hr, hp⟩ := ih _ _ _ _ _ _ _ e2 lv st h hl hs hh
            exact ⟨r, q.trans hr, by rw [e]; exact hp⟩
        · cases hk
      · cases hk
  · cases hk
theorem at_if (ih : am_S Pr ka kc) {cd : ClassFile.Cond} {tgt : Nat} (hk : aq_if ka cd tgt pc lva sta ha c sl = some R) (hl : am_all am_q lva lv) (hs : am_all am_v sta st) (hh : am_h ha h) : ∃ r, pm_if kc cd tgt pc lv st h c sl = some r ∧ Pr R r := by
  obtain ⟨r, hr, hp⟩ := at_ic ih hk (st := .int 0 :: st) hl ⟨am_i.sg 0, hs⟩ hh
  refine ⟨r, ?_, hp⟩
  rw [← hr]
  unfold aq_if aq_ic at hk
  split at hk
  · rename_i y x rr he
    cases he
    obtain ⟨z, st, rfl, hz, hs⟩ := av_i hs
    cases cd <;> rfl
  · cases hk
theorem at_jump {t : Int} (ih : am_S Pr ka kc) (hk : aq_jump ka t lva sta ha c sl = some R) (hl : am_all am_q lva lv) (hs : am_all am_v sta st) (hh : am_h ha h) : ∃ r, pm_jump kc t lv st h c sl = some r ∧ Pr R r := by
  unfold aq_jump at hk
  split at hk
  · rename_i ht
    obtain ⟨r, hr, hp⟩ := ih _ _ _ _ _ _ _ hk lv st h hl hs hh
    exact ⟨r, (if_pos ht).trans hr, hp⟩
  · cases hk
theorem at_tsw (ih : am_S Pr ka kc) {d lo hi : Int} {offs : Array Int} (hk : aq_tsw ka d lo hi offs pc lva sta ha c sl = some R) (hl : am_all am_q lva lv) (hs : am_all am_v sta st) (hh : am_h ha h) : ∃ r, pm_tsw kc d lo hi offs pc lv st h c sl = some r ∧ Pr R r := by
  unfold aq_tsw at hk
  split at hk
  · rename_i ax rr
    obtain ⟨x, st, rfl, hx, hs⟩ := av_i hs
    have h1 := hx.1
    have h2 := hx.2
    split at hk
    · obtain ⟨r, hr, hp⟩ := at_jump ih hk hl hs hh
      exact ⟨r, (if_pos (by omega)).trans hr, hp⟩
    · split at hk
      · obtain ⟨r, hr, hp⟩ := at_jump ih hk hl hs hh
        refine ⟨r, ?_, hp⟩
        show (if x.toInt < lo then _ else if hi < x.toInt then _ else _) = some r
        by_cases hlo : x.toInt < lo
        · rw [if_pos hlo]; exact hr
        · rw [if_neg hlo, if_pos (by omega)]; exact hr
      · split at hk
        · rename_i he
          split at hk
          · rename_i off hoff
            obtain ⟨r, hr, hp⟩ := at_jump ih hk hl hs hh
            refine ⟨r, ?_, hp⟩
            show (if x.toInt < lo then _ else if hi < x.toInt then _ else _) = some r
            have e : x.toInt = ax.1 := by omega
            rw [if_neg (by omega), if_neg (by omega), e, hoff]
            exact hr
          · cases hk
        · cases hk
  · cases hk
theorem at_getf (ih : am_S Pr ka kc) {ci f : Nat} (hk : aq_getf ka ci f pc lva sta ha c sl = some R) (hl : am_all am_q lva lv) (hs : am_all am_v sta st) (hh : am_h ha h) : ∃ r, pm_getf kc ci f pc lv st h c sl = some r ∧ Pr R r := by
  unfold aq_getf at hk
  split at hk
  · obtain ⟨st, rfl, -, hs⟩ := av_r hs
    split at hk
    · rename_i cj fs hcell
      obtain ⟨D, hD, hc⟩ := am_cell_ok hh hcell
      obtain ⟨m, rfl, hm⟩ := ac_o hc
      split at hk
      · rename_i hcj
        split at hk
        · rename_i v hv
          obtain ⟨w, hw, hvw⟩ := am_all.get hm hv
          obtain ⟨r, hr, hp⟩ := ih _ _ _ _ _ _ _ hk lv (w :: st) h hl ⟨hvw, hs⟩ hh
          refine ⟨r, ?_, hp⟩
          unfold pm_getf
          dsimp only
          rw [hD]
          dsimp only
          rw [if_pos hcj, hw]
          exact hr
        · cases hk
      · cases hk
    · cases hk
  · cases hk
theorem at_putf (ih : am_S Pr ka kc) {ci f : Nat} (hk : aq_putf ka ci f pc lva sta ha c sl = some R) (hl : am_all am_q lva lv) (hs : am_all am_v sta st) (hh : am_h ha h) : ∃ r, pm_putf kc ci f pc lv st h c sl = some r ∧ Pr R r := by
  unfold aq_putf at hk
  split at hk
  · rename_i v a rr
    obtain ⟨w, st, rfl, hw, hs⟩ := av_c hs
    obtain ⟨st, rfl, -, hs⟩ := av_r hs
    split at hk
    · rename_i cj fs hcell
      obtain ⟨D, hD, hc⟩ := am_cell_ok hh hcell
      obtain ⟨m, rfl, hm⟩ := ac_o hc
      split at hk
      · rename_i hcj
        split at hk
        · rename_i hfl
          split at hk
          · rename_i hfit
            obtain ⟨r, hr, hp⟩ := ih _ _ _ _ _ _ _ hk lv st (h.set (a - 8) (.inr (.inr (.inr (ci, m.set f w))))) hl hs (am_hset hh hcell ⟨rfl, am_all.set hm hw⟩)
            refine ⟨r, ?_, hp⟩
            unfold pm_putf
            dsimp only
            rw [hD]
            dsimp only
            rw [if_pos hcj, if_pos (by rw [← hm.len]; exact hfl), am_fit_ok hfit hw]
            exact hr
          · cases hk
        · cases hk
      · cases hk
    · cases hk
  · cases hk
theorem at_iald (ih : am_S Pr ka kc) {xa : Option (List am_I)} {xs : List Int32} (hxs : ∀ l, xa = some l → am_all am_i l xs) (hk : aq_iald ka xa pc lva sta ha c sl = some R) (hl : am_all am_q lva lv) (hs : am_all am_v sta st) (hh : am_h ha h) : ∃ r, pm_iald kc xs pc lv st h c sl = some r ∧ Pr R r := by
  unfold aq_iald at hk
  split at hk
  · rename_i ia a rr
    obtain ⟨i, st, rfl, hi, hs⟩ := av_i hs
    obtain ⟨st, rfl, -, hs⟩ := av_r hs
    split at hk
    · rename_i n hn
      obtain ⟨h0, rfl⟩ := am_ix_ok hn hi
      split at hk
      · rename_i ha0
        split at hk
        · rename_i l
          split at hk
          · rename_i x hx
            obtain ⟨w, hw, hvw⟩ := am_all.get (hxs l rfl) hx
            obtain ⟨r, hr, hp⟩ := ih _ _ _ _ _ _ _ hk lv (.int w :: st) h hl ⟨hvw, hs⟩ hh
            refine ⟨r, ?_, hp⟩
            unfold pm_iald
            dsimp only
            rw [if_neg h0, if_pos ha0, hw]
            exact hr
          · cases hk
        · cases hk
      · rename_i ha0
        split at hk
        · rename_i t l hcell
          obtain ⟨D, hD, hc⟩ := am_cell_ok hh hcell
          obtain ⟨m, rfl, hm⟩ := ac_i hc
          split at hk
          · rename_i ht
            split at hk
            · rename_i x hx
              obtain ⟨w, hw, hvw⟩ := am_all.get hm hx
              obtain ⟨r, hr, hp⟩ := ih _ _ _ _ _ _ _ hk lv (.int w :: st) h hl ⟨hvw, hs⟩ hh
              refine ⟨r, ?_, hp⟩
              unfold pm_iald
              dsimp only
              rw [if_neg h0, if_neg ha0, hD]
              dsimp only
              rw [if_pos ht, hw]
              exact hr
            · cases hk
          · cases hk
        · cases hk
    · split at hk
      · rename_i t l hcell
        obtain ⟨D, hD, hc⟩ := am_cell_ok hh hcell
        obtain ⟨m, rfl, hm⟩ := ac_i hc
        split at hk
        · rename_i ht
          split at hk
          · rename_i hwx
            obtain ⟨h0, w, hw, hvw⟩ := am_wx_ok hwx hi hm
            have ha0 : ¬ a = 0 := fun q => by subst q; unfold am_cell at hcell; cases hcell
            obtain ⟨r, hr, hp⟩ := ih _ _ _ _ _ _ _ hk lv (.int w :: st) h hl ⟨hvw, hs⟩ hh
            refine ⟨r, ?_, hp⟩
            unfold pm_iald
            dsimp only
            rw [if_neg h0, if_neg ha0, hD]
            dsimp only
            rw [if_pos ht, hw]
            exact hr
          · cases hk
        · cases hk
      · cases hk
  · cases hk
theorem at_bald (ih : am_S Pr ka kc)  (hk : aq_bald ka pc lva sta ha c sl = some R) (hl : am_all am_q lva lv) (hs : am_all am_v sta st) (hh : am_h ha h) : ∃ r, pm_bald kc pc lv st h c sl = some r ∧ Pr R r := by
  unfold aq_bald at hk
  split at hk
  · rename_i ia a rr
    obtain ⟨i, st, rfl, hi, hs⟩ := av_i hs
    obtain ⟨st, rfl, -, hs⟩ := av_r hs
    split at hk
    · rename_i n hn
      obtain ⟨h0, rfl⟩ := am_ix_ok hn hi
      split at hk
      · rename_i t l hcell
        obtain ⟨D, hD, hc⟩ := am_cell_ok hh hcell
        obtain ⟨m, rfl, hm⟩ := ac_i hc
        split at hk
        · rename_i ht
          split at hk
          · rename_i x hx
            obtain ⟨w, hw, hvw⟩ := am_all.get hm hx
            obtain ⟨r, hr, hp⟩ := ih _ _ _ _ _ _ _ hk lv (.int w :: st) h hl ⟨hvw, hs⟩ hh
            refine ⟨r, ?_, hp⟩
            unfold pm_bald
            dsimp only
            rw [if_neg h0, hD]
            dsimp only
            rw [if_pos ht, hw]
            exact hr
          · cases hk
        · cases hk
      · cases hk
    · cases hk
  · cases hk
theorem at_lald (ih : am_S Pr ka kc)  (hk : aq_lald ka pc lva sta ha c sl = some R) (hl : am_all am_q lva lv) (hs : am_all am_v sta st) (hh : am_h ha h) : ∃ r, pm_lald kc pc lv st h c sl = some r ∧ Pr R r := by
  unfold aq_lald at hk
  split at hk
  · rename_i ia a rr
    obtain ⟨i, st, rfl, hi, hs⟩ := av_i hs
    obtain ⟨st, rfl, -, hs⟩ := av_r hs
    split at hk
    · rename_i n hn
      obtain ⟨h0, rfl⟩ := am_ix_ok hn hi
      split at hk
      · rename_i t l hcell
        obtain ⟨D, hD, hc⟩ := am_cell_ok hh hcell
        obtain ⟨m, rfl, hm⟩ := ac_l hc
        split at hk
        · rename_i ht
          split at hk
          · rename_i x hx
            obtain ⟨w, hw, hvw⟩ := am_all.get hm hx
            obtain ⟨r, hr, hp⟩ := ih _ _ _ _ _ _ _ hk lv (.long w :: st) h hl ⟨hvw, hs⟩ hh
            refine ⟨r, ?_, hp⟩
            unfold pm_lald
            dsimp only
            rw [if_neg h0, hD]
            dsimp only
            rw [if_pos ht, hw]
            exact hr
          · cases hk
        · cases hk
      · cases hk
    · cases hk
  · cases hk
theorem at_aald (ih : am_S Pr ka kc)  (hk : aq_aald ka pc lva sta ha c sl = some R) (hl : am_all am_q lva lv) (hs : am_all am_v sta st) (hh : am_h ha h) : ∃ r, pm_aald kc pc lv st h c sl = some r ∧ Pr R r := by
  unfold aq_aald at hk
  split at hk
  · rename_i ia a rr
    obtain ⟨i, st, rfl, hi, hs⟩ := av_i hs
    obtain ⟨st, rfl, -, hs⟩ := av_r hs
    split at hk
    · rename_i n hn
      obtain ⟨h0, rfl⟩ := am_ix_ok hn hi
      split at hk
      · rename_i t l hcell
        obtain ⟨D, hD, hc⟩ := am_cell_ok hh hcell
        obtain rfl := ac_r hc
        split at hk
        · rename_i ht
          split at hk
          · rename_i x hx
            obtain ⟨r, hr, hp⟩ := ih _ _ _ _ _ _ _ hk lv (.ref x :: st) h hl ⟨rfl, hs⟩ hh
            refine ⟨r, ?_, hp⟩
            unfold pm_aald
            dsimp only
            rw [if_neg h0, hD]
            dsimp only
            rw [if_pos ht, hx]
            exact hr
          · cases hk
        · cases hk
      · cases hk
    · cases hk
  · cases hk
theorem at_iast (ih : am_S Pr ka kc)  (hk : aq_iast ka pc lva sta ha c sl = some R) (hl : am_all am_q lva lv) (hs : am_all am_v sta st) (hh : am_h ha h) : ∃ r, pm_iast kc pc lv st h c sl = some r ∧ Pr R r := by
  unfold aq_iast at hk
  split at hk
  · rename_i xa ia a rr
    obtain ⟨x, st, rfl, hx, hs⟩ := av_i hs
    obtain ⟨i, st, rfl, hi, hs⟩ := av_i hs
    obtain ⟨st, rfl, -, hs⟩ := av_r hs
    split at hk
    · rename_i n hn
      obtain ⟨h0, rfl⟩ := am_ix_ok hn hi
      split at hk
      · rename_i t l hcell
        obtain ⟨D, hD, hc⟩ := am_cell_ok hh hcell
        obtain ⟨m, rfl, hm⟩ := ac_i hc
        split at hk
        · rename_i ht
          split at hk
          · rename_i hlt
            obtain ⟨r, hr, hp⟩ := ih _ _ _ _ _ _ _ hk lv st (h.set (a - 8) (.inl (0, m.set i.toNatClampNeg x))) hl hs (am_hset hh hcell ⟨rfl, am_all.set hm hx⟩)
            refine ⟨r, ?_, hp⟩
            unfold pm_iast
            dsimp only
            rw [if_neg h0, hD]
            dsimp only
            rw [if_pos ht, if_pos (by rw [← hm.len]; exact hlt)]
            exact hr
          · cases hk
        · cases hk
      · cases hk
    · split at hk
      · rename_i t l hcell
        obtain ⟨D, hD, hc⟩ := am_cell_ok hh hcell
        obtain ⟨m, rfl, hm⟩ := ac_i hc
        split at hk
        · rename_i ht
          split at hk
          · rename_i hwx
            obtain ⟨h0, w, hw, -⟩ := am_wx_ok hwx hi hm
            have hlt : i.toNatClampNeg < m.length := (List.getElem?_eq_some_iff.mp hw).1
            obtain ⟨r, hr, hp⟩ := ih _ _ _ _ _ _ _ hk lv st (h.set (a - 8) (.inl (0, m.set i.toNatClampNeg x))) hl hs (am_hset hh hcell ⟨rfl, am_hulset hm hx _⟩)
            refine ⟨r, ?_, hp⟩
            unfold pm_iast
            dsimp only
            rw [if_neg h0, hD]
            dsimp only
            rw [if_pos ht, if_pos hlt]
            exact hr
          · cases hk
        · cases hk
      · cases hk
  · cases hk
theorem at_last (ih : am_S Pr ka kc)  (hk : aq_last ka pc lva sta ha c sl = some R) (hl : am_all am_q lva lv) (hs : am_all am_v sta st) (hh : am_h ha h) : ∃ r, pm_last kc pc lv st h c sl = some r ∧ Pr R r := by
  unfold aq_last at hk
  split at hk
  · rename_i xa ia a rr
    obtain ⟨x, st, rfl, hx, hs⟩ := av_l hs
    obtain ⟨i, st, rfl, hi, hs⟩ := av_i hs
    obtain ⟨st, rfl, -, hs⟩ := av_r hs
    split at hk
    · rename_i n hn
      obtain ⟨h0, rfl⟩ := am_ix_ok hn hi
      split at hk
      · rename_i t l hcell
        obtain ⟨D, hD, hc⟩ := am_cell_ok hh hcell
        obtain ⟨m, rfl, hm⟩ := ac_l hc
        split at hk
        · rename_i ht
          split at hk
          · rename_i hlt
            obtain ⟨r, hr, hp⟩ := ih _ _ _ _ _ _ _ hk lv st (h.set (a - 8) (.inr (.inl (3, m.set i.toNatClampNeg x)))) hl hs (am_hset hh hcell ⟨rfl, am_all.set hm hx⟩)
            refine ⟨r, ?_, hp⟩
            unfold pm_last
            dsimp only
            rw [if_neg h0, hD]
            dsimp only
            rw [if_pos ht, if_pos (by rw [← hm.len]; exact hlt)]
            exact hr
          · cases hk
        · cases hk
      · cases hk
    · cases hk
  · cases hk
theorem at_bast (ih : am_S Pr ka kc)  (hk : aq_bast ka pc lva sta ha c sl = some R) (hl : am_all am_q lva lv) (hs : am_all am_v sta st) (hh : am_h ha h) : ∃ r, pm_bast kc pc lv st h c sl = some r ∧ Pr R r := by
  unfold aq_bast at hk
  split at hk
  · rename_i xa ia a rr
    obtain ⟨x, st, rfl, hx, hs⟩ := av_i hs
    obtain ⟨i, st, rfl, hi, hs⟩ := av_i hs
    obtain ⟨st, rfl, -, hs⟩ := av_r hs
    split at hk
    · rename_i n hn
      obtain ⟨h0, rfl⟩ := am_ix_ok hn hi
      split at hk
      · rename_i t l hcell
        obtain ⟨D, hD, hc⟩ := am_cell_ok hh hcell
        obtain ⟨m, rfl, hm⟩ := ac_i hc
        split at hk
        · rename_i ht
          split at hk
          · rename_i hlt
            obtain ⟨r, hr, hp⟩ := ih _ _ _ _ _ _ _ hk lv st (h.set (a - 8) (.inl (1, m.set i.toNatClampNeg x.toInt8.toInt32))) hl hs (am_hset hh hcell ⟨rfl, am_all.set hm (am_u_ok (fun x => x.toInt8.toInt32) hx)⟩)
            refine ⟨r, ?_, hp⟩
            unfold pm_bast
            dsimp only
            rw [if_neg h0, hD]
            dsimp only
            rw [if_pos ht, if_pos (by rw [← hm.len]; exact hlt)]
            exact hr
          · cases hk
        · rename_i ht
          split at hk
          · rename_i ht2
            split at hk
            · rename_i hlt
              obtain ⟨r, hr, hp⟩ := ih _ _ _ _ _ _ _ hk lv st (h.set (a - 8) (.inl (2, m.set i.toNatClampNeg (x &&& 1)))) hl hs (am_hset hh hcell ⟨rfl, am_all.set hm (am_u_ok (fun x => x &&& 1) hx)⟩)
              refine ⟨r, ?_, hp⟩
              unfold pm_bast
              dsimp only
              rw [if_neg h0, hD]
              dsimp only
              rw [if_neg ht, if_pos ht2, if_pos (by rw [← hm.len]; exact hlt)]
              exact hr
            · cases hk
          · cases hk
      · cases hk
    · cases hk
  · cases hk
theorem at_aast (ih : am_S Pr ka kc)  (hk : aq_aast ka pc lva sta ha c sl = some R) (hl : am_all am_q lva lv) (hs : am_all am_v sta st) (hh : am_h ha h) : ∃ r, pm_aast kc pc lv st h c sl = some r ∧ Pr R r := by
  unfold aq_aast at hk
  split at hk
  · rename_i v ia a rr
    obtain ⟨st, rfl, -, hs⟩ := av_r hs
    obtain ⟨i, st, rfl, hi, hs⟩ := av_i hs
    obtain ⟨st, rfl, -, hs⟩ := av_r hs
    split at hk
    · rename_i n hn
      obtain ⟨h0, rfl⟩ := am_ix_ok hn hi
      split at hk
      · rename_i t l hcell
        obtain ⟨D, hD, hc⟩ := am_cell_ok hh hcell
        obtain rfl := ac_r hc
        split at hk
        · rename_i cj fs hcv
          obtain ⟨E, hE, hce⟩ := am_cell_ok hh hcv
          obtain ⟨m, rfl, hm⟩ := ac_o hce
          split at hk
          · rename_i ht
            split at hk
            · rename_i hcj
              split at hk
              · rename_i hlt
                obtain ⟨r, hr, hp⟩ := ih _ _ _ _ _ _ _ hk lv st (h.set (a - 8) (.inr (.inr (.inl (t, l.set i.toNatClampNeg (some v)))))) hl hs (am_hset hh hcell ⟨rfl, rfl⟩)
                refine ⟨r, ?_, hp⟩
                unfold pm_aast
                dsimp only
                rw [if_neg h0, hD, hE]
                dsimp only
                rw [if_pos ht, if_pos hcj, if_pos hlt]
                exact hr
              · cases hk
            · cases hk
          · cases hk
        · cases hk
      · cases hk
    · cases hk
  · cases hk
theorem at_ldcs (ih : am_S Pr ka kc) {b : Nat} (hk : aq_ldcs ka b pc lva sta ha c sl = some R) (hl : am_all am_q lva lv) (hs : am_all am_v sta st) (hh : am_h ha h) : ∃ r, pm_ldcs kc b pc lv st h c sl = some r ∧ Pr R r := by
  unfold aq_ldcs at hk
  split at hk
  · rename_i h1
    split at hk
    · rename_i h2
      obtain ⟨r, hr, hp⟩ := ih _ _ _ _ _ _ _ hk lv (.ref b :: st) h hl ⟨rfl, hs⟩ hh
      exact ⟨r, ((if_pos h1).trans (if_pos h2)).trans hr, hp⟩
    · cases hk
  · cases hk
theorem at_slen (ih : am_S Pr ka kc)  (hk : aq_slen ka pc lva sta ha c sl = some R) (hl : am_all am_q lva lv) (hs : am_all am_v sta st) (hh : am_h ha h) : ∃ r, pm_slen kc pc lv st h c sl = some r ∧ Pr R r := by
  unfold aq_slen at hk
  split at hk
  · rename_i b rr
    obtain ⟨st, rfl, -, hs⟩ := av_r hs
    split at hk
    · rename_i h1
      split at hk
      · rename_i h2
        split at hk
        · rename_i h3
          obtain ⟨r, hr, hp⟩ := ih _ _ _ _ _ _ _ hk lv (.int (Int32.ofNat (sg_len.getD (b - 1) 0)) :: st) h hl ⟨am_i.sg _, hs⟩ hh
          refine ⟨r, ?_, hp⟩
          unfold pm_slen
          dsimp only
          rw [if_pos h1, if_pos h2, if_pos (by rw [← am_all.sum (fun a b h => am_v.cat h) hs]; exact h3)]
          exact hr
        · cases hk
      · cases hk
    · cases hk
  · cases hk
theorem at_sch (ih : am_S Pr ka kc)  (hk : aq_sch ka pc lva sta ha c sl = some R) (hl : am_all am_q lva lv) (hs : am_all am_v sta st) (hh : am_h ha h) : ∃ r, pm_sch kc pc lv st h c sl = some r ∧ Pr R r := by
  unfold aq_sch at hk
  split at hk
  · rename_i j b rr
    obtain ⟨x, st, rfl, hx, hs⟩ := av_i hs
    obtain ⟨st, rfl, -, hs⟩ := av_r hs
    split at hk
    · rename_i h1
      split at hk
      · rename_i h2
        split at hk
        · rename_i i hi
          obtain ⟨g1, g2⟩ := am_ix_ok hi hx
          split at hk
          · rename_i h4
            split at hk
            · rename_i h3
              obtain ⟨r, hr, hp⟩ := ih _ _ _ _ _ _ _ hk lv (.int ((sg_byt.getD (b - 1) []).getD i 0) :: st) h hl ⟨am_i.sg _, hs⟩ hh
              refine ⟨r, ?_, hp⟩
              unfold pm_sch
              dsimp only
              rw [if_pos h1, if_pos h2, if_neg g1, g2, if_pos h4, if_pos (by rw [← am_all.sum (fun a b h => am_v.cat h) hs]; exact h3)]
              exact hr
            · cases hk
          · cases hk
        · cases hk
      · cases hk
    · cases hk
  · cases hk
theorem at_alen (ih : am_S Pr ka kc) {xa : Option (List am_I)} {xs : List Int32} (hxs : ∀ l, xa = some l → am_all am_i l xs) (hk : aq_alen ka xa pc lva sta ha c sl = some R) (hl : am_all am_q lva lv) (hs : am_all am_v sta st) (hh : am_h ha h) : ∃ r, pm_alen kc xs pc lv st h c sl = some r ∧ Pr R r := by
  unfold aq_alen at hk
  split at hk
  · rename_i a rr
    obtain ⟨st, rfl, -, hs⟩ := av_r hs
    split at hk
    · rename_i ha0
      split at hk
      · rename_i l
        obtain ⟨r, hr, hp⟩ := ih _ _ _ _ _ _ _ hk lv (.int (Int32.ofNat xs.length) :: st) h hl ⟨by rw [(hxs l rfl).len]; exact am_i.sg _, hs⟩ hh
        exact ⟨r, (if_pos ha0).trans hr, hp⟩
      · cases hk
    · rename_i ha0
      split at hk
      · rename_i t l hcell
        obtain ⟨D, hD, hc⟩ := am_cell_ok hh hcell
        obtain ⟨m, rfl, hm⟩ := ac_i hc
        split at hk
        · rename_i ht
          obtain ⟨r, hr, hp⟩ := ih _ _ _ _ _ _ _ hk lv (.int (Int32.ofNat m.length) :: st) h hl ⟨by rw [hm.len]; exact am_i.sg _, hs⟩ hh
          refine ⟨r, ?_, hp⟩
          unfold pm_alen
          dsimp only
          rw [if_neg ha0, hD]
          dsimp only
          rw [if_pos ht]
          exact hr
        · cases hk
      · cases hk
  · cases hk
theorem am_z_ok (ci : Nat) : am_all am_v (am_z ci) (kZ ci) := by
  unfold am_z kZ
  split <;> simp [am_all, am_v, am_i]
theorem at_new (ih : am_S Pr ka kc) {mm : pm_M} {ci : Nat} (hk : aq_new ka mm ci pc lva sta ha c sl = some R) (hl : am_all am_q lva lv) (hs : am_all am_v sta st) (hh : am_h ha h) : ∃ r, pm_new kc mm ci pc lv st h c sl = some r ∧ Pr R r := by
  unfold aq_new at hk
  split at hk
  · rename_i h1
    split at hk
    · rename_i h2
      split at hk
      · rename_i hq hps
        obtain ⟨r, hr, hp⟩ := ih _ _ _ _ _ _ _ hk lv (.ref (8 + h.length) :: st) (h ++ [.inr (.inr (.inr (ci, kZ ci)))]) hl ⟨by show 8 + ha.1 = 8 + h.length; rw [hh.1], hs⟩ (am_push (D := .inr (.inr (.inr (ci, kZ ci)))) hh hps ⟨rfl, am_z_ok ci⟩)
        exact ⟨r, (if_pos h1).trans ((if_pos h2).trans hr), hp⟩
      · cases hk
    · cases hk
  · cases hk
theorem at_newa (ih : am_S Pr ka kc) {mm : pm_M} {at_ : ArrayType} (hk : aq_newa ka mm at_ pc lva sta ha c sl = some R) (hl : am_all am_q lva lv) (hs : am_all am_v sta st) (hh : am_h ha h) : ∃ r, pm_newa kc mm at_ pc lv st h c sl = some r ∧ Pr R r := by
  unfold aq_newa at hk
  split at hk
  · obtain ⟨n, st, rfl, hn, hs⟩ := av_i hs
    split at hk
    · rename_i na hna
      obtain ⟨h0, rfl⟩ := am_ix_ok hna hn
      split at hk
      · rename_i hN
        split at hk
        · rename_i h1
          split at hk
          · rename_i h2
            split at hk
            · split at hk
              · rename_i hq hps
                obtain ⟨r, hr, hp⟩ := ih _ _ _ _ _ _ _ hk lv (.ref (8 + h.length) :: st) (h ++ [.inl (0, List.replicate n.toNatClampNeg 0)]) hl ⟨by show 8 + ha.1 = 8 + h.length; rw [hh.1], hs⟩ (am_push (D := .inl (0, List.replicate n.toNatClampNeg 0)) hh hps ⟨rfl, am_all.rep (R := am_i) (am_i.sg 0) _⟩)
                exact ⟨r, (if_neg h0).trans ((if_pos hN).trans ((if_pos h1).trans ((if_pos h2).trans hr))), hp⟩
              · cases hk
            · split at hk
              · rename_i hq hps
                obtain ⟨r, hr, hp⟩ := ih _ _ _ _ _ _ _ hk lv (.ref (8 + h.length) :: st) (h ++ [.inl (1, List.replicate n.toNatClampNeg 0)]) hl ⟨by show 8 + ha.1 = 8 + h.length; rw [hh.1], hs⟩ (am_push (D := .inl (1, List.replicate n.toNatClampNeg 0)) hh hps ⟨rfl, am_all.rep (R := am_i) (am_i.sg 0) _⟩)
                exact ⟨r, (if_neg h0).trans ((if_pos hN).trans ((if_pos h1).trans ((if_pos h2).trans hr))), hp⟩
              · cases hk
            · split at hk
              · rename_i hq hps
                obtain ⟨r, hr, hp⟩ := ih _ _ _ _ _ _ _ hk lv (.ref (8 + h.length) :: st) (h ++ [.inl (2, List.replicate n.toNatClampNeg 0)]) hl ⟨by show 8 + ha.1 = 8 + h.length; rw [hh.1], hs⟩ (am_push (D := .inl (2, List.replicate n.toNatClampNeg 0)) hh hps ⟨rfl, am_all.rep (R := am_i) (am_i.sg 0) _⟩)
                exact ⟨r, (if_neg h0).trans ((if_pos hN).trans ((if_pos h1).trans ((if_pos h2).trans hr))), hp⟩
              · cases hk
            · split at hk
              · rename_i hq hps
                obtain ⟨r, hr, hp⟩ := ih _ _ _ _ _ _ _ hk lv (.ref (8 + h.length) :: st) (h ++ [.inr (.inl (3, List.replicate n.toNatClampNeg 0))]) hl ⟨by show 8 + ha.1 = 8 + h.length; rw [hh.1], hs⟩ (am_push (D := .inr (.inl (3, List.replicate n.toNatClampNeg 0))) hh hps ⟨rfl, am_all.rep (R := am_l) (am_l.sg 0) _⟩)
                exact ⟨r, (if_neg h0).trans ((if_pos hN).trans ((if_pos h1).trans ((if_pos h2).trans hr))), hp⟩
              · cases hk
            · cases hk
          · cases hk
        · cases hk
      · cases hk
    · cases hk
  · cases hk
theorem at_anew (ih : am_S Pr ka kc) {mm : pm_M} {t : Nat} (hk : aq_anew ka mm t pc lva sta ha c sl = some R) (hl : am_all am_q lva lv) (hs : am_all am_v sta st) (hh : am_h ha h) : ∃ r, pm_anew kc mm t pc lv st h c sl = some r ∧ Pr R r := by
  unfold aq_anew at hk
  split at hk
  · obtain ⟨n, st, rfl, hn, hs⟩ := av_i hs
    split at hk
    · rename_i na hna
      obtain ⟨h0, rfl⟩ := am_ix_ok hna hn
      split at hk
      · rename_i hN
        split at hk
        · rename_i h1
          split at hk
          · rename_i h2
            split at hk
            · rename_i hq hps
              obtain ⟨r, hr, hp⟩ := ih _ _ _ _ _ _ _ hk lv (.ref (8 + h.length) :: st) (h ++ [.inr (.inr (.inl (t, List.replicate n.toNatClampNeg none)))]) hl ⟨by show 8 + ha.1 = 8 + h.length; rw [hh.1], hs⟩ (am_push (D := .inr (.inr (.inl (t, List.replicate n.toNatClampNeg none)))) hh hps ⟨rfl, rfl⟩)
              exact ⟨r, (if_neg h0).trans ((if_pos hN).trans ((if_pos h1).trans ((if_pos h2).trans hr))), hp⟩
            · cases hk
          · cases hk
        · cases hk
      · cases hk
    · cases hk
  · cases hk
theorem am_cpy_ok {α β : Type} {Rl : α → β → Prop} {fa ga : List α} {f g : List β} (hf : am_all Rl fa f) (hg : am_all Rl ga g) (sp dp n : Nat) : am_all Rl (pm_cpy fa ga sp dp n) (pm_cpy f g sp dp n) := (hg.take dp).app (((hf.drop sp).take n).app (hg.drop (dp + n)))
theorem at_copy (ih : am_S Pr ka kc)  (hk : aq_copy ka pc lva sta ha c sl = some R) (hl : am_all am_q lva lv) (hs : am_all am_v sta st) (hh : am_h ha h) : ∃ r, pm_copy kc pc lv st h c sl = some r ∧ Pr R r := by
  unfold aq_copy at hk
  split at hk
  · rename_i na da a sa b
    obtain ⟨n, st, rfl, hn, hs⟩ := av_i hs
    obtain ⟨dp, st, rfl, hdp, hs⟩ := av_i hs
    obtain ⟨st, rfl, -, hs⟩ := av_r hs
    obtain ⟨sp, st, rfl, hsp, hs⟩ := av_i hs
    obtain ⟨st, rfl, -, hs⟩ := av_r hs
    obtain rfl := av_n hs
    split at hk
    · rename_i n1 d1 s1 e1 e2 e3
      obtain ⟨n0, rfl⟩ := am_ix_ok e1 hn
      obtain ⟨d0, rfl⟩ := am_ix_ok e2 hdp
      obtain ⟨s0, rfl⟩ := am_ix_ok e3 hsp
      split at hk
      · rename_i t g u f hca hcb
        obtain ⟨D, hD, hc⟩ := am_cell_ok hh hca
        obtain ⟨gm, rfl, hgm⟩ := ac_i hc
        obtain ⟨E, hE, hce⟩ := am_cell_ok hh hcb
        obtain ⟨fm, rfl, hfm⟩ := ac_i hce
        split at hk
        · rename_i htu
          split at hk
          · rename_i h4
            split at hk
            · rename_i h5
              obtain ⟨r, hr, hp⟩ := ih _ _ _ _ _ _ _ hk lv [] (h.set (a - 8) (.inl (0, pm_cpy fm gm sp.toNatClampNeg dp.toNatClampNeg n.toNatClampNeg))) hl trivial (am_hset hh hca ⟨rfl, am_cpy_ok hfm hgm _ _ _⟩)
              refine ⟨r, ?_, hp⟩
              unfold pm_copy
              dsimp only
              rw [if_neg s0, if_neg d0, if_neg n0, hD, hE]
              dsimp only
              rw [if_pos htu, if_pos (by rw [← hfm.len]; exact h4), if_pos (by rw [← hgm.len]; exact h5)]
              exact hr
            · cases hk
          · cases hk
        · cases hk
      · cases hk
    · cases hk
  · cases hk
theorem at_call (ih : am_S Pr ka kc) {ba : am_B} {bc : Nat → List Value → pm_H → pm_R} (hbig : ∀ M2 as h Rs, ba M2 as h = some Rs → ∀ cs hc, am_all am_v as cs → am_h h hc → ∃ r, bc M2 cs hc = some r ∧ ∃ Ra ∈ Rs, am_r Ra r) {mm : pm_M} {M2 : Nat} {m2 : pm_M} {as rest : List am_V} {cs crest : List Value} (hk : aq_call ka ba mm m2 M2 pc lva as rest ha c sl = some R) (hl : am_all am_q lva lv) (ha1 : am_all am_v as cs) (hs : am_all am_v rest crest) (hh : am_h ha h) : ∃ r, pm_call kc bc mm m2 M2 pc lv cs crest h c sl = some r ∧ Pr R r := by
  unfold aq_call at hk
  split at hk
  · rename_i h1
    split at hk
    · rename_i h2
      split at hk
      · rename_i h3
        split at hk
        · rename_i Rs hb
          obtain ⟨⟨v, hv⟩, hr0, ⟨ra, hra⟩, hRs, hro, hrh⟩ := hbig _ _ _ _ hb _ _ ha1 hh
          have hk1 := am_each_ok hk (ra, hra) hRs
          have hro : am_o ra v := hro
          obtain ⟨r, hr, hp⟩ := ih _ _ _ _ _ _ _ hk1 lv (v.toList ++ crest) hv hl (am_all.app (by
            match ra, v, hro with
            | none, none, _ => exact trivial
            | some a, some v, hro => exact ⟨hro, trivial⟩) hs) hrh
          refine ⟨r, ?_, hp⟩
          unfold pm_call
          rw [if_pos (by rw [← am_all.sum (fun a b h => am_v.cat h) hs]; exact h1), if_pos h2, if_pos h3, hr0]
          exact hr
        · cases hk
      · cases hk
    · cases hk
  · cases hk
theorem at_inv (ih : am_S Pr ka kc) {tab : Nat → Option pm_M} {ba : am_B} {bc : Nat → List Value → pm_H → pm_R} (hbig : ∀ M2 as h Rs, ba M2 as h = some Rs → ∀ cs hc, am_all am_v as cs → am_h h hc → ∃ r, bc M2 cs hc = some r ∧ ∃ Ra ∈ Rs, am_r Ra r) {mm : pm_M} {M2 : Nat} (hk : aq_inv ka tab ba mm M2 pc lva sta ha c sl = some R) (hl : am_all am_q lva lv) (hs : am_all am_v sta st) (hh : am_h ha h) : ∃ r, pm_inv kc tab bc mm M2 pc lv st h c sl = some r ∧ Pr R r := by
  unfold aq_inv at hk
  unfold pm_inv
  split at hk
  · cases hk
  · rename_i m2 hm2
    split at hk
    · rename_i hn
      split at hk
      · rename_i a as hrev
        have hrv : am_all am_v (.inr (.inr (some a)) :: as) ((st.take (pm_n m2)).reverse) := by rw [← hrev]; exact (hs.take _).rev
        obtain ⟨cs, hcs, -, hcr⟩ := av_r hrv
        split at hk
        · rename_i cj fs hcell
          obtain ⟨D, hD, hc⟩ := am_cell_ok hh hcell
          obtain ⟨m, rfl, hm⟩ := ac_o hc
          split at hk
          · rename_i hcj
            obtain ⟨r, hr, hp⟩ := at_call ih hbig hk (cs := .ref a :: cs) hl ⟨rfl, hcr⟩ (hs.drop _) hh
            refine ⟨r, ?_, hp⟩
            rw [hm2]
            dsimp only
            rw [if_pos (by rw [← hs.len]; exact hn), hcs]
            dsimp only
            rw [hD]
            dsimp only
            rw [if_pos hcj]
            exact hr
          · cases hk
        · cases hk
      · cases hk
    · cases hk
theorem at_ins (ih : am_S Pr ka kc) {tab : Nat → Option pm_M} {ba : am_B} {bc : Nat → List Value → pm_H → pm_R} (hbig : ∀ M2 as h Rs, ba M2 as h = some Rs → ∀ cs hc, am_all am_v as cs → am_h h hc → ∃ r, bc M2 cs hc = some r ∧ ∃ Ra ∈ Rs, am_r Ra r) {mm : pm_M} {M2 : Nat} (hk : aq_ins ka tab ba mm M2 pc lva sta ha c sl = some R) (hl : am_all am_q lva lv) (hs : am_all am_v sta st) (hh : am_h ha h) : ∃ r, pm_ins kc tab bc mm M2 pc lv st h c sl = some r ∧ Pr R r := by
  unfold aq_ins at hk
  unfold pm_ins
  split at hk
  · cases hk
  · rename_i m2 hm2
    split at hk
    · rename_i hn
      obtain ⟨r, hr, hp⟩ := at_call ih hbig hk hl (hs.take _).rev (hs.drop _) hh
      refine ⟨r, ?_, hp⟩
      rw [hm2]
      dsimp only
      rw [if_pos (by rw [← hs.len]; exact hn)]
      exact hr
    · cases hk
theorem at_obj (ih : am_S Pr ka kc)  (hk : aq_obj ka pc lva sta ha c sl = some R) (hl : am_all am_q lva lv) (hs : am_all am_v sta st) (hh : am_h ha h) : ∃ r, pm_obj kc pc lv st h c sl = some r ∧ Pr R r := by
  unfold aq_obj at hk
  split at hk
  · obtain ⟨st, rfl, -, hs⟩ := av_r hs
    obtain rfl := av_n hs
    exact ih _ _ _ _ _ _ _ hk lv [] h hl trivial hh
  · cases hk
theorem at_ret {mm : pm_M} (hPr : ∀ R r, am_r R r → Pr R r) (hk : aq_ret mm sta ha = some R) (hs : am_all am_v sta st) (hh : am_h ha h) : ∃ r, pm_ret mm st h = some r ∧ Pr R r := by
  unfold aq_ret at hk
  split at hk
  · rename_i v ty hty
    obtain ⟨x, st, rfl, hx, hs⟩ := av_i hs
    obtain rfl := av_n hs
    split at hk
    · rename_i hfit
      cases hk
      refine ⟨(some (.int x), h), ?_, hPr _ _ ⟨hx, hh⟩⟩
      unfold pm_ret
      rw [hty]
      dsimp only
      rw [am_fit_ok (v := .int x) hfit hx]
    · cases hk
  · cases hk
theorem at_retl {mm : pm_M} (hPr : ∀ R r, am_r R r → Pr R r) (hk : aq_retl mm sta ha = some R) (hs : am_all am_v sta st) (hh : am_h ha h) : ∃ r, pm_retl mm st h = some r ∧ Pr R r := by
  unfold aq_retl at hk
  split at hk
  · rename_i v hty
    obtain ⟨x, st, rfl, hx, hs⟩ := av_l hs
    obtain rfl := av_n hs
    cases hk
    refine ⟨(some (.long x), h), ?_, hPr _ _ ⟨hx, hh⟩⟩
    unfold pm_retl
    rw [hty]
  · cases hk
theorem at_reta {mm : pm_M} (hPr : ∀ R r, am_r R r → Pr R r) (hk : aq_reta mm sta ha = some R) (hs : am_all am_v sta st) (hh : am_h ha h) : ∃ r, pm_reta mm st h = some r ∧ Pr R r := by
  unfold aq_reta at hk
  split at hk
  · rename_i v nm hty
    obtain ⟨st, rfl, -, hs⟩ := av_r hs
    obtain rfl := av_n hs
    cases hk
    refine ⟨(some (.ref v), h), ?_, hPr _ _ ⟨rfl, hh⟩⟩
    unfold pm_reta
    rw [hty]
  · cases hk
theorem at_retv {mm : pm_M} (hPr : ∀ R r, am_r R r → Pr R r) (hk : aq_retv mm sta ha = some R) (hs : am_all am_v sta st) (hh : am_h ha h) : ∃ r, pm_retv mm st h = some r ∧ Pr R r := by
  unfold aq_retv at hk
  split at hk
  · rename_i hty
    obtain rfl := av_n hs
    cases hk
    refine ⟨(none, h), ?_, hPr _ _ ⟨trivial, hh⟩⟩
    unfold pm_retv
    rw [hty]
  · cases hk
end Sim
