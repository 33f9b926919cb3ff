/-! STALE LOCALS don't matter: what a run does with some locals it does with more of them. -/
def q_sub (l l' : pm_L) : Prop := ∀ q ∈ l, l'.lookup q.1 = some q.2
theorem q_sub.nil {l' : pm_L} : q_sub [] l' := fun _ h => by cases h
theorem q_sub.cons {i : Nat} {v : Value} {l l' : pm_L} (h : l'.lookup i = some v) (hl : q_sub l l') : q_sub ((i, v) :: l) l' := fun q hq => by
  rcases List.mem_cons.mp hq with e | e
  · rw [e]
    exact h
  · exact hl q e
theorem q_lk_mem {i : Nat} {v : Value} : ∀ {l : pm_L}, l.lookup i = some v → (i, v) ∈ l
  | [], h => by cases h
  | (j, w) :: l, h => by
    rw [List.lookup_cons] at h
    split at h
    · rename_i e
      have e1 : i = j := by simpa using e
      cases h
      rw [e1]
      exact List.mem_cons_self
    · exact List.mem_cons_of_mem _ (q_lk_mem h)
theorem q_sub.lk {l l' : pm_L} (h : q_sub l l') {i : Nat} {v : Value} (e : l.lookup i = some v) : l'.lookup i = some v := h (i, v) (q_lk_mem e)
theorem q_lk_filter {P : Nat × Value → Bool} {i : Nat} {v : Value} (hP : P (i, v) = true) : ∀ {l : pm_L}, l.lookup i = some v → (l.filter P).lookup i = some v
  | [], h => by cases h
  | (j, w) :: l, h => by
    rw [List.lookup_cons] at h
    split at h
    · rename_i e
      have e1 : i = j := by simpa using e
      cases h
      subst e1
      rw [List.filter_cons_of_pos hP, List.lookup_cons]
      simp
    · rename_i e
      by_cases hp : P (j, w) = true
      · rw [List.filter_cons_of_pos hp, List.lookup_cons]
        split
        · rename_i e2
          rw [e2] at e
          cases e
        · exact q_lk_filter hP h
      · rw [List.filter_cons_of_neg hp]
        exact q_lk_filter hP h
theorem q_lk_plc {i : Nat} {v : Value} : ∀ {l : pm_L}, (pm_plc i v l).lookup i = some v
  | [] => by
    show List.lookup i [(i, v)] = some v
    simp
  | (j, w) :: l => by
    show List.lookup i (if j < i then (j, w) :: pm_plc i v l else (i, v) :: (j, w) :: l) = some v
    split
    · rename_i h
      rw [List.lookup_cons]
      split
      · rename_i e
        have e1 : i = j := by simpa using e
        omega
      · exact q_lk_plc
    · simp
theorem q_lk_plc_ne {i j : Nat} {v w : Value} (hij : j ≠ i) : ∀ {l : pm_L}, l.lookup j = some w → (pm_plc i v l).lookup j = some w
  | [], h => by cases h
  | (a, b) :: l, h => by
    show List.lookup j (if a < i then (a, b) :: pm_plc i v l else (i, v) :: (a, b) :: l) = some w
    split
    · rw [List.lookup_cons] at h ⊢
      split
      · rename_i e
        rw [e] at h
        exact h
      · rename_i e
        rw [e] at h
        exact q_lk_plc_ne hij h
    · rw [List.lookup_cons]
      split
      · rename_i e
        have e1 : j = i := by simpa using e
        exact absurd e1 hij
      · exact h
theorem q_plc_mem {i : Nat} {v : Value} {q : Nat × Value} : ∀ {l : pm_L}, q ∈ pm_plc i v l → q = (i, v) ∨ q ∈ l
  | [], h => Or.inl (List.mem_singleton.mp h)
  | (a, b) :: l, h => by
    have h1 : q ∈ (if a < i then (a, b) :: pm_plc i v l else (i, v) :: (a, b) :: l) := h
    split at h1
    · rcases List.mem_cons.mp h1 with e | e
      · exact Or.inr (by rw [e]; exact List.mem_cons_self)
      · rcases q_plc_mem e with e | e
        · exact Or.inl e
        · exact Or.inr (List.mem_cons_of_mem _ e)
    · rcases List.mem_cons.mp h1 with e | e
      · exact Or.inl e
      · exact Or.inr e
theorem q_sub.plc {l l' : pm_L} (h : q_sub l l') (i : Nat) (v : Value) (P : Nat × Value → Bool) (hP : ∀ w, P (i, w) = false) : q_sub (pm_plc i v (l.filter P)) (pm_plc i v (l'.filter P)) := fun q hq => by
  rcases q_plc_mem hq with e | e
  · rw [e]
    exact q_lk_plc
  · obtain ⟨h1, h2⟩ := List.mem_filter.mp e
    obtain ⟨a, b⟩ := q
    have hne : a ≠ i := fun z => by
      rw [z, hP] at h2
      cases h2
    exact q_lk_plc_ne hne (q_lk_filter h2 (h _ h1))
theorem q_sub.s1 {l l' : pm_L} (h : q_sub l l') (i : Nat) (v : Value) : q_sub (pm_s1 l i v) (pm_s1 l' i v) := h.plc i v _ (fun w => by simp)
theorem q_sub.s2 {l l' : pm_L} (h : q_sub l l') (i : Nat) (v : Value) : q_sub (pm_s2 l i v) (pm_s2 l' i v) := h.plc i v _ (fun w => by simp)
def q_T (k : qK) : Prop := ∀ pc lv lv' st g u R, q_sub lv lv' → k pc lv st g u = some R → k pc lv' st g u = some R
theorem qw_bi {k : qK} (hT : q_T k) {lv lv' : pm_L} {st : List Value} {g : qM} {u : qW} {R : Option Value × qM × qW} (hl : q_sub lv lv') (f : Int32 → Int32 → Int32) (pc : Nat) (hk : qm_bi k f pc lv st g u = some R) : qm_bi k f pc lv' st g u = some R := by
  unfold qm_bi at hk ⊢
  (repeat' split at hk) <;> first
    | exact hT _ _ _ _ _ _ _ hl hk
    | (cases hk; done)
    | (simp only [*]; exact hT _ _ _ _ _ _ _ hl hk)
    | (simp [*]; exact hT _ _ _ _ _ _ _ hl hk)
theorem qw_bz {k : qK} (hT : q_T k) {lv lv' : pm_L} {st : List Value} {g : qM} {u : qW} {R : Option Value × qM × qW} (hl : q_sub lv lv') (f : Int32 → Int32 → Int32) (pc : Nat) (hk : qm_bz k f pc lv st g u = some R) : qm_bz k f pc lv' st g u = some R := by
  unfold qm_bz at hk ⊢
  (repeat' split at hk) <;> first
    | exact hT _ _ _ _ _ _ _ hl hk
    | (cases hk; done)
    | (simp only [*]; exact hT _ _ _ _ _ _ _ hl hk)
    | (simp [*]; exact hT _ _ _ _ _ _ _ hl hk)
theorem qw_bl {k : qK} (hT : q_T k) {lv lv' : pm_L} {st : List Value} {g : qM} {u : qW} {R : Option Value × qM × qW} (hl : q_sub lv lv') (f : Int64 → Int64 → Int64) (pc : Nat) (hk : qm_bl k f pc lv st g u = some R) : qm_bl k f pc lv' st g u = some R := by
  unfold qm_bl at hk ⊢
  (repeat' split at hk) <;> first
    | exact hT _ _ _ _ _ _ _ hl hk
    | (cases hk; done)
    | (simp only [*]; exact hT _ _ _ _ _ _ _ hl hk)
    | (simp [*]; exact hT _ _ _ _ _ _ _ hl hk)
theorem qw_blz {k : qK} (hT : q_T k) {lv lv' : pm_L} {st : List Value} {g : qM} {u : qW} {R : Option Value × qM × qW} (hl : q_sub lv lv') (f : Int64 → Int64 → Int64) (pc : Nat) (hk : qm_blz k f pc lv st g u = some R) : qm_blz k f pc lv' st g u = some R := by
  unfold qm_blz at hk ⊢
  (repeat' split at hk) <;> first
    | exact hT _ _ _ _ _ _ _ hl hk
    | (cases hk; done)
    | (simp only [*]; exact hT _ _ _ _ _ _ _ hl hk)
    | (simp [*]; exact hT _ _ _ _ _ _ _ hl hk)
theorem qw_u {k : qK} (hT : q_T k) {lv lv' : pm_L} {st : List Value} {g : qM} {u : qW} {R : Option Value × qM × qW} (hl : q_sub lv lv') (f : Int32 → Int32) (pc : Nat) (hk : qm_u k f pc lv st g u = some R) : qm_u k f pc lv' st g u = some R := by
  unfold qm_u at hk ⊢
  (repeat' split at hk) <;> first
    | exact hT _ _ _ _ _ _ _ hl hk
    | (cases hk; done)
    | (simp only [*]; exact hT _ _ _ _ _ _ _ hl hk)
    | (simp [*]; exact hT _ _ _ _ _ _ _ hl hk)
theorem qw_if {k : qK} (hT : q_T k) {lv lv' : pm_L} {st : List Value} {g : qM} {u : qW} {R : Option Value × qM × qW} (hl : q_sub lv lv') (cd : ClassFile.Cond) (tgt pc : Nat) (hk : qm_if k cd tgt pc lv st g u = some R) : qm_if k cd tgt pc lv' st g u = some R := by
  unfold qm_if at hk ⊢
  (repeat' split at hk) <;> first
    | exact hT _ _ _ _ _ _ _ hl hk
    | (cases hk; done)
    | (simp only [*]; exact hT _ _ _ _ _ _ _ hl hk)
    | (simp [*]; exact hT _ _ _ _ _ _ _ hl hk)
theorem qw_ic {k : qK} (hT : q_T k) {lv lv' : pm_L} {st : List Value} {g : qM} {u : qW} {R : Option Value × qM × qW} (hl : q_sub lv lv') (cd : ClassFile.Cond) (tgt pc : Nat) (hk : qm_ic k cd tgt pc lv st g u = some R) : qm_ic k cd tgt pc lv' st g u = some R := by
  unfold qm_ic at hk ⊢
  (repeat' split at hk) <;> first
    | exact hT _ _ _ _ _ _ _ hl hk
    | (cases hk; done)
    | (simp only [*]; exact hT _ _ _ _ _ _ _ hl hk)
    | (simp [*]; exact hT _ _ _ _ _ _ _ hl hk)
theorem qw_jump {k : qK} (hT : q_T k) {lv lv' : pm_L} {st : List Value} {g : qM} {u : qW} {R : Option Value × qM × qW} (hl : q_sub lv lv') (t : Int) (hk : qm_jump k t lv st g u = some R) : qm_jump k t lv' st g u = some R := by
  unfold qm_jump at hk ⊢
  (repeat' split at hk) <;> first
    | exact hT _ _ _ _ _ _ _ hl hk
    | (cases hk; done)
    | (simp only [*]; exact hT _ _ _ _ _ _ _ hl hk)
    | (simp [*]; exact hT _ _ _ _ _ _ _ hl hk)
theorem qw_dup {k : qK} (hT : q_T k) {lv lv' : pm_L} {st : List Value} {g : qM} {u : qW} {R : Option Value × qM × qW} (hl : q_sub lv lv') (pc : Nat) (hk : qm_dup k pc lv st g u = some R) : qm_dup k pc lv' st g u = some R := by
  unfold qm_dup at hk ⊢
  (repeat' split at hk) <;> first
    | exact hT _ _ _ _ _ _ _ hl hk
    | (cases hk; done)
    | (simp only [*]; exact hT _ _ _ _ _ _ _ hl hk)
    | (simp [*]; exact hT _ _ _ _ _ _ _ hl hk)
theorem qw_dup2 {k : qK} (hT : q_T k) {lv lv' : pm_L} {st : List Value} {g : qM} {u : qW} {R : Option Value × qM × qW} (hl : q_sub lv lv') (pc : Nat) (hk : qm_dup2 k pc lv st g u = some R) : qm_dup2 k pc lv' st g u = some R := by
  unfold qm_dup2 at hk ⊢
  (repeat' split at hk) <;> first
    | exact hT _ _ _ _ _ _ _ hl hk
    | (cases hk; done)
    | (simp only [*]; exact hT _ _ _ _ _ _ _ hl hk)
    | (simp [*]; exact hT _ _ _ _ _ _ _ hl hk)
theorem qw_pop {k : qK} (hT : q_T k) {lv lv' : pm_L} {st : List Value} {g : qM} {u : qW} {R : Option Value × qM × qW} (hl : q_sub lv lv') (pc : Nat) (hk : qm_pop k pc lv st g u = some R) : qm_pop k pc lv' st g u = some R := by
  unfold qm_pop at hk ⊢
  (repeat' split at hk) <;> first
    | exact hT _ _ _ _ _ _ _ hl hk
    | (cases hk; done)
    | (simp only [*]; exact hT _ _ _ _ _ _ _ hl hk)
    | (simp [*]; exact hT _ _ _ _ _ _ _ hl hk)
theorem qw_pop2 {k : qK} (hT : q_T k) {lv lv' : pm_L} {st : List Value} {g : qM} {u : qW} {R : Option Value × qM × qW} (hl : q_sub lv lv') (pc : Nat) (hk : qm_pop2 k pc lv st g u = some R) : qm_pop2 k pc lv' st g u = some R := by
  unfold qm_pop2 at hk ⊢
  (repeat' split at hk) <;> first
    | exact hT _ _ _ _ _ _ _ hl hk
    | (cases hk; done)
    | (simp only [*]; exact hT _ _ _ _ _ _ _ hl hk)
    | (simp [*]; exact hT _ _ _ _ _ _ _ hl hk)
theorem qw_lcmp {k : qK} (hT : q_T k) {lv lv' : pm_L} {st : List Value} {g : qM} {u : qW} {R : Option Value × qM × qW} (hl : q_sub lv lv') (pc : Nat) (hk : qm_lcmp k pc lv st g u = some R) : qm_lcmp k pc lv' st g u = some R := by
  unfold qm_lcmp at hk ⊢
  (repeat' split at hk) <;> first
    | exact hT _ _ _ _ _ _ _ hl hk
    | (cases hk; done)
    | (simp only [*]; exact hT _ _ _ _ _ _ _ hl hk)
    | (simp [*]; exact hT _ _ _ _ _ _ _ hl hk)
theorem qw_ldcs {k : qK} (hT : q_T k) {lv lv' : pm_L} {st : List Value} {g : qM} {u : qW} {R : Option Value × qM × qW} (hl : q_sub lv lv') (b pc : Nat) (hk : qm_ldcs k b pc lv st g u = some R) : qm_ldcs k b pc lv' st g u = some R := by
  unfold qm_ldcs at hk ⊢
  (repeat' split at hk) <;> first
    | exact hT _ _ _ _ _ _ _ hl hk
    | (cases hk; done)
    | (simp only [*]; exact hT _ _ _ _ _ _ _ hl hk)
    | (simp [*]; exact hT _ _ _ _ _ _ _ hl hk)
theorem qw_slen {k : qK} (hT : q_T k) {lv lv' : pm_L} {st : List Value} {g : qM} {u : qW} {R : Option Value × qM × qW} (hl : q_sub lv lv') (pc : Nat) (hk : qm_slen k pc lv st g u = some R) : qm_slen k pc lv' st g u = some R := by
  unfold qm_slen at hk ⊢
  (repeat' split at hk) <;> first
    | exact hT _ _ _ _ _ _ _ hl hk
    | (cases hk; done)
    | (simp only [*]; exact hT _ _ _ _ _ _ _ hl hk)
    | (simp [*]; exact hT _ _ _ _ _ _ _ hl hk)
theorem qw_sch {k : qK} (hT : q_T k) {lv lv' : pm_L} {st : List Value} {g : qM} {u : qW} {R : Option Value × qM × qW} (hl : q_sub lv lv') (pc : Nat) (hk : qm_sch k pc lv st g u = some R) : qm_sch k pc lv' st g u = some R := by
  unfold qm_sch at hk ⊢
  (repeat' split at hk) <;> first
    | exact hT _ _ _ _ _ _ _ hl hk
    | (cases hk; done)
    | (simp only [*]; exact hT _ _ _ _ _ _ _ hl hk)
    | (simp [*]; exact hT _ _ _ _ _ _ _ hl hk)
theorem qw_i2l {k : qK} (hT : q_T k) {lv lv' : pm_L} {st : List Value} {g : qM} {u : qW} {R : Option Value × qM × qW} (hl : q_sub lv lv') (pc : Nat) (hk : qm_i2l k pc lv st g u = some R) : qm_i2l k pc lv' st g u = some R := by
  unfold qm_i2l at hk ⊢
  (repeat' split at hk) <;> first
    | exact hT _ _ _ _ _ _ _ hl hk
    | (cases hk; done)
    | (simp only [*]; exact hT _ _ _ _ _ _ _ hl hk)
    | (simp [*]; exact hT _ _ _ _ _ _ _ hl hk)
theorem qw_getf {k : qK} (hT : q_T k) {lv lv' : pm_L} {st : List Value} {g : qM} {u : qW} {R : Option Value × qM × qW} (hl : q_sub lv lv') (ci f pc : Nat) (hk : qm_getf k ci f pc lv st g u = some R) : qm_getf k ci f pc lv' st g u = some R := by
  unfold qm_getf at hk ⊢
  (repeat' split at hk) <;> first
    | exact hT _ _ _ _ _ _ _ hl hk
    | (cases hk; done)
    | (simp only [*]; exact hT _ _ _ _ _ _ _ hl hk)
    | (simp [*]; exact hT _ _ _ _ _ _ _ hl hk)
theorem qw_putf {k : qK} (hT : q_T k) {lv lv' : pm_L} {st : List Value} {g : qM} {u : qW} {R : Option Value × qM × qW} (hl : q_sub lv lv') (ci f pc : Nat) (hk : qm_putf k ci f pc lv st g u = some R) : qm_putf k ci f pc lv' st g u = some R := by
  unfold qm_putf at hk ⊢
  (repeat' split at hk) <;> first
    | exact hT _ _ _ _ _ _ _ hl hk
    | (cases hk; done)
    | (simp only [*]; exact hT _ _ _ _ _ _ _ hl hk)
    | (simp [*]; exact hT _ _ _ _ _ _ _ hl hk)
theorem qw_iald {k : qK} (hT : q_T k) {lv lv' : pm_L} {st : List Value} {g : qM} {u : qW} {R : Option Value × qM × qW} (hl : q_sub lv lv') (pc : Nat) (hk : qm_iald k pc lv st g u = some R) : qm_iald k pc lv' st g u = some R := by
  unfold qm_iald at hk ⊢
  (repeat' split at hk) <;> first
    | exact hT _ _ _ _ _ _ _ hl hk
    | (cases hk; done)
    | (simp only [*]; exact hT _ _ _ _ _ _ _ hl hk)
    | (simp [*]; exact hT _ _ _ _ _ _ _ hl hk)
theorem qw_bald {k : qK} (hT : q_T k) {lv lv' : pm_L} {st : List Value} {g : qM} {u : qW} {R : Option Value × qM × qW} (hl : q_sub lv lv') (pc : Nat) (hk : qm_bald k pc lv st g u = some R) : qm_bald k pc lv' st g u = some R := by
  unfold qm_bald at hk ⊢
  (repeat' split at hk) <;> first
    | exact hT _ _ _ _ _ _ _ hl hk
    | (cases hk; done)
    | (simp only [*]; exact hT _ _ _ _ _ _ _ hl hk)
    | (simp [*]; exact hT _ _ _ _ _ _ _ hl hk)
theorem qw_lald {k : qK} (hT : q_T k) {lv lv' : pm_L} {st : List Value} {g : qM} {u : qW} {R : Option Value × qM × qW} (hl : q_sub lv lv') (pc : Nat) (hk : qm_lald k pc lv st g u = some R) : qm_lald k pc lv' st g u = some R := by
  unfold qm_lald at hk ⊢
  (repeat' split at hk) <;> first
    | exact hT _ _ _ _ _ _ _ hl hk
    | (cases hk; done)
    | (simp only [*]; exact hT _ _ _ _ _ _ _ hl hk)
    | (simp [*]; exact hT _ _ _ _ _ _ _ hl hk)
theorem qw_aald {k : qK} (hT : q_T k) {lv lv' : pm_L} {st : List Value} {g : qM} {u : qW} {R : Option Value × qM × qW} (hl : q_sub lv lv') (pc : Nat) (hk : qm_aald k pc lv st g u = some R) : qm_aald k pc lv' st g u = some R := by
  unfold qm_aald at hk ⊢
  (repeat' split at hk) <;> first
    | exact hT _ _ _ _ _ _ _ hl hk
    | (cases hk; done)
    | (simp only [*]; exact hT _ _ _ _ _ _ _ hl hk)
    | (simp [*]; exact hT _ _ _ _ _ _ _ hl hk)
theorem qw_iast {k : qK} (hT : q_T k) {lv lv' : pm_L} {st : List Value} {g : qM} {u : qW} {R : Option Value × qM × qW} (hl : q_sub lv lv') (pc : Nat) (hk : qm_iast k pc lv st g u = some R) : qm_iast k pc lv' st g u = some R := by
  unfold qm_iast at hk ⊢
  (repeat' split at hk) <;> first
    | exact hT _ _ _ _ _ _ _ hl hk
    | (cases hk; done)
    | (simp only [*]; exact hT _ _ _ _ _ _ _ hl hk)
    | (simp [*]; exact hT _ _ _ _ _ _ _ hl hk)
theorem qw_bast {k : qK} (hT : q_T k) {lv lv' : pm_L} {st : List Value} {g : qM} {u : qW} {R : Option Value × qM × qW} (hl : q_sub lv lv') (pc : Nat) (hk : qm_bast k pc lv st g u = some R) : qm_bast k pc lv' st g u = some R := by
  unfold qm_bast at hk ⊢
  (repeat' split at hk) <;> first
    | exact hT _ _ _ _ _ _ _ hl hk
    | (cases hk; done)
    | (simp only [*]; exact hT _ _ _ _ _ _ _ hl hk)
    | (simp [*]; exact hT _ _ _ _ _ _ _ hl hk)
theorem qw_last {k : qK} (hT : q_T k) {lv lv' : pm_L} {st : List Value} {g : qM} {u : qW} {R : Option Value × qM × qW} (hl : q_sub lv lv') (pc : Nat) (hk : qm_last k pc lv st g u = some R) : qm_last k pc lv' st g u = some R := by
  unfold qm_last at hk ⊢
  (repeat' split at hk) <;> first
    | exact hT _ _ _ _ _ _ _ hl hk
    | (cases hk; done)
    | (simp only [*]; exact hT _ _ _ _ _ _ _ hl hk)
    | (simp [*]; exact hT _ _ _ _ _ _ _ hl hk)
theorem qw_alen {k : qK} (hT : q_T k) {lv lv' : pm_L} {st : List Value} {g : qM} {u : qW} {R : Option Value × qM × qW} (hl : q_sub lv lv') (pc : Nat) (hk : qm_alen k pc lv st g u = some R) : qm_alen k pc lv' st g u = some R := by
  unfold qm_alen at hk ⊢
  (repeat' split at hk) <;> first
    | exact hT _ _ _ _ _ _ _ hl hk
    | (cases hk; done)
    | (simp only [*]; exact hT _ _ _ _ _ _ _ hl hk)
    | (simp [*]; exact hT _ _ _ _ _ _ _ hl hk)
theorem qw_copy {k : qK} (hT : q_T k) {lv lv' : pm_L} {st : List Value} {g : qM} {u : qW} {R : Option Value × qM × qW} (hl : q_sub lv lv') (pc : Nat) (hk : qm_copy k pc lv st g u = some R) : qm_copy k pc lv' st g u = some R := by
  unfold qm_copy at hk ⊢
  (repeat' split at hk) <;> first
    | exact hT _ _ _ _ _ _ _ hl hk
    | (cases hk; done)
    | (simp only [*]; exact hT _ _ _ _ _ _ _ hl hk)
    | (simp [*]; exact hT _ _ _ _ _ _ _ hl hk)
theorem qw_tsw {k : qK} (hT : q_T k) {lv lv' : pm_L} {st : List Value} {g : qM} {u : qW} {R : Option Value × qM × qW} (hl : q_sub lv lv') (d lo hi : Int) (offs : Array Int) (pc : Nat) (hk : qm_tsw k d lo hi offs pc lv st g u = some R) : qm_tsw k d lo hi offs pc lv' st g u = some R := by
  unfold qm_tsw at hk ⊢
  split at hk
  · (try dsimp only)
    split at hk
    · rename_i q
      rw [if_pos q]
      exact qw_jump hT hl _ hk
    · rename_i q
      rw [if_neg q]
      split at hk
      · rename_i q2
        rw [if_pos q2]
        exact qw_jump hT hl _ hk
      · rename_i q2
        rw [if_neg q2]
        split at hk
        · rename_i off e
          (try rw [e])
          exact qw_jump hT hl _ hk
        · cases hk
  · cases hk
theorem qw_ldi {k : qK} (hT : q_T k) {lv lv' : pm_L} {st : List Value} {g : qM} {u : qW} {R : Option Value × qM × qW} (hl : q_sub lv lv') (i npc : Nat) (hk : qm_ldi k i npc lv st g u = some R) : qm_ldi k i npc lv' st g u = some R := by
  unfold qm_ldi at hk ⊢
  split at hk
  · rename_i x e
    rw [hl.lk e]
    exact hT _ _ _ _ _ _ _ hl hk
  · cases hk
theorem qw_ldl {k : qK} (hT : q_T k) {lv lv' : pm_L} {st : List Value} {g : qM} {u : qW} {R : Option Value × qM × qW} (hl : q_sub lv lv') (i npc : Nat) (hk : qm_ldl k i npc lv st g u = some R) : qm_ldl k i npc lv' st g u = some R := by
  unfold qm_ldl at hk ⊢
  split at hk
  · rename_i x e
    rw [hl.lk e]
    exact hT _ _ _ _ _ _ _ hl hk
  · cases hk
theorem qw_lda {k : qK} (hT : q_T k) {lv lv' : pm_L} {st : List Value} {g : qM} {u : qW} {R : Option Value × qM × qW} (hl : q_sub lv lv') (i npc : Nat) (hk : qm_lda k i npc lv st g u = some R) : qm_lda k i npc lv' st g u = some R := by
  unfold qm_lda at hk ⊢
  split at hk
  · rename_i x e
    rw [hl.lk e]
    exact hT _ _ _ _ _ _ _ hl hk
  · cases hk
theorem qw_sti {k : qK} (hT : q_T k) {lv lv' : pm_L} {st : List Value} {g : qM} {u : qW} {R : Option Value × qM × qW} (hl : q_sub lv lv') (nL i npc : Nat) (hk : qm_sti k nL i npc lv st g u = some R) : qm_sti k nL i npc lv' st g u = some R := by
  unfold qm_sti at hk ⊢
  split at hk
  · split at hk
    · rename_i e
      (try dsimp only)
      rw [if_pos e]
      exact hT _ _ _ _ _ _ _ (hl.s1 _ _) hk
    · cases hk
  · cases hk
theorem qw_sta {k : qK} (hT : q_T k) {lv lv' : pm_L} {st : List Value} {g : qM} {u : qW} {R : Option Value × qM × qW} (hl : q_sub lv lv') (nL i npc : Nat) (hk : qm_sta k nL i npc lv st g u = some R) : qm_sta k nL i npc lv' st g u = some R := by
  unfold qm_sta at hk ⊢
  split at hk
  · split at hk
    · rename_i e
      (try dsimp only)
      rw [if_pos e]
      exact hT _ _ _ _ _ _ _ (hl.s1 _ _) hk
    · cases hk
  · cases hk
theorem qw_stl {k : qK} (hT : q_T k) {lv lv' : pm_L} {st : List Value} {g : qM} {u : qW} {R : Option Value × qM × qW} (hl : q_sub lv lv') (nL i npc : Nat) (hk : qm_stl k nL i npc lv st g u = some R) : qm_stl k nL i npc lv' st g u = some R := by
  unfold qm_stl at hk ⊢
  split at hk
  · split at hk
    · rename_i e
      (try dsimp only)
      rw [if_pos e]
      exact hT _ _ _ _ _ _ _ (hl.s2 _ _) hk
    · cases hk
  · cases hk
theorem qw_iinc {k : qK} (hT : q_T k) {lv lv' : pm_L} {st : List Value} {g : qM} {u : qW} {R : Option Value × qM × qW} (hl : q_sub lv lv') (nL i : Nat) (n : Int) (pc : Nat) (hk : qm_iinc k nL i n pc lv st g u = some R) : qm_iinc k nL i n pc lv' st g u = some R := by
  unfold qm_iinc at hk ⊢
  split at hk
  · rename_i x e
    rw [hl.lk e]
    dsimp only
    split at hk
    · rename_i e2
      rw [if_pos e2]
      exact hT _ _ _ _ _ _ _ (hl.s1 _ _) hk
    · cases hk
  · cases hk
theorem qw_call {k : qK} (hT : q_T k) {lv lv' : pm_L} {g : qM} {u : qW} {R : Option Value × qM × qW} (hl : q_sub lv lv') (big : Nat → List Value → qM → qW → qR) (m2 : pm_M) (M2 pc : Nat) (as rest : List Value) (hk : qm_call k big m2 M2 pc lv as rest g u = some R) : qm_call k big m2 M2 pc lv' as rest g u = some R := by
  unfold qm_call at hk ⊢
  (repeat' split at hk) <;> first
    | (cases hk; done)
    | (simp only [*, if_true]; exact hT _ _ _ _ _ _ _ hl hk)
    | (simp [*]; exact hT _ _ _ _ _ _ _ hl hk)
theorem qw_inv {k : qK} (hT : q_T k) {lv lv' : pm_L} {st : List Value} {g : qM} {u : qW} {R : Option Value × qM × qW} (hl : q_sub lv lv') (tab : Nat → Option pm_M) (big : Nat → List Value → qM → qW → qR) (M2 pc : Nat) (hk : qm_inv k tab big M2 pc lv st g u = some R) : qm_inv k tab big M2 pc lv' st g u = some R := by
  unfold qm_inv at hk ⊢
  split at hk
  · cases hk
  · rename_i m2 hm
    (try rw [hm])
    (try dsimp only)
    split at hk
    · rename_i h1
      rw [if_pos h1]
      split at hk
      · rename_i a as hst
        (try rw [hst])
        (try dsimp only)
        split at hk
        · rename_i cj fs hs
          (try rw [hs])
          (try dsimp only)
          split at hk
          · rename_i e
            rw [if_pos e]
            exact qw_call hT hl _ _ _ _ _ _ hk
          · cases hk
        · cases hk
      · cases hk
    · cases hk
theorem qw_ins {k : qK} (hT : q_T k) {lv lv' : pm_L} {st : List Value} {g : qM} {u : qW} {R : Option Value × qM × qW} (hl : q_sub lv lv') (tab : Nat → Option pm_M) (big : Nat → List Value → qM → qW → qR) (M2 pc : Nat) (hk : qm_ins k tab big M2 pc lv st g u = some R) : qm_ins k tab big M2 pc lv' st g u = some R := by
  unfold qm_ins at hk ⊢
  split at hk
  · cases hk
  · rename_i m2 hm
    (try rw [hm])
    (try dsimp only)
    split at hk
    · rename_i h1
      rw [if_pos h1]
      exact qw_call hT hl _ _ _ _ _ _ hk
    · cases hk
theorem qw_step {tab : Nat → Option pm_M} {big : Nat → List Value → qM → qW → qR} {mm : pm_M} {e : pm_E} {pc : Nat} {k : qK} (hT : q_T k) {lv lv' : pm_L} {st : List Value} {g : qM} {u : qW} {R : Option Value × qM × qW} (hl : q_sub lv lv') (hk : qm_step tab big mm k e pc lv st g u = some R) : qm_step tab big mm k e pc lv' st g u = some R := by
  obtain ⟨i, a, b, z⟩ := e
  cases i with
  | iconst n => exact hT _ _ _ _ _ _ _ hl hk
  | bipush n => exact hT _ _ _ _ _ _ _ hl hk
  | sipush n => exact hT _ _ _ _ _ _ _ hl hk
  | lconst n => exact hT _ _ _ _ _ _ _ hl hk
  | ldc2_w ix => exact hT _ _ _ _ _ _ _ hl hk
  | iload_n i => exact qw_ldi hT hl _ _ hk
  | iload i => exact qw_ldi hT hl _ _ hk
  | lload_n i => exact qw_ldl hT hl _ _ hk
  | lload i => exact qw_ldl hT hl _ _ hk
  | aload_n i => exact qw_lda hT hl _ _ hk
  | aload i => exact qw_lda hT hl _ _ hk
  | istore_n i => exact qw_sti hT hl _ _ _ hk
  | istore i => exact qw_sti hT hl _ _ _ hk
  | lstore_n i => exact qw_stl hT hl _ _ _ hk
  | lstore i => exact qw_stl hT hl _ _ _ hk
  | astore_n i => exact qw_sta hT hl _ _ _ hk
  | astore i => exact qw_sta hT hl _ _ _ hk
  | iinc i n => exact qw_iinc hT hl _ _ _ _ hk
  | iadd => exact qw_bi hT hl _ _ hk
  | isub => exact qw_bi hT hl _ _ hk
  | imul => exact qw_bi hT hl _ _ hk
  | iand => exact qw_bi hT hl _ _ hk
  | ior => exact qw_bi hT hl _ _ hk
  | ixor => exact qw_bi hT hl _ _ hk
  | ishl => exact qw_bi hT hl _ _ hk
  | ishr => exact qw_bi hT hl _ _ hk
  | iushr => exact qw_bi hT hl _ _ hk
  | idiv => exact qw_bz hT hl _ _ hk
  | irem => exact qw_bz hT hl _ _ hk
  | ladd => exact qw_bl hT hl _ _ hk
  | lmul => exact qw_bl hT hl _ _ hk
  | ldiv => exact qw_blz hT hl _ _ hk
  | lrem => exact qw_blz hT hl _ _ hk
  | ineg => exact qw_u hT hl _ _ hk
  | i2b => exact qw_u hT hl _ _ hk
  | i2s => exact qw_u hT hl _ _ hk
  | i2l => exact qw_i2l hT hl _ hk
  | lcmp => exact qw_lcmp hT hl _ hk
  | dup => exact qw_dup hT hl _ hk
  | dup2 => exact qw_dup2 hT hl _ hk
  | pop => exact qw_pop hT hl _ hk
  | pop2 => exact qw_pop2 hT hl _ hk
  | ifCond cd ix => exact qw_if hT hl _ _ _ hk
  | if_icmp cd ix => exact qw_ic hT hl _ _ _ hk
  | goto ix => exact hT _ _ _ _ _ _ _ hl hk
  | tableswitch d lo hi offs => exact qw_tsw hT hl _ _ _ _ _ hk
  | getfield ix => exact qw_getf hT hl _ _ _ hk
  | putfield ix => exact qw_putf hT hl _ _ _ hk
  | iaload => exact qw_iald hT hl _ hk
  | baload => exact qw_bald hT hl _ hk
  | laload => exact qw_lald hT hl _ hk
  | aaload => exact qw_aald hT hl _ hk
  | iastore => exact qw_iast hT hl _ hk
  | bastore => exact qw_bast hT hl _ hk
  | lastore => exact qw_last hT hl _ hk
  | arraylength => exact qw_alen hT hl _ hk
  | ireturn => exact hk
  | lreturn => exact hk
  | areturn => exact hk
  | return_ => exact hk
  | ldc ix =>
    have hk1 : (if a = 0 then k (pc + 2) lv (.int (Int32.ofInt z) :: st) g u else if a = 1 then qm_ldcs k b pc lv st g u else none) = some R := hk
    show (if a = 0 then k (pc + 2) lv' (.int (Int32.ofInt z) :: st) g u else if a = 1 then qm_ldcs k b pc lv' st g u else none) = some R
    split at hk1
    · rename_i e
      rw [if_pos e]
      exact hT _ _ _ _ _ _ _ hl hk1
    · rename_i e
      rw [if_neg e]
      split at hk1
      · rename_i e2
        rw [if_pos e2]
        exact qw_ldcs hT hl _ _ hk1
      · cases hk1
  | ldc_w ix =>
    have hk1 : (if a = 0 then k (pc + 3) lv (.int (Int32.ofInt z) :: st) g u else none) = some R := hk
    show (if a = 0 then k (pc + 3) lv' (.int (Int32.ofInt z) :: st) g u else none) = some R
    split at hk1
    · rename_i e
      rw [if_pos e]
      exact hT _ _ _ _ _ _ _ hl hk1
    · cases hk1
  | invokevirtual ix =>
    have hk1 : (if b = 0 then qm_inv k tab big a pc lv st g u else if b = 4 then qm_slen k pc lv st g u else if b = 5 then qm_sch k pc lv st g u else none) = some R := hk
    show (if b = 0 then qm_inv k tab big a pc lv' st g u else if b = 4 then qm_slen k pc lv' st g u else if b = 5 then qm_sch k pc lv' st g u else none) = some R
    split at hk1
    · rename_i e
      rw [if_pos e]
      exact qw_inv hT hl _ _ _ _ hk1
    · rename_i e
      rw [if_neg e]
      split at hk1
      · rename_i e2
        rw [if_pos e2]
        exact qw_slen hT hl _ hk1
      · rename_i e2
        rw [if_neg e2]
        split at hk1
        · rename_i e3
          rw [if_pos e3]
          exact qw_sch hT hl _ hk1
        · cases hk1
  | invokespecial ix =>
    have hk1 : (if b = 1 then qm_inv k tab big a pc lv st g u else none) = some R := hk
    show (if b = 1 then qm_inv k tab big a pc lv' st g u else none) = some R
    split at hk1
    · rename_i e
      rw [if_pos e]
      exact qw_inv hT hl _ _ _ _ hk1
    · cases hk1
  | invokestatic ix =>
    have hk1 : (if b = 8 then qm_copy k pc lv st g u else if b = 2 ∨ b = 3 then qm_ins k tab big a pc lv st g u else none) = some R := hk
    show (if b = 8 then qm_copy k pc lv' st g u else if b = 2 ∨ b = 3 then qm_ins k tab big a pc lv' st g u else none) = some R
    split at hk1
    · rename_i e
      rw [if_pos e]
      exact qw_copy hT hl _ hk1
    · rename_i e
      rw [if_neg e]
      split at hk1
      · rename_i e2
        rw [if_pos e2]
        exact qw_ins hT hl _ _ _ _ hk1
      · cases hk1
  | _ => exact absurd (show (none : qR) = some R from hk) (fun q => by cases q)
theorem qw_run {tab : Nat → Option pm_M} {big : Nat → List Value → qM → qW → qR} {mm : pm_M} : ∀ n, q_T (qm_run tab big mm n)
  | 0 => fun _ _ _ _ _ _ _ _ hk => by cases hk
  | n + 1 => fun pc lv lv' st g u R hl hk => by
    have hk1 : (match pm_at mm pc with
      | some e => qm_step tab big mm (qm_run tab big mm n) e pc lv st g u
      | none => none) = some R := hk
    show (match pm_at mm pc with
      | some e => qm_step tab big mm (qm_run tab big mm n) e pc lv' st g u
      | none => none) = some R
    split at hk1
    · rename_i e he
      (try rw [he])
      exact qw_step (qw_run n) hl hk1
    · cases hk1
theorem q_weak {mm : pm_M} {pc : Nat} (lv : pm_L) {lv' : pm_L} {st : List Value} {g : qM} {u : qW} {Q : Option Value × qM × qW → Prop} (hl : q_sub lv lv') (h : q_EV mm pc lv st g u Q) : q_EV mm pc lv' st g u Q := by
  obtain ⟨R, ⟨F, hF⟩, hQ⟩ := h
  exact ⟨R, ⟨F, fun N d n h1 h2 h3 => qw_run n _ _ _ _ _ _ _ hl (hF N d n h1 h2 h3)⟩, hQ⟩
