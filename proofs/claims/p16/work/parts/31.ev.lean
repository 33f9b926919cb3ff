/-! RUNS THAT END: with steps enough, whatever the bounds. -/
def q_EV (mm : pm_M) (pc : Nat) (lv : pm_L) (st : List Value) (g : qM) (u : qW) (Q : Option Value × qM × qW → Prop) : Prop := ∃ R, (∃ F, ∀ N d n, F ≤ N → F ≤ d → F ≤ n → qm_run pm_m (qm_big pm_m N d) mm n pc lv st g u = some R) ∧ Q R
def q_BS (M : Nat) (as : List Value) (g : qM) (u : qW) (R : Option Value × qM × qW) : Prop := ∃ F, ∀ N d, F ≤ N → F ≤ d → qm_big pm_m N d M as g u = some R
section EV
variable {mm : pm_M} {pc : Nat} {lv : pm_L} {st : List Value} {g : qM} {u : qW} {Q : Option Value × qM × qW → Prop}
theorem q_step (k pc' : Nat) (lv' : pm_L) (st' : List Value) (g' : qM) (u' : qW) (h : ∀ big n, qm_run pm_m big mm (n + k) pc lv st g u = qm_run pm_m big mm n pc' lv' st' g' u') (hE : q_EV mm pc' lv' st' g' u' Q) : q_EV mm pc lv st g u Q := by
  obtain ⟨R, ⟨F, hF⟩, hQ⟩ := hE
  refine ⟨R, ⟨F + k, fun N d n h1 h2 h3 => ?_⟩, hQ⟩
  obtain ⟨n', rfl⟩ : ∃ n', n = n' + k := ⟨n - k, by omega⟩
  rw [h]
  exact hF N d n' (by omega) (by omega) (by omega)
theorem q_ret (k : Nat) (R' : Option Value × qM × qW) (h : ∀ big n, qm_run pm_m big mm (n + k) pc lv st g u = some R') (e : Q R') : q_EV mm pc lv st g u Q := by
  refine ⟨R', ⟨k, fun N d n h1 h2 h3 => ?_⟩, e⟩
  obtain ⟨n', rfl⟩ : ∃ n', n = n' + k := ⟨n - k, by omega⟩
  rw [h]
theorem q_ite (c : Prop) [Decidable c] (k pc1 pc2 : Nat) (st' : List Value) (h : ∀ big n, qm_run pm_m big mm (n + k) pc lv st g u = if c then qm_run pm_m big mm n pc1 lv st' g u else qm_run pm_m big mm n pc2 lv st' g u) (h1 : c → q_EV mm pc1 lv st' g u Q) (h2 : ¬ c → q_EV mm pc2 lv st' g u Q) : q_EV mm pc lv st g u Q := by
  by_cases hc : c
  · exact q_step k pc1 lv st' g u (fun big n => by rw [h, if_pos hc]) (h1 hc)
  · exact q_step k pc2 lv st' g u (fun big n => by rw [h, if_neg hc]) (h2 hc)
theorem q_call {M2 : Nat} {as rest : List Value} {r : Option Value} {g' : qM} {u' : qW} (hb : q_BS M2 as g u (r, g', u')) (h : ∀ (big : Nat → List Value → qM → qW → qR) (n : Nat), qm_run pm_m big mm (n + 1) pc lv st g u = (match big M2 as g u with
  | some (r, g', u') => qm_run pm_m big mm n (pc + 3) lv (r.toList ++ rest) g' u'
  | none => none)) (hE : q_EV mm (pc + 3) lv (r.toList ++ rest) g' u' Q) : q_EV mm pc lv st g u Q := by
  obtain ⟨R, ⟨F, hF⟩, hQ⟩ := hE
  obtain ⟨F2, hF2⟩ := hb
  refine ⟨R, ⟨F + F2 + 1, fun N d n h1 h2 h3 => ?_⟩, hQ⟩
  obtain ⟨n', rfl⟩ : ∃ n', n = n' + 1 := ⟨n - 1, by omega⟩
  rw [h, hF2 N d (by omega) (by omega)]
  exact hF N d n' (by omega) (by omega) (by omega)
theorem q_bs {M : Nat} {as : List Value} (hm : pm_m M = some mm) (hw : pm_words as ≤ pm_ml mm) (hl : as.length = pm_n mm) (hE : q_EV mm 0 (lv_args 0 as) [] g u Q) : ∃ R, q_BS M as g u R ∧ Q R := by
  obtain ⟨R, ⟨F, hF⟩, hQ⟩ := hE
  refine ⟨R, ⟨F + 1, fun N d h1 h2 => ?_⟩, hQ⟩
  obtain ⟨d', rfl⟩ : ∃ d', d = d' + 1 := ⟨d - 1, by omega⟩
  show (match pm_m M with
    | some mm => if pm_words as ≤ pm_ml mm then (if as.length = pm_n mm then qm_run pm_m (qm_big pm_m N d') mm N 0 (lv_args 0 as) [] g u else none) else none
    | none => none) = some R
  rw [hm]
  dsimp only
  rw [if_pos hw, if_pos hl]
  exact hF N d' N (by omega) (by omega) (by omega)
/-- one answer, told ahead -/
theorem q_bx {M : Nat} {as : List Value} {R : Option Value × qM × qW} (hm : pm_m M = some mm) (hw : pm_words as ≤ pm_ml mm) (hl : as.length = pm_n mm) (hE : q_EV mm 0 (lv_args 0 as) [] g u (fun R' => R' = R)) : q_BS M as g u R := by
  obtain ⟨R', h1, h2⟩ := q_bs hm hw hl hE
  rw [h2] at h1
  exact h1
theorem q_EV.imp {Q' : Option Value × qM × qW → Prop} (h : q_EV mm pc lv st g u Q) (hi : ∀ R, Q R → Q' R) : q_EV mm pc lv st g u Q' := by
  obtain ⟨R, h1, h2⟩ := h
  exact ⟨R, h1, hi R h2⟩
/-- the index i is the place j of a row of n -/
def q_ix (i : Int32) (j n : Nat) : Prop := ¬ i < 0 ∧ i.toNatClampNeg = j ∧ j < n
theorem q_iald {a n j : Nat} {i : Int32} (hx : q_ix i j n) (hs : q_sh a = some (.inl (0, n))) (he : pm_at mm pc = some (.iaload, 0, 0, 0)) (hE : q_EV mm (pc + 1) lv (.int (g a j) :: st) g u Q) : q_EV mm pc lv (.int i :: .ref a :: st) g u Q := by
  obtain ⟨h1, h2, h3⟩ := hx
  refine q_step 1 (pc + 1) lv (.int (g a j) :: st) g u (fun big n => ?_) hE
  show (match pm_at mm pc with
    | some e => qm_step pm_m big mm (qm_run pm_m big mm n) e pc lv (.int i :: .ref a :: st) g u
    | none => none) = _
  rw [he]
  show qm_iald (qm_run pm_m big mm n) pc lv (.int i :: .ref a :: st) g u = _
  unfold qm_iald
  dsimp only
  rw [hs]
  dsimp only
  rw [if_pos rfl, if_neg h1, h2, if_pos h3]
theorem q_bald {a n j t : Nat} {i : Int32} (hx : q_ix i j n) (hs : q_sh a = some (.inl (t, n))) (ht : t = 1 ∨ t = 2) (he : pm_at mm pc = some (.baload, 0, 0, 0)) (hE : q_EV mm (pc + 1) lv (.int (g a j) :: st) g u Q) : q_EV mm pc lv (.int i :: .ref a :: st) g u Q := by
  obtain ⟨h1, h2, h3⟩ := hx
  refine q_step 1 (pc + 1) lv (.int (g a j) :: st) g u (fun big n => ?_) hE
  show (match pm_at mm pc with
    | some e => qm_step pm_m big mm (qm_run pm_m big mm n) e pc lv (.int i :: .ref a :: st) g u
    | none => none) = _
  rw [he]
  show qm_bald (qm_run pm_m big mm n) pc lv (.int i :: .ref a :: st) g u = _
  unfold qm_bald
  dsimp only
  rw [hs]
  dsimp only
  rw [if_pos ht, if_neg h1, h2, if_pos h3]
theorem q_iast {a n j : Nat} {i x : Int32} (hx : q_ix i j n) (hs : q_sh a = some (.inl (0, n))) (he : pm_at mm pc = some (.iastore, 0, 0, 0)) (hE : q_EV mm (pc + 1) lv st (q_up g a j x) u Q) : q_EV mm pc lv (.int x :: .int i :: .ref a :: st) g u Q := by
  obtain ⟨h1, h2, h3⟩ := hx
  refine q_step 1 (pc + 1) lv st (q_up g a j x) u (fun big n => ?_) hE
  show (match pm_at mm pc with
    | some e => qm_step pm_m big mm (qm_run pm_m big mm n) e pc lv (.int x :: .int i :: .ref a :: st) g u
    | none => none) = _
  rw [he]
  show qm_iast (qm_run pm_m big mm n) pc lv (.int x :: .int i :: .ref a :: st) g u = _
  unfold qm_iast
  dsimp only
  rw [hs]
  dsimp only
  rw [if_pos rfl, if_neg h1, h2, if_pos h3]
theorem q_bast1 {a n j : Nat} {i x : Int32} (hx : q_ix i j n) (hs : q_sh a = some (.inl (1, n))) (he : pm_at mm pc = some (.bastore, 0, 0, 0)) (hE : q_EV mm (pc + 1) lv st (q_up g a j x.toInt8.toInt32) u Q) : q_EV mm pc lv (.int x :: .int i :: .ref a :: st) g u Q := by
  obtain ⟨h1, h2, h3⟩ := hx
  refine q_step 1 (pc + 1) lv st (q_up g a j x.toInt8.toInt32) u (fun big n => ?_) hE
  show (match pm_at mm pc with
    | some e => qm_step pm_m big mm (qm_run pm_m big mm n) e pc lv (.int x :: .int i :: .ref a :: st) g u
    | none => none) = _
  rw [he]
  show qm_bast (qm_run pm_m big mm n) pc lv (.int x :: .int i :: .ref a :: st) g u = _
  unfold qm_bast
  dsimp only
  rw [hs]
  dsimp only
  rw [if_pos rfl, if_neg h1, h2, if_pos h3]
theorem q_bast2 {a n j : Nat} {i x : Int32} (hx : q_ix i j n) (hs : q_sh a = some (.inl (2, n))) (he : pm_at mm pc = some (.bastore, 0, 0, 0)) (hE : q_EV mm (pc + 1) lv st (q_up g a j (x &&& 1)) u Q) : q_EV mm pc lv (.int x :: .int i :: .ref a :: st) g u Q := by
  obtain ⟨h1, h2, h3⟩ := hx
  refine q_step 1 (pc + 1) lv st (q_up g a j (x &&& 1)) u (fun big n => ?_) hE
  show (match pm_at mm pc with
    | some e => qm_step pm_m big mm (qm_run pm_m big mm n) e pc lv (.int x :: .int i :: .ref a :: st) g u
    | none => none) = _
  rw [he]
  show qm_bast (qm_run pm_m big mm n) pc lv (.int x :: .int i :: .ref a :: st) g u = _
  unfold qm_bast
  dsimp only
  rw [hs]
  dsimp only
  rw [if_neg (by decide), if_pos rfl, if_neg h1, h2, if_pos h3]
theorem q_lald {a n j : Nat} {i : Int32} (hx : q_ix i j n) (hs : q_sh a = some (.inr (.inl n))) (he : pm_at mm pc = some (.laload, 0, 0, 0)) (hE : q_EV mm (pc + 1) lv (.long (u j) :: st) g u Q) : q_EV mm pc lv (.int i :: .ref a :: st) g u Q := by
  obtain ⟨h1, h2, h3⟩ := hx
  refine q_step 1 (pc + 1) lv (.long (u j) :: st) g u (fun big n => ?_) hE
  show (match pm_at mm pc with
    | some e => qm_step pm_m big mm (qm_run pm_m big mm n) e pc lv (.int i :: .ref a :: st) g u
    | none => none) = _
  rw [he]
  show qm_lald (qm_run pm_m big mm n) pc lv (.int i :: .ref a :: st) g u = _
  unfold qm_lald
  dsimp only
  rw [hs]
  dsimp only
  rw [if_neg h1, h2, if_pos h3]
theorem q_last {a n j : Nat} {i : Int32} {x : Int64} (hx : q_ix i j n) (hs : q_sh a = some (.inr (.inl n))) (he : pm_at mm pc = some (.lastore, 0, 0, 0)) (hE : q_EV mm (pc + 1) lv st g (q_uw u j x) Q) : q_EV mm pc lv (.long x :: .int i :: .ref a :: st) g u Q := by
  obtain ⟨h1, h2, h3⟩ := hx
  refine q_step 1 (pc + 1) lv st g (q_uw u j x) (fun big n => ?_) hE
  show (match pm_at mm pc with
    | some e => qm_step pm_m big mm (qm_run pm_m big mm n) e pc lv (.long x :: .int i :: .ref a :: st) g u
    | none => none) = _
  rw [he]
  show qm_last (qm_run pm_m big mm n) pc lv (.long x :: .int i :: .ref a :: st) g u = _
  unfold qm_last
  dsimp only
  rw [hs]
  dsimp only
  rw [if_neg h1, h2, if_pos h3]
theorem q_idiv {x y : Int32} (hy : y ≠ 0) (he : pm_at mm pc = some (.idiv, 0, 0, 0)) (hE : q_EV mm (pc + 1) lv (.int (x / y) :: st) g u Q) : q_EV mm pc lv (.int y :: .int x :: st) g u Q := by
  refine q_step 1 (pc + 1) lv (.int (x / y) :: st) g u (fun big n => ?_) hE
  show (match pm_at mm pc with
    | some e => qm_step pm_m big mm (qm_run pm_m big mm n) e pc lv (.int y :: .int x :: st) g u
    | none => none) = _
  rw [he]
  show qm_bz (qm_run pm_m big mm n) (fun x y => x / y) pc lv (.int y :: .int x :: st) g u = _
  unfold qm_bz
  dsimp only
  rw [if_neg hy]
theorem q_irem {x y : Int32} (hy : y ≠ 0) (he : pm_at mm pc = some (.irem, 0, 0, 0)) (hE : q_EV mm (pc + 1) lv (.int (x - x / y * y) :: st) g u Q) : q_EV mm pc lv (.int y :: .int x :: st) g u Q := by
  refine q_step 1 (pc + 1) lv (.int (x - x / y * y) :: st) g u (fun big n => ?_) hE
  show (match pm_at mm pc with
    | some e => qm_step pm_m big mm (qm_run pm_m big mm n) e pc lv (.int y :: .int x :: st) g u
    | none => none) = _
  rw [he]
  show qm_bz (qm_run pm_m big mm n) (fun x y => x - x / y * y) pc lv (.int y :: .int x :: st) g u = _
  unfold qm_bz
  dsimp only
  rw [if_neg hy]
theorem q_if_eq {x : Int32} {off : Int} {tgt b : Nat} {z : Int} (he : pm_at mm pc = some (.ifCond .eq off, tgt, b, z)) (h1 : x = 0 → q_EV mm tgt lv st g u Q) (h2 : ¬ x = 0 → q_EV mm (pc + 3) lv st g u Q) : q_EV mm pc lv (.int x :: st) g u Q := by
  refine q_ite (x = 0) 1 tgt (pc + 3) st (fun big n => ?_) h1 h2
  show (match pm_at mm pc with
    | some e => qm_step pm_m big mm (qm_run pm_m big mm n) e pc lv (.int x :: st) g u
    | none => none) = _
  rw [he]
  rfl
theorem q_if_ne {x : Int32} {off : Int} {tgt b : Nat} {z : Int} (he : pm_at mm pc = some (.ifCond .ne off, tgt, b, z)) (h1 : x = 0 → q_EV mm (pc + 3) lv st g u Q) (h2 : ¬ x = 0 → q_EV mm tgt lv st g u Q) : q_EV mm pc lv (.int x :: st) g u Q := by
  refine q_ite (x = 0) 1 (pc + 3) tgt st (fun big n => ?_) h1 h2
  show (match pm_at mm pc with
    | some e => qm_step pm_m big mm (qm_run pm_m big mm n) e pc lv (.int x :: st) g u
    | none => none) = _
  rw [he]
  rfl
theorem q_if_lt {x : Int32} {off : Int} {tgt b : Nat} {z : Int} (he : pm_at mm pc = some (.ifCond .lt off, tgt, b, z)) (h1 : x < 0 → q_EV mm tgt lv st g u Q) (h2 : ¬ x < 0 → q_EV mm (pc + 3) lv st g u Q) : q_EV mm pc lv (.int x :: st) g u Q := by
  refine q_ite (x < 0) 1 tgt (pc + 3) st (fun big n => ?_) h1 h2
  show (match pm_at mm pc with
    | some e => qm_step pm_m big mm (qm_run pm_m big mm n) e pc lv (.int x :: st) g u
    | none => none) = _
  rw [he]
  rfl
theorem q_if_ge {x : Int32} {off : Int} {tgt b : Nat} {z : Int} (he : pm_at mm pc = some (.ifCond .ge off, tgt, b, z)) (h1 : 0 ≤ x → q_EV mm tgt lv st g u Q) (h2 : ¬ 0 ≤ x → q_EV mm (pc + 3) lv st g u Q) : q_EV mm pc lv (.int x :: st) g u Q := by
  refine q_ite (0 ≤ x) 1 tgt (pc + 3) st (fun big n => ?_) h1 h2
  show (match pm_at mm pc with
    | some e => qm_step pm_m big mm (qm_run pm_m big mm n) e pc lv (.int x :: st) g u
    | none => none) = _
  rw [he]
  rfl
theorem q_if_gt {x : Int32} {off : Int} {tgt b : Nat} {z : Int} (he : pm_at mm pc = some (.ifCond .gt off, tgt, b, z)) (h1 : 0 < x → q_EV mm tgt lv st g u Q) (h2 : ¬ 0 < x → q_EV mm (pc + 3) lv st g u Q) : q_EV mm pc lv (.int x :: st) g u Q := by
  refine q_ite (0 < x) 1 tgt (pc + 3) st (fun big n => ?_) h1 h2
  show (match pm_at mm pc with
    | some e => qm_step pm_m big mm (qm_run pm_m big mm n) e pc lv (.int x :: st) g u
    | none => none) = _
  rw [he]
  rfl
theorem q_if_le {x : Int32} {off : Int} {tgt b : Nat} {z : Int} (he : pm_at mm pc = some (.ifCond .le off, tgt, b, z)) (h1 : x ≤ 0 → q_EV mm tgt lv st g u Q) (h2 : ¬ x ≤ 0 → q_EV mm (pc + 3) lv st g u Q) : q_EV mm pc lv (.int x :: st) g u Q := by
  refine q_ite (x ≤ 0) 1 tgt (pc + 3) st (fun big n => ?_) h1 h2
  show (match pm_at mm pc with
    | some e => qm_step pm_m big mm (qm_run pm_m big mm n) e pc lv (.int x :: st) g u
    | none => none) = _
  rw [he]
  rfl
theorem q_ic_eq {x y : Int32} {off : Int} {tgt b : Nat} {z : Int} (he : pm_at mm pc = some (.if_icmp .eq off, tgt, b, z)) (h1 : x = y → q_EV mm tgt lv st g u Q) (h2 : ¬ x = y → q_EV mm (pc + 3) lv st g u Q) : q_EV mm pc lv (.int y :: .int x :: st) g u Q := by
  refine q_ite (x = y) 1 tgt (pc + 3) st (fun big n => ?_) h1 h2
  show (match pm_at mm pc with
    | some e => qm_step pm_m big mm (qm_run pm_m big mm n) e pc lv (.int y :: .int x :: st) g u
    | none => none) = _
  rw [he]
  rfl
theorem q_ic_ne {x y : Int32} {off : Int} {tgt b : Nat} {z : Int} (he : pm_at mm pc = some (.if_icmp .ne off, tgt, b, z)) (h1 : x = y → q_EV mm (pc + 3) lv st g u Q) (h2 : ¬ x = y → q_EV mm tgt lv st g u Q) : q_EV mm pc lv (.int y :: .int x :: st) g u Q := by
  refine q_ite (x = y) 1 (pc + 3) tgt st (fun big n => ?_) h1 h2
  show (match pm_at mm pc with
    | some e => qm_step pm_m big mm (qm_run pm_m big mm n) e pc lv (.int y :: .int x :: st) g u
    | none => none) = _
  rw [he]
  rfl
theorem q_ic_lt {x y : Int32} {off : Int} {tgt b : Nat} {z : Int} (he : pm_at mm pc = some (.if_icmp .lt off, tgt, b, z)) (h1 : x < y → q_EV mm tgt lv st g u Q) (h2 : ¬ x < y → q_EV mm (pc + 3) lv st g u Q) : q_EV mm pc lv (.int y :: .int x :: st) g u Q := by
  refine q_ite (x < y) 1 tgt (pc + 3) st (fun big n => ?_) h1 h2
  show (match pm_at mm pc with
    | some e => qm_step pm_m big mm (qm_run pm_m big mm n) e pc lv (.int y :: .int x :: st) g u
    | none => none) = _
  rw [he]
  rfl
theorem q_ic_ge {x y : Int32} {off : Int} {tgt b : Nat} {z : Int} (he : pm_at mm pc = some (.if_icmp .ge off, tgt, b, z)) (h1 : y ≤ x → q_EV mm tgt lv st g u Q) (h2 : ¬ y ≤ x → q_EV mm (pc + 3) lv st g u Q) : q_EV mm pc lv (.int y :: .int x :: st) g u Q := by
  refine q_ite (y ≤ x) 1 tgt (pc + 3) st (fun big n => ?_) h1 h2
  show (match pm_at mm pc with
    | some e => qm_step pm_m big mm (qm_run pm_m big mm n) e pc lv (.int y :: .int x :: st) g u
    | none => none) = _
  rw [he]
  rfl
theorem q_ic_gt {x y : Int32} {off : Int} {tgt b : Nat} {z : Int} (he : pm_at mm pc = some (.if_icmp .gt off, tgt, b, z)) (h1 : y < x → q_EV mm tgt lv st g u Q) (h2 : ¬ y < x → q_EV mm (pc + 3) lv st g u Q) : q_EV mm pc lv (.int y :: .int x :: st) g u Q := by
  refine q_ite (y < x) 1 tgt (pc + 3) st (fun big n => ?_) h1 h2
  show (match pm_at mm pc with
    | some e => qm_step pm_m big mm (qm_run pm_m big mm n) e pc lv (.int y :: .int x :: st) g u
    | none => none) = _
  rw [he]
  rfl
theorem q_ic_le {x y : Int32} {off : Int} {tgt b : Nat} {z : Int} (he : pm_at mm pc = some (.if_icmp .le off, tgt, b, z)) (h1 : x ≤ y → q_EV mm tgt lv st g u Q) (h2 : ¬ x ≤ y → q_EV mm (pc + 3) lv st g u Q) : q_EV mm pc lv (.int y :: .int x :: st) g u Q := by
  refine q_ite (x ≤ y) 1 tgt (pc + 3) st (fun big n => ?_) h1 h2
  show (match pm_at mm pc with
    | some e => qm_step pm_m big mm (qm_run pm_m big mm n) e pc lv (.int y :: .int x :: st) g u
    | none => none) = _
  rw [he]
  rfl
end EV
/-! numbers: places as ints -/
theorem q_nat {j : Nat} (h : j < 1000000) : (Int32.ofNat j).toInt = (j : Int) := Int32.toInt_ofNat_of_lt (by omega)
theorem q_ixn {j n : Nat} (h : j < n) (hn : n ≤ 1000) : q_ix (Int32.ofNat j) j n := by
  have e := q_nat (j := j) (by omega)
  refine ⟨fun q => ?_, ?_, h⟩
  · have q1 := Int32.lt_iff_toInt_lt.mp q
    rw [e] at q1
    have z : (0 : Int32).toInt = 0 := rfl
    omega
  · show (Int32.ofNat j).toInt.toNat = j
    rw [e]
    omega
theorem q_ixi {x : Int32} {n : Nat} (h1 : 0 ≤ x.toInt) (h2 : x.toInt < (n : Int)) : q_ix x x.toInt.toNat n := by
  refine ⟨fun q => ?_, rfl, by omega⟩
  have q1 := Int32.lt_iff_toInt_lt.mp q
  have z : (0 : Int32).toInt = 0 := rfl
  omega
theorem q_inj {x y : Int32} (h : x.toInt = y.toInt) : x = y := Int32.toInt_inj.mp h
theorem q_succ (j : Nat) : Int32.ofNat j + 1 = Int32.ofNat (j + 1) := (Int32.ofNat_add j 1).symm
theorem q_lt {i j : Nat} (hi : i < 1000000) (hj : j < 1000000) : Int32.ofNat i < Int32.ofNat j ↔ i < j := by
  rw [Int32.lt_iff_toInt_lt, q_nat hi, q_nat hj]
  omega
theorem q_le {i j : Nat} (hi : i < 1000000) (hj : j < 1000000) : Int32.ofNat i ≤ Int32.ofNat j ↔ i ≤ j := by
  rw [Int32.le_iff_toInt_le, q_nat hi, q_nat hj]
  omega
theorem q_eq {i j : Nat} (hi : i < 1000000) (hj : j < 1000000) : Int32.ofNat i = Int32.ofNat j ↔ i = j := by
  constructor
  · intro h
    have := congrArg Int32.toInt h
    rw [q_nat hi, q_nat hj] at this
    omega
  · intro h
    rw [h]
theorem q_of {x : Int32} (h : 0 ≤ x.toInt) : x = Int32.ofNat x.toInt.toNat := by
  apply q_inj
  have := Int32.toInt_lt x
  rw [Int32.toInt_ofNat_of_lt (by omega)]
  omega
