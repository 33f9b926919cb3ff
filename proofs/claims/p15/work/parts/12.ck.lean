/-! THE METHODS: each entry of the tables is what the bytes decode to, and its links stand (checker). -/
def ck_D (m : pm_M) (pc : Nat) (i : Instr) : Bool := match i with
  | .tableswitch d lo hi offs => (match decode (pm_b m) pc with
    | .ok q => decide (q.1 = .tableswitch d lo hi offs)
    | .error _ => false)
  | i => decide (decode (pm_b m) pc = .ok (i, pm_len i))
theorem ck_D_ok {m : pm_M} {pc : Nat} {i : Instr} (h : ck_D m pc i = true) : pm_okD m pc i := by
  cases i with
  | tableswitch d lo hi offs =>
    have h1 : (match decode (pm_b m) pc with
      | .ok q => decide (q.1 = .tableswitch d lo hi offs)
      | .error _ => false) = true := h
    split at h1
    · rename_i q hq
      obtain ⟨q1, q2⟩ := q
      have h2 : q1 = .tableswitch d lo hi offs := of_decide_eq_true h1
      subst h2
      exact ⟨q2, hq⟩
    · cases h1
  | _ =>
    show decode (pm_b m) pc = Except.ok _
    exact of_decide_eq_true h
def ck_R (m : pm_M) (M2 : Nat) : Bool := match pm_m M2 with
  | some m2 => decide (pm_f m2 + 1 ≤ pm_f m) && decide (8 + (pm_ml m2 + 11) + pm_w m2 ≤ pm_w m)
  | none => false
theorem ck_R_ok {m m2 : pm_M} {M2 : Nat} (h : ck_R m M2 = true) (hm : pm_m M2 = some m2) : pm_rmok m m2 := by
  unfold ck_R at h
  rw [hm] at h
  rw [Bool.and_eq_true] at h
  exact ⟨of_decide_eq_true h.1, of_decide_eq_true h.2⟩
def ck_L (m : pm_M) (pc : Nat) (e : pm_E) : Bool := match e.1 with
  | .ldc ix => if e.2.1 = 0 then decide ((pm_o m, ix, e.2.2.2) ∈ lkC) else if e.2.1 = 1 then decide (kN (pm_o m) = "MoodTown$Telling") && decide (sg_ix (e.2.2.1 - 1) = ix) else true
  | .ldc_w ix => if e.2.1 = 0 then decide ((pm_o m, ix, e.2.2.2) ∈ lkC) else true
  | .ldc2_w ix => decide ((pm_o m, ix, e.2.2.2) ∈ lkJ)
  | .ifCond _ off => decide ((pc : Int) + off = (e.2.1 : Int))
  | .if_icmp _ off => decide ((pc : Int) + off = (e.2.1 : Int))
  | .goto off => decide ((pc : Int) + off = (e.2.1 : Int))
  | .getfield ix => decide ((pm_o m, ix, e.2.1, e.2.2.1) ∈ lkF)
  | .putfield ix => decide ((pm_o m, ix, e.2.1, e.2.2.1) ∈ lkF) && (decide ((kT e.2.1 e.2.2.1).2.2.2 = false) || (decide ((kT e.2.1 e.2.2.1).2.2.2 = true) && (decide ((pm_y m).name = "<init>") && decide (kN e.2.1 = kN (pm_o m)))))
  | .new ix => decide ((pm_o m, ix, e.2.1) ∈ lkW)
  | .anewarray ix => decide ((pm_o m, ix, e.2.1) ∈ lkA)
  | .invokevirtual ix => if e.2.2.1 = 0 then decide ((pm_o m, ix, e.2.1, 0) ∈ lkM) && ck_R m e.2.1 else if e.2.2.1 = 4 then decide (kN (pm_o m) = "MoodTown$Tape" ∧ ix = 38 ∧ 2 ≤ pm_f m ∧ 40 ≤ pm_w m) else if e.2.2.1 = 5 then decide (kN (pm_o m) = "MoodTown$Tape" ∧ ix = 43 ∧ 4 ≤ pm_f m ∧ 85 ≤ pm_w m) else true
  | .invokespecial ix => if e.2.2.1 = 1 then decide ((pm_o m, ix, e.2.1, 1) ∈ lkM) && ck_R m e.2.1 else if e.2.2.1 = 9 then decide ((pm_o m, ix) ∈ lkO) && (decide (1 ≤ pm_f m) && decide (20 ≤ pm_w m)) else true
  | .invokestatic ix => if e.2.2.1 = 8 then decide ((pm_o m, ix) ∈ lkY) && (decide (1 ≤ pm_f m) && decide (18 ≤ pm_w m)) else if e.2.2.1 = 2 then decide ((pm_o m, ix, e.2.1, 2) ∈ lkM) && ck_R m e.2.1 else if e.2.2.1 = 3 then decide ((pm_o m, ix, e.2.1) ∈ lkN) && ck_R m e.2.1 else true
  | _ => true
theorem ck_L_ok {m : pm_M} {pc : Nat} {e : pm_E} (h : ck_L m pc e = true) : pm_okL pm_m m pc e := by
  obtain ⟨i, a, b, z⟩ := e
  cases i with
  | ldc ix =>
    refine ⟨fun ha => lkC_ok _ (of_decide_eq_true ((if_pos ha).symm.trans h)), fun ha => ?_⟩
    have ha : a = 1 := ha
    subst ha
    have h2 : (decide (kN (pm_o m) = "MoodTown$Telling") && decide (sg_ix (b - 1) = ix)) = true := h
    rw [Bool.and_eq_true] at h2
    exact ⟨of_decide_eq_true h2.1, of_decide_eq_true h2.2⟩
  | ldc_w ix => exact fun ha => lkC_ok _ (of_decide_eq_true ((if_pos ha).symm.trans h))
  | ldc2_w ix => exact lkJ_ok _ (of_decide_eq_true h)
  | ifCond _ off =>
    show (pc : Int) + off = (a : Int)
    exact of_decide_eq_true h
  | if_icmp _ off =>
    show (pc : Int) + off = (a : Int)
    exact of_decide_eq_true h
  | goto off =>
    show (pc : Int) + off = (a : Int)
    exact of_decide_eq_true h
  | getfield ix => exact lkF_ok _ (of_decide_eq_true h)
  | putfield ix =>
    have h1 := (Bool.and_eq_true _ _ ▸ h : _ ∧ _)
    refine ⟨lkF_ok _ (of_decide_eq_true h1.1), ?_⟩
    have h2 := h1.2
    rw [Bool.or_eq_true, Bool.and_eq_true, Bool.and_eq_true] at h2
    rcases h2 with h2 | h2
    · exact Or.inl (of_decide_eq_true h2)
    · exact Or.inr ⟨of_decide_eq_true h2.1, of_decide_eq_true h2.2.1, of_decide_eq_true h2.2.2⟩
  | new ix => exact lkW_ok _ (of_decide_eq_true h)
  | anewarray ix => exact lkA_ok _ (of_decide_eq_true h)
  | invokevirtual ix =>
    refine ⟨?_, fun hb => ?_, fun hb => ?_⟩
    rotate_left 1
    · have hb : b = 4 := hb
      subst hb
      exact of_decide_eq_true (p := kN (pm_o m) = "MoodTown$Tape" ∧ ix = 38 ∧ 2 ≤ pm_f m ∧ 40 ≤ pm_w m) h
    · have hb : b = 5 := hb
      subst hb
      exact of_decide_eq_true (p := kN (pm_o m) = "MoodTown$Tape" ∧ ix = 43 ∧ 4 ≤ pm_f m ∧ 85 ≤ pm_w m) h
    intro hb m2 hm
    have h1 := (if_pos hb).symm.trans h
    rw [Bool.and_eq_true] at h1
    obtain ⟨m3, hm3, hk, hl⟩ := lkM_ok _ (of_decide_eq_true h1.1)
    obtain rfl : m3 = m2 := Option.some.inj (hm3.symm.trans hm)
    exact ⟨hk.1, hl, hk.2.1, hk.2.2.1, hk.2.2.2.1, hk.2.2.2.2, ck_R_ok h1.2 hm⟩
  | invokespecial ix =>
    refine ⟨fun hb m2 hm => ?_, fun hb => ?_⟩
    · have h1 := (if_pos hb).symm.trans h
      rw [Bool.and_eq_true] at h1
      obtain ⟨m3, hm3, hk, hl⟩ := lkM_ok _ (of_decide_eq_true h1.1)
      obtain rfl : m3 = m2 := Option.some.inj (hm3.symm.trans hm)
      exact ⟨hk.1, hl, hk.2.1, hk.2.2.1, hk.2.2.2, ck_R_ok h1.2 hm⟩
    · have hb : b = 9 := hb
      have h0 := (if_neg (by show ¬ b = 1; omega)).symm.trans h
      have h1 := (if_pos hb).symm.trans h0
      rw [Bool.and_eq_true, Bool.and_eq_true] at h1
      exact ⟨lkO_ok _ (of_decide_eq_true h1.1), of_decide_eq_true h1.2.1, of_decide_eq_true h1.2.2⟩
  | invokestatic ix =>
    refine ⟨fun hb => ?_, fun hb m2 hm => ?_, fun hb m2 hm => ?_⟩
    · have h1 := (if_pos hb).symm.trans h
      rw [Bool.and_eq_true, Bool.and_eq_true] at h1
      exact ⟨lkY_ok _ (of_decide_eq_true h1.1), of_decide_eq_true h1.2.1, of_decide_eq_true h1.2.2⟩
    · have hb : b = 2 := hb
      have h0 := (if_neg (by show ¬ b = 8; omega)).symm.trans h
      have h1 := (if_pos hb).symm.trans h0
      rw [Bool.and_eq_true] at h1
      obtain ⟨m3, hm3, hk, hl⟩ := lkM_ok _ (of_decide_eq_true h1.1)
      obtain rfl : m3 = m2 := Option.some.inj (hm3.symm.trans hm)
      exact ⟨hk.1, hl, hk.2, ck_R_ok h1.2 hm⟩
    · have hb : b = 3 := hb
      have h0 := (if_neg (by show ¬ b = 8; omega)).symm.trans h
      have h0 := (if_neg (by show ¬ b = 2; omega)).symm.trans h0
      have h1 := (if_pos hb).symm.trans h0
      rw [Bool.and_eq_true] at h1
      obtain ⟨m3, hm3, hk, hl⟩ := lkN_ok _ (of_decide_eq_true h1.1)
      obtain rfl : m3 = m2 := Option.some.inj (hm3.symm.trans hm)
      exact ⟨hk.1, hl, hk.2, ck_R_ok h1.2 hm⟩
  | _ => exact trivial
def ck_E (m : pm_M) (pc : Nat) (e : Option pm_E) : Bool := match e with
  | some e => ck_D m pc e.1 && ck_L m pc e
  | none => true
def ck_ch (m : pm_M) : List (Option pm_E) → Nat → Bool
  | [], _ => true
  | e :: r, pc => ck_E m pc e && ck_ch m r (pc + 1)
def ck_t (m : pm_M) : List (List (Option pm_E)) → Nat → Bool
  | [], _ => true
  | ch :: r, q => ck_ch m ch (16 * q) && ck_t m r (q + 1)
theorem ck_ch_ok {m : pm_M} : ∀ (ch : List (Option pm_E)) (pc j : Nat) (e : pm_E), ck_ch m ch pc = true → ch[j]? = some (some e) → ck_E m (pc + j) (some e) = true
  | [], _, _, _, _, h => by simp at h
  | e0 :: r, pc, j, e, hc, h => by
    have h1 : ck_E m pc e0 = true ∧ ck_ch m r (pc + 1) = true := by rw [← Bool.and_eq_true]; exact hc
    cases j with
    | zero => cases h; exact h1.1
    | succ j =>
      rw [show pc + (j + 1) = pc + 1 + j by omega]
      exact ck_ch_ok r (pc + 1) j e h1.2 h
theorem ck_t_ok {m : pm_M} : ∀ (t : List (List (Option pm_E))) (q j : Nat) (ch : List (Option pm_E)), ck_t m t q = true → t[j]? = some ch → ck_ch m ch (16 * (q + j)) = true
  | [], _, _, _, _, h => by simp at h
  | c0 :: r, q, j, ch, hc, h => by
    have h1 : ck_ch m c0 (16 * q) = true ∧ ck_t m r (q + 1) = true := by rw [← Bool.and_eq_true]; exact hc
    cases j with
    | zero => cases h; exact h1.1
    | succ j =>
      rw [show q + (j + 1) = q + 1 + j by omega]
      exact ck_t_ok r (q + 1) j ch h1.2 h
theorem ck_ok {m : pm_M} (h : ck_t m (pm_t m) 0 = true) (pc : Nat) (e : pm_E) (he : pm_at m pc = some e) : pm_okD m pc e.1 ∧ pm_okL pm_m m pc e := by
  unfold pm_at at he
  split at he
  · cases he
  · rename_i ch hch
    split at he
    · rename_i e1 he1
      cases he
      have h1 := ck_ch_ok ch _ _ e (ck_t_ok (pm_t m) 0 (pc / 16) ch h hch) he1
      rw [show 16 * (0 + pc / 16) + pc % 16 = pc by omega] at h1
      have h2 : ck_D m pc e.1 = true ∧ ck_L m pc e = true := by rw [← Bool.and_eq_true]; exact h1
      exact ⟨ck_D_ok h2.1, ck_L_ok h2.2⟩
    · cases he
def ck_P (m : pm_M) : Prop := plainFor (pm_y m) = true ∧ kN (pm_o m) = (pm_y m).cls ∧ ck_t m (pm_t m) 0 = true
