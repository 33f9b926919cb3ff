/-! NUMBERS of the text. The tokens depend on the bytes told alone. -/
theorem t_sk_c {b b' : Nat → Int32} {s : Nat} (h : ∀ j, j < s → b j = b' j) : ∀ k p, p + k ≤ s → t_sk b k p = t_sk b' k p
  | 0, _, _ => rfl
  | k + 1, p, hp => by rw [t_sk, t_sk, h p (by omega), t_sk_c h k (p + 1) (by omega)]
theorem t_ru_c {b b' : Nat → Int32} {s : Nat} {kd : Int32} (h : ∀ j, j < s → b j = b' j) : ∀ k p, p + k ≤ s → t_ru b kd k p = t_ru b' kd k p
  | 0, _, _ => rfl
  | k + 1, p, hp => by rw [t_ru, t_ru, h p (by omega), t_ru_c h k (p + 1) (by omega)]
theorem t_vl_c {b b' : Nat → Int32} {s : Nat} (h : ∀ j, j < s → b j = b' j) : ∀ k i a, i + k ≤ s → t_vl b k i a = t_vl b' k i a
  | 0, _, _, _ => rfl
  | k + 1, i, a, hp => by rw [t_vl, t_vl, h i (by omega), t_vl_c h k (i + 1) _ (by omega)]
theorem t_fi_c {b b' : Nat → Int32} {s p : Nat} (h : ∀ j, j < s → b j = b' j) (hp : p ≤ s) : t_fi b s p = t_fi b' s p := t_sk_c h (s - p) p (by omega)
theorem t_k0_c {b b' : Nat → Int32} {s p : Nat} (h : ∀ j, j < s → b j = b' j) (hp : p ≤ s) : t_k0 b s p = t_k0 b' s p := by
  unfold t_k0
  rw [t_fi_c h hp]
  by_cases e : s ≤ t_fi b' s p
  · rw [if_pos e, if_pos e]
  · rw [if_neg e, if_neg e, h _ (by omega)]
theorem t_pl_c {b b' : Nat → Int32} {s p : Nat} (h : ∀ j, j < s → b j = b' j) (hp : p ≤ s) : t_pl b s p = t_pl b' s p := by
  unfold t_pl
  rw [t_k0_c h hp, t_fi_c h hp]
  by_cases e : s ≤ t_fi b' s p
  · rw [if_pos e, if_pos e]
  · rw [if_neg e, if_neg e, t_ru_c h _ _ (by omega), t_ru_c h _ _ (by omega)]
theorem t_ki_c {b b' : Nat → Int32} {s p : Nat} (h : ∀ j, j < s → b j = b' j) (hp : p ≤ s) : t_ki b s p = t_ki b' s p := by
  unfold t_ki
  rw [t_k0_c h hp, t_pl_c h hp, t_fi_c h hp]
theorem t_va_c {b b' : Nat → Int32} {s p : Nat} (h : ∀ j, j < s → b j = b' j) (hp : p ≤ s) : t_va b s p = t_va b' s p := by
  unfold t_va
  rw [t_pl_c h hp, t_fi_c h hp]
  have := t_pl_b (b := b') hp
  exact t_vl_c h _ _ _ (by omega)
theorem t_eq_c {b b' : Nat → Int32} {s : Nat} (h : ∀ j, j < s → b j = b' j) : ∀ n f, f + n.length ≤ s → t_eq b f n = t_eq b' f n
  | [], _, _ => rfl
  | c :: r, f, hf => by
    have hf' : f + (r.length + 1) ≤ s := hf
    rw [t_eq, t_eq, h f (by omega), t_eq_c h r (f + 1) (by omega)]
theorem t_is_c {b b' : Nat → Int32} {s f l : Nat} {n : List Int32} (h : ∀ j, j < s → b j = b' j) (hf : f + l ≤ s) : t_is b f l n = t_is b' f l n := by
  unfold t_is
  by_cases e : l = n.length
  · rw [if_pos e, if_pos e]
    exact t_eq_c h n f (by omega)
  · rw [if_neg e, if_neg e]
theorem t_ln_c {b b' : Nat → Int32} {s f l : Nat} (h : ∀ j, j < s → b j = b' j) (hf : f + l ≤ s) : t_ln b f l = t_ln b' f l := by
  unfold t_ln
  simp only [fun n => t_is_c (n := n) h hf]
/-- the fault of a token that is not of kind k; of a number out of lo .. hi -/
def t_et (b : Nat → Int32) (s p : Nat) (k : Int32) : Int32 := if t_ki b s p = k then 0 else if t_ki b s p = 0 then 1 else 2
def t_er (b : Nat → Int32) (s p : Nat) (lo hi : Int32) : Int32 := if t_ki b s p = 2 then (if t_va b s p < lo then 3 else if hi < t_va b s p then 3 else 0) else if t_ki b s p = 0 then 1 else 2
theorem t_er_et {b : Nat → Int32} {s p : Nat} {lo hi : Int32} (h : ¬ t_et b s p 2 = 0) : t_er b s p lo hi = t_et b s p 2 := by
  unfold t_er t_et at *
  by_cases e : t_ki b s p = 2
  · rw [if_pos e] at h
    exact absurd rfl h
  · rw [if_neg e, if_neg e]
theorem t_et_0 {b : Nat → Int32} {s p : Nat} {k : Int32} : t_et b s p k = 0 ↔ t_ki b s p = k := by
  unfold t_et
  by_cases e : t_ki b s p = k
  · rw [if_pos e]
    exact ⟨fun _ => e, fun _ => rfl⟩
  · rw [if_neg e]
    refine ⟨fun z => ?_, fun z => absurd z e⟩
    split at z <;> exact absurd z (by decide)
/-- the place is on the tape -/
def k_pl (g : qM) : Prop := ∃ s p, g 9 1 = Int32.ofNat s ∧ s ≤ 160 ∧ g 9 5 = Int32.ofNat p ∧ p ≤ s
theorem k_pl.up {g : qM} (h : k_pl g) {a j : Nat} {x : Int32} (ha : 11 ≤ a) : k_pl (q_up g a j x) := by
  obtain ⟨s, p, h1, h2, h3, h4⟩ := h
  exact ⟨s, p, by rw [q_up_ne (by omega)]; exact h1, h2, by rw [q_up_ne (by omega)]; exact h3, h4⟩
/-- what taking tokens writes: the token, the fault -/
def k_f9 (g g' : qM) : Prop := (∀ a, a ≠ 9 → a ≠ 11 → g' a = g a) ∧ (∀ j, j < 2 → g' 9 j = g 9 j) ∧ (∀ j, j ≠ 2 → j ≠ 3 → g' 11 j = g 11 j) ∧ (k_pl g → k_pl g')
theorem k_f9_rfl (g : qM) : k_f9 g g := ⟨fun _ _ _ => rfl, fun _ _ => rfl, fun _ _ _ => rfl, id⟩
theorem k_f9.trans {a b c : qM} (h1 : k_f9 a b) (h2 : k_f9 b c) : k_f9 a c := ⟨fun x h h' => (h2.1 x h h').trans (h1.1 x h h'), fun x h => (h2.2.1 x h).trans (h1.2.1 x h), fun x h h' => (h2.2.2.1 x h h').trans (h1.2.2.1 x h h'), fun z => h2.2.2.2 (h1.2.2.2 z)⟩
theorem k_f9_9 (k f v p : Int32) (g : qM) (hp : k_pl g → k_pl (s_9 k f v p g)) : k_f9 g (s_9 k f v p g) := by
  refine ⟨fun a h _ => s_9_o h, fun j h => ?_, fun j _ _ => ?_, hp⟩
  · unfold s_9
    rw [if_pos rfl, if_neg (by omega), if_neg (by omega), if_neg (by omega), if_neg (by omega)]
  · rw [s_9_o (by decide)]
theorem k_f9.up {g g' : qM} (h : k_f9 g g') {j : Nat} {x : Int32} (hj : j = 2 ∨ j = 3) : k_f9 g (q_up g' 11 j x) := by
  refine ⟨fun a h1 h2 => ?_, fun i hi => ?_, fun i h2 h3 => ?_, fun z => (h.2.2.2 z).up (by omega)⟩
  · rw [q_up_ne h2]
    exact h.1 a h1 h2
  · rw [q_up_ne (by decide)]
    exact h.2.1 i hi
  · rw [q_up_eq, if_neg (by omega)]
    exact h.2.2.1 i h2 h3
theorem sg_nb_1 (big : Nat → List Value → qM → qW → qR) (n0 : Nat) (G : qM) (U : qW) (v0 : Int32) : qm_run pm_m big m_25 (n0 + 2) 0 [(0, .ref 11), (1, .int v0)] [] G U = qm_run pm_m big m_25 n0 4 [(0, .ref 11), (1, .int v0)] [.int (G 11 2)] G U := rfl
theorem sg_nb_2 (big : Nat → List Value → qM → qW → qR) (n0 : Nat) (G : qM) (U : qW) (v0 : Int32) : qm_run pm_m big m_25 (n0 + 2) 9 [(0, .ref 11), (1, .int v0)] [] G U = qm_run pm_m big m_25 n0 13 [(0, .ref 11), (1, .int v0)] [.ref 9] G U := rfl
theorem sg_nb_3 (big : Nat → List Value → qM → qW → qR) (n0 : Nat) (G : qM) (U : qW) (v0 : Int32) : qm_run pm_m big m_25 (n0 + 4) 16 [(0, .ref 11), (1, .int v0)] [] G U = qm_run pm_m big m_25 n0 24 [(0, .ref 11), (1, .int v0)] [.int v0, .int (G 9 2)] G U := rfl
theorem sg_nb_4 (big : Nat → List Value → qM → qW → qR) (n0 : Nat) (G : qM) (U : qW) (v0 : Int32) : qm_run pm_m big m_25 (n0 + 4) 29 [(0, .ref 11), (1, .int v0)] [] G U = qm_run pm_m big m_25 n0 37 [(0, .ref 11), (1, .int v0)] [.int (G 9 2), .ref 11] G U := rfl
theorem sg_nb_5 (big : Nat → List Value → qM → qW → qR) (n0 : Nat) (G : qM) (U : qW) (v0 : Int32) : qm_run pm_m big m_25 (n0 + 5) 40 [(0, .ref 11), (1, .int v0)] [.ref 11] G U = qm_run pm_m big m_25 n0 52 [(0, .ref 11), (1, .int v0)] [.int (G 9 3), .int (1 : Int32), .ref 11] G U := rfl
theorem sg_nb_6 (big : Nat → List Value → qM → qW → qR) (n0 : Nat) (G : qM) (U : qW) (v0 : Int32) : qm_run pm_m big m_25 (n0 + 4) 44 [(0, .ref 11), (1, .int v0)] [.ref 11] G U = qm_run pm_m big m_25 n0 52 [(0, .ref 11), (1, .int v0)] [.int (G 9 3), .int (2 : Int32), .ref 11] G U := rfl
theorem sg_nb_7 (big : Nat → List Value → qM → qW → qR) (n0 : Nat) (G : qM) (U : qW) (v0 : Int32) (v1 : Int32) : qm_run pm_m big m_24 (n0 + 2) 0 [(0, .ref 11), (1, .int v0), (2, .int v1)] [] G U = qm_run pm_m big m_24 n0 2 [(0, .ref 11), (1, .int v0), (2, .int v1)] [.int (2 : Int32), .ref 11] G U := rfl
theorem sg_nb_8 (big : Nat → List Value → qM → qW → qR) (n0 : Nat) (G : qM) (U : qW) (v0 : Int32) (v1 : Int32) : qm_run pm_m big m_24 (n0 + 4) 10 [(0, .ref 11), (1, .int v0), (2, .int v1)] [] G U = qm_run pm_m big m_24 n0 18 [(0, .ref 11), (1, .int v0), (2, .int v1)] [.int v0, .int (G 9 4)] G U := rfl
theorem sg_nb_9 (big : Nat → List Value → qM → qW → qR) (n0 : Nat) (G : qM) (U : qW) (v0 : Int32) (v1 : Int32) : qm_run pm_m big m_24 (n0 + 5) 32 [(0, .ref 11), (1, .int v0), (2, .int v1)] [] G U = qm_run pm_m big m_24 n0 41 [(0, .ref 11), (1, .int v0), (2, .int v1)] [.int (G 9 3), .int (3 : Int32), .ref 11] G U := rfl
theorem sg_nb_10 (big : Nat → List Value → qM → qW → qR) (n0 : Nat) (G : qM) (U : qW) (v0 : Int32) (v1 : Int32) : qm_run pm_m big m_24 (n0 + 4) 21 [(0, .ref 11), (1, .int v0), (2, .int v1)] [] G U = qm_run pm_m big m_24 n0 29 [(0, .ref 11), (1, .int v0), (2, .int v1)] [.int v1, .int (G 9 4)] G U := rfl
theorem b_refuse (w a : Int32) (g : qM) (u : qW) : q_BS 20 [.ref 11, .int w, .int a] g u (none, q_up (q_up g 11 2 w) 11 3 a, u) := by
  refine q_bx (mm := m_20) rfl (Nat.le_of_ble_eq_true rfl) rfl ?_
  refine q_ret 7 (none, (q_up (q_up g 11 2 w) 11 3 a), u) (fun _ _ => rfl) ?_
  rfl
theorem c_tok {s p : Nat} (g : qM) (u : qW) (hs : g 9 1 = Int32.ofNat s) (h160 : s ≤ 160) (hp5 : g 9 5 = Int32.ofNat p) (hp : p ≤ s) (h2 : g 11 2 = 0) (k : Int32) : ∃ R, q_BS 25 [.ref 11, .int k] g u R ∧ ∃ g', R = (some (.int (if (t_et (g 10) s p k) = 0 then 1 else 0)), g', u) ∧ k_f9 g g' ∧ g' 9 2 = (t_ki (g 10) s p) ∧ g' 9 3 = Int32.ofNat (t_fi (g 10) s p) ∧ g' 9 5 = Int32.ofNat (t_pl (g 10) s p) ∧ ((t_ki (g 10) s p) = 2 → g' 9 4 = t_va (g 10) s p) ∧ g' 11 2 = (t_et (g 10) s p k) ∧ (¬ (t_et (g 10) s p k) = 0 → g' 11 3 = Int32.ofNat (t_fi (g 10) s p)) := by
  refine q_bs (mm := m_25) rfl (Nat.le_of_ble_eq_true rfl) rfl ?_
  refine q_step 2 4 [(0, .ref 11), (1, .int k)] [.int (g 11 2)] g u (fun big n0 => sg_nb_1 big n0 g u k) ?_
  refine q_if_eq rfl (fun (hc0 : (g 11 2) = 0) => ?_) (fun hc0 => absurd (show (g 11 2) = 0 from h2) hc0)
  refine q_step 2 13 [(0, .ref 11), (1, .int k)] [.ref 9] g u (fun big n0 => sg_nb_2 big n0 g u k) ?_
  obtain ⟨_, hq, k1, v1, rfl, hk, hv⟩ := c_next g u hs h160 hp5 hp
  refine q_call (M2 := 16) (rest := []) (hq) (fun _ _ => rfl) ?_
  refine q_step 4 24 [(0, .ref 11), (1, .int k)] [.int k, .int k1] (s_9 k1 (Int32.ofNat (t_fi (g 10) s p)) v1 (Int32.ofNat (t_pl (g 10) s p)) g) u (fun big n0 => sg_nb_3 big n0 (s_9 k1 (Int32.ofNat (t_fi (g 10) s p)) v1 (Int32.ofNat (t_pl (g 10) s p)) g) u k) ?_
  refine q_ic_ne rfl (fun (hc1 : k1 = k) => ?_) (fun (hc1 : ¬ (k1 = k)) => ?_)
  · refine q_ret 2 (some (.int (1 : Int32)), (s_9 k1 (Int32.ofNat (t_fi (g 10) s p)) v1 (Int32.ofNat (t_pl (g 10) s p)) g), u) (fun _ _ => rfl) ?_
    have e0 : (t_et (g 10) s p k) = 0 := t_et_0.mpr (hk.symm.trans hc1)
    rw [if_pos e0]
    exact ⟨_, rfl, k_f9_9 _ _ _ _ g (fun _ => ⟨s, t_pl (g 10) s p, hs, h160, rfl, (t_pl_b hp).2.1⟩), hk, rfl, rfl, hv, h2.trans e0.symm, fun z => absurd e0 z⟩
  · refine q_step 4 37 [(0, .ref 11), (1, .int k)] [.int k1, .ref 11] (s_9 k1 (Int32.ofNat (t_fi (g 10) s p)) v1 (Int32.ofNat (t_pl (g 10) s p)) g) u (fun big n0 => sg_nb_4 big n0 (s_9 k1 (Int32.ofNat (t_fi (g 10) s p)) v1 (Int32.ofNat (t_pl (g 10) s p)) g) u k) ?_
    refine q_if_ne rfl (fun (hc2 : k1 = 0) => ?_) (fun (hc2 : ¬ (k1 = 0)) => ?_)
    · refine q_step 5 52 [(0, .ref 11), (1, .int k)] [.int (Int32.ofNat (t_fi (g 10) s p)), .int (1 : Int32), .ref 11] (s_9 k1 (Int32.ofNat (t_fi (g 10) s p)) v1 (Int32.ofNat (t_pl (g 10) s p)) g) u (fun big n0 => sg_nb_5 big n0 (s_9 k1 (Int32.ofNat (t_fi (g 10) s p)) v1 (Int32.ofNat (t_pl (g 10) s p)) g) u k) ?_
      refine q_call (M2 := 20) (rest := []) (b_refuse _ _ _ _) (fun _ _ => rfl) ?_
      refine q_ret 2 (some (.int (0 : Int32)), (q_up (q_up (s_9 k1 (Int32.ofNat (t_fi (g 10) s p)) v1 (Int32.ofNat (t_pl (g 10) s p)) g) 11 2 (1 : Int32)) 11 3 (Int32.ofNat (t_fi (g 10) s p))), u) (fun _ _ => rfl) ?_
      have e0 : ¬ (t_et (g 10) s p k) = 0 := fun z => hc1 (hk.trans (t_et_0.mp z))
      have e1 : (t_et (g 10) s p k) = 1 := by unfold t_et; rw [if_neg (fun z => hc1 (hk.trans z)), if_pos (hk ▸ hc2)]
      rw [if_neg e0]
      exact ⟨_, rfl, ((k_f9_9 _ _ _ _ g (fun _ => ⟨s, t_pl (g 10) s p, hs, h160, rfl, (t_pl_b hp).2.1⟩)).up (Or.inl rfl)).up (Or.inr rfl), hk, rfl, rfl, hv, e1.symm, fun _ => rfl⟩
    · refine q_step 4 52 [(0, .ref 11), (1, .int k)] [.int (Int32.ofNat (t_fi (g 10) s p)), .int (2 : Int32), .ref 11] (s_9 k1 (Int32.ofNat (t_fi (g 10) s p)) v1 (Int32.ofNat (t_pl (g 10) s p)) g) u (fun big n0 => sg_nb_6 big n0 (s_9 k1 (Int32.ofNat (t_fi (g 10) s p)) v1 (Int32.ofNat (t_pl (g 10) s p)) g) u k) ?_
      refine q_call (M2 := 20) (rest := []) (b_refuse _ _ _ _) (fun _ _ => rfl) ?_
      refine q_ret 2 (some (.int (0 : Int32)), (q_up (q_up (s_9 k1 (Int32.ofNat (t_fi (g 10) s p)) v1 (Int32.ofNat (t_pl (g 10) s p)) g) 11 2 (2 : Int32)) 11 3 (Int32.ofNat (t_fi (g 10) s p))), u) (fun _ _ => rfl) ?_
      have e0 : ¬ (t_et (g 10) s p k) = 0 := fun z => hc1 (hk.trans (t_et_0.mp z))
      have e1 : (t_et (g 10) s p k) = 2 := by unfold t_et; rw [if_neg (fun z => hc1 (hk.trans z)), if_neg (hk ▸ hc2)]
      rw [if_neg e0]
      exact ⟨_, rfl, ((k_f9_9 _ _ _ _ g (fun _ => ⟨s, t_pl (g 10) s p, hs, h160, rfl, (t_pl_b hp).2.1⟩)).up (Or.inl rfl)).up (Or.inr rfl), hk, rfl, rfl, hv, e1.symm, fun _ => rfl⟩
theorem c_tokf (k : Int32) (g : qM) (u : qW) (h2 : ¬ g 11 2 = 0) : q_BS 25 [.ref 11, .int k] g u (some (.int 0), g, u) := by
  refine q_bx (mm := m_25) rfl (Nat.le_of_ble_eq_true rfl) rfl ?_
  refine q_step 2 4 [(0, .ref 11), (1, .int k)] [.int (g 11 2)] g u (fun big n0 => sg_nb_1 big n0 g u k) ?_
  refine q_if_eq rfl (fun hc0 => absurd (show (g 11 2) = 0 from hc0) (h2)) (fun (hc0 : ¬ ((g 11 2) = 0)) => ?_)
  refine q_ret 2 (some (.int (0 : Int32)), g, u) (fun _ _ => rfl) ?_
  rfl
theorem c_num {s p : Nat} (g : qM) (u : qW) (hs : g 9 1 = Int32.ofNat s) (h160 : s ≤ 160) (hp5 : g 9 5 = Int32.ofNat p) (hp : p ≤ s) (h2 : g 11 2 = 0) (lo hi : Int32) : ∃ R, q_BS 24 [.ref 11, .int lo, .int hi] g u R ∧ ∃ g', R = (some (.int (if (t_er (g 10) s p lo hi) = 0 then t_va (g 10) s p else 0)), g', u) ∧ k_f9 g g' ∧ g' 9 3 = Int32.ofNat (t_fi (g 10) s p) ∧ g' 9 5 = Int32.ofNat (t_pl (g 10) s p) ∧ g' 11 2 = (t_er (g 10) s p lo hi) ∧ (¬ (t_er (g 10) s p lo hi) = 0 → g' 11 3 = Int32.ofNat (t_fi (g 10) s p)) := by
  refine q_bs (mm := m_24) rfl (Nat.le_of_ble_eq_true rfl) rfl ?_
  refine q_step 2 2 [(0, .ref 11), (1, .int lo), (2, .int hi)] [.int (2 : Int32), .ref 11] g u (fun big n0 => sg_nb_7 big n0 g u lo hi) ?_
  obtain ⟨_, hq, g1, rfl, hf9, h92, h93, h95, h94, h112, h113⟩ := c_tok g u hs h160 hp5 hp h2 2
  refine q_call (M2 := 25) (rest := []) (hq) (fun _ _ => rfl) ?_
  refine q_if_ne rfl (fun (hc0 : (if t_et (g 10) s p 2 = 0 then 1 else 0) = 0) => ?_) (fun (hc0 : ¬ ((if t_et (g 10) s p 2 = 0 then 1 else 0) = 0)) => ?_)
  · refine q_ret 2 (some (.int (0 : Int32)), g1, u) (fun _ _ => rfl) ?_
    have e : ¬ t_et (g 10) s p 2 = 0 := fun z => absurd ((if_pos z).symm.trans hc0) (by decide)
    rw [t_er_et e, if_neg e]
    exact ⟨_, rfl, hf9, h93, h95, h112, h113⟩
  · refine q_step 4 18 [(0, .ref 11), (1, .int lo), (2, .int hi)] [.int lo, .int (g1 9 4)] g1 u (fun big n0 => sg_nb_8 big n0 g1 u lo hi) ?_
    refine q_ic_lt rfl (fun (hc1 : (g1 9 4) < lo) => ?_) (fun (hc1 : ¬ ((g1 9 4) < lo)) => ?_)
    · refine q_step 5 41 [(0, .ref 11), (1, .int lo), (2, .int hi)] [.int (g1 9 3), .int (3 : Int32), .ref 11] g1 u (fun big n0 => sg_nb_9 big n0 g1 u lo hi) ?_
      refine q_call (M2 := 20) (rest := []) (b_refuse _ _ _ _) (fun _ _ => rfl) ?_
      refine q_ret 2 (some (.int (0 : Int32)), (q_up (q_up g1 11 2 (3 : Int32)) 11 3 (g1 9 3)), u) (fun _ _ => rfl) ?_
      have e : t_et (g 10) s p 2 = 0 := Classical.byContradiction (fun z => hc0 (if_neg z))
      have ek := t_et_0.mp e
      have e4 := h94 ek
      have er : (t_er (g 10) s p lo hi) = 3 := by unfold t_er; rw [if_pos ek, if_pos (e4 ▸ hc1)]
      rw [er, if_neg (by decide)]
      exact ⟨_, rfl, (hf9.up (Or.inl rfl)).up (Or.inr rfl), h93, h95, rfl, fun _ => h93⟩
    · refine q_step 4 29 [(0, .ref 11), (1, .int lo), (2, .int hi)] [.int hi, .int (g1 9 4)] g1 u (fun big n0 => sg_nb_10 big n0 g1 u lo hi) ?_
      refine q_ic_le rfl (fun (hc2 : (g1 9 4) ≤ hi) => ?_) (fun (hc2 : ¬ ((g1 9 4) ≤ hi)) => ?_)
      · refine q_ret 4 (some (.int (g1 9 4)), g1, u) (fun _ _ => rfl) ?_
        have e : t_et (g 10) s p 2 = 0 := Classical.byContradiction (fun z => hc0 (if_neg z))
        have ek := t_et_0.mp e
        have e4 := h94 ek
        have er : (t_er (g 10) s p lo hi) = 0 := by
          unfold t_er
          rw [if_pos ek, if_neg (e4 ▸ hc1), if_neg (fun z => absurd (e4 ▸ hc2) (Int32.not_le.mpr z))]
        rw [er, if_pos rfl, e4]
        exact ⟨_, rfl, hf9, h93, h95, h112.trans e, fun z => absurd rfl z⟩
      · refine q_step 5 41 [(0, .ref 11), (1, .int lo), (2, .int hi)] [.int (g1 9 3), .int (3 : Int32), .ref 11] g1 u (fun big n0 => sg_nb_9 big n0 g1 u lo hi) ?_
        refine q_call (M2 := 20) (rest := []) (b_refuse _ _ _ _) (fun _ _ => rfl) ?_
        refine q_ret 2 (some (.int (0 : Int32)), (q_up (q_up g1 11 2 (3 : Int32)) 11 3 (g1 9 3)), u) (fun _ _ => rfl) ?_
        have e : t_et (g 10) s p 2 = 0 := Classical.byContradiction (fun z => hc0 (if_neg z))
        have ek := t_et_0.mp e
        have e4 := h94 ek
        have er : (t_er (g 10) s p lo hi) = 3 := by
          unfold t_er
          rw [if_pos ek, if_neg (e4 ▸ hc1), if_pos (Int32.not_le.mp (e4 ▸ hc2))]
        rw [er, if_neg (by decide)]
        exact ⟨_, rfl, (hf9.up (Or.inl rfl)).up (Or.inr rfl), h93, h95, rfl, fun _ => h93⟩
theorem c_numf (lo hi : Int32) (g : qM) (u : qW) (h2 : ¬ g 11 2 = 0) : q_BS 24 [.ref 11, .int lo, .int hi] g u (some (.int 0), g, u) := by
  refine q_bx (mm := m_24) rfl (Nat.le_of_ble_eq_true rfl) rfl ?_
  refine q_step 2 2 [(0, .ref 11), (1, .int lo), (2, .int hi)] [.int (2 : Int32), .ref 11] g u (fun big n0 => sg_nb_7 big n0 g u lo hi) ?_
  refine q_call (M2 := 25) (rest := []) (c_tokf _ _ _ h2) (fun _ _ => rfl) ?_
  refine q_ret 3 (some (.int (0 : Int32)), g, u) (fun _ _ => rfl) ?_
  rfl
