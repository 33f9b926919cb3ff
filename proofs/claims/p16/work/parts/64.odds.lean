/-! ODDS: rows of moods told by a function. -/
def gh_row (n : Nat) (f : Nat → Int32) (r : qM) : qM := s_row_ 76 f n r
theorem w_ok_row {n W H : Nat} {f : Nat → Int32} {r : qM} (hf : ∀ p, p < n → f p = 0 ∨ f p = 1 ∨ f p = 2 ∨ f p = 3) (h : w_ok n W H r) : w_ok n W H (gh_row n f r) := by
  obtain ⟨b, h1, h2, h3, h4, h5, h6, h7, h8⟩ := h
  refine ⟨b, h1, h2, h3, h4, h5, h6, fun p hp => ?_, h8⟩
  show (if p < n then f p else r 76 p) = 0 ∨ (if p < n then f p else r 76 p) = 1 ∨ (if p < n then f p else r 76 p) = 2 ∨ (if p < n then f p else r 76 p) = 3
  rw [if_pos hp]
  exact hf p hp
theorem w_cs_row {n : Nat} {f f' : Nat → Int32} {g r : qM} (hff : ∀ p, p < n → f' p = f p) (hc : w_cs 35 n g r) : w_cs 35 n (s_row_ 37 f' n g) (gh_row n f r) := by
  obtain ⟨c1, c6, c7⟩ := hc
  refine ⟨c1, fun d a b => c6 d a b, fun p hp => ⟨(c7 p hp).1, ?_, (c7 p hp).2.2⟩⟩
  show (if p < n then f' p else g 37 p) = (if p < n then f p else r 76 p)
  rw [if_pos hp, if_pos hp, hff p hp]
theorem w_sm_row {n : Nat} {f f' : Nat → Int32} {g r : qM} (hff : ∀ p, p < n → f' p = f p) (hs : w_sm n g r) : w_sm n (s_row_ 76 f' n g) (gh_row n f r) := by
  obtain ⟨c1, c6, c7⟩ := hs
  refine ⟨c1, fun d a b => c6 d a b, fun p hp => ⟨(c7 p hp).1, ?_, (c7 p hp).2.2⟩⟩
  show (if p < n then f' p else g 76 p) = (if p < n then f p else r 76 p)
  rw [if_pos hp, if_pos hp, hff p hp]
def s_rfm (f : Nat → Int32) (n : Nat) (g : qM) : qM := s_row_ 37 f n (s_cpl 35 20 g)
def s_rfg (f : Nat → Int32) (n t : Nat) (g : qM) : qM := q_up (s_tss 35 n t (s_rfm f n g)) 35 5 (s_rfm f n g 35 5 + Int32.ofNat t)
theorem s_rfm_fc {f : Nat → Int32} {n : Nat} {g : qM} : w_fc g (s_rfm f n g) := w_fc.trans w_cpl_fc (fun b hb => s_row_o (by omega))
theorem s_rfg_fc {f : Nat → Int32} {n t : Nat} {g : qM} : w_fc g (s_rfg f n t g) := w_fc.up (w_fc.trans s_rfm_fc (s_tss_35 t _)) (by omega)
theorem s_rfm_tr {f : Nat → Int32} {n : Nat} {g r : qM} (h : w_tr n g r) : w_tr n (s_rfm f n g) r := w_tr_cg (w_tr_cpl h) (fun j _ => by unfold s_rfm; rw [s_row_o (by omega)]) (by unfold s_rfm; exact s_row_o (by omega)) (by unfold s_rfm; exact s_row_o (by omega))
theorem s_rfg_tr {f : Nat → Int32} {n t : Nat} {g r : qM} (h : w_tr n g r) : w_tr n (s_rfg f n t g) r := w_tr_up (w_tr_tss t (s_rfm f n g) (s_rfm_tr h))
theorem s_rfg_go {f : Nat → Int32} {n t : Nat} {g : qM} : s_rfg f n t g 39 = g 39 := by
  have e2 : s_rfm f n g 39 = g 39 := by
    unfold s_rfm
    rw [s_row_o (by omega), s_cpl_o (by omega)]
  unfold s_rfg
  rw [q_up_ne (by omega)]
  exact (s_tss_go (T := 35) (Or.inr rfl) t (s_rfm f n g)).trans e2
theorem s_row_k {A i : Nat} {f : Nat → Int32} {g : qM} (h : f i = g A i) : s_row_ A f (i + 1) g = s_row_ A f i g := by
  funext a j
  unfold s_row_
  by_cases ha : a = A
  · subst ha
    rw [if_pos rfl, if_pos rfl]
    by_cases e : j = i
    · subst e
      rw [if_pos (by omega), if_neg (by omega), h]
    · by_cases l : j < i
      · rw [if_pos (by omega), if_pos l]
      · rw [if_neg (by omega), if_neg l]
  · rw [if_neg ha, if_neg ha]
theorem s_row_r {A i : Nat} {f : Nat → Int32} {g : qM} : s_row_ A f i g A i = g A i := by
  unfold s_row_
  rw [if_pos rfl, if_neg (by omega)]
theorem s_row_cg {A i : Nat} {f f' : Nat → Int32} {g : qM} (h : ∀ p, p < i → f p = f' p) : s_row_ A f i g = s_row_ A f' i g := by
  funext a j
  unfold s_row_
  by_cases ha : a = A
  · rw [if_pos ha, if_pos ha]
    by_cases l : j < i
    · rw [if_pos l, if_pos l, h j l]
    · rw [if_neg l, if_neg l]
  · rw [if_neg ha, if_neg ha]
/-! numbers: sums, products -/
def n_pr (f : Nat → Nat) : Nat → Nat → Nat → Nat
  | 0, _, a => a
  | k + 1, i, a => n_pr f k (i + 1) (a * f i)
def n_su (f : Nat → Nat) : Nat → Nat → Nat → Nat
  | 0, _, a => a
  | k + 1, i, a => n_su f k (i + 1) (a + f i)
theorem n_pr_mul {f : Nat → Nat} : ∀ k i a, n_pr f k i a = a * n_pr f k i 1
  | 0, _, a => (Nat.mul_one a).symm
  | k + 1, i, a => by
    rw [n_pr, n_pr, n_pr_mul k (i + 1) (a * f i), n_pr_mul k (i + 1) (1 * f i), Nat.one_mul, Nat.mul_assoc]
theorem n_pr_app {f : Nat → Nat} : ∀ k i a, n_pr f (k + 1) i a = n_pr f k i a * f (i + k)
  | 0, _, _ => rfl
  | k + 1, i, a => by
    rw [n_pr, n_pr_app k (i + 1) (a * f i), n_pr, show i + 1 + k = i + (k + 1) by omega]
theorem n_su_add {f : Nat → Nat} : ∀ k i a, n_su f k i a = a + n_su f k i 0
  | 0, _, _ => rfl
  | k + 1, i, a => by
    rw [n_su, n_su, n_su_add k (i + 1) (a + f i), n_su_add k (i + 1) (0 + f i), Nat.zero_add, Nat.add_assoc]
theorem n_su_app {f : Nat → Nat} : ∀ k m i, n_su f (k + m) i 0 = n_su f k i 0 + n_su f m (i + k) 0
  | 0, m, i => by rw [Nat.zero_add, Nat.add_zero, n_su, Nat.zero_add]
  | k + 1, m, i => by
    rw [show k + 1 + m = (k + m) + 1 by omega, n_su, n_su_add (k + m) (i + 1) (0 + f i), n_su_app k m (i + 1), n_su, n_su_add k (i + 1) (0 + f i), show i + 1 + k = i + (k + 1) by omega]
    exact (Nat.add_assoc _ _ _).symm
theorem n_su_cg {f f' : Nat → Nat} : ∀ k i j, (∀ x, x < k → f (i + x) = f' (j + x)) → n_su f k i 0 = n_su f' k j 0
  | 0, _, _, _ => rfl
  | k + 1, i, j, h => by
    have h0 := h 0 (by omega)
    rw [Nat.add_zero, Nat.add_zero] at h0
    rw [n_su, n_su, n_su_add, n_su_add k (j + 1), h0, n_su_cg k (i + 1) (j + 1) (fun x hx => by
      have := h (x + 1) (by omega)
      rw [show i + 1 + x = i + (x + 1) by omega, show j + 1 + x = j + (x + 1) by omega]
      exact this)]
theorem n_su_mul {f : Nat → Nat} {c : Nat} : ∀ k i, n_su (fun x => f x * c) k i 0 = n_su f k i 0 * c
  | 0, _ => by rw [n_su, n_su, Nat.zero_mul]
  | k + 1, i => by
    rw [n_su, n_su, n_su_add, n_su_add k (i + 1) (0 + f i), n_su_mul k (i + 1), Nat.zero_add, Nat.zero_add, Nat.add_mul]
theorem n_pr_cg {f f' : Nat → Nat} : ∀ k i a, (∀ j, i ≤ j → j < i + k → f j = f' j) → n_pr f k i a = n_pr f' k i a
  | 0, _, _, _ => rfl
  | k + 1, i, a, h => by
    rw [n_pr, n_pr, h i (Nat.le_refl _) (by omega), n_pr_cg k (i + 1) _ (fun j a b => h j (by omega) (by omega))]
theorem n_pr_le {f : Nat → Nat} : ∀ k i a, (∀ j, f j ≤ 10) → n_pr f k i a ≤ a * 10 ^ k
  | 0, _, a, _ => by rw [n_pr, Nat.pow_zero, Nat.mul_one]; exact Nat.le_refl _
  | k + 1, i, a, h => by
    rw [n_pr]
    refine Nat.le_trans (n_pr_le k (i + 1) (a * f i) h) ?_
    rw [Nat.pow_succ, Nat.mul_comm (10 ^ k) 10, ← Nat.mul_assoc]
    exact Nat.mul_le_mul_right _ (Nat.mul_le_mul_left _ (h i))
theorem n_su_le {f : Nat → Nat} {M : Nat} (h : ∀ j, f j ≤ M) : ∀ k i, n_su f k i 0 ≤ k * M
  | 0, _ => by rw [n_su, Nat.zero_mul]; exact Nat.le_refl _
  | k + 1, i => by
    rw [n_su, n_su_add, Nat.zero_add, Nat.add_mul, Nat.one_mul, Nat.add_comm]
    exact Nat.add_le_add (n_su_le h k (i + 1)) (h i)
/-- bit p of a row -/
def n_bit (row p : Nat) : Bool := Nat.beq (row / 2 ^ p % 2) 1
/-- all settings of the bits below k, each with its weight -/
def n_T (w : Nat → Bool → Nat) (A : (Nat → Bool) → Nat) : Nat → (Nat → Bool) → Nat
  | 0, β => A β
  | k + 1, β => w k false * n_T w A k (fun p => if p = k then false else β p) + w k true * n_T w A k (fun p => if p = k then true else β p)
def n_mix (k row : Nat) (β : Nat → Bool) (p : Nat) : Bool := if p < k then n_bit row p else β p
theorem n_bit_lt {row k : Nat} (h : row < 2 ^ k) : n_bit row k = false := by
  unfold n_bit
  rw [Nat.div_eq_of_lt h]
  rfl
theorem n_bit_hi {row k : Nat} (h : row < 2 ^ k) : n_bit (2 ^ k + row) k = true := by
  unfold n_bit
  have hp : 0 < 2 ^ k := Nat.two_pow_pos k
  rw [Nat.add_comm, show row + 2 ^ k = row + 1 * 2 ^ k by rw [Nat.one_mul], Nat.add_mul_div_right _ _ hp, Nat.div_eq_of_lt h]
  rfl
theorem n_bit_lo {row k p : Nat} (h : p < k) : n_bit (2 ^ k + row) p = n_bit row p := by
  unfold n_bit
  have hp : 0 < 2 ^ p := Nat.two_pow_pos p
  have e : 2 ^ k = 2 * 2 ^ (k - p - 1) * 2 ^ p := by
    rw [Nat.mul_comm 2, Nat.mul_assoc, ← Nat.pow_succ', ← Nat.pow_add]
    congr 1
    omega
  rw [e, Nat.add_comm, Nat.add_mul_div_right _ _ hp, Nat.add_mul_mod_self_left]
theorem n_T_rows {w : Nat → Bool → Nat} {A : (Nat → Bool) → Nat} : ∀ k β, n_su (fun row => n_pr (fun p => w p (n_bit row p)) k 0 1 * A (n_mix k row β)) (2 ^ k) 0 0 = n_T w A k β
  | 0, β => by
    rw [show (2 : Nat) ^ 0 = 0 + 1 from rfl, n_su, n_su, n_pr, n_T, Nat.zero_add, Nat.one_mul]
    congr 1
  | k + 1, β => by
    rw [show (2 : Nat) ^ (k + 1) = 2 ^ k + 2 ^ k by rw [Nat.pow_succ]; omega, n_su_app, n_T, ← n_T_rows k, ← n_T_rows k, Nat.zero_add, Nat.mul_comm (w k false), Nat.mul_comm (w k true), ← n_su_mul, ← n_su_mul]
    congr 1
    · refine n_su_cg (2 ^ k) 0 0 (fun row hr => ?_)
      rw [Nat.zero_add, n_pr_app, Nat.zero_add, n_bit_lt hr]
      rw [Nat.mul_assoc, Nat.mul_comm (w k false), ← Nat.mul_assoc]
      congr 2
      congr 1
      funext p
      unfold n_mix
      by_cases e : p = k
      · subst e
        rw [if_pos (by omega), if_neg (by omega), n_bit_lt hr]
        show false = if p = p then false else β p
        rw [if_pos rfl]
      · by_cases l : p < k
        · rw [if_pos (by omega), if_pos l]
        · rw [if_neg (by omega), if_neg l]
          show β p = if p = k then false else β p
          rw [if_neg e]
    · refine n_su_cg (2 ^ k) (2 ^ k) 0 (fun row hr => ?_)
      rw [Nat.zero_add, n_pr_app, Nat.zero_add, n_bit_hi hr]
      rw [Nat.mul_assoc, Nat.mul_comm (w k true), ← Nat.mul_assoc]
      congr 2
      · exact n_pr_cg k 0 1 (fun j _ hj => by
          show w j (n_bit (2 ^ k + row) j) = w j (n_bit row j)
          rw [n_bit_lo (by omega)])
      · congr 1
        funext p
        unfold n_mix
        by_cases e : p = k
        · subst e
          rw [if_pos (by omega), if_neg (by omega), n_bit_hi hr]
          show true = if p = p then true else β p
          rw [if_pos rfl]
        · by_cases l : p < k
          · rw [if_pos (by omega), if_pos l, n_bit_lo l]
          · rw [if_neg (by omega), if_neg l]
            show β p = if p = k then true else β p
            rw [if_neg e]
theorem n_T_cg {w : Nat → Bool → Nat} {A : (Nat → Bool) → Nat} {z : Nat} (hA : ∀ β b, A (fun p => if p = z then b else β p) = A β) : ∀ k β b, k ≤ z → n_T w A k (fun p => if p = z then b else β p) = n_T w A k β
  | 0, β, b, _ => hA β b
  | k + 1, β, b, hz => by
    have sw : ∀ c : Bool, (fun p => if p = k then c else (fun p => if p = z then b else β p) p) = (fun p => if p = z then b else (fun p => if p = k then c else β p) p) := fun c => by
      funext p
      by_cases e : p = k
      · subst e
        show (if p = p then c else _) = (if p = z then b else (if p = p then c else β p))
        rw [if_pos rfl, if_neg (by omega), if_pos rfl]
      · by_cases e2 : p = z
        · show (if p = k then c else (if p = z then b else β p)) = (if p = z then b else (if p = k then c else β p))
          rw [if_neg e, if_pos e2, if_pos e2]
        · show (if p = k then c else (if p = z then b else β p)) = (if p = z then b else (if p = k then c else β p))
          rw [if_neg e, if_neg e2, if_neg e2, if_neg e]
    rw [n_T, n_T, sw false, sw true, n_T_cg hA k _ b (by omega), n_T_cg hA k _ b (by omega)]
/-- the reference counts those without MOOD ten times: sums as many times as large -/
theorem n_T_ten {wc wr : Nat → Bool → Nat} {A : (Nat → Bool) → Nat} {Z : Nat → Prop} [DecidablePred Z] (hA : ∀ z, Z z → ∀ β b, A (fun p => if p = z then b else β p) = A β) (hz : ∀ z, Z z → wc z false = 1 ∧ wc z true = 0 ∧ wr z false + wr z true = 10) (hn : ∀ z, ¬ Z z → ∀ b, wc z b = wr z b) : ∀ k β, n_T wr A k β = n_pr (fun p => if Z p then 10 else 1) k 0 1 * n_T wc A k β
  | 0, β => by rw [n_T, n_T, n_pr, Nat.one_mul]
  | k + 1, β => by
    have ih := n_T_ten hA hz hn k
    rw [n_pr_app, Nat.zero_add]
    by_cases e : Z k
    · rw [if_pos e]
      obtain ⟨h1, h2, h3⟩ := hz k e
      have a1 := n_T_cg (w := wr) (hA k e) k β true (Nat.le_refl _)
      have a0 := n_T_cg (w := wr) (hA k e) k β false (Nat.le_refl _)
      have c0 := n_T_cg (w := wc) (hA k e) k β false (Nat.le_refl _)
      rw [n_T, n_T, a1, a0, c0, h1, h2, Nat.one_mul, Nat.zero_mul, Nat.add_zero, ← Nat.add_mul, h3, ih β, Nat.mul_comm 10, Nat.mul_assoc, Nat.mul_assoc, Nat.mul_comm 10]
    · rw [if_neg e, Nat.mul_one, n_T, n_T, ih, ih, hn k e false, hn k e true, Nat.mul_add, ← Nat.mul_assoc, ← Nat.mul_assoc, ← Nat.mul_assoc, ← Nat.mul_assoc, Nat.mul_comm (wr k false), Nat.mul_comm (wr k true)]
/-! the bits as the machine has them -/
theorem s_bitn_fin : (List.range 64).all (fun row => (List.range 6).all (fun p => decide (s_bit (Int32.ofNat row) (Int32.ofNat p) = if n_bit row p then 1 else 0))) = true := by decide +kernel
theorem s_bitn {row p : Nat} (hr : row < 64) (hp : p < 6) : s_bit (Int32.ofNat row) (Int32.ofNat p) = if n_bit row p then 1 else 0 := of_decide_eq_true (List.all_eq_true.mp (List.all_eq_true.mp s_bitn_fin row (List.mem_range.mpr hr)) p (List.mem_range.mpr hp))
/-- a MOOD flipped or not -/
def f_flb (r : qM) (β : Nat → Bool) (p : Nat) : Int32 := if β p then s_fo (r 76 p) else r 76 p
def n_oA (n t : Nat) (r : qM) (β : Nat → Bool) : Nat := if f_at n (s_rit n t (gh_row n (f_flb r β) r)) = f_hav n r then 1 else 0
def n_wc (r : qM) (v p : Nat) (b : Bool) : Nat := if r 76 p = 0 then (if b then 0 else 1) else (if b then v else 10 - v)
def n_wr (v : Nat) (b : Bool) : Nat := if b then v else 10 - v
/-- the class's sum and whole; the reference's -/
def n_odc (n v t : Nat) (r : qM) : Nat := n_su (fun row => n_pr (fun p => n_wc r v p (n_bit row p)) n 0 1 * n_oA n t r (n_bit row)) (2 ^ n) 0 0
def n_odr (n v t : Nat) (r : qM) : Nat := n_su (fun row => n_pr (fun p => n_wr v (n_bit row p)) n 0 1 * n_oA n t r (n_bit row)) (2 ^ n) 0 0
def n_whc (n : Nat) (r : qM) : Nat := n_pr (fun p => if r 76 p = 0 then 1 else 10) n 0 1
theorem n_oA_cg {n t : Nat} {r : qM} {β β' : Nat → Bool} (h : ∀ p, p < n → f_flb r β p = f_flb r β' p) : n_oA n t r β = n_oA n t r β' := by
  unfold n_oA gh_row
  rw [s_row_cg (A := 76) (g := r) h]
theorem n_oA_mix {n t : Nat} {r : qM} (row : Nat) (β : Nat → Bool) : n_oA n t r (n_mix n row β) = n_oA n t r (n_bit row) := n_oA_cg (fun p hp => by
  unfold f_flb n_mix
  rw [if_pos hp])
theorem n_od_ten {n v t : Nat} (hv : v ≤ 10) (r : qM) : n_odr n v t r = n_pr (fun p => if r 76 p = 0 then 10 else 1) n 0 1 * n_odc n v t r := by
  have a := n_T_rows (w := fun p b => n_wr v b) (A := n_oA n t r) n (fun _ => false)
  have b := n_T_rows (w := fun p b => n_wc r v p b) (A := n_oA n t r) n (fun _ => false)
  simp only [n_oA_mix] at a b
  unfold n_odr n_odc
  rw [a, b]
  refine n_T_ten (Z := fun p => r 76 p = 0) (fun z hz β b => ?_) (fun z hz => ?_) (fun z hz b => ?_) n (fun _ => false)
  · refine n_oA_cg (fun p hp => ?_)
    unfold f_flb
    by_cases e : p = z
    · subst e
      have h0 : s_fo (r 76 p) = r 76 p := by
        rw [show r 76 p = 0 from hz]
        rfl
      rw [h0]
      split <;> split <;> rfl
    · show (if (if p = z then b else β p) = true then s_fo (r 76 p) else r 76 p) = if β p = true then s_fo (r 76 p) else r 76 p
      rw [if_neg e]
  · refine ⟨?_, ?_, ?_⟩
    · show (if r 76 z = 0 then (if false = true then 0 else 1) else _) = 1
      rw [if_pos hz]
      rfl
    · show (if r 76 z = 0 then (if true = true then 0 else 1) else _) = 0
      rw [if_pos hz]
      rfl
    · show (if false = true then v else 10 - v) + (if true = true then v else 10 - v) = 10
      rw [if_neg (by decide), if_pos rfl]
      omega
  · show (if r 76 z = 0 then _ else (if b = true then v else 10 - v)) = (if b = true then v else 10 - v)
    rw [if_neg hz]
theorem n_wh_ten (n : Nat) (r : qM) : 10 ^ n = n_pr (fun p => if r 76 p = 0 then 10 else 1) n 0 1 * n_whc n r := by
  unfold n_whc
  induction n with
  | zero => rfl
  | succ k ih =>
    rw [n_pr_app, n_pr_app, Nat.zero_add, Nat.pow_succ, ih]
    by_cases e : r 76 k = 0
    · rw [if_pos e, if_pos e, Nat.mul_one]
      rw [Nat.mul_assoc, Nat.mul_assoc, Nat.mul_comm 10]
    · rw [if_neg e, if_neg e, Nat.mul_one, Nat.mul_assoc]
/-! the greatest common divisor -/
def n_eu : Nat → Nat → Nat → Nat
  | 0, a, _ => a
  | k + 1, a, b => if b = 0 then a else n_eu k b (a % b)
theorem n_eu_0 : ∀ k a, n_eu k a 0 = a
  | 0, _ => rfl
  | _ + 1, _ => rfl
theorem n_eu_ok : ∀ j k a b, b < 2 ^ j → 2 * j ≤ k → n_eu k a b = Nat.gcd a b
  | 0, k, a, b, hb, _ => by
    have : b = 0 := by rw [Nat.pow_zero] at hb; omega
    subst this
    rw [n_eu_0, Nat.gcd_zero_right]
  | j + 1, k, a, b, hb, hk => by
    obtain ⟨m, rfl⟩ : ∃ m, k = m + 1 + 1 := ⟨k - 2, by omega⟩
    rw [n_eu]
    by_cases e : b = 0
    · rw [if_pos e, e, Nat.gcd_zero_right]
    · rw [if_neg e, n_eu, show Nat.gcd a b = Nat.gcd b (a % b) by rw [Nat.gcd_comm b, ← Nat.gcd_rec, Nat.gcd_comm]]
      by_cases e2 : a % b = 0
      · rw [if_pos e2, e2, Nat.gcd_zero_right]
      · rw [if_neg e2, show Nat.gcd b (a % b) = Nat.gcd (a % b) (b % (a % b)) by rw [Nat.gcd_comm (a % b), ← Nat.gcd_rec, Nat.gcd_comm]]
        refine n_eu_ok j m (a % b) (b % (a % b)) ?_ (by omega)
        have h1 : a % b < b := Nat.mod_lt _ (by omega)
        have h2 : b % (a % b) < a % b := Nat.mod_lt _ (by omega)
        have h3 : b % (a % b) + (a % b) ≤ b := by
          have := Nat.mod_add_div b (a % b)
          have hq : 1 ≤ b / (a % b) := (Nat.one_le_div_iff (by omega)).mpr (by omega)
          have := Nat.mul_le_mul_left (a % b) hq
          omega
        rw [Nat.pow_succ] at hb
        omega
/-- the fraction in lowest terms: w 0 above, 1 below -/
def f_od (w n v t : Nat) (r : qM) : Int64 := Int64.ofNat ((if w = 0 then n_odc n v t r else n_whc n r) / Nat.gcd (n_odc n v t r) (n_whc n r))
theorem n_bnd {n : Nat} (h : n ≤ 6) : 2 ^ n ≤ 64 ∧ 10 ^ n ≤ 1000000 := ⟨Nat.pow_le_pow_right (n := 2) (by omega) h, Nat.pow_le_pow_right (n := 10) (by omega) h⟩
theorem n_wh_pos (n : Nat) (r : qM) : 0 < n_whc n r := by
  have h := n_wh_ten n r
  have p : 0 < 10 ^ n := Nat.pow_pos (by omega)
  by_cases e : n_whc n r = 0
  · rw [e, Nat.mul_zero] at h
    omega
  · omega
theorem n_wh_le {n : Nat} (h : n ≤ 6) (r : qM) : n_whc n r ≤ 1000000 := by
  have := n_pr_le (f := fun p => if r 76 p = 0 then 1 else 10) n 0 1 (fun j => by
    show (if r 76 j = 0 then 1 else 10) ≤ 10
    split <;> omega)
  unfold n_whc
  have b := (n_bnd h).2
  omega
theorem n_oA_le (n t : Nat) (r : qM) (β : Nat → Bool) : n_oA n t r β ≤ 1 := by
  unfold n_oA
  split <;> omega
theorem n_wc_le {r : qM} {v p : Nat} {b : Bool} (hv : v ≤ 10) : n_wc r v p b ≤ 10 := by
  unfold n_wc
  split <;> split <;> omega
theorem n_wr_le {v : Nat} {b : Bool} (hv : v ≤ 10) : n_wr v b ≤ 10 := by
  unfold n_wr
  split <;> omega
theorem n_odc_le {n v t : Nat} (h : n ≤ 6) (hv : v ≤ 10) (r : qM) : n_odc n v t r ≤ 64000000 := by
  have a := n_su_le (f := fun row => n_pr (fun p => n_wc r v p (n_bit row p)) n 0 1 * n_oA n t r (n_bit row)) (M := 1000000) (fun row => by
    have x := n_pr_le (f := fun p => n_wc r v p (n_bit row p)) n 0 1 (fun j => n_wc_le hv)
    have y := n_oA_le n t r (n_bit row)
    have b := (n_bnd h).2
    refine Nat.le_trans (Nat.mul_le_mul x y) ?_
    omega) (2 ^ n) 0
  have b := (n_bnd h).1
  unfold n_odc
  omega
theorem n_odr_le {n v t : Nat} (h : n ≤ 6) (hv : v ≤ 10) (r : qM) : n_odr n v t r ≤ 64000000 := by
  have a := n_su_le (f := fun row => n_pr (fun p => n_wr v (n_bit row p)) n 0 1 * n_oA n t r (n_bit row)) (M := 1000000) (fun row => by
    have x := n_pr_le (f := fun p => n_wr v (n_bit row p)) n 0 1 (fun j => n_wr_le hv)
    have y := n_oA_le n t r (n_bit row)
    have b := (n_bnd h).2
    refine Nat.le_trans (Nat.mul_le_mul x y) ?_
    omega) (2 ^ n) 0
  have b := (n_bnd h).1
  unfold n_odr
  omega
/-- both fractions are one -/
theorem n_od_same {n v t : Nat} (hv : v ≤ 10) (r : qM) : n_odr n v t r / Nat.gcd (10 ^ n) (n_odr n v t r) = n_odc n v t r / Nat.gcd (n_odc n v t r) (n_whc n r) ∧ 10 ^ n / Nat.gcd (10 ^ n) (n_odr n v t r) = n_whc n r / Nat.gcd (n_odc n v t r) (n_whc n r) := by
  have h1 := n_od_ten (t := t) (n := n) hv r
  have h2 := n_wh_ten n r
  generalize hc : n_pr (fun p => if r 76 p = 0 then 10 else 1) n 0 1 = c at h1 h2
  have hp : 0 < 10 ^ n := Nat.pow_pos (by omega)
  have hcp : 0 < c := by
    by_cases e : c = 0
    · rw [e, Nat.zero_mul] at h2
      omega
    · omega
  rw [h1, h2, Nat.gcd_mul_left, Nat.gcd_comm (n_whc n r), Nat.mul_div_mul_left _ _ hcp, Nat.mul_div_mul_left _ _ hcp]
  exact ⟨rfl, rfl⟩
/-! longs -/
theorem q_l64 {a : Nat} (h : a < 1000000000) : (Int64.ofNat a).toInt = (a : Int) := Int64.toInt_ofNat_of_lt (by omega)
theorem q_ldv {a b : Nat} (ha : a < 1000000000) (hb : b < 1000000000) : Int64.ofNat a / Int64.ofNat b = Int64.ofNat (a / b) := by
  apply Int64.toInt_inj.mp
  have hl := Nat.div_le_self a b
  rw [Int64.toInt_div, q_l64 ha, q_l64 hb, q_l64 (by omega)]
  show Int.bmod ((a / b : Nat) : Int) _ = ((a / b : Nat) : Int)
  generalize a / b = x at hl ⊢
  exact Int.bmod_eq_of_le (by omega) (by omega)
theorem q_lsb {a b : Nat} (ha : a < 1000000000) (hb : b ≤ a) : Int64.ofNat a - Int64.ofNat b = Int64.ofNat (a - b) := by
  apply Int64.toInt_inj.mp
  rw [Int64.toInt_sub, q_l64 ha, q_l64 (by omega), q_l64 (by omega)]
  rw [show ((a - b : Nat) : Int) = (a : Int) - (b : Int) by omega]
  exact Int.bmod_eq_of_le (by omega) (by omega)
theorem q_lrm {a b : Nat} (ha : a < 1000000000) (hb : b < 1000000000) : Int64.ofNat a - Int64.ofNat a / Int64.ofNat b * Int64.ofNat b = Int64.ofNat (a % b) := by
  have hl := Nat.div_mul_le_self a b
  rw [q_ldv ha hb, ← Int64.ofNat_mul, q_lsb ha hl]
  congr 1
  have := Nat.div_add_mod' a b
  omega
theorem q_leq {a b : Nat} (ha : a < 1000000000) (hb : b < 1000000000) : Int64.ofNat a = Int64.ofNat b ↔ a = b := ⟨fun e => by
  have z := congrArg Int64.toInt e
  rw [q_l64 ha, q_l64 hb] at z
  omega, fun e => by rw [e]⟩
theorem s_lgt {a : Nat} (ha : a < 1000000000) : (lg_cmp (Int64.ofNat a) 0 ≤ 0) ↔ a = 0 := by
  have e : ¬ (0 < lg_cmp (Int64.ofNat a) 0) ↔ a = 0 := by
    rw [s_cmpg, Int64.lt_iff_toInt_lt, q_l64 ha]
    have z : (0 : Int64).toInt = 0 := rfl
    omega
  rw [← e]
  exact Int32.not_lt.symm
theorem s_rows2 {n : Nat} (h : n ≤ 6) : (1 : Int32) <<< (Int32.ofNat n &&& 31) = Int32.ofNat (2 ^ n) := by
  rcases (show n = 0 ∨ n = 1 ∨ n = 2 ∨ n = 3 ∨ n = 4 ∨ n = 5 ∨ n = 6 by omega) with e | e | e | e | e | e | e <;> subst e <;> decide +kernel
section EVL
variable {mm : pm_M} {pc : Nat} {lv : pm_L} {st : List Value} {g : qM} {u : qW} {Q : Option Value × qM × qW → Prop}
theorem q_ldiv {x y : Int64} (hy : y ≠ 0) (he : pm_at mm pc = some (.ldiv, 0, 0, 0)) (hE : q_EV mm (pc + 1) lv (.long (x / y) :: st) g u Q) : q_EV mm pc lv (.long y :: .long x :: st) g u Q := by
  refine q_step 1 (pc + 1) lv (.long (x / y) :: st) g u (fun big n => ?_) hE
  show (match pm_at mm pc with
    | some e => qm_step pm_m big mm (qm_run pm_m big mm n) e pc lv (.long y :: .long x :: st) g u
    | none => none) = _
  rw [he]
  show qm_blz (qm_run pm_m big mm n) (fun x y => x / y) pc lv (.long y :: .long x :: st) g u = _
  unfold qm_blz
  dsimp only
  rw [if_neg hy]
theorem q_lrem {x y : Int64} (hy : y ≠ 0) (he : pm_at mm pc = some (.lrem, 0, 0, 0)) (hE : q_EV mm (pc + 1) lv (.long (x - x / y * y) :: st) g u Q) : q_EV mm pc lv (.long y :: .long x :: st) g u Q := by
  refine q_step 1 (pc + 1) lv (.long (x - x / y * y) :: st) g u (fun big n => ?_) hE
  show (match pm_at mm pc with
    | some e => qm_step pm_m big mm (qm_run pm_m big mm n) e pc lv (.long y :: .long x :: st) g u
    | none => none) = _
  rw [he]
  show qm_blz (qm_run pm_m big mm n) (fun x y => x - x / y * y) pc lv (.long y :: .long x :: st) g u = _
  unfold qm_blz
  dsimp only
  rw [if_neg hy]
end EVL
def n_wtc (n v : Nat) (r : qM) (row : Nat) : Nat := n_pr (fun p => n_wc r v p (n_bit row p)) n 0 1
def n_wtr (n v : Nat) (row : Nat) : Nat := n_pr (fun p => n_wr v (n_bit row p)) n 0 1
theorem n_wtc_le {n v : Nat} (h : n ≤ 6) (hv : v ≤ 10) (r : qM) (row : Nat) : n_wtc n v r row ≤ 1000000 := by
  have x := n_pr_le (f := fun p => n_wc r v p (n_bit row p)) n 0 1 (fun j => n_wc_le hv)
  have b := (n_bnd h).2
  unfold n_wtc
  rw [Nat.one_mul] at x
  exact Nat.le_trans x b
theorem n_wtr_le {n v : Nat} (h : n ≤ 6) (hv : v ≤ 10) (row : Nat) : n_wtr n v row ≤ 1000000 := by
  have x := n_pr_le (f := fun p => n_wr v (n_bit row p)) n 0 1 (fun j => n_wr_le hv)
  have b := (n_bnd h).2
  unfold n_wtr
  rw [Nat.one_mul] at x
  exact Nat.le_trans x b
theorem f_flb_4 {n W H : Nat} {r : qM} (h : w_ok n W H r) (β : Nat → Bool) : ∀ p, p < n → f_flb r β p = 0 ∨ f_flb r β p = 1 ∨ f_flb r β p = 2 ∨ f_flb r β p = 3 := fun p hp => by
  unfold f_flb
  split
  · rw [s_fo_fd (h.2.2.2.2.2.2.2.1 p hp)]
    exact s_fd_4 (h.2.2.2.2.2.2.2.1 p hp)
  · exact h.2.2.2.2.2.2.2.1 p hp
theorem n_oA_01 (n t : Nat) (r : qM) (β : Nat → Bool) : n_oA n t r β = 0 ∨ n_oA n t r β = 1 := by
  unfold n_oA
  split
  · exact Or.inr rfl
  · exact Or.inl rfl
theorem n_oA_i (n t : Nat) (r : qM) (β : Nat → Bool) : (if f_at n (s_rit n t (gh_row n (f_flb r β) r)) = f_hav n r then (1 : Int32) else 0) = if n_oA n t r β = 0 then 0 else 1 := by
  unfold n_oA
  by_cases e : f_at n (s_rit n t (gh_row n (f_flb r β) r)) = f_hav n r
  · rw [if_pos e, if_pos e, if_neg (by decide)]
  · rw [if_neg e, if_neg e, if_pos rfl]
theorem s_bit_01 (t x : Int32) : s_bit t x = 0 ∨ s_bit t x = 1 := by
  rcases s_and3 (s_bit t x) with e | e | e | e
  all_goals
    have k : s_bit t x &&& 3 = s_bit t x := by
      unfold s_bit
      apply Int32.toBitVec_inj.mp
      show (_ &&& 1#32) &&& 3#32 = _ &&& 1#32
      rw [BitVec.and_assoc]
      rfl
    rw [k] at e
  · exact Or.inl e
  · exact Or.inr e
  all_goals
    exfalso
    have h : (s_bit t x).toBitVec.toNat ≤ 1 := by
      unfold s_bit
      show (_ &&& 1#32).toNat ≤ 1
      rw [BitVec.toNat_and]
      exact Nat.and_le_right
    rw [e] at h
    exact absurd h (by decide)
theorem n_bit_t {row p : Nat} (hr : row < 64) (hp : p < 6) (h : ¬ s_bit (Int32.ofNat row) (Int32.ofNat p) = 0) : n_bit row p = true := by
  rw [s_bitn hr hp] at h
  by_cases e : n_bit row p = true
  · exact e
  · rw [if_neg e] at h
    exact absurd rfl h
theorem n_bit_f {row p : Nat} (hr : row < 64) (hp : p < 6) (h : s_bit (Int32.ofNat row) (Int32.ofNat p) = 0) : n_bit row p = false := by
  rw [s_bitn hr hp] at h
  by_cases e : n_bit row p = true
  · rw [if_pos e] at h
    exact absurd h (by decide)
  · exact Bool.eq_false_iff.mpr e
theorem sg_od_1 (big : Nat → List Value → qM → qW → qR) (n0 : Nat) (G : qM) (U : qW) (v0 : Int32) (v1 : Int32) (v2 : Int64) (v3 : Int32) : qm_run pm_m big m_114 (n0 + 3) 5 [(0, .ref 20), (1, .int v0), (2, .int v1), (3, .long v2), (5, .int v3)] [] G U = qm_run pm_m big m_114 n0 11 [(0, .ref 20), (1, .int v0), (2, .int v1), (3, .long v2), (5, .int v3)] [.int (G 20 3), .int v3] G U := rfl
theorem sg_od_2 (big : Nat → List Value → qM → qW → qR) (n0 : Nat) (G : qM) (U : qW) (v0 : Int32) (v1 : Int32) (v2 : Int64) (v3 : Int32) : qm_run pm_m big m_114 (n0 + 5) 14 [(0, .ref 20), (1, .int v0), (2, .int v1), (3, .long v2), (5, .int v3)] [] G U = qm_run pm_m big m_114 n0 20 [(0, .ref 20), (1, .int v0), (2, .int v1), (3, .long v2), (5, .int v3)] [.int ((v1 >>> (v3 &&& 31)) &&& (1 : Int32))] G U := rfl
theorem sg_od_3 (big : Nat → List Value → qM → qW → qR) (n0 : Nat) (G : qM) (U : qW) (v0 : Int32) (v1 : Int32) (v2 : Int64) (v3 : Int32) : qm_run pm_m big m_114 (n0 + 5) 27 [(0, .ref 20), (1, .int v0), (2, .int v1), (3, .long v2), (5, .int v3)] [] G U = qm_run pm_m big m_114 n0 36 [(0, .ref 20), (1, .int v0), (2, .int v1), (3, .long v2), (5, .int v3), (6, .int (0 : Int32))] [.int v3, .ref 22] G U := rfl
theorem sg_od_4 (big : Nat → List Value → qM → qW → qR) (n0 : Nat) (G : qM) (U : qW) (v0 : Int32) (v1 : Int32) (v2 : Int64) (v3 : Int32) : qm_run pm_m big m_114 (n0 + 9) 40 [(0, .ref 20), (1, .int v0), (2, .int v1), (3, .long v2), (5, .int v3), (6, .int (0 : Int32))] [] G U = qm_run pm_m big m_114 n0 5 [(0, .ref 20), (1, .int v0), (2, .int v1), (3, .long (v2 * (1 : Int64))), (5, .int (v3 + (1 : Int32))), (6, .int (0 : Int32))] [] G U := rfl
theorem sg_od_5 (big : Nat → List Value → qM → qW → qR) (n0 : Nat) (G : qM) (U : qW) (v0 : Int32) (v1 : Int32) (v2 : Int64) (v3 : Int32) : qm_run pm_m big m_114 (n0 + 11) 56 [(0, .ref 20), (1, .int v0), (2, .int v1), (3, .long v2), (5, .int v3), (6, .int (0 : Int32))] [] G U = qm_run pm_m big m_114 n0 5 [(0, .ref 20), (1, .int v0), (2, .int v1), (3, .long (v2 * (Int32.toInt64 ((10 : Int32) - v0)))), (5, .int (v3 + (1 : Int32))), (6, .int (0 : Int32))] [] G U := rfl
theorem sg_od_6 (big : Nat → List Value → qM → qW → qR) (n0 : Nat) (G : qM) (U : qW) (v0 : Int32) (v1 : Int32) (v2 : Int64) (v3 : Int32) : qm_run pm_m big m_114 (n0 + 6) 23 [(0, .ref 20), (1, .int v0), (2, .int v1), (3, .long v2), (5, .int v3)] [] G U = qm_run pm_m big m_114 n0 36 [(0, .ref 20), (1, .int v0), (2, .int v1), (3, .long v2), (5, .int v3), (6, .int (1 : Int32))] [.int v3, .ref 22] G U := rfl
theorem sg_od_7 (big : Nat → List Value → qM → qW → qR) (n0 : Nat) (G : qM) (U : qW) (v0 : Int32) (v1 : Int32) (v2 : Int64) (v3 : Int32) : qm_run pm_m big m_114 (n0 + 10) 40 [(0, .ref 20), (1, .int v0), (2, .int v1), (3, .long v2), (5, .int v3), (6, .int (1 : Int32))] [] G U = qm_run pm_m big m_114 n0 5 [(0, .ref 20), (1, .int v0), (2, .int v1), (3, .long (v2 * (0 : Int64))), (5, .int (v3 + (1 : Int32))), (6, .int (1 : Int32))] [] G U := rfl
theorem sg_od_8 (big : Nat → List Value → qM → qW → qR) (n0 : Nat) (G : qM) (U : qW) (v0 : Int32) (v1 : Int32) (v2 : Int64) (v3 : Int32) : qm_run pm_m big m_114 (n0 + 10) 56 [(0, .ref 20), (1, .int v0), (2, .int v1), (3, .long v2), (5, .int v3), (6, .int (1 : Int32))] [] G U = qm_run pm_m big m_114 n0 5 [(0, .ref 20), (1, .int v0), (2, .int v1), (3, .long (v2 * (Int32.toInt64 v0))), (5, .int (v3 + (1 : Int32))), (6, .int (1 : Int32))] [] G U := rfl
theorem sg_od_9 (big : Nat → List Value → qM → qW → qR) (n0 : Nat) (G : qM) (U : qW) (v0 : Int32) (v1 : Int32) : qm_run pm_m big m_114 (n0 + 4) 0 [(0, .ref 20), (1, .int v0), (2, .int v1)] [] G U = qm_run pm_m big m_114 n0 5 [(0, .ref 20), (1, .int v0), (2, .int v1), (3, .long (1 : Int64)), (5, .int (0 : Int32))] [] G U := rfl
theorem sg_od_10 (big : Nat → List Value → qM → qW → qR) (n0 : Nat) (G : qM) (U : qW) (v0 : Int64) (v1 : Int32) : qm_run pm_m big m_116 (n0 + 3) 4 [(0, .ref 20), (1, .long v0), (3, .int v1)] [] G U = qm_run pm_m big m_116 n0 9 [(0, .ref 20), (1, .long v0), (3, .int v1)] [.int (G 20 3), .int v1] G U := rfl
theorem sg_od_11 (big : Nat → List Value → qM → qW → qR) (n0 : Nat) (G : qM) (U : qW) (v0 : Int64) (v1 : Int32) : qm_run pm_m big m_116 (n0 + 4) 12 [(0, .ref 20), (1, .long v0), (3, .int v1)] [] G U = qm_run pm_m big m_116 n0 18 [(0, .ref 20), (1, .long v0), (3, .int v1)] [.int v1, .ref 22, .long v0] G U := rfl
theorem sg_od_12 (big : Nat → List Value → qM → qW → qR) (n0 : Nat) (G : qM) (U : qW) (v0 : Int64) (v1 : Int32) (v2 : Int64) : qm_run pm_m big m_116 (n0 + 6) 22 [(0, .ref 20), (1, .long v0), (3, .int v1)] [.long v2] G U = qm_run pm_m big m_116 n0 4 [(0, .ref 20), (1, .long (v2 * (1 : Int64))), (3, .int (v1 + (1 : Int32)))] [] G U := rfl
theorem sg_od_13 (big : Nat → List Value → qM → qW → qR) (n0 : Nat) (G : qM) (U : qW) (v0 : Int64) (v1 : Int32) (v2 : Int64) : qm_run pm_m big m_116 (n0 + 5) 26 [(0, .ref 20), (1, .long v0), (3, .int v1)] [.long v2] G U = qm_run pm_m big m_116 n0 4 [(0, .ref 20), (1, .long (v2 * (10 : Int64))), (3, .int (v1 + (1 : Int32)))] [] G U := rfl
theorem sg_od_14 (big : Nat → List Value → qM → qW → qR) (n0 : Nat) (G : qM) (U : qW) : qm_run pm_m big m_116 (n0 + 4) 0 [(0, .ref 20)] [] G U = qm_run pm_m big m_116 n0 4 [(0, .ref 20), (1, .long (1 : Int64)), (3, .int (0 : Int32))] [] G U := rfl
theorem sg_od_15 (big : Nat → List Value → qM → qW → qR) (n0 : Nat) (G : qM) (U : qW) (v0 : Int32) (v1 : Int32) : qm_run pm_m big m_115 (n0 + 3) 10 [(0, .ref 34), (1, .ref 20), (2, .int v0), (3, .int v1)] [] G U = qm_run pm_m big m_115 n0 15 [(0, .ref 34), (1, .ref 20), (2, .int v0), (3, .int v1)] [.int (G 20 3), .int v1] G U := rfl
theorem sg_od_16 (big : Nat → List Value → qM → qW → qR) (n0 : Nat) (G : qM) (U : qW) (v0 : Int32) (v1 : Int32) : qm_run pm_m big m_115 (n0 + 5) 18 [(0, .ref 34), (1, .ref 20), (2, .int v0), (3, .int v1)] [] G U = qm_run pm_m big m_115 n0 23 [(0, .ref 34), (1, .ref 20), (2, .int v0), (3, .int v1)] [.int ((v0 >>> (v1 &&& 31)) &&& (1 : Int32))] G U := rfl
theorem sg_od_17 (big : Nat → List Value → qM → qW → qR) (n0 : Nat) (G : qM) (U : qW) (v0 : Int32) (v1 : Int32) : qm_run pm_m big m_115 (n0 + 2) 44 [(0, .ref 34), (1, .ref 20), (2, .int v0), (3, .int v1)] [] G U = qm_run pm_m big m_115 n0 10 [(0, .ref 34), (1, .ref 20), (2, .int v0), (3, .int (v1 + (1 : Int32)))] [] G U := rfl
theorem sg_od_18 (big : Nat → List Value → qM → qW → qR) (n0 : Nat) (G : qM) (U : qW) (v0 : Int32) (v1 : Int32) : qm_run pm_m big m_115 (n0 + 7) 26 [(0, .ref 34), (1, .ref 20), (2, .int v0), (3, .int v1)] [] G U = qm_run pm_m big m_115 n0 39 [(0, .ref 34), (1, .ref 20), (2, .int v0), (3, .int v1)] [.int v1, .ref 22, .int v1, .ref 37] G U := rfl
theorem sg_od_19 (big : Nat → List Value → qM → qW → qR) (n0 : Nat) (G : qM) (U : qW) (v0 : Int32) : qm_run pm_m big m_115 (n0 + 3) 0 [(0, .ref 34), (1, .ref 20), (2, .int v0)] [] G U = qm_run pm_m big m_115 n0 5 [(0, .ref 34), (1, .ref 20), (2, .int v0)] [.ref 20, .ref 35] G U := rfl
theorem sg_od_20 (big : Nat → List Value → qM → qW → qR) (n0 : Nat) (G : qM) (U : qW) (v0 : Int32) : qm_run pm_m big m_115 (n0 + 2) 8 [(0, .ref 34), (1, .ref 20), (2, .int v0)] [] G U = qm_run pm_m big m_115 n0 10 [(0, .ref 34), (1, .ref 20), (2, .int v0), (3, .int (0 : Int32))] [] G U := rfl
theorem sg_od_21 (big : Nat → List Value → qM → qW → qR) (n0 : Nat) (G : qM) (U : qW) (v0 : Int32) (v1 : Int32) (v2 : Int64) (v3 : Int32) : qm_run pm_m big m_113 (n0 + 5) 14 [(0, .ref 34), (1, .ref 20), (2, .int v0), (3, .int v1), (4, .long v2), (6, .int v3)] [] G U = qm_run pm_m big m_113 n0 22 [(0, .ref 34), (1, .ref 20), (2, .int v0), (3, .int v1), (4, .long v2), (6, .int v3)] [.int ((1 : Int32) <<< ((G 20 3) &&& 31)), .int v3] G U := rfl
theorem sg_od_22 (big : Nat → List Value → qM → qW → qR) (n0 : Nat) (G : qM) (U : qW) (v0 : Int32) (v1 : Int32) (v2 : Int64) (v3 : Int32) : qm_run pm_m big m_113 (n0 + 3) 25 [(0, .ref 34), (1, .ref 20), (2, .int v0), (3, .int v1), (4, .long v2), (6, .int v3)] [] G U = qm_run pm_m big m_113 n0 29 [(0, .ref 34), (1, .ref 20), (2, .int v0), (3, .int v1), (4, .long v2), (6, .int v3)] [.int v3, .int v0, .ref 20] G U := rfl
theorem sg_od_23 (big : Nat → List Value → qM → qW → qR) (n0 : Nat) (G : qM) (U : qW) (v0 : Int32) (v1 : Int32) (v2 : Int64) (v3 : Int32) (v4 : Int64) : qm_run pm_m big m_113 (n0 + 4) 32 [(0, .ref 34), (1, .ref 20), (2, .int v0), (3, .int v1), (4, .long v2), (6, .int v3)] [.long v4] G U = qm_run pm_m big m_113 n0 38 [(0, .ref 34), (1, .ref 20), (2, .int v0), (3, .int v1), (4, .long v2), (6, .int v3), (7, .long v4)] [.int (lg_cmp v4 (0 : Int64))] G U := rfl
theorem sg_od_24 (big : Nat → List Value → qM → qW → qR) (n0 : Nat) (G : qM) (U : qW) (v0 : Int32) (v1 : Int32) (v2 : Int64) (v3 : Int32) (v4 : Int64) : qm_run pm_m big m_113 (n0 + 2) 81 [(0, .ref 34), (1, .ref 20), (2, .int v0), (3, .int v1), (4, .long v2), (6, .int v3), (7, .long v4)] [] G U = qm_run pm_m big m_113 n0 14 [(0, .ref 34), (1, .ref 20), (2, .int v0), (3, .int v1), (4, .long v2), (6, .int (v3 + (1 : Int32))), (7, .long v4)] [] G U := rfl
theorem sg_od_25 (big : Nat → List Value → qM → qW → qR) (n0 : Nat) (G : qM) (U : qW) (v0 : Int32) (v1 : Int32) (v2 : Int64) (v3 : Int32) (v4 : Int64) : qm_run pm_m big m_113 (n0 + 3) 41 [(0, .ref 34), (1, .ref 20), (2, .int v0), (3, .int v1), (4, .long v2), (6, .int v3), (7, .long v4)] [] G U = qm_run pm_m big m_113 n0 45 [(0, .ref 34), (1, .ref 20), (2, .int v0), (3, .int v1), (4, .long v2), (6, .int v3), (7, .long v4)] [.int v3, .ref 20, .ref 34] G U := rfl
theorem sg_od_26 (big : Nat → List Value → qM → qW → qR) (n0 : Nat) (G : qM) (U : qW) (v0 : Int32) (v1 : Int32) (v2 : Int64) (v3 : Int32) (v4 : Int64) : qm_run pm_m big m_113 (n0 + 5) 48 [(0, .ref 34), (1, .ref 20), (2, .int v0), (3, .int v1), (4, .long v2), (6, .int v3), (7, .long v4)] [] G U = qm_run pm_m big m_113 n0 57 [(0, .ref 34), (1, .ref 20), (2, .int v0), (3, .int v1), (4, .long v2), (6, .int v3), (7, .long v4)] [.int v1, .ref 35, .ref 28] G U := rfl
theorem sg_od_27 (big : Nat → List Value → qM → qW → qR) (n0 : Nat) (G : qM) (U : qW) (v0 : Int32) (v1 : Int32) (v2 : Int64) (v3 : Int32) (v4 : Int64) : qm_run pm_m big m_113 (n0 + 3) 60 [(0, .ref 34), (1, .ref 20), (2, .int v0), (3, .int v1), (4, .long v2), (6, .int v3), (7, .long v4)] [] G U = qm_run pm_m big m_113 n0 66 [(0, .ref 34), (1, .ref 20), (2, .int v0), (3, .int v1), (4, .long v2), (6, .int v3), (7, .long v4)] [.ref 35, .long v2] G U := rfl
theorem sg_od_28 (big : Nat → List Value → qM → qW → qR) (n0 : Nat) (G : qM) (U : qW) (v0 : Int32) (v1 : Int32) (v2 : Int64) (v3 : Int32) (v4 : Int64) (v5 : Int64) : qm_run pm_m big m_113 (n0 + 6) 69 [(0, .ref 34), (1, .ref 20), (2, .int v0), (3, .int v1), (4, .long v2), (6, .int v3), (7, .long v4)] [.int (0 : Int32), .long v5] G U = qm_run pm_m big m_113 n0 14 [(0, .ref 34), (1, .ref 20), (2, .int v0), (3, .int v1), (4, .long (v5 + (0 : Int64))), (6, .int (v3 + (1 : Int32))), (7, .long v4)] [] G U := rfl
theorem sg_od_29 (big : Nat → List Value → qM → qW → qR) (n0 : Nat) (G : qM) (U : qW) (v0 : Int32) (v1 : Int32) (v2 : Int64) (v3 : Int32) (v4 : Int64) (v5 : Int64) : qm_run pm_m big m_113 (n0 + 7) 69 [(0, .ref 34), (1, .ref 20), (2, .int v0), (3, .int v1), (4, .long v2), (6, .int v3), (7, .long v4)] [.int (1 : Int32), .long v5] G U = qm_run pm_m big m_113 n0 14 [(0, .ref 34), (1, .ref 20), (2, .int v0), (3, .int v1), (4, .long (v5 + v4)), (6, .int (v3 + (1 : Int32))), (7, .long v4)] [] G U := rfl
theorem sg_od_30 (big : Nat → List Value → qM → qW → qR) (n0 : Nat) (G : qM) (U : qW) (v0 : Int32) (v1 : Int32) : qm_run pm_m big m_113 (n0 + 3) 0 [(0, .ref 34), (1, .ref 20), (2, .int v0), (3, .int v1)] [] G U = qm_run pm_m big m_113 n0 5 [(0, .ref 34), (1, .ref 20), (2, .int v0), (3, .int v1)] [.ref 20, .ref 35] G U := rfl
theorem sg_od_31 (big : Nat → List Value → qM → qW → qR) (n0 : Nat) (G : qM) (U : qW) (v0 : Int32) (v1 : Int32) : qm_run pm_m big m_113 (n0 + 4) 8 [(0, .ref 34), (1, .ref 20), (2, .int v0), (3, .int v1)] [] G U = qm_run pm_m big m_113 n0 14 [(0, .ref 34), (1, .ref 20), (2, .int v0), (3, .int v1), (4, .long (0 : Int64)), (6, .int (0 : Int32))] [] G U := rfl
theorem sg_od_32 (big : Nat → List Value → qM → qW → qR) (n0 : Nat) (G : qM) (U : qW) (v0 : Int64) (v1 : Int64) (v2 : Int64) (v3 : Int64) (v4 : Int32) : qm_run pm_m big m_117 (n0 + 2) 9 [(0, .long v0), (2, .long v1), (4, .long v2), (6, .long v3), (8, .int v4)] [] G U = qm_run pm_m big m_117 n0 13 [(0, .long v0), (2, .long v1), (4, .long v2), (6, .long v3), (8, .int v4)] [.int (100 : Int32), .int v4] G U := rfl
theorem sg_od_33 (big : Nat → List Value → qM → qW → qR) (n0 : Nat) (G : qM) (U : qW) (v0 : Int64) (v1 : Int64) (v2 : Int64) (v3 : Int64) (v4 : Int32) : qm_run pm_m big m_117 (n0 + 3) 16 [(0, .long v0), (2, .long v1), (4, .long v2), (6, .long v3), (8, .int v4)] [] G U = qm_run pm_m big m_117 n0 20 [(0, .long v0), (2, .long v1), (4, .long v2), (6, .long v3), (8, .int v4)] [.int (lg_cmp v3 (0 : Int64))] G U := rfl
theorem sg_od_34 (big : Nat → List Value → qM → qW → qR) (n0 : Nat) (G : qM) (U : qW) (v0 : Int64) (v1 : Int64) (v2 : Int64) (v3 : Int64) (v4 : Int32) : qm_run pm_m big m_117 (n0 + 2) 23 [(0, .long v0), (2, .long v1), (4, .long v2), (6, .long v3), (8, .int v4)] [] G U = qm_run pm_m big m_117 n0 27 [(0, .long v0), (2, .long v1), (4, .long v2), (6, .long v3), (8, .int v4)] [.long v3, .long v2] G U := rfl
theorem sg_od_35 (big : Nat → List Value → qM → qW → qR) (n0 : Nat) (G : qM) (U : qW) (v0 : Int64) (v1 : Int64) (v2 : Int64) (v3 : Int64) (v4 : Int32) (v5 : Int64) : qm_run pm_m big m_117 (n0 + 7) 28 [(0, .long v0), (2, .long v1), (4, .long v2), (6, .long v3), (8, .int v4)] [.long v5] G U = qm_run pm_m big m_117 n0 9 [(0, .long v0), (2, .long v1), (4, .long v3), (6, .long v5), (8, .int (v4 + (1 : Int32))), (9, .long v5)] [] G U := rfl
theorem sg_od_36 (big : Nat → List Value → qM → qW → qR) (n0 : Nat) (G : qM) (U : qW) (v0 : Int64) (v1 : Int64) : qm_run pm_m big m_117 (n0 + 6) 0 [(0, .long v0), (2, .long v1)] [] G U = qm_run pm_m big m_117 n0 9 [(0, .long v0), (2, .long v1), (4, .long v0), (6, .long v1), (8, .int (0 : Int32))] [] G U := rfl
theorem sg_od_37 (big : Nat → List Value → qM → qW → qR) (n0 : Nat) (G : qM) (U : qW) (v0 : Int32) (v1 : Int32) : qm_run pm_m big m_112 (n0 + 1) 0 [(0, .ref 8), (1, .int v0), (2, .int v1), (3, .int (0 : Int32))] [] G U = qm_run pm_m big m_112 n0 1 [(0, .ref 8), (1, .int v0), (2, .int v1), (3, .int (0 : Int32))] [.int v0] G U := rfl
theorem sg_od_38 (big : Nat → List Value → qM → qW → qR) (n0 : Nat) (G : qM) (U : qW) (v0 : Int32) (v1 : Int32) : qm_run pm_m big m_112 (n0 + 2) 4 [(0, .ref 8), (1, .int v0), (2, .int v1), (3, .int (0 : Int32))] [] G U = qm_run pm_m big m_112 n0 7 [(0, .ref 8), (1, .int v0), (2, .int v1), (3, .int (0 : Int32))] [.int (10 : Int32), .int v0] G U := rfl
theorem sg_od_39 (big : Nat → List Value → qM → qW → qR) (n0 : Nat) (G : qM) (U : qW) (v0 : Int32) (v1 : Int32) : qm_run pm_m big m_112 (n0 + 1) 10 [(0, .ref 8), (1, .int v0), (2, .int v1), (3, .int (0 : Int32))] [] G U = qm_run pm_m big m_112 n0 11 [(0, .ref 8), (1, .int v0), (2, .int v1), (3, .int (0 : Int32))] [.int v1] G U := rfl
theorem sg_od_40 (big : Nat → List Value → qM → qW → qR) (n0 : Nat) (G : qM) (U : qW) (v0 : Int32) (v1 : Int32) : qm_run pm_m big m_112 (n0 + 2) 14 [(0, .ref 8), (1, .int v0), (2, .int v1), (3, .int (0 : Int32))] [.int (1 : Int32)] G U = qm_run pm_m big m_112 n0 18 [(0, .ref 8), (1, .int v0), (2, .int v1), (3, .int (0 : Int32))] [.int (0 : Int32)] G U := rfl
theorem sg_od_41 (big : Nat → List Value → qM → qW → qR) (n0 : Nat) (G : qM) (U : qW) (v0 : Int32) (v1 : Int32) : qm_run pm_m big m_112 (n0 + 7) 21 [(0, .ref 8), (1, .int v0), (2, .int v1), (3, .int (0 : Int32))] [.int (1 : Int32)] G U = qm_run pm_m big m_112 n0 38 [(0, .ref 8), (1, .int v0), (2, .int v1), (3, .int (0 : Int32))] [.int v1, .int v0, .ref 20, .ref 34] G U := rfl
theorem sg_od_42 (big : Nat → List Value → qM → qW → qR) (n0 : Nat) (G : qM) (U : qW) (v0 : Int32) (v1 : Int32) (v2 : Int64) : qm_run pm_m big m_112 (n0 + 3) 41 [(0, .ref 8), (1, .int v0), (2, .int v1), (3, .int (0 : Int32))] [.long v2] G U = qm_run pm_m big m_112 n0 47 [(0, .ref 8), (1, .int v0), (2, .int v1), (3, .int (0 : Int32)), (4, .long v2)] [.ref 20] G U := rfl
theorem sg_od_43 (big : Nat → List Value → qM → qW → qR) (n0 : Nat) (G : qM) (U : qW) (v0 : Int32) (v1 : Int32) (v2 : Int64) (v3 : Int64) : qm_run pm_m big m_112 (n0 + 3) 50 [(0, .ref 8), (1, .int v0), (2, .int v1), (3, .int (0 : Int32)), (4, .long v2)] [.long v3] G U = qm_run pm_m big m_112 n0 56 [(0, .ref 8), (1, .int v0), (2, .int v1), (3, .int (0 : Int32)), (4, .long v2), (6, .long v3)] [.long v3, .long v2] G U := rfl
theorem sg_od_44 (big : Nat → List Value → qM → qW → qR) (n0 : Nat) (G : qM) (U : qW) (v0 : Int32) (v1 : Int32) (v2 : Int64) (v3 : Int64) (v4 : Int64) : qm_run pm_m big m_112 (n0 + 9) 59 [(0, .ref 8), (1, .int v0), (2, .int v1), (3, .int (0 : Int32)), (4, .long v2), (6, .long v3)] [.long v4] G U = qm_run pm_m big m_112 n0 78 [(0, .ref 8), (1, .int v0), (2, .int v1), (3, .int (0 : Int32)), (4, .long v2), (6, .long v3), (8, .long v4), (10, .long v2)] [.int (lg_cmp v4 (0 : Int64))] G U := rfl
theorem sg_od_45 (big : Nat → List Value → qM → qW → qR) (n0 : Nat) (G : qM) (U : qW) (v0 : Int32) (v1 : Int32) (v2 : Int64) (v3 : Int64) (v4 : Int64) (v5 : Int64) : qm_run pm_m big m_112 (n0 + 2) 81 [(0, .ref 8), (1, .int v0), (2, .int v1), (3, .int (0 : Int32)), (4, .long v2), (6, .long v3), (8, .long v4), (10, .long v5)] [] G U = qm_run pm_m big m_112 n0 85 [(0, .ref 8), (1, .int v0), (2, .int v1), (3, .int (0 : Int32)), (4, .long v2), (6, .long v3), (8, .long v4), (10, .long v5)] [.long v4, .long v5] G U := rfl
theorem sg_od_46 (big : Nat → List Value → qM → qW → qR) (n0 : Nat) (G : qM) (U : qW) (v0 : Int32) (v1 : Int32) : qm_run pm_m big m_112 (n0 + 1) 0 [(0, .ref 8), (1, .int v0), (2, .int v1), (3, .int (1 : Int32))] [] G U = qm_run pm_m big m_112 n0 1 [(0, .ref 8), (1, .int v0), (2, .int v1), (3, .int (1 : Int32))] [.int v0] G U := rfl
theorem sg_od_47 (big : Nat → List Value → qM → qW → qR) (n0 : Nat) (G : qM) (U : qW) (v0 : Int32) (v1 : Int32) : qm_run pm_m big m_112 (n0 + 2) 4 [(0, .ref 8), (1, .int v0), (2, .int v1), (3, .int (1 : Int32))] [] G U = qm_run pm_m big m_112 n0 7 [(0, .ref 8), (1, .int v0), (2, .int v1), (3, .int (1 : Int32))] [.int (10 : Int32), .int v0] G U := rfl
theorem sg_od_48 (big : Nat → List Value → qM → qW → qR) (n0 : Nat) (G : qM) (U : qW) (v0 : Int32) (v1 : Int32) : qm_run pm_m big m_112 (n0 + 1) 10 [(0, .ref 8), (1, .int v0), (2, .int v1), (3, .int (1 : Int32))] [] G U = qm_run pm_m big m_112 n0 11 [(0, .ref 8), (1, .int v0), (2, .int v1), (3, .int (1 : Int32))] [.int v1] G U := rfl
theorem sg_od_49 (big : Nat → List Value → qM → qW → qR) (n0 : Nat) (G : qM) (U : qW) (v0 : Int32) (v1 : Int32) : qm_run pm_m big m_112 (n0 + 2) 14 [(0, .ref 8), (1, .int v0), (2, .int v1), (3, .int (1 : Int32))] [.int (1 : Int32)] G U = qm_run pm_m big m_112 n0 18 [(0, .ref 8), (1, .int v0), (2, .int v1), (3, .int (1 : Int32))] [.int (1 : Int32)] G U := rfl
theorem sg_od_50 (big : Nat → List Value → qM → qW → qR) (n0 : Nat) (G : qM) (U : qW) (v0 : Int32) (v1 : Int32) : qm_run pm_m big m_112 (n0 + 7) 21 [(0, .ref 8), (1, .int v0), (2, .int v1), (3, .int (1 : Int32))] [.int (1 : Int32)] G U = qm_run pm_m big m_112 n0 38 [(0, .ref 8), (1, .int v0), (2, .int v1), (3, .int (1 : Int32))] [.int v1, .int v0, .ref 20, .ref 34] G U := rfl
theorem sg_od_51 (big : Nat → List Value → qM → qW → qR) (n0 : Nat) (G : qM) (U : qW) (v0 : Int32) (v1 : Int32) (v2 : Int64) : qm_run pm_m big m_112 (n0 + 3) 41 [(0, .ref 8), (1, .int v0), (2, .int v1), (3, .int (1 : Int32))] [.long v2] G U = qm_run pm_m big m_112 n0 47 [(0, .ref 8), (1, .int v0), (2, .int v1), (3, .int (1 : Int32)), (4, .long v2)] [.ref 20] G U := rfl
theorem sg_od_52 (big : Nat → List Value → qM → qW → qR) (n0 : Nat) (G : qM) (U : qW) (v0 : Int32) (v1 : Int32) (v2 : Int64) (v3 : Int64) : qm_run pm_m big m_112 (n0 + 3) 50 [(0, .ref 8), (1, .int v0), (2, .int v1), (3, .int (1 : Int32)), (4, .long v2)] [.long v3] G U = qm_run pm_m big m_112 n0 56 [(0, .ref 8), (1, .int v0), (2, .int v1), (3, .int (1 : Int32)), (4, .long v2), (6, .long v3)] [.long v3, .long v2] G U := rfl
theorem sg_od_53 (big : Nat → List Value → qM → qW → qR) (n0 : Nat) (G : qM) (U : qW) (v0 : Int32) (v1 : Int32) (v2 : Int64) (v3 : Int64) (v4 : Int64) : qm_run pm_m big m_112 (n0 + 8) 59 [(0, .ref 8), (1, .int v0), (2, .int v1), (3, .int (1 : Int32)), (4, .long v2), (6, .long v3)] [.long v4] G U = qm_run pm_m big m_112 n0 78 [(0, .ref 8), (1, .int v0), (2, .int v1), (3, .int (1 : Int32)), (4, .long v2), (6, .long v3), (8, .long v4), (10, .long v3)] [.int (lg_cmp v4 (0 : Int64))] G U := rfl
theorem sg_od_54 (big : Nat → List Value → qM → qW → qR) (n0 : Nat) (G : qM) (U : qW) (v0 : Int32) (v1 : Int32) (v2 : Int64) (v3 : Int64) (v4 : Int64) (v5 : Int64) : qm_run pm_m big m_112 (n0 + 2) 81 [(0, .ref 8), (1, .int v0), (2, .int v1), (3, .int (1 : Int32)), (4, .long v2), (6, .long v3), (8, .long v4), (10, .long v5)] [] G U = qm_run pm_m big m_112 n0 85 [(0, .ref 8), (1, .int v0), (2, .int v1), (3, .int (1 : Int32)), (4, .long v2), (6, .long v3), (8, .long v4), (10, .long v5)] [.long v4, .long v5] G U := rfl
theorem sg_od_55 (big : Nat → List Value → qM → qW → qR) (n0 : Nat) (G : qM) (U : qW) (v0 : Int64) (v1 : Int64) (v2 : Int64) (v3 : Int64) : qm_run pm_m big m_211 (n0 + 3) 6 [(0, .long v0), (2, .long v1), (4, .long v2), (6, .long v3)] [] G U = qm_run pm_m big m_211 n0 10 [(0, .long v0), (2, .long v1), (4, .long v2), (6, .long v3)] [.int (lg_cmp v3 (0 : Int64))] G U := rfl
theorem sg_od_56 (big : Nat → List Value → qM → qW → qR) (n0 : Nat) (G : qM) (U : qW) (v0 : Int64) (v1 : Int64) (v2 : Int64) (v3 : Int64) : qm_run pm_m big m_211 (n0 + 2) 13 [(0, .long v0), (2, .long v1), (4, .long v2), (6, .long v3)] [] G U = qm_run pm_m big m_211 n0 17 [(0, .long v0), (2, .long v1), (4, .long v2), (6, .long v3)] [.long v3, .long v2] G U := rfl
theorem sg_od_57 (big : Nat → List Value → qM → qW → qR) (n0 : Nat) (G : qM) (U : qW) (v0 : Int64) (v1 : Int64) (v2 : Int64) (v3 : Int64) (v4 : Int64) : qm_run pm_m big m_211 (n0 + 6) 18 [(0, .long v0), (2, .long v1), (4, .long v2), (6, .long v3)] [.long v4] G U = qm_run pm_m big m_211 n0 6 [(0, .long v0), (2, .long v1), (4, .long v3), (6, .long v4), (8, .long v4)] [] G U := rfl
theorem sg_od_58 (big : Nat → List Value → qM → qW → qR) (n0 : Nat) (G : qM) (U : qW) (v0 : Int64) (v1 : Int64) : qm_run pm_m big m_211 (n0 + 4) 0 [(0, .long v0), (2, .long v1)] [] G U = qm_run pm_m big m_211 n0 6 [(0, .long v0), (2, .long v1), (4, .long v0), (6, .long v1)] [] G U := rfl
theorem sg_od_59 (big : Nat → List Value → qM → qW → qR) (n0 : Nat) (G : qM) (U : qW) (v0 : Int32) (v1 : Int32) (v2 : Int32) (v3 : Int64) (v4 : Int64) (v5 : Int32) : qm_run pm_m big m_210 (n0 + 3) 47 [(0, .ref 70), (1, .int v0), (2, .int v1), (3, .int v2), (4, .long v3), (6, .long v4), (8, .int v5)] [] G U = qm_run pm_m big m_210 n0 53 [(0, .ref 70), (1, .int v0), (2, .int v1), (3, .int v2), (4, .long v3), (6, .long v4), (8, .int v5)] [.int (G 70 4), .int v5] G U := rfl
theorem sg_od_60 (big : Nat → List Value → qM → qW → qR) (n0 : Nat) (G : qM) (U : qW) (v0 : Int32) (v1 : Int32) (v2 : Int32) (v3 : Int64) (v4 : Int64) (v5 : Int32) : qm_run pm_m big m_210 (n0 + 6) 56 [(0, .ref 70), (1, .int v0), (2, .int v1), (3, .int v2), (4, .long v3), (6, .long v4), (8, .int v5)] [] G U = qm_run pm_m big m_210 n0 47 [(0, .ref 70), (1, .int v0), (2, .int v1), (3, .int v2), (4, .long v3), (6, .long (v4 * (10 : Int64))), (8, .int (v5 + (1 : Int32)))] [] G U := rfl
theorem sg_od_61 (big : Nat → List Value → qM → qW → qR) (n0 : Nat) (G : qM) (U : qW) (v0 : Int32) (v1 : Int32) (v2 : Int32) (v3 : Int64) (v4 : Int64) (v5 : Int32) (v6 : Int64) (v7 : Int32) : qm_run pm_m big m_210 (n0 + 3) 94 [(0, .ref 70), (1, .int v0), (2, .int v1), (3, .int v2), (4, .long v3), (6, .long v4), (8, .int v5), (9, .long v6), (11, .int v7)] [] G U = qm_run pm_m big m_210 n0 100 [(0, .ref 70), (1, .int v0), (2, .int v1), (3, .int v2), (4, .long v3), (6, .long v4), (8, .int v5), (9, .long v6), (11, .int v7)] [.int (G 70 4), .int v7] G U := rfl
theorem sg_od_62 (big : Nat → List Value → qM → qW → qR) (n0 : Nat) (G : qM) (U : qW) (v0 : Int32) (v1 : Int32) (v2 : Int32) (v3 : Int64) (v4 : Int64) (v5 : Int32) (v6 : Int64) (v7 : Int32) : qm_run pm_m big m_210 (n0 + 6) 103 [(0, .ref 70), (1, .int v0), (2, .int v1), (3, .int v2), (4, .long v3), (6, .long v4), (8, .int v5), (9, .long v6), (11, .int v7)] [] G U = qm_run pm_m big m_210 n0 111 [(0, .ref 70), (1, .int v0), (2, .int v1), (3, .int v2), (4, .long v3), (6, .long v4), (8, .int v5), (9, .long v6), (11, .int v7)] [.int (1 : Int32), .int ((v5 >>> (v7 &&& 31)) &&& (1 : Int32))] G U := rfl
theorem sg_od_63 (big : Nat → List Value → qM → qW → qR) (n0 : Nat) (G : qM) (U : qW) (v0 : Int32) (v1 : Int32) (v2 : Int32) (v3 : Int64) (v4 : Int64) (v5 : Int32) (v6 : Int64) (v7 : Int32) : qm_run pm_m big m_210 (n0 + 19) 114 [(0, .ref 70), (1, .int v0), (2, .int v1), (3, .int v2), (4, .long v3), (6, .long v4), (8, .int v5), (9, .long v6), (11, .int v7)] [] G U = qm_run pm_m big m_210 n0 158 [(0, .ref 70), (1, .int v0), (2, .int v1), (3, .int v2), (4, .long v3), (6, .long v4), (8, .int v5), (9, .long (v6 * (Int32.toInt64 v0))), (11, .int v7), (12, .int (1 : Int32))] [.int v7, .ref 76, .int v7, .ref 76] G U := rfl
theorem sg_od_64 (big : Nat → List Value → qM → qW → qR) (n0 : Nat) (G : qM) (U : qW) (v0 : Int32) (v1 : Int32) (v2 : Int32) (v3 : Int64) (v4 : Int64) (v5 : Int32) (v6 : Int64) (v7 : Int32) (v8 : Int32) (v9 : Int32) : qm_run pm_m big m_210 (n0 + 1) 162 [(0, .ref 70), (1, .int v0), (2, .int v1), (3, .int v2), (4, .long v3), (6, .long v4), (8, .int v5), (9, .long v6), (11, .int v7), (12, .int (1 : Int32))] [.int v9, .int v8, .ref 76] G U = qm_run pm_m big m_210 n0 172 [(0, .ref 70), (1, .int v0), (2, .int v1), (3, .int v2), (4, .long v3), (6, .long v4), (8, .int v5), (9, .long v6), (11, .int v7), (12, .int (1 : Int32))] [.int v9, .int v8, .ref 76] G U := rfl
theorem sg_od_65 (big : Nat → List Value → qM → qW → qR) (n0 : Nat) (G : qM) (U : qW) (v0 : Int32) (v1 : Int32) (v2 : Int32) (v3 : Int64) (v4 : Int64) (v5 : Int32) (v6 : Int64) (v7 : Int32) : qm_run pm_m big m_210 (n0 + 2) 173 [(0, .ref 70), (1, .int v0), (2, .int v1), (3, .int v2), (4, .long v3), (6, .long v4), (8, .int v5), (9, .long v6), (11, .int v7), (12, .int (1 : Int32))] [] G U = qm_run pm_m big m_210 n0 94 [(0, .ref 70), (1, .int v0), (2, .int v1), (3, .int v2), (4, .long v3), (6, .long v4), (8, .int v5), (9, .long v6), (11, .int (v7 + (1 : Int32))), (12, .int (1 : Int32))] [] G U := rfl
theorem sg_od_66 (big : Nat → List Value → qM → qW → qR) (n0 : Nat) (G : qM) (U : qW) (v0 : Int32) (v1 : Int32) (v2 : Int32) (v3 : Int64) (v4 : Int64) (v5 : Int32) (v6 : Int64) (v7 : Int32) : qm_run pm_m big m_210 (n0 + 19) 118 [(0, .ref 70), (1, .int v0), (2, .int v1), (3, .int v2), (4, .long v3), (6, .long v4), (8, .int v5), (9, .long v6), (11, .int v7)] [] G U = qm_run pm_m big m_210 n0 171 [(0, .ref 70), (1, .int v0), (2, .int v1), (3, .int v2), (4, .long v3), (6, .long v4), (8, .int v5), (9, .long (v6 * (Int32.toInt64 ((10 : Int32) - v0)))), (11, .int v7), (12, .int (0 : Int32))] [.int v7, .ref 76, .int v7, .ref 76] G U := rfl
theorem sg_od_67 (big : Nat → List Value → qM → qW → qR) (n0 : Nat) (G : qM) (U : qW) (v0 : Int32) (v1 : Int32) (v2 : Int32) (v3 : Int64) (v4 : Int64) (v5 : Int32) (v6 : Int64) (v7 : Int32) : qm_run pm_m big m_210 (n0 + 2) 173 [(0, .ref 70), (1, .int v0), (2, .int v1), (3, .int v2), (4, .long v3), (6, .long v4), (8, .int v5), (9, .long v6), (11, .int v7), (12, .int (0 : Int32))] [] G U = qm_run pm_m big m_210 n0 94 [(0, .ref 70), (1, .int v0), (2, .int v1), (3, .int v2), (4, .long v3), (6, .long v4), (8, .int v5), (9, .long v6), (11, .int (v7 + (1 : Int32))), (12, .int (0 : Int32))] [] G U := rfl
theorem sg_od_68 (big : Nat → List Value → qM → qW → qR) (n0 : Nat) (G : qM) (U : qW) (v0 : Int32) (v1 : Int32) (v2 : Int32) (v3 : Int64) (v4 : Int64) (v5 : Int32) : qm_run pm_m big m_210 (n0 + 5) 73 [(0, .ref 70), (1, .int v0), (2, .int v1), (3, .int v2), (4, .long v3), (6, .long v4), (8, .int v5)] [] G U = qm_run pm_m big m_210 n0 81 [(0, .ref 70), (1, .int v0), (2, .int v1), (3, .int v2), (4, .long v3), (6, .long v4), (8, .int v5)] [.int ((1 : Int32) <<< ((G 70 4) &&& 31)), .int v5] G U := rfl
theorem sg_od_69 (big : Nat → List Value → qM → qW → qR) (n0 : Nat) (G : qM) (U : qW) (v0 : Int32) (v1 : Int32) (v2 : Int32) (v3 : Int64) (v4 : Int64) (v5 : Int32) : qm_run pm_m big m_210 (n0 + 3) 84 [(0, .ref 70), (1, .int v0), (2, .int v1), (3, .int v2), (4, .long v3), (6, .long v4), (8, .int v5)] [] G U = qm_run pm_m big m_210 n0 88 [(0, .ref 70), (1, .int v0), (2, .int v1), (3, .int v2), (4, .long v3), (6, .long v4), (8, .int v5), (9, .long (1 : Int64))] [.ref 70] G U := rfl
theorem sg_od_70 (big : Nat → List Value → qM → qW → qR) (n0 : Nat) (G : qM) (U : qW) (v0 : Int32) (v1 : Int32) (v2 : Int32) (v3 : Int64) (v4 : Int64) (v5 : Int32) : qm_run pm_m big m_210 (n0 + 2) 91 [(0, .ref 70), (1, .int v0), (2, .int v1), (3, .int v2), (4, .long v3), (6, .long v4), (8, .int v5), (9, .long (1 : Int64))] [] G U = qm_run pm_m big m_210 n0 94 [(0, .ref 70), (1, .int v0), (2, .int v1), (3, .int v2), (4, .long v3), (6, .long v4), (8, .int v5), (9, .long (1 : Int64)), (11, .int (0 : Int32))] [] G U := rfl
theorem sg_od_71 (big : Nat → List Value → qM → qW → qR) (n0 : Nat) (G : qM) (U : qW) (v0 : Int32) (v1 : Int32) (v2 : Int32) (v3 : Int64) (v4 : Int64) (v5 : Int32) (v6 : Int64) (v7 : Int32) : qm_run pm_m big m_210 (n0 + 4) 179 [(0, .ref 70), (1, .int v0), (2, .int v1), (3, .int v2), (4, .long v3), (6, .long v4), (8, .int v5), (9, .long v6), (11, .int v7)] [] G U = qm_run pm_m big m_210 n0 185 [(0, .ref 70), (1, .int v0), (2, .int v1), (3, .int v2), (4, .long v3), (6, .long v4), (8, .int v5), (9, .long v6), (11, .int v7)] [.int (lg_cmp v6 (0 : Int64)), .long v3] G U := rfl
theorem sg_od_72 (big : Nat → List Value → qM → qW → qR) (n0 : Nat) (G : qM) (U : qW) (v0 : Int32) (v1 : Int32) (v2 : Int32) (v3 : Int64) (v4 : Int64) (v5 : Int32) (v6 : Int64) (v7 : Int32) (v8 : Int64) : qm_run pm_m big m_210 (n0 + 5) 201 [(0, .ref 70), (1, .int v0), (2, .int v1), (3, .int v2), (4, .long v3), (6, .long v4), (8, .int v5), (9, .long v6), (11, .int v7)] [.long v8] G U = qm_run pm_m big m_210 n0 73 [(0, .ref 70), (1, .int v0), (2, .int v1), (3, .int v2), (4, .long (v8 + (0 : Int64))), (6, .long v4), (8, .int (v5 + (1 : Int32))), (9, .long v6), (11, .int v7)] [] G U := rfl
theorem sg_od_73 (big : Nat → List Value → qM → qW → qR) (n0 : Nat) (G : qM) (U : qW) (v0 : Int32) (v1 : Int32) (v2 : Int32) (v3 : Int64) (v4 : Int64) (v5 : Int32) (v6 : Int64) (v7 : Int32) (v8 : Int64) : qm_run pm_m big m_210 (n0 + 2) 188 [(0, .ref 70), (1, .int v0), (2, .int v1), (3, .int v2), (4, .long v3), (6, .long v4), (8, .int v5), (9, .long v6), (11, .int v7)] [.long v8] G U = qm_run pm_m big m_210 n0 190 [(0, .ref 70), (1, .int v0), (2, .int v1), (3, .int v2), (4, .long v3), (6, .long v4), (8, .int v5), (9, .long v6), (11, .int v7)] [.int v1, .ref 70, .long v8] G U := rfl
theorem sg_od_74 (big : Nat → List Value → qM → qW → qR) (n0 : Nat) (G : qM) (U : qW) (v0 : Int32) (v1 : Int32) (v2 : Int32) (v3 : Int64) (v4 : Int64) (v5 : Int32) (v6 : Int64) (v7 : Int32) (v8 : Int64) : qm_run pm_m big m_210 (n0 + 6) 193 [(0, .ref 70), (1, .int v0), (2, .int v1), (3, .int v2), (4, .long v3), (6, .long v4), (8, .int v5), (9, .long v6), (11, .int v7)] [.int (0 : Int32), .long v8] G U = qm_run pm_m big m_210 n0 73 [(0, .ref 70), (1, .int v0), (2, .int v1), (3, .int v2), (4, .long (v8 + (0 : Int64))), (6, .long v4), (8, .int (v5 + (1 : Int32))), (9, .long v6), (11, .int v7)] [] G U := rfl
theorem sg_od_75 (big : Nat → List Value → qM → qW → qR) (n0 : Nat) (G : qM) (U : qW) (v0 : Int32) (v1 : Int32) (v2 : Int32) (v3 : Int64) (v4 : Int64) (v5 : Int32) (v6 : Int64) (v7 : Int32) (v8 : Int64) : qm_run pm_m big m_210 (n0 + 7) 193 [(0, .ref 70), (1, .int v0), (2, .int v1), (3, .int v2), (4, .long v3), (6, .long v4), (8, .int v5), (9, .long v6), (11, .int v7)] [.int (1 : Int32), .long v8] G U = qm_run pm_m big m_210 n0 73 [(0, .ref 70), (1, .int v0), (2, .int v1), (3, .int v2), (4, .long (v8 + v6)), (6, .long v4), (8, .int (v5 + (1 : Int32))), (9, .long v6), (11, .int v7)] [] G U := rfl
theorem sg_od_76 (big : Nat → List Value → qM → qW → qR) (n0 : Nat) (G : qM) (U : qW) (v0 : Int32) (v1 : Int32) : qm_run pm_m big m_210 (n0 + 4) 0 [(0, .ref 70), (1, .int v0), (2, .int v1), (3, .int (0 : Int32))] [] G U = qm_run pm_m big m_210 n0 6 [(0, .ref 70), (1, .int v0), (2, .int v1), (3, .int (0 : Int32))] [.long (10 : Int64), .long (0 : Int64), .long (Int32.toInt64 v0)] G U := rfl
theorem sg_od_77 (big : Nat → List Value → qM → qW → qR) (n0 : Nat) (G : qM) (U : qW) (v0 : Int32) (v1 : Int32) : qm_run pm_m big m_210 (n0 + 5) 9 [(0, .ref 70), (1, .int v0), (2, .int v1), (3, .int (0 : Int32))] [.int (1 : Int32)] G U = qm_run pm_m big m_210 n0 18 [(0, .ref 70), (1, .int v0), (2, .int v1), (3, .int (0 : Int32))] [.long (12 : Int64), .long (0 : Int64), .long (Int32.toInt64 v1)] G U := rfl
theorem sg_od_78 (big : Nat → List Value → qM → qW → qR) (n0 : Nat) (G : qM) (U : qW) (v0 : Int32) (v1 : Int32) : qm_run pm_m big m_210 (n0 + 5) 21 [(0, .ref 70), (1, .int v0), (2, .int v1), (3, .int (0 : Int32))] [.int (1 : Int32)] G U = qm_run pm_m big m_210 n0 28 [(0, .ref 70), (1, .int v0), (2, .int v1), (3, .int (0 : Int32))] [.long (1 : Int64), .long (0 : Int64), .long (0 : Int64)] G U := rfl
theorem sg_od_79 (big : Nat → List Value → qM → qW → qR) (n0 : Nat) (G : qM) (U : qW) (v0 : Int32) (v1 : Int32) : qm_run pm_m big m_210 (n0 + 7) 31 [(0, .ref 70), (1, .int v0), (2, .int v1), (3, .int (0 : Int32))] [.int (1 : Int32)] G U = qm_run pm_m big m_210 n0 47 [(0, .ref 70), (1, .int v0), (2, .int v1), (3, .int (0 : Int32)), (4, .long (0 : Int64)), (6, .long (1 : Int64)), (8, .int (0 : Int32))] [] G U := rfl
theorem sg_od_80 (big : Nat → List Value → qM → qW → qR) (n0 : Nat) (G : qM) (U : qW) (v0 : Int32) (v1 : Int32) (v2 : Int64) (v3 : Int64) (v4 : Int32) : qm_run pm_m big m_210 (n0 + 2) 70 [(0, .ref 70), (1, .int v0), (2, .int v1), (3, .int (0 : Int32)), (4, .long v2), (6, .long v3), (8, .int v4)] [] G U = qm_run pm_m big m_210 n0 73 [(0, .ref 70), (1, .int v0), (2, .int v1), (3, .int (0 : Int32)), (4, .long v2), (6, .long v3), (8, .int (0 : Int32))] [] G U := rfl
theorem sg_od_81 (big : Nat → List Value → qM → qW → qR) (n0 : Nat) (G : qM) (U : qW) (v0 : Int32) (v1 : Int32) (v2 : Int64) (v3 : Int64) (v4 : Int32) : qm_run pm_m big m_210 (n0 + 2) 211 [(0, .ref 70), (1, .int v0), (2, .int v1), (3, .int (0 : Int32)), (4, .long v2), (6, .long v3), (8, .int v4)] [] G U = qm_run pm_m big m_210 n0 215 [(0, .ref 70), (1, .int v0), (2, .int v1), (3, .int (0 : Int32)), (4, .long v2), (6, .long v3), (8, .int v4)] [.long v2, .long v3] G U := rfl
theorem sg_od_82 (big : Nat → List Value → qM → qW → qR) (n0 : Nat) (G : qM) (U : qW) (v0 : Int32) (v1 : Int32) (v2 : Int64) (v3 : Int64) (v4 : Int32) (v5 : Int64) : qm_run pm_m big m_210 (n0 + 5) 218 [(0, .ref 70), (1, .int v0), (2, .int v1), (3, .int (0 : Int32)), (4, .long v2), (6, .long v3), (8, .int v4)] [.long v5] G U = qm_run pm_m big m_210 n0 228 [(0, .ref 70), (1, .int v0), (2, .int v1), (3, .int (0 : Int32)), (4, .long v2), (6, .long v3), (8, .long v5)] [.long v5, .long v2] G U := rfl
theorem sg_od_83 (big : Nat → List Value → qM → qW → qR) (n0 : Nat) (G : qM) (U : qW) (v0 : Int32) (v1 : Int32) : qm_run pm_m big m_210 (n0 + 4) 0 [(0, .ref 70), (1, .int v0), (2, .int v1), (3, .int (1 : Int32))] [] G U = qm_run pm_m big m_210 n0 6 [(0, .ref 70), (1, .int v0), (2, .int v1), (3, .int (1 : Int32))] [.long (10 : Int64), .long (0 : Int64), .long (Int32.toInt64 v0)] G U := rfl
theorem sg_od_84 (big : Nat → List Value → qM → qW → qR) (n0 : Nat) (G : qM) (U : qW) (v0 : Int32) (v1 : Int32) : qm_run pm_m big m_210 (n0 + 5) 9 [(0, .ref 70), (1, .int v0), (2, .int v1), (3, .int (1 : Int32))] [.int (1 : Int32)] G U = qm_run pm_m big m_210 n0 18 [(0, .ref 70), (1, .int v0), (2, .int v1), (3, .int (1 : Int32))] [.long (12 : Int64), .long (0 : Int64), .long (Int32.toInt64 v1)] G U := rfl
theorem sg_od_85 (big : Nat → List Value → qM → qW → qR) (n0 : Nat) (G : qM) (U : qW) (v0 : Int32) (v1 : Int32) : qm_run pm_m big m_210 (n0 + 5) 21 [(0, .ref 70), (1, .int v0), (2, .int v1), (3, .int (1 : Int32))] [.int (1 : Int32)] G U = qm_run pm_m big m_210 n0 28 [(0, .ref 70), (1, .int v0), (2, .int v1), (3, .int (1 : Int32))] [.long (1 : Int64), .long (0 : Int64), .long (1 : Int64)] G U := rfl
theorem sg_od_86 (big : Nat → List Value → qM → qW → qR) (n0 : Nat) (G : qM) (U : qW) (v0 : Int32) (v1 : Int32) : qm_run pm_m big m_210 (n0 + 7) 31 [(0, .ref 70), (1, .int v0), (2, .int v1), (3, .int (1 : Int32))] [.int (1 : Int32)] G U = qm_run pm_m big m_210 n0 47 [(0, .ref 70), (1, .int v0), (2, .int v1), (3, .int (1 : Int32)), (4, .long (0 : Int64)), (6, .long (1 : Int64)), (8, .int (0 : Int32))] [] G U := rfl
theorem sg_od_87 (big : Nat → List Value → qM → qW → qR) (n0 : Nat) (G : qM) (U : qW) (v0 : Int32) (v1 : Int32) (v2 : Int64) (v3 : Int64) (v4 : Int32) : qm_run pm_m big m_210 (n0 + 2) 70 [(0, .ref 70), (1, .int v0), (2, .int v1), (3, .int (1 : Int32)), (4, .long v2), (6, .long v3), (8, .int v4)] [] G U = qm_run pm_m big m_210 n0 73 [(0, .ref 70), (1, .int v0), (2, .int v1), (3, .int (1 : Int32)), (4, .long v2), (6, .long v3), (8, .int (0 : Int32))] [] G U := rfl
theorem sg_od_88 (big : Nat → List Value → qM → qW → qR) (n0 : Nat) (G : qM) (U : qW) (v0 : Int32) (v1 : Int32) (v2 : Int64) (v3 : Int64) (v4 : Int32) : qm_run pm_m big m_210 (n0 + 2) 211 [(0, .ref 70), (1, .int v0), (2, .int v1), (3, .int (1 : Int32)), (4, .long v2), (6, .long v3), (8, .int v4)] [] G U = qm_run pm_m big m_210 n0 215 [(0, .ref 70), (1, .int v0), (2, .int v1), (3, .int (1 : Int32)), (4, .long v2), (6, .long v3), (8, .int v4)] [.long v2, .long v3] G U := rfl
theorem sg_od_89 (big : Nat → List Value → qM → qW → qR) (n0 : Nat) (G : qM) (U : qW) (v0 : Int32) (v1 : Int32) (v2 : Int64) (v3 : Int64) (v4 : Int32) (v5 : Int64) : qm_run pm_m big m_210 (n0 + 5) 218 [(0, .ref 70), (1, .int v0), (2, .int v1), (3, .int (1 : Int32)), (4, .long v2), (6, .long v3), (8, .int v4)] [.long v5] G U = qm_run pm_m big m_210 n0 236 [(0, .ref 70), (1, .int v0), (2, .int v1), (3, .int (1 : Int32)), (4, .long v2), (6, .long v3), (8, .long v5)] [.long v5, .long v3] G U := rfl
theorem wo_l {n W H v : Nat} {g r : qM} (u : qW) (h : w_ok n W H r) (hc : w_cs 20 n g r) (h6 : n ≤ 6) (hv : v ≤ 10) {row : Nat} (hr : row < 64) : ∀ k i a, i + k = n → q_EV m_114 5 [(0, .ref 20), (1, .int (Int32.ofNat v)), (2, .int (Int32.ofNat row)), (3, .long (Int64.ofNat a)), (5, .int (Int32.ofNat i))] [] g u (fun R => R = (some (.long (Int64.ofNat (n_pr (fun p => n_wc r v p (n_bit row p)) k i a))), g, u)) := by
  intro k
  induction k with
  | zero =>
    intro i a hi
    refine q_step 3 11 [(0, .ref 20), (1, .int (Int32.ofNat v)), (2, .int (Int32.ofNat row)), (3, .long (Int64.ofNat a)), (5, .int (Int32.ofNat i))] [.int (g 20 3), .int (Int32.ofNat i)] g u (fun big n0 => sg_od_1 big n0 g u (Int32.ofNat v) (Int32.ofNat row) (Int64.ofNat a) (Int32.ofNat i)) ?_
    refine q_ic_ge rfl (fun (hc0 : (g 20 3) ≤ (Int32.ofNat i)) => ?_) (fun hc0 => absurd (show (g 20 3) ≤ (Int32.ofNat i) from by rw [hc.1.1, h.2.1]; exact (q_le (by omega) (by omega)).mpr (by omega)) hc0)
    refine q_ret 2 (some (.long (Int64.ofNat a)), g, u) (fun _ _ => rfl) ?_
    rfl
  | succ k ih =>
    intro i a hi
    refine q_step 3 11 [(0, .ref 20), (1, .int (Int32.ofNat v)), (2, .int (Int32.ofNat row)), (3, .long (Int64.ofNat a)), (5, .int (Int32.ofNat i))] [.int (g 20 3), .int (Int32.ofNat i)] g u (fun big n0 => sg_od_1 big n0 g u (Int32.ofNat v) (Int32.ofNat row) (Int64.ofNat a) (Int32.ofNat i)) ?_
    refine q_ic_ge rfl (fun hc0 => absurd (show (g 20 3) ≤ (Int32.ofNat i) from hc0) (fun z => by rw [hc.1.1, h.2.1] at z; exact absurd ((q_le (by omega) (by omega)).mp z) (by omega))) (fun (hc0 : ¬ ((g 20 3) ≤ (Int32.ofNat i))) => ?_)
    refine q_step 5 20 [(0, .ref 20), (1, .int (Int32.ofNat v)), (2, .int (Int32.ofNat row)), (3, .long (Int64.ofNat a)), (5, .int (Int32.ofNat i))] [.int (((Int32.ofNat row) >>> ((Int32.ofNat i) &&& 31)) &&& (1 : Int32))] g u (fun big n0 => sg_od_2 big n0 g u (Int32.ofNat v) (Int32.ofNat row) (Int64.ofNat a) (Int32.ofNat i)) ?_
    refine q_if_eq rfl (fun (hc1 : (((Int32.ofNat row) >>> ((Int32.ofNat i) &&& 31)) &&& (1 : Int32)) = 0) => ?_) (fun (hc1 : ¬ ((((Int32.ofNat row) >>> ((Int32.ofNat i) &&& 31)) &&& (1 : Int32)) = 0)) => ?_)
    · refine q_step 5 36 [(0, .ref 20), (1, .int (Int32.ofNat v)), (2, .int (Int32.ofNat row)), (3, .long (Int64.ofNat a)), (5, .int (Int32.ofNat i)), (6, .int (0 : Int32))] [.int (Int32.ofNat i), .ref 22] g u (fun big n0 => sg_od_3 big n0 g u (Int32.ofNat v) (Int32.ofNat row) (Int64.ofNat a) (Int32.ofNat i)) ?_
      refine q_iald (j := i) (q_ixn (by omega) (by omega)) rfl rfl ?_
      refine q_if_ne rfl (fun (hc2 : (g 22 i) = 0) => ?_) (fun (hc2 : ¬ ((g 22 i) = 0)) => ?_)
      · refine q_step 9 5 [(0, .ref 20), (1, .int (Int32.ofNat v)), (2, .int (Int32.ofNat row)), (3, .long ((Int64.ofNat a) * (1 : Int64))), (5, .int ((Int32.ofNat i) + (1 : Int32))), (6, .int (0 : Int32))] [] g u (fun big n0 => sg_od_4 big n0 g u (Int32.ofNat v) (Int32.ofNat row) (Int64.ofNat a) (Int32.ofNat i)) ?_
        refine q_weak [(0, .ref 20), (1, .int (Int32.ofNat v)), (2, .int (Int32.ofNat row)), (3, .long ((Int64.ofNat a) * (1 : Int64))), (5, .int ((Int32.ofNat i) + (1 : Int32)))] (q_sub.cons rfl (q_sub.cons rfl (q_sub.cons rfl (q_sub.cons rfl (q_sub.cons rfl q_sub.nil))))) ?_
        have hm : g 22 i = r 76 i := (hc.2.2 i (by omega)).2.1
        have hw : n_wc r v i (n_bit row i) = 1 := by
          unfold n_wc
          rw [n_bit_f (by omega) (by omega) (show s_bit (Int32.ofNat row) (Int32.ofNat i) = 0 from hc1), if_pos (by rw [← hm]; exact hc2)]
          rfl
        rw [show ((Int64.ofNat a) * (1 : Int64)) = Int64.ofNat (a * 1) from by
          rw [Int64.ofNat_mul] <;> rfl]
        rw [q_succ, n_pr, hw]
        exact ih (i + 1) _ (by omega)
      · refine q_step 11 5 [(0, .ref 20), (1, .int (Int32.ofNat v)), (2, .int (Int32.ofNat row)), (3, .long ((Int64.ofNat a) * (Int32.toInt64 ((10 : Int32) - (Int32.ofNat v))))), (5, .int ((Int32.ofNat i) + (1 : Int32))), (6, .int (0 : Int32))] [] g u (fun big n0 => sg_od_5 big n0 g u (Int32.ofNat v) (Int32.ofNat row) (Int64.ofNat a) (Int32.ofNat i)) ?_
        refine q_weak [(0, .ref 20), (1, .int (Int32.ofNat v)), (2, .int (Int32.ofNat row)), (3, .long ((Int64.ofNat a) * (Int32.toInt64 ((10 : Int32) - (Int32.ofNat v))))), (5, .int ((Int32.ofNat i) + (1 : Int32)))] (q_sub.cons rfl (q_sub.cons rfl (q_sub.cons rfl (q_sub.cons rfl (q_sub.cons rfl q_sub.nil))))) ?_
        have hm : g 22 i = r 76 i := (hc.2.2 i (by omega)).2.1
        have hw : n_wc r v i (n_bit row i) = (10 - v) := by
          unfold n_wc
          rw [n_bit_f (by omega) (by omega) (show s_bit (Int32.ofNat row) (Int32.ofNat i) = 0 from hc1), if_neg (by rw [← hm]; exact hc2)]
          rfl
        rw [show ((Int64.ofNat a) * (Int32.toInt64 ((10 : Int32) - (Int32.ofNat v)))) = Int64.ofNat (a * (10 - v)) from by
          rw [show (10 : Int32) - Int32.ofNat v = Int32.ofNat (10 - v) from q_sb (a := 10) (b := v) (by omega) (by omega), s_i64 (by omega), Int64.ofNat_mul] <;> rfl]
        rw [q_succ, n_pr, hw]
        exact ih (i + 1) _ (by omega)
    · refine q_step 6 36 [(0, .ref 20), (1, .int (Int32.ofNat v)), (2, .int (Int32.ofNat row)), (3, .long (Int64.ofNat a)), (5, .int (Int32.ofNat i)), (6, .int (1 : Int32))] [.int (Int32.ofNat i), .ref 22] g u (fun big n0 => sg_od_6 big n0 g u (Int32.ofNat v) (Int32.ofNat row) (Int64.ofNat a) (Int32.ofNat i)) ?_
      refine q_iald (j := i) (q_ixn (by omega) (by omega)) rfl rfl ?_
      refine q_if_ne rfl (fun (hc2 : (g 22 i) = 0) => ?_) (fun (hc2 : ¬ ((g 22 i) = 0)) => ?_)
      · refine q_step 10 5 [(0, .ref 20), (1, .int (Int32.ofNat v)), (2, .int (Int32.ofNat row)), (3, .long ((Int64.ofNat a) * (0 : Int64))), (5, .int ((Int32.ofNat i) + (1 : Int32))), (6, .int (1 : Int32))] [] g u (fun big n0 => sg_od_7 big n0 g u (Int32.ofNat v) (Int32.ofNat row) (Int64.ofNat a) (Int32.ofNat i)) ?_
        refine q_weak [(0, .ref 20), (1, .int (Int32.ofNat v)), (2, .int (Int32.ofNat row)), (3, .long ((Int64.ofNat a) * (0 : Int64))), (5, .int ((Int32.ofNat i) + (1 : Int32)))] (q_sub.cons rfl (q_sub.cons rfl (q_sub.cons rfl (q_sub.cons rfl (q_sub.cons rfl q_sub.nil))))) ?_
        have hm : g 22 i = r 76 i := (hc.2.2 i (by omega)).2.1
        have hw : n_wc r v i (n_bit row i) = 0 := by
          unfold n_wc
          rw [n_bit_t (by omega) (by omega) (show ¬ s_bit (Int32.ofNat row) (Int32.ofNat i) = 0 from hc1), if_pos (by rw [← hm]; exact hc2)]
          rfl
        rw [show ((Int64.ofNat a) * (0 : Int64)) = Int64.ofNat (a * 0) from by
          rw [Int64.ofNat_mul] <;> rfl]
        rw [q_succ, n_pr, hw]
        exact ih (i + 1) _ (by omega)
      · refine q_step 10 5 [(0, .ref 20), (1, .int (Int32.ofNat v)), (2, .int (Int32.ofNat row)), (3, .long ((Int64.ofNat a) * (Int32.toInt64 (Int32.ofNat v)))), (5, .int ((Int32.ofNat i) + (1 : Int32))), (6, .int (1 : Int32))] [] g u (fun big n0 => sg_od_8 big n0 g u (Int32.ofNat v) (Int32.ofNat row) (Int64.ofNat a) (Int32.ofNat i)) ?_
        refine q_weak [(0, .ref 20), (1, .int (Int32.ofNat v)), (2, .int (Int32.ofNat row)), (3, .long ((Int64.ofNat a) * (Int32.toInt64 (Int32.ofNat v)))), (5, .int ((Int32.ofNat i) + (1 : Int32)))] (q_sub.cons rfl (q_sub.cons rfl (q_sub.cons rfl (q_sub.cons rfl (q_sub.cons rfl q_sub.nil))))) ?_
        have hm : g 22 i = r 76 i := (hc.2.2 i (by omega)).2.1
        have hw : n_wc r v i (n_bit row i) = v := by
          unfold n_wc
          rw [n_bit_t (by omega) (by omega) (show ¬ s_bit (Int32.ofNat row) (Int32.ofNat i) = 0 from hc1), if_neg (by rw [← hm]; exact hc2)]
          rfl
        rw [show ((Int64.ofNat a) * (Int32.toInt64 (Int32.ofNat v))) = Int64.ofNat (a * v) from by
          rw [s_i64 (by omega), Int64.ofNat_mul] <;> rfl]
        rw [q_succ, n_pr, hw]
        exact ih (i + 1) _ (by omega)
theorem c_wof {n W H v : Nat} {g r : qM} (u : qW) (h : w_ok n W H r) (hc : w_cs 20 n g r) (h6 : n ≤ 6) (hv : v ≤ 10) {row : Nat} (hr : row < 64) : q_BS 114 [.ref 20, .int (Int32.ofNat v), .int (Int32.ofNat row)] g u (some (.long (Int64.ofNat (n_wtc n v r row))), g, u) := by
  refine q_bx (mm := m_114) rfl (Nat.le_of_ble_eq_true rfl) rfl ?_
  refine q_step 4 5 [(0, .ref 20), (1, .int (Int32.ofNat v)), (2, .int (Int32.ofNat row)), (3, .long (1 : Int64)), (5, .int (0 : Int32))] [] g u (fun big n0 => sg_od_9 big n0 g u (Int32.ofNat v) (Int32.ofNat row)) ?_
  exact wo_l u h hc h6 hv hr n 0 1 (by omega)
theorem wa_l {n W H : Nat} {g r : qM} (u : qW) (h : w_ok n W H r) (hc : w_cs 20 n g r) (h6 : n ≤ 6) : ∀ k i a, i + k = n → q_EV m_116 4 [(0, .ref 20), (1, .long (Int64.ofNat a)), (3, .int (Int32.ofNat i))] [] g u (fun R => R = (some (.long (Int64.ofNat (n_pr (fun p => if r 76 p = 0 then 1 else 10) k i a))), g, u)) := by
  intro k
  induction k with
  | zero =>
    intro i a hi
    refine q_step 3 9 [(0, .ref 20), (1, .long (Int64.ofNat a)), (3, .int (Int32.ofNat i))] [.int (g 20 3), .int (Int32.ofNat i)] g u (fun big n0 => sg_od_10 big n0 g u (Int64.ofNat a) (Int32.ofNat i)) ?_
    refine q_ic_ge rfl (fun (hc0 : (g 20 3) ≤ (Int32.ofNat i)) => ?_) (fun hc0 => absurd (show (g 20 3) ≤ (Int32.ofNat i) from by rw [hc.1.1, h.2.1]; exact (q_le (by omega) (by omega)).mpr (by omega)) hc0)
    refine q_ret 2 (some (.long (Int64.ofNat a)), g, u) (fun _ _ => rfl) ?_
    rfl
  | succ k ih =>
    intro i a hi
    refine q_step 3 9 [(0, .ref 20), (1, .long (Int64.ofNat a)), (3, .int (Int32.ofNat i))] [.int (g 20 3), .int (Int32.ofNat i)] g u (fun big n0 => sg_od_10 big n0 g u (Int64.ofNat a) (Int32.ofNat i)) ?_
    refine q_ic_ge rfl (fun hc0 => absurd (show (g 20 3) ≤ (Int32.ofNat i) from hc0) (fun z => by rw [hc.1.1, h.2.1] at z; exact absurd ((q_le (by omega) (by omega)).mp z) (by omega))) (fun (hc0 : ¬ ((g 20 3) ≤ (Int32.ofNat i))) => ?_)
    refine q_step 4 18 [(0, .ref 20), (1, .long (Int64.ofNat a)), (3, .int (Int32.ofNat i))] [.int (Int32.ofNat i), .ref 22, .long (Int64.ofNat a)] g u (fun big n0 => sg_od_11 big n0 g u (Int64.ofNat a) (Int32.ofNat i)) ?_
    refine q_iald (j := i) (q_ixn (by omega) (by omega)) rfl rfl ?_
    refine q_if_ne rfl (fun (hc1 : (g 22 i) = 0) => ?_) (fun (hc1 : ¬ ((g 22 i) = 0)) => ?_)
    · refine q_step 6 4 [(0, .ref 20), (1, .long ((Int64.ofNat a) * (1 : Int64))), (3, .int ((Int32.ofNat i) + (1 : Int32)))] [] g u (fun big n0 => sg_od_12 big n0 g u (Int64.ofNat a) (Int32.ofNat i) (Int64.ofNat a)) ?_
      have hm : g 22 i = r 76 i := (hc.2.2 i (by omega)).2.1
      rw [show ((Int64.ofNat a) * (1 : Int64)) = Int64.ofNat (a * 1) from by
        rw [Int64.ofNat_mul] <;> rfl]
      rw [q_succ, n_pr, if_pos (by rw [← hm]; exact hc1)]
      exact ih (i + 1) _ (by omega)
    · refine q_step 5 4 [(0, .ref 20), (1, .long ((Int64.ofNat a) * (10 : Int64))), (3, .int ((Int32.ofNat i) + (1 : Int32)))] [] g u (fun big n0 => sg_od_13 big n0 g u (Int64.ofNat a) (Int32.ofNat i) (Int64.ofNat a)) ?_
      have hm : g 22 i = r 76 i := (hc.2.2 i (by omega)).2.1
      rw [show ((Int64.ofNat a) * (10 : Int64)) = Int64.ofNat (a * 10) from by
        rw [Int64.ofNat_mul] <;> rfl]
      rw [q_succ, n_pr, if_neg (by rw [← hm]; exact hc1)]
      exact ih (i + 1) _ (by omega)
theorem c_waf {n W H : Nat} {g r : qM} (u : qW) (h : w_ok n W H r) (hc : w_cs 20 n g r) : q_BS 116 [.ref 20] g u (some (.long (Int64.ofNat (n_whc n r))), g, u) := by
  refine q_bx (mm := m_116) rfl (Nat.le_of_ble_eq_true rfl) rfl ?_
  refine q_step 4 4 [(0, .ref 20), (1, .long (1 : Int64)), (3, .int (0 : Int32))] [] g u (fun big n0 => sg_od_14 big n0 g u) ?_
  exact wa_l u h hc h.1.2.2.2.2 n 0 1 (by omega)
theorem ft_l {n W H : Nat} {g r : qM} (u : qW) (h : w_ok n W H r) (hc : w_cs 20 n g r) (h6 : n ≤ 6) {row : Nat} (hr : row < 64) : ∀ k i, i + k = n → q_EV m_115 10 [(0, .ref 34), (1, .ref 20), (2, .int (Int32.ofNat row)), (3, .int (Int32.ofNat i))] [] (s_row_ 37 (f_flb r (n_bit row)) i (s_cpl 35 20 g)) u (fun R => R = (none, s_rfm (f_flb r (n_bit row)) n g, u)) := by
  intro k
  induction k with
  | zero =>
    intro i hi
    refine q_step 3 15 [(0, .ref 34), (1, .ref 20), (2, .int (Int32.ofNat row)), (3, .int (Int32.ofNat i))] [.int (g 20 3), .int (Int32.ofNat i)] (s_row_ 37 (f_flb r (n_bit row)) i (s_cpl 35 20 g)) u (fun big n0 => sg_od_15 big n0 (s_row_ 37 (f_flb r (n_bit row)) i (s_cpl 35 20 g)) u (Int32.ofNat row) (Int32.ofNat i)) ?_
    refine q_ic_ge rfl (fun (hc0 : (g 20 3) ≤ (Int32.ofNat i)) => ?_) (fun hc0 => absurd (show (g 20 3) ≤ (Int32.ofNat i) from by rw [hc.1.1, h.2.1]; exact (q_le (by omega) (by omega)).mpr (by omega)) hc0)
    refine q_ret 1 (none, (s_row_ 37 (f_flb r (n_bit row)) i (s_cpl 35 20 g)), u) (fun _ _ => rfl) ?_
    rw [show i = n by omega]
    rfl
  | succ k ih =>
    intro i hi
    refine q_step 3 15 [(0, .ref 34), (1, .ref 20), (2, .int (Int32.ofNat row)), (3, .int (Int32.ofNat i))] [.int (g 20 3), .int (Int32.ofNat i)] (s_row_ 37 (f_flb r (n_bit row)) i (s_cpl 35 20 g)) u (fun big n0 => sg_od_15 big n0 (s_row_ 37 (f_flb r (n_bit row)) i (s_cpl 35 20 g)) u (Int32.ofNat row) (Int32.ofNat i)) ?_
    refine q_ic_ge rfl (fun hc0 => absurd (show (g 20 3) ≤ (Int32.ofNat i) from hc0) (fun z => by rw [hc.1.1, h.2.1] at z; exact absurd ((q_le (by omega) (by omega)).mp z) (by omega))) (fun (hc0 : ¬ ((g 20 3) ≤ (Int32.ofNat i))) => ?_)
    refine q_step 5 23 [(0, .ref 34), (1, .ref 20), (2, .int (Int32.ofNat row)), (3, .int (Int32.ofNat i))] [.int (((Int32.ofNat row) >>> ((Int32.ofNat i) &&& 31)) &&& (1 : Int32))] (s_row_ 37 (f_flb r (n_bit row)) i (s_cpl 35 20 g)) u (fun big n0 => sg_od_16 big n0 (s_row_ 37 (f_flb r (n_bit row)) i (s_cpl 35 20 g)) u (Int32.ofNat row) (Int32.ofNat i)) ?_
    refine q_if_eq rfl (fun (hc1 : (((Int32.ofNat row) >>> ((Int32.ofNat i) &&& 31)) &&& (1 : Int32)) = 0) => ?_) (fun (hc1 : ¬ ((((Int32.ofNat row) >>> ((Int32.ofNat i) &&& 31)) &&& (1 : Int32)) = 0)) => ?_)
    · refine q_step 2 10 [(0, .ref 34), (1, .ref 20), (2, .int (Int32.ofNat row)), (3, .int ((Int32.ofNat i) + (1 : Int32)))] [] (s_row_ 37 (f_flb r (n_bit row)) i (s_cpl 35 20 g)) u (fun big n0 => sg_od_17 big n0 (s_row_ 37 (f_flb r (n_bit row)) i (s_cpl 35 20 g)) u (Int32.ofNat row) (Int32.ofNat i)) ?_
      have hm : g 22 i = r 76 i := (hc.2.2 i (by omega)).2.1
      have hF : f_flb r (n_bit row) i = (s_cpl 35 20 g) 37 i := by
        unfold f_flb
        rw [n_bit_f (by omega) (by omega) (show s_bit (Int32.ofNat row) (Int32.ofNat i) = 0 from hc1), if_neg (by decide), ← hm]
        exact (s_cpl_2 (a := 35) (b := 20) (by omega) (by omega)).symm
      rw [q_succ, ← s_row_k hF]
      exact ih (i + 1) (by omega)
    · refine q_step 7 39 [(0, .ref 34), (1, .ref 20), (2, .int (Int32.ofNat row)), (3, .int (Int32.ofNat i))] [.int (Int32.ofNat i), .ref 22, .int (Int32.ofNat i), .ref 37] (s_row_ 37 (f_flb r (n_bit row)) i (s_cpl 35 20 g)) u (fun big n0 => sg_od_18 big n0 (s_row_ 37 (f_flb r (n_bit row)) i (s_cpl 35 20 g)) u (Int32.ofNat row) (Int32.ofNat i)) ?_
      refine q_iald (j := i) (q_ixn (by omega) (by omega)) rfl rfl ?_
      refine q_call (M2 := 72) (rest := [.int (Int32.ofNat i), .ref 37]) (b_flipOf _ _ _) (fun _ _ => rfl) ?_
      refine q_iast (j := i) (q_ixn (by omega) (by omega)) rfl rfl ?_
      refine q_step 2 10 [(0, .ref 34), (1, .ref 20), (2, .int (Int32.ofNat row)), (3, .int ((Int32.ofNat i) + (1 : Int32)))] [] (q_up (s_row_ 37 (f_flb r (n_bit row)) i (s_cpl 35 20 g)) 37 i (s_fo (g 22 i))) u (fun big n0 => sg_od_17 big n0 (q_up (s_row_ 37 (f_flb r (n_bit row)) i (s_cpl 35 20 g)) 37 i (s_fo (g 22 i))) u (Int32.ofNat row) (Int32.ofNat i)) ?_
      have hm : g 22 i = r 76 i := (hc.2.2 i (by omega)).2.1
      have hF : f_flb r (n_bit row) i = s_fo (g 22 i) := by
        unfold f_flb
        rw [n_bit_t (by omega) (by omega) (show ¬ s_bit (Int32.ofNat row) (Int32.ofNat i) = 0 from hc1), if_pos rfl, hm]
      rw [q_succ, show (q_up (s_row_ 37 (f_flb r (n_bit row)) i (s_cpl 35 20 g)) 37 i (s_fo (g 22 i))) = s_row_ 37 (f_flb r (n_bit row)) (i + 1) (s_cpl 35 20 g) from by
        rw [← hF]
        exact s_row_s]
      exact ih (i + 1) (by omega)
theorem c_flt {n W H : Nat} {g r : qM} (u : qW) (h : w_ok n W H r) (hc : w_cs 20 n g r) {row : Nat} (hr : row < 64) : q_BS 115 [.ref 34, .ref 20, .int (Int32.ofNat row)] g u (none, s_rfm (f_flb r (n_bit row)) n g, u) := by
  refine q_bx (mm := m_115) rfl (Nat.le_of_ble_eq_true rfl) rfl ?_
  refine q_step 3 5 [(0, .ref 34), (1, .ref 20), (2, .int (Int32.ofNat row))] [.ref 20, .ref 35] g u (fun big n0 => sg_od_19 big n0 g u (Int32.ofNat row)) ?_
  refine q_call (M2 := 42) (rest := []) (b_cpl35_20 _ _) (fun _ _ => rfl) ?_
  refine q_step 2 10 [(0, .ref 34), (1, .ref 20), (2, .int (Int32.ofNat row)), (3, .int (0 : Int32))] [] (s_cpl 35 20 g) u (fun big n0 => sg_od_20 big n0 (s_cpl 35 20 g) u (Int32.ofNat row)) ?_
  have e := ft_l u h hc h.1.2.2.2.2 hr n 0 (by omega)
  rw [s_row_0] at e
  exact e
theorem wg_l (u : qW) {n W H v t : Nat} {r : qM} (h : w_ok n W H r) (h6 : n ≤ 6) (h2n : 2 ^ n ≤ 64) (hv : v ≤ 10) (ht0 : t ≤ 60) : ∀ k row a g, row + k = 2 ^ n → w_cs 20 n g r → w_tr n g r → (∀ p, p < n → g 39 p = r 78 p) → q_EV m_113 14 [(0, .ref 34), (1, .ref 20), (2, .int (Int32.ofNat v)), (3, .int (Int32.ofNat t)), (4, .long (Int64.ofNat a)), (6, .int (Int32.ofNat row))] [] g u (w_po w_fc g (.long (Int64.ofNat (n_su (fun row => n_wtc n v r row * n_oA n t r (n_bit row)) k row a)))) := by
  intro k
  induction k with
  | zero =>
    intro row a g hi hc ht hg
    refine q_step 5 22 [(0, .ref 34), (1, .ref 20), (2, .int (Int32.ofNat v)), (3, .int (Int32.ofNat t)), (4, .long (Int64.ofNat a)), (6, .int (Int32.ofNat row))] [.int ((1 : Int32) <<< ((g 20 3) &&& 31)), .int (Int32.ofNat row)] g u (fun big n0 => sg_od_21 big n0 g u (Int32.ofNat v) (Int32.ofNat t) (Int64.ofNat a) (Int32.ofNat row)) ?_
    refine q_ic_ge rfl (fun (hc0 : ((1 : Int32) <<< ((g 20 3) &&& 31)) ≤ (Int32.ofNat row)) => ?_) (fun hc0 => absurd (show ((1 : Int32) <<< ((g 20 3) &&& 31)) ≤ (Int32.ofNat row) from by rw [hc.1.1, h.2.1, s_rows2 h6]; exact (q_le (by omega) (by omega)).mpr (by omega)) hc0)
    refine q_ret 2 (some (.long (Int64.ofNat a)), g, u) (fun _ _ => rfl) ?_
    exact ⟨g, u, rfl, w_fc_rfl g⟩
  | succ k ih =>
    intro row a g hi hc ht hg
    refine q_step 5 22 [(0, .ref 34), (1, .ref 20), (2, .int (Int32.ofNat v)), (3, .int (Int32.ofNat t)), (4, .long (Int64.ofNat a)), (6, .int (Int32.ofNat row))] [.int ((1 : Int32) <<< ((g 20 3) &&& 31)), .int (Int32.ofNat row)] g u (fun big n0 => sg_od_21 big n0 g u (Int32.ofNat v) (Int32.ofNat t) (Int64.ofNat a) (Int32.ofNat row)) ?_
    refine q_ic_ge rfl (fun hc0 => absurd (show ((1 : Int32) <<< ((g 20 3) &&& 31)) ≤ (Int32.ofNat row) from hc0) (fun z => by rw [hc.1.1, h.2.1, s_rows2 h6] at z; exact absurd ((q_le (by omega) (by omega)).mp z) (by omega))) (fun (hc0 : ¬ (((1 : Int32) <<< ((g 20 3) &&& 31)) ≤ (Int32.ofNat row))) => ?_)
    refine q_step 3 29 [(0, .ref 34), (1, .ref 20), (2, .int (Int32.ofNat v)), (3, .int (Int32.ofNat t)), (4, .long (Int64.ofNat a)), (6, .int (Int32.ofNat row))] [.int (Int32.ofNat row), .int (Int32.ofNat v), .ref 20] g u (fun big n0 => sg_od_22 big n0 g u (Int32.ofNat v) (Int32.ofNat t) (Int64.ofNat a) (Int32.ofNat row)) ?_
    have hwl := n_wtc_le h6 hv r row
    refine q_call (M2 := 114) (rest := []) (c_wof u h hc h6 hv (row := row) (by omega)) (fun _ _ => rfl) ?_
    refine q_step 4 38 [(0, .ref 34), (1, .ref 20), (2, .int (Int32.ofNat v)), (3, .int (Int32.ofNat t)), (4, .long (Int64.ofNat a)), (6, .int (Int32.ofNat row)), (7, .long (Int64.ofNat (n_wtc n v r row)))] [.int (lg_cmp (Int64.ofNat (n_wtc n v r row)) (0 : Int64))] g u (fun big n0 => sg_od_23 big n0 g u (Int32.ofNat v) (Int32.ofNat t) (Int64.ofNat a) (Int32.ofNat row) (Int64.ofNat (n_wtc n v r row))) ?_
    refine q_if_le rfl (fun (hc1 : (lg_cmp (Int64.ofNat (n_wtc n v r row)) (0 : Int64)) ≤ 0) => ?_) (fun (hc1 : ¬ ((lg_cmp (Int64.ofNat (n_wtc n v r row)) (0 : Int64)) ≤ 0)) => ?_)
    · refine q_step 2 14 [(0, .ref 34), (1, .ref 20), (2, .int (Int32.ofNat v)), (3, .int (Int32.ofNat t)), (4, .long (Int64.ofNat a)), (6, .int ((Int32.ofNat row) + (1 : Int32))), (7, .long (Int64.ofNat (n_wtc n v r row)))] [] g u (fun big n0 => sg_od_24 big n0 g u (Int32.ofNat v) (Int32.ofNat t) (Int64.ofNat a) (Int32.ofNat row) (Int64.ofNat (n_wtc n v r row))) ?_
      refine q_weak [(0, .ref 34), (1, .ref 20), (2, .int (Int32.ofNat v)), (3, .int (Int32.ofNat t)), (4, .long (Int64.ofNat a)), (6, .int ((Int32.ofNat row) + (1 : Int32)))] (q_sub.cons rfl (q_sub.cons rfl (q_sub.cons rfl (q_sub.cons rfl (q_sub.cons rfl (q_sub.cons rfl q_sub.nil)))))) ?_
      have hz : n_wtc n v r row = 0 := (s_lgt (by omega)).mp hc1
      rw [q_succ, n_su, hz, Nat.zero_mul, Nat.add_zero]
      exact ih (row + 1) a g (by omega) hc ht hg
    · refine q_step 3 45 [(0, .ref 34), (1, .ref 20), (2, .int (Int32.ofNat v)), (3, .int (Int32.ofNat t)), (4, .long (Int64.ofNat a)), (6, .int (Int32.ofNat row)), (7, .long (Int64.ofNat (n_wtc n v r row)))] [.int (Int32.ofNat row), .ref 20, .ref 34] g u (fun big n0 => sg_od_25 big n0 g u (Int32.ofNat v) (Int32.ofNat t) (Int64.ofNat a) (Int32.ofNat row) (Int64.ofNat (n_wtc n v r row))) ?_
      have hy := w_cpl h6 hc ht
      refine q_call (M2 := 115) (rest := []) (c_flt u h hc (row := row) (by omega)) (fun _ _ => rfl) ?_
      refine q_step 5 57 [(0, .ref 34), (1, .ref 20), (2, .int (Int32.ofNat v)), (3, .int (Int32.ofNat t)), (4, .long (Int64.ofNat a)), (6, .int (Int32.ofNat row)), (7, .long (Int64.ofNat (n_wtc n v r row)))] [.int (Int32.ofNat t), .ref 35, .ref 28] (s_rfm (f_flb r (n_bit row)) n g) u (fun big n0 => sg_od_26 big n0 (s_rfm (f_flb r (n_bit row)) n g) u (Int32.ofNat v) (Int32.ofNat t) (Int64.ofNat a) (Int32.ofNat row) (Int64.ofNat (n_wtc n v r row))) ?_
      refine q_call (M2 := 76) (rest := []) (c_tss35 u (w_ok_row (f_flb_4 h (n_bit row)) h) (w_cs_row (fun p _ => rfl) hy) ht0) (fun _ _ => rfl) ?_
      refine q_step 3 66 [(0, .ref 34), (1, .ref 20), (2, .int (Int32.ofNat v)), (3, .int (Int32.ofNat t)), (4, .long (Int64.ofNat a)), (6, .int (Int32.ofNat row)), (7, .long (Int64.ofNat (n_wtc n v r row)))] [.ref 35, .long (Int64.ofNat a)] (s_rfg (f_flb r (n_bit row)) n t g) u (fun big n0 => sg_od_27 big n0 (s_rfg (f_flb r (n_bit row)) n t g) u (Int32.ofNat v) (Int32.ofNat t) (Int64.ofNat a) (Int32.ofNat row) (Int64.ofNat (n_wtc n v r row))) ?_
      by_cases hc2 : n_oA n t r (n_bit row) = 0
      · have hal := c_all (g := (s_rfg (f_flb r (n_bit row)) n t g)) u (w_ok_rit t _ (w_ok_row (f_flb_4 h (n_bit row)) h)) (w_up35 (w_tss35 (w_ok_row (f_flb_4 h (n_bit row)) h) (w_cs_row (fun p _ => rfl) hy) t)) (fun p hp => by rw [s_rfg_go, s_rit_g (by omega)]; exact hg p hp)
        rw [f_hav_rit, show f_hav n (gh_row n (f_flb r (n_bit row)) r) = f_hav n r from rfl, n_oA_i, if_pos hc2] at hal
        refine q_call (M2 := 99) (rest := [.long (Int64.ofNat a)]) (hal) (fun _ _ => rfl) ?_
        refine q_step 6 14 [(0, .ref 34), (1, .ref 20), (2, .int (Int32.ofNat v)), (3, .int (Int32.ofNat t)), (4, .long ((Int64.ofNat a) + (0 : Int64))), (6, .int ((Int32.ofNat row) + (1 : Int32))), (7, .long (Int64.ofNat (n_wtc n v r row)))] [] (s_rfg (f_flb r (n_bit row)) n t g) u (fun big n0 => sg_od_28 big n0 (s_rfg (f_flb r (n_bit row)) n t g) u (Int32.ofNat v) (Int32.ofNat t) (Int64.ofNat a) (Int32.ofNat row) (Int64.ofNat (n_wtc n v r row)) (Int64.ofNat a)) ?_
        refine q_weak [(0, .ref 34), (1, .ref 20), (2, .int (Int32.ofNat v)), (3, .int (Int32.ofNat t)), (4, .long ((Int64.ofNat a) + (0 : Int64))), (6, .int ((Int32.ofNat row) + (1 : Int32)))] (q_sub.cons rfl (q_sub.cons rfl (q_sub.cons rfl (q_sub.cons rfl (q_sub.cons rfl (q_sub.cons rfl q_sub.nil)))))) ?_
        rw [q_succ, n_su, hc2, Nat.mul_zero, Nat.add_zero, show ((Int64.ofNat a) + (0 : Int64)) = Int64.ofNat a from Int64.add_zero _]
        exact q_EV.imp (ih (row + 1) a _ (by omega) (w_cs_fc s_rfg_fc hc) (s_rfg_tr ht) (fun p hp => by rw [s_rfg_go]; exact hg p hp)) (fun R z => w_po_c s_rfg_fc rfl z)
      · have hal := c_all (g := (s_rfg (f_flb r (n_bit row)) n t g)) u (w_ok_rit t _ (w_ok_row (f_flb_4 h (n_bit row)) h)) (w_up35 (w_tss35 (w_ok_row (f_flb_4 h (n_bit row)) h) (w_cs_row (fun p _ => rfl) hy) t)) (fun p hp => by rw [s_rfg_go, s_rit_g (by omega)]; exact hg p hp)
        rw [f_hav_rit, show f_hav n (gh_row n (f_flb r (n_bit row)) r) = f_hav n r from rfl, n_oA_i, if_neg hc2] at hal
        refine q_call (M2 := 99) (rest := [.long (Int64.ofNat a)]) (hal) (fun _ _ => rfl) ?_
        refine q_step 7 14 [(0, .ref 34), (1, .ref 20), (2, .int (Int32.ofNat v)), (3, .int (Int32.ofNat t)), (4, .long ((Int64.ofNat a) + (Int64.ofNat (n_wtc n v r row)))), (6, .int ((Int32.ofNat row) + (1 : Int32))), (7, .long (Int64.ofNat (n_wtc n v r row)))] [] (s_rfg (f_flb r (n_bit row)) n t g) u (fun big n0 => sg_od_29 big n0 (s_rfg (f_flb r (n_bit row)) n t g) u (Int32.ofNat v) (Int32.ofNat t) (Int64.ofNat a) (Int32.ofNat row) (Int64.ofNat (n_wtc n v r row)) (Int64.ofNat a)) ?_
        refine q_weak [(0, .ref 34), (1, .ref 20), (2, .int (Int32.ofNat v)), (3, .int (Int32.ofNat t)), (4, .long ((Int64.ofNat a) + (Int64.ofNat (n_wtc n v r row)))), (6, .int ((Int32.ofNat row) + (1 : Int32)))] (q_sub.cons rfl (q_sub.cons rfl (q_sub.cons rfl (q_sub.cons rfl (q_sub.cons rfl (q_sub.cons rfl q_sub.nil)))))) ?_
        rw [q_succ, n_su, (n_oA_01 n t r (n_bit row)).resolve_left hc2, Nat.mul_one, show ((Int64.ofNat a) + (Int64.ofNat (n_wtc n v r row))) = Int64.ofNat (a + n_wtc n v r row) from (Int64.ofNat_add _ _).symm]
        exact q_EV.imp (ih (row + 1) _ _ (by omega) (w_cs_fc s_rfg_fc hc) (s_rfg_tr ht) (fun p hp => by rw [s_rfg_go]; exact hg p hp)) (fun R z => w_po_c s_rfg_fc rfl z)
theorem c_wag113 {n W H : Nat} {g r : qM} (u : qW) (h : w_ok n W H r) (hc : w_cs 20 n g r) {v t : Nat} (hv : v ≤ 10) (ht0 : t ≤ 60) (hgo : ∀ p, p < n → g 24 p = r 78 p) : w_BS w_fc 113 [.ref 34, .ref 20, .int (Int32.ofNat v), .int (Int32.ofNat t)] g u (.long (Int64.ofNat (n_odc n v t r))) := by
  refine w_bs (mm := m_113) rfl (Nat.le_of_ble_eq_true rfl) rfl ?_
  have h5 : n ≤ 6 := h.1.2.2.2.2
  have hy := w_cpy (a := 35) (b := 20) h5 (by omega) hc
  refine q_step 3 5 [(0, .ref 34), (1, .ref 20), (2, .int (Int32.ofNat v)), (3, .int (Int32.ofNat t))] [.ref 20, .ref 35] g u (fun big n0 => sg_od_30 big n0 g u (Int32.ofNat v) (Int32.ofNat t)) ?_
  refine q_call (M2 := 41) (rest := []) (b_cpy35_20 _ _) (fun _ _ => rfl) ?_
  refine q_step 4 14 [(0, .ref 34), (1, .ref 20), (2, .int (Int32.ofNat v)), (3, .int (Int32.ofNat t)), (4, .long (0 : Int64)), (6, .int (0 : Int32))] [] (s_cpy 35 20 g) u (fun big n0 => sg_od_31 big n0 (s_cpy 35 20 g) u (Int32.ofNat v) (Int32.ofNat t)) ?_
  exact q_EV.imp (wg_l u h h5 (n_bnd h5).1 hv ht0 (2 ^ n) 0 0 (s_cpy 35 20 g) (by omega) (w_cs_fc w_cpy_fc hc) (w_cs_tr hy) (fun p hp => by rw [show s_cpy 35 20 g 39 p = g 24 p from s_cpy_4 (a := 35) (b := 20) (by omega) (by omega)]; exact hgo p hp)) (fun R z => w_po_c w_cpy_fc rfl z)
theorem cd_l (g : qM) (u : qW) {x y : Int64} : ∀ k i a b, i + k = 100 → a < 1000000000 → b < 1000000000 → q_EV m_117 9 [(0, .long x), (2, .long y), (4, .long (Int64.ofNat a)), (6, .long (Int64.ofNat b)), (8, .int (Int32.ofNat i))] [] g u (fun R => R = (some (.long (Int64.ofNat (n_eu k a b))), g, u)) := by
  intro k
  induction k with
  | zero =>
    intro i a b hi ha hb
    refine q_step 2 13 [(0, .long x), (2, .long y), (4, .long (Int64.ofNat a)), (6, .long (Int64.ofNat b)), (8, .int (Int32.ofNat i))] [.int (100 : Int32), .int (Int32.ofNat i)] g u (fun big n0 => sg_od_32 big n0 g u x y (Int64.ofNat a) (Int64.ofNat b) (Int32.ofNat i)) ?_
    refine q_ic_ge rfl (fun (hc0 : (100 : Int32) ≤ (Int32.ofNat i)) => ?_) (fun hc0 => absurd (show (100 : Int32) ≤ (Int32.ofNat i) from (q_le (i := 100) (j := i) (by omega) (by omega)).mpr (by omega)) hc0)
    refine q_ret 2 (some (.long (Int64.ofNat a)), g, u) (fun _ _ => rfl) ?_
    rfl
  | succ k ih =>
    intro i a b hi ha hb
    refine q_step 2 13 [(0, .long x), (2, .long y), (4, .long (Int64.ofNat a)), (6, .long (Int64.ofNat b)), (8, .int (Int32.ofNat i))] [.int (100 : Int32), .int (Int32.ofNat i)] g u (fun big n0 => sg_od_32 big n0 g u x y (Int64.ofNat a) (Int64.ofNat b) (Int32.ofNat i)) ?_
    refine q_ic_ge rfl (fun hc0 => absurd (show (100 : Int32) ≤ (Int32.ofNat i) from hc0) (fun z => absurd ((q_le (i := 100) (j := i) (by omega) (by omega)).mp z) (by omega))) (fun (hc0 : ¬ ((100 : Int32) ≤ (Int32.ofNat i))) => ?_)
    refine q_step 3 20 [(0, .long x), (2, .long y), (4, .long (Int64.ofNat a)), (6, .long (Int64.ofNat b)), (8, .int (Int32.ofNat i))] [.int (lg_cmp (Int64.ofNat b) (0 : Int64))] g u (fun big n0 => sg_od_33 big n0 g u x y (Int64.ofNat a) (Int64.ofNat b) (Int32.ofNat i)) ?_
    refine q_if_eq rfl (fun (hc1 : (lg_cmp (Int64.ofNat b) (0 : Int64)) = 0) => ?_) (fun (hc1 : ¬ ((lg_cmp (Int64.ofNat b) (0 : Int64)) = 0)) => ?_)
    · refine q_ret 2 (some (.long (Int64.ofNat a)), g, u) (fun _ _ => rfl) ?_
      have e : b = 0 := (q_leq hb (by omega)).mp (s_lcmp0.mp hc1)
      rw [n_eu, if_pos e]
    · refine q_step 2 27 [(0, .long x), (2, .long y), (4, .long (Int64.ofNat a)), (6, .long (Int64.ofNat b)), (8, .int (Int32.ofNat i))] [.long (Int64.ofNat b), .long (Int64.ofNat a)] g u (fun big n0 => sg_od_34 big n0 g u x y (Int64.ofNat a) (Int64.ofNat b) (Int32.ofNat i)) ?_
      refine q_lrem (fun z => hc1 (s_lcmp0.mpr z)) rfl ?_
      refine q_step 7 9 [(0, .long x), (2, .long y), (4, .long (Int64.ofNat b)), (6, .long ((Int64.ofNat a) - (Int64.ofNat a) / (Int64.ofNat b) * (Int64.ofNat b))), (8, .int ((Int32.ofNat i) + (1 : Int32))), (9, .long ((Int64.ofNat a) - (Int64.ofNat a) / (Int64.ofNat b) * (Int64.ofNat b)))] [] g u (fun big n0 => sg_od_35 big n0 g u x y (Int64.ofNat a) (Int64.ofNat b) (Int32.ofNat i) ((Int64.ofNat a) - (Int64.ofNat a) / (Int64.ofNat b) * (Int64.ofNat b))) ?_
      refine q_weak [(0, .long x), (2, .long y), (4, .long (Int64.ofNat b)), (6, .long ((Int64.ofNat a) - (Int64.ofNat a) / (Int64.ofNat b) * (Int64.ofNat b))), (8, .int ((Int32.ofNat i) + (1 : Int32)))] (q_sub.cons rfl (q_sub.cons rfl (q_sub.cons rfl (q_sub.cons rfl (q_sub.cons rfl q_sub.nil))))) ?_
      have e : ¬ b = 0 := fun z => hc1 (s_lcmp0.mpr (by rw [z]; rfl))
      rw [q_succ, n_eu, if_neg e, show ((Int64.ofNat a) - (Int64.ofNat a) / (Int64.ofNat b) * (Int64.ofNat b)) = Int64.ofNat (a % b) from q_lrm ha hb]
      exact ih (i + 1) b (a % b) (by omega) hb (by have := Nat.mod_lt a (show 0 < b by omega); omega)
theorem b_cd (g : qM) (u : qW) {a b : Nat} (ha : a < 1000000000) (hb : b < 1048576) : q_BS 117 [.long (Int64.ofNat a), .long (Int64.ofNat b)] g u (some (.long (Int64.ofNat (Nat.gcd a b))), g, u) := by
  refine q_bx (mm := m_117) rfl (Nat.le_of_ble_eq_true rfl) rfl ?_
  refine q_step 6 9 [(0, .long (Int64.ofNat a)), (2, .long (Int64.ofNat b)), (4, .long (Int64.ofNat a)), (6, .long (Int64.ofNat b)), (8, .int (0 : Int32))] [] g u (fun big n0 => sg_od_36 big n0 g u (Int64.ofNat a) (Int64.ofNat b)) ?_
  have e := cd_l g u (x := Int64.ofNat a) (y := Int64.ofNat b) 100 0 a b (by omega) ha (by omega)
  rw [n_eu_ok 20 100 a b hb (by omega)] at e
  exact e
theorem c_odds0 {n W H : Nat} {g r : qM} (u : qW) (h : w_ok n W H r) (hc : w_cs 20 n g r) {v t : Nat} (hv : v ≤ 10) (ht0 : t ≤ 12) (hgo : ∀ p, p < n → g 24 p = r 78 p) : w_BS w_fc 112 [.ref 8, .int (Int32.ofNat v), .int (Int32.ofNat t), .int (0 : Int32)] g u (.long (f_od 0 n v t r)) := by
  refine w_bs (mm := m_112) rfl (Nat.le_of_ble_eq_true rfl) rfl ?_
  refine q_step 1 1 [(0, .ref 8), (1, .int (Int32.ofNat v)), (2, .int (Int32.ofNat t)), (3, .int (0 : Int32))] [.int (Int32.ofNat v)] g u (fun big n0 => sg_od_37 big n0 g u (Int32.ofNat v) (Int32.ofNat t)) ?_
  refine q_if_lt rfl (fun hc0 => absurd (show (Int32.ofNat v) < 0 from hc0) (fun z => by have z := Int32.lt_iff_toInt_lt.mp z; rw [q_nat (by omega)] at z; have e : (0 : Int32).toInt = 0 := rfl; omega)) (fun (hc0 : ¬ ((Int32.ofNat v) < 0)) => ?_)
  refine q_step 2 7 [(0, .ref 8), (1, .int (Int32.ofNat v)), (2, .int (Int32.ofNat t)), (3, .int (0 : Int32))] [.int (10 : Int32), .int (Int32.ofNat v)] g u (fun big n0 => sg_od_38 big n0 g u (Int32.ofNat v) (Int32.ofNat t)) ?_
  refine q_ic_gt rfl (fun hc1 => absurd (show (10 : Int32) < (Int32.ofNat v) from hc1) (fun z => absurd ((q_lt (i := 10) (j := v) (by omega) (by omega)).mp z) (by omega))) (fun (hc1 : ¬ ((10 : Int32) < (Int32.ofNat v))) => ?_)
  refine q_step 1 11 [(0, .ref 8), (1, .int (Int32.ofNat v)), (2, .int (Int32.ofNat t)), (3, .int (0 : Int32))] [.int (Int32.ofNat t)] g u (fun big n0 => sg_od_39 big n0 g u (Int32.ofNat v) (Int32.ofNat t)) ?_
  refine q_call (M2 := 90) (rest := []) (b_srch1 g u ht0) (fun _ _ => rfl) ?_
  refine q_step 2 18 [(0, .ref 8), (1, .int (Int32.ofNat v)), (2, .int (Int32.ofNat t)), (3, .int (0 : Int32))] [.int (0 : Int32)] g u (fun big n0 => sg_od_40 big n0 g u (Int32.ofNat v) (Int32.ofNat t)) ?_
  refine q_call (M2 := 57) (rest := []) (show q_BS 57 [.int (0 : Int32)] g u (some (.int 1), g, u) from b_isHalf 0 g u) (fun _ _ => rfl) ?_
  refine q_step 7 38 [(0, .ref 8), (1, .int (Int32.ofNat v)), (2, .int (Int32.ofNat t)), (3, .int (0 : Int32))] [.int (Int32.ofNat t), .int (Int32.ofNat v), .ref 20, .ref 34] g u (fun big n0 => sg_od_41 big n0 g u (Int32.ofNat v) (Int32.ofNat t)) ?_
  obtain ⟨g1, u1, hb, hf⟩ := c_wag113 u h hc hv (t := t) (by omega) hgo
  have hcf := w_cs_fc hf hc
  have h6 : n ≤ 6 := h.1.2.2.2.2
  have l1 := n_odc_le (t := t) h6 hv r
  have l2 := n_wh_le h6 r
  have l3 := n_wh_pos n r
  have l4 : 0 < (Nat.gcd (n_odc n v t r) (n_whc n r)) := Nat.gcd_pos_of_pos_right _ l3
  have l5 : (Nat.gcd (n_odc n v t r) (n_whc n r)) ≤ n_whc n r := Nat.gcd_le_right _ l3
  refine q_call (M2 := 113) (rest := []) (hb) (fun _ _ => rfl) ?_
  refine q_step 3 47 [(0, .ref 8), (1, .int (Int32.ofNat v)), (2, .int (Int32.ofNat t)), (3, .int (0 : Int32)), (4, .long (Int64.ofNat (n_odc n v t r)))] [.ref 20] g1 u1 (fun big n0 => sg_od_42 big n0 g1 u1 (Int32.ofNat v) (Int32.ofNat t) (Int64.ofNat (n_odc n v t r))) ?_
  refine q_call (M2 := 116) (rest := []) (c_waf u1 h hcf) (fun _ _ => rfl) ?_
  refine q_step 3 56 [(0, .ref 8), (1, .int (Int32.ofNat v)), (2, .int (Int32.ofNat t)), (3, .int (0 : Int32)), (4, .long (Int64.ofNat (n_odc n v t r))), (6, .long (Int64.ofNat (n_whc n r)))] [.long (Int64.ofNat (n_whc n r)), .long (Int64.ofNat (n_odc n v t r))] g1 u1 (fun big n0 => sg_od_43 big n0 g1 u1 (Int32.ofNat v) (Int32.ofNat t) (Int64.ofNat (n_odc n v t r)) (Int64.ofNat (n_whc n r))) ?_
  refine q_call (M2 := 117) (rest := []) (b_cd g1 u1 (by omega) (by omega)) (fun _ _ => rfl) ?_
  refine q_step 9 78 [(0, .ref 8), (1, .int (Int32.ofNat v)), (2, .int (Int32.ofNat t)), (3, .int (0 : Int32)), (4, .long (Int64.ofNat (n_odc n v t r))), (6, .long (Int64.ofNat (n_whc n r))), (8, .long (Int64.ofNat (Nat.gcd (n_odc n v t r) (n_whc n r)))), (10, .long (Int64.ofNat (n_odc n v t r)))] [.int (lg_cmp (Int64.ofNat (Nat.gcd (n_odc n v t r) (n_whc n r))) (0 : Int64))] g1 u1 (fun big n0 => sg_od_44 big n0 g1 u1 (Int32.ofNat v) (Int32.ofNat t) (Int64.ofNat (n_odc n v t r)) (Int64.ofNat (n_whc n r)) (Int64.ofNat (Nat.gcd (n_odc n v t r) (n_whc n r)))) ?_
  refine q_if_le rfl (fun hc2 => absurd (show (lg_cmp (Int64.ofNat (Nat.gcd (n_odc n v t r) (n_whc n r))) (0 : Int64)) ≤ 0 from hc2) (fun z => absurd ((s_lgt (by omega)).mp z) (by omega))) (fun (hc2 : ¬ ((lg_cmp (Int64.ofNat (Nat.gcd (n_odc n v t r) (n_whc n r))) (0 : Int64)) ≤ 0)) => ?_)
  refine q_step 2 85 [(0, .ref 8), (1, .int (Int32.ofNat v)), (2, .int (Int32.ofNat t)), (3, .int (0 : Int32)), (4, .long (Int64.ofNat (n_odc n v t r))), (6, .long (Int64.ofNat (n_whc n r))), (8, .long (Int64.ofNat (Nat.gcd (n_odc n v t r) (n_whc n r)))), (10, .long (Int64.ofNat (n_odc n v t r)))] [.long (Int64.ofNat (Nat.gcd (n_odc n v t r) (n_whc n r))), .long (Int64.ofNat (n_odc n v t r))] g1 u1 (fun big n0 => sg_od_45 big n0 g1 u1 (Int32.ofNat v) (Int32.ofNat t) (Int64.ofNat (n_odc n v t r)) (Int64.ofNat (n_whc n r)) (Int64.ofNat (Nat.gcd (n_odc n v t r) (n_whc n r))) (Int64.ofNat (n_odc n v t r))) ?_
  refine q_ldiv (fun z => absurd ((q_leq (b := 0) (by omega) (by omega)).mp z) (by omega)) rfl ?_
  refine q_ret 2 (some (.long ((Int64.ofNat (n_odc n v t r)) / (Int64.ofNat (Nat.gcd (n_odc n v t r) (n_whc n r))))), g1, u1) (fun _ _ => rfl) ?_
  exact ⟨g1, u1, by rw [q_ldv (by omega) (by omega)]; rfl, hf⟩
theorem c_odds1 {n W H : Nat} {g r : qM} (u : qW) (h : w_ok n W H r) (hc : w_cs 20 n g r) {v t : Nat} (hv : v ≤ 10) (ht0 : t ≤ 12) (hgo : ∀ p, p < n → g 24 p = r 78 p) : w_BS w_fc 112 [.ref 8, .int (Int32.ofNat v), .int (Int32.ofNat t), .int (1 : Int32)] g u (.long (f_od 1 n v t r)) := by
  refine w_bs (mm := m_112) rfl (Nat.le_of_ble_eq_true rfl) rfl ?_
  refine q_step 1 1 [(0, .ref 8), (1, .int (Int32.ofNat v)), (2, .int (Int32.ofNat t)), (3, .int (1 : Int32))] [.int (Int32.ofNat v)] g u (fun big n0 => sg_od_46 big n0 g u (Int32.ofNat v) (Int32.ofNat t)) ?_
  refine q_if_lt rfl (fun hc0 => absurd (show (Int32.ofNat v) < 0 from hc0) (fun z => by have z := Int32.lt_iff_toInt_lt.mp z; rw [q_nat (by omega)] at z; have e : (0 : Int32).toInt = 0 := rfl; omega)) (fun (hc0 : ¬ ((Int32.ofNat v) < 0)) => ?_)
  refine q_step 2 7 [(0, .ref 8), (1, .int (Int32.ofNat v)), (2, .int (Int32.ofNat t)), (3, .int (1 : Int32))] [.int (10 : Int32), .int (Int32.ofNat v)] g u (fun big n0 => sg_od_47 big n0 g u (Int32.ofNat v) (Int32.ofNat t)) ?_
  refine q_ic_gt rfl (fun hc1 => absurd (show (10 : Int32) < (Int32.ofNat v) from hc1) (fun z => absurd ((q_lt (i := 10) (j := v) (by omega) (by omega)).mp z) (by omega))) (fun (hc1 : ¬ ((10 : Int32) < (Int32.ofNat v))) => ?_)
  refine q_step 1 11 [(0, .ref 8), (1, .int (Int32.ofNat v)), (2, .int (Int32.ofNat t)), (3, .int (1 : Int32))] [.int (Int32.ofNat t)] g u (fun big n0 => sg_od_48 big n0 g u (Int32.ofNat v) (Int32.ofNat t)) ?_
  refine q_call (M2 := 90) (rest := []) (b_srch1 g u ht0) (fun _ _ => rfl) ?_
  refine q_step 2 18 [(0, .ref 8), (1, .int (Int32.ofNat v)), (2, .int (Int32.ofNat t)), (3, .int (1 : Int32))] [.int (1 : Int32)] g u (fun big n0 => sg_od_49 big n0 g u (Int32.ofNat v) (Int32.ofNat t)) ?_
  refine q_call (M2 := 57) (rest := []) (show q_BS 57 [.int (1 : Int32)] g u (some (.int 1), g, u) from b_isHalf 1 g u) (fun _ _ => rfl) ?_
  refine q_step 7 38 [(0, .ref 8), (1, .int (Int32.ofNat v)), (2, .int (Int32.ofNat t)), (3, .int (1 : Int32))] [.int (Int32.ofNat t), .int (Int32.ofNat v), .ref 20, .ref 34] g u (fun big n0 => sg_od_50 big n0 g u (Int32.ofNat v) (Int32.ofNat t)) ?_
  obtain ⟨g1, u1, hb, hf⟩ := c_wag113 u h hc hv (t := t) (by omega) hgo
  have hcf := w_cs_fc hf hc
  have h6 : n ≤ 6 := h.1.2.2.2.2
  have l1 := n_odc_le (t := t) h6 hv r
  have l2 := n_wh_le h6 r
  have l3 := n_wh_pos n r
  have l4 : 0 < (Nat.gcd (n_odc n v t r) (n_whc n r)) := Nat.gcd_pos_of_pos_right _ l3
  have l5 : (Nat.gcd (n_odc n v t r) (n_whc n r)) ≤ n_whc n r := Nat.gcd_le_right _ l3
  refine q_call (M2 := 113) (rest := []) (hb) (fun _ _ => rfl) ?_
  refine q_step 3 47 [(0, .ref 8), (1, .int (Int32.ofNat v)), (2, .int (Int32.ofNat t)), (3, .int (1 : Int32)), (4, .long (Int64.ofNat (n_odc n v t r)))] [.ref 20] g1 u1 (fun big n0 => sg_od_51 big n0 g1 u1 (Int32.ofNat v) (Int32.ofNat t) (Int64.ofNat (n_odc n v t r))) ?_
  refine q_call (M2 := 116) (rest := []) (c_waf u1 h hcf) (fun _ _ => rfl) ?_
  refine q_step 3 56 [(0, .ref 8), (1, .int (Int32.ofNat v)), (2, .int (Int32.ofNat t)), (3, .int (1 : Int32)), (4, .long (Int64.ofNat (n_odc n v t r))), (6, .long (Int64.ofNat (n_whc n r)))] [.long (Int64.ofNat (n_whc n r)), .long (Int64.ofNat (n_odc n v t r))] g1 u1 (fun big n0 => sg_od_52 big n0 g1 u1 (Int32.ofNat v) (Int32.ofNat t) (Int64.ofNat (n_odc n v t r)) (Int64.ofNat (n_whc n r))) ?_
  refine q_call (M2 := 117) (rest := []) (b_cd g1 u1 (by omega) (by omega)) (fun _ _ => rfl) ?_
  refine q_step 8 78 [(0, .ref 8), (1, .int (Int32.ofNat v)), (2, .int (Int32.ofNat t)), (3, .int (1 : Int32)), (4, .long (Int64.ofNat (n_odc n v t r))), (6, .long (Int64.ofNat (n_whc n r))), (8, .long (Int64.ofNat (Nat.gcd (n_odc n v t r) (n_whc n r)))), (10, .long (Int64.ofNat (n_whc n r)))] [.int (lg_cmp (Int64.ofNat (Nat.gcd (n_odc n v t r) (n_whc n r))) (0 : Int64))] g1 u1 (fun big n0 => sg_od_53 big n0 g1 u1 (Int32.ofNat v) (Int32.ofNat t) (Int64.ofNat (n_odc n v t r)) (Int64.ofNat (n_whc n r)) (Int64.ofNat (Nat.gcd (n_odc n v t r) (n_whc n r)))) ?_
  refine q_if_le rfl (fun hc2 => absurd (show (lg_cmp (Int64.ofNat (Nat.gcd (n_odc n v t r) (n_whc n r))) (0 : Int64)) ≤ 0 from hc2) (fun z => absurd ((s_lgt (by omega)).mp z) (by omega))) (fun (hc2 : ¬ ((lg_cmp (Int64.ofNat (Nat.gcd (n_odc n v t r) (n_whc n r))) (0 : Int64)) ≤ 0)) => ?_)
  refine q_step 2 85 [(0, .ref 8), (1, .int (Int32.ofNat v)), (2, .int (Int32.ofNat t)), (3, .int (1 : Int32)), (4, .long (Int64.ofNat (n_odc n v t r))), (6, .long (Int64.ofNat (n_whc n r))), (8, .long (Int64.ofNat (Nat.gcd (n_odc n v t r) (n_whc n r)))), (10, .long (Int64.ofNat (n_whc n r)))] [.long (Int64.ofNat (Nat.gcd (n_odc n v t r) (n_whc n r))), .long (Int64.ofNat (n_whc n r))] g1 u1 (fun big n0 => sg_od_54 big n0 g1 u1 (Int32.ofNat v) (Int32.ofNat t) (Int64.ofNat (n_odc n v t r)) (Int64.ofNat (n_whc n r)) (Int64.ofNat (Nat.gcd (n_odc n v t r) (n_whc n r))) (Int64.ofNat (n_whc n r))) ?_
  refine q_ldiv (fun z => absurd ((q_leq (b := 0) (by omega) (by omega)).mp z) (by omega)) rfl ?_
  refine q_ret 2 (some (.long ((Int64.ofNat (n_whc n r)) / (Int64.ofNat (Nat.gcd (n_odc n v t r) (n_whc n r))))), g1, u1) (fun _ _ => rfl) ?_
  exact ⟨g1, u1, by rw [q_ldv (by omega) (by omega)]; rfl, hf⟩
theorem rcm_l (g : qM) (u : qW) {x y : Int64} : ∀ m a b, b < m → a < 1000000000 → b < 1000000000 → q_EV m_211 6 [(0, .long x), (2, .long y), (4, .long (Int64.ofNat a)), (6, .long (Int64.ofNat b))] [] g u (fun R => R = (some (.long (Int64.ofNat (Nat.gcd a b))), g, u)) := by
  intro m
  induction m with
  | zero => exact fun a b hm => absurd hm (Nat.not_lt_zero _)
  | succ m ih =>
    intro a b hm ha hb
    refine q_step 3 10 [(0, .long x), (2, .long y), (4, .long (Int64.ofNat a)), (6, .long (Int64.ofNat b))] [.int (lg_cmp (Int64.ofNat b) (0 : Int64))] g u (fun big n0 => sg_od_55 big n0 g u x y (Int64.ofNat a) (Int64.ofNat b)) ?_
    refine q_if_eq rfl (fun (hc0 : (lg_cmp (Int64.ofNat b) (0 : Int64)) = 0) => ?_) (fun (hc0 : ¬ ((lg_cmp (Int64.ofNat b) (0 : Int64)) = 0)) => ?_)
    · refine q_ret 2 (some (.long (Int64.ofNat a)), g, u) (fun _ _ => rfl) ?_
      have e : b = 0 := (q_leq hb (by omega)).mp (s_lcmp0.mp hc0)
      rw [e, Nat.gcd_zero_right]
    · refine q_step 2 17 [(0, .long x), (2, .long y), (4, .long (Int64.ofNat a)), (6, .long (Int64.ofNat b))] [.long (Int64.ofNat b), .long (Int64.ofNat a)] g u (fun big n0 => sg_od_56 big n0 g u x y (Int64.ofNat a) (Int64.ofNat b)) ?_
      refine q_lrem (fun z => hc0 (s_lcmp0.mpr z)) rfl ?_
      refine q_step 6 6 [(0, .long x), (2, .long y), (4, .long (Int64.ofNat b)), (6, .long ((Int64.ofNat a) - (Int64.ofNat a) / (Int64.ofNat b) * (Int64.ofNat b))), (8, .long ((Int64.ofNat a) - (Int64.ofNat a) / (Int64.ofNat b) * (Int64.ofNat b)))] [] g u (fun big n0 => sg_od_57 big n0 g u x y (Int64.ofNat a) (Int64.ofNat b) ((Int64.ofNat a) - (Int64.ofNat a) / (Int64.ofNat b) * (Int64.ofNat b))) ?_
      refine q_weak [(0, .long x), (2, .long y), (4, .long (Int64.ofNat b)), (6, .long ((Int64.ofNat a) - (Int64.ofNat a) / (Int64.ofNat b) * (Int64.ofNat b)))] (q_sub.cons rfl (q_sub.cons rfl (q_sub.cons rfl (q_sub.cons rfl q_sub.nil)))) ?_
      have e : ¬ b = 0 := fun z => hc0 (s_lcmp0.mpr (by rw [z]; rfl))
      have hl := Nat.mod_lt a (show 0 < b by omega)
      rw [show Nat.gcd a b = Nat.gcd b (a % b) by rw [Nat.gcd_comm b, ← Nat.gcd_rec, Nat.gcd_comm], show ((Int64.ofNat a) - (Int64.ofNat a) / (Int64.ofNat b) * (Int64.ofNat b)) = Int64.ofNat (a % b) from q_lrm ha hb]
      exact ih b (a % b) (by omega) hb (by omega)
theorem b_rcm (g : qM) (u : qW) {a b : Nat} (ha : a < 1000000000) (hb : b < 1000000000) : q_BS 211 [.long (Int64.ofNat a), .long (Int64.ofNat b)] g u (some (.long (Int64.ofNat (Nat.gcd a b))), g, u) := by
  refine q_bx (mm := m_211) rfl (Nat.le_of_ble_eq_true rfl) rfl ?_
  refine q_step 4 6 [(0, .long (Int64.ofNat a)), (2, .long (Int64.ofNat b)), (4, .long (Int64.ofNat a)), (6, .long (Int64.ofNat b))] [] g u (fun big n0 => sg_od_58 big n0 g u (Int64.ofNat a) (Int64.ofNat b)) ?_
  exact rcm_l g u (b + 1) a b (by omega) ha hb
theorem ro1 (g : qM) (u : qW) {n v t : Nat} {wh : Int32} (hn : g 70 4 = Int32.ofNat n) (h6 : n ≤ 6) {Q : Option Value × qM × qW → Prop} : ∀ k i a, i + k = n → (q_EV m_210 70 [(0, .ref 70), (1, .int (Int32.ofNat v)), (2, .int (Int32.ofNat t)), (3, .int wh), (4, .long (0 : Int64)), (6, .long (Int64.ofNat (a * 10 ^ k))), (8, .int (Int32.ofNat n))] [] g u Q) → q_EV m_210 47 [(0, .ref 70), (1, .int (Int32.ofNat v)), (2, .int (Int32.ofNat t)), (3, .int wh), (4, .long (0 : Int64)), (6, .long (Int64.ofNat a)), (8, .int (Int32.ofNat i))] [] g u Q := by
  intro k
  induction k with
  | zero =>
    intro i a hi hk
    refine q_step 3 53 [(0, .ref 70), (1, .int (Int32.ofNat v)), (2, .int (Int32.ofNat t)), (3, .int wh), (4, .long (0 : Int64)), (6, .long (Int64.ofNat a)), (8, .int (Int32.ofNat i))] [.int (g 70 4), .int (Int32.ofNat i)] g u (fun big n0 => sg_od_59 big n0 g u (Int32.ofNat v) (Int32.ofNat t) wh (0 : Int64) (Int64.ofNat a) (Int32.ofNat i)) ?_
    refine q_ic_ge rfl (fun (hc0 : (g 70 4) ≤ (Int32.ofNat i)) => ?_) (fun hc0 => absurd (show (g 70 4) ≤ (Int32.ofNat i) from by rw [hn]; exact (q_le (by omega) (by omega)).mpr (by omega)) hc0)
    rw [Nat.pow_zero, Nat.mul_one] at hk
    rw [show i = n by omega]
    exact hk
  | succ k ih =>
    intro i a hi hk
    refine q_step 3 53 [(0, .ref 70), (1, .int (Int32.ofNat v)), (2, .int (Int32.ofNat t)), (3, .int wh), (4, .long (0 : Int64)), (6, .long (Int64.ofNat a)), (8, .int (Int32.ofNat i))] [.int (g 70 4), .int (Int32.ofNat i)] g u (fun big n0 => sg_od_59 big n0 g u (Int32.ofNat v) (Int32.ofNat t) wh (0 : Int64) (Int64.ofNat a) (Int32.ofNat i)) ?_
    refine q_ic_ge rfl (fun hc0 => absurd (show (g 70 4) ≤ (Int32.ofNat i) from hc0) (fun z => by rw [hn] at z; exact absurd ((q_le (by omega) (by omega)).mp z) (by omega))) (fun (hc0 : ¬ ((g 70 4) ≤ (Int32.ofNat i))) => ?_)
    refine q_step 6 47 [(0, .ref 70), (1, .int (Int32.ofNat v)), (2, .int (Int32.ofNat t)), (3, .int wh), (4, .long (0 : Int64)), (6, .long ((Int64.ofNat a) * (10 : Int64))), (8, .int ((Int32.ofNat i) + (1 : Int32)))] [] g u (fun big n0 => sg_od_60 big n0 g u (Int32.ofNat v) (Int32.ofNat t) wh (0 : Int64) (Int64.ofNat a) (Int32.ofNat i)) ?_
    rw [q_succ, show (Int64.ofNat a) * (10 : Int64) = Int64.ofNat (a * 10) from (Int64.ofNat_mul a 10).symm]
    exact ih (i + 1) (a * 10) (by omega) (by rw [Nat.mul_assoc, Nat.mul_comm 10, ← Nat.pow_succ]; exact hk)
theorem ro2 {n W H v t : Nat} {wh : Int32} {g r : qM} (u : qW) (h : w_ok n W H r) (hs : w_sm n (s_start g) r) (h5 : n ≤ 5) (hv : v ≤ 10) {sm al row : Nat} (hr : row < 64) {Q : Option Value × qM × qW → Prop} : ∀ k i a, i + k = n → (q_EV m_210 179 [(0, .ref 70), (1, .int (Int32.ofNat v)), (2, .int (Int32.ofNat t)), (3, .int wh), (4, .long (Int64.ofNat sm)), (6, .long (Int64.ofNat al)), (8, .int (Int32.ofNat row)), (9, .long (Int64.ofNat (n_pr (fun p => n_wr v (n_bit row p)) k i a))), (11, .int (Int32.ofNat n))] [] (s_row_ 76 (f_flb r (n_bit row)) n (s_start g)) u Q) → q_EV m_210 94 [(0, .ref 70), (1, .int (Int32.ofNat v)), (2, .int (Int32.ofNat t)), (3, .int wh), (4, .long (Int64.ofNat sm)), (6, .long (Int64.ofNat al)), (8, .int (Int32.ofNat row)), (9, .long (Int64.ofNat a)), (11, .int (Int32.ofNat i))] [] (s_row_ 76 (f_flb r (n_bit row)) i (s_start g)) u Q := by
  intro k
  induction k with
  | zero =>
    intro i a hi hk
    refine q_step 3 100 [(0, .ref 70), (1, .int (Int32.ofNat v)), (2, .int (Int32.ofNat t)), (3, .int wh), (4, .long (Int64.ofNat sm)), (6, .long (Int64.ofNat al)), (8, .int (Int32.ofNat row)), (9, .long (Int64.ofNat a)), (11, .int (Int32.ofNat i))] [.int ((s_start g) 70 4), .int (Int32.ofNat i)] (s_row_ 76 (f_flb r (n_bit row)) i (s_start g)) u (fun big n0 => sg_od_61 big n0 (s_row_ 76 (f_flb r (n_bit row)) i (s_start g)) u (Int32.ofNat v) (Int32.ofNat t) wh (Int64.ofNat sm) (Int64.ofNat al) (Int32.ofNat row) (Int64.ofNat a) (Int32.ofNat i)) ?_
    refine q_ic_ge rfl (fun (hc0 : ((s_start g) 70 4) ≤ (Int32.ofNat i)) => ?_) (fun hc0 => absurd (show ((s_start g) 70 4) ≤ (Int32.ofNat i) from by rw [show (s_start g) 70 4 = Int32.ofNat n from (show g 70 4 = Int32.ofNat n from w_pl h hs)]; exact (q_le (by omega) (by omega)).mpr (by omega)) hc0)
    have e : i = n := by omega
    rw [e]
    rw [e] at hk
    exact hk
  | succ k ih =>
    intro i a hi hk
    refine q_step 3 100 [(0, .ref 70), (1, .int (Int32.ofNat v)), (2, .int (Int32.ofNat t)), (3, .int wh), (4, .long (Int64.ofNat sm)), (6, .long (Int64.ofNat al)), (8, .int (Int32.ofNat row)), (9, .long (Int64.ofNat a)), (11, .int (Int32.ofNat i))] [.int ((s_start g) 70 4), .int (Int32.ofNat i)] (s_row_ 76 (f_flb r (n_bit row)) i (s_start g)) u (fun big n0 => sg_od_61 big n0 (s_row_ 76 (f_flb r (n_bit row)) i (s_start g)) u (Int32.ofNat v) (Int32.ofNat t) wh (Int64.ofNat sm) (Int64.ofNat al) (Int32.ofNat row) (Int64.ofNat a) (Int32.ofNat i)) ?_
    refine q_ic_ge rfl (fun hc0 => absurd (show ((s_start g) 70 4) ≤ (Int32.ofNat i) from hc0) (fun z => by rw [show (s_start g) 70 4 = Int32.ofNat n from (show g 70 4 = Int32.ofNat n from w_pl h hs)] at z; exact absurd ((q_le (by omega) (by omega)).mp z) (by omega))) (fun (hc0 : ¬ (((s_start g) 70 4) ≤ (Int32.ofNat i))) => ?_)
    refine q_step 6 111 [(0, .ref 70), (1, .int (Int32.ofNat v)), (2, .int (Int32.ofNat t)), (3, .int wh), (4, .long (Int64.ofNat sm)), (6, .long (Int64.ofNat al)), (8, .int (Int32.ofNat row)), (9, .long (Int64.ofNat a)), (11, .int (Int32.ofNat i))] [.int (1 : Int32), .int (((Int32.ofNat row) >>> ((Int32.ofNat i) &&& 31)) &&& (1 : Int32))] (s_row_ 76 (f_flb r (n_bit row)) i (s_start g)) u (fun big n0 => sg_od_62 big n0 (s_row_ 76 (f_flb r (n_bit row)) i (s_start g)) u (Int32.ofNat v) (Int32.ofNat t) wh (Int64.ofNat sm) (Int64.ofNat al) (Int32.ofNat row) (Int64.ofNat a) (Int32.ofNat i)) ?_
    refine q_ic_ne rfl (fun (hc1 : (((Int32.ofNat row) >>> ((Int32.ofNat i) &&& 31)) &&& (1 : Int32)) = (1 : Int32)) => ?_) (fun (hc1 : ¬ ((((Int32.ofNat row) >>> ((Int32.ofNat i) &&& 31)) &&& (1 : Int32)) = (1 : Int32))) => ?_)
    · refine q_step 19 158 [(0, .ref 70), (1, .int (Int32.ofNat v)), (2, .int (Int32.ofNat t)), (3, .int wh), (4, .long (Int64.ofNat sm)), (6, .long (Int64.ofNat al)), (8, .int (Int32.ofNat row)), (9, .long ((Int64.ofNat a) * (Int32.toInt64 (Int32.ofNat v)))), (11, .int (Int32.ofNat i)), (12, .int (1 : Int32))] [.int (Int32.ofNat i), .ref 76, .int (Int32.ofNat i), .ref 76] (s_row_ 76 (f_flb r (n_bit row)) i (s_start g)) u (fun big n0 => sg_od_63 big n0 (s_row_ 76 (f_flb r (n_bit row)) i (s_start g)) u (Int32.ofNat v) (Int32.ofNat t) wh (Int64.ofNat sm) (Int64.ofNat al) (Int32.ofNat row) (Int64.ofNat a) (Int32.ofNat i)) ?_
      refine q_iald (j := i) (q_ixn (by omega) (by omega)) rfl rfl ?_
      refine q_call (M2 := 194) (rest := [.int (Int32.ofNat i), .ref 76]) (b_fd _ _ _) (fun _ _ => rfl) ?_
      refine q_step 1 172 [(0, .ref 70), (1, .int (Int32.ofNat v)), (2, .int (Int32.ofNat t)), (3, .int wh), (4, .long (Int64.ofNat sm)), (6, .long (Int64.ofNat al)), (8, .int (Int32.ofNat row)), (9, .long ((Int64.ofNat a) * (Int32.toInt64 (Int32.ofNat v)))), (11, .int (Int32.ofNat i)), (12, .int (1 : Int32))] [.int (s_fd ((s_row_ 76 (f_flb r (n_bit row)) i (s_start g)) 76 i)), .int (Int32.ofNat i), .ref 76] (s_row_ 76 (f_flb r (n_bit row)) i (s_start g)) u (fun big n0 => sg_od_64 big n0 (s_row_ 76 (f_flb r (n_bit row)) i (s_start g)) u (Int32.ofNat v) (Int32.ofNat t) wh (Int64.ofNat sm) (Int64.ofNat al) (Int32.ofNat row) ((Int64.ofNat a) * (Int32.toInt64 (Int32.ofNat v))) (Int32.ofNat i) (Int32.ofNat i) (s_fd ((s_row_ 76 (f_flb r (n_bit row)) i (s_start g)) 76 i))) ?_
      refine q_iast (j := i) (q_ixn (by omega) (by omega)) rfl rfl ?_
      refine q_step 2 94 [(0, .ref 70), (1, .int (Int32.ofNat v)), (2, .int (Int32.ofNat t)), (3, .int wh), (4, .long (Int64.ofNat sm)), (6, .long (Int64.ofNat al)), (8, .int (Int32.ofNat row)), (9, .long ((Int64.ofNat a) * (Int32.toInt64 (Int32.ofNat v)))), (11, .int ((Int32.ofNat i) + (1 : Int32))), (12, .int (1 : Int32))] [] (q_up (s_row_ 76 (f_flb r (n_bit row)) i (s_start g)) 76 i (s_fd ((s_row_ 76 (f_flb r (n_bit row)) i (s_start g)) 76 i))) u (fun big n0 => sg_od_65 big n0 (q_up (s_row_ 76 (f_flb r (n_bit row)) i (s_start g)) 76 i (s_fd ((s_row_ 76 (f_flb r (n_bit row)) i (s_start g)) 76 i))) u (Int32.ofNat v) (Int32.ofNat t) wh (Int64.ofNat sm) (Int64.ofNat al) (Int32.ofNat row) ((Int64.ofNat a) * (Int32.toInt64 (Int32.ofNat v))) (Int32.ofNat i)) ?_
      refine q_weak [(0, .ref 70), (1, .int (Int32.ofNat v)), (2, .int (Int32.ofNat t)), (3, .int wh), (4, .long (Int64.ofNat sm)), (6, .long (Int64.ofNat al)), (8, .int (Int32.ofNat row)), (9, .long ((Int64.ofNat a) * (Int32.toInt64 (Int32.ofNat v)))), (11, .int ((Int32.ofNat i) + (1 : Int32)))] (q_sub.cons rfl (q_sub.cons rfl (q_sub.cons rfl (q_sub.cons rfl (q_sub.cons rfl (q_sub.cons rfl (q_sub.cons rfl (q_sub.cons rfl (q_sub.cons rfl q_sub.nil))))))))) ?_
      have hbt : n_bit row i = true := n_bit_t (by omega) (by omega) (by rw [show s_bit (Int32.ofNat row) (Int32.ofNat i) = 1 from hc1]; decide)
      have hF : f_flb r (n_bit row) i = s_fo (r 76 i) := by
        unfold f_flb
        rw [hbt]
        rfl
      have hw : n_wr v (n_bit row i) = v := by
        unfold n_wr
        rw [hbt]
        rfl
      rw [show ((Int64.ofNat a) * (Int32.toInt64 (Int32.ofNat v))) = Int64.ofNat (a * v) from by
        rw [s_i64 (by omega), Int64.ofNat_mul] <;> rfl]
      rw [show (q_up (s_row_ 76 (f_flb r (n_bit row)) i (s_start g)) 76 i (s_fd ((s_row_ 76 (f_flb r (n_bit row)) i (s_start g)) 76 i))) = (s_row_ 76 (f_flb r (n_bit row)) (i + 1) (s_start g)) from by
        rw [s_row_r, (hs.2.2 i (by omega)).2.1, ← s_fo_fd (h.2.2.2.2.2.2.2.1 i (by omega)), ← hF]
        exact s_row_s]
      rw [n_pr, hw] at hk
      rw [q_succ]
      exact ih (i + 1) _ (by omega) hk
    · refine q_step 19 171 [(0, .ref 70), (1, .int (Int32.ofNat v)), (2, .int (Int32.ofNat t)), (3, .int wh), (4, .long (Int64.ofNat sm)), (6, .long (Int64.ofNat al)), (8, .int (Int32.ofNat row)), (9, .long ((Int64.ofNat a) * (Int32.toInt64 ((10 : Int32) - (Int32.ofNat v))))), (11, .int (Int32.ofNat i)), (12, .int (0 : Int32))] [.int (Int32.ofNat i), .ref 76, .int (Int32.ofNat i), .ref 76] (s_row_ 76 (f_flb r (n_bit row)) i (s_start g)) u (fun big n0 => sg_od_66 big n0 (s_row_ 76 (f_flb r (n_bit row)) i (s_start g)) u (Int32.ofNat v) (Int32.ofNat t) wh (Int64.ofNat sm) (Int64.ofNat al) (Int32.ofNat row) (Int64.ofNat a) (Int32.ofNat i)) ?_
      refine q_iald (j := i) (q_ixn (by omega) (by omega)) rfl rfl ?_
      refine q_iast (j := i) (q_ixn (by omega) (by omega)) rfl rfl ?_
      refine q_step 2 94 [(0, .ref 70), (1, .int (Int32.ofNat v)), (2, .int (Int32.ofNat t)), (3, .int wh), (4, .long (Int64.ofNat sm)), (6, .long (Int64.ofNat al)), (8, .int (Int32.ofNat row)), (9, .long ((Int64.ofNat a) * (Int32.toInt64 ((10 : Int32) - (Int32.ofNat v))))), (11, .int ((Int32.ofNat i) + (1 : Int32))), (12, .int (0 : Int32))] [] (q_up (s_row_ 76 (f_flb r (n_bit row)) i (s_start g)) 76 i ((s_row_ 76 (f_flb r (n_bit row)) i (s_start g)) 76 i)) u (fun big n0 => sg_od_67 big n0 (q_up (s_row_ 76 (f_flb r (n_bit row)) i (s_start g)) 76 i ((s_row_ 76 (f_flb r (n_bit row)) i (s_start g)) 76 i)) u (Int32.ofNat v) (Int32.ofNat t) wh (Int64.ofNat sm) (Int64.ofNat al) (Int32.ofNat row) ((Int64.ofNat a) * (Int32.toInt64 ((10 : Int32) - (Int32.ofNat v)))) (Int32.ofNat i)) ?_
      refine q_weak [(0, .ref 70), (1, .int (Int32.ofNat v)), (2, .int (Int32.ofNat t)), (3, .int wh), (4, .long (Int64.ofNat sm)), (6, .long (Int64.ofNat al)), (8, .int (Int32.ofNat row)), (9, .long ((Int64.ofNat a) * (Int32.toInt64 ((10 : Int32) - (Int32.ofNat v))))), (11, .int ((Int32.ofNat i) + (1 : Int32)))] (q_sub.cons rfl (q_sub.cons rfl (q_sub.cons rfl (q_sub.cons rfl (q_sub.cons rfl (q_sub.cons rfl (q_sub.cons rfl (q_sub.cons rfl (q_sub.cons rfl q_sub.nil))))))))) ?_
      have hbt : n_bit row i = false := n_bit_f (by omega) (by omega) ((s_bit_01 _ _).resolve_right hc1)
      have hF : f_flb r (n_bit row) i = r 76 i := by
        unfold f_flb
        rw [hbt]
        rfl
      have hw : n_wr v (n_bit row i) = (10 - v) := by
        unfold n_wr
        rw [hbt]
        rfl
      rw [show ((Int64.ofNat a) * (Int32.toInt64 ((10 : Int32) - (Int32.ofNat v)))) = Int64.ofNat (a * (10 - v)) from by
        rw [show (10 : Int32) - Int32.ofNat v = Int32.ofNat (10 - v) from q_sb (a := 10) (b := v) (by omega) (by omega), s_i64 (by omega), Int64.ofNat_mul] <;> rfl]
      rw [show (q_up (s_row_ 76 (f_flb r (n_bit row)) i (s_start g)) 76 i ((s_row_ 76 (f_flb r (n_bit row)) i (s_start g)) 76 i)) = (s_row_ 76 (f_flb r (n_bit row)) (i + 1) (s_start g)) from by
        rw [s_row_r, (hs.2.2 i (by omega)).2.1, ← hF]
        exact s_row_s]
      rw [n_pr, hw] at hk
      rw [q_succ]
      exact ih (i + 1) _ (by omega) hk
theorem ro3 {n W H v t : Nat} {wh : Int32} {r : qM} (u : qW) (h : w_ok n W H r) (h5 : n ≤ 5) (h6 : n ≤ 6) (h2n : 2 ^ n ≤ 64) (hv : v ≤ 10) (ht0 : t ≤ 60) {al : Nat} {Q : Option Value × qM × qW → Prop} : ∀ k row a g, row + k = 2 ^ n → w_sm n (s_start g) r → (∀ p, p < n → g 71 (15 + p) = r 78 p) → (∀ g2, w_fr g g2 → q_EV m_210 211 [(0, .ref 70), (1, .int (Int32.ofNat v)), (2, .int (Int32.ofNat t)), (3, .int wh), (4, .long (Int64.ofNat (n_su (fun row => n_wtr n v row * n_oA n t r (n_bit row)) k row a))), (6, .long (Int64.ofNat al)), (8, .int (Int32.ofNat (2 ^ n)))] [] g2 u Q) → q_EV m_210 73 [(0, .ref 70), (1, .int (Int32.ofNat v)), (2, .int (Int32.ofNat t)), (3, .int wh), (4, .long (Int64.ofNat a)), (6, .long (Int64.ofNat al)), (8, .int (Int32.ofNat row))] [] g u Q := by
  intro k
  induction k with
  | zero =>
    intro row a g hi hs hg hk
    refine q_step 5 81 [(0, .ref 70), (1, .int (Int32.ofNat v)), (2, .int (Int32.ofNat t)), (3, .int wh), (4, .long (Int64.ofNat a)), (6, .long (Int64.ofNat al)), (8, .int (Int32.ofNat row))] [.int ((1 : Int32) <<< ((g 70 4) &&& 31)), .int (Int32.ofNat row)] g u (fun big n0 => sg_od_68 big n0 g u (Int32.ofNat v) (Int32.ofNat t) wh (Int64.ofNat a) (Int64.ofNat al) (Int32.ofNat row)) ?_
    refine q_ic_ge rfl (fun (hc0 : ((1 : Int32) <<< ((g 70 4) &&& 31)) ≤ (Int32.ofNat row)) => ?_) (fun hc0 => absurd (show ((1 : Int32) <<< ((g 70 4) &&& 31)) ≤ (Int32.ofNat row) from by rw [w_pl h hs, s_rows2 h6]; exact (q_le (by omega) (by omega)).mpr (by omega)) hc0)
    have e : row = 2 ^ n := by omega
    rw [e]
    exact hk g (w_fr_rfl g)
  | succ k ih =>
    intro row a g hi hs hg hk
    have hn : g 70 4 = Int32.ofNat n := w_pl h hs
    refine q_step 5 81 [(0, .ref 70), (1, .int (Int32.ofNat v)), (2, .int (Int32.ofNat t)), (3, .int wh), (4, .long (Int64.ofNat a)), (6, .long (Int64.ofNat al)), (8, .int (Int32.ofNat row))] [.int ((1 : Int32) <<< ((g 70 4) &&& 31)), .int (Int32.ofNat row)] g u (fun big n0 => sg_od_68 big n0 g u (Int32.ofNat v) (Int32.ofNat t) wh (Int64.ofNat a) (Int64.ofNat al) (Int32.ofNat row)) ?_
    refine q_ic_ge rfl (fun hc0 => absurd (show ((1 : Int32) <<< ((g 70 4) &&& 31)) ≤ (Int32.ofNat row) from hc0) (fun z => by rw [w_pl h hs, s_rows2 h6] at z; exact absurd ((q_le (by omega) (by omega)).mp z) (by omega))) (fun (hc0 : ¬ (((1 : Int32) <<< ((g 70 4) &&& 31)) ≤ (Int32.ofNat row))) => ?_)
    refine q_step 3 88 [(0, .ref 70), (1, .int (Int32.ofNat v)), (2, .int (Int32.ofNat t)), (3, .int wh), (4, .long (Int64.ofNat a)), (6, .long (Int64.ofNat al)), (8, .int (Int32.ofNat row)), (9, .long (1 : Int64))] [.ref 70] g u (fun big n0 => sg_od_69 big n0 g u (Int32.ofNat v) (Int32.ofNat t) wh (Int64.ofNat a) (Int64.ofNat al) (Int32.ofNat row)) ?_
    refine q_call (M2 := 172) (rest := []) (b_starts g u) (fun _ _ => rfl) ?_
    refine q_step 2 94 [(0, .ref 70), (1, .int (Int32.ofNat v)), (2, .int (Int32.ofNat t)), (3, .int wh), (4, .long (Int64.ofNat a)), (6, .long (Int64.ofNat al)), (8, .int (Int32.ofNat row)), (9, .long (1 : Int64)), (11, .int (0 : Int32))] [] (s_start g) u (fun big n0 => sg_od_70 big n0 (s_start g) u (Int32.ofNat v) (Int32.ofNat t) wh (Int64.ofNat a) (Int64.ofNat al) (Int32.ofNat row)) ?_
    have hwl := n_wtr_le h6 hv row
    have key := ro2 (wh := wh) (t := t) u h hs h5 hv (sm := a) (al := al) (row := row) (by omega) (Q := Q) n 0 1 (by omega)
    rw [s_row_0] at key
    refine key ?_
    rw [show n_pr (fun p => n_wr v (n_bit row p)) n 0 1 = n_wtr n v row from rfl]
    have hfr1 : w_fr g (s_row_ 76 (f_flb r (n_bit row)) n (s_start g)) := s_start_fr.trans ⟨fun b hb => s_row_o (by omega), fun j _ => by rw [s_row_o (by omega)]⟩
    have hfr2 : w_fr g (s_rit n t (s_row_ 76 (f_flb r (n_bit row)) n (s_start g))) := hfr1.trans (w_rit_fr t _)
    refine q_step 4 185 [(0, .ref 70), (1, .int (Int32.ofNat v)), (2, .int (Int32.ofNat t)), (3, .int wh), (4, .long (Int64.ofNat a)), (6, .long (Int64.ofNat al)), (8, .int (Int32.ofNat row)), (9, .long (Int64.ofNat (n_wtr n v row))), (11, .int (Int32.ofNat n))] [.int (lg_cmp (Int64.ofNat (n_wtr n v row)) (0 : Int64)), .long (Int64.ofNat a)] (s_row_ 76 (f_flb r (n_bit row)) n (s_start g)) u (fun big n0 => sg_od_71 big n0 (s_row_ 76 (f_flb r (n_bit row)) n (s_start g)) u (Int32.ofNat v) (Int32.ofNat t) wh (Int64.ofNat a) (Int64.ofNat al) (Int32.ofNat row) (Int64.ofNat (n_wtr n v row)) (Int32.ofNat n)) ?_
    refine q_if_le rfl (fun (hc0 : (lg_cmp (Int64.ofNat (n_wtr n v row)) (0 : Int64)) ≤ 0) => ?_) (fun (hc0 : ¬ ((lg_cmp (Int64.ofNat (n_wtr n v row)) (0 : Int64)) ≤ 0)) => ?_)
    · refine q_step 5 73 [(0, .ref 70), (1, .int (Int32.ofNat v)), (2, .int (Int32.ofNat t)), (3, .int wh), (4, .long ((Int64.ofNat a) + (0 : Int64))), (6, .long (Int64.ofNat al)), (8, .int ((Int32.ofNat row) + (1 : Int32))), (9, .long (Int64.ofNat (n_wtr n v row))), (11, .int (Int32.ofNat n))] [] (s_row_ 76 (f_flb r (n_bit row)) n (s_start g)) u (fun big n0 => sg_od_72 big n0 (s_row_ 76 (f_flb r (n_bit row)) n (s_start g)) u (Int32.ofNat v) (Int32.ofNat t) wh (Int64.ofNat a) (Int64.ofNat al) (Int32.ofNat row) (Int64.ofNat (n_wtr n v row)) (Int32.ofNat n) (Int64.ofNat a)) ?_
      refine q_weak [(0, .ref 70), (1, .int (Int32.ofNat v)), (2, .int (Int32.ofNat t)), (3, .int wh), (4, .long ((Int64.ofNat a) + (0 : Int64))), (6, .long (Int64.ofNat al)), (8, .int ((Int32.ofNat row) + (1 : Int32)))] (q_sub.cons rfl (q_sub.cons rfl (q_sub.cons rfl (q_sub.cons rfl (q_sub.cons rfl (q_sub.cons rfl (q_sub.cons rfl q_sub.nil))))))) ?_
      have hz : n_wtr n v row = 0 := (s_lgt (by omega)).mp hc0
      have e : n_su (fun row => n_wtr n v row * n_oA n t r (n_bit row)) (k + 1) row a = n_su (fun row => n_wtr n v row * n_oA n t r (n_bit row)) k (row + 1) a := by
        show n_su (fun row => n_wtr n v row * n_oA n t r (n_bit row)) k (row + 1) (a + n_wtr n v row * n_oA n t r (n_bit row)) = _
        rw [hz, Nat.zero_mul]
        rfl
      rw [e] at hk
      rw [q_succ, show ((Int64.ofNat a) + (0 : Int64)) = Int64.ofNat a from Int64.add_zero _]
      exact ih (row + 1) _ (s_row_ 76 (f_flb r (n_bit row)) n (s_start g)) (by omega) (w_st_sm hfr1 h5 hs) (fun p hp => by rw [hfr1.1 71 (by omega)]; exact hg p hp) (fun g2 f2 => hk g2 (hfr1.trans f2))
    · refine q_step 2 190 [(0, .ref 70), (1, .int (Int32.ofNat v)), (2, .int (Int32.ofNat t)), (3, .int wh), (4, .long (Int64.ofNat a)), (6, .long (Int64.ofNat al)), (8, .int (Int32.ofNat row)), (9, .long (Int64.ofNat (n_wtr n v row))), (11, .int (Int32.ofNat n))] [.int (Int32.ofNat t), .ref 70, .long (Int64.ofNat a)] (s_row_ 76 (f_flb r (n_bit row)) n (s_start g)) u (fun big n0 => sg_od_73 big n0 (s_row_ 76 (f_flb r (n_bit row)) n (s_start g)) u (Int32.ofNat v) (Int32.ofNat t) wh (Int64.ofNat a) (Int64.ofNat al) (Int32.ofNat row) (Int64.ofNat (n_wtr n v row)) (Int32.ofNat n) (Int64.ofNat a)) ?_
      by_cases hc1 : n_oA n t r (n_bit row) = 0
      · have haa := r_aat (g := (s_row_ 76 (f_flb r (n_bit row)) n (s_start g))) u (w_ok_row (f_flb_4 h (n_bit row)) h) (w_sm_row (fun p _ => rfl) hs) ht0 (fun p hp => (w_st78 h5 hp).trans (hg p hp)) hn hg
        rw [show f_hav n (gh_row n (f_flb r (n_bit row)) r) = f_hav n r from rfl, n_oA_i, if_pos hc1] at haa
        refine q_call (M2 := 204) (rest := [.long (Int64.ofNat a)]) (haa) (fun _ _ => rfl) ?_
        refine q_step 6 73 [(0, .ref 70), (1, .int (Int32.ofNat v)), (2, .int (Int32.ofNat t)), (3, .int wh), (4, .long ((Int64.ofNat a) + (0 : Int64))), (6, .long (Int64.ofNat al)), (8, .int ((Int32.ofNat row) + (1 : Int32))), (9, .long (Int64.ofNat (n_wtr n v row))), (11, .int (Int32.ofNat n))] [] (s_rit n t (s_row_ 76 (f_flb r (n_bit row)) n (s_start g))) u (fun big n0 => sg_od_74 big n0 (s_rit n t (s_row_ 76 (f_flb r (n_bit row)) n (s_start g))) u (Int32.ofNat v) (Int32.ofNat t) wh (Int64.ofNat a) (Int64.ofNat al) (Int32.ofNat row) (Int64.ofNat (n_wtr n v row)) (Int32.ofNat n) (Int64.ofNat a)) ?_
        refine q_weak [(0, .ref 70), (1, .int (Int32.ofNat v)), (2, .int (Int32.ofNat t)), (3, .int wh), (4, .long ((Int64.ofNat a) + (0 : Int64))), (6, .long (Int64.ofNat al)), (8, .int ((Int32.ofNat row) + (1 : Int32)))] (q_sub.cons rfl (q_sub.cons rfl (q_sub.cons rfl (q_sub.cons rfl (q_sub.cons rfl (q_sub.cons rfl (q_sub.cons rfl q_sub.nil))))))) ?_
        have e : n_su (fun row => n_wtr n v row * n_oA n t r (n_bit row)) (k + 1) row a = n_su (fun row => n_wtr n v row * n_oA n t r (n_bit row)) k (row + 1) a := by
          show n_su (fun row => n_wtr n v row * n_oA n t r (n_bit row)) k (row + 1) (a + n_wtr n v row * n_oA n t r (n_bit row)) = _
          rw [hc1, Nat.mul_zero]
          rfl
        rw [e] at hk
        rw [q_succ, show ((Int64.ofNat a) + (0 : Int64)) = Int64.ofNat a from Int64.add_zero _]
        exact ih (row + 1) _ (s_rit n t (s_row_ 76 (f_flb r (n_bit row)) n (s_start g))) (by omega) (w_st_sm hfr2 h5 hs) (fun p hp => by rw [hfr2.1 71 (by omega)]; exact hg p hp) (fun g2 f2 => hk g2 (hfr2.trans f2))
      · have haa := r_aat (g := (s_row_ 76 (f_flb r (n_bit row)) n (s_start g))) u (w_ok_row (f_flb_4 h (n_bit row)) h) (w_sm_row (fun p _ => rfl) hs) ht0 (fun p hp => (w_st78 h5 hp).trans (hg p hp)) hn hg
        rw [show f_hav n (gh_row n (f_flb r (n_bit row)) r) = f_hav n r from rfl, n_oA_i, if_neg hc1] at haa
        refine q_call (M2 := 204) (rest := [.long (Int64.ofNat a)]) (haa) (fun _ _ => rfl) ?_
        refine q_step 7 73 [(0, .ref 70), (1, .int (Int32.ofNat v)), (2, .int (Int32.ofNat t)), (3, .int wh), (4, .long ((Int64.ofNat a) + (Int64.ofNat (n_wtr n v row)))), (6, .long (Int64.ofNat al)), (8, .int ((Int32.ofNat row) + (1 : Int32))), (9, .long (Int64.ofNat (n_wtr n v row))), (11, .int (Int32.ofNat n))] [] (s_rit n t (s_row_ 76 (f_flb r (n_bit row)) n (s_start g))) u (fun big n0 => sg_od_75 big n0 (s_rit n t (s_row_ 76 (f_flb r (n_bit row)) n (s_start g))) u (Int32.ofNat v) (Int32.ofNat t) wh (Int64.ofNat a) (Int64.ofNat al) (Int32.ofNat row) (Int64.ofNat (n_wtr n v row)) (Int32.ofNat n) (Int64.ofNat a)) ?_
        refine q_weak [(0, .ref 70), (1, .int (Int32.ofNat v)), (2, .int (Int32.ofNat t)), (3, .int wh), (4, .long ((Int64.ofNat a) + (Int64.ofNat (n_wtr n v row)))), (6, .long (Int64.ofNat al)), (8, .int ((Int32.ofNat row) + (1 : Int32)))] (q_sub.cons rfl (q_sub.cons rfl (q_sub.cons rfl (q_sub.cons rfl (q_sub.cons rfl (q_sub.cons rfl (q_sub.cons rfl q_sub.nil))))))) ?_
        have e : n_su (fun row => n_wtr n v row * n_oA n t r (n_bit row)) (k + 1) row a = n_su (fun row => n_wtr n v row * n_oA n t r (n_bit row)) k (row + 1) (a + n_wtr n v row) := by
          show n_su (fun row => n_wtr n v row * n_oA n t r (n_bit row)) k (row + 1) (a + n_wtr n v row * n_oA n t r (n_bit row)) = _
          rw [(n_oA_01 n t r (n_bit row)).resolve_left hc1, Nat.mul_one]
        rw [e] at hk
        rw [q_succ, show ((Int64.ofNat a) + (Int64.ofNat (n_wtr n v row))) = Int64.ofNat (a + n_wtr n v row) from (Int64.ofNat_add _ _).symm]
        exact ih (row + 1) _ (s_rit n t (s_row_ 76 (f_flb r (n_bit row)) n (s_start g))) (by omega) (w_st_sm hfr2 h5 hs) (fun p hp => by rw [hfr2.1 71 (by omega)]; exact hg p hp) (fun g2 f2 => hk g2 (hfr2.trans f2))
theorem r_odds0 {n W H : Nat} {g r : qM} (u : qW) (h : w_ok n W H r) (hs : w_sm n (s_start g) r) (h5 : n ≤ 5) {v t : Nat} (hv : v ≤ 10) (ht0 : t ≤ 12) (hg : ∀ p, p < n → g 71 (15 + p) = r 78 p) : w_BS w_fr 210 [.ref 70, .int (Int32.ofNat v), .int (Int32.ofNat t), .int (0 : Int32)] g u (.long (f_od 0 n v t r)) := by
  refine w_bs (mm := m_210) rfl (Nat.le_of_ble_eq_true rfl) rfl ?_
  refine q_step 4 6 [(0, .ref 70), (1, .int (Int32.ofNat v)), (2, .int (Int32.ofNat t)), (3, .int (0 : Int32))] [.long (10 : Int64), .long (0 : Int64), .long (Int32.toInt64 (Int32.ofNat v))] g u (fun big n0 => sg_od_76 big n0 g u (Int32.ofNat v) (Int32.ofNat t)) ?_
  refine q_call (M2 := 149) (rest := []) (b_in1 (m := v) (lo := 0) (hi := 10) g u (by omega) (by omega) (by omega)) (fun _ _ => rfl) ?_
  refine q_step 5 18 [(0, .ref 70), (1, .int (Int32.ofNat v)), (2, .int (Int32.ofNat t)), (3, .int (0 : Int32))] [.long (12 : Int64), .long (0 : Int64), .long (Int32.toInt64 (Int32.ofNat t))] g u (fun big n0 => sg_od_77 big n0 g u (Int32.ofNat v) (Int32.ofNat t)) ?_
  refine q_call (M2 := 149) (rest := []) (b_in1 (m := t) (lo := 0) (hi := 12) g u (by omega) (by omega) (by omega)) (fun _ _ => rfl) ?_
  refine q_step 5 28 [(0, .ref 70), (1, .int (Int32.ofNat v)), (2, .int (Int32.ofNat t)), (3, .int (0 : Int32))] [.long (1 : Int64), .long (0 : Int64), .long (0 : Int64)] g u (fun big n0 => sg_od_78 big n0 g u (Int32.ofNat v) (Int32.ofNat t)) ?_
  refine q_call (M2 := 149) (rest := []) (show q_BS 149 [.long (0 : Int64), .long (0 : Int64), .long (1 : Int64)] g u (some (.int 1), g, u) from b_in _ _ _ _ _) (fun _ _ => rfl) ?_
  refine q_step 7 47 [(0, .ref 70), (1, .int (Int32.ofNat v)), (2, .int (Int32.ofNat t)), (3, .int (0 : Int32)), (4, .long (0 : Int64)), (6, .long (1 : Int64)), (8, .int (0 : Int32))] [] g u (fun big n0 => sg_od_79 big n0 g u (Int32.ofNat v) (Int32.ofNat t)) ?_
  refine ro1 g u (wh := 0) (t := t) (v := v) (w_pl h hs) (by omega) n 0 1 (by omega) ?_
  refine q_step 2 73 [(0, .ref 70), (1, .int (Int32.ofNat v)), (2, .int (Int32.ofNat t)), (3, .int (0 : Int32)), (4, .long (0 : Int64)), (6, .long (Int64.ofNat (1 * 10 ^ n))), (8, .int (0 : Int32))] [] g u (fun big n0 => sg_od_80 big n0 g u (Int32.ofNat v) (Int32.ofNat t) (0 : Int64) (Int64.ofNat (1 * 10 ^ n)) (Int32.ofNat n)) ?_
  rw [Nat.one_mul]
  refine ro3 (wh := 0) (al := 10 ^ n) u h h5 (by omega) (n_bnd (show n ≤ 6 by omega)).1 hv (by omega) (2 ^ n) 0 0 g (by omega) hs hg (fun g2 hf => ?_)
  rw [show n_su (fun row => n_wtr n v row * n_oA n t r (n_bit row)) (2 ^ n) 0 0 = n_odr n v t r from rfl]
  have l1 := n_odr_le (t := t) (show n ≤ 6 by omega) hv r
  have l2 := (n_bnd (show n ≤ 6 by omega)).2
  have l3 : 0 < 10 ^ n := Nat.pow_pos (by omega)
  have l4 : 0 < Nat.gcd (10 ^ n) (n_odr n v t r) := Nat.gcd_pos_of_pos_left _ l3
  have l5 : Nat.gcd (10 ^ n) (n_odr n v t r) ≤ 10 ^ n := Nat.gcd_le_left _ l3
  have hsm := n_od_same (t := t) (n := n) hv r
  refine q_step 2 215 [(0, .ref 70), (1, .int (Int32.ofNat v)), (2, .int (Int32.ofNat t)), (3, .int (0 : Int32)), (4, .long (Int64.ofNat (n_odr n v t r))), (6, .long (Int64.ofNat (10 ^ n))), (8, .int (Int32.ofNat (2 ^ n)))] [.long (Int64.ofNat (n_odr n v t r)), .long (Int64.ofNat (10 ^ n))] g2 u (fun big n0 => sg_od_81 big n0 g2 u (Int32.ofNat v) (Int32.ofNat t) (Int64.ofNat (n_odr n v t r)) (Int64.ofNat (10 ^ n)) (Int32.ofNat (2 ^ n))) ?_
  refine q_call (M2 := 211) (rest := []) (b_rcm g2 u (by omega) (by omega)) (fun _ _ => rfl) ?_
  refine q_step 5 228 [(0, .ref 70), (1, .int (Int32.ofNat v)), (2, .int (Int32.ofNat t)), (3, .int (0 : Int32)), (4, .long (Int64.ofNat (n_odr n v t r))), (6, .long (Int64.ofNat (10 ^ n))), (8, .long (Int64.ofNat (Nat.gcd (10 ^ n) (n_odr n v t r))))] [.long (Int64.ofNat (Nat.gcd (10 ^ n) (n_odr n v t r))), .long (Int64.ofNat (n_odr n v t r))] g2 u (fun big n0 => sg_od_82 big n0 g2 u (Int32.ofNat v) (Int32.ofNat t) (Int64.ofNat (n_odr n v t r)) (Int64.ofNat (10 ^ n)) (Int32.ofNat (2 ^ n)) (Int64.ofNat (Nat.gcd (10 ^ n) (n_odr n v t r)))) ?_
  refine q_ldiv (fun z => absurd ((q_leq (b := 0) (by omega) (by omega)).mp z) (by omega)) rfl ?_
  refine q_ret 2 (some (.long ((Int64.ofNat (n_odr n v t r)) / (Int64.ofNat (Nat.gcd (10 ^ n) (n_odr n v t r))))), g2, u) (fun _ _ => rfl) ?_
  exact ⟨g2, u, by rw [q_ldv (by omega) (by omega), hsm.1]; rfl, hf⟩
theorem r_odds1 {n W H : Nat} {g r : qM} (u : qW) (h : w_ok n W H r) (hs : w_sm n (s_start g) r) (h5 : n ≤ 5) {v t : Nat} (hv : v ≤ 10) (ht0 : t ≤ 12) (hg : ∀ p, p < n → g 71 (15 + p) = r 78 p) : w_BS w_fr 210 [.ref 70, .int (Int32.ofNat v), .int (Int32.ofNat t), .int (1 : Int32)] g u (.long (f_od 1 n v t r)) := by
  refine w_bs (mm := m_210) rfl (Nat.le_of_ble_eq_true rfl) rfl ?_
  refine q_step 4 6 [(0, .ref 70), (1, .int (Int32.ofNat v)), (2, .int (Int32.ofNat t)), (3, .int (1 : Int32))] [.long (10 : Int64), .long (0 : Int64), .long (Int32.toInt64 (Int32.ofNat v))] g u (fun big n0 => sg_od_83 big n0 g u (Int32.ofNat v) (Int32.ofNat t)) ?_
  refine q_call (M2 := 149) (rest := []) (b_in1 (m := v) (lo := 0) (hi := 10) g u (by omega) (by omega) (by omega)) (fun _ _ => rfl) ?_
  refine q_step 5 18 [(0, .ref 70), (1, .int (Int32.ofNat v)), (2, .int (Int32.ofNat t)), (3, .int (1 : Int32))] [.long (12 : Int64), .long (0 : Int64), .long (Int32.toInt64 (Int32.ofNat t))] g u (fun big n0 => sg_od_84 big n0 g u (Int32.ofNat v) (Int32.ofNat t)) ?_
  refine q_call (M2 := 149) (rest := []) (b_in1 (m := t) (lo := 0) (hi := 12) g u (by omega) (by omega) (by omega)) (fun _ _ => rfl) ?_
  refine q_step 5 28 [(0, .ref 70), (1, .int (Int32.ofNat v)), (2, .int (Int32.ofNat t)), (3, .int (1 : Int32))] [.long (1 : Int64), .long (0 : Int64), .long (1 : Int64)] g u (fun big n0 => sg_od_85 big n0 g u (Int32.ofNat v) (Int32.ofNat t)) ?_
  refine q_call (M2 := 149) (rest := []) (show q_BS 149 [.long (1 : Int64), .long (0 : Int64), .long (1 : Int64)] g u (some (.int 1), g, u) from b_in _ _ _ _ _) (fun _ _ => rfl) ?_
  refine q_step 7 47 [(0, .ref 70), (1, .int (Int32.ofNat v)), (2, .int (Int32.ofNat t)), (3, .int (1 : Int32)), (4, .long (0 : Int64)), (6, .long (1 : Int64)), (8, .int (0 : Int32))] [] g u (fun big n0 => sg_od_86 big n0 g u (Int32.ofNat v) (Int32.ofNat t)) ?_
  refine ro1 g u (wh := 1) (t := t) (v := v) (w_pl h hs) (by omega) n 0 1 (by omega) ?_
  refine q_step 2 73 [(0, .ref 70), (1, .int (Int32.ofNat v)), (2, .int (Int32.ofNat t)), (3, .int (1 : Int32)), (4, .long (0 : Int64)), (6, .long (Int64.ofNat (1 * 10 ^ n))), (8, .int (0 : Int32))] [] g u (fun big n0 => sg_od_87 big n0 g u (Int32.ofNat v) (Int32.ofNat t) (0 : Int64) (Int64.ofNat (1 * 10 ^ n)) (Int32.ofNat n)) ?_
  rw [Nat.one_mul]
  refine ro3 (wh := 1) (al := 10 ^ n) u h h5 (by omega) (n_bnd (show n ≤ 6 by omega)).1 hv (by omega) (2 ^ n) 0 0 g (by omega) hs hg (fun g2 hf => ?_)
  rw [show n_su (fun row => n_wtr n v row * n_oA n t r (n_bit row)) (2 ^ n) 0 0 = n_odr n v t r from rfl]
  have l1 := n_odr_le (t := t) (show n ≤ 6 by omega) hv r
  have l2 := (n_bnd (show n ≤ 6 by omega)).2
  have l3 : 0 < 10 ^ n := Nat.pow_pos (by omega)
  have l4 : 0 < Nat.gcd (10 ^ n) (n_odr n v t r) := Nat.gcd_pos_of_pos_left _ l3
  have l5 : Nat.gcd (10 ^ n) (n_odr n v t r) ≤ 10 ^ n := Nat.gcd_le_left _ l3
  have hsm := n_od_same (t := t) (n := n) hv r
  refine q_step 2 215 [(0, .ref 70), (1, .int (Int32.ofNat v)), (2, .int (Int32.ofNat t)), (3, .int (1 : Int32)), (4, .long (Int64.ofNat (n_odr n v t r))), (6, .long (Int64.ofNat (10 ^ n))), (8, .int (Int32.ofNat (2 ^ n)))] [.long (Int64.ofNat (n_odr n v t r)), .long (Int64.ofNat (10 ^ n))] g2 u (fun big n0 => sg_od_88 big n0 g2 u (Int32.ofNat v) (Int32.ofNat t) (Int64.ofNat (n_odr n v t r)) (Int64.ofNat (10 ^ n)) (Int32.ofNat (2 ^ n))) ?_
  refine q_call (M2 := 211) (rest := []) (b_rcm g2 u (by omega) (by omega)) (fun _ _ => rfl) ?_
  refine q_step 5 236 [(0, .ref 70), (1, .int (Int32.ofNat v)), (2, .int (Int32.ofNat t)), (3, .int (1 : Int32)), (4, .long (Int64.ofNat (n_odr n v t r))), (6, .long (Int64.ofNat (10 ^ n))), (8, .long (Int64.ofNat (Nat.gcd (10 ^ n) (n_odr n v t r))))] [.long (Int64.ofNat (Nat.gcd (10 ^ n) (n_odr n v t r))), .long (Int64.ofNat (10 ^ n))] g2 u (fun big n0 => sg_od_89 big n0 g2 u (Int32.ofNat v) (Int32.ofNat t) (Int64.ofNat (n_odr n v t r)) (Int64.ofNat (10 ^ n)) (Int32.ofNat (2 ^ n)) (Int64.ofNat (Nat.gcd (10 ^ n) (n_odr n v t r)))) ?_
  refine q_ldiv (fun z => absurd ((q_leq (b := 0) (by omega) (by omega)).mp z) (by omega)) rfl ?_
  refine q_ret 1 (some (.long ((Int64.ofNat (10 ^ n)) / (Int64.ofNat (Nat.gcd (10 ^ n) (n_odr n v t r))))), g2, u) (fun _ _ => rfl) ?_
  exact ⟨g2, u, by rw [q_ldv (by omega) (by omega), hsm.2]; rfl, hf⟩
