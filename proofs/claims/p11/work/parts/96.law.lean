section
/-! THE LAW, call by call. -/
def la_L (i : Int32) : pm_L := [(0, .ref 0), (1, .ref 8), (2, .ref 70), (3, .int i)]
noncomputable def la_R (xs : List Int32) (bc : Nat → List Value → pm_H → pm_R) (n pc : Nat) (i : Int32) (st : List Value) (h : pm_H) : pm_R := pm_run xs pm_m bc m_0 n pc (la_L i) st h 80 1467
section Law
variable {xs : List Int32} {bc : Nat → List Value → pm_H → pm_R} {i : Int32}
theorem la_arg {n p : Nat} {j x : Int32} {st : List Value} {h : pm_H} {a b : Nat} {z : Int} (he : pm_at m_0 p = some (.iaload, a, b, z)) (hj : ¬ j < 0) (hx : xs[j.toNatClampNeg]? = some x) : la_R xs bc (n + 1) p i (.int j :: .ref 0 :: st) h = la_R xs bc n (p + 1) i (.int x :: st) h := by
  show (match pm_at m_0 p with
    | some e => pm_step xs pm_m bc m_0 (pm_run xs pm_m bc m_0 n) e p (la_L i) (.int j :: .ref 0 :: st) h 80 1467
    | none => none) = _
  rw [he]
  show pm_iald (pm_run xs pm_m bc m_0 n) xs p (la_L i) (.int j :: .ref 0 :: st) h 80 1467 = _
  unfold pm_iald
  dsimp only
  rw [if_neg hj, if_pos rfl, hx]
  rfl
theorem la_call {n p k M2 a ix : Nat} {z : Int} {m2 : pm_M} {st as rest : List Value} {h h' : pm_H} {v : Value} (he : pm_at m_0 p = some (.invokevirtual ix, M2, 0, z)) (hm : pm_m M2 = some m2) (hk : pm_n m2 = k) (hlen : k ≤ st.length) (hst : (st.take k).reverse = .ref a :: as) (hrest : st.drop k = rest) (hcell : ∃ gs, pm_cell h a = some (.inr (.inr (.inr (pm_o m2, gs))))) (hc : pm_c m2 = 0) (hs : pm_s m2 = 0) (hsum : (rest.map Value.category).sum ≤ 8) (hb : bc M2 (.ref a :: as) h = some (some v, h')) : la_R xs bc (n + 1) p i st h = la_R xs bc n (p + 3) i (v :: rest) h' := by
  show (match pm_at m_0 p with
    | some e => pm_step xs pm_m bc m_0 (pm_run xs pm_m bc m_0 n) e p (la_L i) st h 80 1467
    | none => none) = _
  rw [he]
  show (if (0 : Nat) = 0 then pm_inv (pm_run xs pm_m bc m_0 n) pm_m bc m_0 M2 p (la_L i) st h 80 1467 else none) = _
  rw [if_pos rfl]
  unfold pm_inv
  rw [hm]
  dsimp only
  obtain ⟨gs, hcell⟩ := hcell
  rw [hk, if_pos hlen, hst]
  dsimp only
  rw [hcell]
  dsimp only
  rw [if_pos rfl]
  unfold pm_call
  rw [hrest, hc, hs, if_pos hsum, if_pos (show 80 + 0 ≤ pm_c m_0 by decide), if_pos (show 1467 + 0 ≤ pm_s m_0 by decide), hb]
  rfl
end Law
/-- from here the law comes to its end and answers 1, with steps and depth enough -/
def la_G (xs : List Int32) (pc : Nat) (i : Int32) (st : List Value) (g : qM) (u : qW) : Prop := ∃ F, ∀ N d n, F ≤ N → F ≤ d → F ≤ n → ∀ h, q_rep g u h → ∃ h', la_R xs (pm_big xs pm_m N d) n pc i st h = some (some (.int 1), h')
theorem la_go {xs : List Int32} {pc pc' : Nat} {i i' : Int32} {st st' : List Value} {g : qM} {u : qW} (k : Nat) (e : ∀ (bc : Nat → List Value → pm_H → pm_R) (n : Nat) (h : pm_H), la_R xs bc (n + k) pc i st h = la_R xs bc n pc' i' st' h) (hG : la_G xs pc' i' st' g u) : la_G xs pc i st g u := by
  obtain ⟨F, hF⟩ := hG
  refine ⟨F + k, fun N d n h1 h2 h3 h hr => ?_⟩
  obtain ⟨n', rfl⟩ : ∃ n', n = n' + k := ⟨n - k, by omega⟩
  rw [e]
  exact hF N d n' (by omega) (by omega) (by omega) h hr
theorem la_inv {xs : List Int32} {p : Nat} {i : Int32} {g g' : qM} {u u' : qW} {k M2 a ix : Nat} {z : Int} {m2 : pm_M} {st as rest : List Value} {v : Value} (he : pm_at m_0 p = some (.invokevirtual ix, M2, 0, z)) (hm : pm_m M2 = some m2) (hk : pm_n m2 = k) (hlen : k ≤ st.length) (hst : (st.take k).reverse = .ref a :: as) (hrest : st.drop k = rest) (hcell : ∃ gs, q_cel g u a = some (.inr (.inr (.inr (pm_o m2, gs))))) (hc : pm_c m2 = 0) (hs : pm_s m2 = 0) (hsum : (rest.map Value.category).sum ≤ 8) (hb : q_BS M2 (.ref a :: as) g u (some v, g', u')) (hG : la_G xs (p + 3) i (v :: rest) g' u') : la_G xs p i st g u := by
  obtain ⟨F, hF⟩ := hG
  obtain ⟨F2, hF2⟩ := hb
  refine ⟨F + F2 + 1, fun N d n h1 h2 h3 h hr => ?_⟩
  obtain ⟨n', rfl⟩ : ∃ n', n = n' + 1 := ⟨n - 1, by omega⟩
  obtain ⟨h', e, hr'⟩ := qs_big (xs := xs) (tab := pm_m) (N := N) d M2 (.ref a :: as) g u h (some v, g', u') hr (hF2 N d (by omega) (by omega))
  obtain ⟨gs, hce⟩ := hcell
  rw [la_call he hm hk hlen hst hrest ⟨gs, (hr a).trans hce⟩ hc hs hsum e]
  exact hF N d n' (by omega) (by omega) (by omega) h' hr'
theorem la_if {xs : List Int32} {p t a b : Nat} {z off : Int} {i x : Int32} {st : List Value} {bc : Nat → List Value → pm_H → pm_R} {n : Nat} {h : pm_H} (he : pm_at m_0 p = some (.ifCond .eq off, t, b, z)) : la_R xs bc (n + 1) p i (.int x :: st) h = if x = 0 then la_R xs bc n t i st h else la_R xs bc n (p + 3) i st h := by
  show (match pm_at m_0 p with
    | some e => pm_step xs pm_m bc m_0 (pm_run xs pm_m bc m_0 n) e p (la_L i) (.int x :: st) h 80 1467
    | none => none) = _
  rw [he]
  rfl
theorem lg_self (v : Int64) : lg_cmp v v = 0 := by
  unfold lg_cmp
  simp
theorem lq_1 (xs : List Int32) (i : Int32) (bc : Nat → List Value → pm_H → pm_R) (n : Nat) (h : pm_H) : la_R xs bc (n + 5) 204 i [] h = la_R xs bc n 209 i [.int (i + Int32.ofInt 1), .ref 0, .ref 8] h := rfl
theorem lq_2 (xs : List Int32) (i : Int32) (v : Int32) (bc : Nat → List Value → pm_H → pm_R) (n : Nat) (h : pm_H) : la_R xs bc (n + 6) 213 i [.int v] h = la_R xs bc n 219 i [.int (i + Int32.ofInt 1), .ref 0, .ref 70] h := rfl
theorem lq_3 (xs : List Int32) (i : Int32) (v : Int32) (bc : Nat → List Value → pm_H → pm_R) (n : Nat) (h : pm_H) : la_R xs bc (n + 2) 223 i [.int v] h = la_R xs bc n 1333 i [] h := rfl
theorem lz_0 {xs : List Int32} {i : Int32} {g : qM} {u : qW} (h : w_R g) {x1 : Int32} (n1 : ¬ i + Int32.ofInt 1 < 0) (e1 : xs[(i + Int32.ofInt 1).toNatClampNeg]? = some x1) (tail : ∀ g' u', w_R g' → la_G xs 1333 i [] g' u') : la_G xs 204 i [] g u := by
  obtain ⟨v, g1, u1, g2, u2, q1, q2, hr⟩ := pr_feed x1 g u h
  refine la_go 5 (lq_1 xs i) ?_
  refine la_go 1 (fun _ _ _ => la_arg rfl n1 e1) ?_
  refine la_inv (rest := []) rfl rfl rfl (Nat.le_of_ble_eq_true rfl) rfl rfl ⟨_, rfl⟩ rfl rfl (Nat.le_of_ble_eq_true rfl) q1 ?_
  refine la_go 6 (lq_2 xs i v) ?_
  refine la_go 1 (fun _ _ _ => la_arg rfl n1 e1) ?_
  refine la_inv (rest := []) rfl rfl rfl (Nat.le_of_ble_eq_true rfl) rfl rfl ⟨_, rfl⟩ rfl rfl (Nat.le_of_ble_eq_true rfl) q2 ?_
  refine la_go 2 (lq_3 xs i v) ?_
  exact tail _ _ hr
theorem lq_4 (xs : List Int32) (i : Int32) (bc : Nat → List Value → pm_H → pm_R) (n : Nat) (h : pm_H) : la_R xs bc (n + 5) 227 i [] h = la_R xs bc n 232 i [.int (i + Int32.ofInt 1), .ref 0, .ref 8] h := rfl
theorem lq_5 (xs : List Int32) (i : Int32) (v : Int32) (bc : Nat → List Value → pm_H → pm_R) (n : Nat) (h : pm_H) : la_R xs bc (n + 6) 236 i [.int v] h = la_R xs bc n 242 i [.int (i + Int32.ofInt 1), .ref 0, .ref 70] h := rfl
theorem lq_6 (xs : List Int32) (i : Int32) (v : Int32) (bc : Nat → List Value → pm_H → pm_R) (n : Nat) (h : pm_H) : la_R xs bc (n + 2) 246 i [.int v] h = la_R xs bc n 1333 i [] h := rfl
theorem lz_1 {xs : List Int32} {i : Int32} {g : qM} {u : qW} (h : w_R g) {x1 : Int32} (n1 : ¬ i + Int32.ofInt 1 < 0) (e1 : xs[(i + Int32.ofInt 1).toNatClampNeg]? = some x1) (tail : ∀ g' u', w_R g' → la_G xs 1333 i [] g' u') : la_G xs 227 i [] g u := by
  obtain ⟨v, g1, u1, g2, u2, q1, q2, hr⟩ := pr_end x1 g u h
  refine la_go 5 (lq_4 xs i) ?_
  refine la_go 1 (fun _ _ _ => la_arg rfl n1 e1) ?_
  refine la_inv (rest := []) rfl rfl rfl (Nat.le_of_ble_eq_true rfl) rfl rfl ⟨_, rfl⟩ rfl rfl (Nat.le_of_ble_eq_true rfl) q1 ?_
  refine la_go 6 (lq_5 xs i v) ?_
  refine la_go 1 (fun _ _ _ => la_arg rfl n1 e1) ?_
  refine la_inv (rest := []) rfl rfl rfl (Nat.le_of_ble_eq_true rfl) rfl rfl ⟨_, rfl⟩ rfl rfl (Nat.le_of_ble_eq_true rfl) q2 ?_
  refine la_go 2 (lq_6 xs i v) ?_
  exact tail _ _ hr
theorem lq_7 (xs : List Int32) (i : Int32) (bc : Nat → List Value → pm_H → pm_R) (n : Nat) (h : pm_H) : la_R xs bc (n + 1) 250 i [] h = la_R xs bc n 251 i [.ref 8] h := rfl
theorem lq_8 (xs : List Int32) (i : Int32) (v : Int32) (bc : Nat → List Value → pm_H → pm_R) (n : Nat) (h : pm_H) : la_R xs bc (n + 2) 254 i [.int v] h = la_R xs bc n 256 i [.ref 70] h := rfl
theorem lq_9 (xs : List Int32) (i : Int32) (v : Int32) (bc : Nat → List Value → pm_H → pm_R) (n : Nat) (h : pm_H) : la_R xs bc (n + 2) 259 i [.int v] h = la_R xs bc n 1333 i [] h := rfl
theorem lz_2 {xs : List Int32} {i : Int32} {g : qM} {u : qW} (h : w_R g) (tail : ∀ g' u', w_R g' → la_G xs 1333 i [] g' u') : la_G xs 250 i [] g u := by
  obtain ⟨v, g1, u1, g2, u2, q1, q2, hr⟩ := pr_text g u h
  refine la_go 1 (lq_7 xs i) ?_
  refine la_inv (rest := []) rfl rfl rfl (Nat.le_of_ble_eq_true rfl) rfl rfl ⟨_, rfl⟩ rfl rfl (Nat.le_of_ble_eq_true rfl) q1 ?_
  refine la_go 2 (lq_8 xs i v) ?_
  refine la_inv (rest := []) rfl rfl rfl (Nat.le_of_ble_eq_true rfl) rfl rfl ⟨_, rfl⟩ rfl rfl (Nat.le_of_ble_eq_true rfl) q2 ?_
  refine la_go 2 (lq_9 xs i v) ?_
  exact tail _ _ hr
theorem lq_10 (xs : List Int32) (i : Int32) (bc : Nat → List Value → pm_H → pm_R) (n : Nat) (h : pm_H) : la_R xs bc (n + 1) 263 i [] h = la_R xs bc n 264 i [.ref 8] h := rfl
theorem lq_11 (xs : List Int32) (i : Int32) (v : Int32) (bc : Nat → List Value → pm_H → pm_R) (n : Nat) (h : pm_H) : la_R xs bc (n + 2) 267 i [.int v] h = la_R xs bc n 269 i [.ref 70] h := rfl
theorem lq_12 (xs : List Int32) (i : Int32) (v : Int32) (bc : Nat → List Value → pm_H → pm_R) (n : Nat) (h : pm_H) : la_R xs bc (n + 2) 272 i [.int v] h = la_R xs bc n 1333 i [] h := rfl
theorem lz_3 {xs : List Int32} {i : Int32} {g : qM} {u : qW} (h : w_R g) (tail : ∀ g' u', w_R g' → la_G xs 1333 i [] g' u') : la_G xs 263 i [] g u := by
  obtain ⟨v, g1, u1, g2, u2, q1, q2, hr⟩ := pr_fault g u h
  refine la_go 1 (lq_10 xs i) ?_
  refine la_inv (rest := []) rfl rfl rfl (Nat.le_of_ble_eq_true rfl) rfl rfl ⟨_, rfl⟩ rfl rfl (Nat.le_of_ble_eq_true rfl) q1 ?_
  refine la_go 2 (lq_11 xs i v) ?_
  refine la_inv (rest := []) rfl rfl rfl (Nat.le_of_ble_eq_true rfl) rfl rfl ⟨_, rfl⟩ rfl rfl (Nat.le_of_ble_eq_true rfl) q2 ?_
  refine la_go 2 (lq_12 xs i v) ?_
  exact tail _ _ hr
theorem lq_13 (xs : List Int32) (i : Int32) (bc : Nat → List Value → pm_H → pm_R) (n : Nat) (h : pm_H) : la_R xs bc (n + 5) 276 i [] h = la_R xs bc n 281 i [.int (i + Int32.ofInt 1), .ref 0, .ref 8] h := rfl
theorem lq_14 (xs : List Int32) (i : Int32) (v : Int32) (bc : Nat → List Value → pm_H → pm_R) (n : Nat) (h : pm_H) : la_R xs bc (n + 6) 285 i [.int v] h = la_R xs bc n 291 i [.int (i + Int32.ofInt 1), .ref 0, .ref 70] h := rfl
theorem lq_15 (xs : List Int32) (i : Int32) (v : Int32) (bc : Nat → List Value → pm_H → pm_R) (n : Nat) (h : pm_H) : la_R xs bc (n + 2) 295 i [.int v] h = la_R xs bc n 1333 i [] h := rfl
theorem lz_4 {xs : List Int32} {i : Int32} {g : qM} {u : qW} (h : w_R g) {x1 : Int32} (n1 : ¬ i + Int32.ofInt 1 < 0) (e1 : xs[(i + Int32.ofInt 1).toNatClampNeg]? = some x1) (tail : ∀ g' u', w_R g' → la_G xs 1333 i [] g' u') : la_G xs 276 i [] g u := by
  obtain ⟨v, g1, u1, g2, u2, q1, q2, hr⟩ := pr_rule x1 g u h
  refine la_go 5 (lq_13 xs i) ?_
  refine la_go 1 (fun _ _ _ => la_arg rfl n1 e1) ?_
  refine la_inv (rest := []) rfl rfl rfl (Nat.le_of_ble_eq_true rfl) rfl rfl ⟨_, rfl⟩ rfl rfl (Nat.le_of_ble_eq_true rfl) q1 ?_
  refine la_go 6 (lq_14 xs i v) ?_
  refine la_go 1 (fun _ _ _ => la_arg rfl n1 e1) ?_
  refine la_inv (rest := []) rfl rfl rfl (Nat.le_of_ble_eq_true rfl) rfl rfl ⟨_, rfl⟩ rfl rfl (Nat.le_of_ble_eq_true rfl) q2 ?_
  refine la_go 2 (lq_15 xs i v) ?_
  exact tail _ _ hr
theorem lq_16 (xs : List Int32) (i : Int32) (bc : Nat → List Value → pm_H → pm_R) (n : Nat) (h : pm_H) : la_R xs bc (n + 5) 299 i [] h = la_R xs bc n 304 i [.int (i + Int32.ofInt 1), .ref 0, .ref 8] h := rfl
theorem lq_17 (xs : List Int32) (i : Int32) (x1 : Int32) (bc : Nat → List Value → pm_H → pm_R) (n : Nat) (h : pm_H) : la_R xs bc (n + 4) 305 i [.int x1, .ref 8] h = la_R xs bc n 309 i [.int (i + Int32.ofInt 2), .ref 0, .int x1, .ref 8] h := rfl
theorem lq_18 (xs : List Int32) (i : Int32) (v : Int32) (bc : Nat → List Value → pm_H → pm_R) (n : Nat) (h : pm_H) : la_R xs bc (n + 6) 313 i [.int v] h = la_R xs bc n 319 i [.int (i + Int32.ofInt 1), .ref 0, .ref 70] h := rfl
theorem lq_19 (xs : List Int32) (i : Int32) (x1 : Int32) (bc : Nat → List Value → pm_H → pm_R) (n : Nat) (h : pm_H) : la_R xs bc (n + 4) 320 i [.int x1, .ref 70] h = la_R xs bc n 324 i [.int (i + Int32.ofInt 2), .ref 0, .int x1, .ref 70] h := rfl
theorem lq_20 (xs : List Int32) (i : Int32) (v : Int32) (bc : Nat → List Value → pm_H → pm_R) (n : Nat) (h : pm_H) : la_R xs bc (n + 2) 328 i [.int v] h = la_R xs bc n 1333 i [] h := rfl
theorem lz_5 {xs : List Int32} {i : Int32} {g : qM} {u : qW} (h : w_R g) {x1 : Int32} (n1 : ¬ i + Int32.ofInt 1 < 0) (e1 : xs[(i + Int32.ofInt 1).toNatClampNeg]? = some x1) {x2 : Int32} (n2 : ¬ i + Int32.ofInt 2 < 0) (e2 : xs[(i + Int32.ofInt 2).toNatClampNeg]? = some x2) (tail : ∀ g' u', w_R g' → la_G xs 1333 i [] g' u') : la_G xs 299 i [] g u := by
  obtain ⟨v, g1, u1, g2, u2, q1, q2, hr⟩ := pr_one x1 x2 g u h
  refine la_go 5 (lq_16 xs i) ?_
  refine la_go 1 (fun _ _ _ => la_arg rfl n1 e1) ?_
  refine la_go 4 (lq_17 xs i x1) ?_
  refine la_go 1 (fun _ _ _ => la_arg rfl n2 e2) ?_
  refine la_inv (rest := []) rfl rfl rfl (Nat.le_of_ble_eq_true rfl) rfl rfl ⟨_, rfl⟩ rfl rfl (Nat.le_of_ble_eq_true rfl) q1 ?_
  refine la_go 6 (lq_18 xs i v) ?_
  refine la_go 1 (fun _ _ _ => la_arg rfl n1 e1) ?_
  refine la_go 4 (lq_19 xs i x1) ?_
  refine la_go 1 (fun _ _ _ => la_arg rfl n2 e2) ?_
  refine la_inv (rest := []) rfl rfl rfl (Nat.le_of_ble_eq_true rfl) rfl rfl ⟨_, rfl⟩ rfl rfl (Nat.le_of_ble_eq_true rfl) q2 ?_
  refine la_go 2 (lq_20 xs i v) ?_
  exact tail _ _ hr
theorem lq_21 (xs : List Int32) (i : Int32) (bc : Nat → List Value → pm_H → pm_R) (n : Nat) (h : pm_H) : la_R xs bc (n + 5) 332 i [] h = la_R xs bc n 337 i [.int (i + Int32.ofInt 1), .ref 0, .ref 8] h := rfl
theorem lq_22 (xs : List Int32) (i : Int32) (v : Int32) (bc : Nat → List Value → pm_H → pm_R) (n : Nat) (h : pm_H) : la_R xs bc (n + 6) 341 i [.int v] h = la_R xs bc n 347 i [.int (i + Int32.ofInt 1), .ref 0, .ref 70] h := rfl
theorem lq_23 (xs : List Int32) (i : Int32) (v : Int32) (bc : Nat → List Value → pm_H → pm_R) (n : Nat) (h : pm_H) : la_R xs bc (n + 2) 351 i [.int v] h = la_R xs bc n 1333 i [] h := rfl
theorem lz_6 {xs : List Int32} {i : Int32} {g : qM} {u : qW} (h : w_R g) {x1 : Int32} (n1 : ¬ i + Int32.ofInt 1 < 0) (e1 : xs[(i + Int32.ofInt 1).toNatClampNeg]? = some x1) (tail : ∀ g' u', w_R g' → la_G xs 1333 i [] g' u') : la_G xs 332 i [] g u := by
  obtain ⟨v, g1, u1, g2, u2, q1, q2, hr⟩ := pr_cell x1 g u h
  refine la_go 5 (lq_21 xs i) ?_
  refine la_go 1 (fun _ _ _ => la_arg rfl n1 e1) ?_
  refine la_inv (rest := []) rfl rfl rfl (Nat.le_of_ble_eq_true rfl) rfl rfl ⟨_, rfl⟩ rfl rfl (Nat.le_of_ble_eq_true rfl) q1 ?_
  refine la_go 6 (lq_22 xs i v) ?_
  refine la_go 1 (fun _ _ _ => la_arg rfl n1 e1) ?_
  refine la_inv (rest := []) rfl rfl rfl (Nat.le_of_ble_eq_true rfl) rfl rfl ⟨_, rfl⟩ rfl rfl (Nat.le_of_ble_eq_true rfl) q2 ?_
  refine la_go 2 (lq_23 xs i v) ?_
  exact tail _ _ hr
theorem lq_24 (xs : List Int32) (i : Int32) (bc : Nat → List Value → pm_H → pm_R) (n : Nat) (h : pm_H) : la_R xs bc (n + 5) 355 i [] h = la_R xs bc n 360 i [.int (i + Int32.ofInt 1), .ref 0, .ref 8] h := rfl
theorem lq_25 (xs : List Int32) (i : Int32) (x1 : Int32) (bc : Nat → List Value → pm_H → pm_R) (n : Nat) (h : pm_H) : la_R xs bc (n + 4) 361 i [.int x1, .ref 8] h = la_R xs bc n 365 i [.int (i + Int32.ofInt 2), .ref 0, .int x1, .ref 8] h := rfl
theorem lq_26 (xs : List Int32) (i : Int32) (v : Int32) (bc : Nat → List Value → pm_H → pm_R) (n : Nat) (h : pm_H) : la_R xs bc (n + 6) 369 i [.int v] h = la_R xs bc n 375 i [.int (i + Int32.ofInt 1), .ref 0, .ref 70] h := rfl
theorem lq_27 (xs : List Int32) (i : Int32) (x1 : Int32) (bc : Nat → List Value → pm_H → pm_R) (n : Nat) (h : pm_H) : la_R xs bc (n + 4) 376 i [.int x1, .ref 70] h = la_R xs bc n 380 i [.int (i + Int32.ofInt 2), .ref 0, .int x1, .ref 70] h := rfl
theorem lq_28 (xs : List Int32) (i : Int32) (v : Int32) (bc : Nat → List Value → pm_H → pm_R) (n : Nat) (h : pm_H) : la_R xs bc (n + 2) 384 i [.int v] h = la_R xs bc n 1333 i [] h := rfl
theorem lz_7 {xs : List Int32} {i : Int32} {g : qM} {u : qW} (h : w_R g) {x1 : Int32} (n1 : ¬ i + Int32.ofInt 1 < 0) (e1 : xs[(i + Int32.ofInt 1).toNatClampNeg]? = some x1) {x2 : Int32} (n2 : ¬ i + Int32.ofInt 2 < 0) (e2 : xs[(i + Int32.ofInt 2).toNatClampNeg]? = some x2) (tail : ∀ g' u', w_R g' → la_G xs 1333 i [] g' u') : la_G xs 355 i [] g u := by
  obtain ⟨v, g1, u1, g2, u2, q1, q2, hr⟩ := pr_mood x1 x2 g u h
  refine la_go 5 (lq_24 xs i) ?_
  refine la_go 1 (fun _ _ _ => la_arg rfl n1 e1) ?_
  refine la_go 4 (lq_25 xs i x1) ?_
  refine la_go 1 (fun _ _ _ => la_arg rfl n2 e2) ?_
  refine la_inv (rest := []) rfl rfl rfl (Nat.le_of_ble_eq_true rfl) rfl rfl ⟨_, rfl⟩ rfl rfl (Nat.le_of_ble_eq_true rfl) q1 ?_
  refine la_go 6 (lq_26 xs i v) ?_
  refine la_go 1 (fun _ _ _ => la_arg rfl n1 e1) ?_
  refine la_go 4 (lq_27 xs i x1) ?_
  refine la_go 1 (fun _ _ _ => la_arg rfl n2 e2) ?_
  refine la_inv (rest := []) rfl rfl rfl (Nat.le_of_ble_eq_true rfl) rfl rfl ⟨_, rfl⟩ rfl rfl (Nat.le_of_ble_eq_true rfl) q2 ?_
  refine la_go 2 (lq_28 xs i v) ?_
  exact tail _ _ hr
theorem lq_29 (xs : List Int32) (i : Int32) (bc : Nat → List Value → pm_H → pm_R) (n : Nat) (h : pm_H) : la_R xs bc (n + 5) 388 i [] h = la_R xs bc n 393 i [.int (i + Int32.ofInt 1), .ref 0, .ref 8] h := rfl
theorem lq_30 (xs : List Int32) (i : Int32) (x1 : Int32) (bc : Nat → List Value → pm_H → pm_R) (n : Nat) (h : pm_H) : la_R xs bc (n + 4) 394 i [.int x1, .ref 8] h = la_R xs bc n 398 i [.int (i + Int32.ofInt 2), .ref 0, .int x1, .ref 8] h := rfl
theorem lq_31 (xs : List Int32) (i : Int32) (v : Int32) (bc : Nat → List Value → pm_H → pm_R) (n : Nat) (h : pm_H) : la_R xs bc (n + 6) 402 i [.int v] h = la_R xs bc n 408 i [.int (i + Int32.ofInt 1), .ref 0, .ref 70] h := rfl
theorem lq_32 (xs : List Int32) (i : Int32) (x1 : Int32) (bc : Nat → List Value → pm_H → pm_R) (n : Nat) (h : pm_H) : la_R xs bc (n + 4) 409 i [.int x1, .ref 70] h = la_R xs bc n 413 i [.int (i + Int32.ofInt 2), .ref 0, .int x1, .ref 70] h := rfl
theorem lq_33 (xs : List Int32) (i : Int32) (v : Int32) (bc : Nat → List Value → pm_H → pm_R) (n : Nat) (h : pm_H) : la_R xs bc (n + 2) 417 i [.int v] h = la_R xs bc n 1333 i [] h := rfl
theorem lz_8 {xs : List Int32} {i : Int32} {g : qM} {u : qW} (h : w_R g) {x1 : Int32} (n1 : ¬ i + Int32.ofInt 1 < 0) (e1 : xs[(i + Int32.ofInt 1).toNatClampNeg]? = some x1) {x2 : Int32} (n2 : ¬ i + Int32.ofInt 2 < 0) (e2 : xs[(i + Int32.ofInt 2).toNatClampNeg]? = some x2) (tail : ∀ g' u', w_R g' → la_G xs 1333 i [] g' u') : la_G xs 388 i [] g u := by
  obtain ⟨v, g1, u1, g2, u2, q1, q2, hr⟩ := pr_put x1 x2 g u h
  refine la_go 5 (lq_29 xs i) ?_
  refine la_go 1 (fun _ _ _ => la_arg rfl n1 e1) ?_
  refine la_go 4 (lq_30 xs i x1) ?_
  refine la_go 1 (fun _ _ _ => la_arg rfl n2 e2) ?_
  refine la_inv (rest := []) rfl rfl rfl (Nat.le_of_ble_eq_true rfl) rfl rfl ⟨_, rfl⟩ rfl rfl (Nat.le_of_ble_eq_true rfl) q1 ?_
  refine la_go 6 (lq_31 xs i v) ?_
  refine la_go 1 (fun _ _ _ => la_arg rfl n1 e1) ?_
  refine la_go 4 (lq_32 xs i x1) ?_
  refine la_go 1 (fun _ _ _ => la_arg rfl n2 e2) ?_
  refine la_inv (rest := []) rfl rfl rfl (Nat.le_of_ble_eq_true rfl) rfl rfl ⟨_, rfl⟩ rfl rfl (Nat.le_of_ble_eq_true rfl) q2 ?_
  refine la_go 2 (lq_33 xs i v) ?_
  exact tail _ _ hr
theorem lq_34 (xs : List Int32) (i : Int32) (bc : Nat → List Value → pm_H → pm_R) (n : Nat) (h : pm_H) : la_R xs bc (n + 5) 421 i [] h = la_R xs bc n 426 i [.int (i + Int32.ofInt 1), .ref 0, .ref 8] h := rfl
theorem lq_35 (xs : List Int32) (i : Int32) (x1 : Int32) (bc : Nat → List Value → pm_H → pm_R) (n : Nat) (h : pm_H) : la_R xs bc (n + 4) 427 i [.int x1, .ref 8] h = la_R xs bc n 431 i [.int (i + Int32.ofInt 2), .ref 0, .int x1, .ref 8] h := rfl
theorem lq_36 (xs : List Int32) (i : Int32) (x1 : Int32) (bc : Nat → List Value → pm_H → pm_R) (n : Nat) (h : pm_H) : la_R xs bc (n + 1) 439 i [.int x1, .ref 8] h = la_R xs bc n 440 i [.int (0 : Int32), .int x1, .ref 8] h := rfl
theorem lq_37 (xs : List Int32) (i : Int32) (v : Int32) (bc : Nat → List Value → pm_H → pm_R) (n : Nat) (h : pm_H) : la_R xs bc (n + 5) 443 i [.int v] h = la_R xs bc n 448 i [.int (i + Int32.ofInt 1), .ref 0, .ref 70, .int v] h := rfl
theorem lq_38 (xs : List Int32) (i : Int32) (v : Int32) (x1 : Int32) (bc : Nat → List Value → pm_H → pm_R) (n : Nat) (h : pm_H) : la_R xs bc (n + 4) 449 i [.int x1, .ref 70, .int v] h = la_R xs bc n 453 i [.int (i + Int32.ofInt 2), .ref 0, .int x1, .ref 70, .int v] h := rfl
theorem lq_39 (xs : List Int32) (i : Int32) (v : Int32) (x1 : Int32) (bc : Nat → List Value → pm_H → pm_R) (n : Nat) (h : pm_H) : la_R xs bc (n + 1) 461 i [.int x1, .ref 70, .int v] h = la_R xs bc n 462 i [.int (0 : Int32), .int x1, .ref 70, .int v] h := rfl
theorem lc_465 (xs : List Int32) (i v : Int32) (bc : Nat → List Value → pm_H → pm_R) (n : Nat) (h : pm_H) : la_R xs bc (n + 1) 465 i [.int v, .int v] h = la_R xs bc n 1333 i [] h := if_pos rfl
theorem lq_41 (xs : List Int32) (i : Int32) (x1 : Int32) (bc : Nat → List Value → pm_H → pm_R) (n : Nat) (h : pm_H) : la_R xs bc (n + 2) 435 i [.int x1, .ref 8] h = la_R xs bc n 440 i [.int (1 : Int32), .int x1, .ref 8] h := rfl
theorem lq_42 (xs : List Int32) (i : Int32) (v : Int32) (x1 : Int32) (bc : Nat → List Value → pm_H → pm_R) (n : Nat) (h : pm_H) : la_R xs bc (n + 2) 457 i [.int x1, .ref 70, .int v] h = la_R xs bc n 462 i [.int (1 : Int32), .int x1, .ref 70, .int v] h := rfl
theorem lz_9 {xs : List Int32} {i : Int32} {g : qM} {u : qW} (h : w_R g) {x1 : Int32} (n1 : ¬ i + Int32.ofInt 1 < 0) (e1 : xs[(i + Int32.ofInt 1).toNatClampNeg]? = some x1) {x2 : Int32} (n2 : ¬ i + Int32.ofInt 2 < 0) (e2 : xs[(i + Int32.ofInt 2).toNatClampNeg]? = some x2) (tail : ∀ g' u', w_R g' → la_G xs 1333 i [] g' u') : la_G xs 421 i [] g u := by
  by_cases hz : x2 = 0
  · obtain ⟨v, g1, u1, g2, u2, q1, q2, hr⟩ := pr_hold0 x1 g u h
    refine la_go 5 (lq_34 xs i) ?_
    refine la_go 1 (fun _ _ _ => la_arg rfl n1 e1) ?_
    refine la_go 4 (lq_35 xs i x1) ?_
    refine la_go 1 (fun _ _ _ => la_arg rfl n2 e2) ?_
    refine la_go 1 (fun _ _ _ => (la_if (a := 0) rfl).trans (if_pos hz)) ?_
    refine la_go 1 (lq_36 xs i x1) ?_
    refine la_inv (rest := []) rfl rfl rfl (Nat.le_of_ble_eq_true rfl) rfl rfl ⟨_, rfl⟩ rfl rfl (Nat.le_of_ble_eq_true rfl) q1 ?_
    refine la_go 5 (lq_37 xs i v) ?_
    refine la_go 1 (fun _ _ _ => la_arg rfl n1 e1) ?_
    refine la_go 4 (lq_38 xs i v x1) ?_
    refine la_go 1 (fun _ _ _ => la_arg rfl n2 e2) ?_
    refine la_go 1 (fun _ _ _ => (la_if (a := 0) rfl).trans (if_pos hz)) ?_
    refine la_go 1 (lq_39 xs i v x1) ?_
    refine la_inv (rest := [.int v]) rfl rfl rfl (Nat.le_of_ble_eq_true rfl) rfl rfl ⟨_, rfl⟩ rfl rfl (Nat.le_of_ble_eq_true rfl) q2 ?_
    refine la_go 1 (lc_465 xs i v) ?_
    exact tail _ _ hr
  · obtain ⟨v, g1, u1, g2, u2, q1, q2, hr⟩ := pr_hold1 x1 g u h
    refine la_go 5 (lq_34 xs i) ?_
    refine la_go 1 (fun _ _ _ => la_arg rfl n1 e1) ?_
    refine la_go 4 (lq_35 xs i x1) ?_
    refine la_go 1 (fun _ _ _ => la_arg rfl n2 e2) ?_
    refine la_go 1 (fun _ _ _ => (la_if (a := 0) rfl).trans (if_neg hz)) ?_
    refine la_go 2 (lq_41 xs i x1) ?_
    refine la_inv (rest := []) rfl rfl rfl (Nat.le_of_ble_eq_true rfl) rfl rfl ⟨_, rfl⟩ rfl rfl (Nat.le_of_ble_eq_true rfl) q1 ?_
    refine la_go 5 (lq_37 xs i v) ?_
    refine la_go 1 (fun _ _ _ => la_arg rfl n1 e1) ?_
    refine la_go 4 (lq_38 xs i v x1) ?_
    refine la_go 1 (fun _ _ _ => la_arg rfl n2 e2) ?_
    refine la_go 1 (fun _ _ _ => (la_if (a := 0) rfl).trans (if_neg hz)) ?_
    refine la_go 2 (lq_42 xs i v x1) ?_
    refine la_inv (rest := [.int v]) rfl rfl rfl (Nat.le_of_ble_eq_true rfl) rfl rfl ⟨_, rfl⟩ rfl rfl (Nat.le_of_ble_eq_true rfl) q2 ?_
    refine la_go 1 (lc_465 xs i v) ?_
    exact tail _ _ hr
theorem lq_43 (xs : List Int32) (i : Int32) (bc : Nat → List Value → pm_H → pm_R) (n : Nat) (h : pm_H) : la_R xs bc (n + 5) 470 i [] h = la_R xs bc n 475 i [.int (i + Int32.ofInt 1), .ref 0, .ref 8] h := rfl
theorem lq_44 (xs : List Int32) (i : Int32) (x1 : Int32) (bc : Nat → List Value → pm_H → pm_R) (n : Nat) (h : pm_H) : la_R xs bc (n + 4) 476 i [.int x1, .ref 8] h = la_R xs bc n 480 i [.int (i + Int32.ofInt 2), .ref 0, .int x1, .ref 8] h := rfl
theorem lq_45 (xs : List Int32) (i : Int32) (v : Int32) (bc : Nat → List Value → pm_H → pm_R) (n : Nat) (h : pm_H) : la_R xs bc (n + 6) 484 i [.int v] h = la_R xs bc n 490 i [.int (i + Int32.ofInt 1), .ref 0, .ref 70] h := rfl
theorem lq_46 (xs : List Int32) (i : Int32) (x1 : Int32) (bc : Nat → List Value → pm_H → pm_R) (n : Nat) (h : pm_H) : la_R xs bc (n + 4) 491 i [.int x1, .ref 70] h = la_R xs bc n 495 i [.int (i + Int32.ofInt 2), .ref 0, .int x1, .ref 70] h := rfl
theorem lq_47 (xs : List Int32) (i : Int32) (v : Int32) (bc : Nat → List Value → pm_H → pm_R) (n : Nat) (h : pm_H) : la_R xs bc (n + 2) 499 i [.int v] h = la_R xs bc n 1333 i [] h := rfl
theorem lz_10 {xs : List Int32} {i : Int32} {g : qM} {u : qW} (h : w_R g) {x1 : Int32} (n1 : ¬ i + Int32.ofInt 1 < 0) (e1 : xs[(i + Int32.ofInt 1).toNatClampNeg]? = some x1) {x2 : Int32} (n2 : ¬ i + Int32.ofInt 2 < 0) (e2 : xs[(i + Int32.ofInt 2).toNatClampNeg]? = some x2) (tail : ∀ g' u', w_R g' → la_G xs 1333 i [] g' u') : la_G xs 470 i [] g u := by
  obtain ⟨v, g1, u1, g2, u2, q1, q2, hr⟩ := pr_goal x1 x2 g u h
  refine la_go 5 (lq_43 xs i) ?_
  refine la_go 1 (fun _ _ _ => la_arg rfl n1 e1) ?_
  refine la_go 4 (lq_44 xs i x1) ?_
  refine la_go 1 (fun _ _ _ => la_arg rfl n2 e2) ?_
  refine la_inv (rest := []) rfl rfl rfl (Nat.le_of_ble_eq_true rfl) rfl rfl ⟨_, rfl⟩ rfl rfl (Nat.le_of_ble_eq_true rfl) q1 ?_
  refine la_go 6 (lq_45 xs i v) ?_
  refine la_go 1 (fun _ _ _ => la_arg rfl n1 e1) ?_
  refine la_go 4 (lq_46 xs i x1) ?_
  refine la_go 1 (fun _ _ _ => la_arg rfl n2 e2) ?_
  refine la_inv (rest := []) rfl rfl rfl (Nat.le_of_ble_eq_true rfl) rfl rfl ⟨_, rfl⟩ rfl rfl (Nat.le_of_ble_eq_true rfl) q2 ?_
  refine la_go 2 (lq_47 xs i v) ?_
  exact tail _ _ hr
theorem lq_48 (xs : List Int32) (i : Int32) (bc : Nat → List Value → pm_H → pm_R) (n : Nat) (h : pm_H) : la_R xs bc (n + 5) 503 i [] h = la_R xs bc n 508 i [.int (i + Int32.ofInt 1), .ref 0, .ref 8] h := rfl
theorem lq_49 (xs : List Int32) (i : Int32) (x1 : Int32) (bc : Nat → List Value → pm_H → pm_R) (n : Nat) (h : pm_H) : la_R xs bc (n + 4) 509 i [.int x1, .ref 8] h = la_R xs bc n 513 i [.int (i + Int32.ofInt 2), .ref 0, .int x1, .ref 8] h := rfl
theorem lq_50 (xs : List Int32) (i : Int32) (x1 : Int32) (bc : Nat → List Value → pm_H → pm_R) (n : Nat) (h : pm_H) : la_R xs bc (n + 1) 521 i [.int x1, .ref 8] h = la_R xs bc n 522 i [.int (0 : Int32), .int x1, .ref 8] h := rfl
theorem lq_51 (xs : List Int32) (i : Int32) (v : Int32) (bc : Nat → List Value → pm_H → pm_R) (n : Nat) (h : pm_H) : la_R xs bc (n + 6) 525 i [.int v] h = la_R xs bc n 531 i [.int (i + Int32.ofInt 1), .ref 0, .ref 70] h := rfl
theorem lq_52 (xs : List Int32) (i : Int32) (x1 : Int32) (bc : Nat → List Value → pm_H → pm_R) (n : Nat) (h : pm_H) : la_R xs bc (n + 4) 532 i [.int x1, .ref 70] h = la_R xs bc n 536 i [.int (i + Int32.ofInt 2), .ref 0, .int x1, .ref 70] h := rfl
theorem lq_53 (xs : List Int32) (i : Int32) (x1 : Int32) (bc : Nat → List Value → pm_H → pm_R) (n : Nat) (h : pm_H) : la_R xs bc (n + 1) 544 i [.int x1, .ref 70] h = la_R xs bc n 545 i [.int (0 : Int32), .int x1, .ref 70] h := rfl
theorem lq_54 (xs : List Int32) (i : Int32) (v : Int32) (bc : Nat → List Value → pm_H → pm_R) (n : Nat) (h : pm_H) : la_R xs bc (n + 2) 548 i [.int v] h = la_R xs bc n 1333 i [] h := rfl
theorem lq_55 (xs : List Int32) (i : Int32) (x1 : Int32) (bc : Nat → List Value → pm_H → pm_R) (n : Nat) (h : pm_H) : la_R xs bc (n + 2) 517 i [.int x1, .ref 8] h = la_R xs bc n 522 i [.int (1 : Int32), .int x1, .ref 8] h := rfl
theorem lq_56 (xs : List Int32) (i : Int32) (x1 : Int32) (bc : Nat → List Value → pm_H → pm_R) (n : Nat) (h : pm_H) : la_R xs bc (n + 2) 540 i [.int x1, .ref 70] h = la_R xs bc n 545 i [.int (1 : Int32), .int x1, .ref 70] h := rfl
theorem lz_11 {xs : List Int32} {i : Int32} {g : qM} {u : qW} (h : w_R g) {x1 : Int32} (n1 : ¬ i + Int32.ofInt 1 < 0) (e1 : xs[(i + Int32.ofInt 1).toNatClampNeg]? = some x1) {x2 : Int32} (n2 : ¬ i + Int32.ofInt 2 < 0) (e2 : xs[(i + Int32.ofInt 2).toNatClampNeg]? = some x2) (tail : ∀ g' u', w_R g' → la_G xs 1333 i [] g' u') : la_G xs 503 i [] g u := by
  by_cases hz : x2 = 0
  · obtain ⟨v, g1, u1, g2, u2, q1, q2, hr⟩ := pr_wall0 x1 g u h
    refine la_go 5 (lq_48 xs i) ?_
    refine la_go 1 (fun _ _ _ => la_arg rfl n1 e1) ?_
    refine la_go 4 (lq_49 xs i x1) ?_
    refine la_go 1 (fun _ _ _ => la_arg rfl n2 e2) ?_
    refine la_go 1 (fun _ _ _ => (la_if (a := 0) rfl).trans (if_pos hz)) ?_
    refine la_go 1 (lq_50 xs i x1) ?_
    refine la_inv (rest := []) rfl rfl rfl (Nat.le_of_ble_eq_true rfl) rfl rfl ⟨_, rfl⟩ rfl rfl (Nat.le_of_ble_eq_true rfl) q1 ?_
    refine la_go 6 (lq_51 xs i v) ?_
    refine la_go 1 (fun _ _ _ => la_arg rfl n1 e1) ?_
    refine la_go 4 (lq_52 xs i x1) ?_
    refine la_go 1 (fun _ _ _ => la_arg rfl n2 e2) ?_
    refine la_go 1 (fun _ _ _ => (la_if (a := 0) rfl).trans (if_pos hz)) ?_
    refine la_go 1 (lq_53 xs i x1) ?_
    refine la_inv (rest := []) rfl rfl rfl (Nat.le_of_ble_eq_true rfl) rfl rfl ⟨_, rfl⟩ rfl rfl (Nat.le_of_ble_eq_true rfl) q2 ?_
    refine la_go 2 (lq_54 xs i v) ?_
    exact tail _ _ hr
  · obtain ⟨v, g1, u1, g2, u2, q1, q2, hr⟩ := pr_wall1 x1 g u h
    refine la_go 5 (lq_48 xs i) ?_
    refine la_go 1 (fun _ _ _ => la_arg rfl n1 e1) ?_
    refine la_go 4 (lq_49 xs i x1) ?_
    refine la_go 1 (fun _ _ _ => la_arg rfl n2 e2) ?_
    refine la_go 1 (fun _ _ _ => (la_if (a := 0) rfl).trans (if_neg hz)) ?_
    refine la_go 2 (lq_55 xs i x1) ?_
    refine la_inv (rest := []) rfl rfl rfl (Nat.le_of_ble_eq_true rfl) rfl rfl ⟨_, rfl⟩ rfl rfl (Nat.le_of_ble_eq_true rfl) q1 ?_
    refine la_go 6 (lq_51 xs i v) ?_
    refine la_go 1 (fun _ _ _ => la_arg rfl n1 e1) ?_
    refine la_go 4 (lq_52 xs i x1) ?_
    refine la_go 1 (fun _ _ _ => la_arg rfl n2 e2) ?_
    refine la_go 1 (fun _ _ _ => (la_if (a := 0) rfl).trans (if_neg hz)) ?_
    refine la_go 2 (lq_56 xs i x1) ?_
    refine la_inv (rest := []) rfl rfl rfl (Nat.le_of_ble_eq_true rfl) rfl rfl ⟨_, rfl⟩ rfl rfl (Nat.le_of_ble_eq_true rfl) q2 ?_
    refine la_go 2 (lq_54 xs i v) ?_
    exact tail _ _ hr
theorem lq_57 (xs : List Int32) (i : Int32) (bc : Nat → List Value → pm_H → pm_R) (n : Nat) (h : pm_H) : la_R xs bc (n + 5) 552 i [] h = la_R xs bc n 557 i [.int (i + Int32.ofInt 1), .ref 0, .ref 8] h := rfl
theorem lq_58 (xs : List Int32) (i : Int32) (x1 : Int32) (bc : Nat → List Value → pm_H → pm_R) (n : Nat) (h : pm_H) : la_R xs bc (n + 4) 558 i [.int x1, .ref 8] h = la_R xs bc n 562 i [.int (i + Int32.ofInt 2), .ref 0, .int x1, .ref 8] h := rfl
theorem lq_59 (xs : List Int32) (i : Int32) (v : Int32) (bc : Nat → List Value → pm_H → pm_R) (n : Nat) (h : pm_H) : la_R xs bc (n + 6) 566 i [.int v] h = la_R xs bc n 572 i [.int (i + Int32.ofInt 1), .ref 0, .ref 70] h := rfl
theorem lq_60 (xs : List Int32) (i : Int32) (x1 : Int32) (bc : Nat → List Value → pm_H → pm_R) (n : Nat) (h : pm_H) : la_R xs bc (n + 4) 573 i [.int x1, .ref 70] h = la_R xs bc n 577 i [.int (i + Int32.ofInt 2), .ref 0, .int x1, .ref 70] h := rfl
theorem lq_61 (xs : List Int32) (i : Int32) (v : Int32) (bc : Nat → List Value → pm_H → pm_R) (n : Nat) (h : pm_H) : la_R xs bc (n + 2) 581 i [.int v] h = la_R xs bc n 1333 i [] h := rfl
theorem lz_12 {xs : List Int32} {i : Int32} {g : qM} {u : qW} (h : w_R g) {x1 : Int32} (n1 : ¬ i + Int32.ofInt 1 < 0) (e1 : xs[(i + Int32.ofInt 1).toNatClampNeg]? = some x1) {x2 : Int32} (n2 : ¬ i + Int32.ofInt 2 < 0) (e2 : xs[(i + Int32.ofInt 2).toNatClampNeg]? = some x2) (tail : ∀ g' u', w_R g' → la_G xs 1333 i [] g' u') : la_G xs 552 i [] g u := by
  obtain ⟨v, g1, u1, g2, u2, q1, q2, hr⟩ := pr_pull x1 x2 g u h
  refine la_go 5 (lq_57 xs i) ?_
  refine la_go 1 (fun _ _ _ => la_arg rfl n1 e1) ?_
  refine la_go 4 (lq_58 xs i x1) ?_
  refine la_go 1 (fun _ _ _ => la_arg rfl n2 e2) ?_
  refine la_inv (rest := []) rfl rfl rfl (Nat.le_of_ble_eq_true rfl) rfl rfl ⟨_, rfl⟩ rfl rfl (Nat.le_of_ble_eq_true rfl) q1 ?_
  refine la_go 6 (lq_59 xs i v) ?_
  refine la_go 1 (fun _ _ _ => la_arg rfl n1 e1) ?_
  refine la_go 4 (lq_60 xs i x1) ?_
  refine la_go 1 (fun _ _ _ => la_arg rfl n2 e2) ?_
  refine la_inv (rest := []) rfl rfl rfl (Nat.le_of_ble_eq_true rfl) rfl rfl ⟨_, rfl⟩ rfl rfl (Nat.le_of_ble_eq_true rfl) q2 ?_
  refine la_go 2 (lq_61 xs i v) ?_
  exact tail _ _ hr
theorem lq_62 (xs : List Int32) (i : Int32) (bc : Nat → List Value → pm_H → pm_R) (n : Nat) (h : pm_H) : la_R xs bc (n + 5) 585 i [] h = la_R xs bc n 590 i [.int (i + Int32.ofInt 1), .ref 0, .ref 8] h := rfl
theorem lq_63 (xs : List Int32) (i : Int32) (v : Int32) (bc : Nat → List Value → pm_H → pm_R) (n : Nat) (h : pm_H) : la_R xs bc (n + 6) 594 i [.int v] h = la_R xs bc n 600 i [.int (i + Int32.ofInt 1), .ref 0, .ref 70] h := rfl
theorem lq_64 (xs : List Int32) (i : Int32) (v : Int32) (bc : Nat → List Value → pm_H → pm_R) (n : Nat) (h : pm_H) : la_R xs bc (n + 2) 604 i [.int v] h = la_R xs bc n 1333 i [] h := rfl
theorem lz_13 {xs : List Int32} {i : Int32} {g : qM} {u : qW} (h : w_R g) {x1 : Int32} (n1 : ¬ i + Int32.ofInt 1 < 0) (e1 : xs[(i + Int32.ofInt 1).toNatClampNeg]? = some x1) (tail : ∀ g' u', w_R g' → la_G xs 1333 i [] g' u') : la_G xs 585 i [] g u := by
  obtain ⟨v, g1, u1, g2, u2, q1, q2, hr⟩ := pr_press x1 g u h
  refine la_go 5 (lq_62 xs i) ?_
  refine la_go 1 (fun _ _ _ => la_arg rfl n1 e1) ?_
  refine la_inv (rest := []) rfl rfl rfl (Nat.le_of_ble_eq_true rfl) rfl rfl ⟨_, rfl⟩ rfl rfl (Nat.le_of_ble_eq_true rfl) q1 ?_
  refine la_go 6 (lq_63 xs i v) ?_
  refine la_go 1 (fun _ _ _ => la_arg rfl n1 e1) ?_
  refine la_inv (rest := []) rfl rfl rfl (Nat.le_of_ble_eq_true rfl) rfl rfl ⟨_, rfl⟩ rfl rfl (Nat.le_of_ble_eq_true rfl) q2 ?_
  refine la_go 2 (lq_64 xs i v) ?_
  exact tail _ _ hr
theorem lq_65 (xs : List Int32) (i : Int32) (bc : Nat → List Value → pm_H → pm_R) (n : Nat) (h : pm_H) : la_R xs bc (n + 5) 608 i [] h = la_R xs bc n 613 i [.int (i + Int32.ofInt 1), .ref 0, .ref 8] h := rfl
theorem lq_66 (xs : List Int32) (i : Int32) (x1 : Int32) (bc : Nat → List Value → pm_H → pm_R) (n : Nat) (h : pm_H) : la_R xs bc (n + 4) 614 i [.int x1, .ref 8] h = la_R xs bc n 618 i [.int (i + Int32.ofInt 2), .ref 0, .int x1, .ref 8] h := rfl
theorem lq_67 (xs : List Int32) (i : Int32) (v : Int32) (bc : Nat → List Value → pm_H → pm_R) (n : Nat) (h : pm_H) : la_R xs bc (n + 6) 622 i [.int v] h = la_R xs bc n 628 i [.int (i + Int32.ofInt 1), .ref 0, .ref 70] h := rfl
theorem lq_68 (xs : List Int32) (i : Int32) (x1 : Int32) (bc : Nat → List Value → pm_H → pm_R) (n : Nat) (h : pm_H) : la_R xs bc (n + 4) 629 i [.int x1, .ref 70] h = la_R xs bc n 633 i [.int (i + Int32.ofInt 2), .ref 0, .int x1, .ref 70] h := rfl
theorem lq_69 (xs : List Int32) (i : Int32) (v : Int32) (bc : Nat → List Value → pm_H → pm_R) (n : Nat) (h : pm_H) : la_R xs bc (n + 2) 637 i [.int v] h = la_R xs bc n 1333 i [] h := rfl
theorem lz_14 {xs : List Int32} {i : Int32} {g : qM} {u : qW} (h : w_R g) {x1 : Int32} (n1 : ¬ i + Int32.ofInt 1 < 0) (e1 : xs[(i + Int32.ofInt 1).toNatClampNeg]? = some x1) {x2 : Int32} (n2 : ¬ i + Int32.ofInt 2 < 0) (e2 : xs[(i + Int32.ofInt 2).toNatClampNeg]? = some x2) (tail : ∀ g' u', w_R g' → la_G xs 1333 i [] g' u') : la_G xs 608 i [] g u := by
  obtain ⟨v, g1, u1, g2, u2, q1, q2, hr⟩ := pr_force x1 x2 g u h
  refine la_go 5 (lq_65 xs i) ?_
  refine la_go 1 (fun _ _ _ => la_arg rfl n1 e1) ?_
  refine la_go 4 (lq_66 xs i x1) ?_
  refine la_go 1 (fun _ _ _ => la_arg rfl n2 e2) ?_
  refine la_inv (rest := []) rfl rfl rfl (Nat.le_of_ble_eq_true rfl) rfl rfl ⟨_, rfl⟩ rfl rfl (Nat.le_of_ble_eq_true rfl) q1 ?_
  refine la_go 6 (lq_67 xs i v) ?_
  refine la_go 1 (fun _ _ _ => la_arg rfl n1 e1) ?_
  refine la_go 4 (lq_68 xs i x1) ?_
  refine la_go 1 (fun _ _ _ => la_arg rfl n2 e2) ?_
  refine la_inv (rest := []) rfl rfl rfl (Nat.le_of_ble_eq_true rfl) rfl rfl ⟨_, rfl⟩ rfl rfl (Nat.le_of_ble_eq_true rfl) q2 ?_
  refine la_go 2 (lq_69 xs i v) ?_
  exact tail _ _ hr
theorem lq_70 (xs : List Int32) (i : Int32) (bc : Nat → List Value → pm_H → pm_R) (n : Nat) (h : pm_H) : la_R xs bc (n + 5) 641 i [] h = la_R xs bc n 646 i [.int (i + Int32.ofInt 1), .ref 0, .ref 8] h := rfl
theorem lq_71 (xs : List Int32) (i : Int32) (v : Int32) (bc : Nat → List Value → pm_H → pm_R) (n : Nat) (h : pm_H) : la_R xs bc (n + 6) 650 i [.int v] h = la_R xs bc n 656 i [.int (i + Int32.ofInt 1), .ref 0, .ref 70] h := rfl
theorem lq_72 (xs : List Int32) (i : Int32) (v : Int32) (bc : Nat → List Value → pm_H → pm_R) (n : Nat) (h : pm_H) : la_R xs bc (n + 2) 660 i [.int v] h = la_R xs bc n 1333 i [] h := rfl
theorem lz_15 {xs : List Int32} {i : Int32} {g : qM} {u : qW} (h : w_R g) {x1 : Int32} (n1 : ¬ i + Int32.ofInt 1 < 0) (e1 : xs[(i + Int32.ofInt 1).toNatClampNeg]? = some x1) (tail : ∀ g' u', w_R g' → la_G xs 1333 i [] g' u') : la_G xs 641 i [] g u := by
  obtain ⟨v, g1, u1, g2, u2, q1, q2, hr⟩ := pr_wish x1 g u h
  refine la_go 5 (lq_70 xs i) ?_
  refine la_go 1 (fun _ _ _ => la_arg rfl n1 e1) ?_
  refine la_inv (rest := []) rfl rfl rfl (Nat.le_of_ble_eq_true rfl) rfl rfl ⟨_, rfl⟩ rfl rfl (Nat.le_of_ble_eq_true rfl) q1 ?_
  refine la_go 6 (lq_71 xs i v) ?_
  refine la_go 1 (fun _ _ _ => la_arg rfl n1 e1) ?_
  refine la_inv (rest := []) rfl rfl rfl (Nat.le_of_ble_eq_true rfl) rfl rfl ⟨_, rfl⟩ rfl rfl (Nat.le_of_ble_eq_true rfl) q2 ?_
  refine la_go 2 (lq_72 xs i v) ?_
  exact tail _ _ hr
theorem lq_73 (xs : List Int32) (i : Int32) (bc : Nat → List Value → pm_H → pm_R) (n : Nat) (h : pm_H) : la_R xs bc (n + 1) 664 i [] h = la_R xs bc n 665 i [.ref 8] h := rfl
theorem lq_74 (xs : List Int32) (i : Int32) (v : Int32) (bc : Nat → List Value → pm_H → pm_R) (n : Nat) (h : pm_H) : la_R xs bc (n + 2) 668 i [.int v] h = la_R xs bc n 670 i [.ref 70] h := rfl
theorem lq_75 (xs : List Int32) (i : Int32) (v : Int32) (bc : Nat → List Value → pm_H → pm_R) (n : Nat) (h : pm_H) : la_R xs bc (n + 2) 673 i [.int v] h = la_R xs bc n 1333 i [] h := rfl
theorem lz_16 {xs : List Int32} {i : Int32} {g : qM} {u : qW} (h : w_R g) (tail : ∀ g' u', w_R g' → la_G xs 1333 i [] g' u') : la_G xs 664 i [] g u := by
  obtain ⟨v, g1, u1, g2, u2, q1, q2, hr⟩ := pr_stuck g u h
  refine la_go 1 (lq_73 xs i) ?_
  refine la_inv (rest := []) rfl rfl rfl (Nat.le_of_ble_eq_true rfl) rfl rfl ⟨_, rfl⟩ rfl rfl (Nat.le_of_ble_eq_true rfl) q1 ?_
  refine la_go 2 (lq_74 xs i v) ?_
  refine la_inv (rest := []) rfl rfl rfl (Nat.le_of_ble_eq_true rfl) rfl rfl ⟨_, rfl⟩ rfl rfl (Nat.le_of_ble_eq_true rfl) q2 ?_
  refine la_go 2 (lq_75 xs i v) ?_
  exact tail _ _ hr
theorem lq_76 (xs : List Int32) (i : Int32) (bc : Nat → List Value → pm_H → pm_R) (n : Nat) (h : pm_H) : la_R xs bc (n + 1) 677 i [] h = la_R xs bc n 678 i [.ref 8] h := rfl
theorem lq_77 (xs : List Int32) (i : Int32) (v : Int32) (bc : Nat → List Value → pm_H → pm_R) (n : Nat) (h : pm_H) : la_R xs bc (n + 2) 681 i [.int v] h = la_R xs bc n 683 i [.ref 70] h := rfl
theorem lq_78 (xs : List Int32) (i : Int32) (v : Int32) (bc : Nat → List Value → pm_H → pm_R) (n : Nat) (h : pm_H) : la_R xs bc (n + 2) 686 i [.int v] h = la_R xs bc n 1333 i [] h := rfl
theorem lz_17 {xs : List Int32} {i : Int32} {g : qM} {u : qW} (h : w_R g) (tail : ∀ g' u', w_R g' → la_G xs 1333 i [] g' u') : la_G xs 677 i [] g u := by
  obtain ⟨v, g1, u1, g2, u2, q1, q2, hr⟩ := pr_strain g u h
  refine la_go 1 (lq_76 xs i) ?_
  refine la_inv (rest := []) rfl rfl rfl (Nat.le_of_ble_eq_true rfl) rfl rfl ⟨_, rfl⟩ rfl rfl (Nat.le_of_ble_eq_true rfl) q1 ?_
  refine la_go 2 (lq_77 xs i v) ?_
  refine la_inv (rest := []) rfl rfl rfl (Nat.le_of_ble_eq_true rfl) rfl rfl ⟨_, rfl⟩ rfl rfl (Nat.le_of_ble_eq_true rfl) q2 ?_
  refine la_go 2 (lq_78 xs i v) ?_
  exact tail _ _ hr
theorem lq_79 (xs : List Int32) (i : Int32) (bc : Nat → List Value → pm_H → pm_R) (n : Nat) (h : pm_H) : la_R xs bc (n + 5) 690 i [] h = la_R xs bc n 695 i [.int (i + Int32.ofInt 1), .ref 0, .ref 8] h := rfl
theorem lq_80 (xs : List Int32) (i : Int32) (v : Int32) (bc : Nat → List Value → pm_H → pm_R) (n : Nat) (h : pm_H) : la_R xs bc (n + 6) 699 i [.int v] h = la_R xs bc n 705 i [.int (i + Int32.ofInt 1), .ref 0, .ref 70] h := rfl
theorem lq_81 (xs : List Int32) (i : Int32) (v : Int32) (bc : Nat → List Value → pm_H → pm_R) (n : Nat) (h : pm_H) : la_R xs bc (n + 2) 709 i [.int v] h = la_R xs bc n 1333 i [] h := rfl
theorem lz_18 {xs : List Int32} {i : Int32} {g : qM} {u : qW} (h : w_R g) {x1 : Int32} (n1 : ¬ i + Int32.ofInt 1 < 0) (e1 : xs[(i + Int32.ofInt 1).toNatClampNeg]? = some x1) (tail : ∀ g' u', w_R g' → la_G xs 1333 i [] g' u') : la_G xs 690 i [] g u := by
  obtain ⟨v, g1, u1, g2, u2, q1, q2, hr⟩ := pr_go x1 g u h
  refine la_go 5 (lq_79 xs i) ?_
  refine la_go 1 (fun _ _ _ => la_arg rfl n1 e1) ?_
  refine la_inv (rest := []) rfl rfl rfl (Nat.le_of_ble_eq_true rfl) rfl rfl ⟨_, rfl⟩ rfl rfl (Nat.le_of_ble_eq_true rfl) q1 ?_
  refine la_go 6 (lq_80 xs i v) ?_
  refine la_go 1 (fun _ _ _ => la_arg rfl n1 e1) ?_
  refine la_inv (rest := []) rfl rfl rfl (Nat.le_of_ble_eq_true rfl) rfl rfl ⟨_, rfl⟩ rfl rfl (Nat.le_of_ble_eq_true rfl) q2 ?_
  refine la_go 2 (lq_81 xs i v) ?_
  exact tail _ _ hr
theorem lq_82 (xs : List Int32) (i : Int32) (bc : Nat → List Value → pm_H → pm_R) (n : Nat) (h : pm_H) : la_R xs bc (n + 5) 713 i [] h = la_R xs bc n 718 i [.int (i + Int32.ofInt 1), .ref 0, .ref 8] h := rfl
theorem lq_83 (xs : List Int32) (i : Int32) (x1 : Int32) (bc : Nat → List Value → pm_H → pm_R) (n : Nat) (h : pm_H) : la_R xs bc (n + 4) 719 i [.int x1, .ref 8] h = la_R xs bc n 723 i [.int (i + Int32.ofInt 2), .ref 0, .int x1, .ref 8] h := rfl
theorem lq_84 (xs : List Int32) (i : Int32) (x1 : Int32) (x2 : Int32) (bc : Nat → List Value → pm_H → pm_R) (n : Nat) (h : pm_H) : la_R xs bc (n + 4) 724 i [.int x2, .int x1, .ref 8] h = la_R xs bc n 728 i [.int (i + Int32.ofInt 3), .ref 0, .int x2, .int x1, .ref 8] h := rfl
theorem lq_85 (xs : List Int32) (i : Int32) (v : Int32) (bc : Nat → List Value → pm_H → pm_R) (n : Nat) (h : pm_H) : la_R xs bc (n + 6) 732 i [.int v] h = la_R xs bc n 738 i [.int (i + Int32.ofInt 1), .ref 0, .ref 70] h := rfl
theorem lq_86 (xs : List Int32) (i : Int32) (x1 : Int32) (bc : Nat → List Value → pm_H → pm_R) (n : Nat) (h : pm_H) : la_R xs bc (n + 4) 739 i [.int x1, .ref 70] h = la_R xs bc n 743 i [.int (i + Int32.ofInt 2), .ref 0, .int x1, .ref 70] h := rfl
theorem lq_87 (xs : List Int32) (i : Int32) (x1 : Int32) (x2 : Int32) (bc : Nat → List Value → pm_H → pm_R) (n : Nat) (h : pm_H) : la_R xs bc (n + 4) 744 i [.int x2, .int x1, .ref 70] h = la_R xs bc n 748 i [.int (i + Int32.ofInt 3), .ref 0, .int x2, .int x1, .ref 70] h := rfl
theorem lq_88 (xs : List Int32) (i : Int32) (v : Int32) (bc : Nat → List Value → pm_H → pm_R) (n : Nat) (h : pm_H) : la_R xs bc (n + 2) 752 i [.int v] h = la_R xs bc n 1333 i [] h := rfl
theorem lz_19 {xs : List Int32} {i : Int32} {g : qM} {u : qW} (h : w_R g) {x1 : Int32} (n1 : ¬ i + Int32.ofInt 1 < 0) (e1 : xs[(i + Int32.ofInt 1).toNatClampNeg]? = some x1) {x2 : Int32} (n2 : ¬ i + Int32.ofInt 2 < 0) (e2 : xs[(i + Int32.ofInt 2).toNatClampNeg]? = some x2) {x3 : Int32} (n3 : ¬ i + Int32.ofInt 3 < 0) (e3 : xs[(i + Int32.ofInt 3).toNatClampNeg]? = some x3) (tail : ∀ g' u', w_R g' → la_G xs 1333 i [] g' u') : la_G xs 713 i [] g u := by
  obtain ⟨v, g1, u1, g2, u2, q1, q2, hr⟩ := pr_ahead x1 x2 x3 g u h
  refine la_go 5 (lq_82 xs i) ?_
  refine la_go 1 (fun _ _ _ => la_arg rfl n1 e1) ?_
  refine la_go 4 (lq_83 xs i x1) ?_
  refine la_go 1 (fun _ _ _ => la_arg rfl n2 e2) ?_
  refine la_go 4 (lq_84 xs i x1 x2) ?_
  refine la_go 1 (fun _ _ _ => la_arg rfl n3 e3) ?_
  refine la_inv (rest := []) rfl rfl rfl (Nat.le_of_ble_eq_true rfl) rfl rfl ⟨_, rfl⟩ rfl rfl (Nat.le_of_ble_eq_true rfl) q1 ?_
  refine la_go 6 (lq_85 xs i v) ?_
  refine la_go 1 (fun _ _ _ => la_arg rfl n1 e1) ?_
  refine la_go 4 (lq_86 xs i x1) ?_
  refine la_go 1 (fun _ _ _ => la_arg rfl n2 e2) ?_
  refine la_go 4 (lq_87 xs i x1 x2) ?_
  refine la_go 1 (fun _ _ _ => la_arg rfl n3 e3) ?_
  refine la_inv (rest := []) rfl rfl rfl (Nat.le_of_ble_eq_true rfl) rfl rfl ⟨_, rfl⟩ rfl rfl (Nat.le_of_ble_eq_true rfl) q2 ?_
  refine la_go 2 (lq_88 xs i v) ?_
  exact tail _ _ hr
theorem lq_89 (xs : List Int32) (i : Int32) (bc : Nat → List Value → pm_H → pm_R) (n : Nat) (h : pm_H) : la_R xs bc (n + 1) 756 i [] h = la_R xs bc n 757 i [.ref 8] h := rfl
theorem lq_90 (xs : List Int32) (i : Int32) (v : Int32) (bc : Nat → List Value → pm_H → pm_R) (n : Nat) (h : pm_H) : la_R xs bc (n + 2) 760 i [.int v] h = la_R xs bc n 762 i [.ref 70] h := rfl
theorem lq_91 (xs : List Int32) (i : Int32) (v : Int32) (bc : Nat → List Value → pm_H → pm_R) (n : Nat) (h : pm_H) : la_R xs bc (n + 2) 765 i [.int v] h = la_R xs bc n 1333 i [] h := rfl
theorem lz_20 {xs : List Int32} {i : Int32} {g : qM} {u : qW} (h : w_R g) (tail : ∀ g' u', w_R g' → la_G xs 1333 i [] g' u') : la_G xs 756 i [] g u := by
  obtain ⟨v, g1, u1, g2, u2, q1, q2, hr⟩ := pr_rest g u h
  refine la_go 1 (lq_89 xs i) ?_
  refine la_inv (rest := []) rfl rfl rfl (Nat.le_of_ble_eq_true rfl) rfl rfl ⟨_, rfl⟩ rfl rfl (Nat.le_of_ble_eq_true rfl) q1 ?_
  refine la_go 2 (lq_90 xs i v) ?_
  refine la_inv (rest := []) rfl rfl rfl (Nat.le_of_ble_eq_true rfl) rfl rfl ⟨_, rfl⟩ rfl rfl (Nat.le_of_ble_eq_true rfl) q2 ?_
  refine la_go 2 (lq_91 xs i v) ?_
  exact tail _ _ hr
theorem lq_92 (xs : List Int32) (i : Int32) (bc : Nat → List Value → pm_H → pm_R) (n : Nat) (h : pm_H) : la_R xs bc (n + 5) 769 i [] h = la_R xs bc n 774 i [.int (i + Int32.ofInt 1), .ref 0, .ref 8] h := rfl
theorem lq_93 (xs : List Int32) (i : Int32) (v : Int32) (bc : Nat → List Value → pm_H → pm_R) (n : Nat) (h : pm_H) : la_R xs bc (n + 6) 778 i [.int v] h = la_R xs bc n 784 i [.int (i + Int32.ofInt 1), .ref 0, .ref 70] h := rfl
theorem lq_94 (xs : List Int32) (i : Int32) (v : Int32) (bc : Nat → List Value → pm_H → pm_R) (n : Nat) (h : pm_H) : la_R xs bc (n + 2) 788 i [.int v] h = la_R xs bc n 1333 i [] h := rfl
theorem lz_21 {xs : List Int32} {i : Int32} {g : qM} {u : qW} (h : w_R g) {x1 : Int32} (n1 : ¬ i + Int32.ofInt 1 < 0) (e1 : xs[(i + Int32.ofInt 1).toNatClampNeg]? = some x1) (tail : ∀ g' u', w_R g' → la_G xs 1333 i [] g' u') : la_G xs 769 i [] g u := by
  obtain ⟨v, g1, u1, g2, u2, q1, q2, hr⟩ := pr_again x1 g u h
  refine la_go 5 (lq_92 xs i) ?_
  refine la_go 1 (fun _ _ _ => la_arg rfl n1 e1) ?_
  refine la_inv (rest := []) rfl rfl rfl (Nat.le_of_ble_eq_true rfl) rfl rfl ⟨_, rfl⟩ rfl rfl (Nat.le_of_ble_eq_true rfl) q1 ?_
  refine la_go 6 (lq_93 xs i v) ?_
  refine la_go 1 (fun _ _ _ => la_arg rfl n1 e1) ?_
  refine la_inv (rest := []) rfl rfl rfl (Nat.le_of_ble_eq_true rfl) rfl rfl ⟨_, rfl⟩ rfl rfl (Nat.le_of_ble_eq_true rfl) q2 ?_
  refine la_go 2 (lq_94 xs i v) ?_
  exact tail _ _ hr
theorem lq_95 (xs : List Int32) (i : Int32) (bc : Nat → List Value → pm_H → pm_R) (n : Nat) (h : pm_H) : la_R xs bc (n + 5) 792 i [] h = la_R xs bc n 797 i [.int (i + Int32.ofInt 1), .ref 0, .ref 8] h := rfl
theorem lq_96 (xs : List Int32) (i : Int32) (x1 : Int32) (bc : Nat → List Value → pm_H → pm_R) (n : Nat) (h : pm_H) : la_R xs bc (n + 4) 798 i [.int x1, .ref 8] h = la_R xs bc n 802 i [.int (i + Int32.ofInt 2), .ref 0, .int x1, .ref 8] h := rfl
theorem lq_97 (xs : List Int32) (i : Int32) (v : Int32) (bc : Nat → List Value → pm_H → pm_R) (n : Nat) (h : pm_H) : la_R xs bc (n + 6) 806 i [.int v] h = la_R xs bc n 812 i [.int (i + Int32.ofInt 1), .ref 0, .ref 70] h := rfl
theorem lq_98 (xs : List Int32) (i : Int32) (x1 : Int32) (bc : Nat → List Value → pm_H → pm_R) (n : Nat) (h : pm_H) : la_R xs bc (n + 4) 813 i [.int x1, .ref 70] h = la_R xs bc n 817 i [.int (i + Int32.ofInt 2), .ref 0, .int x1, .ref 70] h := rfl
theorem lq_99 (xs : List Int32) (i : Int32) (v : Int32) (bc : Nat → List Value → pm_H → pm_R) (n : Nat) (h : pm_H) : la_R xs bc (n + 2) 821 i [.int v] h = la_R xs bc n 1333 i [] h := rfl
theorem lz_22 {xs : List Int32} {i : Int32} {g : qM} {u : qW} (h : w_R g) {x1 : Int32} (n1 : ¬ i + Int32.ofInt 1 < 0) (e1 : xs[(i + Int32.ofInt 1).toNatClampNeg]? = some x1) {x2 : Int32} (n2 : ¬ i + Int32.ofInt 2 < 0) (e2 : xs[(i + Int32.ofInt 2).toNatClampNeg]? = some x2) (tail : ∀ g' u', w_R g' → la_G xs 1333 i [] g' u') : la_G xs 792 i [] g u := by
  obtain ⟨v, g1, u1, g2, u2, q1, q2, hr⟩ := pr_setting x1 x2 g u h
  refine la_go 5 (lq_95 xs i) ?_
  refine la_go 1 (fun _ _ _ => la_arg rfl n1 e1) ?_
  refine la_go 4 (lq_96 xs i x1) ?_
  refine la_go 1 (fun _ _ _ => la_arg rfl n2 e2) ?_
  refine la_inv (rest := []) rfl rfl rfl (Nat.le_of_ble_eq_true rfl) rfl rfl ⟨_, rfl⟩ rfl rfl (Nat.le_of_ble_eq_true rfl) q1 ?_
  refine la_go 6 (lq_97 xs i v) ?_
  refine la_go 1 (fun _ _ _ => la_arg rfl n1 e1) ?_
  refine la_go 4 (lq_98 xs i x1) ?_
  refine la_go 1 (fun _ _ _ => la_arg rfl n2 e2) ?_
  refine la_inv (rest := []) rfl rfl rfl (Nat.le_of_ble_eq_true rfl) rfl rfl ⟨_, rfl⟩ rfl rfl (Nat.le_of_ble_eq_true rfl) q2 ?_
  refine la_go 2 (lq_99 xs i v) ?_
  exact tail _ _ hr
theorem lq_100 (xs : List Int32) (i : Int32) (bc : Nat → List Value → pm_H → pm_R) (n : Nat) (h : pm_H) : la_R xs bc (n + 1) 825 i [] h = la_R xs bc n 826 i [.ref 8] h := rfl
theorem lq_101 (xs : List Int32) (i : Int32) (v : Int32) (bc : Nat → List Value → pm_H → pm_R) (n : Nat) (h : pm_H) : la_R xs bc (n + 2) 829 i [.int v] h = la_R xs bc n 831 i [.ref 70] h := rfl
theorem lq_102 (xs : List Int32) (i : Int32) (v : Int32) (bc : Nat → List Value → pm_H → pm_R) (n : Nat) (h : pm_H) : la_R xs bc (n + 2) 834 i [.int v] h = la_R xs bc n 1333 i [] h := rfl
theorem lz_23 {xs : List Int32} {i : Int32} {g : qM} {u : qW} (h : w_R g) (tail : ∀ g' u', w_R g' → la_G xs 1333 i [] g' u') : la_G xs 825 i [] g u := by
  obtain ⟨v, g1, u1, g2, u2, q1, q2, hr⟩ := pr_out g u h
  refine la_go 1 (lq_100 xs i) ?_
  refine la_inv (rest := []) rfl rfl rfl (Nat.le_of_ble_eq_true rfl) rfl rfl ⟨_, rfl⟩ rfl rfl (Nat.le_of_ble_eq_true rfl) q1 ?_
  refine la_go 2 (lq_101 xs i v) ?_
  refine la_inv (rest := []) rfl rfl rfl (Nat.le_of_ble_eq_true rfl) rfl rfl ⟨_, rfl⟩ rfl rfl (Nat.le_of_ble_eq_true rfl) q2 ?_
  refine la_go 2 (lq_102 xs i v) ?_
  exact tail _ _ hr
theorem lq_103 (xs : List Int32) (i : Int32) (bc : Nat → List Value → pm_H → pm_R) (n : Nat) (h : pm_H) : la_R xs bc (n + 5) 838 i [] h = la_R xs bc n 843 i [.int (i + Int32.ofInt 1), .ref 0, .ref 8] h := rfl
theorem lq_104 (xs : List Int32) (i : Int32) (v : Int32) (bc : Nat → List Value → pm_H → pm_R) (n : Nat) (h : pm_H) : la_R xs bc (n + 6) 847 i [.int v] h = la_R xs bc n 853 i [.int (i + Int32.ofInt 1), .ref 0, .ref 70] h := rfl
theorem lq_105 (xs : List Int32) (i : Int32) (v : Int32) (bc : Nat → List Value → pm_H → pm_R) (n : Nat) (h : pm_H) : la_R xs bc (n + 2) 857 i [.int v] h = la_R xs bc n 1333 i [] h := rfl
theorem lz_24 {xs : List Int32} {i : Int32} {g : qM} {u : qW} (h : w_R g) {x1 : Int32} (n1 : ¬ i + Int32.ofInt 1 < 0) (e1 : xs[(i + Int32.ofInt 1).toNatClampNeg]? = some x1) (tail : ∀ g' u', w_R g' → la_G xs 1333 i [] g' u') : la_G xs 838 i [] g u := by
  obtain ⟨v, g1, u1, g2, u2, q1, q2, hr⟩ := pr_calm x1 g u h
  refine la_go 5 (lq_103 xs i) ?_
  refine la_go 1 (fun _ _ _ => la_arg rfl n1 e1) ?_
  refine la_inv (rest := []) rfl rfl rfl (Nat.le_of_ble_eq_true rfl) rfl rfl ⟨_, rfl⟩ rfl rfl (Nat.le_of_ble_eq_true rfl) q1 ?_
  refine la_go 6 (lq_104 xs i v) ?_
  refine la_go 1 (fun _ _ _ => la_arg rfl n1 e1) ?_
  refine la_inv (rest := []) rfl rfl rfl (Nat.le_of_ble_eq_true rfl) rfl rfl ⟨_, rfl⟩ rfl rfl (Nat.le_of_ble_eq_true rfl) q2 ?_
  refine la_go 2 (lq_105 xs i v) ?_
  exact tail _ _ hr
theorem lq_106 (xs : List Int32) (i : Int32) (bc : Nat → List Value → pm_H → pm_R) (n : Nat) (h : pm_H) : la_R xs bc (n + 5) 861 i [] h = la_R xs bc n 866 i [.int (i + Int32.ofInt 1), .ref 0, .ref 8] h := rfl
theorem lq_107 (xs : List Int32) (i : Int32) (x1 : Int32) (bc : Nat → List Value → pm_H → pm_R) (n : Nat) (h : pm_H) : la_R xs bc (n + 4) 867 i [.int x1, .ref 8] h = la_R xs bc n 871 i [.int (i + Int32.ofInt 2), .ref 0, .int x1, .ref 8] h := rfl
theorem lq_108 (xs : List Int32) (i : Int32) (x1 : Int32) (x2 : Int32) (bc : Nat → List Value → pm_H → pm_R) (n : Nat) (h : pm_H) : la_R xs bc (n + 4) 872 i [.int x2, .int x1, .ref 8] h = la_R xs bc n 876 i [.int (i + Int32.ofInt 3), .ref 0, .int x2, .int x1, .ref 8] h := rfl
theorem lq_109 (xs : List Int32) (i : Int32) (x1 : Int32) (x2 : Int32) (x3 : Int32) (bc : Nat → List Value → pm_H → pm_R) (n : Nat) (h : pm_H) : la_R xs bc (n + 4) 877 i [.int x3, .int x2, .int x1, .ref 8] h = la_R xs bc n 881 i [.int (i + Int32.ofInt 4), .ref 0, .int x3, .int x2, .int x1, .ref 8] h := rfl
theorem lq_110 (xs : List Int32) (i : Int32) (v : Int32) (bc : Nat → List Value → pm_H → pm_R) (n : Nat) (h : pm_H) : la_R xs bc (n + 6) 885 i [.int v] h = la_R xs bc n 891 i [.int (i + Int32.ofInt 1), .ref 0, .ref 70] h := rfl
theorem lq_111 (xs : List Int32) (i : Int32) (x1 : Int32) (bc : Nat → List Value → pm_H → pm_R) (n : Nat) (h : pm_H) : la_R xs bc (n + 4) 892 i [.int x1, .ref 70] h = la_R xs bc n 896 i [.int (i + Int32.ofInt 2), .ref 0, .int x1, .ref 70] h := rfl
theorem lq_112 (xs : List Int32) (i : Int32) (x1 : Int32) (x2 : Int32) (bc : Nat → List Value → pm_H → pm_R) (n : Nat) (h : pm_H) : la_R xs bc (n + 4) 897 i [.int x2, .int x1, .ref 70] h = la_R xs bc n 901 i [.int (i + Int32.ofInt 3), .ref 0, .int x2, .int x1, .ref 70] h := rfl
theorem lq_113 (xs : List Int32) (i : Int32) (x1 : Int32) (x2 : Int32) (x3 : Int32) (bc : Nat → List Value → pm_H → pm_R) (n : Nat) (h : pm_H) : la_R xs bc (n + 4) 902 i [.int x3, .int x2, .int x1, .ref 70] h = la_R xs bc n 906 i [.int (i + Int32.ofInt 4), .ref 0, .int x3, .int x2, .int x1, .ref 70] h := rfl
theorem lq_114 (xs : List Int32) (i : Int32) (v : Int32) (bc : Nat → List Value → pm_H → pm_R) (n : Nat) (h : pm_H) : la_R xs bc (n + 2) 910 i [.int v] h = la_R xs bc n 1333 i [] h := rfl
theorem lz_25 {xs : List Int32} {i : Int32} {g : qM} {u : qW} (h : w_R g) {x1 : Int32} (n1 : ¬ i + Int32.ofInt 1 < 0) (e1 : xs[(i + Int32.ofInt 1).toNatClampNeg]? = some x1) {x2 : Int32} (n2 : ¬ i + Int32.ofInt 2 < 0) (e2 : xs[(i + Int32.ofInt 2).toNatClampNeg]? = some x2) {x3 : Int32} (n3 : ¬ i + Int32.ofInt 3 < 0) (e3 : xs[(i + Int32.ofInt 3).toNatClampNeg]? = some x3) {x4 : Int32} (n4 : ¬ i + Int32.ofInt 4 < 0) (e4 : xs[(i + Int32.ofInt 4).toNatClampNeg]? = some x4) (tail : ∀ g' u', w_R g' → la_G xs 1333 i [] g' u') : la_G xs 861 i [] g u := by
  obtain ⟨v, g1, u1, g2, u2, q1, q2, hr⟩ := pr_nurse x1 x2 x3 x4 g u h
  refine la_go 5 (lq_106 xs i) ?_
  refine la_go 1 (fun _ _ _ => la_arg rfl n1 e1) ?_
  refine la_go 4 (lq_107 xs i x1) ?_
  refine la_go 1 (fun _ _ _ => la_arg rfl n2 e2) ?_
  refine la_go 4 (lq_108 xs i x1 x2) ?_
  refine la_go 1 (fun _ _ _ => la_arg rfl n3 e3) ?_
  refine la_go 4 (lq_109 xs i x1 x2 x3) ?_
  refine la_go 1 (fun _ _ _ => la_arg rfl n4 e4) ?_
  refine la_inv (rest := []) rfl rfl rfl (Nat.le_of_ble_eq_true rfl) rfl rfl ⟨_, rfl⟩ rfl rfl (Nat.le_of_ble_eq_true rfl) q1 ?_
  refine la_go 6 (lq_110 xs i v) ?_
  refine la_go 1 (fun _ _ _ => la_arg rfl n1 e1) ?_
  refine la_go 4 (lq_111 xs i x1) ?_
  refine la_go 1 (fun _ _ _ => la_arg rfl n2 e2) ?_
  refine la_go 4 (lq_112 xs i x1 x2) ?_
  refine la_go 1 (fun _ _ _ => la_arg rfl n3 e3) ?_
  refine la_go 4 (lq_113 xs i x1 x2 x3) ?_
  refine la_go 1 (fun _ _ _ => la_arg rfl n4 e4) ?_
  refine la_inv (rest := []) rfl rfl rfl (Nat.le_of_ble_eq_true rfl) rfl rfl ⟨_, rfl⟩ rfl rfl (Nat.le_of_ble_eq_true rfl) q2 ?_
  refine la_go 2 (lq_114 xs i v) ?_
  exact tail _ _ hr
theorem lq_115 (xs : List Int32) (i : Int32) (bc : Nat → List Value → pm_H → pm_R) (n : Nat) (h : pm_H) : la_R xs bc (n + 5) 914 i [] h = la_R xs bc n 919 i [.int (i + Int32.ofInt 1), .ref 0, .ref 8] h := rfl
theorem lq_116 (xs : List Int32) (i : Int32) (x1 : Int32) (bc : Nat → List Value → pm_H → pm_R) (n : Nat) (h : pm_H) : la_R xs bc (n + 4) 920 i [.int x1, .ref 8] h = la_R xs bc n 924 i [.int (i + Int32.ofInt 2), .ref 0, .int x1, .ref 8] h := rfl
theorem lq_117 (xs : List Int32) (i : Int32) (x1 : Int32) (x2 : Int32) (bc : Nat → List Value → pm_H → pm_R) (n : Nat) (h : pm_H) : la_R xs bc (n + 4) 925 i [.int x2, .int x1, .ref 8] h = la_R xs bc n 929 i [.int (i + Int32.ofInt 3), .ref 0, .int x2, .int x1, .ref 8] h := rfl
theorem lq_118 (xs : List Int32) (i : Int32) (v : Int32) (bc : Nat → List Value → pm_H → pm_R) (n : Nat) (h : pm_H) : la_R xs bc (n + 6) 933 i [.int v] h = la_R xs bc n 939 i [.int (i + Int32.ofInt 1), .ref 0, .ref 70] h := rfl
theorem lq_119 (xs : List Int32) (i : Int32) (x1 : Int32) (bc : Nat → List Value → pm_H → pm_R) (n : Nat) (h : pm_H) : la_R xs bc (n + 4) 940 i [.int x1, .ref 70] h = la_R xs bc n 944 i [.int (i + Int32.ofInt 2), .ref 0, .int x1, .ref 70] h := rfl
theorem lq_120 (xs : List Int32) (i : Int32) (x1 : Int32) (x2 : Int32) (bc : Nat → List Value → pm_H → pm_R) (n : Nat) (h : pm_H) : la_R xs bc (n + 4) 945 i [.int x2, .int x1, .ref 70] h = la_R xs bc n 949 i [.int (i + Int32.ofInt 3), .ref 0, .int x2, .int x1, .ref 70] h := rfl
theorem lq_121 (xs : List Int32) (i : Int32) (v : Int32) (bc : Nat → List Value → pm_H → pm_R) (n : Nat) (h : pm_H) : la_R xs bc (n + 2) 953 i [.int v] h = la_R xs bc n 1333 i [] h := rfl
theorem lz_26 {xs : List Int32} {i : Int32} {g : qM} {u : qW} (h : w_R g) {x1 : Int32} (n1 : ¬ i + Int32.ofInt 1 < 0) (e1 : xs[(i + Int32.ofInt 1).toNatClampNeg]? = some x1) {x2 : Int32} (n2 : ¬ i + Int32.ofInt 2 < 0) (e2 : xs[(i + Int32.ofInt 2).toNatClampNeg]? = some x2) {x3 : Int32} (n3 : ¬ i + Int32.ofInt 3 < 0) (e3 : xs[(i + Int32.ofInt 3).toNatClampNeg]? = some x3) (tail : ∀ g' u', w_R g' → la_G xs 1333 i [] g' u') : la_G xs 914 i [] g u := by
  obtain ⟨v, g1, u1, g2, u2, q1, q2, hr⟩ := pr_hang x1 x2 x3 g u h
  refine la_go 5 (lq_115 xs i) ?_
  refine la_go 1 (fun _ _ _ => la_arg rfl n1 e1) ?_
  refine la_go 4 (lq_116 xs i x1) ?_
  refine la_go 1 (fun _ _ _ => la_arg rfl n2 e2) ?_
  refine la_go 4 (lq_117 xs i x1 x2) ?_
  refine la_go 1 (fun _ _ _ => la_arg rfl n3 e3) ?_
  refine la_inv (rest := []) rfl rfl rfl (Nat.le_of_ble_eq_true rfl) rfl rfl ⟨_, rfl⟩ rfl rfl (Nat.le_of_ble_eq_true rfl) q1 ?_
  refine la_go 6 (lq_118 xs i v) ?_
  refine la_go 1 (fun _ _ _ => la_arg rfl n1 e1) ?_
  refine la_go 4 (lq_119 xs i x1) ?_
  refine la_go 1 (fun _ _ _ => la_arg rfl n2 e2) ?_
  refine la_go 4 (lq_120 xs i x1 x2) ?_
  refine la_go 1 (fun _ _ _ => la_arg rfl n3 e3) ?_
  refine la_inv (rest := []) rfl rfl rfl (Nat.le_of_ble_eq_true rfl) rfl rfl ⟨_, rfl⟩ rfl rfl (Nat.le_of_ble_eq_true rfl) q2 ?_
  refine la_go 2 (lq_121 xs i v) ?_
  exact tail _ _ hr
theorem lq_122 (xs : List Int32) (i : Int32) (bc : Nat → List Value → pm_H → pm_R) (n : Nat) (h : pm_H) : la_R xs bc (n + 5) 957 i [] h = la_R xs bc n 962 i [.int (i + Int32.ofInt 1), .ref 0, .ref 8] h := rfl
theorem lq_123 (xs : List Int32) (i : Int32) (x1 : Int32) (bc : Nat → List Value → pm_H → pm_R) (n : Nat) (h : pm_H) : la_R xs bc (n + 4) 963 i [.int x1, .ref 8] h = la_R xs bc n 967 i [.int (i + Int32.ofInt 2), .ref 0, .int x1, .ref 8] h := rfl
theorem lq_124 (xs : List Int32) (i : Int32) (x1 : Int32) (x2 : Int32) (bc : Nat → List Value → pm_H → pm_R) (n : Nat) (h : pm_H) : la_R xs bc (n + 4) 968 i [.int x2, .int x1, .ref 8] h = la_R xs bc n 972 i [.int (i + Int32.ofInt 3), .ref 0, .int x2, .int x1, .ref 8] h := rfl
theorem lq_125 (xs : List Int32) (i : Int32) (v : Int64) (bc : Nat → List Value → pm_H → pm_R) (n : Nat) (h : pm_H) : la_R xs bc (n + 6) 976 i [.long v] h = la_R xs bc n 982 i [.int (i + Int32.ofInt 1), .ref 0, .ref 70] h := rfl
theorem lq_126 (xs : List Int32) (i : Int32) (x1 : Int32) (bc : Nat → List Value → pm_H → pm_R) (n : Nat) (h : pm_H) : la_R xs bc (n + 4) 983 i [.int x1, .ref 70] h = la_R xs bc n 987 i [.int (i + Int32.ofInt 2), .ref 0, .int x1, .ref 70] h := rfl
theorem lq_127 (xs : List Int32) (i : Int32) (x1 : Int32) (x2 : Int32) (bc : Nat → List Value → pm_H → pm_R) (n : Nat) (h : pm_H) : la_R xs bc (n + 4) 988 i [.int x2, .int x1, .ref 70] h = la_R xs bc n 992 i [.int (i + Int32.ofInt 3), .ref 0, .int x2, .int x1, .ref 70] h := rfl
theorem lq_128 (xs : List Int32) (i : Int32) (v : Int64) (bc : Nat → List Value → pm_H → pm_R) (n : Nat) (h : pm_H) : la_R xs bc (n + 2) 996 i [.long v] h = la_R xs bc n 1333 i [] h := rfl
theorem lz_27 {xs : List Int32} {i : Int32} {g : qM} {u : qW} (h : w_R g) {x1 : Int32} (n1 : ¬ i + Int32.ofInt 1 < 0) (e1 : xs[(i + Int32.ofInt 1).toNatClampNeg]? = some x1) {x2 : Int32} (n2 : ¬ i + Int32.ofInt 2 < 0) (e2 : xs[(i + Int32.ofInt 2).toNatClampNeg]? = some x2) {x3 : Int32} (n3 : ¬ i + Int32.ofInt 3 < 0) (e3 : xs[(i + Int32.ofInt 3).toNatClampNeg]? = some x3) (tail : ∀ g' u', w_R g' → la_G xs 1333 i [] g' u') : la_G xs 957 i [] g u := by
  obtain ⟨v, g1, u1, g2, u2, q1, q2, hr⟩ := pr_odds x1 x2 x3 g u h
  refine la_go 5 (lq_122 xs i) ?_
  refine la_go 1 (fun _ _ _ => la_arg rfl n1 e1) ?_
  refine la_go 4 (lq_123 xs i x1) ?_
  refine la_go 1 (fun _ _ _ => la_arg rfl n2 e2) ?_
  refine la_go 4 (lq_124 xs i x1 x2) ?_
  refine la_go 1 (fun _ _ _ => la_arg rfl n3 e3) ?_
  refine la_inv (rest := []) rfl rfl rfl (Nat.le_of_ble_eq_true rfl) rfl rfl ⟨_, rfl⟩ rfl rfl (Nat.le_of_ble_eq_true rfl) q1 ?_
  refine la_go 6 (lq_125 xs i v) ?_
  refine la_go 1 (fun _ _ _ => la_arg rfl n1 e1) ?_
  refine la_go 4 (lq_126 xs i x1) ?_
  refine la_go 1 (fun _ _ _ => la_arg rfl n2 e2) ?_
  refine la_go 4 (lq_127 xs i x1 x2) ?_
  refine la_go 1 (fun _ _ _ => la_arg rfl n3 e3) ?_
  refine la_inv (rest := []) rfl rfl rfl (Nat.le_of_ble_eq_true rfl) rfl rfl ⟨_, rfl⟩ rfl rfl (Nat.le_of_ble_eq_true rfl) q2 ?_
  refine la_go 2 (lq_128 xs i v) ?_
  exact tail _ _ hr
theorem lq_129 (xs : List Int32) (i : Int32) (bc : Nat → List Value → pm_H → pm_R) (n : Nat) (h : pm_H) : la_R xs bc (n + 5) 1000 i [] h = la_R xs bc n 1005 i [.int (i + Int32.ofInt 1), .ref 0, .ref 8] h := rfl
theorem lq_130 (xs : List Int32) (i : Int32) (x1 : Int32) (bc : Nat → List Value → pm_H → pm_R) (n : Nat) (h : pm_H) : la_R xs bc (n + 4) 1006 i [.int x1, .ref 8] h = la_R xs bc n 1010 i [.int (i + Int32.ofInt 2), .ref 0, .int x1, .ref 8] h := rfl
theorem lq_131 (xs : List Int32) (i : Int32) (v : Int32) (bc : Nat → List Value → pm_H → pm_R) (n : Nat) (h : pm_H) : la_R xs bc (n + 6) 1014 i [.int v] h = la_R xs bc n 1020 i [.int (i + Int32.ofInt 1), .ref 0, .ref 70] h := rfl
theorem lq_132 (xs : List Int32) (i : Int32) (x1 : Int32) (bc : Nat → List Value → pm_H → pm_R) (n : Nat) (h : pm_H) : la_R xs bc (n + 4) 1021 i [.int x1, .ref 70] h = la_R xs bc n 1025 i [.int (i + Int32.ofInt 2), .ref 0, .int x1, .ref 70] h := rfl
theorem lq_133 (xs : List Int32) (i : Int32) (v : Int32) (bc : Nat → List Value → pm_H → pm_R) (n : Nat) (h : pm_H) : la_R xs bc (n + 2) 1029 i [.int v] h = la_R xs bc n 1333 i [] h := rfl
theorem lz_28 {xs : List Int32} {i : Int32} {g : qM} {u : qW} (h : w_R g) {x1 : Int32} (n1 : ¬ i + Int32.ofInt 1 < 0) (e1 : xs[(i + Int32.ofInt 1).toNatClampNeg]? = some x1) {x2 : Int32} (n2 : ¬ i + Int32.ofInt 2 < 0) (e2 : xs[(i + Int32.ofInt 2).toNatClampNeg]? = some x2) (tail : ∀ g' u', w_R g' → la_G xs 1333 i [] g' u') : la_G xs 1000 i [] g u := by
  obtain ⟨v, g1, u1, g2, u2, q1, q2, hr⟩ := pr_see x1 x2 g u h
  refine la_go 5 (lq_129 xs i) ?_
  refine la_go 1 (fun _ _ _ => la_arg rfl n1 e1) ?_
  refine la_go 4 (lq_130 xs i x1) ?_
  refine la_go 1 (fun _ _ _ => la_arg rfl n2 e2) ?_
  refine la_inv (rest := []) rfl rfl rfl (Nat.le_of_ble_eq_true rfl) rfl rfl ⟨_, rfl⟩ rfl rfl (Nat.le_of_ble_eq_true rfl) q1 ?_
  refine la_go 6 (lq_131 xs i v) ?_
  refine la_go 1 (fun _ _ _ => la_arg rfl n1 e1) ?_
  refine la_go 4 (lq_132 xs i x1) ?_
  refine la_go 1 (fun _ _ _ => la_arg rfl n2 e2) ?_
  refine la_inv (rest := []) rfl rfl rfl (Nat.le_of_ble_eq_true rfl) rfl rfl ⟨_, rfl⟩ rfl rfl (Nat.le_of_ble_eq_true rfl) q2 ?_
  refine la_go 2 (lq_133 xs i v) ?_
  exact tail _ _ hr
theorem lq_134 (xs : List Int32) (i : Int32) (bc : Nat → List Value → pm_H → pm_R) (n : Nat) (h : pm_H) : la_R xs bc (n + 5) 1033 i [] h = la_R xs bc n 1038 i [.int (i + Int32.ofInt 1), .ref 0, .ref 8] h := rfl
theorem lq_135 (xs : List Int32) (i : Int32) (v : Int32) (bc : Nat → List Value → pm_H → pm_R) (n : Nat) (h : pm_H) : la_R xs bc (n + 6) 1042 i [.int v] h = la_R xs bc n 1048 i [.int (i + Int32.ofInt 1), .ref 0, .ref 70] h := rfl
theorem lq_136 (xs : List Int32) (i : Int32) (v : Int32) (bc : Nat → List Value → pm_H → pm_R) (n : Nat) (h : pm_H) : la_R xs bc (n + 2) 1052 i [.int v] h = la_R xs bc n 1333 i [] h := rfl
theorem lz_29 {xs : List Int32} {i : Int32} {g : qM} {u : qW} (h : w_R g) {x1 : Int32} (n1 : ¬ i + Int32.ofInt 1 < 0) (e1 : xs[(i + Int32.ofInt 1).toNatClampNeg]? = some x1) (tail : ∀ g' u', w_R g' → la_G xs 1333 i [] g' u') : la_G xs 1033 i [] g u := by
  obtain ⟨v, g1, u1, g2, u2, q1, q2, hr⟩ := pr_forget x1 g u h
  refine la_go 5 (lq_134 xs i) ?_
  refine la_go 1 (fun _ _ _ => la_arg rfl n1 e1) ?_
  refine la_inv (rest := []) rfl rfl rfl (Nat.le_of_ble_eq_true rfl) rfl rfl ⟨_, rfl⟩ rfl rfl (Nat.le_of_ble_eq_true rfl) q1 ?_
  refine la_go 6 (lq_135 xs i v) ?_
  refine la_go 1 (fun _ _ _ => la_arg rfl n1 e1) ?_
  refine la_inv (rest := []) rfl rfl rfl (Nat.le_of_ble_eq_true rfl) rfl rfl ⟨_, rfl⟩ rfl rfl (Nat.le_of_ble_eq_true rfl) q2 ?_
  refine la_go 2 (lq_136 xs i v) ?_
  exact tail _ _ hr
theorem lq_137 (xs : List Int32) (i : Int32) (bc : Nat → List Value → pm_H → pm_R) (n : Nat) (h : pm_H) : la_R xs bc (n + 5) 1056 i [] h = la_R xs bc n 1061 i [.int (i + Int32.ofInt 1), .ref 0, .ref 8] h := rfl
theorem lq_138 (xs : List Int32) (i : Int32) (v : Int32) (bc : Nat → List Value → pm_H → pm_R) (n : Nat) (h : pm_H) : la_R xs bc (n + 6) 1065 i [.int v] h = la_R xs bc n 1071 i [.int (i + Int32.ofInt 1), .ref 0, .ref 70] h := rfl
theorem lq_139 (xs : List Int32) (i : Int32) (v : Int32) (bc : Nat → List Value → pm_H → pm_R) (n : Nat) (h : pm_H) : la_R xs bc (n + 2) 1075 i [.int v] h = la_R xs bc n 1333 i [] h := rfl
theorem lz_30 {xs : List Int32} {i : Int32} {g : qM} {u : qW} (h : w_R g) {x1 : Int32} (n1 : ¬ i + Int32.ofInt 1 < 0) (e1 : xs[(i + Int32.ofInt 1).toNatClampNeg]? = some x1) (tail : ∀ g' u', w_R g' → la_G xs 1333 i [] g' u') : la_G xs 1056 i [] g u := by
  obtain ⟨v, g1, u1, g2, u2, q1, q2, hr⟩ := pr_moods x1 g u h
  refine la_go 5 (lq_137 xs i) ?_
  refine la_go 1 (fun _ _ _ => la_arg rfl n1 e1) ?_
  refine la_inv (rest := []) rfl rfl rfl (Nat.le_of_ble_eq_true rfl) rfl rfl ⟨_, rfl⟩ rfl rfl (Nat.le_of_ble_eq_true rfl) q1 ?_
  refine la_go 6 (lq_138 xs i v) ?_
  refine la_go 1 (fun _ _ _ => la_arg rfl n1 e1) ?_
  refine la_inv (rest := []) rfl rfl rfl (Nat.le_of_ble_eq_true rfl) rfl rfl ⟨_, rfl⟩ rfl rfl (Nat.le_of_ble_eq_true rfl) q2 ?_
  refine la_go 2 (lq_139 xs i v) ?_
  exact tail _ _ hr
theorem lq_140 (xs : List Int32) (i : Int32) (bc : Nat → List Value → pm_H → pm_R) (n : Nat) (h : pm_H) : la_R xs bc (n + 5) 1079 i [] h = la_R xs bc n 1084 i [.int (i + Int32.ofInt 1), .ref 0, .ref 8] h := rfl
theorem lq_141 (xs : List Int32) (i : Int32) (x1 : Int32) (bc : Nat → List Value → pm_H → pm_R) (n : Nat) (h : pm_H) : la_R xs bc (n + 4) 1085 i [.int x1, .ref 8] h = la_R xs bc n 1089 i [.int (i + Int32.ofInt 2), .ref 0, .int x1, .ref 8] h := rfl
theorem lq_142 (xs : List Int32) (i : Int32) (v : Int32) (bc : Nat → List Value → pm_H → pm_R) (n : Nat) (h : pm_H) : la_R xs bc (n + 6) 1093 i [.int v] h = la_R xs bc n 1099 i [.int (i + Int32.ofInt 1), .ref 0, .ref 70] h := rfl
theorem lq_143 (xs : List Int32) (i : Int32) (x1 : Int32) (bc : Nat → List Value → pm_H → pm_R) (n : Nat) (h : pm_H) : la_R xs bc (n + 4) 1100 i [.int x1, .ref 70] h = la_R xs bc n 1104 i [.int (i + Int32.ofInt 2), .ref 0, .int x1, .ref 70] h := rfl
theorem lq_144 (xs : List Int32) (i : Int32) (v : Int32) (bc : Nat → List Value → pm_H → pm_R) (n : Nat) (h : pm_H) : la_R xs bc (n + 2) 1108 i [.int v] h = la_R xs bc n 1333 i [] h := rfl
theorem lz_31 {xs : List Int32} {i : Int32} {g : qM} {u : qW} (h : w_R g) {x1 : Int32} (n1 : ¬ i + Int32.ofInt 1 < 0) (e1 : xs[(i + Int32.ofInt 1).toNatClampNeg]? = some x1) {x2 : Int32} (n2 : ¬ i + Int32.ofInt 2 < 0) (e2 : xs[(i + Int32.ofInt 2).toNatClampNeg]? = some x2) (tail : ∀ g' u', w_R g' → la_G xs 1333 i [] g' u') : la_G xs 1079 i [] g u := by
  obtain ⟨v, g1, u1, g2, u2, q1, q2, hr⟩ := pr_crowd x1 x2 g u h
  refine la_go 5 (lq_140 xs i) ?_
  refine la_go 1 (fun _ _ _ => la_arg rfl n1 e1) ?_
  refine la_go 4 (lq_141 xs i x1) ?_
  refine la_go 1 (fun _ _ _ => la_arg rfl n2 e2) ?_
  refine la_inv (rest := []) rfl rfl rfl (Nat.le_of_ble_eq_true rfl) rfl rfl ⟨_, rfl⟩ rfl rfl (Nat.le_of_ble_eq_true rfl) q1 ?_
  refine la_go 6 (lq_142 xs i v) ?_
  refine la_go 1 (fun _ _ _ => la_arg rfl n1 e1) ?_
  refine la_go 4 (lq_143 xs i x1) ?_
  refine la_go 1 (fun _ _ _ => la_arg rfl n2 e2) ?_
  refine la_inv (rest := []) rfl rfl rfl (Nat.le_of_ble_eq_true rfl) rfl rfl ⟨_, rfl⟩ rfl rfl (Nat.le_of_ble_eq_true rfl) q2 ?_
  refine la_go 2 (lq_144 xs i v) ?_
  exact tail _ _ hr
theorem lq_145 (xs : List Int32) (i : Int32) (bc : Nat → List Value → pm_H → pm_R) (n : Nat) (h : pm_H) : la_R xs bc (n + 5) 1112 i [] h = la_R xs bc n 1117 i [.int (i + Int32.ofInt 1), .ref 0, .ref 8] h := rfl
theorem lq_146 (xs : List Int32) (i : Int32) (v : Int32) (bc : Nat → List Value → pm_H → pm_R) (n : Nat) (h : pm_H) : la_R xs bc (n + 6) 1121 i [.int v] h = la_R xs bc n 1127 i [.int (i + Int32.ofInt 1), .ref 0, .ref 70] h := rfl
theorem lq_147 (xs : List Int32) (i : Int32) (v : Int32) (bc : Nat → List Value → pm_H → pm_R) (n : Nat) (h : pm_H) : la_R xs bc (n + 2) 1131 i [.int v] h = la_R xs bc n 1333 i [] h := rfl
theorem lz_32 {xs : List Int32} {i : Int32} {g : qM} {u : qW} (h : w_R g) {x1 : Int32} (n1 : ¬ i + Int32.ofInt 1 < 0) (e1 : xs[(i + Int32.ofInt 1).toNatClampNeg]? = some x1) (tail : ∀ g' u', w_R g' → la_G xs 1333 i [] g' u') : la_G xs 1112 i [] g u := by
  obtain ⟨v, g1, u1, g2, u2, q1, q2, hr⟩ := pr_keep x1 g u h
  refine la_go 5 (lq_145 xs i) ?_
  refine la_go 1 (fun _ _ _ => la_arg rfl n1 e1) ?_
  refine la_inv (rest := []) rfl rfl rfl (Nat.le_of_ble_eq_true rfl) rfl rfl ⟨_, rfl⟩ rfl rfl (Nat.le_of_ble_eq_true rfl) q1 ?_
  refine la_go 6 (lq_146 xs i v) ?_
  refine la_go 1 (fun _ _ _ => la_arg rfl n1 e1) ?_
  refine la_inv (rest := []) rfl rfl rfl (Nat.le_of_ble_eq_true rfl) rfl rfl ⟨_, rfl⟩ rfl rfl (Nat.le_of_ble_eq_true rfl) q2 ?_
  refine la_go 2 (lq_147 xs i v) ?_
  exact tail _ _ hr
theorem lq_148 (xs : List Int32) (i : Int32) (bc : Nat → List Value → pm_H → pm_R) (n : Nat) (h : pm_H) : la_R xs bc (n + 5) 1135 i [] h = la_R xs bc n 1140 i [.int (i + Int32.ofInt 1), .ref 0, .ref 8] h := rfl
theorem lq_149 (xs : List Int32) (i : Int32) (v : Int32) (bc : Nat → List Value → pm_H → pm_R) (n : Nat) (h : pm_H) : la_R xs bc (n + 6) 1144 i [.int v] h = la_R xs bc n 1150 i [.int (i + Int32.ofInt 1), .ref 0, .ref 70] h := rfl
theorem lq_150 (xs : List Int32) (i : Int32) (v : Int32) (bc : Nat → List Value → pm_H → pm_R) (n : Nat) (h : pm_H) : la_R xs bc (n + 2) 1154 i [.int v] h = la_R xs bc n 1333 i [] h := rfl
theorem lz_33 {xs : List Int32} {i : Int32} {g : qM} {u : qW} (h : w_R g) {x1 : Int32} (n1 : ¬ i + Int32.ofInt 1 < 0) (e1 : xs[(i + Int32.ofInt 1).toNatClampNeg]? = some x1) (tail : ∀ g' u', w_R g' → la_G xs 1333 i [] g' u') : la_G xs 1135 i [] g u := by
  obtain ⟨v, g1, u1, g2, u2, q1, q2, hr⟩ := pr_back x1 g u h
  refine la_go 5 (lq_148 xs i) ?_
  refine la_go 1 (fun _ _ _ => la_arg rfl n1 e1) ?_
  refine la_inv (rest := []) rfl rfl rfl (Nat.le_of_ble_eq_true rfl) rfl rfl ⟨_, rfl⟩ rfl rfl (Nat.le_of_ble_eq_true rfl) q1 ?_
  refine la_go 6 (lq_149 xs i v) ?_
  refine la_go 1 (fun _ _ _ => la_arg rfl n1 e1) ?_
  refine la_inv (rest := []) rfl rfl rfl (Nat.le_of_ble_eq_true rfl) rfl rfl ⟨_, rfl⟩ rfl rfl (Nat.le_of_ble_eq_true rfl) q2 ?_
  refine la_go 2 (lq_150 xs i v) ?_
  exact tail _ _ hr
theorem lq_151 (xs : List Int32) (i : Int32) (bc : Nat → List Value → pm_H → pm_R) (n : Nat) (h : pm_H) : la_R xs bc (n + 5) 1158 i [] h = la_R xs bc n 1163 i [.int (i + Int32.ofInt 1), .ref 0, .ref 8] h := rfl
theorem lq_152 (xs : List Int32) (i : Int32) (x1 : Int32) (bc : Nat → List Value → pm_H → pm_R) (n : Nat) (h : pm_H) : la_R xs bc (n + 4) 1164 i [.int x1, .ref 8] h = la_R xs bc n 1168 i [.int (i + Int32.ofInt 2), .ref 0, .int x1, .ref 8] h := rfl
theorem lq_153 (xs : List Int32) (i : Int32) (x1 : Int32) (x2 : Int32) (bc : Nat → List Value → pm_H → pm_R) (n : Nat) (h : pm_H) : la_R xs bc (n + 4) 1169 i [.int x2, .int x1, .ref 8] h = la_R xs bc n 1173 i [.int (i + Int32.ofInt 3), .ref 0, .int x2, .int x1, .ref 8] h := rfl
theorem lq_154 (xs : List Int32) (i : Int32) (v : Int32) (bc : Nat → List Value → pm_H → pm_R) (n : Nat) (h : pm_H) : la_R xs bc (n + 6) 1177 i [.int v] h = la_R xs bc n 1183 i [.int (i + Int32.ofInt 1), .ref 0, .ref 70] h := rfl
theorem lq_155 (xs : List Int32) (i : Int32) (x1 : Int32) (bc : Nat → List Value → pm_H → pm_R) (n : Nat) (h : pm_H) : la_R xs bc (n + 4) 1184 i [.int x1, .ref 70] h = la_R xs bc n 1188 i [.int (i + Int32.ofInt 2), .ref 0, .int x1, .ref 70] h := rfl
theorem lq_156 (xs : List Int32) (i : Int32) (x1 : Int32) (x2 : Int32) (bc : Nat → List Value → pm_H → pm_R) (n : Nat) (h : pm_H) : la_R xs bc (n + 4) 1189 i [.int x2, .int x1, .ref 70] h = la_R xs bc n 1193 i [.int (i + Int32.ofInt 3), .ref 0, .int x2, .int x1, .ref 70] h := rfl
theorem lq_157 (xs : List Int32) (i : Int32) (v : Int32) (bc : Nat → List Value → pm_H → pm_R) (n : Nat) (h : pm_H) : la_R xs bc (n + 2) 1197 i [.int v] h = la_R xs bc n 1333 i [] h := rfl
theorem lz_34 {xs : List Int32} {i : Int32} {g : qM} {u : qW} (h : w_R g) {x1 : Int32} (n1 : ¬ i + Int32.ofInt 1 < 0) (e1 : xs[(i + Int32.ofInt 1).toNatClampNeg]? = some x1) {x2 : Int32} (n2 : ¬ i + Int32.ofInt 2 < 0) (e2 : xs[(i + Int32.ofInt 2).toNatClampNeg]? = some x2) {x3 : Int32} (n3 : ¬ i + Int32.ofInt 3 < 0) (e3 : xs[(i + Int32.ofInt 3).toNatClampNeg]? = some x3) (tail : ∀ g' u', w_R g' → la_G xs 1333 i [] g' u') : la_G xs 1158 i [] g u := by
  obtain ⟨v, g1, u1, g2, u2, q1, q2, hr⟩ := pr_sheet x1 x2 x3 g u h
  refine la_go 5 (lq_151 xs i) ?_
  refine la_go 1 (fun _ _ _ => la_arg rfl n1 e1) ?_
  refine la_go 4 (lq_152 xs i x1) ?_
  refine la_go 1 (fun _ _ _ => la_arg rfl n2 e2) ?_
  refine la_go 4 (lq_153 xs i x1 x2) ?_
  refine la_go 1 (fun _ _ _ => la_arg rfl n3 e3) ?_
  refine la_inv (rest := []) rfl rfl rfl (Nat.le_of_ble_eq_true rfl) rfl rfl ⟨_, rfl⟩ rfl rfl (Nat.le_of_ble_eq_true rfl) q1 ?_
  refine la_go 6 (lq_154 xs i v) ?_
  refine la_go 1 (fun _ _ _ => la_arg rfl n1 e1) ?_
  refine la_go 4 (lq_155 xs i x1) ?_
  refine la_go 1 (fun _ _ _ => la_arg rfl n2 e2) ?_
  refine la_go 4 (lq_156 xs i x1 x2) ?_
  refine la_go 1 (fun _ _ _ => la_arg rfl n3 e3) ?_
  refine la_inv (rest := []) rfl rfl rfl (Nat.le_of_ble_eq_true rfl) rfl rfl ⟨_, rfl⟩ rfl rfl (Nat.le_of_ble_eq_true rfl) q2 ?_
  refine la_go 2 (lq_157 xs i v) ?_
  exact tail _ _ hr
theorem lq_158 (xs : List Int32) (i : Int32) (bc : Nat → List Value → pm_H → pm_R) (n : Nat) (h : pm_H) : la_R xs bc (n + 5) 1201 i [] h = la_R xs bc n 1206 i [.int (i + Int32.ofInt 1), .ref 0, .ref 8] h := rfl
theorem lq_159 (xs : List Int32) (i : Int32) (x1 : Int32) (bc : Nat → List Value → pm_H → pm_R) (n : Nat) (h : pm_H) : la_R xs bc (n + 4) 1207 i [.int x1, .ref 8] h = la_R xs bc n 1211 i [.int (i + Int32.ofInt 2), .ref 0, .int x1, .ref 8] h := rfl
theorem lq_160 (xs : List Int32) (i : Int32) (x1 : Int32) (x2 : Int32) (bc : Nat → List Value → pm_H → pm_R) (n : Nat) (h : pm_H) : la_R xs bc (n + 4) 1212 i [.int x2, .int x1, .ref 8] h = la_R xs bc n 1216 i [.int (i + Int32.ofInt 3), .ref 0, .int x2, .int x1, .ref 8] h := rfl
theorem lq_161 (xs : List Int32) (i : Int32) (v : Int32) (bc : Nat → List Value → pm_H → pm_R) (n : Nat) (h : pm_H) : la_R xs bc (n + 6) 1220 i [.int v] h = la_R xs bc n 1226 i [.int (i + Int32.ofInt 1), .ref 0, .ref 70] h := rfl
theorem lq_162 (xs : List Int32) (i : Int32) (x1 : Int32) (bc : Nat → List Value → pm_H → pm_R) (n : Nat) (h : pm_H) : la_R xs bc (n + 4) 1227 i [.int x1, .ref 70] h = la_R xs bc n 1231 i [.int (i + Int32.ofInt 2), .ref 0, .int x1, .ref 70] h := rfl
theorem lq_163 (xs : List Int32) (i : Int32) (x1 : Int32) (x2 : Int32) (bc : Nat → List Value → pm_H → pm_R) (n : Nat) (h : pm_H) : la_R xs bc (n + 4) 1232 i [.int x2, .int x1, .ref 70] h = la_R xs bc n 1236 i [.int (i + Int32.ofInt 3), .ref 0, .int x2, .int x1, .ref 70] h := rfl
theorem lq_164 (xs : List Int32) (i : Int32) (v : Int32) (bc : Nat → List Value → pm_H → pm_R) (n : Nat) (h : pm_H) : la_R xs bc (n + 2) 1240 i [.int v] h = la_R xs bc n 1333 i [] h := rfl
theorem lz_35 {xs : List Int32} {i : Int32} {g : qM} {u : qW} (h : w_R g) {x1 : Int32} (n1 : ¬ i + Int32.ofInt 1 < 0) (e1 : xs[(i + Int32.ofInt 1).toNatClampNeg]? = some x1) {x2 : Int32} (n2 : ¬ i + Int32.ofInt 2 < 0) (e2 : xs[(i + Int32.ofInt 2).toNatClampNeg]? = some x2) {x3 : Int32} (n3 : ¬ i + Int32.ofInt 3 < 0) (e3 : xs[(i + Int32.ofInt 3).toNatClampNeg]? = some x3) (tail : ∀ g' u', w_R g' → la_G xs 1333 i [] g' u') : la_G xs 1201 i [] g u := by
  obtain ⟨v, g1, u1, g2, u2, q1, q2, hr⟩ := pr_lay x1 x2 x3 g u h
  refine la_go 5 (lq_158 xs i) ?_
  refine la_go 1 (fun _ _ _ => la_arg rfl n1 e1) ?_
  refine la_go 4 (lq_159 xs i x1) ?_
  refine la_go 1 (fun _ _ _ => la_arg rfl n2 e2) ?_
  refine la_go 4 (lq_160 xs i x1 x2) ?_
  refine la_go 1 (fun _ _ _ => la_arg rfl n3 e3) ?_
  refine la_inv (rest := []) rfl rfl rfl (Nat.le_of_ble_eq_true rfl) rfl rfl ⟨_, rfl⟩ rfl rfl (Nat.le_of_ble_eq_true rfl) q1 ?_
  refine la_go 6 (lq_161 xs i v) ?_
  refine la_go 1 (fun _ _ _ => la_arg rfl n1 e1) ?_
  refine la_go 4 (lq_162 xs i x1) ?_
  refine la_go 1 (fun _ _ _ => la_arg rfl n2 e2) ?_
  refine la_go 4 (lq_163 xs i x1 x2) ?_
  refine la_go 1 (fun _ _ _ => la_arg rfl n3 e3) ?_
  refine la_inv (rest := []) rfl rfl rfl (Nat.le_of_ble_eq_true rfl) rfl rfl ⟨_, rfl⟩ rfl rfl (Nat.le_of_ble_eq_true rfl) q2 ?_
  refine la_go 2 (lq_164 xs i v) ?_
  exact tail _ _ hr
theorem lq_165 (xs : List Int32) (i : Int32) (bc : Nat → List Value → pm_H → pm_R) (n : Nat) (h : pm_H) : la_R xs bc (n + 5) 1244 i [] h = la_R xs bc n 1249 i [.int (i + Int32.ofInt 1), .ref 0, .ref 8] h := rfl
theorem lq_166 (xs : List Int32) (i : Int32) (x1 : Int32) (bc : Nat → List Value → pm_H → pm_R) (n : Nat) (h : pm_H) : la_R xs bc (n + 4) 1250 i [.int x1, .ref 8] h = la_R xs bc n 1254 i [.int (i + Int32.ofInt 2), .ref 0, .int x1, .ref 8] h := rfl
theorem lq_167 (xs : List Int32) (i : Int32) (x1 : Int32) (x2 : Int32) (bc : Nat → List Value → pm_H → pm_R) (n : Nat) (h : pm_H) : la_R xs bc (n + 4) 1255 i [.int x2, .int x1, .ref 8] h = la_R xs bc n 1259 i [.int (i + Int32.ofInt 3), .ref 0, .int x2, .int x1, .ref 8] h := rfl
theorem lq_168 (xs : List Int32) (i : Int32) (x1 : Int32) (x2 : Int32) (x3 : Int32) (bc : Nat → List Value → pm_H → pm_R) (n : Nat) (h : pm_H) : la_R xs bc (n + 4) 1260 i [.int x3, .int x2, .int x1, .ref 8] h = la_R xs bc n 1264 i [.int (i + Int32.ofInt 4), .ref 0, .int x3, .int x2, .int x1, .ref 8] h := rfl
theorem lq_169 (xs : List Int32) (i : Int32) (v : Int32) (bc : Nat → List Value → pm_H → pm_R) (n : Nat) (h : pm_H) : la_R xs bc (n + 6) 1268 i [.int v] h = la_R xs bc n 1274 i [.int (i + Int32.ofInt 1), .ref 0, .ref 70] h := rfl
theorem lq_170 (xs : List Int32) (i : Int32) (x1 : Int32) (bc : Nat → List Value → pm_H → pm_R) (n : Nat) (h : pm_H) : la_R xs bc (n + 4) 1275 i [.int x1, .ref 70] h = la_R xs bc n 1279 i [.int (i + Int32.ofInt 2), .ref 0, .int x1, .ref 70] h := rfl
theorem lq_171 (xs : List Int32) (i : Int32) (x1 : Int32) (x2 : Int32) (bc : Nat → List Value → pm_H → pm_R) (n : Nat) (h : pm_H) : la_R xs bc (n + 4) 1280 i [.int x2, .int x1, .ref 70] h = la_R xs bc n 1284 i [.int (i + Int32.ofInt 3), .ref 0, .int x2, .int x1, .ref 70] h := rfl
theorem lq_172 (xs : List Int32) (i : Int32) (x1 : Int32) (x2 : Int32) (x3 : Int32) (bc : Nat → List Value → pm_H → pm_R) (n : Nat) (h : pm_H) : la_R xs bc (n + 4) 1285 i [.int x3, .int x2, .int x1, .ref 70] h = la_R xs bc n 1289 i [.int (i + Int32.ofInt 4), .ref 0, .int x3, .int x2, .int x1, .ref 70] h := rfl
theorem lq_173 (xs : List Int32) (i : Int32) (v : Int32) (bc : Nat → List Value → pm_H → pm_R) (n : Nat) (h : pm_H) : la_R xs bc (n + 2) 1293 i [.int v] h = la_R xs bc n 1333 i [] h := rfl
theorem lz_36 {xs : List Int32} {i : Int32} {g : qM} {u : qW} (h : w_R g) {x1 : Int32} (n1 : ¬ i + Int32.ofInt 1 < 0) (e1 : xs[(i + Int32.ofInt 1).toNatClampNeg]? = some x1) {x2 : Int32} (n2 : ¬ i + Int32.ofInt 2 < 0) (e2 : xs[(i + Int32.ofInt 2).toNatClampNeg]? = some x2) {x3 : Int32} (n3 : ¬ i + Int32.ofInt 3 < 0) (e3 : xs[(i + Int32.ofInt 3).toNatClampNeg]? = some x3) {x4 : Int32} (n4 : ¬ i + Int32.ofInt 4 < 0) (e4 : xs[(i + Int32.ofInt 4).toNatClampNeg]? = some x4) (tail : ∀ g' u', w_R g' → la_G xs 1333 i [] g' u') : la_G xs 1244 i [] g u := by
  obtain ⟨v, g1, u1, g2, u2, q1, q2, hr⟩ := pr_read x1 x2 x3 x4 g u h
  refine la_go 5 (lq_165 xs i) ?_
  refine la_go 1 (fun _ _ _ => la_arg rfl n1 e1) ?_
  refine la_go 4 (lq_166 xs i x1) ?_
  refine la_go 1 (fun _ _ _ => la_arg rfl n2 e2) ?_
  refine la_go 4 (lq_167 xs i x1 x2) ?_
  refine la_go 1 (fun _ _ _ => la_arg rfl n3 e3) ?_
  refine la_go 4 (lq_168 xs i x1 x2 x3) ?_
  refine la_go 1 (fun _ _ _ => la_arg rfl n4 e4) ?_
  refine la_inv (rest := []) rfl rfl rfl (Nat.le_of_ble_eq_true rfl) rfl rfl ⟨_, rfl⟩ rfl rfl (Nat.le_of_ble_eq_true rfl) q1 ?_
  refine la_go 6 (lq_169 xs i v) ?_
  refine la_go 1 (fun _ _ _ => la_arg rfl n1 e1) ?_
  refine la_go 4 (lq_170 xs i x1) ?_
  refine la_go 1 (fun _ _ _ => la_arg rfl n2 e2) ?_
  refine la_go 4 (lq_171 xs i x1 x2) ?_
  refine la_go 1 (fun _ _ _ => la_arg rfl n3 e3) ?_
  refine la_go 4 (lq_172 xs i x1 x2 x3) ?_
  refine la_go 1 (fun _ _ _ => la_arg rfl n4 e4) ?_
  refine la_inv (rest := []) rfl rfl rfl (Nat.le_of_ble_eq_true rfl) rfl rfl ⟨_, rfl⟩ rfl rfl (Nat.le_of_ble_eq_true rfl) q2 ?_
  refine la_go 2 (lq_173 xs i v) ?_
  exact tail _ _ hr
theorem lq_174 (xs : List Int32) (i : Int32) (bc : Nat → List Value → pm_H → pm_R) (n : Nat) (h : pm_H) : la_R xs bc (n + 1) 1297 i [] h = la_R xs bc n 1298 i [.ref 8] h := rfl
theorem lq_175 (xs : List Int32) (i : Int32) (v : Int32) (bc : Nat → List Value → pm_H → pm_R) (n : Nat) (h : pm_H) : la_R xs bc (n + 2) 1301 i [.int v] h = la_R xs bc n 1303 i [.ref 70] h := rfl
theorem lq_176 (xs : List Int32) (i : Int32) (v : Int32) (bc : Nat → List Value → pm_H → pm_R) (n : Nat) (h : pm_H) : la_R xs bc (n + 2) 1306 i [.int v] h = la_R xs bc n 1333 i [] h := rfl
theorem lz_37 {xs : List Int32} {i : Int32} {g : qM} {u : qW} (h : w_R g) (tail : ∀ g' u', w_R g' → la_G xs 1333 i [] g' u') : la_G xs 1297 i [] g u := by
  obtain ⟨q1, q2⟩ := pr_torn g u h
  have hr := h
  refine la_go 1 (lq_174 xs i) ?_
  refine la_inv (rest := []) rfl rfl rfl (Nat.le_of_ble_eq_true rfl) rfl rfl ⟨_, rfl⟩ rfl rfl (Nat.le_of_ble_eq_true rfl) q1 ?_
  refine la_go 2 (lq_175 xs i _) ?_
  refine la_inv (rest := []) rfl rfl rfl (Nat.le_of_ble_eq_true rfl) rfl rfl ⟨_, rfl⟩ rfl rfl (Nat.le_of_ble_eq_true rfl) q2 ?_
  refine la_go 2 (lq_176 xs i _) ?_
  exact tail _ _ hr
theorem lq_177 (xs : List Int32) (i : Int32) (bc : Nat → List Value → pm_H → pm_R) (n : Nat) (h : pm_H) : la_R xs bc (n + 5) 1310 i [] h = la_R xs bc n 1315 i [.int (i + Int32.ofInt 1), .ref 0, .ref 8] h := rfl
theorem lq_178 (xs : List Int32) (i : Int32) (v : Int32) (bc : Nat → List Value → pm_H → pm_R) (n : Nat) (h : pm_H) : la_R xs bc (n + 6) 1319 i [.int v] h = la_R xs bc n 1325 i [.int (i + Int32.ofInt 1), .ref 0, .ref 70] h := rfl
theorem lq_179 (xs : List Int32) (i : Int32) (v : Int32) (bc : Nat → List Value → pm_H → pm_R) (n : Nat) (h : pm_H) : la_R xs bc (n + 2) 1329 i [.int v] h = la_R xs bc n 1333 i [] h := rfl
theorem lz_38 {xs : List Int32} {i : Int32} {g : qM} {u : qW} (h : w_R g) {x1 : Int32} (n1 : ¬ i + Int32.ofInt 1 < 0) (e1 : xs[(i + Int32.ofInt 1).toNatClampNeg]? = some x1) (tail : ∀ g' u', w_R g' → la_G xs 1333 i [] g' u') : la_G xs 1310 i [] g u := by
  obtain ⟨v, g1, u1, g2, u2, q1, q2, hr⟩ := pr_count x1 g u h
  refine la_go 5 (lq_177 xs i) ?_
  refine la_go 1 (fun _ _ _ => la_arg rfl n1 e1) ?_
  refine la_inv (rest := []) rfl rfl rfl (Nat.le_of_ble_eq_true rfl) rfl rfl ⟨_, rfl⟩ rfl rfl (Nat.le_of_ble_eq_true rfl) q1 ?_
  refine la_go 6 (lq_178 xs i v) ?_
  refine la_go 1 (fun _ _ _ => la_arg rfl n1 e1) ?_
  refine la_inv (rest := []) rfl rfl rfl (Nat.le_of_ble_eq_true rfl) rfl rfl ⟨_, rfl⟩ rfl rfl (Nat.le_of_ble_eq_true rfl) q2 ?_
  refine la_go 2 (lq_179 xs i v) ?_
  exact tail _ _ hr
end
section
/-! THE LAW'S LOOP, at any place of a script of 320 ints at most. -/
theorem lo_add {p a : Nat} {y : Int32} (hy : am_i ((a : Int), (a : Int)) y) (h : p + a < 1000) : ¬ Int32.ofNat p + y < 0 ∧ (Int32.ofNat p + y).toNatClampNeg = p + a ∧ Int32.ofNat p + y = Int32.ofNat (p + a) := by
  have e1 : (Int32.ofNat p).toInt = (p : Int) := Int32.toInt_ofNat_of_lt (by omega)
  have hx : am_i ((p : Int), (p : Int)) (Int32.ofNat p) := ⟨by rw [e1]; exact Int.le_refl _, by rw [e1]; exact Int.le_refl _⟩
  have h1 := am_add_ok hx hy
  have e2 : am_add ((p : Int), (p : Int)) ((a : Int), (a : Int)) = ((p : Int) + a, (p : Int) + a) := by
    show (if -2147483648 ≤ (p : Int) + (a : Int) ∧ (p : Int) + (a : Int) ≤ 2147483647 then ((p : Int) + (a : Int), (p : Int) + (a : Int)) else _) = _
    exact if_pos ⟨by omega, by omega⟩
  rw [e2] at h1
  have e3 : (Int32.ofNat p + y).toInt = (p : Int) + a := Int.le_antisymm h1.2 h1.1
  refine ⟨?_, ?_, ?_⟩
  · intro q
    have q1 := Int32.lt_iff_toInt_lt.mp q
    rw [e3] at q1
    have z : (0 : Int32).toInt = 0 := rfl
    omega
  · show (Int32.ofNat p + y).toInt.toNat = p + a
    rw [e3]
    omega
  · have e4 : (Int32.ofNat p + y).toInt = (Int32.ofNat (p + a)).toInt := by
      rw [e3, Int32.toInt_ofNat_of_lt (by omega)]
      omega
    first
      | exact Int32.toInt_inj.mp e4
      | exact Int32.toInt.inj e4
theorem lo_sub {n : Nat} (h : n ≤ 320) : (Int32.ofNat n - Int32.ofInt 5).toInt = (n : Int) - 5 := by
  have e1 : (Int32.ofNat n).toInt = (n : Int) := Int32.toInt_ofNat_of_lt (by omega)
  have hx : am_i ((n : Int), (n : Int)) (Int32.ofNat n) := ⟨by rw [e1]; exact Int.le_refl _, by rw [e1]; exact Int.le_refl _⟩
  have hy : am_i ((5 : Int), (5 : Int)) (Int32.ofInt 5) := ⟨by decide, by decide⟩
  have h1 := am_sub_ok hx hy
  have e2 : am_sub ((n : Int), (n : Int)) ((5 : Int), (5 : Int)) = ((n : Int) - 5, (n : Int) - 5) := by
    show (if -2147483648 ≤ (n : Int) - 5 ∧ (n : Int) - 5 ≤ 2147483647 then ((n : Int) - 5, (n : Int) - 5) else _) = _
    exact if_pos ⟨by omega, by omega⟩
  rw [e2] at h1
  exact Int.le_antisymm h1.2 h1.1
theorem lo_and (x : Int32) : ∃ t : Nat, t ≤ 63 ∧ x &&& (Int8.ofInt 63).toInt32 = Int32.ofInt (t : Int) := by
  have hy : am_i ((63 : Int), (63 : Int)) (Int8.ofInt 63).toInt32 := ⟨by decide, by decide⟩
  have h1 := am_and_ok (am_i.top x) hy
  have e : am_and am_top ((63 : Int), (63 : Int)) = ((0 : Int), (63 : Int)) := by decide +kernel
  rw [e] at h1
  have h2 : (0 : Int) ≤ (x &&& (Int8.ofInt 63).toInt32).toInt := h1.1
  have h3 : (x &&& (Int8.ofInt 63).toInt32).toInt ≤ (63 : Int) := h1.2
  refine ⟨(x &&& (Int8.ofInt 63).toInt32).toInt.toNat, by omega, ?_⟩
  rw [Int.toNat_of_nonneg h2, Int32.ofInt_toInt]
theorem lo_k1 : am_i (((1 : Nat) : Int), ((1 : Nat) : Int)) (Int32.ofInt 1) := ⟨by decide, by decide⟩
theorem lo_k2 : am_i (((2 : Nat) : Int), ((2 : Nat) : Int)) (Int32.ofInt 2) := ⟨by decide, by decide⟩
theorem lo_k3 : am_i (((3 : Nat) : Int), ((3 : Nat) : Int)) (Int32.ofInt 3) := ⟨by decide, by decide⟩
theorem lo_k4 : am_i (((4 : Nat) : Int), ((4 : Nat) : Int)) (Int32.ofInt 4) := ⟨by decide, by decide⟩
theorem lo_k5 : am_i (((5 : Nat) : Int), ((5 : Nat) : Int)) (Int32.ofInt 5) := ⟨by decide, by decide⟩
section Loop
variable (xs : List Int32) (bc : Nat → List Value → pm_H → pm_R) (i : Int32) (h : pm_H)
theorem lo_18 (m : Nat) : la_R xs bc (m + 5) 18 i [] h = la_R xs bc m 23 i [.int (Int32.ofNat xs.length - Int32.ofInt 5), .int i] h := rfl
theorem lo_23 (x y : Int32) (m : Nat) : la_R xs bc (m + 1) 23 i [.int y, .int x] h = if y < x then la_R xs bc m 1339 i [] h else la_R xs bc m 26 i [] h := rfl
theorem lo_26 (m : Nat) : la_R xs bc (m + 2) 26 i [] h = la_R xs bc m 28 i [.int i, .ref 0] h := rfl
theorem lo_29 (x : Int32) (m : Nat) : la_R xs bc (m + 2) 29 i [.int x] h = la_R xs bc m 32 i [.int (x &&& (Int8.ofInt 63).toInt32)] h := rfl
theorem lo_1333 (m : Nat) : la_R xs bc (m + 2) 1333 i [] h = la_R xs bc m 18 (i + Int32.ofInt 5) [] h := rfl
theorem lo_1339 (m : Nat) : la_R xs bc (m + 2) 1339 i [] h = some (some (.int 1), h) := rfl
theorem lo_32_0 (m : Nat) : la_R xs bc (m + 1) 32 i [.int (Int32.ofInt ((0 : Nat) : Int))] h = la_R xs bc m 204 i [] h := rfl
theorem lo_32_1 (m : Nat) : la_R xs bc (m + 1) 32 i [.int (Int32.ofInt ((1 : Nat) : Int))] h = la_R xs bc m 227 i [] h := rfl
theorem lo_32_2 (m : Nat) : la_R xs bc (m + 1) 32 i [.int (Int32.ofInt ((2 : Nat) : Int))] h = la_R xs bc m 250 i [] h := rfl
theorem lo_32_3 (m : Nat) : la_R xs bc (m + 1) 32 i [.int (Int32.ofInt ((3 : Nat) : Int))] h = la_R xs bc m 263 i [] h := rfl
theorem lo_32_4 (m : Nat) : la_R xs bc (m + 1) 32 i [.int (Int32.ofInt ((4 : Nat) : Int))] h = la_R xs bc m 276 i [] h := rfl
theorem lo_32_5 (m : Nat) : la_R xs bc (m + 1) 32 i [.int (Int32.ofInt ((5 : Nat) : Int))] h = la_R xs bc m 299 i [] h := rfl
theorem lo_32_6 (m : Nat) : la_R xs bc (m + 1) 32 i [.int (Int32.ofInt ((6 : Nat) : Int))] h = la_R xs bc m 332 i [] h := rfl
theorem lo_32_7 (m : Nat) : la_R xs bc (m + 1) 32 i [.int (Int32.ofInt ((7 : Nat) : Int))] h = la_R xs bc m 355 i [] h := rfl
theorem lo_32_8 (m : Nat) : la_R xs bc (m + 1) 32 i [.int (Int32.ofInt ((8 : Nat) : Int))] h = la_R xs bc m 388 i [] h := rfl
theorem lo_32_9 (m : Nat) : la_R xs bc (m + 1) 32 i [.int (Int32.ofInt ((9 : Nat) : Int))] h = la_R xs bc m 421 i [] h := rfl
theorem lo_32_10 (m : Nat) : la_R xs bc (m + 1) 32 i [.int (Int32.ofInt ((10 : Nat) : Int))] h = la_R xs bc m 470 i [] h := rfl
theorem lo_32_11 (m : Nat) : la_R xs bc (m + 1) 32 i [.int (Int32.ofInt ((11 : Nat) : Int))] h = la_R xs bc m 503 i [] h := rfl
theorem lo_32_12 (m : Nat) : la_R xs bc (m + 1) 32 i [.int (Int32.ofInt ((12 : Nat) : Int))] h = la_R xs bc m 552 i [] h := rfl
theorem lo_32_13 (m : Nat) : la_R xs bc (m + 1) 32 i [.int (Int32.ofInt ((13 : Nat) : Int))] h = la_R xs bc m 585 i [] h := rfl
theorem lo_32_14 (m : Nat) : la_R xs bc (m + 1) 32 i [.int (Int32.ofInt ((14 : Nat) : Int))] h = la_R xs bc m 608 i [] h := rfl
theorem lo_32_15 (m : Nat) : la_R xs bc (m + 1) 32 i [.int (Int32.ofInt ((15 : Nat) : Int))] h = la_R xs bc m 641 i [] h := rfl
theorem lo_32_16 (m : Nat) : la_R xs bc (m + 1) 32 i [.int (Int32.ofInt ((16 : Nat) : Int))] h = la_R xs bc m 664 i [] h := rfl
theorem lo_32_17 (m : Nat) : la_R xs bc (m + 1) 32 i [.int (Int32.ofInt ((17 : Nat) : Int))] h = la_R xs bc m 677 i [] h := rfl
theorem lo_32_18 (m : Nat) : la_R xs bc (m + 1) 32 i [.int (Int32.ofInt ((18 : Nat) : Int))] h = la_R xs bc m 690 i [] h := rfl
theorem lo_32_19 (m : Nat) : la_R xs bc (m + 1) 32 i [.int (Int32.ofInt ((19 : Nat) : Int))] h = la_R xs bc m 713 i [] h := rfl
theorem lo_32_20 (m : Nat) : la_R xs bc (m + 1) 32 i [.int (Int32.ofInt ((20 : Nat) : Int))] h = la_R xs bc m 756 i [] h := rfl
theorem lo_32_21 (m : Nat) : la_R xs bc (m + 1) 32 i [.int (Int32.ofInt ((21 : Nat) : Int))] h = la_R xs bc m 769 i [] h := rfl
theorem lo_32_22 (m : Nat) : la_R xs bc (m + 1) 32 i [.int (Int32.ofInt ((22 : Nat) : Int))] h = la_R xs bc m 792 i [] h := rfl
theorem lo_32_23 (m : Nat) : la_R xs bc (m + 1) 32 i [.int (Int32.ofInt ((23 : Nat) : Int))] h = la_R xs bc m 825 i [] h := rfl
theorem lo_32_24 (m : Nat) : la_R xs bc (m + 1) 32 i [.int (Int32.ofInt ((24 : Nat) : Int))] h = la_R xs bc m 838 i [] h := rfl
theorem lo_32_25 (m : Nat) : la_R xs bc (m + 1) 32 i [.int (Int32.ofInt ((25 : Nat) : Int))] h = la_R xs bc m 861 i [] h := rfl
theorem lo_32_26 (m : Nat) : la_R xs bc (m + 1) 32 i [.int (Int32.ofInt ((26 : Nat) : Int))] h = la_R xs bc m 914 i [] h := rfl
theorem lo_32_27 (m : Nat) : la_R xs bc (m + 1) 32 i [.int (Int32.ofInt ((27 : Nat) : Int))] h = la_R xs bc m 957 i [] h := rfl
theorem lo_32_28 (m : Nat) : la_R xs bc (m + 1) 32 i [.int (Int32.ofInt ((28 : Nat) : Int))] h = la_R xs bc m 1000 i [] h := rfl
theorem lo_32_29 (m : Nat) : la_R xs bc (m + 1) 32 i [.int (Int32.ofInt ((29 : Nat) : Int))] h = la_R xs bc m 1033 i [] h := rfl
theorem lo_32_30 (m : Nat) : la_R xs bc (m + 1) 32 i [.int (Int32.ofInt ((30 : Nat) : Int))] h = la_R xs bc m 1056 i [] h := rfl
theorem lo_32_31 (m : Nat) : la_R xs bc (m + 1) 32 i [.int (Int32.ofInt ((31 : Nat) : Int))] h = la_R xs bc m 1079 i [] h := rfl
theorem lo_32_32 (m : Nat) : la_R xs bc (m + 1) 32 i [.int (Int32.ofInt ((32 : Nat) : Int))] h = la_R xs bc m 1112 i [] h := rfl
theorem lo_32_33 (m : Nat) : la_R xs bc (m + 1) 32 i [.int (Int32.ofInt ((33 : Nat) : Int))] h = la_R xs bc m 1135 i [] h := rfl
theorem lo_32_34 (m : Nat) : la_R xs bc (m + 1) 32 i [.int (Int32.ofInt ((34 : Nat) : Int))] h = la_R xs bc m 1158 i [] h := rfl
theorem lo_32_35 (m : Nat) : la_R xs bc (m + 1) 32 i [.int (Int32.ofInt ((35 : Nat) : Int))] h = la_R xs bc m 1201 i [] h := rfl
theorem lo_32_36 (m : Nat) : la_R xs bc (m + 1) 32 i [.int (Int32.ofInt ((36 : Nat) : Int))] h = la_R xs bc m 1244 i [] h := rfl
theorem lo_32_37 (m : Nat) : la_R xs bc (m + 1) 32 i [.int (Int32.ofInt ((37 : Nat) : Int))] h = la_R xs bc m 1297 i [] h := rfl
theorem lo_32_38 (m : Nat) : la_R xs bc (m + 1) 32 i [.int (Int32.ofInt ((38 : Nat) : Int))] h = la_R xs bc m 1310 i [] h := rfl
theorem lo_32_39 (m : Nat) : la_R xs bc (m + 1) 32 i [.int (Int32.ofInt ((39 : Nat) : Int))] h = la_R xs bc m 1333 i [] h := rfl
theorem lo_32_40 (m : Nat) : la_R xs bc (m + 1) 32 i [.int (Int32.ofInt ((40 : Nat) : Int))] h = la_R xs bc m 1333 i [] h := rfl
theorem lo_32_41 (m : Nat) : la_R xs bc (m + 1) 32 i [.int (Int32.ofInt ((41 : Nat) : Int))] h = la_R xs bc m 1333 i [] h := rfl
theorem lo_32_42 (m : Nat) : la_R xs bc (m + 1) 32 i [.int (Int32.ofInt ((42 : Nat) : Int))] h = la_R xs bc m 1333 i [] h := rfl
theorem lo_32_43 (m : Nat) : la_R xs bc (m + 1) 32 i [.int (Int32.ofInt ((43 : Nat) : Int))] h = la_R xs bc m 1333 i [] h := rfl
theorem lo_32_44 (m : Nat) : la_R xs bc (m + 1) 32 i [.int (Int32.ofInt ((44 : Nat) : Int))] h = la_R xs bc m 1333 i [] h := rfl
theorem lo_32_45 (m : Nat) : la_R xs bc (m + 1) 32 i [.int (Int32.ofInt ((45 : Nat) : Int))] h = la_R xs bc m 1333 i [] h := rfl
theorem lo_32_46 (m : Nat) : la_R xs bc (m + 1) 32 i [.int (Int32.ofInt ((46 : Nat) : Int))] h = la_R xs bc m 1333 i [] h := rfl
theorem lo_32_47 (m : Nat) : la_R xs bc (m + 1) 32 i [.int (Int32.ofInt ((47 : Nat) : Int))] h = la_R xs bc m 1333 i [] h := rfl
theorem lo_32_48 (m : Nat) : la_R xs bc (m + 1) 32 i [.int (Int32.ofInt ((48 : Nat) : Int))] h = la_R xs bc m 1333 i [] h := rfl
theorem lo_32_49 (m : Nat) : la_R xs bc (m + 1) 32 i [.int (Int32.ofInt ((49 : Nat) : Int))] h = la_R xs bc m 1333 i [] h := rfl
theorem lo_32_50 (m : Nat) : la_R xs bc (m + 1) 32 i [.int (Int32.ofInt ((50 : Nat) : Int))] h = la_R xs bc m 1333 i [] h := rfl
theorem lo_32_51 (m : Nat) : la_R xs bc (m + 1) 32 i [.int (Int32.ofInt ((51 : Nat) : Int))] h = la_R xs bc m 1333 i [] h := rfl
theorem lo_32_52 (m : Nat) : la_R xs bc (m + 1) 32 i [.int (Int32.ofInt ((52 : Nat) : Int))] h = la_R xs bc m 1333 i [] h := rfl
theorem lo_32_53 (m : Nat) : la_R xs bc (m + 1) 32 i [.int (Int32.ofInt ((53 : Nat) : Int))] h = la_R xs bc m 1333 i [] h := rfl
theorem lo_32_54 (m : Nat) : la_R xs bc (m + 1) 32 i [.int (Int32.ofInt ((54 : Nat) : Int))] h = la_R xs bc m 1333 i [] h := rfl
theorem lo_32_55 (m : Nat) : la_R xs bc (m + 1) 32 i [.int (Int32.ofInt ((55 : Nat) : Int))] h = la_R xs bc m 1333 i [] h := rfl
theorem lo_32_56 (m : Nat) : la_R xs bc (m + 1) 32 i [.int (Int32.ofInt ((56 : Nat) : Int))] h = la_R xs bc m 1333 i [] h := rfl
theorem lo_32_57 (m : Nat) : la_R xs bc (m + 1) 32 i [.int (Int32.ofInt ((57 : Nat) : Int))] h = la_R xs bc m 1333 i [] h := rfl
theorem lo_32_58 (m : Nat) : la_R xs bc (m + 1) 32 i [.int (Int32.ofInt ((58 : Nat) : Int))] h = la_R xs bc m 1333 i [] h := rfl
theorem lo_32_59 (m : Nat) : la_R xs bc (m + 1) 32 i [.int (Int32.ofInt ((59 : Nat) : Int))] h = la_R xs bc m 1333 i [] h := rfl
theorem lo_32_60 (m : Nat) : la_R xs bc (m + 1) 32 i [.int (Int32.ofInt ((60 : Nat) : Int))] h = la_R xs bc m 1333 i [] h := rfl
theorem lo_32_61 (m : Nat) : la_R xs bc (m + 1) 32 i [.int (Int32.ofInt ((61 : Nat) : Int))] h = la_R xs bc m 1333 i [] h := rfl
theorem lo_32_62 (m : Nat) : la_R xs bc (m + 1) 32 i [.int (Int32.ofInt ((62 : Nat) : Int))] h = la_R xs bc m 1333 i [] h := rfl
theorem lo_32_63 (m : Nat) : la_R xs bc (m + 1) 32 i [.int (Int32.ofInt ((63 : Nat) : Int))] h = la_R xs bc m 1333 i [] h := rfl
end Loop
theorem lo_end {xs : List Int32} {bc : Nat → List Value → pm_H → pm_R} {h : pm_H} (hL : xs.length ≤ 320) {j : Nat} (hj : 5 * j ≤ 320) (hend : xs.length < 5 * j + 5) (m : Nat) : la_R xs bc (m + 2 + 1 + 5) 18 (Int32.ofNat (5 * j)) [] h = some (some (.int 1), h) := by
  rw [lo_18, lo_23]
  have e1 : (Int32.ofNat (5 * j)).toInt = ((5 * j : Nat) : Int) := Int32.toInt_ofNat_of_lt (by omega)
  have hlt : Int32.ofNat xs.length - Int32.ofInt 5 < Int32.ofNat (5 * j) := by
    rw [Int32.lt_iff_toInt_lt, lo_sub hL, e1]
    omega
  rw [if_pos hlt]
  exact lo_1339 _ _ _ _ _
theorem lo_go {xs : List Int32} {bc : Nat → List Value → pm_H → pm_R} {h : pm_H} (hL : xs.length ≤ 320) {j : Nat} (hj : 5 * j ≤ 320) (hend : ¬ xs.length < 5 * j + 5) (m : Nat) : la_R xs bc (m + 1 + 5) 18 (Int32.ofNat (5 * j)) [] h = la_R xs bc m 26 (Int32.ofNat (5 * j)) [] h := by
  rw [lo_18, lo_23]
  have e1 : (Int32.ofNat (5 * j)).toInt = ((5 * j : Nat) : Int) := Int32.toInt_ofNat_of_lt (by omega)
  have hlt : ¬ Int32.ofNat xs.length - Int32.ofInt 5 < Int32.ofNat (5 * j) := by
    rw [Int32.lt_iff_toInt_lt, lo_sub hL, e1]
    omega
  rw [if_neg hlt]
set_option maxHeartbeats 4000000 in
theorem lo_ok {xs : List Int32} (hL : xs.length ≤ 320) : ∀ (k j : Nat) (g : qM) (u : qW), w_R g → xs.length < 5 * j + 5 * k + 5 → j + k ≤ 64 → la_G xs 18 (Int32.ofNat (5 * j)) [] g u := by
  intro k
  induction k with
  | zero =>
    intro j g u hh hlen hjk
    refine ⟨8, fun N d n h1 h2 h3 h hr => ?_⟩
    obtain ⟨m, rfl⟩ : ∃ m, n = m + 2 + 1 + 5 := ⟨n - 8, by omega⟩
    exact ⟨h, lo_end hL (by omega) (by omega) m⟩
  | succ k ih =>
    intro j g u hh hlen hjk
    by_cases hend : xs.length < 5 * j + 5
    · refine ⟨8, fun N d n h1 h2 h3 h hr => ?_⟩
      obtain ⟨m, rfl⟩ : ∃ m, n = m + 2 + 1 + 5 := ⟨n - 8, by omega⟩
      exact ⟨h, lo_end hL (by omega) hend m⟩
    · refine la_go 6 (fun bc m h => lo_go hL (by omega) hend m) ?_
      have e1 : (Int32.ofNat (5 * j)).toInt = ((5 * j : Nat) : Int) := Int32.toInt_ofNat_of_lt (by omega)
      have tail : ∀ g' u', w_R g' → la_G xs 1333 (Int32.ofNat (5 * j)) [] g' u' := by
        intro g' u' h'
        refine la_go 2 (fun bc m h => lo_1333 xs bc _ h m) ?_
        rw [(lo_add lo_k5 (p := 5 * j) (by omega)).2.2, show 5 * j + 5 = 5 * (j + 1) by omega]
        exact ih (j + 1) g' u' h' (by omega) (by omega)
      obtain ⟨x0, hx0⟩ : ∃ x, xs[5 * j]? = some x := ⟨_, List.getElem?_eq_getElem (by omega)⟩
      obtain ⟨x1, hx1⟩ : ∃ x, xs[5 * j + 1]? = some x := ⟨_, List.getElem?_eq_getElem (by omega)⟩
      obtain ⟨x2, hx2⟩ : ∃ x, xs[5 * j + 2]? = some x := ⟨_, List.getElem?_eq_getElem (by omega)⟩
      obtain ⟨x3, hx3⟩ : ∃ x, xs[5 * j + 3]? = some x := ⟨_, List.getElem?_eq_getElem (by omega)⟩
      obtain ⟨x4, hx4⟩ : ∃ x, xs[5 * j + 4]? = some x := ⟨_, List.getElem?_eq_getElem (by omega)⟩
      have z1 : (Int32.ofNat (5 * j)).toNatClampNeg = 5 * j := by
        show (Int32.ofNat (5 * j)).toInt.toNat = 5 * j
        rw [e1]
        omega
      have z0 : ¬ Int32.ofNat (5 * j) < 0 := by
        intro q
        have q1 := Int32.lt_iff_toInt_lt.mp q
        rw [e1] at q1
        have z : (0 : Int32).toInt = 0 := rfl
        omega
      have n1 := (lo_add lo_k1 (p := 5 * j) (by omega)).1
      have e1 : xs[(Int32.ofNat (5 * j) + Int32.ofInt 1).toNatClampNeg]? = some x1 := by
        rw [(lo_add lo_k1 (p := 5 * j) (by omega)).2.1]
        exact hx1
      have n2 := (lo_add lo_k2 (p := 5 * j) (by omega)).1
      have e2 : xs[(Int32.ofNat (5 * j) + Int32.ofInt 2).toNatClampNeg]? = some x2 := by
        rw [(lo_add lo_k2 (p := 5 * j) (by omega)).2.1]
        exact hx2
      have n3 := (lo_add lo_k3 (p := 5 * j) (by omega)).1
      have e3 : xs[(Int32.ofNat (5 * j) + Int32.ofInt 3).toNatClampNeg]? = some x3 := by
        rw [(lo_add lo_k3 (p := 5 * j) (by omega)).2.1]
        exact hx3
      have n4 := (lo_add lo_k4 (p := 5 * j) (by omega)).1
      have e4 : xs[(Int32.ofNat (5 * j) + Int32.ofInt 4).toNatClampNeg]? = some x4 := by
        rw [(lo_add lo_k4 (p := 5 * j) (by omega)).2.1]
        exact hx4
      refine la_go 2 (fun bc m h => lo_26 xs bc _ h m) ?_
      refine la_go 1 (fun bc m h => la_arg (p := 28) (a := 0) (b := 0) (z := 0) (x := x0) rfl z0 (by rw [z1]; exact hx0)) ?_
      refine la_go 2 (fun bc m h => lo_29 xs bc _ h x0 m) ?_
      obtain ⟨t, ht, et⟩ := lo_and x0
      rw [et]
      clear et z1 z0 hend
      match t, ht with
      | 0, _ => exact la_go 1 (fun bc m h => lo_32_0 xs bc _ h m) (lz_0 hh n1 e1 tail)
      | 1, _ => exact la_go 1 (fun bc m h => lo_32_1 xs bc _ h m) (lz_1 hh n1 e1 tail)
      | 2, _ => exact la_go 1 (fun bc m h => lo_32_2 xs bc _ h m) (lz_2 hh tail)
      | 3, _ => exact la_go 1 (fun bc m h => lo_32_3 xs bc _ h m) (lz_3 hh tail)
      | 4, _ => exact la_go 1 (fun bc m h => lo_32_4 xs bc _ h m) (lz_4 hh n1 e1 tail)
      | 5, _ => exact la_go 1 (fun bc m h => lo_32_5 xs bc _ h m) (lz_5 hh n1 e1 n2 e2 tail)
      | 6, _ => exact la_go 1 (fun bc m h => lo_32_6 xs bc _ h m) (lz_6 hh n1 e1 tail)
      | 7, _ => exact la_go 1 (fun bc m h => lo_32_7 xs bc _ h m) (lz_7 hh n1 e1 n2 e2 tail)
      | 8, _ => exact la_go 1 (fun bc m h => lo_32_8 xs bc _ h m) (lz_8 hh n1 e1 n2 e2 tail)
      | 9, _ => exact la_go 1 (fun bc m h => lo_32_9 xs bc _ h m) (lz_9 hh n1 e1 n2 e2 tail)
      | 10, _ => exact la_go 1 (fun bc m h => lo_32_10 xs bc _ h m) (lz_10 hh n1 e1 n2 e2 tail)
      | 11, _ => exact la_go 1 (fun bc m h => lo_32_11 xs bc _ h m) (lz_11 hh n1 e1 n2 e2 tail)
      | 12, _ => exact la_go 1 (fun bc m h => lo_32_12 xs bc _ h m) (lz_12 hh n1 e1 n2 e2 tail)
      | 13, _ => exact la_go 1 (fun bc m h => lo_32_13 xs bc _ h m) (lz_13 hh n1 e1 tail)
      | 14, _ => exact la_go 1 (fun bc m h => lo_32_14 xs bc _ h m) (lz_14 hh n1 e1 n2 e2 tail)
      | 15, _ => exact la_go 1 (fun bc m h => lo_32_15 xs bc _ h m) (lz_15 hh n1 e1 tail)
      | 16, _ => exact la_go 1 (fun bc m h => lo_32_16 xs bc _ h m) (lz_16 hh tail)
      | 17, _ => exact la_go 1 (fun bc m h => lo_32_17 xs bc _ h m) (lz_17 hh tail)
      | 18, _ => exact la_go 1 (fun bc m h => lo_32_18 xs bc _ h m) (lz_18 hh n1 e1 tail)
      | 19, _ => exact la_go 1 (fun bc m h => lo_32_19 xs bc _ h m) (lz_19 hh n1 e1 n2 e2 n3 e3 tail)
      | 20, _ => exact la_go 1 (fun bc m h => lo_32_20 xs bc _ h m) (lz_20 hh tail)
      | 21, _ => exact la_go 1 (fun bc m h => lo_32_21 xs bc _ h m) (lz_21 hh n1 e1 tail)
      | 22, _ => exact la_go 1 (fun bc m h => lo_32_22 xs bc _ h m) (lz_22 hh n1 e1 n2 e2 tail)
      | 23, _ => exact la_go 1 (fun bc m h => lo_32_23 xs bc _ h m) (lz_23 hh tail)
      | 24, _ => exact la_go 1 (fun bc m h => lo_32_24 xs bc _ h m) (lz_24 hh n1 e1 tail)
      | 25, _ => exact la_go 1 (fun bc m h => lo_32_25 xs bc _ h m) (lz_25 hh n1 e1 n2 e2 n3 e3 n4 e4 tail)
      | 26, _ => exact la_go 1 (fun bc m h => lo_32_26 xs bc _ h m) (lz_26 hh n1 e1 n2 e2 n3 e3 tail)
      | 27, _ => exact la_go 1 (fun bc m h => lo_32_27 xs bc _ h m) (lz_27 hh n1 e1 n2 e2 n3 e3 tail)
      | 28, _ => exact la_go 1 (fun bc m h => lo_32_28 xs bc _ h m) (lz_28 hh n1 e1 n2 e2 tail)
      | 29, _ => exact la_go 1 (fun bc m h => lo_32_29 xs bc _ h m) (lz_29 hh n1 e1 tail)
      | 30, _ => exact la_go 1 (fun bc m h => lo_32_30 xs bc _ h m) (lz_30 hh n1 e1 tail)
      | 31, _ => exact la_go 1 (fun bc m h => lo_32_31 xs bc _ h m) (lz_31 hh n1 e1 n2 e2 tail)
      | 32, _ => exact la_go 1 (fun bc m h => lo_32_32 xs bc _ h m) (lz_32 hh n1 e1 tail)
      | 33, _ => exact la_go 1 (fun bc m h => lo_32_33 xs bc _ h m) (lz_33 hh n1 e1 tail)
      | 34, _ => exact la_go 1 (fun bc m h => lo_32_34 xs bc _ h m) (lz_34 hh n1 e1 n2 e2 n3 e3 tail)
      | 35, _ => exact la_go 1 (fun bc m h => lo_32_35 xs bc _ h m) (lz_35 hh n1 e1 n2 e2 n3 e3 tail)
      | 36, _ => exact la_go 1 (fun bc m h => lo_32_36 xs bc _ h m) (lz_36 hh n1 e1 n2 e2 n3 e3 n4 e4 tail)
      | 37, _ => exact la_go 1 (fun bc m h => lo_32_37 xs bc _ h m) (lz_37 hh tail)
      | 38, _ => exact la_go 1 (fun bc m h => lo_32_38 xs bc _ h m) (lz_38 hh n1 e1 tail)
      | 39, _ => exact la_go 1 (fun bc m h => lo_32_39 xs bc _ h m) (tail g u hh)
      | 40, _ => exact la_go 1 (fun bc m h => lo_32_40 xs bc _ h m) (tail g u hh)
      | 41, _ => exact la_go 1 (fun bc m h => lo_32_41 xs bc _ h m) (tail g u hh)
      | 42, _ => exact la_go 1 (fun bc m h => lo_32_42 xs bc _ h m) (tail g u hh)
      | 43, _ => exact la_go 1 (fun bc m h => lo_32_43 xs bc _ h m) (tail g u hh)
      | 44, _ => exact la_go 1 (fun bc m h => lo_32_44 xs bc _ h m) (tail g u hh)
      | 45, _ => exact la_go 1 (fun bc m h => lo_32_45 xs bc _ h m) (tail g u hh)
      | 46, _ => exact la_go 1 (fun bc m h => lo_32_46 xs bc _ h m) (tail g u hh)
      | 47, _ => exact la_go 1 (fun bc m h => lo_32_47 xs bc _ h m) (tail g u hh)
      | 48, _ => exact la_go 1 (fun bc m h => lo_32_48 xs bc _ h m) (tail g u hh)
      | 49, _ => exact la_go 1 (fun bc m h => lo_32_49 xs bc _ h m) (tail g u hh)
      | 50, _ => exact la_go 1 (fun bc m h => lo_32_50 xs bc _ h m) (tail g u hh)
      | 51, _ => exact la_go 1 (fun bc m h => lo_32_51 xs bc _ h m) (tail g u hh)
      | 52, _ => exact la_go 1 (fun bc m h => lo_32_52 xs bc _ h m) (tail g u hh)
      | 53, _ => exact la_go 1 (fun bc m h => lo_32_53 xs bc _ h m) (tail g u hh)
      | 54, _ => exact la_go 1 (fun bc m h => lo_32_54 xs bc _ h m) (tail g u hh)
      | 55, _ => exact la_go 1 (fun bc m h => lo_32_55 xs bc _ h m) (tail g u hh)
      | 56, _ => exact la_go 1 (fun bc m h => lo_32_56 xs bc _ h m) (tail g u hh)
      | 57, _ => exact la_go 1 (fun bc m h => lo_32_57 xs bc _ h m) (tail g u hh)
      | 58, _ => exact la_go 1 (fun bc m h => lo_32_58 xs bc _ h m) (tail g u hh)
      | 59, _ => exact la_go 1 (fun bc m h => lo_32_59 xs bc _ h m) (tail g u hh)
      | 60, _ => exact la_go 1 (fun bc m h => lo_32_60 xs bc _ h m) (tail g u hh)
      | 61, _ => exact la_go 1 (fun bc m h => lo_32_61 xs bc _ h m) (tail g u hh)
      | 62, _ => exact la_go 1 (fun bc m h => lo_32_62 xs bc _ h m) (tail g u hh)
      | 63, _ => exact la_go 1 (fun bc m h => lo_32_63 xs bc _ h m) (tail g u hh)
      | t + 64, ht => exact absurd ht (by omega)
end
section
/-! THE START. -/
theorem leZ_eq (a b : Int) : leZ a b = decide (a ≤ b) := by
  cases h : leZ a b with
  | true => exact (decide_eq_true (leZ_ok h)).symm
  | false =>
    symm
    apply decide_eq_false
    intro hab
    unfold leZ at h
    split at h
    · rename_i x y
      have h1 : x ≤ y := Int.ofNat_le.mp hab
      rw [Nat.ble_eq_true_of_le h1] at h
      cases h
    · cases h
    · rename_i x y
      have h1 := Int.negSucc_lt_zero y
      have h2 : (0 : Int) ≤ Int.ofNat x := Int.natCast_nonneg x
      omega
    · rename_i x y
      have h1 : y ≤ x := by
        rw [Int.negSucc_eq, Int.negSucc_eq] at hab
        omega
      rw [Nat.ble_eq_true_of_le h1] at h
      cases h
def st_L : am_L := [(0, .inr (.inr (some 0))), (1, .inr (.inr (some 8))), (2, .inr (.inr (some 70))), (3, .inl (.ofNat 0, .ofNat 0))]
noncomputable def st_k : am_K := fun pc lv st h c sl => match Nat.beq pc 18 && (leL leQ lv st_L && (List.isEmpty st && (leH h (80, []) && (Nat.beq c 80 && Nat.beq sl 1467)))) with
  | true => some vm_mark
  | false => none
def st_c (R : Option am_V × am_H) : Bool := match R.1 with
  | some (.inl b) => !(leZ b.1 b.2)
  | _ => false
theorem st_no {R : Option am_V × am_H} {r : Option Value × pm_H} (h : st_c R = true) (hr : am_r R r) : False := by
  obtain ⟨v, hp⟩ := R
  unfold st_c at h
  split at h
  · rename_i b hb
    have ho : am_o v r.1 := hr.1
    have hb : v = some (.inl b) := hb
    subst hb
    obtain ⟨w, hq⟩ := r
    match w, ho with
    | some (.int x), ho =>
      have hx : am_i b x := ho
      rw [leZ_eq, decide_eq_true (Int.le_trans hx.1 hx.2)] at h
      cases h
    | some (.long _), ho => exact ho.elim
    | some (.float _), ho => exact ho.elim
    | some (.double _), ho => exact ho.elim
    | some .null, ho => exact ho.elim
    | some (.ref _), ho => exact ho.elim
    | some (.retAddr _), ho => exact ho.elim
    | none, ho => exact ho.elim
  · cases h

noncomputable def st_B : am_B := fun M as h => (am_big none pm_m 20000 12 M as h).map (fun r => [r])
theorem st_run : (match am_run none pm_m st_B m_0 st_k 10 0 [(0, .inr (.inr (some 0)))] [] (0, []) 0 0 with
  | some R => st_c R
  | none => false) = true := by decide +kernel
theorem st_rv {n : Nat} {v : Value} (h : am_v (.inr (.inr (some n))) v) : v = .ref n := by
  cases v with
  | ref z =>
    have e : n = z := h
    rw [e]
  | _ => exact h.elim
theorem st_iv {v : Value} (h : am_v (.inl (.ofNat 0, .ofNat 0)) v) : v = .int (Int32.ofNat (5 * 0)) := by
  cases v with
  | int x =>
    have e : x = Int32.ofInt (.ofNat 0) := am_i.of (a := (.ofNat 0, .ofNat 0)) h rfl
    rw [e]
    rfl
  | _ => exact h.elim
theorem st_lv : ∀ {lv : pm_L}, am_all am_q [(0, .inr (.inr (some 0))), (1, .inr (.inr (some 8))), (2, .inr (.inr (some 70))), (3, .inl (.ofNat 0, .ofNat 0))] lv → lv = la_L (Int32.ofNat (5 * 0))
  | [(a0, v0), (a1, v1), (a2, v2), (a3, v3)], h => by
    obtain ⟨⟨e0, w0⟩, ⟨e1, w1⟩, ⟨e2, w2⟩, ⟨e3, w3⟩, -⟩ := h
    have e0 : 0 = a0 := e0
    have e1 : 1 = a1 := e1
    have e2 : 2 = a2 := e2
    have e3 : 3 = a3 := e3
    subst e0 e1 e2 e3
    obtain rfl := st_rv w0
    obtain rfl := st_rv w1
    obtain rfl := st_rv w2
    obtain rfl := st_iv w3
    rfl
  | [], h => h.elim
  | [_], h => h.2.elim
  | [_, _], h => h.2.2.elim
  | [_, _, _], h => h.2.2.2.elim
  | _ :: _ :: _ :: _ :: _ :: _, h => h.2.2.2.2.elim
theorem am_h0 : am_h (0, []) [] := ⟨rfl, fun i C h => by unfold am_g at h; simp at h⟩
theorem st_all (xs : List Int32) (hL : xs.length ≤ 320) : ∃ N d n h1, pm_run xs pm_m (pm_big xs pm_m N d) m_0 n 0 [(0, .ref 0)] [] [] 0 0 = some (some (.int 1), h1) := by
  obtain ⟨F, hF⟩ := lo_ok hL 64 0 fr_g fr_u fr_R (by omega) (by omega)
  refine ⟨F + 20000, F + 12, F + 10, ?_⟩
  have hcap : am_S (fun R r => am_r R r ∨ r.1 = some (.int 1)) st_k (pm_run xs pm_m (pm_big xs pm_m (F + 20000) (F + 12)) m_0 F) := by
    intro pc lva sta ha c sl R hk lv st h hl hs hh
    unfold st_k at hk
    split at hk
    · rename_i hb
      simp only [Bool.and_eq_true] at hb
      obtain ⟨b1, b2, b3, b4, b5, b6⟩ := hb
      obtain rfl : pc = 18 := Nat.eq_of_beq_eq_true b1
      obtain rfl : c = 80 := Nat.eq_of_beq_eq_true b5
      obtain rfl : sl = 1467 := Nat.eq_of_beq_eq_true b6
      have q1 := st_lv (leL_ok (R := am_q) (fun _ _ _ => leQ_ok) b2 hl)
      subst q1
      have q2 : sta = [] := List.isEmpty_iff.mp b3
      subst q2
      have q3 : st = [] := by
        cases st with
        | nil => rfl
        | cons a l => exact hs.elim
      subst q3
      obtain ⟨h', hr⟩ := hF (F + 20000) (F + 12) F (by omega) (by omega) (Nat.le_refl _) h (fr_rep (leH_ok b4 hh))
      exact ⟨_, hr, Or.inr rfl⟩
    · cases hk
  have hS := at_run (Pr := fun R r => am_r R r ∨ r.1 = some (.int 1)) (xa := none) (xs := xs) (tab := pm_m) (mm := m_0) (ba := st_B) (bc := pm_big xs pm_m (F + 20000) (F + 12)) (fun _ q => by cases q) (fun _ _ h => Or.inl h) (fun M2 as h Rs q cs hc a1 a2 => by
    unfold st_B at q
    cases hb : am_big none pm_m 20000 12 M2 as h with
    | none => rw [hb] at q; cases q
    | some R =>
      rw [hb] at q
      cases q
      obtain ⟨r, g1, g2⟩ := at_bigm (xs := xs) (tab := pm_m) 20000 F 12 F M2 as h R hb cs hc a1 a2
      exact ⟨r, g1, R, List.mem_singleton.mpr rfl, g2⟩) (ka := st_k) (kc := pm_run xs pm_m (pm_big xs pm_m (F + 20000) (F + 12)) m_0 F) hcap 10
  rw [pm_runK_eq] at hS
  have hf := st_run
  split at hf
  · rename_i R heq
    obtain ⟨⟨v, h1⟩, hr, ho⟩ := hS _ _ _ _ _ _ _ heq [(0, .ref 0)] [] [] ⟨⟨rfl, rfl⟩, trivial⟩ trivial am_h0
    rcases ho with ho | ho
    · exact (st_no hf ho).elim
    · have ho : v = some (.int 1) := ho
      subst ho
      exact ⟨h1, hr⟩
  · cases hf
end
