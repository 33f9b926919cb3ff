/-! THE LAW, call by call. -/
def la_L (i : Int32) : pm_L := [(0, .ref 0), (1, .ref 8), (2, .ref 70), (3, .int i)]
noncomputable def la_R (xs : List Int32) (bc : Nat → List Value → pm_H → pm_R) (n pc : Nat) (i : Int32) (st : List Value) (h : pm_H) : pm_R := pm_run xs pm_m bc m_0 n pc (la_L i) st h 80 1467
section Law
variable {xs : List Int32} {bc : Nat → List Value → pm_H → pm_R} {i : Int32}
theorem la_arg {n p : Nat} {j x : Int32} {st : List Value} {h : pm_H} {a b : Nat} {z : Int} (he : pm_at m_0 p = some (.iaload, a, b, z)) (hj : ¬ j < 0) (hx : xs[j.toNatClampNeg]? = some x) : la_R xs bc (n + 1) p i (.int j :: .ref 0 :: st) h = la_R xs bc n (p + 1) i (.int x :: st) h := by
  show (match pm_at m_0 p with
    | some e => pm_step xs pm_m bc m_0 (pm_run xs pm_m bc m_0 n) e p (la_L i) (.int j :: .ref 0 :: st) h 80 1467
    | none => none) = _
  rw [he]
  show pm_iald (pm_run xs pm_m bc m_0 n) xs p (la_L i) (.int j :: .ref 0 :: st) h 80 1467 = _
  unfold pm_iald
  dsimp only
  rw [if_neg hj, if_pos rfl, hx]
  rfl
theorem la_call {n p k M2 a ix : Nat} {z : Int} {m2 : pm_M} {st as rest : List Value} {h h' : pm_H} {v : Value} (he : pm_at m_0 p = some (.invokevirtual ix, M2, 0, z)) (hm : pm_m M2 = some m2) (hk : pm_n m2 = k) (hlen : k ≤ st.length) (hst : (st.take k).reverse = .ref a :: as) (hrest : st.drop k = rest) (hcell : ∃ gs, pm_cell h a = some (.inr (.inr (.inr (pm_o m2, gs))))) (hc : pm_c m2 = 0) (hs : pm_s m2 = 0) (hsum : (rest.map Value.category).sum ≤ 8) (hb : bc M2 (.ref a :: as) h = some (some v, h')) : la_R xs bc (n + 1) p i st h = la_R xs bc n (p + 3) i (v :: rest) h' := by
  show (match pm_at m_0 p with
    | some e => pm_step xs pm_m bc m_0 (pm_run xs pm_m bc m_0 n) e p (la_L i) st h 80 1467
    | none => none) = _
  rw [he]
  show (if (0 : Nat) = 0 then pm_inv (pm_run xs pm_m bc m_0 n) pm_m bc m_0 M2 p (la_L i) st h 80 1467 else none) = _
  rw [if_pos rfl]
  unfold pm_inv
  rw [hm]
  dsimp only
  obtain ⟨gs, hcell⟩ := hcell
  rw [hk, if_pos hlen, hst]
  dsimp only
  rw [hcell]
  dsimp only
  rw [if_pos rfl]
  unfold pm_call
  rw [hrest, hc, hs, if_pos hsum, if_pos (show 80 + 0 ≤ pm_c m_0 by decide), if_pos (show 1467 + 0 ≤ pm_s m_0 by decide), hb]
  rfl
end Law
/-- from here the law comes to its end and answers 1, with steps and depth enough -/
def la_G (xs : List Int32) (pc : Nat) (i : Int32) (st : List Value) (g : qM) (u : qW) : Prop := ∃ F, ∀ N d n, F ≤ N → F ≤ d → F ≤ n → ∀ h, q_rep g u h → ∃ h', la_R xs (pm_big xs pm_m N d) n pc i st h = some (some (.int 1), h')
theorem la_go {xs : List Int32} {pc pc' : Nat} {i i' : Int32} {st st' : List Value} {g : qM} {u : qW} (k : Nat) (e : ∀ (bc : Nat → List Value → pm_H → pm_R) (n : Nat) (h : pm_H), la_R xs bc (n + k) pc i st h = la_R xs bc n pc' i' st' h) (hG : la_G xs pc' i' st' g u) : la_G xs pc i st g u := by
  obtain ⟨F, hF⟩ := hG
  refine ⟨F + k, fun N d n h1 h2 h3 h hr => ?_⟩
  obtain ⟨n', rfl⟩ : ∃ n', n = n' + k := ⟨n - k, by omega⟩
  rw [e]
  exact hF N d n' (by omega) (by omega) (by omega) h hr
theorem la_inv {xs : List Int32} {p : Nat} {i : Int32} {g g' : qM} {u u' : qW} {k M2 a ix : Nat} {z : Int} {m2 : pm_M} {st as rest : List Value} {v : Value} (he : pm_at m_0 p = some (.invokevirtual ix, M2, 0, z)) (hm : pm_m M2 = some m2) (hk : pm_n m2 = k) (hlen : k ≤ st.length) (hst : (st.take k).reverse = .ref a :: as) (hrest : st.drop k = rest) (hcell : ∃ gs, q_cel g u a = some (.inr (.inr (.inr (pm_o m2, gs))))) (hc : pm_c m2 = 0) (hs : pm_s m2 = 0) (hsum : (rest.map Value.category).sum ≤ 8) (hb : q_BS M2 (.ref a :: as) g u (some v, g', u')) (hG : la_G xs (p + 3) i (v :: rest) g' u') : la_G xs p i st g u := by
  obtain ⟨F, hF⟩ := hG
  obtain ⟨F2, hF2⟩ := hb
  refine ⟨F + F2 + 1, fun N d n h1 h2 h3 h hr => ?_⟩
  obtain ⟨n', rfl⟩ : ∃ n', n = n' + 1 := ⟨n - 1, by omega⟩
  obtain ⟨h', e, hr'⟩ := qs_big (xs := xs) (tab := pm_m) (N := N) d M2 (.ref a :: as) g u h (some v, g', u') hr (hF2 N d (by omega) (by omega))
  obtain ⟨gs, hce⟩ := hcell
  rw [la_call he hm hk hlen hst hrest ⟨gs, (hr a).trans hce⟩ hc hs hsum e]
  exact hF N d n' (by omega) (by omega) (by omega) h' hr'
theorem la_if {xs : List Int32} {p t a b : Nat} {z off : Int} {i x : Int32} {st : List Value} {bc : Nat → List Value → pm_H → pm_R} {n : Nat} {h : pm_H} (he : pm_at m_0 p = some (.ifCond .eq off, t, b, z)) : la_R xs bc (n + 1) p i (.int x :: st) h = if x = 0 then la_R xs bc n t i st h else la_R xs bc n (p + 3) i st h := by
  show (match pm_at m_0 p with
    | some e => pm_step xs pm_m bc m_0 (pm_run xs pm_m bc m_0 n) e p (la_L i) (.int x :: st) h 80 1467
    | none => none) = _
  rw [he]
  rfl
theorem lg_self (v : Int64) : lg_cmp v v = 0 := by
  unfold lg_cmp
  simp
theorem lq_1 (xs : List Int32) (i : Int32) (bc : Nat → List Value → pm_H → pm_R) (n : Nat) (h : pm_H) : la_R xs bc (n + 5) 204 i [] h = la_R xs bc n 209 i [.int (i + Int32.ofInt 1), .ref 0, .ref 8] h := rfl
theorem lq_2 (xs : List Int32) (i : Int32) (v : Int32) (bc : Nat → List Value → pm_H → pm_R) (n : Nat) (h : pm_H) : la_R xs bc (n + 6) 213 i [.int v] h = la_R xs bc n 219 i [.int (i + Int32.ofInt 1), .ref 0, .ref 70] h := rfl
theorem lq_3 (xs : List Int32) (i : Int32) (v : Int32) (bc : Nat → List Value → pm_H → pm_R) (n : Nat) (h : pm_H) : la_R xs bc (n + 2) 223 i [.int v] h = la_R xs bc n 1333 i [] h := rfl
theorem lz_0 {xs : List Int32} {i : Int32} {g : qM} {u : qW} (h : w_R g) {x1 : Int32} (n1 : ¬ i + Int32.ofInt 1 < 0) (e1 : xs[(i + Int32.ofInt 1).toNatClampNeg]? = some x1) (tail : ∀ g' u', w_R g' → la_G xs 1333 i [] g' u') : la_G xs 204 i [] g u := by
  obtain ⟨v, g1, u1, g2, u2, q1, q2, hr⟩ := pr_feed x1 g u h
  refine la_go 5 (lq_1 xs i) ?_
  refine la_go 1 (fun _ _ _ => la_arg rfl n1 e1) ?_
  refine la_inv (rest := []) rfl rfl rfl (Nat.le_of_ble_eq_true rfl) rfl rfl ⟨_, rfl⟩ rfl rfl (Nat.le_of_ble_eq_true rfl) q1 ?_
  refine la_go 6 (lq_2 xs i v) ?_
  refine la_go 1 (fun _ _ _ => la_arg rfl n1 e1) ?_
  refine la_inv (rest := []) rfl rfl rfl (Nat.le_of_ble_eq_true rfl) rfl rfl ⟨_, rfl⟩ rfl rfl (Nat.le_of_ble_eq_true rfl) q2 ?_
  refine la_go 2 (lq_3 xs i v) ?_
  exact tail _ _ hr
theorem lq_4 (xs : List Int32) (i : Int32) (bc : Nat → List Value → pm_H → pm_R) (n : Nat) (h : pm_H) : la_R xs bc (n + 5) 227 i [] h = la_R xs bc n 232 i [.int (i + Int32.ofInt 1), .ref 0, .ref 8] h := rfl
theorem lq_5 (xs : List Int32) (i : Int32) (v : Int32) (bc : Nat → List Value → pm_H → pm_R) (n : Nat) (h : pm_H) : la_R xs bc (n + 6) 236 i [.int v] h = la_R xs bc n 242 i [.int (i + Int32.ofInt 1), .ref 0, .ref 70] h := rfl
theorem lq_6 (xs : List Int32) (i : Int32) (v : Int32) (bc : Nat → List Value → pm_H → pm_R) (n : Nat) (h : pm_H) : la_R xs bc (n + 2) 246 i [.int v] h = la_R xs bc n 1333 i [] h := rfl
theorem lz_1 {xs : List Int32} {i : Int32} {g : qM} {u : qW} (h : w_R g) {x1 : Int32} (n1 : ¬ i + Int32.ofInt 1 < 0) (e1 : xs[(i + Int32.ofInt 1).toNatClampNeg]? = some x1) (tail : ∀ g' u', w_R g' → la_G xs 1333 i [] g' u') : la_G xs 227 i [] g u := by
  obtain ⟨v, g1, u1, g2, u2, q1, q2, hr⟩ := pr_end x1 g u h
  refine la_go 5 (lq_4 xs i) ?_
  refine la_go 1 (fun _ _ _ => la_arg rfl n1 e1) ?_
  refine la_inv (rest := []) rfl rfl rfl (Nat.le_of_ble_eq_true rfl) rfl rfl ⟨_, rfl⟩ rfl rfl (Nat.le_of_ble_eq_true rfl) q1 ?_
  refine la_go 6 (lq_5 xs i v) ?_
  refine la_go 1 (fun _ _ _ => la_arg rfl n1 e1) ?_
  refine la_inv (rest := []) rfl rfl rfl (Nat.le_of_ble_eq_true rfl) rfl rfl ⟨_, rfl⟩ rfl rfl (Nat.le_of_ble_eq_true rfl) q2 ?_
  refine la_go 2 (lq_6 xs i v) ?_
  exact tail _ _ hr
theorem lq_7 (xs : List Int32) (i : Int32) (bc : Nat → List Value → pm_H → pm_R) (n : Nat) (h : pm_H) : la_R xs bc (n + 1) 250 i [] h = la_R xs bc n 251 i [.ref 8] h := rfl
theorem lq_8 (xs : List Int32) (i : Int32) (v : Int32) (bc : Nat → List Value → pm_H → pm_R) (n : Nat) (h : pm_H) : la_R xs bc (n + 2) 254 i [.int v] h = la_R xs bc n 256 i [.ref 70] h := rfl
theorem lq_9 (xs : List Int32) (i : Int32) (v : Int32) (bc : Nat → List Value → pm_H → pm_R) (n : Nat) (h : pm_H) : la_R xs bc (n + 2) 259 i [.int v] h = la_R xs bc n 1333 i [] h := rfl
theorem lz_2 {xs : List Int32} {i : Int32} {g : qM} {u : qW} (h : w_R g) (tail : ∀ g' u', w_R g' → la_G xs 1333 i [] g' u') : la_G xs 250 i [] g u := by
  obtain ⟨v, g1, u1, g2, u2, q1, q2, hr⟩ := pr_text g u h
  refine la_go 1 (lq_7 xs i) ?_
  refine la_inv (rest := []) rfl rfl rfl (Nat.le_of_ble_eq_true rfl) rfl rfl ⟨_, rfl⟩ rfl rfl (Nat.le_of_ble_eq_true rfl) q1 ?_
  refine la_go 2 (lq_8 xs i v) ?_
  refine la_inv (rest := []) rfl rfl rfl (Nat.le_of_ble_eq_true rfl) rfl rfl ⟨_, rfl⟩ rfl rfl (Nat.le_of_ble_eq_true rfl) q2 ?_
  refine la_go 2 (lq_9 xs i v) ?_
  exact tail _ _ hr
theorem lq_10 (xs : List Int32) (i : Int32) (bc : Nat → List Value → pm_H → pm_R) (n : Nat) (h : pm_H) : la_R xs bc (n + 1) 263 i [] h = la_R xs bc n 264 i [.ref 8] h := rfl
theorem lq_11 (xs : List Int32) (i : Int32) (v : Int32) (bc : Nat → List Value → pm_H → pm_R) (n : Nat) (h : pm_H) : la_R xs bc (n + 2) 267 i [.int v] h = la_R xs bc n 269 i [.ref 70] h := rfl
theorem lq_12 (xs : List Int32) (i : Int32) (v : Int32) (bc : Nat → List Value → pm_H → pm_R) (n : Nat) (h : pm_H) : la_R xs bc (n + 2) 272 i [.int v] h = la_R xs bc n 1333 i [] h := rfl
theorem lz_3 {xs : List Int32} {i : Int32} {g : qM} {u : qW} (h : w_R g) (tail : ∀ g' u', w_R g' → la_G xs 1333 i [] g' u') : la_G xs 263 i [] g u := by
  obtain ⟨v, g1, u1, g2, u2, q1, q2, hr⟩ := pr_fault g u h
  refine la_go 1 (lq_10 xs i) ?_
  refine la_inv (rest := []) rfl rfl rfl (Nat.le_of_ble_eq_true rfl) rfl rfl ⟨_, rfl⟩ rfl rfl (Nat.le_of_ble_eq_true rfl) q1 ?_
  refine la_go 2 (lq_11 xs i v) ?_
  refine la_inv (rest := []) rfl rfl rfl (Nat.le_of_ble_eq_true rfl) rfl rfl ⟨_, rfl⟩ rfl rfl (Nat.le_of_ble_eq_true rfl) q2 ?_
  refine la_go 2 (lq_12 xs i v) ?_
  exact tail _ _ hr
theorem lq_13 (xs : List Int32) (i : Int32) (bc : Nat → List Value → pm_H → pm_R) (n : Nat) (h : pm_H) : la_R xs bc (n + 5) 276 i [] h = la_R xs bc n 281 i [.int (i + Int32.ofInt 1), .ref 0, .ref 8] h := rfl
theorem lq_14 (xs : List Int32) (i : Int32) (v : Int32) (bc : Nat → List Value → pm_H → pm_R) (n : Nat) (h : pm_H) : la_R xs bc (n + 6) 285 i [.int v] h = la_R xs bc n 291 i [.int (i + Int32.ofInt 1), .ref 0, .ref 70] h := rfl
theorem lq_15 (xs : List Int32) (i : Int32) (v : Int32) (bc : Nat → List Value → pm_H → pm_R) (n : Nat) (h : pm_H) : la_R xs bc (n + 2) 295 i [.int v] h = la_R xs bc n 1333 i [] h := rfl
theorem lz_4 {xs : List Int32} {i : Int32} {g : qM} {u : qW} (h : w_R g) {x1 : Int32} (n1 : ¬ i + Int32.ofInt 1 < 0) (e1 : xs[(i + Int32.ofInt 1).toNatClampNeg]? = some x1) (tail : ∀ g' u', w_R g' → la_G xs 1333 i [] g' u') : la_G xs 276 i [] g u := by
  obtain ⟨v, g1, u1, g2, u2, q1, q2, hr⟩ := pr_rule x1 g u h
  refine la_go 5 (lq_13 xs i) ?_
  refine la_go 1 (fun _ _ _ => la_arg rfl n1 e1) ?_
  refine la_inv (rest := []) rfl rfl rfl (Nat.le_of_ble_eq_true rfl) rfl rfl ⟨_, rfl⟩ rfl rfl (Nat.le_of_ble_eq_true rfl) q1 ?_
  refine la_go 6 (lq_14 xs i v) ?_
  refine la_go 1 (fun _ _ _ => la_arg rfl n1 e1) ?_
  refine la_inv (rest := []) rfl rfl rfl (Nat.le_of_ble_eq_true rfl) rfl rfl ⟨_, rfl⟩ rfl rfl (Nat.le_of_ble_eq_true rfl) q2 ?_
  refine la_go 2 (lq_15 xs i v) ?_
  exact tail _ _ hr
theorem lq_16 (xs : List Int32) (i : Int32) (bc : Nat → List Value → pm_H → pm_R) (n : Nat) (h : pm_H) : la_R xs bc (n + 5) 299 i [] h = la_R xs bc n 304 i [.int (i + Int32.ofInt 1), .ref 0, .ref 8] h := rfl
theorem lq_17 (xs : List Int32) (i : Int32) (x1 : Int32) (bc : Nat → List Value → pm_H → pm_R) (n : Nat) (h : pm_H) : la_R xs bc (n + 4) 305 i [.int x1, .ref 8] h = la_R xs bc n 309 i [.int (i + Int32.ofInt 2), .ref 0, .int x1, .ref 8] h := rfl
theorem lq_18 (xs : List Int32) (i : Int32) (v : Int32) (bc : Nat → List Value → pm_H → pm_R) (n : Nat) (h : pm_H) : la_R xs bc (n + 6) 313 i [.int v] h = la_R xs bc n 319 i [.int (i + Int32.ofInt 1), .ref 0, .ref 70] h := rfl
theorem lq_19 (xs : List Int32) (i : Int32) (x1 : Int32) (bc : Nat → List Value → pm_H → pm_R) (n : Nat) (h : pm_H) : la_R xs bc (n + 4) 320 i [.int x1, .ref 70] h = la_R xs bc n 324 i [.int (i + Int32.ofInt 2), .ref 0, .int x1, .ref 70] h := rfl
theorem lq_20 (xs : List Int32) (i : Int32) (v : Int32) (bc : Nat → List Value → pm_H → pm_R) (n : Nat) (h : pm_H) : la_R xs bc (n + 2) 328 i [.int v] h = la_R xs bc n 1333 i [] h := rfl
theorem lz_5 {xs : List Int32} {i : Int32} {g : qM} {u : qW} (h : w_R g) {x1 : Int32} (n1 : ¬ i + Int32.ofInt 1 < 0) (e1 : xs[(i + Int32.ofInt 1).toNatClampNeg]? = some x1) {x2 : Int32} (n2 : ¬ i + Int32.ofInt 2 < 0) (e2 : xs[(i + Int32.ofInt 2).toNatClampNeg]? = some x2) (tail : ∀ g' u', w_R g' → la_G xs 1333 i [] g' u') : la_G xs 299 i [] g u := by
  obtain ⟨v, g1, u1, g2, u2, q1, q2, hr⟩ := pr_one x1 x2 g u h
  refine la_go 5 (lq_16 xs i) ?_
  refine la_go 1 (fun _ _ _ => la_arg rfl n1 e1) ?_
  refine la_go 4 (lq_17 xs i x1) ?_
  refine la_go 1 (fun _ _ _ => la_arg rfl n2 e2) ?_
  refine la_inv (rest := []) rfl rfl rfl (Nat.le_of_ble_eq_true rfl) rfl rfl ⟨_, rfl⟩ rfl rfl (Nat.le_of_ble_eq_true rfl) q1 ?_
  refine la_go 6 (lq_18 xs i v) ?_
  refine la_go 1 (fun _ _ _ => la_arg rfl n1 e1) ?_
  refine la_go 4 (lq_19 xs i x1) ?_
  refine la_go 1 (fun _ _ _ => la_arg rfl n2 e2) ?_
  refine la_inv (rest := []) rfl rfl rfl (Nat.le_of_ble_eq_true rfl) rfl rfl ⟨_, rfl⟩ rfl rfl (Nat.le_of_ble_eq_true rfl) q2 ?_
  refine la_go 2 (lq_20 xs i v) ?_
  exact tail _ _ hr
theorem lq_21 (xs : List Int32) (i : Int32) (bc : Nat → List Value → pm_H → pm_R) (n : Nat) (h : pm_H) : la_R xs bc (n + 5) 332 i [] h = la_R xs bc n 337 i [.int (i + Int32.ofInt 1), .ref 0, .ref 8] h := rfl
theorem lq_22 (xs : List Int32) (i : Int32) (v : Int32) (bc : Nat → List Value → pm_H → pm_R) (n : Nat) (h : pm_H) : la_R xs bc (n + 6) 341 i [.int v] h = la_R xs bc n 347 i [.int (i + Int32.ofInt 1), .ref 0, .ref 70] h := rfl
theorem lq_23 (xs : List Int32) (i : Int32) (v : Int32) (bc : Nat → List Value → pm_H → pm_R) (n : Nat) (h : pm_H) : la_R xs bc (n + 2) 351 i [.int v] h = la_R xs bc n 1333 i [] h := rfl
theorem lz_6 {xs : List Int32} {i : Int32} {g : qM} {u : qW} (h : w_R g) {x1 : Int32} (n1 : ¬ i + Int32.ofInt 1 < 0) (e1 : xs[(i + Int32.ofInt 1).toNatClampNeg]? = some x1) (tail : ∀ g' u', w_R g' → la_G xs 1333 i [] g' u') : la_G xs 332 i [] g u := by
  obtain ⟨v, g1, u1, g2, u2, q1, q2, hr⟩ := pr_cell x1 g u h
  refine la_go 5 (lq_21 xs i) ?_
  refine la_go 1 (fun _ _ _ => la_arg rfl n1 e1) ?_
  refine la_inv (rest := []) rfl rfl rfl (Nat.le_of_ble_eq_true rfl) rfl rfl ⟨_, rfl⟩ rfl rfl (Nat.le_of_ble_eq_true rfl) q1 ?_
  refine la_go 6 (lq_22 xs i v) ?_
  refine la_go 1 (fun _ _ _ => la_arg rfl n1 e1) ?_
  refine la_inv (rest := []) rfl rfl rfl (Nat.le_of_ble_eq_true rfl) rfl rfl ⟨_, rfl⟩ rfl rfl (Nat.le_of_ble_eq_true rfl) q2 ?_
  refine la_go 2 (lq_23 xs i v) ?_
  exact tail _ _ hr
theorem lq_24 (xs : List Int32) (i : Int32) (bc : Nat → List Value → pm_H → pm_R) (n : Nat) (h : pm_H) : la_R xs bc (n + 5) 355 i [] h = la_R xs bc n 360 i [.int (i + Int32.ofInt 1), .ref 0, .ref 8] h := rfl
theorem lq_25 (xs : List Int32) (i : Int32) (x1 : Int32) (bc : Nat → List Value → pm_H → pm_R) (n : Nat) (h : pm_H) : la_R xs bc (n + 4) 361 i [.int x1, .ref 8] h = la_R xs bc n 365 i [.int (i + Int32.ofInt 2), .ref 0, .int x1, .ref 8] h := rfl
theorem lq_26 (xs : List Int32) (i : Int32) (v : Int32) (bc : Nat → List Value → pm_H → pm_R) (n : Nat) (h : pm_H) : la_R xs bc (n + 6) 369 i [.int v] h = la_R xs bc n 375 i [.int (i + Int32.ofInt 1), .ref 0, .ref 70] h := rfl
theorem lq_27 (xs : List Int32) (i : Int32) (x1 : Int32) (bc : Nat → List Value → pm_H → pm_R) (n : Nat) (h : pm_H) : la_R xs bc (n + 4) 376 i [.int x1, .ref 70] h = la_R xs bc n 380 i [.int (i + Int32.ofInt 2), .ref 0, .int x1, .ref 70] h := rfl
theorem lq_28 (xs : List Int32) (i : Int32) (v : Int32) (bc : Nat → List Value → pm_H → pm_R) (n : Nat) (h : pm_H) : la_R xs bc (n + 2) 384 i [.int v] h = la_R xs bc n 1333 i [] h := rfl
theorem lz_7 {xs : List Int32} {i : Int32} {g : qM} {u : qW} (h : w_R g) {x1 : Int32} (n1 : ¬ i + Int32.ofInt 1 < 0) (e1 : xs[(i + Int32.ofInt 1).toNatClampNeg]? = some x1) {x2 : Int32} (n2 : ¬ i + Int32.ofInt 2 < 0) (e2 : xs[(i + Int32.ofInt 2).toNatClampNeg]? = some x2) (tail : ∀ g' u', w_R g' → la_G xs 1333 i [] g' u') : la_G xs 355 i [] g u := by
  obtain ⟨v, g1, u1, g2, u2, q1, q2, hr⟩ := pr_mood x1 x2 g u h
  refine la_go 5 (lq_24 xs i) ?_
  refine la_go 1 (fun _ _ _ => la_arg rfl n1 e1) ?_
  refine la_go 4 (lq_25 xs i x1) ?_
  refine la_go 1 (fun _ _ _ => la_arg rfl n2 e2) ?_
  refine la_inv (rest := []) rfl rfl rfl (Nat.le_of_ble_eq_true rfl) rfl rfl ⟨_, rfl⟩ rfl rfl (Nat.le_of_ble_eq_true rfl) q1 ?_
  refine la_go 6 (lq_26 xs i v) ?_
  refine la_go 1 (fun _ _ _ => la_arg rfl n1 e1) ?_
  refine la_go 4 (lq_27 xs i x1) ?_
  refine la_go 1 (fun _ _ _ => la_arg rfl n2 e2) ?_
  refine la_inv (rest := []) rfl rfl rfl (Nat.le_of_ble_eq_true rfl) rfl rfl ⟨_, rfl⟩ rfl rfl (Nat.le_of_ble_eq_true rfl) q2 ?_
  refine la_go 2 (lq_28 xs i v) ?_
  exact tail _ _ hr
theorem lq_29 (xs : List Int32) (i : Int32) (bc : Nat → List Value → pm_H → pm_R) (n : Nat) (h : pm_H) : la_R xs bc (n + 5) 388 i [] h = la_R xs bc n 393 i [.int (i + Int32.ofInt 1), .ref 0, .ref 8] h := rfl
theorem lq_30 (xs : List Int32) (i : Int32) (x1 : Int32) (bc : Nat → List Value → pm_H → pm_R) (n : Nat) (h : pm_H) : la_R xs bc (n + 4) 394 i [.int x1, .ref 8] h = la_R xs bc n 398 i [.int (i + Int32.ofInt 2), .ref 0, .int x1, .ref 8] h := rfl
theorem lq_31 (xs : List Int32) (i : Int32) (v : Int32) (bc : Nat → List Value → pm_H → pm_R) (n : Nat) (h : pm_H) : la_R xs bc (n + 6) 402 i [.int v] h = la_R xs bc n 408 i [.int (i + Int32.ofInt 1), .ref 0, .ref 70] h := rfl
theorem lq_32 (xs : List Int32) (i : Int32) (x1 : Int32) (bc : Nat → List Value → pm_H → pm_R) (n : Nat) (h : pm_H) : la_R xs bc (n + 4) 409 i [.int x1, .ref 70] h = la_R xs bc n 413 i [.int (i + Int32.ofInt 2), .ref 0, .int x1, .ref 70] h := rfl
theorem lq_33 (xs : List Int32) (i : Int32) (v : Int32) (bc : Nat → List Value → pm_H → pm_R) (n : Nat) (h : pm_H) : la_R xs bc (n + 2) 417 i [.int v] h = la_R xs bc n 1333 i [] h := rfl
theorem lz_8 {xs : List Int32} {i : Int32} {g : qM} {u : qW} (h : w_R g) {x1 : Int32} (n1 : ¬ i + Int32.ofInt 1 < 0) (e1 : xs[(i + Int32.ofInt 1).toNatClampNeg]? = some x1) {x2 : Int32} (n2 : ¬ i + Int32.ofInt 2 < 0) (e2 : xs[(i + Int32.ofInt 2).toNatClampNeg]? = some x2) (tail : ∀ g' u', w_R g' → la_G xs 1333 i [] g' u') : la_G xs 388 i [] g u := by
  obtain ⟨v, g1, u1, g2, u2, q1, q2, hr⟩ := pr_put x1 x2 g u h
  refine la_go 5 (lq_29 xs i) ?_
  refine la_go 1 (fun _ _ _ => la_arg rfl n1 e1) ?_
  refine la_go 4 (lq_30 xs i x1) ?_
  refine la_go 1 (fun _ _ _ => la_arg rfl n2 e2) ?_
  refine la_inv (rest := []) rfl rfl rfl (Nat.le_of_ble_eq_true rfl) rfl rfl ⟨_, rfl⟩ rfl rfl (Nat.le_of_ble_eq_true rfl) q1 ?_
  refine la_go 6 (lq_31 xs i v) ?_
  refine la_go 1 (fun _ _ _ => la_arg rfl n1 e1) ?_
  refine la_go 4 (lq_32 xs i x1) ?_
  refine la_go 1 (fun _ _ _ => la_arg rfl n2 e2) ?_
  refine la_inv (rest := []) rfl rfl rfl (Nat.le_of_ble_eq_true rfl) rfl rfl ⟨_, rfl⟩ rfl rfl (Nat.le_of_ble_eq_true rfl) q2 ?_
  refine la_go 2 (lq_33 xs i v) ?_
  exact tail _ _ hr
theorem lq_34 (xs : List Int32) (i : Int32) (bc : Nat → List Value → pm_H → pm_R) (n : Nat) (h : pm_H) : la_R xs bc (n + 5) 421 i [] h = la_R xs bc n 426 i [.int (i + Int32.ofInt 1), .ref 0, .ref 8] h := rfl
theorem lq_35 (xs : List Int32) (i : Int32) (x1 : Int32) (bc : Nat → List Value → pm_H → pm_R) (n : Nat) (h : pm_H) : la_R xs bc (n + 4) 427 i [.int x1, .ref 8] h = la_R xs bc n 431 i [.int (i + Int32.ofInt 2), .ref 0, .int x1, .ref 8] h := rfl
theorem lq_36 (xs : List Int32) (i : Int32) (x1 : Int32) (bc : Nat → List Value → pm_H → pm_R) (n : Nat) (h : pm_H) : la_R xs bc (n + 1) 439 i [.int x1, .ref 8] h = la_R xs bc n 440 i [.int (0 : Int32), .int x1, .ref 8] h := rfl
theorem lq_37 (xs : List Int32) (i : Int32) (v : Int32) (bc : Nat → List Value → pm_H → pm_R) (n : Nat) (h : pm_H) : la_R xs bc (n + 6) 443 i [.int v] h = la_R xs bc n 449 i [.int (i + Int32.ofInt 1), .ref 0, .ref 70] h := rfl
theorem lq_38 (xs : List Int32) (i : Int32) (x1 : Int32) (bc : Nat → List Value → pm_H → pm_R) (n : Nat) (h : pm_H) : la_R xs bc (n + 4) 450 i [.int x1, .ref 70] h = la_R xs bc n 454 i [.int (i + Int32.ofInt 2), .ref 0, .int x1, .ref 70] h := rfl
theorem lq_39 (xs : List Int32) (i : Int32) (x1 : Int32) (bc : Nat → List Value → pm_H → pm_R) (n : Nat) (h : pm_H) : la_R xs bc (n + 1) 462 i [.int x1, .ref 70] h = la_R xs bc n 463 i [.int (0 : Int32), .int x1, .ref 70] h := rfl
theorem lq_40 (xs : List Int32) (i : Int32) (v : Int32) (bc : Nat → List Value → pm_H → pm_R) (n : Nat) (h : pm_H) : la_R xs bc (n + 2) 466 i [.int v] h = la_R xs bc n 1333 i [] h := rfl
theorem lq_41 (xs : List Int32) (i : Int32) (x1 : Int32) (bc : Nat → List Value → pm_H → pm_R) (n : Nat) (h : pm_H) : la_R xs bc (n + 2) 435 i [.int x1, .ref 8] h = la_R xs bc n 440 i [.int (1 : Int32), .int x1, .ref 8] h := rfl
theorem lq_42 (xs : List Int32) (i : Int32) (x1 : Int32) (bc : Nat → List Value → pm_H → pm_R) (n : Nat) (h : pm_H) : la_R xs bc (n + 2) 458 i [.int x1, .ref 70] h = la_R xs bc n 463 i [.int (1 : Int32), .int x1, .ref 70] h := rfl
theorem lz_9 {xs : List Int32} {i : Int32} {g : qM} {u : qW} (h : w_R g) {x1 : Int32} (n1 : ¬ i + Int32.ofInt 1 < 0) (e1 : xs[(i + Int32.ofInt 1).toNatClampNeg]? = some x1) {x2 : Int32} (n2 : ¬ i + Int32.ofInt 2 < 0) (e2 : xs[(i + Int32.ofInt 2).toNatClampNeg]? = some x2) (tail : ∀ g' u', w_R g' → la_G xs 1333 i [] g' u') : la_G xs 421 i [] g u := by
  by_cases hz : x2 = 0
  · obtain ⟨v, g1, u1, g2, u2, q1, q2, hr⟩ := pr_hold0 x1 g u h
    refine la_go 5 (lq_34 xs i) ?_
    refine la_go 1 (fun _ _ _ => la_arg rfl n1 e1) ?_
    refine la_go 4 (lq_35 xs i x1) ?_
    refine la_go 1 (fun _ _ _ => la_arg rfl n2 e2) ?_
    refine la_go 1 (fun _ _ _ => (la_if (a := 0) rfl).trans (if_pos hz)) ?_
    refine la_go 1 (lq_36 xs i x1) ?_
    refine la_inv (rest := []) rfl rfl rfl (Nat.le_of_ble_eq_true rfl) rfl rfl ⟨_, rfl⟩ rfl rfl (Nat.le_of_ble_eq_true rfl) q1 ?_
    refine la_go 6 (lq_37 xs i v) ?_
    refine la_go 1 (fun _ _ _ => la_arg rfl n1 e1) ?_
    refine la_go 4 (lq_38 xs i x1) ?_
    refine la_go 1 (fun _ _ _ => la_arg rfl n2 e2) ?_
    refine la_go 1 (fun _ _ _ => (la_if (a := 0) rfl).trans (if_pos hz)) ?_
    refine la_go 1 (lq_39 xs i x1) ?_
    refine la_inv (rest := []) rfl rfl rfl (Nat.le_of_ble_eq_true rfl) rfl rfl ⟨_, rfl⟩ rfl rfl (Nat.le_of_ble_eq_true rfl) q2 ?_
    refine la_go 2 (lq_40 xs i v) ?_
    exact tail _ _ hr
  · obtain ⟨v, g1, u1, g2, u2, q1, q2, hr⟩ := pr_hold1 x1 g u h
    refine la_go 5 (lq_34 xs i) ?_
    refine la_go 1 (fun _ _ _ => la_arg rfl n1 e1) ?_
    refine la_go 4 (lq_35 xs i x1) ?_
    refine la_go 1 (fun _ _ _ => la_arg rfl n2 e2) ?_
    refine la_go 1 (fun _ _ _ => (la_if (a := 0) rfl).trans (if_neg hz)) ?_
    refine la_go 2 (lq_41 xs i x1) ?_
    refine la_inv (rest := []) rfl rfl rfl (Nat.le_of_ble_eq_true rfl) rfl rfl ⟨_, rfl⟩ rfl rfl (Nat.le_of_ble_eq_true rfl) q1 ?_
    refine la_go 6 (lq_37 xs i v) ?_
    refine la_go 1 (fun _ _ _ => la_arg rfl n1 e1) ?_
    refine la_go 4 (lq_38 xs i x1) ?_
    refine la_go 1 (fun _ _ _ => la_arg rfl n2 e2) ?_
    refine la_go 1 (fun _ _ _ => (la_if (a := 0) rfl).trans (if_neg hz)) ?_
    refine la_go 2 (lq_42 xs i x1) ?_
    refine la_inv (rest := []) rfl rfl rfl (Nat.le_of_ble_eq_true rfl) rfl rfl ⟨_, rfl⟩ rfl rfl (Nat.le_of_ble_eq_true rfl) q2 ?_
    refine la_go 2 (lq_40 xs i v) ?_
    exact tail _ _ hr
theorem lq_43 (xs : List Int32) (i : Int32) (bc : Nat → List Value → pm_H → pm_R) (n : Nat) (h : pm_H) : la_R xs bc (n + 5) 470 i [] h = la_R xs bc n 475 i [.int (i + Int32.ofInt 1), .ref 0, .ref 8] h := rfl
theorem lq_44 (xs : List Int32) (i : Int32) (x1 : Int32) (bc : Nat → List Value → pm_H → pm_R) (n : Nat) (h : pm_H) : la_R xs bc (n + 4) 476 i [.int x1, .ref 8] h = la_R xs bc n 480 i [.int (i + Int32.ofInt 2), .ref 0, .int x1, .ref 8] h := rfl
theorem lq_45 (xs : List Int32) (i : Int32) (v : Int32) (bc : Nat → List Value → pm_H → pm_R) (n : Nat) (h : pm_H) : la_R xs bc (n + 6) 484 i [.int v] h = la_R xs bc n 490 i [.int (i + Int32.ofInt 1), .ref 0, .ref 70] h := rfl
theorem lq_46 (xs : List Int32) (i : Int32) (x1 : Int32) (bc : Nat → List Value → pm_H → pm_R) (n : Nat) (h : pm_H) : la_R xs bc (n + 4) 491 i [.int x1, .ref 70] h = la_R xs bc n 495 i [.int (i + Int32.ofInt 2), .ref 0, .int x1, .ref 70] h := rfl
theorem lq_47 (xs : List Int32) (i : Int32) (v : Int32) (bc : Nat → List Value → pm_H → pm_R) (n : Nat) (h : pm_H) : la_R xs bc (n + 2) 499 i [.int v] h = la_R xs bc n 1333 i [] h := rfl
theorem lz_10 {xs : List Int32} {i : Int32} {g : qM} {u : qW} (h : w_R g) {x1 : Int32} (n1 : ¬ i + Int32.ofInt 1 < 0) (e1 : xs[(i + Int32.ofInt 1).toNatClampNeg]? = some x1) {x2 : Int32} (n2 : ¬ i + Int32.ofInt 2 < 0) (e2 : xs[(i + Int32.ofInt 2).toNatClampNeg]? = some x2) (tail : ∀ g' u', w_R g' → la_G xs 1333 i [] g' u') : la_G xs 470 i [] g u := by
  obtain ⟨v, g1, u1, g2, u2, q1, q2, hr⟩ := pr_goal x1 x2 g u h
  refine la_go 5 (lq_43 xs i) ?_
  refine la_go 1 (fun _ _ _ => la_arg rfl n1 e1) ?_
  refine la_go 4 (lq_44 xs i x1) ?_
  refine la_go 1 (fun _ _ _ => la_arg rfl n2 e2) ?_
  refine la_inv (rest := []) rfl rfl rfl (Nat.le_of_ble_eq_true rfl) rfl rfl ⟨_, rfl⟩ rfl rfl (Nat.le_of_ble_eq_true rfl) q1 ?_
  refine la_go 6 (lq_45 xs i v) ?_
  refine la_go 1 (fun _ _ _ => la_arg rfl n1 e1) ?_
  refine la_go 4 (lq_46 xs i x1) ?_
  refine la_go 1 (fun _ _ _ => la_arg rfl n2 e2) ?_
  refine la_inv (rest := []) rfl rfl rfl (Nat.le_of_ble_eq_true rfl) rfl rfl ⟨_, rfl⟩ rfl rfl (Nat.le_of_ble_eq_true rfl) q2 ?_
  refine la_go 2 (lq_47 xs i v) ?_
  exact tail _ _ hr
theorem lq_48 (xs : List Int32) (i : Int32) (bc : Nat → List Value → pm_H → pm_R) (n : Nat) (h : pm_H) : la_R xs bc (n + 5) 503 i [] h = la_R xs bc n 508 i [.int (i + Int32.ofInt 1), .ref 0, .ref 8] h := rfl
theorem lq_49 (xs : List Int32) (i : Int32) (x1 : Int32) (bc : Nat → List Value → pm_H → pm_R) (n : Nat) (h : pm_H) : la_R xs bc (n + 4) 509 i [.int x1, .ref 8] h = la_R xs bc n 513 i [.int (i + Int32.ofInt 2), .ref 0, .int x1, .ref 8] h := rfl
theorem lq_50 (xs : List Int32) (i : Int32) (x1 : Int32) (bc : Nat → List Value → pm_H → pm_R) (n : Nat) (h : pm_H) : la_R xs bc (n + 1) 521 i [.int x1, .ref 8] h = la_R xs bc n 522 i [.int (0 : Int32), .int x1, .ref 8] h := rfl
theorem lq_51 (xs : List Int32) (i : Int32) (v : Int32) (bc : Nat → List Value → pm_H → pm_R) (n : Nat) (h : pm_H) : la_R xs bc (n + 6) 525 i [.int v] h = la_R xs bc n 531 i [.int (i + Int32.ofInt 1), .ref 0, .ref 70] h := rfl
theorem lq_52 (xs : List Int32) (i : Int32) (x1 : Int32) (bc : Nat → List Value → pm_H → pm_R) (n : Nat) (h : pm_H) : la_R xs bc (n + 4) 532 i [.int x1, .ref 70] h = la_R xs bc n 536 i [.int (i + Int32.ofInt 2), .ref 0, .int x1, .ref 70] h := rfl
theorem lq_53 (xs : List Int32) (i : Int32) (x1 : Int32) (bc : Nat → List Value → pm_H → pm_R) (n : Nat) (h : pm_H) : la_R xs bc (n + 1) 544 i [.int x1, .ref 70] h = la_R xs bc n 545 i [.int (0 : Int32), .int x1, .ref 70] h := rfl
theorem lq_54 (xs : List Int32) (i : Int32) (v : Int32) (bc : Nat → List Value → pm_H → pm_R) (n : Nat) (h : pm_H) : la_R xs bc (n + 2) 548 i [.int v] h = la_R xs bc n 1333 i [] h := rfl
theorem lq_55 (xs : List Int32) (i : Int32) (x1 : Int32) (bc : Nat → List Value → pm_H → pm_R) (n : Nat) (h : pm_H) : la_R xs bc (n + 2) 517 i [.int x1, .ref 8] h = la_R xs bc n 522 i [.int (1 : Int32), .int x1, .ref 8] h := rfl
theorem lq_56 (xs : List Int32) (i : Int32) (x1 : Int32) (bc : Nat → List Value → pm_H → pm_R) (n : Nat) (h : pm_H) : la_R xs bc (n + 2) 540 i [.int x1, .ref 70] h = la_R xs bc n 545 i [.int (1 : Int32), .int x1, .ref 70] h := rfl
theorem lz_11 {xs : List Int32} {i : Int32} {g : qM} {u : qW} (h : w_R g) {x1 : Int32} (n1 : ¬ i + Int32.ofInt 1 < 0) (e1 : xs[(i + Int32.ofInt 1).toNatClampNeg]? = some x1) {x2 : Int32} (n2 : ¬ i + Int32.ofInt 2 < 0) (e2 : xs[(i + Int32.ofInt 2).toNatClampNeg]? = some x2) (tail : ∀ g' u', w_R g' → la_G xs 1333 i [] g' u') : la_G xs 503 i [] g u := by
  by_cases hz : x2 = 0
  · obtain ⟨v, g1, u1, g2, u2, q1, q2, hr⟩ := pr_wall0 x1 g u h
    refine la_go 5 (lq_48 xs i) ?_
    refine la_go 1 (fun _ _ _ => la_arg rfl n1 e1) ?_
    refine la_go 4 (lq_49 xs i x1) ?_
    refine la_go 1 (fun _ _ _ => la_arg rfl n2 e2) ?_
    refine la_go 1 (fun _ _ _ => (la_if (a := 0) rfl).trans (if_pos hz)) ?_
    refine la_go 1 (lq_50 xs i x1) ?_
    refine la_inv (rest := []) rfl rfl rfl (Nat.le_of_ble_eq_true rfl) rfl rfl ⟨_, rfl⟩ rfl rfl (Nat.le_of_ble_eq_true rfl) q1 ?_
    refine la_go 6 (lq_51 xs i v) ?_
    refine la_go 1 (fun _ _ _ => la_arg rfl n1 e1) ?_
    refine la_go 4 (lq_52 xs i x1) ?_
    refine la_go 1 (fun _ _ _ => la_arg rfl n2 e2) ?_
    refine la_go 1 (fun _ _ _ => (la_if (a := 0) rfl).trans (if_pos hz)) ?_
    refine la_go 1 (lq_53 xs i x1) ?_
    refine la_inv (rest := []) rfl rfl rfl (Nat.le_of_ble_eq_true rfl) rfl rfl ⟨_, rfl⟩ rfl rfl (Nat.le_of_ble_eq_true rfl) q2 ?_
    refine la_go 2 (lq_54 xs i v) ?_
    exact tail _ _ hr
  · obtain ⟨v, g1, u1, g2, u2, q1, q2, hr⟩ := pr_wall1 x1 g u h
    refine la_go 5 (lq_48 xs i) ?_
    refine la_go 1 (fun _ _ _ => la_arg rfl n1 e1) ?_
    refine la_go 4 (lq_49 xs i x1) ?_
    refine la_go 1 (fun _ _ _ => la_arg rfl n2 e2) ?_
    refine la_go 1 (fun _ _ _ => (la_if (a := 0) rfl).trans (if_neg hz)) ?_
    refine la_go 2 (lq_55 xs i x1) ?_
    refine la_inv (rest := []) rfl rfl rfl (Nat.le_of_ble_eq_true rfl) rfl rfl ⟨_, rfl⟩ rfl rfl (Nat.le_of_ble_eq_true rfl) q1 ?_
    refine la_go 6 (lq_51 xs i v) ?_
    refine la_go 1 (fun _ _ _ => la_arg rfl n1 e1) ?_
    refine la_go 4 (lq_52 xs i x1) ?_
    refine la_go 1 (fun _ _ _ => la_arg rfl n2 e2) ?_
    refine la_go 1 (fun _ _ _ => (la_if (a := 0) rfl).trans (if_neg hz)) ?_
    refine la_go 2 (lq_56 xs i x1) ?_
    refine la_inv (rest := []) rfl rfl rfl (Nat.le_of_ble_eq_true rfl) rfl rfl ⟨_, rfl⟩ rfl rfl (Nat.le_of_ble_eq_true rfl) q2 ?_
    refine la_go 2 (lq_54 xs i v) ?_
    exact tail _ _ hr
theorem lq_57 (xs : List Int32) (i : Int32) (bc : Nat → List Value → pm_H → pm_R) (n : Nat) (h : pm_H) : la_R xs bc (n + 5) 552 i [] h = la_R xs bc n 557 i [.int (i + Int32.ofInt 1), .ref 0, .ref 8] h := rfl
theorem lq_58 (xs : List Int32) (i : Int32) (x1 : Int32) (bc : Nat → List Value → pm_H → pm_R) (n : Nat) (h : pm_H) : la_R xs bc (n + 4) 558 i [.int x1, .ref 8] h = la_R xs bc n 562 i [.int (i + Int32.ofInt 2), .ref 0, .int x1, .ref 8] h := rfl
theorem lq_59 (xs : List Int32) (i : Int32) (v : Int32) (bc : Nat → List Value → pm_H → pm_R) (n : Nat) (h : pm_H) : la_R xs bc (n + 6) 566 i [.int v] h = la_R xs bc n 572 i [.int (i + Int32.ofInt 1), .ref 0, .ref 70] h := rfl
theorem lq_60 (xs : List Int32) (i : Int32) (x1 : Int32) (bc : Nat → List Value → pm_H → pm_R) (n : Nat) (h : pm_H) : la_R xs bc (n + 4) 573 i [.int x1, .ref 70] h = la_R xs bc n 577 i [.int (i + Int32.ofInt 2), .ref 0, .int x1, .ref 70] h := rfl
theorem lq_61 (xs : List Int32) (i : Int32) (v : Int32) (bc : Nat → List Value → pm_H → pm_R) (n : Nat) (h : pm_H) : la_R xs bc (n + 2) 581 i [.int v] h = la_R xs bc n 1333 i [] h := rfl
theorem lz_12 {xs : List Int32} {i : Int32} {g : qM} {u : qW} (h : w_R g) {x1 : Int32} (n1 : ¬ i + Int32.ofInt 1 < 0) (e1 : xs[(i + Int32.ofInt 1).toNatClampNeg]? = some x1) {x2 : Int32} (n2 : ¬ i + Int32.ofInt 2 < 0) (e2 : xs[(i + Int32.ofInt 2).toNatClampNeg]? = some x2) (tail : ∀ g' u', w_R g' → la_G xs 1333 i [] g' u') : la_G xs 552 i [] g u := by
  obtain ⟨v, g1, u1, g2, u2, q1, q2, hr⟩ := pr_pull x1 x2 g u h
  refine la_go 5 (lq_57 xs i) ?_
  refine la_go 1 (fun _ _ _ => la_arg rfl n1 e1) ?_
  refine la_go 4 (lq_58 xs i x1) ?_
  refine la_go 1 (fun _ _ _ => la_arg rfl n2 e2) ?_
  refine la_inv (rest := []) rfl rfl rfl (Nat.le_of_ble_eq_true rfl) rfl rfl ⟨_, rfl⟩ rfl rfl (Nat.le_of_ble_eq_true rfl) q1 ?_
  refine la_go 6 (lq_59 xs i v) ?_
  refine la_go 1 (fun _ _ _ => la_arg rfl n1 e1) ?_
  refine la_go 4 (lq_60 xs i x1) ?_
  refine la_go 1 (fun _ _ _ => la_arg rfl n2 e2) ?_
  refine la_inv (rest := []) rfl rfl rfl (Nat.le_of_ble_eq_true rfl) rfl rfl ⟨_, rfl⟩ rfl rfl (Nat.le_of_ble_eq_true rfl) q2 ?_
  refine la_go 2 (lq_61 xs i v) ?_
  exact tail _ _ hr
theorem lq_62 (xs : List Int32) (i : Int32) (bc : Nat → List Value → pm_H → pm_R) (n : Nat) (h : pm_H) : la_R xs bc (n + 5) 585 i [] h = la_R xs bc n 590 i [.int (i + Int32.ofInt 1), .ref 0, .ref 8] h := rfl
theorem lq_63 (xs : List Int32) (i : Int32) (v : Int32) (bc : Nat → List Value → pm_H → pm_R) (n : Nat) (h : pm_H) : la_R xs bc (n + 6) 594 i [.int v] h = la_R xs bc n 600 i [.int (i + Int32.ofInt 1), .ref 0, .ref 70] h := rfl
theorem lq_64 (xs : List Int32) (i : Int32) (v : Int32) (bc : Nat → List Value → pm_H → pm_R) (n : Nat) (h : pm_H) : la_R xs bc (n + 2) 604 i [.int v] h = la_R xs bc n 1333 i [] h := rfl
theorem lz_13 {xs : List Int32} {i : Int32} {g : qM} {u : qW} (h : w_R g) {x1 : Int32} (n1 : ¬ i + Int32.ofInt 1 < 0) (e1 : xs[(i + Int32.ofInt 1).toNatClampNeg]? = some x1) (tail : ∀ g' u', w_R g' → la_G xs 1333 i [] g' u') : la_G xs 585 i [] g u := by
  obtain ⟨v, g1, u1, g2, u2, q1, q2, hr⟩ := pr_press x1 g u h
  refine la_go 5 (lq_62 xs i) ?_
  refine la_go 1 (fun _ _ _ => la_arg rfl n1 e1) ?_
  refine la_inv (rest := []) rfl rfl rfl (Nat.le_of_ble_eq_true rfl) rfl rfl ⟨_, rfl⟩ rfl rfl (Nat.le_of_ble_eq_true rfl) q1 ?_
  refine la_go 6 (lq_63 xs i v) ?_
  refine la_go 1 (fun _ _ _ => la_arg rfl n1 e1) ?_
  refine la_inv (rest := []) rfl rfl rfl (Nat.le_of_ble_eq_true rfl) rfl rfl ⟨_, rfl⟩ rfl rfl (Nat.le_of_ble_eq_true rfl) q2 ?_
  refine la_go 2 (lq_64 xs i v) ?_
  exact tail _ _ hr
theorem lq_65 (xs : List Int32) (i : Int32) (bc : Nat → List Value → pm_H → pm_R) (n : Nat) (h : pm_H) : la_R xs bc (n + 5) 608 i [] h = la_R xs bc n 613 i [.int (i + Int32.ofInt 1), .ref 0, .ref 8] h := rfl
theorem lq_66 (xs : List Int32) (i : Int32) (x1 : Int32) (bc : Nat → List Value → pm_H → pm_R) (n : Nat) (h : pm_H) : la_R xs bc (n + 4) 614 i [.int x1, .ref 8] h = la_R xs bc n 618 i [.int (i + Int32.ofInt 2), .ref 0, .int x1, .ref 8] h := rfl
theorem lq_67 (xs : List Int32) (i : Int32) (v : Int32) (bc : Nat → List Value → pm_H → pm_R) (n : Nat) (h : pm_H) : la_R xs bc (n + 5) 622 i [.int v] h = la_R xs bc n 627 i [.int (i + Int32.ofInt 1), .ref 0, .ref 70, .int v] h := rfl
theorem lq_68 (xs : List Int32) (i : Int32) (v : Int32) (x1 : Int32) (bc : Nat → List Value → pm_H → pm_R) (n : Nat) (h : pm_H) : la_R xs bc (n + 4) 628 i [.int x1, .ref 70, .int v] h = la_R xs bc n 632 i [.int (i + Int32.ofInt 2), .ref 0, .int x1, .ref 70, .int v] h := rfl
theorem lc_636 (xs : List Int32) (i v : Int32) (bc : Nat → List Value → pm_H → pm_R) (n : Nat) (h : pm_H) : la_R xs bc (n + 1) 636 i [.int v, .int v] h = la_R xs bc n 1333 i [] h := if_pos rfl
theorem lz_14 {xs : List Int32} {i : Int32} {g : qM} {u : qW} (h : w_R g) {x1 : Int32} (n1 : ¬ i + Int32.ofInt 1 < 0) (e1 : xs[(i + Int32.ofInt 1).toNatClampNeg]? = some x1) {x2 : Int32} (n2 : ¬ i + Int32.ofInt 2 < 0) (e2 : xs[(i + Int32.ofInt 2).toNatClampNeg]? = some x2) (tail : ∀ g' u', w_R g' → la_G xs 1333 i [] g' u') : la_G xs 608 i [] g u := by
  obtain ⟨v, g1, u1, g2, u2, q1, q2, hr⟩ := pr_force x1 x2 g u h
  refine la_go 5 (lq_65 xs i) ?_
  refine la_go 1 (fun _ _ _ => la_arg rfl n1 e1) ?_
  refine la_go 4 (lq_66 xs i x1) ?_
  refine la_go 1 (fun _ _ _ => la_arg rfl n2 e2) ?_
  refine la_inv (rest := []) rfl rfl rfl (Nat.le_of_ble_eq_true rfl) rfl rfl ⟨_, rfl⟩ rfl rfl (Nat.le_of_ble_eq_true rfl) q1 ?_
  refine la_go 5 (lq_67 xs i v) ?_
  refine la_go 1 (fun _ _ _ => la_arg rfl n1 e1) ?_
  refine la_go 4 (lq_68 xs i v x1) ?_
  refine la_go 1 (fun _ _ _ => la_arg rfl n2 e2) ?_
  refine la_inv (rest := [.int v]) rfl rfl rfl (Nat.le_of_ble_eq_true rfl) rfl rfl ⟨_, rfl⟩ rfl rfl (Nat.le_of_ble_eq_true rfl) q2 ?_
  refine la_go 1 (lc_636 xs i v) ?_
  exact tail _ _ hr
theorem lq_70 (xs : List Int32) (i : Int32) (bc : Nat → List Value → pm_H → pm_R) (n : Nat) (h : pm_H) : la_R xs bc (n + 5) 641 i [] h = la_R xs bc n 646 i [.int (i + Int32.ofInt 1), .ref 0, .ref 8] h := rfl
theorem lq_71 (xs : List Int32) (i : Int32) (v : Int32) (bc : Nat → List Value → pm_H → pm_R) (n : Nat) (h : pm_H) : la_R xs bc (n + 6) 650 i [.int v] h = la_R xs bc n 656 i [.int (i + Int32.ofInt 1), .ref 0, .ref 70] h := rfl
theorem lq_72 (xs : List Int32) (i : Int32) (v : Int32) (bc : Nat → List Value → pm_H → pm_R) (n : Nat) (h : pm_H) : la_R xs bc (n + 2) 660 i [.int v] h = la_R xs bc n 1333 i [] h := rfl
theorem lz_15 {xs : List Int32} {i : Int32} {g : qM} {u : qW} (h : w_R g) {x1 : Int32} (n1 : ¬ i + Int32.ofInt 1 < 0) (e1 : xs[(i + Int32.ofInt 1).toNatClampNeg]? = some x1) (tail : ∀ g' u', w_R g' → la_G xs 1333 i [] g' u') : la_G xs 641 i [] g u := by
  obtain ⟨v, g1, u1, g2, u2, q1, q2, hr⟩ := pr_wish x1 g u h
  refine la_go 5 (lq_70 xs i) ?_
  refine la_go 1 (fun _ _ _ => la_arg rfl n1 e1) ?_
  refine la_inv (rest := []) rfl rfl rfl (Nat.le_of_ble_eq_true rfl) rfl rfl ⟨_, rfl⟩ rfl rfl (Nat.le_of_ble_eq_true rfl) q1 ?_
  refine la_go 6 (lq_71 xs i v) ?_
  refine la_go 1 (fun _ _ _ => la_arg rfl n1 e1) ?_
  refine la_inv (rest := []) rfl rfl rfl (Nat.le_of_ble_eq_true rfl) rfl rfl ⟨_, rfl⟩ rfl rfl (Nat.le_of_ble_eq_true rfl) q2 ?_
  refine la_go 2 (lq_72 xs i v) ?_
  exact tail _ _ hr
theorem lq_73 (xs : List Int32) (i : Int32) (bc : Nat → List Value → pm_H → pm_R) (n : Nat) (h : pm_H) : la_R xs bc (n + 1) 664 i [] h = la_R xs bc n 665 i [.ref 8] h := rfl
theorem lq_74 (xs : List Int32) (i : Int32) (v : Int32) (bc : Nat → List Value → pm_H → pm_R) (n : Nat) (h : pm_H) : la_R xs bc (n + 2) 668 i [.int v] h = la_R xs bc n 670 i [.ref 70] h := rfl
theorem lq_75 (xs : List Int32) (i : Int32) (v : Int32) (bc : Nat → List Value → pm_H → pm_R) (n : Nat) (h : pm_H) : la_R xs bc (n + 2) 673 i [.int v] h = la_R xs bc n 1333 i [] h := rfl
theorem lz_16 {xs : List Int32} {i : Int32} {g : qM} {u : qW} (h : w_R g) (tail : ∀ g' u', w_R g' → la_G xs 1333 i [] g' u') : la_G xs 664 i [] g u := by
  obtain ⟨v, g1, u1, g2, u2, q1, q2, hr⟩ := pr_stuck g u h
  refine la_go 1 (lq_73 xs i) ?_
  refine la_inv (rest := []) rfl rfl rfl (Nat.le_of_ble_eq_true rfl) rfl rfl ⟨_, rfl⟩ rfl rfl (Nat.le_of_ble_eq_true rfl) q1 ?_
  refine la_go 2 (lq_74 xs i v) ?_
  refine la_inv (rest := []) rfl rfl rfl (Nat.le_of_ble_eq_true rfl) rfl rfl ⟨_, rfl⟩ rfl rfl (Nat.le_of_ble_eq_true rfl) q2 ?_
  refine la_go 2 (lq_75 xs i v) ?_
  exact tail _ _ hr
theorem lq_76 (xs : List Int32) (i : Int32) (bc : Nat → List Value → pm_H → pm_R) (n : Nat) (h : pm_H) : la_R xs bc (n + 1) 677 i [] h = la_R xs bc n 678 i [.ref 8] h := rfl
theorem lq_77 (xs : List Int32) (i : Int32) (v : Int32) (bc : Nat → List Value → pm_H → pm_R) (n : Nat) (h : pm_H) : la_R xs bc (n + 2) 681 i [.int v] h = la_R xs bc n 683 i [.ref 70] h := rfl
theorem lq_78 (xs : List Int32) (i : Int32) (v : Int32) (bc : Nat → List Value → pm_H → pm_R) (n : Nat) (h : pm_H) : la_R xs bc (n + 2) 686 i [.int v] h = la_R xs bc n 1333 i [] h := rfl
theorem lz_17 {xs : List Int32} {i : Int32} {g : qM} {u : qW} (h : w_R g) (tail : ∀ g' u', w_R g' → la_G xs 1333 i [] g' u') : la_G xs 677 i [] g u := by
  obtain ⟨v, g1, u1, g2, u2, q1, q2, hr⟩ := pr_strain g u h
  refine la_go 1 (lq_76 xs i) ?_
  refine la_inv (rest := []) rfl rfl rfl (Nat.le_of_ble_eq_true rfl) rfl rfl ⟨_, rfl⟩ rfl rfl (Nat.le_of_ble_eq_true rfl) q1 ?_
  refine la_go 2 (lq_77 xs i v) ?_
  refine la_inv (rest := []) rfl rfl rfl (Nat.le_of_ble_eq_true rfl) rfl rfl ⟨_, rfl⟩ rfl rfl (Nat.le_of_ble_eq_true rfl) q2 ?_
  refine la_go 2 (lq_78 xs i v) ?_
  exact tail _ _ hr
theorem lq_79 (xs : List Int32) (i : Int32) (bc : Nat → List Value → pm_H → pm_R) (n : Nat) (h : pm_H) : la_R xs bc (n + 5) 690 i [] h = la_R xs bc n 695 i [.int (i + Int32.ofInt 1), .ref 0, .ref 8] h := rfl
theorem lq_80 (xs : List Int32) (i : Int32) (v : Int32) (bc : Nat → List Value → pm_H → pm_R) (n : Nat) (h : pm_H) : la_R xs bc (n + 6) 699 i [.int v] h = la_R xs bc n 705 i [.int (i + Int32.ofInt 1), .ref 0, .ref 70] h := rfl
theorem lq_81 (xs : List Int32) (i : Int32) (v : Int32) (bc : Nat → List Value → pm_H → pm_R) (n : Nat) (h : pm_H) : la_R xs bc (n + 2) 709 i [.int v] h = la_R xs bc n 1333 i [] h := rfl
theorem lz_18 {xs : List Int32} {i : Int32} {g : qM} {u : qW} (h : w_R g) {x1 : Int32} (n1 : ¬ i + Int32.ofInt 1 < 0) (e1 : xs[(i + Int32.ofInt 1).toNatClampNeg]? = some x1) (tail : ∀ g' u', w_R g' → la_G xs 1333 i [] g' u') : la_G xs 690 i [] g u := by
  obtain ⟨v, g1, u1, g2, u2, q1, q2, hr⟩ := pr_go x1 g u h
  refine la_go 5 (lq_79 xs i) ?_
  refine la_go 1 (fun _ _ _ => la_arg rfl n1 e1) ?_
  refine la_inv (rest := []) rfl rfl rfl (Nat.le_of_ble_eq_true rfl) rfl rfl ⟨_, rfl⟩ rfl rfl (Nat.le_of_ble_eq_true rfl) q1 ?_
  refine la_go 6 (lq_80 xs i v) ?_
  refine la_go 1 (fun _ _ _ => la_arg rfl n1 e1) ?_
  refine la_inv (rest := []) rfl rfl rfl (Nat.le_of_ble_eq_true rfl) rfl rfl ⟨_, rfl⟩ rfl rfl (Nat.le_of_ble_eq_true rfl) q2 ?_
  refine la_go 2 (lq_81 xs i v) ?_
  exact tail _ _ hr
theorem lq_82 (xs : List Int32) (i : Int32) (bc : Nat → List Value → pm_H → pm_R) (n : Nat) (h : pm_H) : la_R xs bc (n + 5) 713 i [] h = la_R xs bc n 718 i [.int (i + Int32.ofInt 1), .ref 0, .ref 8] h := rfl
theorem lq_83 (xs : List Int32) (i : Int32) (x1 : Int32) (bc : Nat → List Value → pm_H → pm_R) (n : Nat) (h : pm_H) : la_R xs bc (n + 4) 719 i [.int x1, .ref 8] h = la_R xs bc n 723 i [.int (i + Int32.ofInt 2), .ref 0, .int x1, .ref 8] h := rfl
theorem lq_84 (xs : List Int32) (i : Int32) (x1 : Int32) (x2 : Int32) (bc : Nat → List Value → pm_H → pm_R) (n : Nat) (h : pm_H) : la_R xs bc (n + 4) 724 i [.int x2, .int x1, .ref 8] h = la_R xs bc n 728 i [.int (i + Int32.ofInt 3), .ref 0, .int x2, .int x1, .ref 8] h := rfl
theorem lq_85 (xs : List Int32) (i : Int32) (v : Int32) (bc : Nat → List Value → pm_H → pm_R) (n : Nat) (h : pm_H) : la_R xs bc (n + 6) 732 i [.int v] h = la_R xs bc n 738 i [.int (i + Int32.ofInt 1), .ref 0, .ref 70] h := rfl
theorem lq_86 (xs : List Int32) (i : Int32) (x1 : Int32) (bc : Nat → List Value → pm_H → pm_R) (n : Nat) (h : pm_H) : la_R xs bc (n + 4) 739 i [.int x1, .ref 70] h = la_R xs bc n 743 i [.int (i + Int32.ofInt 2), .ref 0, .int x1, .ref 70] h := rfl
theorem lq_87 (xs : List Int32) (i : Int32) (x1 : Int32) (x2 : Int32) (bc : Nat → List Value → pm_H → pm_R) (n : Nat) (h : pm_H) : la_R xs bc (n + 4) 744 i [.int x2, .int x1, .ref 70] h = la_R xs bc n 748 i [.int (i + Int32.ofInt 3), .ref 0, .int x2, .int x1, .ref 70] h := rfl
theorem lq_88 (xs : List Int32) (i : Int32) (v : Int32) (bc : Nat → List Value → pm_H → pm_R) (n : Nat) (h : pm_H) : la_R xs bc (n + 2) 752 i [.int v] h = la_R xs bc n 1333 i [] h := rfl
theorem lz_19 {xs : List Int32} {i : Int32} {g : qM} {u : qW} (h : w_R g) {x1 : Int32} (n1 : ¬ i + Int32.ofInt 1 < 0) (e1 : xs[(i + Int32.ofInt 1).toNatClampNeg]? = some x1) {x2 : Int32} (n2 : ¬ i + Int32.ofInt 2 < 0) (e2 : xs[(i + Int32.ofInt 2).toNatClampNeg]? = some x2) {x3 : Int32} (n3 : ¬ i + Int32.ofInt 3 < 0) (e3 : xs[(i + Int32.ofInt 3).toNatClampNeg]? = some x3) (tail : ∀ g' u', w_R g' → la_G xs 1333 i [] g' u') : la_G xs 713 i [] g u := by
  obtain ⟨v, g1, u1, g2, u2, q1, q2, hr⟩ := pr_ahead x1 x2 x3 g u h
  refine la_go 5 (lq_82 xs i) ?_
  refine la_go 1 (fun _ _ _ => la_arg rfl n1 e1) ?_
  refine la_go 4 (lq_83 xs i x1) ?_
  refine la_go 1 (fun _ _ _ => la_arg rfl n2 e2) ?_
  refine la_go 4 (lq_84 xs i x1 x2) ?_
  refine la_go 1 (fun _ _ _ => la_arg rfl n3 e3) ?_
  refine la_inv (rest := []) rfl rfl rfl (Nat.le_of_ble_eq_true rfl) rfl rfl ⟨_, rfl⟩ rfl rfl (Nat.le_of_ble_eq_true rfl) q1 ?_
  refine la_go 6 (lq_85 xs i v) ?_
  refine la_go 1 (fun _ _ _ => la_arg rfl n1 e1) ?_
  refine la_go 4 (lq_86 xs i x1) ?_
  refine la_go 1 (fun _ _ _ => la_arg rfl n2 e2) ?_
  refine la_go 4 (lq_87 xs i x1 x2) ?_
  refine la_go 1 (fun _ _ _ => la_arg rfl n3 e3) ?_
  refine la_inv (rest := []) rfl rfl rfl (Nat.le_of_ble_eq_true rfl) rfl rfl ⟨_, rfl⟩ rfl rfl (Nat.le_of_ble_eq_true rfl) q2 ?_
  refine la_go 2 (lq_88 xs i v) ?_
  exact tail _ _ hr
theorem lq_89 (xs : List Int32) (i : Int32) (bc : Nat → List Value → pm_H → pm_R) (n : Nat) (h : pm_H) : la_R xs bc (n + 1) 756 i [] h = la_R xs bc n 757 i [.ref 8] h := rfl
theorem lq_90 (xs : List Int32) (i : Int32) (v : Int32) (bc : Nat → List Value → pm_H → pm_R) (n : Nat) (h : pm_H) : la_R xs bc (n + 2) 760 i [.int v] h = la_R xs bc n 762 i [.ref 70] h := rfl
theorem lq_91 (xs : List Int32) (i : Int32) (v : Int32) (bc : Nat → List Value → pm_H → pm_R) (n : Nat) (h : pm_H) : la_R xs bc (n + 2) 765 i [.int v] h = la_R xs bc n 1333 i [] h := rfl
theorem lz_20 {xs : List Int32} {i : Int32} {g : qM} {u : qW} (h : w_R g) (tail : ∀ g' u', w_R g' → la_G xs 1333 i [] g' u') : la_G xs 756 i [] g u := by
  obtain ⟨v, g1, u1, g2, u2, q1, q2, hr⟩ := pr_rest g u h
  refine la_go 1 (lq_89 xs i) ?_
  refine la_inv (rest := []) rfl rfl rfl (Nat.le_of_ble_eq_true rfl) rfl rfl ⟨_, rfl⟩ rfl rfl (Nat.le_of_ble_eq_true rfl) q1 ?_
  refine la_go 2 (lq_90 xs i v) ?_
  refine la_inv (rest := []) rfl rfl rfl (Nat.le_of_ble_eq_true rfl) rfl rfl ⟨_, rfl⟩ rfl rfl (Nat.le_of_ble_eq_true rfl) q2 ?_
  refine la_go 2 (lq_91 xs i v) ?_
  exact tail _ _ hr
theorem lq_92 (xs : List Int32) (i : Int32) (bc : Nat → List Value → pm_H → pm_R) (n : Nat) (h : pm_H) : la_R xs bc (n + 5) 769 i [] h = la_R xs bc n 774 i [.int (i + Int32.ofInt 1), .ref 0, .ref 8] h := rfl
theorem lq_93 (xs : List Int32) (i : Int32) (v : Int32) (bc : Nat → List Value → pm_H → pm_R) (n : Nat) (h : pm_H) : la_R xs bc (n + 6) 778 i [.int v] h = la_R xs bc n 784 i [.int (i + Int32.ofInt 1), .ref 0, .ref 70] h := rfl
theorem lq_94 (xs : List Int32) (i : Int32) (v : Int32) (bc : Nat → List Value → pm_H → pm_R) (n : Nat) (h : pm_H) : la_R xs bc (n + 2) 788 i [.int v] h = la_R xs bc n 1333 i [] h := rfl
theorem lz_21 {xs : List Int32} {i : Int32} {g : qM} {u : qW} (h : w_R g) {x1 : Int32} (n1 : ¬ i + Int32.ofInt 1 < 0) (e1 : xs[(i + Int32.ofInt 1).toNatClampNeg]? = some x1) (tail : ∀ g' u', w_R g' → la_G xs 1333 i [] g' u') : la_G xs 769 i [] g u := by
  obtain ⟨v, g1, u1, g2, u2, q1, q2, hr⟩ := pr_again x1 g u h
  refine la_go 5 (lq_92 xs i) ?_
  refine la_go 1 (fun _ _ _ => la_arg rfl n1 e1) ?_
  refine la_inv (rest := []) rfl rfl rfl (Nat.le_of_ble_eq_true rfl) rfl rfl ⟨_, rfl⟩ rfl rfl (Nat.le_of_ble_eq_true rfl) q1 ?_
  refine la_go 6 (lq_93 xs i v) ?_
  refine la_go 1 (fun _ _ _ => la_arg rfl n1 e1) ?_
  refine la_inv (rest := []) rfl rfl rfl (Nat.le_of_ble_eq_true rfl) rfl rfl ⟨_, rfl⟩ rfl rfl (Nat.le_of_ble_eq_true rfl) q2 ?_
  refine la_go 2 (lq_94 xs i v) ?_
  exact tail _ _ hr
theorem lq_95 (xs : List Int32) (i : Int32) (bc : Nat → List Value → pm_H → pm_R) (n : Nat) (h : pm_H) : la_R xs bc (n + 5) 792 i [] h = la_R xs bc n 797 i [.int (i + Int32.ofInt 1), .ref 0, .ref 8] h := rfl
theorem lq_96 (xs : List Int32) (i : Int32) (x1 : Int32) (bc : Nat → List Value → pm_H → pm_R) (n : Nat) (h : pm_H) : la_R xs bc (n + 4) 798 i [.int x1, .ref 8] h = la_R xs bc n 802 i [.int (i + Int32.ofInt 2), .ref 0, .int x1, .ref 8] h := rfl
theorem lq_97 (xs : List Int32) (i : Int32) (v : Int32) (bc : Nat → List Value → pm_H → pm_R) (n : Nat) (h : pm_H) : la_R xs bc (n + 6) 806 i [.int v] h = la_R xs bc n 812 i [.int (i + Int32.ofInt 1), .ref 0, .ref 70] h := rfl
theorem lq_98 (xs : List Int32) (i : Int32) (x1 : Int32) (bc : Nat → List Value → pm_H → pm_R) (n : Nat) (h : pm_H) : la_R xs bc (n + 4) 813 i [.int x1, .ref 70] h = la_R xs bc n 817 i [.int (i + Int32.ofInt 2), .ref 0, .int x1, .ref 70] h := rfl
theorem lq_99 (xs : List Int32) (i : Int32) (v : Int32) (bc : Nat → List Value → pm_H → pm_R) (n : Nat) (h : pm_H) : la_R xs bc (n + 2) 821 i [.int v] h = la_R xs bc n 1333 i [] h := rfl
theorem lz_22 {xs : List Int32} {i : Int32} {g : qM} {u : qW} (h : w_R g) {x1 : Int32} (n1 : ¬ i + Int32.ofInt 1 < 0) (e1 : xs[(i + Int32.ofInt 1).toNatClampNeg]? = some x1) {x2 : Int32} (n2 : ¬ i + Int32.ofInt 2 < 0) (e2 : xs[(i + Int32.ofInt 2).toNatClampNeg]? = some x2) (tail : ∀ g' u', w_R g' → la_G xs 1333 i [] g' u') : la_G xs 792 i [] g u := by
  obtain ⟨v, g1, u1, g2, u2, q1, q2, hr⟩ := pr_setting x1 x2 g u h
  refine la_go 5 (lq_95 xs i) ?_
  refine la_go 1 (fun _ _ _ => la_arg rfl n1 e1) ?_
  refine la_go 4 (lq_96 xs i x1) ?_
  refine la_go 1 (fun _ _ _ => la_arg rfl n2 e2) ?_
  refine la_inv (rest := []) rfl rfl rfl (Nat.le_of_ble_eq_true rfl) rfl rfl ⟨_, rfl⟩ rfl rfl (Nat.le_of_ble_eq_true rfl) q1 ?_
  refine la_go 6 (lq_97 xs i v) ?_
  refine la_go 1 (fun _ _ _ => la_arg rfl n1 e1) ?_
  refine la_go 4 (lq_98 xs i x1) ?_
  refine la_go 1 (fun _ _ _ => la_arg rfl n2 e2) ?_
  refine la_inv (rest := []) rfl rfl rfl (Nat.le_of_ble_eq_true rfl) rfl rfl ⟨_, rfl⟩ rfl rfl (Nat.le_of_ble_eq_true rfl) q2 ?_
  refine la_go 2 (lq_99 xs i v) ?_
  exact tail _ _ hr
theorem lq_100 (xs : List Int32) (i : Int32) (bc : Nat → List Value → pm_H → pm_R) (n : Nat) (h : pm_H) : la_R xs bc (n + 1) 825 i [] h = la_R xs bc n 826 i [.ref 8] h := rfl
theorem lq_101 (xs : List Int32) (i : Int32) (v : Int32) (bc : Nat → List Value → pm_H → pm_R) (n : Nat) (h : pm_H) : la_R xs bc (n + 2) 829 i [.int v] h = la_R xs bc n 831 i [.ref 70] h := rfl
theorem lq_102 (xs : List Int32) (i : Int32) (v : Int32) (bc : Nat → List Value → pm_H → pm_R) (n : Nat) (h : pm_H) : la_R xs bc (n + 2) 834 i [.int v] h = la_R xs bc n 1333 i [] h := rfl
theorem lz_23 {xs : List Int32} {i : Int32} {g : qM} {u : qW} (h : w_R g) (tail : ∀ g' u', w_R g' → la_G xs 1333 i [] g' u') : la_G xs 825 i [] g u := by
  obtain ⟨v, g1, u1, g2, u2, q1, q2, hr⟩ := pr_out g u h
  refine la_go 1 (lq_100 xs i) ?_
  refine la_inv (rest := []) rfl rfl rfl (Nat.le_of_ble_eq_true rfl) rfl rfl ⟨_, rfl⟩ rfl rfl (Nat.le_of_ble_eq_true rfl) q1 ?_
  refine la_go 2 (lq_101 xs i v) ?_
  refine la_inv (rest := []) rfl rfl rfl (Nat.le_of_ble_eq_true rfl) rfl rfl ⟨_, rfl⟩ rfl rfl (Nat.le_of_ble_eq_true rfl) q2 ?_
  refine la_go 2 (lq_102 xs i v) ?_
  exact tail _ _ hr
theorem lq_103 (xs : List Int32) (i : Int32) (bc : Nat → List Value → pm_H → pm_R) (n : Nat) (h : pm_H) : la_R xs bc (n + 5) 838 i [] h = la_R xs bc n 843 i [.int (i + Int32.ofInt 1), .ref 0, .ref 8] h := rfl
theorem lq_104 (xs : List Int32) (i : Int32) (v : Int32) (bc : Nat → List Value → pm_H → pm_R) (n : Nat) (h : pm_H) : la_R xs bc (n + 6) 847 i [.int v] h = la_R xs bc n 853 i [.int (i + Int32.ofInt 1), .ref 0, .ref 70] h := rfl
theorem lq_105 (xs : List Int32) (i : Int32) (v : Int32) (bc : Nat → List Value → pm_H → pm_R) (n : Nat) (h : pm_H) : la_R xs bc (n + 2) 857 i [.int v] h = la_R xs bc n 1333 i [] h := rfl
theorem lz_24 {xs : List Int32} {i : Int32} {g : qM} {u : qW} (h : w_R g) {x1 : Int32} (n1 : ¬ i + Int32.ofInt 1 < 0) (e1 : xs[(i + Int32.ofInt 1).toNatClampNeg]? = some x1) (tail : ∀ g' u', w_R g' → la_G xs 1333 i [] g' u') : la_G xs 838 i [] g u := by
  obtain ⟨v, g1, u1, g2, u2, q1, q2, hr⟩ := pr_calm x1 g u h
  refine la_go 5 (lq_103 xs i) ?_
  refine la_go 1 (fun _ _ _ => la_arg rfl n1 e1) ?_
  refine la_inv (rest := []) rfl rfl rfl (Nat.le_of_ble_eq_true rfl) rfl rfl ⟨_, rfl⟩ rfl rfl (Nat.le_of_ble_eq_true rfl) q1 ?_
  refine la_go 6 (lq_104 xs i v) ?_
  refine la_go 1 (fun _ _ _ => la_arg rfl n1 e1) ?_
  refine la_inv (rest := []) rfl rfl rfl (Nat.le_of_ble_eq_true rfl) rfl rfl ⟨_, rfl⟩ rfl rfl (Nat.le_of_ble_eq_true rfl) q2 ?_
  refine la_go 2 (lq_105 xs i v) ?_
  exact tail _ _ hr
theorem lq_106 (xs : List Int32) (i : Int32) (bc : Nat → List Value → pm_H → pm_R) (n : Nat) (h : pm_H) : la_R xs bc (n + 5) 861 i [] h = la_R xs bc n 866 i [.int (i + Int32.ofInt 1), .ref 0, .ref 8] h := rfl
theorem lq_107 (xs : List Int32) (i : Int32) (x1 : Int32) (bc : Nat → List Value → pm_H → pm_R) (n : Nat) (h : pm_H) : la_R xs bc (n + 4) 867 i [.int x1, .ref 8] h = la_R xs bc n 871 i [.int (i + Int32.ofInt 2), .ref 0, .int x1, .ref 8] h := rfl
theorem lq_108 (xs : List Int32) (i : Int32) (x1 : Int32) (x2 : Int32) (bc : Nat → List Value → pm_H → pm_R) (n : Nat) (h : pm_H) : la_R xs bc (n + 4) 872 i [.int x2, .int x1, .ref 8] h = la_R xs bc n 876 i [.int (i + Int32.ofInt 3), .ref 0, .int x2, .int x1, .ref 8] h := rfl
theorem lq_109 (xs : List Int32) (i : Int32) (x1 : Int32) (x2 : Int32) (x3 : Int32) (bc : Nat → List Value → pm_H → pm_R) (n : Nat) (h : pm_H) : la_R xs bc (n + 4) 877 i [.int x3, .int x2, .int x1, .ref 8] h = la_R xs bc n 881 i [.int (i + Int32.ofInt 4), .ref 0, .int x3, .int x2, .int x1, .ref 8] h := rfl
theorem lq_110 (xs : List Int32) (i : Int32) (v : Int32) (bc : Nat → List Value → pm_H → pm_R) (n : Nat) (h : pm_H) : la_R xs bc (n + 6) 885 i [.int v] h = la_R xs bc n 891 i [.int (i + Int32.ofInt 1), .ref 0, .ref 70] h := rfl
theorem lq_111 (xs : List Int32) (i : Int32) (x1 : Int32) (bc : Nat → List Value → pm_H → pm_R) (n : Nat) (h : pm_H) : la_R xs bc (n + 4) 892 i [.int x1, .ref 70] h = la_R xs bc n 896 i [.int (i + Int32.ofInt 2), .ref 0, .int x1, .ref 70] h := rfl
theorem lq_112 (xs : List Int32) (i : Int32) (x1 : Int32) (x2 : Int32) (bc : Nat → List Value → pm_H → pm_R) (n : Nat) (h : pm_H) : la_R xs bc (n + 4) 897 i [.int x2, .int x1, .ref 70] h = la_R xs bc n 901 i [.int (i + Int32.ofInt 3), .ref 0, .int x2, .int x1, .ref 70] h := rfl
theorem lq_113 (xs : List Int32) (i : Int32) (x1 : Int32) (x2 : Int32) (x3 : Int32) (bc : Nat → List Value → pm_H → pm_R) (n : Nat) (h : pm_H) : la_R xs bc (n + 4) 902 i [.int x3, .int x2, .int x1, .ref 70] h = la_R xs bc n 906 i [.int (i + Int32.ofInt 4), .ref 0, .int x3, .int x2, .int x1, .ref 70] h := rfl
theorem lq_114 (xs : List Int32) (i : Int32) (v : Int32) (bc : Nat → List Value → pm_H → pm_R) (n : Nat) (h : pm_H) : la_R xs bc (n + 2) 910 i [.int v] h = la_R xs bc n 1333 i [] h := rfl
theorem lz_25 {xs : List Int32} {i : Int32} {g : qM} {u : qW} (h : w_R g) {x1 : Int32} (n1 : ¬ i + Int32.ofInt 1 < 0) (e1 : xs[(i + Int32.ofInt 1).toNatClampNeg]? = some x1) {x2 : Int32} (n2 : ¬ i + Int32.ofInt 2 < 0) (e2 : xs[(i + Int32.ofInt 2).toNatClampNeg]? = some x2) {x3 : Int32} (n3 : ¬ i + Int32.ofInt 3 < 0) (e3 : xs[(i + Int32.ofInt 3).toNatClampNeg]? = some x3) {x4 : Int32} (n4 : ¬ i + Int32.ofInt 4 < 0) (e4 : xs[(i + Int32.ofInt 4).toNatClampNeg]? = some x4) (tail : ∀ g' u', w_R g' → la_G xs 1333 i [] g' u') : la_G xs 861 i [] g u := by
  obtain ⟨v, g1, u1, g2, u2, q1, q2, hr⟩ := pr_nurse x1 x2 x3 x4 g u h
  refine la_go 5 (lq_106 xs i) ?_
  refine la_go 1 (fun _ _ _ => la_arg rfl n1 e1) ?_
  refine la_go 4 (lq_107 xs i x1) ?_
  refine la_go 1 (fun _ _ _ => la_arg rfl n2 e2) ?_
  refine la_go 4 (lq_108 xs i x1 x2) ?_
  refine la_go 1 (fun _ _ _ => la_arg rfl n3 e3) ?_
  refine la_go 4 (lq_109 xs i x1 x2 x3) ?_
  refine la_go 1 (fun _ _ _ => la_arg rfl n4 e4) ?_
  refine la_inv (rest := []) rfl rfl rfl (Nat.le_of_ble_eq_true rfl) rfl rfl ⟨_, rfl⟩ rfl rfl (Nat.le_of_ble_eq_true rfl) q1 ?_
  refine la_go 6 (lq_110 xs i v) ?_
  refine la_go 1 (fun _ _ _ => la_arg rfl n1 e1) ?_
  refine la_go 4 (lq_111 xs i x1) ?_
  refine la_go 1 (fun _ _ _ => la_arg rfl n2 e2) ?_
  refine la_go 4 (lq_112 xs i x1 x2) ?_
  refine la_go 1 (fun _ _ _ => la_arg rfl n3 e3) ?_
  refine la_go 4 (lq_113 xs i x1 x2 x3) ?_
  refine la_go 1 (fun _ _ _ => la_arg rfl n4 e4) ?_
  refine la_inv (rest := []) rfl rfl rfl (Nat.le_of_ble_eq_true rfl) rfl rfl ⟨_, rfl⟩ rfl rfl (Nat.le_of_ble_eq_true rfl) q2 ?_
  refine la_go 2 (lq_114 xs i v) ?_
  exact tail _ _ hr
theorem lq_115 (xs : List Int32) (i : Int32) (bc : Nat → List Value → pm_H → pm_R) (n : Nat) (h : pm_H) : la_R xs bc (n + 5) 914 i [] h = la_R xs bc n 919 i [.int (i + Int32.ofInt 1), .ref 0, .ref 8] h := rfl
theorem lq_116 (xs : List Int32) (i : Int32) (x1 : Int32) (bc : Nat → List Value → pm_H → pm_R) (n : Nat) (h : pm_H) : la_R xs bc (n + 4) 920 i [.int x1, .ref 8] h = la_R xs bc n 924 i [.int (i + Int32.ofInt 2), .ref 0, .int x1, .ref 8] h := rfl
theorem lq_117 (xs : List Int32) (i : Int32) (x1 : Int32) (x2 : Int32) (bc : Nat → List Value → pm_H → pm_R) (n : Nat) (h : pm_H) : la_R xs bc (n + 4) 925 i [.int x2, .int x1, .ref 8] h = la_R xs bc n 929 i [.int (i + Int32.ofInt 3), .ref 0, .int x2, .int x1, .ref 8] h := rfl
theorem lq_118 (xs : List Int32) (i : Int32) (v : Int32) (bc : Nat → List Value → pm_H → pm_R) (n : Nat) (h : pm_H) : la_R xs bc (n + 6) 933 i [.int v] h = la_R xs bc n 939 i [.int (i + Int32.ofInt 1), .ref 0, .ref 70] h := rfl
theorem lq_119 (xs : List Int32) (i : Int32) (x1 : Int32) (bc : Nat → List Value → pm_H → pm_R) (n : Nat) (h : pm_H) : la_R xs bc (n + 4) 940 i [.int x1, .ref 70] h = la_R xs bc n 944 i [.int (i + Int32.ofInt 2), .ref 0, .int x1, .ref 70] h := rfl
theorem lq_120 (xs : List Int32) (i : Int32) (x1 : Int32) (x2 : Int32) (bc : Nat → List Value → pm_H → pm_R) (n : Nat) (h : pm_H) : la_R xs bc (n + 4) 945 i [.int x2, .int x1, .ref 70] h = la_R xs bc n 949 i [.int (i + Int32.ofInt 3), .ref 0, .int x2, .int x1, .ref 70] h := rfl
theorem lq_121 (xs : List Int32) (i : Int32) (v : Int32) (bc : Nat → List Value → pm_H → pm_R) (n : Nat) (h : pm_H) : la_R xs bc (n + 2) 953 i [.int v] h = la_R xs bc n 1333 i [] h := rfl
theorem lz_26 {xs : List Int32} {i : Int32} {g : qM} {u : qW} (h : w_R g) {x1 : Int32} (n1 : ¬ i + Int32.ofInt 1 < 0) (e1 : xs[(i + Int32.ofInt 1).toNatClampNeg]? = some x1) {x2 : Int32} (n2 : ¬ i + Int32.ofInt 2 < 0) (e2 : xs[(i + Int32.ofInt 2).toNatClampNeg]? = some x2) {x3 : Int32} (n3 : ¬ i + Int32.ofInt 3 < 0) (e3 : xs[(i + Int32.ofInt 3).toNatClampNeg]? = some x3) (tail : ∀ g' u', w_R g' → la_G xs 1333 i [] g' u') : la_G xs 914 i [] g u := by
  obtain ⟨v, g1, u1, g2, u2, q1, q2, hr⟩ := pr_hang x1 x2 x3 g u h
  refine la_go 5 (lq_115 xs i) ?_
  refine la_go 1 (fun _ _ _ => la_arg rfl n1 e1) ?_
  refine la_go 4 (lq_116 xs i x1) ?_
  refine la_go 1 (fun _ _ _ => la_arg rfl n2 e2) ?_
  refine la_go 4 (lq_117 xs i x1 x2) ?_
  refine la_go 1 (fun _ _ _ => la_arg rfl n3 e3) ?_
  refine la_inv (rest := []) rfl rfl rfl (Nat.le_of_ble_eq_true rfl) rfl rfl ⟨_, rfl⟩ rfl rfl (Nat.le_of_ble_eq_true rfl) q1 ?_
  refine la_go 6 (lq_118 xs i v) ?_
  refine la_go 1 (fun _ _ _ => la_arg rfl n1 e1) ?_
  refine la_go 4 (lq_119 xs i x1) ?_
  refine la_go 1 (fun _ _ _ => la_arg rfl n2 e2) ?_
  refine la_go 4 (lq_120 xs i x1 x2) ?_
  refine la_go 1 (fun _ _ _ => la_arg rfl n3 e3) ?_
  refine la_inv (rest := []) rfl rfl rfl (Nat.le_of_ble_eq_true rfl) rfl rfl ⟨_, rfl⟩ rfl rfl (Nat.le_of_ble_eq_true rfl) q2 ?_
  refine la_go 2 (lq_121 xs i v) ?_
  exact tail _ _ hr
theorem lq_122 (xs : List Int32) (i : Int32) (bc : Nat → List Value → pm_H → pm_R) (n : Nat) (h : pm_H) : la_R xs bc (n + 5) 957 i [] h = la_R xs bc n 962 i [.int (i + Int32.ofInt 1), .ref 0, .ref 8] h := rfl
theorem lq_123 (xs : List Int32) (i : Int32) (x1 : Int32) (bc : Nat → List Value → pm_H → pm_R) (n : Nat) (h : pm_H) : la_R xs bc (n + 4) 963 i [.int x1, .ref 8] h = la_R xs bc n 967 i [.int (i + Int32.ofInt 2), .ref 0, .int x1, .ref 8] h := rfl
theorem lq_124 (xs : List Int32) (i : Int32) (x1 : Int32) (x2 : Int32) (bc : Nat → List Value → pm_H → pm_R) (n : Nat) (h : pm_H) : la_R xs bc (n + 4) 968 i [.int x2, .int x1, .ref 8] h = la_R xs bc n 972 i [.int (i + Int32.ofInt 3), .ref 0, .int x2, .int x1, .ref 8] h := rfl
theorem lq_125 (xs : List Int32) (i : Int32) (v : Int64) (bc : Nat → List Value → pm_H → pm_R) (n : Nat) (h : pm_H) : la_R xs bc (n + 6) 976 i [.long v] h = la_R xs bc n 982 i [.int (i + Int32.ofInt 1), .ref 0, .ref 70] h := rfl
theorem lq_126 (xs : List Int32) (i : Int32) (x1 : Int32) (bc : Nat → List Value → pm_H → pm_R) (n : Nat) (h : pm_H) : la_R xs bc (n + 4) 983 i [.int x1, .ref 70] h = la_R xs bc n 987 i [.int (i + Int32.ofInt 2), .ref 0, .int x1, .ref 70] h := rfl
theorem lq_127 (xs : List Int32) (i : Int32) (x1 : Int32) (x2 : Int32) (bc : Nat → List Value → pm_H → pm_R) (n : Nat) (h : pm_H) : la_R xs bc (n + 4) 988 i [.int x2, .int x1, .ref 70] h = la_R xs bc n 992 i [.int (i + Int32.ofInt 3), .ref 0, .int x2, .int x1, .ref 70] h := rfl
theorem lq_128 (xs : List Int32) (i : Int32) (v : Int64) (bc : Nat → List Value → pm_H → pm_R) (n : Nat) (h : pm_H) : la_R xs bc (n + 2) 996 i [.long v] h = la_R xs bc n 1333 i [] h := rfl
theorem lz_27 {xs : List Int32} {i : Int32} {g : qM} {u : qW} (h : w_R g) {x1 : Int32} (n1 : ¬ i + Int32.ofInt 1 < 0) (e1 : xs[(i + Int32.ofInt 1).toNatClampNeg]? = some x1) {x2 : Int32} (n2 : ¬ i + Int32.ofInt 2 < 0) (e2 : xs[(i + Int32.ofInt 2).toNatClampNeg]? = some x2) {x3 : Int32} (n3 : ¬ i + Int32.ofInt 3 < 0) (e3 : xs[(i + Int32.ofInt 3).toNatClampNeg]? = some x3) (tail : ∀ g' u', w_R g' → la_G xs 1333 i [] g' u') : la_G xs 957 i [] g u := by
  obtain ⟨v, g1, u1, g2, u2, q1, q2, hr⟩ := pr_odds x1 x2 x3 g u h
  refine la_go 5 (lq_122 xs i) ?_
  refine la_go 1 (fun _ _ _ => la_arg rfl n1 e1) ?_
  refine la_go 4 (lq_123 xs i x1) ?_
  refine la_go 1 (fun _ _ _ => la_arg rfl n2 e2) ?_
  refine la_go 4 (lq_124 xs i x1 x2) ?_
  refine la_go 1 (fun _ _ _ => la_arg rfl n3 e3) ?_
  refine la_inv (rest := []) rfl rfl rfl (Nat.le_of_ble_eq_true rfl) rfl rfl ⟨_, rfl⟩ rfl rfl (Nat.le_of_ble_eq_true rfl) q1 ?_
  refine la_go 6 (lq_125 xs i v) ?_
  refine la_go 1 (fun _ _ _ => la_arg rfl n1 e1) ?_
  refine la_go 4 (lq_126 xs i x1) ?_
  refine la_go 1 (fun _ _ _ => la_arg rfl n2 e2) ?_
  refine la_go 4 (lq_127 xs i x1 x2) ?_
  refine la_go 1 (fun _ _ _ => la_arg rfl n3 e3) ?_
  refine la_inv (rest := []) rfl rfl rfl (Nat.le_of_ble_eq_true rfl) rfl rfl ⟨_, rfl⟩ rfl rfl (Nat.le_of_ble_eq_true rfl) q2 ?_
  refine la_go 2 (lq_128 xs i v) ?_
  exact tail _ _ hr
theorem lq_129 (xs : List Int32) (i : Int32) (bc : Nat → List Value → pm_H → pm_R) (n : Nat) (h : pm_H) : la_R xs bc (n + 5) 1000 i [] h = la_R xs bc n 1005 i [.int (i + Int32.ofInt 1), .ref 0, .ref 8] h := rfl
theorem lq_130 (xs : List Int32) (i : Int32) (x1 : Int32) (bc : Nat → List Value → pm_H → pm_R) (n : Nat) (h : pm_H) : la_R xs bc (n + 4) 1006 i [.int x1, .ref 8] h = la_R xs bc n 1010 i [.int (i + Int32.ofInt 2), .ref 0, .int x1, .ref 8] h := rfl
theorem lq_131 (xs : List Int32) (i : Int32) (v : Int32) (bc : Nat → List Value → pm_H → pm_R) (n : Nat) (h : pm_H) : la_R xs bc (n + 6) 1014 i [.int v] h = la_R xs bc n 1020 i [.int (i + Int32.ofInt 1), .ref 0, .ref 70] h := rfl
theorem lq_132 (xs : List Int32) (i : Int32) (x1 : Int32) (bc : Nat → List Value → pm_H → pm_R) (n : Nat) (h : pm_H) : la_R xs bc (n + 4) 1021 i [.int x1, .ref 70] h = la_R xs bc n 1025 i [.int (i + Int32.ofInt 2), .ref 0, .int x1, .ref 70] h := rfl
theorem lq_133 (xs : List Int32) (i : Int32) (v : Int32) (bc : Nat → List Value → pm_H → pm_R) (n : Nat) (h : pm_H) : la_R xs bc (n + 2) 1029 i [.int v] h = la_R xs bc n 1333 i [] h := rfl
theorem lz_28 {xs : List Int32} {i : Int32} {g : qM} {u : qW} (h : w_R g) {x1 : Int32} (n1 : ¬ i + Int32.ofInt 1 < 0) (e1 : xs[(i + Int32.ofInt 1).toNatClampNeg]? = some x1) {x2 : Int32} (n2 : ¬ i + Int32.ofInt 2 < 0) (e2 : xs[(i + Int32.ofInt 2).toNatClampNeg]? = some x2) (tail : ∀ g' u', w_R g' → la_G xs 1333 i [] g' u') : la_G xs 1000 i [] g u := by
  obtain ⟨v, g1, u1, g2, u2, q1, q2, hr⟩ := pr_see x1 x2 g u h
  refine la_go 5 (lq_129 xs i) ?_
  refine la_go 1 (fun _ _ _ => la_arg rfl n1 e1) ?_
  refine la_go 4 (lq_130 xs i x1) ?_
  refine la_go 1 (fun _ _ _ => la_arg rfl n2 e2) ?_
  refine la_inv (rest := []) rfl rfl rfl (Nat.le_of_ble_eq_true rfl) rfl rfl ⟨_, rfl⟩ rfl rfl (Nat.le_of_ble_eq_true rfl) q1 ?_
  refine la_go 6 (lq_131 xs i v) ?_
  refine la_go 1 (fun _ _ _ => la_arg rfl n1 e1) ?_
  refine la_go 4 (lq_132 xs i x1) ?_
  refine la_go 1 (fun _ _ _ => la_arg rfl n2 e2) ?_
  refine la_inv (rest := []) rfl rfl rfl (Nat.le_of_ble_eq_true rfl) rfl rfl ⟨_, rfl⟩ rfl rfl (Nat.le_of_ble_eq_true rfl) q2 ?_
  refine la_go 2 (lq_133 xs i v) ?_
  exact tail _ _ hr
theorem lq_134 (xs : List Int32) (i : Int32) (bc : Nat → List Value → pm_H → pm_R) (n : Nat) (h : pm_H) : la_R xs bc (n + 5) 1033 i [] h = la_R xs bc n 1038 i [.int (i + Int32.ofInt 1), .ref 0, .ref 8] h := rfl
theorem lq_135 (xs : List Int32) (i : Int32) (v : Int32) (bc : Nat → List Value → pm_H → pm_R) (n : Nat) (h : pm_H) : la_R xs bc (n + 6) 1042 i [.int v] h = la_R xs bc n 1048 i [.int (i + Int32.ofInt 1), .ref 0, .ref 70] h := rfl
theorem lq_136 (xs : List Int32) (i : Int32) (v : Int32) (bc : Nat → List Value → pm_H → pm_R) (n : Nat) (h : pm_H) : la_R xs bc (n + 2) 1052 i [.int v] h = la_R xs bc n 1333 i [] h := rfl
theorem lz_29 {xs : List Int32} {i : Int32} {g : qM} {u : qW} (h : w_R g) {x1 : Int32} (n1 : ¬ i + Int32.ofInt 1 < 0) (e1 : xs[(i + Int32.ofInt 1).toNatClampNeg]? = some x1) (tail : ∀ g' u', w_R g' → la_G xs 1333 i [] g' u') : la_G xs 1033 i [] g u := by
  obtain ⟨v, g1, u1, g2, u2, q1, q2, hr⟩ := pr_forget x1 g u h
  refine la_go 5 (lq_134 xs i) ?_
  refine la_go 1 (fun _ _ _ => la_arg rfl n1 e1) ?_
  refine la_inv (rest := []) rfl rfl rfl (Nat.le_of_ble_eq_true rfl) rfl rfl ⟨_, rfl⟩ rfl rfl (Nat.le_of_ble_eq_true rfl) q1 ?_
  refine la_go 6 (lq_135 xs i v) ?_
  refine la_go 1 (fun _ _ _ => la_arg rfl n1 e1) ?_
  refine la_inv (rest := []) rfl rfl rfl (Nat.le_of_ble_eq_true rfl) rfl rfl ⟨_, rfl⟩ rfl rfl (Nat.le_of_ble_eq_true rfl) q2 ?_
  refine la_go 2 (lq_136 xs i v) ?_
  exact tail _ _ hr
theorem lq_137 (xs : List Int32) (i : Int32) (bc : Nat → List Value → pm_H → pm_R) (n : Nat) (h : pm_H) : la_R xs bc (n + 5) 1056 i [] h = la_R xs bc n 1061 i [.int (i + Int32.ofInt 1), .ref 0, .ref 8] h := rfl
theorem lq_138 (xs : List Int32) (i : Int32) (v : Int32) (bc : Nat → List Value → pm_H → pm_R) (n : Nat) (h : pm_H) : la_R xs bc (n + 6) 1065 i [.int v] h = la_R xs bc n 1071 i [.int (i + Int32.ofInt 1), .ref 0, .ref 70] h := rfl
theorem lq_139 (xs : List Int32) (i : Int32) (v : Int32) (bc : Nat → List Value → pm_H → pm_R) (n : Nat) (h : pm_H) : la_R xs bc (n + 2) 1075 i [.int v] h = la_R xs bc n 1333 i [] h := rfl
theorem lz_30 {xs : List Int32} {i : Int32} {g : qM} {u : qW} (h : w_R g) {x1 : Int32} (n1 : ¬ i + Int32.ofInt 1 < 0) (e1 : xs[(i + Int32.ofInt 1).toNatClampNeg]? = some x1) (tail : ∀ g' u', w_R g' → la_G xs 1333 i [] g' u') : la_G xs 1056 i [] g u := by
  obtain ⟨v, g1, u1, g2, u2, q1, q2, hr⟩ := pr_moods x1 g u h
  refine la_go 5 (lq_137 xs i) ?_
  refine la_go 1 (fun _ _ _ => la_arg rfl n1 e1) ?_
  refine la_inv (rest := []) rfl rfl rfl (Nat.le_of_ble_eq_true rfl) rfl rfl ⟨_, rfl⟩ rfl rfl (Nat.le_of_ble_eq_true rfl) q1 ?_
  refine la_go 6 (lq_138 xs i v) ?_
  refine la_go 1 (fun _ _ _ => la_arg rfl n1 e1) ?_
  refine la_inv (rest := []) rfl rfl rfl (Nat.le_of_ble_eq_true rfl) rfl rfl ⟨_, rfl⟩ rfl rfl (Nat.le_of_ble_eq_true rfl) q2 ?_
  refine la_go 2 (lq_139 xs i v) ?_
  exact tail _ _ hr
theorem lq_140 (xs : List Int32) (i : Int32) (bc : Nat → List Value → pm_H → pm_R) (n : Nat) (h : pm_H) : la_R xs bc (n + 5) 1079 i [] h = la_R xs bc n 1084 i [.int (i + Int32.ofInt 1), .ref 0, .ref 8] h := rfl
theorem lq_141 (xs : List Int32) (i : Int32) (x1 : Int32) (bc : Nat → List Value → pm_H → pm_R) (n : Nat) (h : pm_H) : la_R xs bc (n + 4) 1085 i [.int x1, .ref 8] h = la_R xs bc n 1089 i [.int (i + Int32.ofInt 2), .ref 0, .int x1, .ref 8] h := rfl
theorem lq_142 (xs : List Int32) (i : Int32) (v : Int32) (bc : Nat → List Value → pm_H → pm_R) (n : Nat) (h : pm_H) : la_R xs bc (n + 6) 1093 i [.int v] h = la_R xs bc n 1099 i [.int (i + Int32.ofInt 1), .ref 0, .ref 70] h := rfl
theorem lq_143 (xs : List Int32) (i : Int32) (x1 : Int32) (bc : Nat → List Value → pm_H → pm_R) (n : Nat) (h : pm_H) : la_R xs bc (n + 4) 1100 i [.int x1, .ref 70] h = la_R xs bc n 1104 i [.int (i + Int32.ofInt 2), .ref 0, .int x1, .ref 70] h := rfl
theorem lq_144 (xs : List Int32) (i : Int32) (v : Int32) (bc : Nat → List Value → pm_H → pm_R) (n : Nat) (h : pm_H) : la_R xs bc (n + 2) 1108 i [.int v] h = la_R xs bc n 1333 i [] h := rfl
theorem lz_31 {xs : List Int32} {i : Int32} {g : qM} {u : qW} (h : w_R g) {x1 : Int32} (n1 : ¬ i + Int32.ofInt 1 < 0) (e1 : xs[(i + Int32.ofInt 1).toNatClampNeg]? = some x1) {x2 : Int32} (n2 : ¬ i + Int32.ofInt 2 < 0) (e2 : xs[(i + Int32.ofInt 2).toNatClampNeg]? = some x2) (tail : ∀ g' u', w_R g' → la_G xs 1333 i [] g' u') : la_G xs 1079 i [] g u := by
  obtain ⟨v, g1, u1, g2, u2, q1, q2, hr⟩ := pr_crowd x1 x2 g u h
  refine la_go 5 (lq_140 xs i) ?_
  refine la_go 1 (fun _ _ _ => la_arg rfl n1 e1) ?_
  refine la_go 4 (lq_141 xs i x1) ?_
  refine la_go 1 (fun _ _ _ => la_arg rfl n2 e2) ?_
  refine la_inv (rest := []) rfl rfl rfl (Nat.le_of_ble_eq_true rfl) rfl rfl ⟨_, rfl⟩ rfl rfl (Nat.le_of_ble_eq_true rfl) q1 ?_
  refine la_go 6 (lq_142 xs i v) ?_
  refine la_go 1 (fun _ _ _ => la_arg rfl n1 e1) ?_
  refine la_go 4 (lq_143 xs i x1) ?_
  refine la_go 1 (fun _ _ _ => la_arg rfl n2 e2) ?_
  refine la_inv (rest := []) rfl rfl rfl (Nat.le_of_ble_eq_true rfl) rfl rfl ⟨_, rfl⟩ rfl rfl (Nat.le_of_ble_eq_true rfl) q2 ?_
  refine la_go 2 (lq_144 xs i v) ?_
  exact tail _ _ hr
theorem lq_145 (xs : List Int32) (i : Int32) (bc : Nat → List Value → pm_H → pm_R) (n : Nat) (h : pm_H) : la_R xs bc (n + 5) 1112 i [] h = la_R xs bc n 1117 i [.int (i + Int32.ofInt 1), .ref 0, .ref 8] h := rfl
theorem lq_146 (xs : List Int32) (i : Int32) (v : Int32) (bc : Nat → List Value → pm_H → pm_R) (n : Nat) (h : pm_H) : la_R xs bc (n + 6) 1121 i [.int v] h = la_R xs bc n 1127 i [.int (i + Int32.ofInt 1), .ref 0, .ref 70] h := rfl
theorem lq_147 (xs : List Int32) (i : Int32) (v : Int32) (bc : Nat → List Value → pm_H → pm_R) (n : Nat) (h : pm_H) : la_R xs bc (n + 2) 1131 i [.int v] h = la_R xs bc n 1333 i [] h := rfl
theorem lz_32 {xs : List Int32} {i : Int32} {g : qM} {u : qW} (h : w_R g) {x1 : Int32} (n1 : ¬ i + Int32.ofInt 1 < 0) (e1 : xs[(i + Int32.ofInt 1).toNatClampNeg]? = some x1) (tail : ∀ g' u', w_R g' → la_G xs 1333 i [] g' u') : la_G xs 1112 i [] g u := by
  obtain ⟨v, g1, u1, g2, u2, q1, q2, hr⟩ := pr_keep x1 g u h
  refine la_go 5 (lq_145 xs i) ?_
  refine la_go 1 (fun _ _ _ => la_arg rfl n1 e1) ?_
  refine la_inv (rest := []) rfl rfl rfl (Nat.le_of_ble_eq_true rfl) rfl rfl ⟨_, rfl⟩ rfl rfl (Nat.le_of_ble_eq_true rfl) q1 ?_
  refine la_go 6 (lq_146 xs i v) ?_
  refine la_go 1 (fun _ _ _ => la_arg rfl n1 e1) ?_
  refine la_inv (rest := []) rfl rfl rfl (Nat.le_of_ble_eq_true rfl) rfl rfl ⟨_, rfl⟩ rfl rfl (Nat.le_of_ble_eq_true rfl) q2 ?_
  refine la_go 2 (lq_147 xs i v) ?_
  exact tail _ _ hr
theorem lq_148 (xs : List Int32) (i : Int32) (bc : Nat → List Value → pm_H → pm_R) (n : Nat) (h : pm_H) : la_R xs bc (n + 5) 1135 i [] h = la_R xs bc n 1140 i [.int (i + Int32.ofInt 1), .ref 0, .ref 8] h := rfl
theorem lq_149 (xs : List Int32) (i : Int32) (v : Int32) (bc : Nat → List Value → pm_H → pm_R) (n : Nat) (h : pm_H) : la_R xs bc (n + 6) 1144 i [.int v] h = la_R xs bc n 1150 i [.int (i + Int32.ofInt 1), .ref 0, .ref 70] h := rfl
theorem lq_150 (xs : List Int32) (i : Int32) (v : Int32) (bc : Nat → List Value → pm_H → pm_R) (n : Nat) (h : pm_H) : la_R xs bc (n + 2) 1154 i [.int v] h = la_R xs bc n 1333 i [] h := rfl
theorem lz_33 {xs : List Int32} {i : Int32} {g : qM} {u : qW} (h : w_R g) {x1 : Int32} (n1 : ¬ i + Int32.ofInt 1 < 0) (e1 : xs[(i + Int32.ofInt 1).toNatClampNeg]? = some x1) (tail : ∀ g' u', w_R g' → la_G xs 1333 i [] g' u') : la_G xs 1135 i [] g u := by
  obtain ⟨v, g1, u1, g2, u2, q1, q2, hr⟩ := pr_back x1 g u h
  refine la_go 5 (lq_148 xs i) ?_
  refine la_go 1 (fun _ _ _ => la_arg rfl n1 e1) ?_
  refine la_inv (rest := []) rfl rfl rfl (Nat.le_of_ble_eq_true rfl) rfl rfl ⟨_, rfl⟩ rfl rfl (Nat.le_of_ble_eq_true rfl) q1 ?_
  refine la_go 6 (lq_149 xs i v) ?_
  refine la_go 1 (fun _ _ _ => la_arg rfl n1 e1) ?_
  refine la_inv (rest := []) rfl rfl rfl (Nat.le_of_ble_eq_true rfl) rfl rfl ⟨_, rfl⟩ rfl rfl (Nat.le_of_ble_eq_true rfl) q2 ?_
  refine la_go 2 (lq_150 xs i v) ?_
  exact tail _ _ hr
theorem lq_151 (xs : List Int32) (i : Int32) (bc : Nat → List Value → pm_H → pm_R) (n : Nat) (h : pm_H) : la_R xs bc (n + 5) 1158 i [] h = la_R xs bc n 1163 i [.int (i + Int32.ofInt 1), .ref 0, .ref 8] h := rfl
theorem lq_152 (xs : List Int32) (i : Int32) (x1 : Int32) (bc : Nat → List Value → pm_H → pm_R) (n : Nat) (h : pm_H) : la_R xs bc (n + 4) 1164 i [.int x1, .ref 8] h = la_R xs bc n 1168 i [.int (i + Int32.ofInt 2), .ref 0, .int x1, .ref 8] h := rfl
theorem lq_153 (xs : List Int32) (i : Int32) (x1 : Int32) (x2 : Int32) (bc : Nat → List Value → pm_H → pm_R) (n : Nat) (h : pm_H) : la_R xs bc (n + 4) 1169 i [.int x2, .int x1, .ref 8] h = la_R xs bc n 1173 i [.int (i + Int32.ofInt 3), .ref 0, .int x2, .int x1, .ref 8] h := rfl
theorem lq_154 (xs : List Int32) (i : Int32) (v : Int32) (bc : Nat → List Value → pm_H → pm_R) (n : Nat) (h : pm_H) : la_R xs bc (n + 6) 1177 i [.int v] h = la_R xs bc n 1183 i [.int (i + Int32.ofInt 1), .ref 0, .ref 70] h := rfl
theorem lq_155 (xs : List Int32) (i : Int32) (x1 : Int32) (bc : Nat → List Value → pm_H → pm_R) (n : Nat) (h : pm_H) : la_R xs bc (n + 4) 1184 i [.int x1, .ref 70] h = la_R xs bc n 1188 i [.int (i + Int32.ofInt 2), .ref 0, .int x1, .ref 70] h := rfl
theorem lq_156 (xs : List Int32) (i : Int32) (x1 : Int32) (x2 : Int32) (bc : Nat → List Value → pm_H → pm_R) (n : Nat) (h : pm_H) : la_R xs bc (n + 4) 1189 i [.int x2, .int x1, .ref 70] h = la_R xs bc n 1193 i [.int (i + Int32.ofInt 3), .ref 0, .int x2, .int x1, .ref 70] h := rfl
theorem lq_157 (xs : List Int32) (i : Int32) (v : Int32) (bc : Nat → List Value → pm_H → pm_R) (n : Nat) (h : pm_H) : la_R xs bc (n + 2) 1197 i [.int v] h = la_R xs bc n 1333 i [] h := rfl
theorem lz_34 {xs : List Int32} {i : Int32} {g : qM} {u : qW} (h : w_R g) {x1 : Int32} (n1 : ¬ i + Int32.ofInt 1 < 0) (e1 : xs[(i + Int32.ofInt 1).toNatClampNeg]? = some x1) {x2 : Int32} (n2 : ¬ i + Int32.ofInt 2 < 0) (e2 : xs[(i + Int32.ofInt 2).toNatClampNeg]? = some x2) {x3 : Int32} (n3 : ¬ i + Int32.ofInt 3 < 0) (e3 : xs[(i + Int32.ofInt 3).toNatClampNeg]? = some x3) (tail : ∀ g' u', w_R g' → la_G xs 1333 i [] g' u') : la_G xs 1158 i [] g u := by
  obtain ⟨v, g1, u1, g2, u2, q1, q2, hr⟩ := pr_sheet x1 x2 x3 g u h
  refine la_go 5 (lq_151 xs i) ?_
  refine la_go 1 (fun _ _ _ => la_arg rfl n1 e1) ?_
  refine la_go 4 (lq_152 xs i x1) ?_
  refine la_go 1 (fun _ _ _ => la_arg rfl n2 e2) ?_
  refine la_go 4 (lq_153 xs i x1 x2) ?_
  refine la_go 1 (fun _ _ _ => la_arg rfl n3 e3) ?_
  refine la_inv (rest := []) rfl rfl rfl (Nat.le_of_ble_eq_true rfl) rfl rfl ⟨_, rfl⟩ rfl rfl (Nat.le_of_ble_eq_true rfl) q1 ?_
  refine la_go 6 (lq_154 xs i v) ?_
  refine la_go 1 (fun _ _ _ => la_arg rfl n1 e1) ?_
  refine la_go 4 (lq_155 xs i x1) ?_
  refine la_go 1 (fun _ _ _ => la_arg rfl n2 e2) ?_
  refine la_go 4 (lq_156 xs i x1 x2) ?_
  refine la_go 1 (fun _ _ _ => la_arg rfl n3 e3) ?_
  refine la_inv (rest := []) rfl rfl rfl (Nat.le_of_ble_eq_true rfl) rfl rfl ⟨_, rfl⟩ rfl rfl (Nat.le_of_ble_eq_true rfl) q2 ?_
  refine la_go 2 (lq_157 xs i v) ?_
  exact tail _ _ hr
theorem lq_158 (xs : List Int32) (i : Int32) (bc : Nat → List Value → pm_H → pm_R) (n : Nat) (h : pm_H) : la_R xs bc (n + 5) 1201 i [] h = la_R xs bc n 1206 i [.int (i + Int32.ofInt 1), .ref 0, .ref 8] h := rfl
theorem lq_159 (xs : List Int32) (i : Int32) (x1 : Int32) (bc : Nat → List Value → pm_H → pm_R) (n : Nat) (h : pm_H) : la_R xs bc (n + 4) 1207 i [.int x1, .ref 8] h = la_R xs bc n 1211 i [.int (i + Int32.ofInt 2), .ref 0, .int x1, .ref 8] h := rfl
theorem lq_160 (xs : List Int32) (i : Int32) (x1 : Int32) (x2 : Int32) (bc : Nat → List Value → pm_H → pm_R) (n : Nat) (h : pm_H) : la_R xs bc (n + 4) 1212 i [.int x2, .int x1, .ref 8] h = la_R xs bc n 1216 i [.int (i + Int32.ofInt 3), .ref 0, .int x2, .int x1, .ref 8] h := rfl
theorem lq_161 (xs : List Int32) (i : Int32) (v : Int32) (bc : Nat → List Value → pm_H → pm_R) (n : Nat) (h : pm_H) : la_R xs bc (n + 6) 1220 i [.int v] h = la_R xs bc n 1226 i [.int (i + Int32.ofInt 1), .ref 0, .ref 70] h := rfl
theorem lq_162 (xs : List Int32) (i : Int32) (x1 : Int32) (bc : Nat → List Value → pm_H → pm_R) (n : Nat) (h : pm_H) : la_R xs bc (n + 4) 1227 i [.int x1, .ref 70] h = la_R xs bc n 1231 i [.int (i + Int32.ofInt 2), .ref 0, .int x1, .ref 70] h := rfl
theorem lq_163 (xs : List Int32) (i : Int32) (x1 : Int32) (x2 : Int32) (bc : Nat → List Value → pm_H → pm_R) (n : Nat) (h : pm_H) : la_R xs bc (n + 4) 1232 i [.int x2, .int x1, .ref 70] h = la_R xs bc n 1236 i [.int (i + Int32.ofInt 3), .ref 0, .int x2, .int x1, .ref 70] h := rfl
theorem lq_164 (xs : List Int32) (i : Int32) (v : Int32) (bc : Nat → List Value → pm_H → pm_R) (n : Nat) (h : pm_H) : la_R xs bc (n + 2) 1240 i [.int v] h = la_R xs bc n 1333 i [] h := rfl
theorem lz_35 {xs : List Int32} {i : Int32} {g : qM} {u : qW} (h : w_R g) {x1 : Int32} (n1 : ¬ i + Int32.ofInt 1 < 0) (e1 : xs[(i + Int32.ofInt 1).toNatClampNeg]? = some x1) {x2 : Int32} (n2 : ¬ i + Int32.ofInt 2 < 0) (e2 : xs[(i + Int32.ofInt 2).toNatClampNeg]? = some x2) {x3 : Int32} (n3 : ¬ i + Int32.ofInt 3 < 0) (e3 : xs[(i + Int32.ofInt 3).toNatClampNeg]? = some x3) (tail : ∀ g' u', w_R g' → la_G xs 1333 i [] g' u') : la_G xs 1201 i [] g u := by
  obtain ⟨v, g1, u1, g2, u2, q1, q2, hr⟩ := pr_lay x1 x2 x3 g u h
  refine la_go 5 (lq_158 xs i) ?_
  refine la_go 1 (fun _ _ _ => la_arg rfl n1 e1) ?_
  refine la_go 4 (lq_159 xs i x1) ?_
  refine la_go 1 (fun _ _ _ => la_arg rfl n2 e2) ?_
  refine la_go 4 (lq_160 xs i x1 x2) ?_
  refine la_go 1 (fun _ _ _ => la_arg rfl n3 e3) ?_
  refine la_inv (rest := []) rfl rfl rfl (Nat.le_of_ble_eq_true rfl) rfl rfl ⟨_, rfl⟩ rfl rfl (Nat.le_of_ble_eq_true rfl) q1 ?_
  refine la_go 6 (lq_161 xs i v) ?_
  refine la_go 1 (fun _ _ _ => la_arg rfl n1 e1) ?_
  refine la_go 4 (lq_162 xs i x1) ?_
  refine la_go 1 (fun _ _ _ => la_arg rfl n2 e2) ?_
  refine la_go 4 (lq_163 xs i x1 x2) ?_
  refine la_go 1 (fun _ _ _ => la_arg rfl n3 e3) ?_
  refine la_inv (rest := []) rfl rfl rfl (Nat.le_of_ble_eq_true rfl) rfl rfl ⟨_, rfl⟩ rfl rfl (Nat.le_of_ble_eq_true rfl) q2 ?_
  refine la_go 2 (lq_164 xs i v) ?_
  exact tail _ _ hr
theorem lq_165 (xs : List Int32) (i : Int32) (bc : Nat → List Value → pm_H → pm_R) (n : Nat) (h : pm_H) : la_R xs bc (n + 5) 1244 i [] h = la_R xs bc n 1249 i [.int (i + Int32.ofInt 1), .ref 0, .ref 8] h := rfl
theorem lq_166 (xs : List Int32) (i : Int32) (x1 : Int32) (bc : Nat → List Value → pm_H → pm_R) (n : Nat) (h : pm_H) : la_R xs bc (n + 4) 1250 i [.int x1, .ref 8] h = la_R xs bc n 1254 i [.int (i + Int32.ofInt 2), .ref 0, .int x1, .ref 8] h := rfl
theorem lq_167 (xs : List Int32) (i : Int32) (x1 : Int32) (x2 : Int32) (bc : Nat → List Value → pm_H → pm_R) (n : Nat) (h : pm_H) : la_R xs bc (n + 4) 1255 i [.int x2, .int x1, .ref 8] h = la_R xs bc n 1259 i [.int (i + Int32.ofInt 3), .ref 0, .int x2, .int x1, .ref 8] h := rfl
theorem lq_168 (xs : List Int32) (i : Int32) (x1 : Int32) (x2 : Int32) (x3 : Int32) (bc : Nat → List Value → pm_H → pm_R) (n : Nat) (h : pm_H) : la_R xs bc (n + 4) 1260 i [.int x3, .int x2, .int x1, .ref 8] h = la_R xs bc n 1264 i [.int (i + Int32.ofInt 4), .ref 0, .int x3, .int x2, .int x1, .ref 8] h := rfl
theorem lq_169 (xs : List Int32) (i : Int32) (v : Int32) (bc : Nat → List Value → pm_H → pm_R) (n : Nat) (h : pm_H) : la_R xs bc (n + 6) 1268 i [.int v] h = la_R xs bc n 1274 i [.int (i + Int32.ofInt 1), .ref 0, .ref 70] h := rfl
theorem lq_170 (xs : List Int32) (i : Int32) (x1 : Int32) (bc : Nat → List Value → pm_H → pm_R) (n : Nat) (h : pm_H) : la_R xs bc (n + 4) 1275 i [.int x1, .ref 70] h = la_R xs bc n 1279 i [.int (i + Int32.ofInt 2), .ref 0, .int x1, .ref 70] h := rfl
theorem lq_171 (xs : List Int32) (i : Int32) (x1 : Int32) (x2 : Int32) (bc : Nat → List Value → pm_H → pm_R) (n : Nat) (h : pm_H) : la_R xs bc (n + 4) 1280 i [.int x2, .int x1, .ref 70] h = la_R xs bc n 1284 i [.int (i + Int32.ofInt 3), .ref 0, .int x2, .int x1, .ref 70] h := rfl
theorem lq_172 (xs : List Int32) (i : Int32) (x1 : Int32) (x2 : Int32) (x3 : Int32) (bc : Nat → List Value → pm_H → pm_R) (n : Nat) (h : pm_H) : la_R xs bc (n + 4) 1285 i [.int x3, .int x2, .int x1, .ref 70] h = la_R xs bc n 1289 i [.int (i + Int32.ofInt 4), .ref 0, .int x3, .int x2, .int x1, .ref 70] h := rfl
theorem lq_173 (xs : List Int32) (i : Int32) (v : Int32) (bc : Nat → List Value → pm_H → pm_R) (n : Nat) (h : pm_H) : la_R xs bc (n + 2) 1293 i [.int v] h = la_R xs bc n 1333 i [] h := rfl
theorem lz_36 {xs : List Int32} {i : Int32} {g : qM} {u : qW} (h : w_R g) {x1 : Int32} (n1 : ¬ i + Int32.ofInt 1 < 0) (e1 : xs[(i + Int32.ofInt 1).toNatClampNeg]? = some x1) {x2 : Int32} (n2 : ¬ i + Int32.ofInt 2 < 0) (e2 : xs[(i + Int32.ofInt 2).toNatClampNeg]? = some x2) {x3 : Int32} (n3 : ¬ i + Int32.ofInt 3 < 0) (e3 : xs[(i + Int32.ofInt 3).toNatClampNeg]? = some x3) {x4 : Int32} (n4 : ¬ i + Int32.ofInt 4 < 0) (e4 : xs[(i + Int32.ofInt 4).toNatClampNeg]? = some x4) (tail : ∀ g' u', w_R g' → la_G xs 1333 i [] g' u') : la_G xs 1244 i [] g u := by
  obtain ⟨v, g1, u1, g2, u2, q1, q2, hr⟩ := pr_read x1 x2 x3 x4 g u h
  refine la_go 5 (lq_165 xs i) ?_
  refine la_go 1 (fun _ _ _ => la_arg rfl n1 e1) ?_
  refine la_go 4 (lq_166 xs i x1) ?_
  refine la_go 1 (fun _ _ _ => la_arg rfl n2 e2) ?_
  refine la_go 4 (lq_167 xs i x1 x2) ?_
  refine la_go 1 (fun _ _ _ => la_arg rfl n3 e3) ?_
  refine la_go 4 (lq_168 xs i x1 x2 x3) ?_
  refine la_go 1 (fun _ _ _ => la_arg rfl n4 e4) ?_
  refine la_inv (rest := []) rfl rfl rfl (Nat.le_of_ble_eq_true rfl) rfl rfl ⟨_, rfl⟩ rfl rfl (Nat.le_of_ble_eq_true rfl) q1 ?_
  refine la_go 6 (lq_169 xs i v) ?_
  refine la_go 1 (fun _ _ _ => la_arg rfl n1 e1) ?_
  refine la_go 4 (lq_170 xs i x1) ?_
  refine la_go 1 (fun _ _ _ => la_arg rfl n2 e2) ?_
  refine la_go 4 (lq_171 xs i x1 x2) ?_
  refine la_go 1 (fun _ _ _ => la_arg rfl n3 e3) ?_
  refine la_go 4 (lq_172 xs i x1 x2 x3) ?_
  refine la_go 1 (fun _ _ _ => la_arg rfl n4 e4) ?_
  refine la_inv (rest := []) rfl rfl rfl (Nat.le_of_ble_eq_true rfl) rfl rfl ⟨_, rfl⟩ rfl rfl (Nat.le_of_ble_eq_true rfl) q2 ?_
  refine la_go 2 (lq_173 xs i v) ?_
  exact tail _ _ hr
theorem lq_174 (xs : List Int32) (i : Int32) (bc : Nat → List Value → pm_H → pm_R) (n : Nat) (h : pm_H) : la_R xs bc (n + 1) 1297 i [] h = la_R xs bc n 1298 i [.ref 8] h := rfl
theorem lq_175 (xs : List Int32) (i : Int32) (v : Int32) (bc : Nat → List Value → pm_H → pm_R) (n : Nat) (h : pm_H) : la_R xs bc (n + 2) 1301 i [.int v] h = la_R xs bc n 1303 i [.ref 70] h := rfl
theorem lq_176 (xs : List Int32) (i : Int32) (v : Int32) (bc : Nat → List Value → pm_H → pm_R) (n : Nat) (h : pm_H) : la_R xs bc (n + 2) 1306 i [.int v] h = la_R xs bc n 1333 i [] h := rfl
theorem lz_37 {xs : List Int32} {i : Int32} {g : qM} {u : qW} (h : w_R g) (tail : ∀ g' u', w_R g' → la_G xs 1333 i [] g' u') : la_G xs 1297 i [] g u := by
  obtain ⟨q1, q2⟩ := pr_torn g u h
  have hr := h
  refine la_go 1 (lq_174 xs i) ?_
  refine la_inv (rest := []) rfl rfl rfl (Nat.le_of_ble_eq_true rfl) rfl rfl ⟨_, rfl⟩ rfl rfl (Nat.le_of_ble_eq_true rfl) q1 ?_
  refine la_go 2 (lq_175 xs i _) ?_
  refine la_inv (rest := []) rfl rfl rfl (Nat.le_of_ble_eq_true rfl) rfl rfl ⟨_, rfl⟩ rfl rfl (Nat.le_of_ble_eq_true rfl) q2 ?_
  refine la_go 2 (lq_176 xs i _) ?_
  exact tail _ _ hr
theorem lq_177 (xs : List Int32) (i : Int32) (bc : Nat → List Value → pm_H → pm_R) (n : Nat) (h : pm_H) : la_R xs bc (n + 5) 1310 i [] h = la_R xs bc n 1315 i [.int (i + Int32.ofInt 1), .ref 0, .ref 8] h := rfl
theorem lq_178 (xs : List Int32) (i : Int32) (v : Int32) (bc : Nat → List Value → pm_H → pm_R) (n : Nat) (h : pm_H) : la_R xs bc (n + 6) 1319 i [.int v] h = la_R xs bc n 1325 i [.int (i + Int32.ofInt 1), .ref 0, .ref 70] h := rfl
theorem lq_179 (xs : List Int32) (i : Int32) (v : Int32) (bc : Nat → List Value → pm_H → pm_R) (n : Nat) (h : pm_H) : la_R xs bc (n + 2) 1329 i [.int v] h = la_R xs bc n 1333 i [] h := rfl
theorem lz_38 {xs : List Int32} {i : Int32} {g : qM} {u : qW} (h : w_R g) {x1 : Int32} (n1 : ¬ i + Int32.ofInt 1 < 0) (e1 : xs[(i + Int32.ofInt 1).toNatClampNeg]? = some x1) (tail : ∀ g' u', w_R g' → la_G xs 1333 i [] g' u') : la_G xs 1310 i [] g u := by
  obtain ⟨v, g1, u1, g2, u2, q1, q2, hr⟩ := pr_count x1 g u h
  refine la_go 5 (lq_177 xs i) ?_
  refine la_go 1 (fun _ _ _ => la_arg rfl n1 e1) ?_
  refine la_inv (rest := []) rfl rfl rfl (Nat.le_of_ble_eq_true rfl) rfl rfl ⟨_, rfl⟩ rfl rfl (Nat.le_of_ble_eq_true rfl) q1 ?_
  refine la_go 6 (lq_178 xs i v) ?_
  refine la_go 1 (fun _ _ _ => la_arg rfl n1 e1) ?_
  refine la_inv (rest := []) rfl rfl rfl (Nat.le_of_ble_eq_true rfl) rfl rfl ⟨_, rfl⟩ rfl rfl (Nat.le_of_ble_eq_true rfl) q2 ?_
  refine la_go 2 (lq_179 xs i v) ?_
  exact tail _ _ hr
