/-! p1: ONE CALL ON FRESH OBJECTS. -/
theorem am_fin {xa : List am_I} {xs : List Int32} (hxs : am_all am_i xa xs) {n pc c sl : Nat} {lva : am_L} {sta : List am_V} {ha : am_H} {lv : pm_L} {st : List Value} {h : pm_H} (hk : (match am_run xa pm_m (am_big xa pm_m 20000 9) m_0 (fun _ _ _ _ _ _ => none) n pc lva sta ha c sl with
  | some (some (.inl a), _) => aeI a (1, 1)
  | _ => false) = true) (hl : am_all am_q lva lv) (hs : am_all am_v sta st) (hh : am_h ha h) : ∃ h1, pm_run xs pm_m (pm_big xs pm_m 20000 9) m_0 n pc lv st h c sl = some (some (.int 1), h1) := by
  split at hk
  · rename_i a hq heq
    have e := aeI_ok hk
    subst e
    have hS := at_run (Pr := am_r) (tab := pm_m) (mm := m_0) (ba := am_big xa pm_m 20000 9) (bc := pm_big xs pm_m 20000 9) hxs (fun _ _ h => h) (fun M2 as h Ra q => at_big (tab := pm_m) hxs 20000 9 M2 as h Ra q) (ka := fun _ _ _ _ _ _ => none) (kc := pm_run xs pm_m (pm_big xs pm_m 20000 9) m_0 0) (fun _ _ _ _ _ _ _ q => by cases q) n
    rw [pm_runK_eq, Nat.zero_add] at hS
    obtain ⟨⟨v, h1⟩, hr, ho, -⟩ := hS _ _ _ _ _ _ _ heq lv st h hl hs hh
    match v, ho with
    | some (.int x), ho =>
      have hx : am_i (1, 1) x := ho
      have e : x = 1 := hx.of rfl
      subst e
      exact ⟨h1, hr⟩
    | some (.long _), ho => exact ho.elim
    | some (.float _), ho => exact ho.elim
    | some (.double _), ho => exact ho.elim
    | some .null, ho => exact ho.elim
    | some (.ref _), ho => exact ho.elim
    | some (.retAddr _), ho => exact ho.elim
    | none, ho => exact ho.elim
  · cases hk
noncomputable def sh (L : Nat) : Bool := match am_run (List.replicate L am_top) pm_m (am_big (List.replicate L am_top) pm_m 20000 9) m_0 (fun _ _ _ _ _ _ => none) 60 0 [(0, .inr (.inr (some 0)))] [] (0, []) 0 0 with
  | some (some (.inl a), _) => aeI a (1, 1)
  | _ => false
theorem sh_0 : sh 0 = true := by decide +kernel
theorem sh_1 : sh 1 = true := by decide +kernel
theorem sh_2 : sh 2 = true := by decide +kernel
theorem sh_3 : sh 3 = true := by decide +kernel
theorem sh_4 : sh 4 = true := by decide +kernel
theorem am_tops : ∀ (xs : List Int32), am_all am_i (List.replicate xs.length am_top) xs
  | [] => trivial
  | x :: xs => ⟨am_i.top x, am_tops xs⟩
theorem am_h0 : am_h (0, []) [] := ⟨rfl, fun i C h => by unfold am_g at h; simp at h⟩
theorem p1_short (xs : List Int32) (L : Nat) (hx : xs.length = L) (hs : sh L = true) : ∃ h1, pm_run xs pm_m (pm_big xs pm_m 20000 9) m_0 60 0 [(0, .ref 0)] [] [] 0 0 = some (some (.int 1), h1) := by
  subst hx
  unfold sh at hs
  exact am_fin (xa := List.replicate xs.length am_top) (xs := xs) (n := 60) (pc := 0) (c := 0) (sl := 0) (lva := [(0, .inr (.inr (some 0)))]) (sta := []) (ha := (0, [])) (lv := [(0, .ref 0)]) (st := []) (h := []) (am_tops xs) hs ⟨⟨rfl, rfl⟩, trivial⟩ trivial am_h0
theorem p1_full (x0 x1 x2 x3 x4 : Int32) : ∃ h1, pm_run [x0, x1, x2, x3, x4] pm_m (pm_big [x0, x1, x2, x3, x4] pm_m 20000 9) m_0 81 0 [(0, .ref 0)] [] [] 0 0 = some (some (.int 1), h1) := by
  have hxs : am_all am_i fr_x [x0, x1, x2, x3, x4] := ⟨am_i.top _, am_i.top _, am_i.top _, am_i.top _, am_i.top _, trivial⟩
  have hcap : am_S (fun R r => am_r R r ∨ r.1 = some (.int 1)) fr_k (pm_run [x0, x1, x2, x3, x4] pm_m (pm_big [x0, x1, x2, x3, x4] pm_m 20000 9) m_0 60) := by
    intro pc lva sta ha c sl R hk lv st h hl hs hh
    unfold fr_k at hk
    split at hk
    · rename_i hb
      simp only [Bool.and_eq_true] at hb
      obtain ⟨b1, b2, b3, ⟨b4, b5⟩, b6, b7⟩ := hb
      obtain rfl : pc = 32 := of_decide_eq_true b1
      obtain rfl : lva = fr_L := aeL_ok (fun _ _ => aeQ_ok) b2
      obtain rfl : sta = [.inl (0, 63)] := aeL_ok (fun _ _ => aeV_ok) b3
      obtain rfl : ha = fr_H := Prod.ext (of_decide_eq_true b4) (aeL_ok (fun _ _ => aeL_ok (fun _ _ => aeC_ok)) b5)
      obtain rfl : c = 80 := of_decide_eq_true b6
      obtain rfl : sl = 1467 := of_decide_eq_true b7
      obtain ⟨y, st, rfl, hy, hs⟩ := av_i hs
      obtain rfl := av_n hs
      have hy1 : (0 : Int) ≤ y.toInt := hy.1
      have hy2 : y.toInt ≤ (63 : Int) := hy.2
      obtain ⟨c1, c2, c3, c4, g1, g2, g3, g4, hbx⟩ := bx_every y.toInt.toNat (by omega) x1 x2 x3 x4
      have e : ((y.toInt.toNat : Nat) : Int) = y.toInt := by omega
      rw [e] at hbx
      unfold bx at hbx
      obtain ⟨h1, hr⟩ := am_fin (xa := [am_top, c1, c2, c3, c4]) (xs := [x0, x1, x2, x3, x4]) ⟨am_i.top _, g1, g2, g3, g4, trivial⟩ hbx hl (st := [.int y]) ⟨am_i.sg y, trivial⟩ hh
      exact ⟨_, hr, Or.inr rfl⟩
    · cases hk
  have hS := at_run (Pr := fun R r => am_r R r ∨ r.1 = some (.int 1)) (tab := pm_m) (mm := m_0) (ba := am_big fr_x pm_m 20000 9) (bc := pm_big [x0, x1, x2, x3, x4] pm_m 20000 9) hxs (fun _ _ h => Or.inl h) (fun M2 as h Ra q => at_big (tab := pm_m) hxs 20000 9 M2 as h Ra q) (ka := fr_k) (kc := pm_run [x0, x1, x2, x3, x4] pm_m (pm_big [x0, x1, x2, x3, x4] pm_m 20000 9) m_0 60) hcap 21
  rw [pm_runK_eq] at hS
  have hf := fr_run
  split at hf
  · rename_i a hq heq
    have e := aeI_ok hf
    subst e
    obtain ⟨⟨v, h1⟩, hr, ho⟩ := hS _ _ _ _ _ _ _ heq [(0, .ref 0)] [] [] ⟨⟨rfl, rfl⟩, trivial⟩ trivial am_h0
    rcases ho with ⟨ho, -⟩ | ho
    · match v, ho with
      | some (.int x), ho =>
        have hx : am_i (1, 0) x := ho
        have q1 : (1 : Int) ≤ x.toInt := hx.1
        have q2 : x.toInt ≤ (0 : Int) := hx.2
        omega
      | some (.long _), ho => exact ho.elim
      | some (.float _), ho => exact ho.elim
      | some (.double _), ho => exact ho.elim
      | some .null, ho => exact ho.elim
      | some (.ref _), ho => exact ho.elim
      | some (.retAddr _), ho => exact ho.elim
      | none, ho => exact ho.elim
    · have ho : v = some (.int 1) := ho
      subst ho
      exact ⟨h1, hr⟩
  · cases hf
