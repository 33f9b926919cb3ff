/-! NAMES of lines. -/
def t_eq (b : Nat → Int32) : Nat → List Int32 → Int32
  | _, [] => 1
  | f, c :: r => if b f = c then t_eq b (f + 1) r else 0
def t_is (b : Nat → Int32) (f l : Nat) (n : List Int32) : Int32 := if l = n.length then t_eq b f n else 0
def t_nm : Nat → List Int32
  | 0 => [116, 111, 119, 110]
  | 1 => [112, 117, 108, 108]
  | 2 => [112, 114, 101, 115, 115]
  | 3 => [119, 97, 108, 108]
  | 4 => [97, 116]
  | 5 => [115, 116, 105, 108, 108]
  | _ => [103, 111, 97, 108]
/-- the line's kind, -4 if its name is none's -/
def t_ln (b : Nat → Int32) (f l : Nat) : Int32 :=
  if t_is b f l (t_nm 0) = 1 then 0 else if t_is b f l (t_nm 1) = 1 then 1 else if t_is b f l (t_nm 2) = 1 then 2 else if t_is b f l (t_nm 3) = 1 then 3 else if t_is b f l (t_nm 4) = 1 then 4 else if t_is b f l (t_nm 5) = 1 then 5 else if t_is b f l (t_nm 6) = 1 then 6 else Int32.ofInt (-4)
theorem t_eq_01 {b : Nat → Int32} : ∀ n f, t_eq b f n = 0 ∨ t_eq b f n = 1
  | [], _ => Or.inr rfl
  | c :: r, f => by
    rw [t_eq]
    split
    · exact t_eq_01 r (f + 1)
    · exact Or.inl rfl
theorem t_eq_eq {b : Nat → Int32} : ∀ n m f, t_eq b f n = 1 → t_eq b f m = 1 → n.length = m.length → n = m
  | [], [], _, _, _, _ => rfl
  | [], _ :: _, _, _, _, h => by simp at h
  | _ :: _, [], _, _, _, h => by simp at h
  | c :: r, d :: q, f, h1, h2, h3 => by
    rw [t_eq] at h1 h2
    by_cases e : b f = c
    · rw [if_pos e] at h1
      by_cases e2 : b f = d
      · rw [if_pos e2] at h2
        rw [t_eq_eq r q (f + 1) h1 h2 (by simpa using h3), ← e, ← e2]
      · rw [if_neg e2] at h2
        exact absurd h2 (by decide)
    · rw [if_neg e] at h1
      exact absurd h1 (by decide)
theorem t_is_01 {b : Nat → Int32} {f l : Nat} (n : List Int32) : t_is b f l n = 0 ∨ t_is b f l n = 1 := by
  unfold t_is
  split
  · exact t_eq_01 n f
  · exact Or.inl rfl
theorem t_is_un {b : Nat → Int32} {f l : Nat} {n m : List Int32} (h1 : t_is b f l n = 1) (h2 : t_is b f l m = 1) : n = m := by
  unfold t_is at h1 h2
  by_cases e : l = n.length
  · rw [if_pos e] at h1
    by_cases e2 : l = m.length
    · rw [if_pos e2] at h2
      exact t_eq_eq n m f h1 h2 (e.symm.trans e2)
    · rw [if_neg e2] at h2
      exact absurd h2 (by decide)
  · rw [if_neg e] at h1
    exact absurd h1 (by decide)
theorem t_nm_inj {i j : Nat} (hi : i < 7) (hj : j < 7) (h : t_nm i = t_nm j) : i = j := by
  revert i j
  have z : (List.range 7).all (fun i => (List.range 7).all (fun j => decide (t_nm i = t_nm j → i = j))) = true := by decide +kernel
  intro i j hi hj h
  exact of_decide_eq_true (List.all_eq_true.mp (List.all_eq_true.mp z i (List.mem_range.mpr hi)) j (List.mem_range.mpr hj)) h
/-- a line of kind k is named so -/
theorem t_ln_of {b : Nat → Int32} {f l k : Nat} (hk : k < 7) (h : t_is b f l (t_nm k) = 1) : t_ln b f l = Int32.ofNat k := by
  have q : ∀ j, j < 7 → (t_is b f l (t_nm j) = 1 ↔ j = k) := fun j hj => ⟨fun z => t_nm_inj hj hk (t_is_un z h), fun z => z ▸ h⟩
  unfold t_ln
  by_cases e0 : k = 0
  · rw [if_pos ((q 0 (by omega)).mpr e0.symm), e0]; rfl
  rw [if_neg (fun z => e0 ((q 0 (by omega)).mp z).symm)]
  by_cases e1 : k = 1
  · rw [if_pos ((q 1 (by omega)).mpr e1.symm), e1]; rfl
  rw [if_neg (fun z => e1 ((q 1 (by omega)).mp z).symm)]
  by_cases e2 : k = 2
  · rw [if_pos ((q 2 (by omega)).mpr e2.symm), e2]; rfl
  rw [if_neg (fun z => e2 ((q 2 (by omega)).mp z).symm)]
  by_cases e3 : k = 3
  · rw [if_pos ((q 3 (by omega)).mpr e3.symm), e3]; rfl
  rw [if_neg (fun z => e3 ((q 3 (by omega)).mp z).symm)]
  by_cases e4 : k = 4
  · rw [if_pos ((q 4 (by omega)).mpr e4.symm), e4]; rfl
  rw [if_neg (fun z => e4 ((q 4 (by omega)).mp z).symm)]
  by_cases e5 : k = 5
  · rw [if_pos ((q 5 (by omega)).mpr e5.symm), e5]; rfl
  rw [if_neg (fun z => e5 ((q 5 (by omega)).mp z).symm)]
  rw [if_pos ((q 6 (by omega)).mpr (by omega)), show k = 6 by omega]; rfl
theorem t_ln_no {b : Nat → Int32} {f l : Nat} (h : ∀ k, k < 7 → ¬ t_is b f l (t_nm k) = 1) : t_ln b f l = Int32.ofInt (-4) := by
  unfold t_ln
  rw [if_neg (h 0 (by omega)), if_neg (h 1 (by omega)), if_neg (h 2 (by omega)), if_neg (h 3 (by omega)), if_neg (h 4 (by omega)), if_neg (h 5 (by omega)), if_neg (h 6 (by omega))]
def t_p1 (b : Nat → Int32) (s f l n : Nat) (a c : Int32) : Int32 := if l = n then (if s_lk b s f = a then (if s_lk b s (f + 1) = c then 1 else 0) else 0) else 0
def t_p2 (b : Nat → Int32) (s f : Nat) (a c d : Int32) : Int32 := if s_lk b s (f + 2) = a then (if s_lk b s (f + 3) = c then (if d = 0 then 1 else if s_lk b s (f + 4) = d then 1 else 0) else 0) else 0
theorem t_p1_0 {b : Nat → Int32} {s f l n : Nat} {a c : Int32} (h : f + l ≤ s) (hn : 2 ≤ n) : ¬ t_p1 b s f l n a c = 0 ↔ (l = n ∧ b f = a ∧ b (f + 1) = c) := by
  unfold t_p1
  by_cases e : l = n
  · rw [if_pos e, show s_lk b s f = b f from if_pos (by omega), show s_lk b s (f + 1) = b (f + 1) from if_pos (by omega)]
    by_cases e1 : b f = a
    · rw [if_pos e1]
      by_cases e2 : b (f + 1) = c
      · rw [if_pos e2]
        exact ⟨fun _ => ⟨e, e1, e2⟩, fun _ => by decide⟩
      · rw [if_neg e2]
        exact ⟨fun z => absurd rfl z, fun z => absurd z.2.2 e2⟩
    · rw [if_neg e1]
      exact ⟨fun z => absurd rfl z, fun z => absurd z.2.1 e1⟩
  · rw [if_neg e]
    exact ⟨fun z => absurd rfl z, fun z => absurd z.1 e⟩
theorem t_p2_0 {b : Nat → Int32} {s f : Nat} {a c d : Int32} (h : f + 4 ≤ s) (h5 : ¬ d = 0 → f + 5 ≤ s) : ¬ t_p2 b s f a c d = 0 ↔ (b (f + 2) = a ∧ b (f + 3) = c ∧ (d = 0 ∨ b (f + 4) = d)) := by
  unfold t_p2
  rw [show s_lk b s (f + 2) = b (f + 2) from if_pos (by omega), show s_lk b s (f + 3) = b (f + 3) from if_pos (by omega)]
  by_cases e1 : b (f + 2) = a
  · rw [if_pos e1]
    by_cases e2 : b (f + 3) = c
    · rw [if_pos e2]
      by_cases e3 : d = 0
      · rw [if_pos e3]
        exact ⟨fun _ => ⟨e1, e2, Or.inl e3⟩, fun _ => by decide⟩
      · rw [if_neg e3, show s_lk b s (f + 4) = b (f + 4) from if_pos (by have := h5 e3; omega)]
        by_cases e4 : b (f + 4) = d
        · rw [if_pos e4]
          exact ⟨fun _ => ⟨e1, e2, Or.inr e4⟩, fun _ => by decide⟩
        · rw [if_neg e4]
          exact ⟨fun z => absurd rfl z, fun z => z.2.2.elim (fun q => absurd q e3) (fun q => absurd q e4)⟩
    · rw [if_neg e2]
      exact ⟨fun z => absurd rfl z, fun z => absurd z.2.1 e2⟩
  · rw [if_neg e1]
    exact ⟨fun z => absurd rfl z, fun z => absurd z.1 e1⟩
theorem t_is_1 {b : Nat → Int32} {f l : Nat} {n : List Int32} : t_is b f l n = 1 ↔ (l = n.length ∧ t_eq b f n = 1) := by
  unfold t_is
  split
  · exact ⟨fun z => ⟨by assumption, z⟩, fun z => z.2⟩
  · exact ⟨fun z => absurd z (by decide), fun z => absurd z.1 (by assumption)⟩
theorem t_eq_1 {b : Nat → Int32} {f : Nat} {c : Int32} {r : List Int32} : t_eq b f (c :: r) = 1 ↔ (b f = c ∧ t_eq b (f + 1) r = 1) := by
  rw [t_eq]
  split
  · exact ⟨fun z => ⟨by assumption, z⟩, fun z => z.2⟩
  · exact ⟨fun z => absurd z (by decide), fun z => absurd z.1 (by assumption)⟩
theorem t_is_2 {b : Nat → Int32} {s f l : Nat} {c d : Int32} (h : f + l ≤ s) : t_is b f l [c, d] = 1 ↔ ¬ t_p1 b s f l 2 c d = 0 := by
  rw [t_p1_0 h (by omega), t_is_1, t_eq_1, t_eq_1]
  exact ⟨fun z => ⟨z.1, z.2.1, z.2.2.1⟩, fun z => ⟨z.1, z.2.1, z.2.2, rfl⟩⟩
theorem t_is_4 {b : Nat → Int32} {s f l : Nat} {c d i j : Int32} (h : f + l ≤ s) : t_is b f l [c, d, i, j] = 1 ↔ (¬ t_p1 b s f l 4 c d = 0 ∧ ¬ t_p2 b s f i j 0 = 0) := by
  rw [t_p1_0 h (by omega), t_is_1, t_eq_1, t_eq_1, t_eq_1, t_eq_1]
  constructor
  · intro z
    exact ⟨⟨z.1, z.2.1, z.2.2.1⟩, (t_p2_0 (by have : l = 4 := z.1; omega) (fun q => absurd rfl q)).mpr ⟨z.2.2.2.1, z.2.2.2.2.1, Or.inl rfl⟩⟩
  · intro z
    have q := (t_p2_0 (by have : l = 4 := z.1.1; omega) (fun q => absurd rfl q)).mp z.2
    exact ⟨z.1.1, z.1.2.1, z.1.2.2, q.1, q.2.1, rfl⟩
theorem t_is_5 {b : Nat → Int32} {s f l : Nat} {c d i j k : Int32} (h : f + l ≤ s) (hk : ¬ k = 0 := by decide) : t_is b f l [c, d, i, j, k] = 1 ↔ (¬ t_p1 b s f l 5 c d = 0 ∧ ¬ t_p2 b s f i j k = 0) := by
  rw [t_p1_0 h (by omega), t_is_1, t_eq_1, t_eq_1, t_eq_1, t_eq_1, t_eq_1]
  constructor
  · intro z
    exact ⟨⟨z.1, z.2.1, z.2.2.1⟩, (t_p2_0 (by have : l = 5 := z.1; omega) (fun _ => by have : l = 5 := z.1; omega)).mpr ⟨z.2.2.2.1, z.2.2.2.2.1, Or.inr z.2.2.2.2.2.1⟩⟩
  · intro z
    have q := (t_p2_0 (by have : l = 5 := z.1.1; omega) (fun _ => by have : l = 5 := z.1.1; omega)).mp z.2
    exact ⟨z.1.1, z.1.2.1, z.1.2.2, q.1, q.2.1, q.2.2.elim (fun x => absurd x hk) id, rfl⟩
theorem sg_nm_1 (big : Nat → List Value → qM → qW → qR) (n0 : Nat) (G : qM) (U : qW) : qm_run pm_m big m_21 (n0 + 3) 0 [(0, .ref 9), (1, .ref 1)] [] G U = qm_run pm_m big m_21 n0 5 [(0, .ref 9), (1, .ref 1)] [.int (1 : Int32), .int (G 9 2)] G U := rfl
theorem sg_nm_2 (big : Nat → List Value → qM → qW → qR) (n0 : Nat) (G : qM) (U : qW) : qm_run pm_m big m_21 (n0 + 7) 8 [(0, .ref 9), (1, .ref 1)] [] G U = qm_run pm_m big m_21 n0 21 [(0, .ref 9), (1, .ref 1)] [.int (4 : Int32), .int ((G 9 5) - (G 9 3))] G U := rfl
theorem sg_nm_3 (big : Nat → List Value → qM → qW → qR) (n0 : Nat) (G : qM) (U : qW) : qm_run pm_m big m_21 (n0 + 12) 26 [(0, .ref 9), (1, .ref 1)] [] G U = qm_run pm_m big m_21 n0 46 [(0, .ref 9), (1, .ref 1), (2, .int (0 : Int32))] [.int ((G 9 3) + (0 : Int32)), .ref 10] G U := rfl
theorem sg_nm_4 (big : Nat → List Value → qM → qW → qR) (n0 : Nat) (G : qM) (U : qW) (v0 : Int32) : qm_run pm_m big m_21 (n0 + 3) 47 [(0, .ref 9), (1, .ref 1), (2, .int (0 : Int32))] [.int v0] G U = qm_run pm_m big m_21 n0 52 [(0, .ref 9), (1, .ref 1), (2, .int (0 : Int32))] [.int (116 : Int32), .int v0] G U := rfl
theorem sg_nm_5 (big : Nat → List Value → qM → qW → qR) (n0 : Nat) (G : qM) (U : qW) : qm_run pm_m big m_21 (n0 + 12) 57 [(0, .ref 9), (1, .ref 1), (2, .int (0 : Int32))] [] G U = qm_run pm_m big m_21 n0 46 [(0, .ref 9), (1, .ref 1), (2, .int (1 : Int32))] [.int ((G 9 3) + (1 : Int32)), .ref 10] G U := rfl
theorem sg_nm_6 (big : Nat → List Value → qM → qW → qR) (n0 : Nat) (G : qM) (U : qW) (v0 : Int32) : qm_run pm_m big m_21 (n0 + 3) 47 [(0, .ref 9), (1, .ref 1), (2, .int (1 : Int32))] [.int v0] G U = qm_run pm_m big m_21 n0 52 [(0, .ref 9), (1, .ref 1), (2, .int (1 : Int32))] [.int (111 : Int32), .int v0] G U := rfl
theorem sg_nm_7 (big : Nat → List Value → qM → qW → qR) (n0 : Nat) (G : qM) (U : qW) : qm_run pm_m big m_21 (n0 + 12) 57 [(0, .ref 9), (1, .ref 1), (2, .int (1 : Int32))] [] G U = qm_run pm_m big m_21 n0 46 [(0, .ref 9), (1, .ref 1), (2, .int (2 : Int32))] [.int ((G 9 3) + (2 : Int32)), .ref 10] G U := rfl
theorem sg_nm_8 (big : Nat → List Value → qM → qW → qR) (n0 : Nat) (G : qM) (U : qW) (v0 : Int32) : qm_run pm_m big m_21 (n0 + 3) 47 [(0, .ref 9), (1, .ref 1), (2, .int (2 : Int32))] [.int v0] G U = qm_run pm_m big m_21 n0 52 [(0, .ref 9), (1, .ref 1), (2, .int (2 : Int32))] [.int (119 : Int32), .int v0] G U := rfl
theorem sg_nm_9 (big : Nat → List Value → qM → qW → qR) (n0 : Nat) (G : qM) (U : qW) : qm_run pm_m big m_21 (n0 + 12) 57 [(0, .ref 9), (1, .ref 1), (2, .int (2 : Int32))] [] G U = qm_run pm_m big m_21 n0 46 [(0, .ref 9), (1, .ref 1), (2, .int (3 : Int32))] [.int ((G 9 3) + (3 : Int32)), .ref 10] G U := rfl
theorem sg_nm_10 (big : Nat → List Value → qM → qW → qR) (n0 : Nat) (G : qM) (U : qW) (v0 : Int32) : qm_run pm_m big m_21 (n0 + 3) 47 [(0, .ref 9), (1, .ref 1), (2, .int (3 : Int32))] [.int v0] G U = qm_run pm_m big m_21 n0 52 [(0, .ref 9), (1, .ref 1), (2, .int (3 : Int32))] [.int (110 : Int32), .int v0] G U := rfl
theorem sg_nm_11 (big : Nat → List Value → qM → qW → qR) (n0 : Nat) (G : qM) (U : qW) : qm_run pm_m big m_21 (n0 + 3) 0 [(0, .ref 9), (1, .ref 2)] [] G U = qm_run pm_m big m_21 n0 5 [(0, .ref 9), (1, .ref 2)] [.int (1 : Int32), .int (G 9 2)] G U := rfl
theorem sg_nm_12 (big : Nat → List Value → qM → qW → qR) (n0 : Nat) (G : qM) (U : qW) : qm_run pm_m big m_21 (n0 + 7) 8 [(0, .ref 9), (1, .ref 2)] [] G U = qm_run pm_m big m_21 n0 21 [(0, .ref 9), (1, .ref 2)] [.int (4 : Int32), .int ((G 9 5) - (G 9 3))] G U := rfl
theorem sg_nm_13 (big : Nat → List Value → qM → qW → qR) (n0 : Nat) (G : qM) (U : qW) : qm_run pm_m big m_21 (n0 + 12) 26 [(0, .ref 9), (1, .ref 2)] [] G U = qm_run pm_m big m_21 n0 46 [(0, .ref 9), (1, .ref 2), (2, .int (0 : Int32))] [.int ((G 9 3) + (0 : Int32)), .ref 10] G U := rfl
theorem sg_nm_14 (big : Nat → List Value → qM → qW → qR) (n0 : Nat) (G : qM) (U : qW) (v0 : Int32) : qm_run pm_m big m_21 (n0 + 3) 47 [(0, .ref 9), (1, .ref 2), (2, .int (0 : Int32))] [.int v0] G U = qm_run pm_m big m_21 n0 52 [(0, .ref 9), (1, .ref 2), (2, .int (0 : Int32))] [.int (119 : Int32), .int v0] G U := rfl
theorem sg_nm_15 (big : Nat → List Value → qM → qW → qR) (n0 : Nat) (G : qM) (U : qW) : qm_run pm_m big m_21 (n0 + 12) 57 [(0, .ref 9), (1, .ref 2), (2, .int (0 : Int32))] [] G U = qm_run pm_m big m_21 n0 46 [(0, .ref 9), (1, .ref 2), (2, .int (1 : Int32))] [.int ((G 9 3) + (1 : Int32)), .ref 10] G U := rfl
theorem sg_nm_16 (big : Nat → List Value → qM → qW → qR) (n0 : Nat) (G : qM) (U : qW) (v0 : Int32) : qm_run pm_m big m_21 (n0 + 3) 47 [(0, .ref 9), (1, .ref 2), (2, .int (1 : Int32))] [.int v0] G U = qm_run pm_m big m_21 n0 52 [(0, .ref 9), (1, .ref 2), (2, .int (1 : Int32))] [.int (97 : Int32), .int v0] G U := rfl
theorem sg_nm_17 (big : Nat → List Value → qM → qW → qR) (n0 : Nat) (G : qM) (U : qW) : qm_run pm_m big m_21 (n0 + 12) 57 [(0, .ref 9), (1, .ref 2), (2, .int (1 : Int32))] [] G U = qm_run pm_m big m_21 n0 46 [(0, .ref 9), (1, .ref 2), (2, .int (2 : Int32))] [.int ((G 9 3) + (2 : Int32)), .ref 10] G U := rfl
theorem sg_nm_18 (big : Nat → List Value → qM → qW → qR) (n0 : Nat) (G : qM) (U : qW) (v0 : Int32) : qm_run pm_m big m_21 (n0 + 3) 47 [(0, .ref 9), (1, .ref 2), (2, .int (2 : Int32))] [.int v0] G U = qm_run pm_m big m_21 n0 52 [(0, .ref 9), (1, .ref 2), (2, .int (2 : Int32))] [.int (108 : Int32), .int v0] G U := rfl
theorem sg_nm_19 (big : Nat → List Value → qM → qW → qR) (n0 : Nat) (G : qM) (U : qW) : qm_run pm_m big m_21 (n0 + 12) 57 [(0, .ref 9), (1, .ref 2), (2, .int (2 : Int32))] [] G U = qm_run pm_m big m_21 n0 46 [(0, .ref 9), (1, .ref 2), (2, .int (3 : Int32))] [.int ((G 9 3) + (3 : Int32)), .ref 10] G U := rfl
theorem sg_nm_20 (big : Nat → List Value → qM → qW → qR) (n0 : Nat) (G : qM) (U : qW) (v0 : Int32) : qm_run pm_m big m_21 (n0 + 3) 47 [(0, .ref 9), (1, .ref 2), (2, .int (3 : Int32))] [.int v0] G U = qm_run pm_m big m_21 n0 52 [(0, .ref 9), (1, .ref 2), (2, .int (3 : Int32))] [.int (108 : Int32), .int v0] G U := rfl
theorem sg_nm_21 (big : Nat → List Value → qM → qW → qR) (n0 : Nat) (G : qM) (U : qW) : qm_run pm_m big m_21 (n0 + 3) 0 [(0, .ref 9), (1, .ref 3)] [] G U = qm_run pm_m big m_21 n0 5 [(0, .ref 9), (1, .ref 3)] [.int (1 : Int32), .int (G 9 2)] G U := rfl
theorem sg_nm_22 (big : Nat → List Value → qM → qW → qR) (n0 : Nat) (G : qM) (U : qW) : qm_run pm_m big m_21 (n0 + 7) 8 [(0, .ref 9), (1, .ref 3)] [] G U = qm_run pm_m big m_21 n0 21 [(0, .ref 9), (1, .ref 3)] [.int (2 : Int32), .int ((G 9 5) - (G 9 3))] G U := rfl
theorem sg_nm_23 (big : Nat → List Value → qM → qW → qR) (n0 : Nat) (G : qM) (U : qW) : qm_run pm_m big m_21 (n0 + 12) 26 [(0, .ref 9), (1, .ref 3)] [] G U = qm_run pm_m big m_21 n0 46 [(0, .ref 9), (1, .ref 3), (2, .int (0 : Int32))] [.int ((G 9 3) + (0 : Int32)), .ref 10] G U := rfl
theorem sg_nm_24 (big : Nat → List Value → qM → qW → qR) (n0 : Nat) (G : qM) (U : qW) (v0 : Int32) : qm_run pm_m big m_21 (n0 + 3) 47 [(0, .ref 9), (1, .ref 3), (2, .int (0 : Int32))] [.int v0] G U = qm_run pm_m big m_21 n0 52 [(0, .ref 9), (1, .ref 3), (2, .int (0 : Int32))] [.int (97 : Int32), .int v0] G U := rfl
theorem sg_nm_25 (big : Nat → List Value → qM → qW → qR) (n0 : Nat) (G : qM) (U : qW) : qm_run pm_m big m_21 (n0 + 12) 57 [(0, .ref 9), (1, .ref 3), (2, .int (0 : Int32))] [] G U = qm_run pm_m big m_21 n0 46 [(0, .ref 9), (1, .ref 3), (2, .int (1 : Int32))] [.int ((G 9 3) + (1 : Int32)), .ref 10] G U := rfl
theorem sg_nm_26 (big : Nat → List Value → qM → qW → qR) (n0 : Nat) (G : qM) (U : qW) (v0 : Int32) : qm_run pm_m big m_21 (n0 + 3) 47 [(0, .ref 9), (1, .ref 3), (2, .int (1 : Int32))] [.int v0] G U = qm_run pm_m big m_21 n0 52 [(0, .ref 9), (1, .ref 3), (2, .int (1 : Int32))] [.int (116 : Int32), .int v0] G U := rfl
theorem sg_nm_27 (big : Nat → List Value → qM → qW → qR) (n0 : Nat) (G : qM) (U : qW) : qm_run pm_m big m_21 (n0 + 3) 0 [(0, .ref 9), (1, .ref 4)] [] G U = qm_run pm_m big m_21 n0 5 [(0, .ref 9), (1, .ref 4)] [.int (1 : Int32), .int (G 9 2)] G U := rfl
theorem sg_nm_28 (big : Nat → List Value → qM → qW → qR) (n0 : Nat) (G : qM) (U : qW) : qm_run pm_m big m_21 (n0 + 7) 8 [(0, .ref 9), (1, .ref 4)] [] G U = qm_run pm_m big m_21 n0 21 [(0, .ref 9), (1, .ref 4)] [.int (5 : Int32), .int ((G 9 5) - (G 9 3))] G U := rfl
theorem sg_nm_29 (big : Nat → List Value → qM → qW → qR) (n0 : Nat) (G : qM) (U : qW) : qm_run pm_m big m_21 (n0 + 12) 26 [(0, .ref 9), (1, .ref 4)] [] G U = qm_run pm_m big m_21 n0 46 [(0, .ref 9), (1, .ref 4), (2, .int (0 : Int32))] [.int ((G 9 3) + (0 : Int32)), .ref 10] G U := rfl
theorem sg_nm_30 (big : Nat → List Value → qM → qW → qR) (n0 : Nat) (G : qM) (U : qW) (v0 : Int32) : qm_run pm_m big m_21 (n0 + 3) 47 [(0, .ref 9), (1, .ref 4), (2, .int (0 : Int32))] [.int v0] G U = qm_run pm_m big m_21 n0 52 [(0, .ref 9), (1, .ref 4), (2, .int (0 : Int32))] [.int (115 : Int32), .int v0] G U := rfl
theorem sg_nm_31 (big : Nat → List Value → qM → qW → qR) (n0 : Nat) (G : qM) (U : qW) : qm_run pm_m big m_21 (n0 + 12) 57 [(0, .ref 9), (1, .ref 4), (2, .int (0 : Int32))] [] G U = qm_run pm_m big m_21 n0 46 [(0, .ref 9), (1, .ref 4), (2, .int (1 : Int32))] [.int ((G 9 3) + (1 : Int32)), .ref 10] G U := rfl
theorem sg_nm_32 (big : Nat → List Value → qM → qW → qR) (n0 : Nat) (G : qM) (U : qW) (v0 : Int32) : qm_run pm_m big m_21 (n0 + 3) 47 [(0, .ref 9), (1, .ref 4), (2, .int (1 : Int32))] [.int v0] G U = qm_run pm_m big m_21 n0 52 [(0, .ref 9), (1, .ref 4), (2, .int (1 : Int32))] [.int (116 : Int32), .int v0] G U := rfl
theorem sg_nm_33 (big : Nat → List Value → qM → qW → qR) (n0 : Nat) (G : qM) (U : qW) : qm_run pm_m big m_21 (n0 + 12) 57 [(0, .ref 9), (1, .ref 4), (2, .int (1 : Int32))] [] G U = qm_run pm_m big m_21 n0 46 [(0, .ref 9), (1, .ref 4), (2, .int (2 : Int32))] [.int ((G 9 3) + (2 : Int32)), .ref 10] G U := rfl
theorem sg_nm_34 (big : Nat → List Value → qM → qW → qR) (n0 : Nat) (G : qM) (U : qW) (v0 : Int32) : qm_run pm_m big m_21 (n0 + 3) 47 [(0, .ref 9), (1, .ref 4), (2, .int (2 : Int32))] [.int v0] G U = qm_run pm_m big m_21 n0 52 [(0, .ref 9), (1, .ref 4), (2, .int (2 : Int32))] [.int (105 : Int32), .int v0] G U := rfl
theorem sg_nm_35 (big : Nat → List Value → qM → qW → qR) (n0 : Nat) (G : qM) (U : qW) : qm_run pm_m big m_21 (n0 + 12) 57 [(0, .ref 9), (1, .ref 4), (2, .int (2 : Int32))] [] G U = qm_run pm_m big m_21 n0 46 [(0, .ref 9), (1, .ref 4), (2, .int (3 : Int32))] [.int ((G 9 3) + (3 : Int32)), .ref 10] G U := rfl
theorem sg_nm_36 (big : Nat → List Value → qM → qW → qR) (n0 : Nat) (G : qM) (U : qW) (v0 : Int32) : qm_run pm_m big m_21 (n0 + 3) 47 [(0, .ref 9), (1, .ref 4), (2, .int (3 : Int32))] [.int v0] G U = qm_run pm_m big m_21 n0 52 [(0, .ref 9), (1, .ref 4), (2, .int (3 : Int32))] [.int (108 : Int32), .int v0] G U := rfl
theorem sg_nm_37 (big : Nat → List Value → qM → qW → qR) (n0 : Nat) (G : qM) (U : qW) : qm_run pm_m big m_21 (n0 + 12) 57 [(0, .ref 9), (1, .ref 4), (2, .int (3 : Int32))] [] G U = qm_run pm_m big m_21 n0 46 [(0, .ref 9), (1, .ref 4), (2, .int (4 : Int32))] [.int ((G 9 3) + (4 : Int32)), .ref 10] G U := rfl
theorem sg_nm_38 (big : Nat → List Value → qM → qW → qR) (n0 : Nat) (G : qM) (U : qW) (v0 : Int32) : qm_run pm_m big m_21 (n0 + 3) 47 [(0, .ref 9), (1, .ref 4), (2, .int (4 : Int32))] [.int v0] G U = qm_run pm_m big m_21 n0 52 [(0, .ref 9), (1, .ref 4), (2, .int (4 : Int32))] [.int (108 : Int32), .int v0] G U := rfl
theorem sg_nm_39 (big : Nat → List Value → qM → qW → qR) (n0 : Nat) (G : qM) (U : qW) : qm_run pm_m big m_21 (n0 + 3) 0 [(0, .ref 9), (1, .ref 5)] [] G U = qm_run pm_m big m_21 n0 5 [(0, .ref 9), (1, .ref 5)] [.int (1 : Int32), .int (G 9 2)] G U := rfl
theorem sg_nm_40 (big : Nat → List Value → qM → qW → qR) (n0 : Nat) (G : qM) (U : qW) : qm_run pm_m big m_21 (n0 + 7) 8 [(0, .ref 9), (1, .ref 5)] [] G U = qm_run pm_m big m_21 n0 21 [(0, .ref 9), (1, .ref 5)] [.int (4 : Int32), .int ((G 9 5) - (G 9 3))] G U := rfl
theorem sg_nm_41 (big : Nat → List Value → qM → qW → qR) (n0 : Nat) (G : qM) (U : qW) : qm_run pm_m big m_21 (n0 + 12) 26 [(0, .ref 9), (1, .ref 5)] [] G U = qm_run pm_m big m_21 n0 46 [(0, .ref 9), (1, .ref 5), (2, .int (0 : Int32))] [.int ((G 9 3) + (0 : Int32)), .ref 10] G U := rfl
theorem sg_nm_42 (big : Nat → List Value → qM → qW → qR) (n0 : Nat) (G : qM) (U : qW) (v0 : Int32) : qm_run pm_m big m_21 (n0 + 3) 47 [(0, .ref 9), (1, .ref 5), (2, .int (0 : Int32))] [.int v0] G U = qm_run pm_m big m_21 n0 52 [(0, .ref 9), (1, .ref 5), (2, .int (0 : Int32))] [.int (112 : Int32), .int v0] G U := rfl
theorem sg_nm_43 (big : Nat → List Value → qM → qW → qR) (n0 : Nat) (G : qM) (U : qW) : qm_run pm_m big m_21 (n0 + 12) 57 [(0, .ref 9), (1, .ref 5), (2, .int (0 : Int32))] [] G U = qm_run pm_m big m_21 n0 46 [(0, .ref 9), (1, .ref 5), (2, .int (1 : Int32))] [.int ((G 9 3) + (1 : Int32)), .ref 10] G U := rfl
theorem sg_nm_44 (big : Nat → List Value → qM → qW → qR) (n0 : Nat) (G : qM) (U : qW) (v0 : Int32) : qm_run pm_m big m_21 (n0 + 3) 47 [(0, .ref 9), (1, .ref 5), (2, .int (1 : Int32))] [.int v0] G U = qm_run pm_m big m_21 n0 52 [(0, .ref 9), (1, .ref 5), (2, .int (1 : Int32))] [.int (117 : Int32), .int v0] G U := rfl
theorem sg_nm_45 (big : Nat → List Value → qM → qW → qR) (n0 : Nat) (G : qM) (U : qW) : qm_run pm_m big m_21 (n0 + 12) 57 [(0, .ref 9), (1, .ref 5), (2, .int (1 : Int32))] [] G U = qm_run pm_m big m_21 n0 46 [(0, .ref 9), (1, .ref 5), (2, .int (2 : Int32))] [.int ((G 9 3) + (2 : Int32)), .ref 10] G U := rfl
theorem sg_nm_46 (big : Nat → List Value → qM → qW → qR) (n0 : Nat) (G : qM) (U : qW) (v0 : Int32) : qm_run pm_m big m_21 (n0 + 3) 47 [(0, .ref 9), (1, .ref 5), (2, .int (2 : Int32))] [.int v0] G U = qm_run pm_m big m_21 n0 52 [(0, .ref 9), (1, .ref 5), (2, .int (2 : Int32))] [.int (108 : Int32), .int v0] G U := rfl
theorem sg_nm_47 (big : Nat → List Value → qM → qW → qR) (n0 : Nat) (G : qM) (U : qW) : qm_run pm_m big m_21 (n0 + 12) 57 [(0, .ref 9), (1, .ref 5), (2, .int (2 : Int32))] [] G U = qm_run pm_m big m_21 n0 46 [(0, .ref 9), (1, .ref 5), (2, .int (3 : Int32))] [.int ((G 9 3) + (3 : Int32)), .ref 10] G U := rfl
theorem sg_nm_48 (big : Nat → List Value → qM → qW → qR) (n0 : Nat) (G : qM) (U : qW) (v0 : Int32) : qm_run pm_m big m_21 (n0 + 3) 47 [(0, .ref 9), (1, .ref 5), (2, .int (3 : Int32))] [.int v0] G U = qm_run pm_m big m_21 n0 52 [(0, .ref 9), (1, .ref 5), (2, .int (3 : Int32))] [.int (108 : Int32), .int v0] G U := rfl
theorem sg_nm_49 (big : Nat → List Value → qM → qW → qR) (n0 : Nat) (G : qM) (U : qW) : qm_run pm_m big m_21 (n0 + 3) 0 [(0, .ref 9), (1, .ref 6)] [] G U = qm_run pm_m big m_21 n0 5 [(0, .ref 9), (1, .ref 6)] [.int (1 : Int32), .int (G 9 2)] G U := rfl
theorem sg_nm_50 (big : Nat → List Value → qM → qW → qR) (n0 : Nat) (G : qM) (U : qW) : qm_run pm_m big m_21 (n0 + 7) 8 [(0, .ref 9), (1, .ref 6)] [] G U = qm_run pm_m big m_21 n0 21 [(0, .ref 9), (1, .ref 6)] [.int (5 : Int32), .int ((G 9 5) - (G 9 3))] G U := rfl
theorem sg_nm_51 (big : Nat → List Value → qM → qW → qR) (n0 : Nat) (G : qM) (U : qW) : qm_run pm_m big m_21 (n0 + 12) 26 [(0, .ref 9), (1, .ref 6)] [] G U = qm_run pm_m big m_21 n0 46 [(0, .ref 9), (1, .ref 6), (2, .int (0 : Int32))] [.int ((G 9 3) + (0 : Int32)), .ref 10] G U := rfl
theorem sg_nm_52 (big : Nat → List Value → qM → qW → qR) (n0 : Nat) (G : qM) (U : qW) (v0 : Int32) : qm_run pm_m big m_21 (n0 + 3) 47 [(0, .ref 9), (1, .ref 6), (2, .int (0 : Int32))] [.int v0] G U = qm_run pm_m big m_21 n0 52 [(0, .ref 9), (1, .ref 6), (2, .int (0 : Int32))] [.int (112 : Int32), .int v0] G U := rfl
theorem sg_nm_53 (big : Nat → List Value → qM → qW → qR) (n0 : Nat) (G : qM) (U : qW) : qm_run pm_m big m_21 (n0 + 12) 57 [(0, .ref 9), (1, .ref 6), (2, .int (0 : Int32))] [] G U = qm_run pm_m big m_21 n0 46 [(0, .ref 9), (1, .ref 6), (2, .int (1 : Int32))] [.int ((G 9 3) + (1 : Int32)), .ref 10] G U := rfl
theorem sg_nm_54 (big : Nat → List Value → qM → qW → qR) (n0 : Nat) (G : qM) (U : qW) (v0 : Int32) : qm_run pm_m big m_21 (n0 + 3) 47 [(0, .ref 9), (1, .ref 6), (2, .int (1 : Int32))] [.int v0] G U = qm_run pm_m big m_21 n0 52 [(0, .ref 9), (1, .ref 6), (2, .int (1 : Int32))] [.int (114 : Int32), .int v0] G U := rfl
theorem sg_nm_55 (big : Nat → List Value → qM → qW → qR) (n0 : Nat) (G : qM) (U : qW) : qm_run pm_m big m_21 (n0 + 12) 57 [(0, .ref 9), (1, .ref 6), (2, .int (1 : Int32))] [] G U = qm_run pm_m big m_21 n0 46 [(0, .ref 9), (1, .ref 6), (2, .int (2 : Int32))] [.int ((G 9 3) + (2 : Int32)), .ref 10] G U := rfl
theorem sg_nm_56 (big : Nat → List Value → qM → qW → qR) (n0 : Nat) (G : qM) (U : qW) (v0 : Int32) : qm_run pm_m big m_21 (n0 + 3) 47 [(0, .ref 9), (1, .ref 6), (2, .int (2 : Int32))] [.int v0] G U = qm_run pm_m big m_21 n0 52 [(0, .ref 9), (1, .ref 6), (2, .int (2 : Int32))] [.int (101 : Int32), .int v0] G U := rfl
theorem sg_nm_57 (big : Nat → List Value → qM → qW → qR) (n0 : Nat) (G : qM) (U : qW) : qm_run pm_m big m_21 (n0 + 12) 57 [(0, .ref 9), (1, .ref 6), (2, .int (2 : Int32))] [] G U = qm_run pm_m big m_21 n0 46 [(0, .ref 9), (1, .ref 6), (2, .int (3 : Int32))] [.int ((G 9 3) + (3 : Int32)), .ref 10] G U := rfl
theorem sg_nm_58 (big : Nat → List Value → qM → qW → qR) (n0 : Nat) (G : qM) (U : qW) (v0 : Int32) : qm_run pm_m big m_21 (n0 + 3) 47 [(0, .ref 9), (1, .ref 6), (2, .int (3 : Int32))] [.int v0] G U = qm_run pm_m big m_21 n0 52 [(0, .ref 9), (1, .ref 6), (2, .int (3 : Int32))] [.int (115 : Int32), .int v0] G U := rfl
theorem sg_nm_59 (big : Nat → List Value → qM → qW → qR) (n0 : Nat) (G : qM) (U : qW) : qm_run pm_m big m_21 (n0 + 12) 57 [(0, .ref 9), (1, .ref 6), (2, .int (3 : Int32))] [] G U = qm_run pm_m big m_21 n0 46 [(0, .ref 9), (1, .ref 6), (2, .int (4 : Int32))] [.int ((G 9 3) + (4 : Int32)), .ref 10] G U := rfl
theorem sg_nm_60 (big : Nat → List Value → qM → qW → qR) (n0 : Nat) (G : qM) (U : qW) (v0 : Int32) : qm_run pm_m big m_21 (n0 + 3) 47 [(0, .ref 9), (1, .ref 6), (2, .int (4 : Int32))] [.int v0] G U = qm_run pm_m big m_21 n0 52 [(0, .ref 9), (1, .ref 6), (2, .int (4 : Int32))] [.int (115 : Int32), .int v0] G U := rfl
theorem sg_nm_61 (big : Nat → List Value → qM → qW → qR) (n0 : Nat) (G : qM) (U : qW) : qm_run pm_m big m_21 (n0 + 3) 0 [(0, .ref 9), (1, .ref 7)] [] G U = qm_run pm_m big m_21 n0 5 [(0, .ref 9), (1, .ref 7)] [.int (1 : Int32), .int (G 9 2)] G U := rfl
theorem sg_nm_62 (big : Nat → List Value → qM → qW → qR) (n0 : Nat) (G : qM) (U : qW) : qm_run pm_m big m_21 (n0 + 7) 8 [(0, .ref 9), (1, .ref 7)] [] G U = qm_run pm_m big m_21 n0 21 [(0, .ref 9), (1, .ref 7)] [.int (4 : Int32), .int ((G 9 5) - (G 9 3))] G U := rfl
theorem sg_nm_63 (big : Nat → List Value → qM → qW → qR) (n0 : Nat) (G : qM) (U : qW) : qm_run pm_m big m_21 (n0 + 12) 26 [(0, .ref 9), (1, .ref 7)] [] G U = qm_run pm_m big m_21 n0 46 [(0, .ref 9), (1, .ref 7), (2, .int (0 : Int32))] [.int ((G 9 3) + (0 : Int32)), .ref 10] G U := rfl
theorem sg_nm_64 (big : Nat → List Value → qM → qW → qR) (n0 : Nat) (G : qM) (U : qW) (v0 : Int32) : qm_run pm_m big m_21 (n0 + 3) 47 [(0, .ref 9), (1, .ref 7), (2, .int (0 : Int32))] [.int v0] G U = qm_run pm_m big m_21 n0 52 [(0, .ref 9), (1, .ref 7), (2, .int (0 : Int32))] [.int (103 : Int32), .int v0] G U := rfl
theorem sg_nm_65 (big : Nat → List Value → qM → qW → qR) (n0 : Nat) (G : qM) (U : qW) : qm_run pm_m big m_21 (n0 + 12) 57 [(0, .ref 9), (1, .ref 7), (2, .int (0 : Int32))] [] G U = qm_run pm_m big m_21 n0 46 [(0, .ref 9), (1, .ref 7), (2, .int (1 : Int32))] [.int ((G 9 3) + (1 : Int32)), .ref 10] G U := rfl
theorem sg_nm_66 (big : Nat → List Value → qM → qW → qR) (n0 : Nat) (G : qM) (U : qW) (v0 : Int32) : qm_run pm_m big m_21 (n0 + 3) 47 [(0, .ref 9), (1, .ref 7), (2, .int (1 : Int32))] [.int v0] G U = qm_run pm_m big m_21 n0 52 [(0, .ref 9), (1, .ref 7), (2, .int (1 : Int32))] [.int (111 : Int32), .int v0] G U := rfl
theorem sg_nm_67 (big : Nat → List Value → qM → qW → qR) (n0 : Nat) (G : qM) (U : qW) : qm_run pm_m big m_21 (n0 + 12) 57 [(0, .ref 9), (1, .ref 7), (2, .int (1 : Int32))] [] G U = qm_run pm_m big m_21 n0 46 [(0, .ref 9), (1, .ref 7), (2, .int (2 : Int32))] [.int ((G 9 3) + (2 : Int32)), .ref 10] G U := rfl
theorem sg_nm_68 (big : Nat → List Value → qM → qW → qR) (n0 : Nat) (G : qM) (U : qW) (v0 : Int32) : qm_run pm_m big m_21 (n0 + 3) 47 [(0, .ref 9), (1, .ref 7), (2, .int (2 : Int32))] [.int v0] G U = qm_run pm_m big m_21 n0 52 [(0, .ref 9), (1, .ref 7), (2, .int (2 : Int32))] [.int (97 : Int32), .int v0] G U := rfl
theorem sg_nm_69 (big : Nat → List Value → qM → qW → qR) (n0 : Nat) (G : qM) (U : qW) : qm_run pm_m big m_21 (n0 + 12) 57 [(0, .ref 9), (1, .ref 7), (2, .int (2 : Int32))] [] G U = qm_run pm_m big m_21 n0 46 [(0, .ref 9), (1, .ref 7), (2, .int (3 : Int32))] [.int ((G 9 3) + (3 : Int32)), .ref 10] G U := rfl
theorem sg_nm_70 (big : Nat → List Value → qM → qW → qR) (n0 : Nat) (G : qM) (U : qW) (v0 : Int32) : qm_run pm_m big m_21 (n0 + 3) 47 [(0, .ref 9), (1, .ref 7), (2, .int (3 : Int32))] [.int v0] G U = qm_run pm_m big m_21 n0 52 [(0, .ref 9), (1, .ref 7), (2, .int (3 : Int32))] [.int (108 : Int32), .int v0] G U := rfl
theorem sg_nm_71 (big : Nat → List Value → qM → qW → qR) (n0 : Nat) (G : qM) (U : qW) (v0 : Int32) (v1 : Int32) (v2 : Int32) : qm_run pm_m big m_157 (n0 + 6) 0 [(0, .ref 70), (1, .int v0), (2, .int v1), (3, .int v2)] [] G U = qm_run pm_m big m_157 n0 10 [(0, .ref 70), (1, .int v0), (2, .int v1), (3, .int v2)] [.int v0, .int ((G 70 14) - (G 70 15))] G U := rfl
theorem sg_nm_72 (big : Nat → List Value → qM → qW → qR) (n0 : Nat) (G : qM) (U : qW) (v0 : Int32) (v1 : Int32) (v2 : Int32) : qm_run pm_m big m_157 (n0 + 3) 13 [(0, .ref 70), (1, .int v0), (2, .int v1), (3, .int v2)] [] G U = qm_run pm_m big m_157 n0 18 [(0, .ref 70), (1, .int v0), (2, .int v1), (3, .int v2)] [.int (G 70 15), .ref 70] G U := rfl
theorem sg_nm_73 (big : Nat → List Value → qM → qW → qR) (n0 : Nat) (G : qM) (U : qW) (v0 : Int32) (v1 : Int32) (v2 : Int32) (v3 : Int32) : qm_run pm_m big m_157 (n0 + 1) 21 [(0, .ref 70), (1, .int v0), (2, .int v1), (3, .int v2)] [.int v3] G U = qm_run pm_m big m_157 n0 22 [(0, .ref 70), (1, .int v0), (2, .int v1), (3, .int v2)] [.int v1, .int v3] G U := rfl
theorem sg_nm_74 (big : Nat → List Value → qM → qW → qR) (n0 : Nat) (G : qM) (U : qW) (v0 : Int32) (v1 : Int32) (v2 : Int32) : qm_run pm_m big m_157 (n0 + 5) 25 [(0, .ref 70), (1, .int v0), (2, .int v1), (3, .int v2)] [] G U = qm_run pm_m big m_157 n0 32 [(0, .ref 70), (1, .int v0), (2, .int v1), (3, .int v2)] [.int ((G 70 15) + (1 : Int32)), .ref 70] G U := rfl
theorem sg_nm_75 (big : Nat → List Value → qM → qW → qR) (n0 : Nat) (G : qM) (U : qW) (v0 : Int32) (v1 : Int32) (v2 : Int32) (v3 : Int32) : qm_run pm_m big m_157 (n0 + 1) 35 [(0, .ref 70), (1, .int v0), (2, .int v1), (3, .int v2)] [.int v3] G U = qm_run pm_m big m_157 n0 36 [(0, .ref 70), (1, .int v0), (2, .int v1), (3, .int v2)] [.int v2, .int v3] G U := rfl
theorem sg_nm_76 (big : Nat → List Value → qM → qW → qR) (n0 : Nat) (G : qM) (U : qW) (v0 : Int32) (v1 : Int32) (v2 : Int32) : qm_run pm_m big m_158 (n0 + 5) 0 [(0, .ref 70), (1, .int v0), (2, .int v1), (3, .int v2)] [] G U = qm_run pm_m big m_158 n0 7 [(0, .ref 70), (1, .int v0), (2, .int v1), (3, .int v2)] [.int ((G 70 15) + (2 : Int32)), .ref 70] G U := rfl
theorem sg_nm_77 (big : Nat → List Value → qM → qW → qR) (n0 : Nat) (G : qM) (U : qW) (v0 : Int32) (v1 : Int32) (v2 : Int32) (v3 : Int32) : qm_run pm_m big m_158 (n0 + 1) 10 [(0, .ref 70), (1, .int v0), (2, .int v1), (3, .int v2)] [.int v3] G U = qm_run pm_m big m_158 n0 11 [(0, .ref 70), (1, .int v0), (2, .int v1), (3, .int v2)] [.int v0, .int v3] G U := rfl
theorem sg_nm_78 (big : Nat → List Value → qM → qW → qR) (n0 : Nat) (G : qM) (U : qW) (v0 : Int32) (v1 : Int32) (v2 : Int32) : qm_run pm_m big m_158 (n0 + 5) 14 [(0, .ref 70), (1, .int v0), (2, .int v1), (3, .int v2)] [] G U = qm_run pm_m big m_158 n0 21 [(0, .ref 70), (1, .int v0), (2, .int v1), (3, .int v2)] [.int ((G 70 15) + (3 : Int32)), .ref 70] G U := rfl
theorem sg_nm_79 (big : Nat → List Value → qM → qW → qR) (n0 : Nat) (G : qM) (U : qW) (v0 : Int32) (v1 : Int32) (v2 : Int32) (v3 : Int32) : qm_run pm_m big m_158 (n0 + 1) 24 [(0, .ref 70), (1, .int v0), (2, .int v1), (3, .int v2)] [.int v3] G U = qm_run pm_m big m_158 n0 25 [(0, .ref 70), (1, .int v0), (2, .int v1), (3, .int v2)] [.int v1, .int v3] G U := rfl
theorem sg_nm_80 (big : Nat → List Value → qM → qW → qR) (n0 : Nat) (G : qM) (U : qW) (v0 : Int32) (v1 : Int32) (v2 : Int32) : qm_run pm_m big m_158 (n0 + 1) 28 [(0, .ref 70), (1, .int v0), (2, .int v1), (3, .int v2)] [] G U = qm_run pm_m big m_158 n0 29 [(0, .ref 70), (1, .int v0), (2, .int v1), (3, .int v2)] [.int v2] G U := rfl
theorem sg_nm_81 (big : Nat → List Value → qM → qW → qR) (n0 : Nat) (G : qM) (U : qW) (v0 : Int32) (v1 : Int32) (v2 : Int32) : qm_run pm_m big m_158 (n0 + 5) 32 [(0, .ref 70), (1, .int v0), (2, .int v1), (3, .int v2)] [] G U = qm_run pm_m big m_158 n0 39 [(0, .ref 70), (1, .int v0), (2, .int v1), (3, .int v2)] [.int ((G 70 15) + (4 : Int32)), .ref 70] G U := rfl
theorem sg_nm_82 (big : Nat → List Value → qM → qW → qR) (n0 : Nat) (G : qM) (U : qW) (v0 : Int32) (v1 : Int32) (v2 : Int32) (v3 : Int32) : qm_run pm_m big m_158 (n0 + 1) 42 [(0, .ref 70), (1, .int v0), (2, .int v1), (3, .int v2)] [.int v3] G U = qm_run pm_m big m_158 n0 43 [(0, .ref 70), (1, .int v0), (2, .int v1), (3, .int v2)] [.int v2, .int v3] G U := rfl
theorem sg_nm_83 (big : Nat → List Value → qM → qW → qR) (n0 : Nat) (G : qM) (U : qW) : qm_run pm_m big m_156 (n0 + 4) 0 [(0, .ref 70)] [] G U = qm_run pm_m big m_156 n0 6 [(0, .ref 70)] [.int (111 : Int32), .int (116 : Int32), .int (4 : Int32), .ref 70] G U := rfl
theorem sg_nm_84 (big : Nat → List Value → qM → qW → qR) (n0 : Nat) (G : qM) (U : qW) : qm_run pm_m big m_156 (n0 + 4) 26 [(0, .ref 70)] [] G U = qm_run pm_m big m_156 n0 32 [(0, .ref 70)] [.int (117 : Int32), .int (112 : Int32), .int (4 : Int32), .ref 70] G U := rfl
theorem sg_nm_85 (big : Nat → List Value → qM → qW → qR) (n0 : Nat) (G : qM) (U : qW) : qm_run pm_m big m_156 (n0 + 4) 52 [(0, .ref 70)] [] G U = qm_run pm_m big m_156 n0 58 [(0, .ref 70)] [.int (114 : Int32), .int (112 : Int32), .int (5 : Int32), .ref 70] G U := rfl
theorem sg_nm_86 (big : Nat → List Value → qM → qW → qR) (n0 : Nat) (G : qM) (U : qW) : qm_run pm_m big m_156 (n0 + 4) 79 [(0, .ref 70)] [] G U = qm_run pm_m big m_156 n0 85 [(0, .ref 70)] [.int (97 : Int32), .int (119 : Int32), .int (4 : Int32), .ref 70] G U := rfl
theorem sg_nm_87 (big : Nat → List Value → qM → qW → qR) (n0 : Nat) (G : qM) (U : qW) : qm_run pm_m big m_156 (n0 + 4) 105 [(0, .ref 70)] [] G U = qm_run pm_m big m_156 n0 111 [(0, .ref 70)] [.int (116 : Int32), .int (97 : Int32), .int (2 : Int32), .ref 70] G U := rfl
theorem sg_nm_88 (big : Nat → List Value → qM → qW → qR) (n0 : Nat) (G : qM) (U : qW) : qm_run pm_m big m_156 (n0 + 4) 119 [(0, .ref 70)] [] G U = qm_run pm_m big m_156 n0 125 [(0, .ref 70)] [.int (116 : Int32), .int (115 : Int32), .int (5 : Int32), .ref 70] G U := rfl
theorem sg_nm_89 (big : Nat → List Value → qM → qW → qR) (n0 : Nat) (G : qM) (U : qW) : qm_run pm_m big m_156 (n0 + 4) 148 [(0, .ref 70)] [] G U = qm_run pm_m big m_156 n0 154 [(0, .ref 70)] [.int (111 : Int32), .int (103 : Int32), .int (4 : Int32), .ref 70] G U := rfl
theorem sg_nm_90 (big : Nat → List Value → qM → qW → qR) (n0 : Nat) (G : qM) (U : qW) : qm_run pm_m big m_156 (n0 + 4) 160 [(0, .ref 70)] [] G U = qm_run pm_m big m_156 n0 166 [(0, .ref 70)] [.int (0 : Int32), .int (108 : Int32), .int (97 : Int32), .ref 70] G U := rfl
theorem sg_nm_91 (big : Nat → List Value → qM → qW → qR) (n0 : Nat) (G : qM) (U : qW) : qm_run pm_m big m_156 (n0 + 4) 131 [(0, .ref 70)] [] G U = qm_run pm_m big m_156 n0 138 [(0, .ref 70)] [.int (108 : Int32), .int (108 : Int32), .int (105 : Int32), .ref 70] G U := rfl
theorem sg_nm_92 (big : Nat → List Value → qM → qW → qR) (n0 : Nat) (G : qM) (U : qW) : qm_run pm_m big m_156 (n0 + 4) 91 [(0, .ref 70)] [] G U = qm_run pm_m big m_156 n0 97 [(0, .ref 70)] [.int (0 : Int32), .int (108 : Int32), .int (108 : Int32), .ref 70] G U := rfl
theorem sg_nm_93 (big : Nat → List Value → qM → qW → qR) (n0 : Nat) (G : qM) (U : qW) : qm_run pm_m big m_156 (n0 + 4) 64 [(0, .ref 70)] [] G U = qm_run pm_m big m_156 n0 71 [(0, .ref 70)] [.int (115 : Int32), .int (115 : Int32), .int (101 : Int32), .ref 70] G U := rfl
theorem sg_nm_94 (big : Nat → List Value → qM → qW → qR) (n0 : Nat) (G : qM) (U : qW) : qm_run pm_m big m_156 (n0 + 4) 38 [(0, .ref 70)] [] G U = qm_run pm_m big m_156 n0 44 [(0, .ref 70)] [.int (0 : Int32), .int (108 : Int32), .int (108 : Int32), .ref 70] G U := rfl
theorem sg_nm_95 (big : Nat → List Value → qM → qW → qR) (n0 : Nat) (G : qM) (U : qW) : qm_run pm_m big m_156 (n0 + 4) 12 [(0, .ref 70)] [] G U = qm_run pm_m big m_156 n0 18 [(0, .ref 70)] [.int (0 : Int32), .int (110 : Int32), .int (119 : Int32), .ref 70] G U := rfl
theorem c_isn0 {f e : Nat} (g : qM) (u : qW) (hf : g 9 3 = Int32.ofNat f) (hp : g 9 5 = Int32.ofNat e) (hle : f ≤ e) (he : e ≤ 160) : q_BS 21 [.ref 9, .ref 1] g u (some (.int (if g 9 2 = 1 then t_is (g 10) f (e - f) (t_nm 0) else 0)), g, u) := by
  refine q_bx (mm := m_21) rfl (Nat.le_of_ble_eq_true rfl) rfl ?_
  refine q_step 3 5 [(0, .ref 9), (1, .ref 1)] [.int (1 : Int32), .int (g 9 2)] g u (fun big n0 => sg_nm_1 big n0 g u) ?_
  refine q_ic_ne rfl (fun (hc0 : (g 9 2) = (1 : Int32)) => ?_) (fun (hc0 : ¬ ((g 9 2) = (1 : Int32))) => ?_)
  · refine q_step 7 21 [(0, .ref 9), (1, .ref 1)] [.int (4 : Int32), .int ((g 9 5) - (g 9 3))] g u (fun big n0 => sg_nm_2 big n0 g u) ?_
    refine q_ic_eq rfl (fun (hc1 : ((g 9 5) - (g 9 3)) = (4 : Int32)) => ?_) (fun (hc1 : ¬ (((g 9 5) - (g 9 3)) = (4 : Int32))) => ?_)
    · refine q_step 12 46 [(0, .ref 9), (1, .ref 1), (2, .int (0 : Int32))] [.int ((g 9 3) + (0 : Int32)), .ref 10] g u (fun big n0 => sg_nm_3 big n0 g u) ?_
      refine q_bald (j := (f + 0)) (by have z := hc1; rw [hp, hf, q_sb (by omega) hle, show (4 : Int32) = Int32.ofNat 4 from rfl, q_eq (by omega) (by omega)] at z; rw [hf, show (0 : Int32) = Int32.ofNat 0 from rfl, q_add]; exact q_ixn (by omega) (by omega)) rfl (by decide) rfl ?_
      refine q_step 3 52 [(0, .ref 9), (1, .ref 1), (2, .int (0 : Int32))] [.int (116 : Int32), .int (g 10 (f + 0))] g u (fun big n0 => sg_nm_4 big n0 g u (g 10 (f + 0))) ?_
      refine q_ic_eq rfl (fun (hc2 : (g 10 (f + 0)) = (116 : Int32)) => ?_) (fun (hc2 : ¬ ((g 10 (f + 0)) = (116 : Int32))) => ?_)
      · refine q_step 12 46 [(0, .ref 9), (1, .ref 1), (2, .int (1 : Int32))] [.int ((g 9 3) + (1 : Int32)), .ref 10] g u (fun big n0 => sg_nm_5 big n0 g u) ?_
        refine q_bald (j := (f + 1)) (by have z := hc1; rw [hp, hf, q_sb (by omega) hle, show (4 : Int32) = Int32.ofNat 4 from rfl, q_eq (by omega) (by omega)] at z; rw [hf, show (1 : Int32) = Int32.ofNat 1 from rfl, q_add]; exact q_ixn (by omega) (by omega)) rfl (by decide) rfl ?_
        refine q_step 3 52 [(0, .ref 9), (1, .ref 1), (2, .int (1 : Int32))] [.int (111 : Int32), .int (g 10 (f + 1))] g u (fun big n0 => sg_nm_6 big n0 g u (g 10 (f + 1))) ?_
        refine q_ic_eq rfl (fun (hc3 : (g 10 (f + 1)) = (111 : Int32)) => ?_) (fun (hc3 : ¬ ((g 10 (f + 1)) = (111 : Int32))) => ?_)
        · refine q_step 12 46 [(0, .ref 9), (1, .ref 1), (2, .int (2 : Int32))] [.int ((g 9 3) + (2 : Int32)), .ref 10] g u (fun big n0 => sg_nm_7 big n0 g u) ?_
          refine q_bald (j := (f + 2)) (by have z := hc1; rw [hp, hf, q_sb (by omega) hle, show (4 : Int32) = Int32.ofNat 4 from rfl, q_eq (by omega) (by omega)] at z; rw [hf, show (2 : Int32) = Int32.ofNat 2 from rfl, q_add]; exact q_ixn (by omega) (by omega)) rfl (by decide) rfl ?_
          refine q_step 3 52 [(0, .ref 9), (1, .ref 1), (2, .int (2 : Int32))] [.int (119 : Int32), .int (g 10 (f + 2))] g u (fun big n0 => sg_nm_8 big n0 g u (g 10 (f + 2))) ?_
          refine q_ic_eq rfl (fun (hc4 : (g 10 (f + 2)) = (119 : Int32)) => ?_) (fun (hc4 : ¬ ((g 10 (f + 2)) = (119 : Int32))) => ?_)
          · refine q_step 12 46 [(0, .ref 9), (1, .ref 1), (2, .int (3 : Int32))] [.int ((g 9 3) + (3 : Int32)), .ref 10] g u (fun big n0 => sg_nm_9 big n0 g u) ?_
            refine q_bald (j := (f + 3)) (by have z := hc1; rw [hp, hf, q_sb (by omega) hle, show (4 : Int32) = Int32.ofNat 4 from rfl, q_eq (by omega) (by omega)] at z; rw [hf, show (3 : Int32) = Int32.ofNat 3 from rfl, q_add]; exact q_ixn (by omega) (by omega)) rfl (by decide) rfl ?_
            refine q_step 3 52 [(0, .ref 9), (1, .ref 1), (2, .int (3 : Int32))] [.int (110 : Int32), .int (g 10 (f + 3))] g u (fun big n0 => sg_nm_10 big n0 g u (g 10 (f + 3))) ?_
            refine q_ic_eq rfl (fun (hc5 : (g 10 (f + 3)) = (110 : Int32)) => ?_) (fun (hc5 : ¬ ((g 10 (f + 3)) = (110 : Int32))) => ?_)
            · refine q_ret 8 (some (.int (1 : Int32)), g, u) (fun _ _ => rfl) ?_
              rw [if_pos hc0]
              have zl := hc1
              rw [hp, hf, q_sb (by omega) hle, show (4 : Int32) = Int32.ofNat 4 from rfl, q_eq (by omega) (by omega)] at zl
              unfold t_is
              rw [if_pos (show e - f = (t_nm 0).length from zl)]
              simp only [t_nm, t_eq, Nat.add_assoc, Nat.reduceAdd]
              rw [if_pos (show (g 10 f) = (116 : Int32) from hc2), if_pos (show (g 10 (f + 1)) = (111 : Int32) from hc3), if_pos (show (g 10 (f + 2)) = (119 : Int32) from hc4), if_pos (show (g 10 (f + 3)) = (110 : Int32) from hc5)]
            · refine q_ret 2 (some (.int (0 : Int32)), g, u) (fun _ _ => rfl) ?_
              rw [if_pos hc0]
              have zl := hc1
              rw [hp, hf, q_sb (by omega) hle, show (4 : Int32) = Int32.ofNat 4 from rfl, q_eq (by omega) (by omega)] at zl
              unfold t_is
              rw [if_pos (show e - f = (t_nm 0).length from zl)]
              simp only [t_nm, t_eq, Nat.add_assoc, Nat.reduceAdd]
              rw [if_pos (show (g 10 f) = (116 : Int32) from hc2), if_pos (show (g 10 (f + 1)) = (111 : Int32) from hc3), if_pos (show (g 10 (f + 2)) = (119 : Int32) from hc4), if_neg (show ¬ (g 10 (f + 3)) = (110 : Int32) from hc5)]
          · refine q_ret 2 (some (.int (0 : Int32)), g, u) (fun _ _ => rfl) ?_
            rw [if_pos hc0]
            have zl := hc1
            rw [hp, hf, q_sb (by omega) hle, show (4 : Int32) = Int32.ofNat 4 from rfl, q_eq (by omega) (by omega)] at zl
            unfold t_is
            rw [if_pos (show e - f = (t_nm 0).length from zl)]
            simp only [t_nm, t_eq, Nat.add_assoc, Nat.reduceAdd]
            rw [if_pos (show (g 10 f) = (116 : Int32) from hc2), if_pos (show (g 10 (f + 1)) = (111 : Int32) from hc3), if_neg (show ¬ (g 10 (f + 2)) = (119 : Int32) from hc4)]
        · refine q_ret 2 (some (.int (0 : Int32)), g, u) (fun _ _ => rfl) ?_
          rw [if_pos hc0]
          have zl := hc1
          rw [hp, hf, q_sb (by omega) hle, show (4 : Int32) = Int32.ofNat 4 from rfl, q_eq (by omega) (by omega)] at zl
          unfold t_is
          rw [if_pos (show e - f = (t_nm 0).length from zl)]
          simp only [t_nm, t_eq, Nat.add_assoc, Nat.reduceAdd]
          rw [if_pos (show (g 10 f) = (116 : Int32) from hc2), if_neg (show ¬ (g 10 (f + 1)) = (111 : Int32) from hc3)]
      · refine q_ret 2 (some (.int (0 : Int32)), g, u) (fun _ _ => rfl) ?_
        rw [if_pos hc0]
        have zl := hc1
        rw [hp, hf, q_sb (by omega) hle, show (4 : Int32) = Int32.ofNat 4 from rfl, q_eq (by omega) (by omega)] at zl
        unfold t_is
        rw [if_pos (show e - f = (t_nm 0).length from zl)]
        simp only [t_nm, t_eq, Nat.add_assoc, Nat.reduceAdd]
        rw [if_neg (show ¬ (g 10 f) = (116 : Int32) from hc2)]
    · refine q_ret 2 (some (.int (0 : Int32)), g, u) (fun _ _ => rfl) ?_
      rw [if_pos hc0]
      have zl := hc1
      rw [hp, hf, q_sb (by omega) hle, show (4 : Int32) = Int32.ofNat 4 from rfl, q_eq (by omega) (by omega)] at zl
      unfold t_is
      rw [if_neg (show ¬ e - f = (t_nm 0).length from zl)]
  · refine q_ret 2 (some (.int (0 : Int32)), g, u) (fun _ _ => rfl) ?_
    rw [if_neg hc0]
theorem c_isn3 {f e : Nat} (g : qM) (u : qW) (hf : g 9 3 = Int32.ofNat f) (hp : g 9 5 = Int32.ofNat e) (hle : f ≤ e) (he : e ≤ 160) : q_BS 21 [.ref 9, .ref 2] g u (some (.int (if g 9 2 = 1 then t_is (g 10) f (e - f) (t_nm 3) else 0)), g, u) := by
  refine q_bx (mm := m_21) rfl (Nat.le_of_ble_eq_true rfl) rfl ?_
  refine q_step 3 5 [(0, .ref 9), (1, .ref 2)] [.int (1 : Int32), .int (g 9 2)] g u (fun big n0 => sg_nm_11 big n0 g u) ?_
  refine q_ic_ne rfl (fun (hc0 : (g 9 2) = (1 : Int32)) => ?_) (fun (hc0 : ¬ ((g 9 2) = (1 : Int32))) => ?_)
  · refine q_step 7 21 [(0, .ref 9), (1, .ref 2)] [.int (4 : Int32), .int ((g 9 5) - (g 9 3))] g u (fun big n0 => sg_nm_12 big n0 g u) ?_
    refine q_ic_eq rfl (fun (hc1 : ((g 9 5) - (g 9 3)) = (4 : Int32)) => ?_) (fun (hc1 : ¬ (((g 9 5) - (g 9 3)) = (4 : Int32))) => ?_)
    · refine q_step 12 46 [(0, .ref 9), (1, .ref 2), (2, .int (0 : Int32))] [.int ((g 9 3) + (0 : Int32)), .ref 10] g u (fun big n0 => sg_nm_13 big n0 g u) ?_
      refine q_bald (j := (f + 0)) (by have z := hc1; rw [hp, hf, q_sb (by omega) hle, show (4 : Int32) = Int32.ofNat 4 from rfl, q_eq (by omega) (by omega)] at z; rw [hf, show (0 : Int32) = Int32.ofNat 0 from rfl, q_add]; exact q_ixn (by omega) (by omega)) rfl (by decide) rfl ?_
      refine q_step 3 52 [(0, .ref 9), (1, .ref 2), (2, .int (0 : Int32))] [.int (119 : Int32), .int (g 10 (f + 0))] g u (fun big n0 => sg_nm_14 big n0 g u (g 10 (f + 0))) ?_
      refine q_ic_eq rfl (fun (hc2 : (g 10 (f + 0)) = (119 : Int32)) => ?_) (fun (hc2 : ¬ ((g 10 (f + 0)) = (119 : Int32))) => ?_)
      · refine q_step 12 46 [(0, .ref 9), (1, .ref 2), (2, .int (1 : Int32))] [.int ((g 9 3) + (1 : Int32)), .ref 10] g u (fun big n0 => sg_nm_15 big n0 g u) ?_
        refine q_bald (j := (f + 1)) (by have z := hc1; rw [hp, hf, q_sb (by omega) hle, show (4 : Int32) = Int32.ofNat 4 from rfl, q_eq (by omega) (by omega)] at z; rw [hf, show (1 : Int32) = Int32.ofNat 1 from rfl, q_add]; exact q_ixn (by omega) (by omega)) rfl (by decide) rfl ?_
        refine q_step 3 52 [(0, .ref 9), (1, .ref 2), (2, .int (1 : Int32))] [.int (97 : Int32), .int (g 10 (f + 1))] g u (fun big n0 => sg_nm_16 big n0 g u (g 10 (f + 1))) ?_
        refine q_ic_eq rfl (fun (hc3 : (g 10 (f + 1)) = (97 : Int32)) => ?_) (fun (hc3 : ¬ ((g 10 (f + 1)) = (97 : Int32))) => ?_)
        · refine q_step 12 46 [(0, .ref 9), (1, .ref 2), (2, .int (2 : Int32))] [.int ((g 9 3) + (2 : Int32)), .ref 10] g u (fun big n0 => sg_nm_17 big n0 g u) ?_
          refine q_bald (j := (f + 2)) (by have z := hc1; rw [hp, hf, q_sb (by omega) hle, show (4 : Int32) = Int32.ofNat 4 from rfl, q_eq (by omega) (by omega)] at z; rw [hf, show (2 : Int32) = Int32.ofNat 2 from rfl, q_add]; exact q_ixn (by omega) (by omega)) rfl (by decide) rfl ?_
          refine q_step 3 52 [(0, .ref 9), (1, .ref 2), (2, .int (2 : Int32))] [.int (108 : Int32), .int (g 10 (f + 2))] g u (fun big n0 => sg_nm_18 big n0 g u (g 10 (f + 2))) ?_
          refine q_ic_eq rfl (fun (hc4 : (g 10 (f + 2)) = (108 : Int32)) => ?_) (fun (hc4 : ¬ ((g 10 (f + 2)) = (108 : Int32))) => ?_)
          · refine q_step 12 46 [(0, .ref 9), (1, .ref 2), (2, .int (3 : Int32))] [.int ((g 9 3) + (3 : Int32)), .ref 10] g u (fun big n0 => sg_nm_19 big n0 g u) ?_
            refine q_bald (j := (f + 3)) (by have z := hc1; rw [hp, hf, q_sb (by omega) hle, show (4 : Int32) = Int32.ofNat 4 from rfl, q_eq (by omega) (by omega)] at z; rw [hf, show (3 : Int32) = Int32.ofNat 3 from rfl, q_add]; exact q_ixn (by omega) (by omega)) rfl (by decide) rfl ?_
            refine q_step 3 52 [(0, .ref 9), (1, .ref 2), (2, .int (3 : Int32))] [.int (108 : Int32), .int (g 10 (f + 3))] g u (fun big n0 => sg_nm_20 big n0 g u (g 10 (f + 3))) ?_
            refine q_ic_eq rfl (fun (hc5 : (g 10 (f + 3)) = (108 : Int32)) => ?_) (fun (hc5 : ¬ ((g 10 (f + 3)) = (108 : Int32))) => ?_)
            · refine q_ret 8 (some (.int (1 : Int32)), g, u) (fun _ _ => rfl) ?_
              rw [if_pos hc0]
              have zl := hc1
              rw [hp, hf, q_sb (by omega) hle, show (4 : Int32) = Int32.ofNat 4 from rfl, q_eq (by omega) (by omega)] at zl
              unfold t_is
              rw [if_pos (show e - f = (t_nm 3).length from zl)]
              simp only [t_nm, t_eq, Nat.add_assoc, Nat.reduceAdd]
              rw [if_pos (show (g 10 f) = (119 : Int32) from hc2), if_pos (show (g 10 (f + 1)) = (97 : Int32) from hc3), if_pos (show (g 10 (f + 2)) = (108 : Int32) from hc4), if_pos (show (g 10 (f + 3)) = (108 : Int32) from hc5)]
            · refine q_ret 2 (some (.int (0 : Int32)), g, u) (fun _ _ => rfl) ?_
              rw [if_pos hc0]
              have zl := hc1
              rw [hp, hf, q_sb (by omega) hle, show (4 : Int32) = Int32.ofNat 4 from rfl, q_eq (by omega) (by omega)] at zl
              unfold t_is
              rw [if_pos (show e - f = (t_nm 3).length from zl)]
              simp only [t_nm, t_eq, Nat.add_assoc, Nat.reduceAdd]
              rw [if_pos (show (g 10 f) = (119 : Int32) from hc2), if_pos (show (g 10 (f + 1)) = (97 : Int32) from hc3), if_pos (show (g 10 (f + 2)) = (108 : Int32) from hc4), if_neg (show ¬ (g 10 (f + 3)) = (108 : Int32) from hc5)]
          · refine q_ret 2 (some (.int (0 : Int32)), g, u) (fun _ _ => rfl) ?_
            rw [if_pos hc0]
            have zl := hc1
            rw [hp, hf, q_sb (by omega) hle, show (4 : Int32) = Int32.ofNat 4 from rfl, q_eq (by omega) (by omega)] at zl
            unfold t_is
            rw [if_pos (show e - f = (t_nm 3).length from zl)]
            simp only [t_nm, t_eq, Nat.add_assoc, Nat.reduceAdd]
            rw [if_pos (show (g 10 f) = (119 : Int32) from hc2), if_pos (show (g 10 (f + 1)) = (97 : Int32) from hc3), if_neg (show ¬ (g 10 (f + 2)) = (108 : Int32) from hc4)]
        · refine q_ret 2 (some (.int (0 : Int32)), g, u) (fun _ _ => rfl) ?_
          rw [if_pos hc0]
          have zl := hc1
          rw [hp, hf, q_sb (by omega) hle, show (4 : Int32) = Int32.ofNat 4 from rfl, q_eq (by omega) (by omega)] at zl
          unfold t_is
          rw [if_pos (show e - f = (t_nm 3).length from zl)]
          simp only [t_nm, t_eq, Nat.add_assoc, Nat.reduceAdd]
          rw [if_pos (show (g 10 f) = (119 : Int32) from hc2), if_neg (show ¬ (g 10 (f + 1)) = (97 : Int32) from hc3)]
      · refine q_ret 2 (some (.int (0 : Int32)), g, u) (fun _ _ => rfl) ?_
        rw [if_pos hc0]
        have zl := hc1
        rw [hp, hf, q_sb (by omega) hle, show (4 : Int32) = Int32.ofNat 4 from rfl, q_eq (by omega) (by omega)] at zl
        unfold t_is
        rw [if_pos (show e - f = (t_nm 3).length from zl)]
        simp only [t_nm, t_eq, Nat.add_assoc, Nat.reduceAdd]
        rw [if_neg (show ¬ (g 10 f) = (119 : Int32) from hc2)]
    · refine q_ret 2 (some (.int (0 : Int32)), g, u) (fun _ _ => rfl) ?_
      rw [if_pos hc0]
      have zl := hc1
      rw [hp, hf, q_sb (by omega) hle, show (4 : Int32) = Int32.ofNat 4 from rfl, q_eq (by omega) (by omega)] at zl
      unfold t_is
      rw [if_neg (show ¬ e - f = (t_nm 3).length from zl)]
  · refine q_ret 2 (some (.int (0 : Int32)), g, u) (fun _ _ => rfl) ?_
    rw [if_neg hc0]
theorem c_isn4 {f e : Nat} (g : qM) (u : qW) (hf : g 9 3 = Int32.ofNat f) (hp : g 9 5 = Int32.ofNat e) (hle : f ≤ e) (he : e ≤ 160) : q_BS 21 [.ref 9, .ref 3] g u (some (.int (if g 9 2 = 1 then t_is (g 10) f (e - f) (t_nm 4) else 0)), g, u) := by
  refine q_bx (mm := m_21) rfl (Nat.le_of_ble_eq_true rfl) rfl ?_
  refine q_step 3 5 [(0, .ref 9), (1, .ref 3)] [.int (1 : Int32), .int (g 9 2)] g u (fun big n0 => sg_nm_21 big n0 g u) ?_
  refine q_ic_ne rfl (fun (hc0 : (g 9 2) = (1 : Int32)) => ?_) (fun (hc0 : ¬ ((g 9 2) = (1 : Int32))) => ?_)
  · refine q_step 7 21 [(0, .ref 9), (1, .ref 3)] [.int (2 : Int32), .int ((g 9 5) - (g 9 3))] g u (fun big n0 => sg_nm_22 big n0 g u) ?_
    refine q_ic_eq rfl (fun (hc1 : ((g 9 5) - (g 9 3)) = (2 : Int32)) => ?_) (fun (hc1 : ¬ (((g 9 5) - (g 9 3)) = (2 : Int32))) => ?_)
    · refine q_step 12 46 [(0, .ref 9), (1, .ref 3), (2, .int (0 : Int32))] [.int ((g 9 3) + (0 : Int32)), .ref 10] g u (fun big n0 => sg_nm_23 big n0 g u) ?_
      refine q_bald (j := (f + 0)) (by have z := hc1; rw [hp, hf, q_sb (by omega) hle, show (2 : Int32) = Int32.ofNat 2 from rfl, q_eq (by omega) (by omega)] at z; rw [hf, show (0 : Int32) = Int32.ofNat 0 from rfl, q_add]; exact q_ixn (by omega) (by omega)) rfl (by decide) rfl ?_
      refine q_step 3 52 [(0, .ref 9), (1, .ref 3), (2, .int (0 : Int32))] [.int (97 : Int32), .int (g 10 (f + 0))] g u (fun big n0 => sg_nm_24 big n0 g u (g 10 (f + 0))) ?_
      refine q_ic_eq rfl (fun (hc2 : (g 10 (f + 0)) = (97 : Int32)) => ?_) (fun (hc2 : ¬ ((g 10 (f + 0)) = (97 : Int32))) => ?_)
      · refine q_step 12 46 [(0, .ref 9), (1, .ref 3), (2, .int (1 : Int32))] [.int ((g 9 3) + (1 : Int32)), .ref 10] g u (fun big n0 => sg_nm_25 big n0 g u) ?_
        refine q_bald (j := (f + 1)) (by have z := hc1; rw [hp, hf, q_sb (by omega) hle, show (2 : Int32) = Int32.ofNat 2 from rfl, q_eq (by omega) (by omega)] at z; rw [hf, show (1 : Int32) = Int32.ofNat 1 from rfl, q_add]; exact q_ixn (by omega) (by omega)) rfl (by decide) rfl ?_
        refine q_step 3 52 [(0, .ref 9), (1, .ref 3), (2, .int (1 : Int32))] [.int (116 : Int32), .int (g 10 (f + 1))] g u (fun big n0 => sg_nm_26 big n0 g u (g 10 (f + 1))) ?_
        refine q_ic_eq rfl (fun (hc3 : (g 10 (f + 1)) = (116 : Int32)) => ?_) (fun (hc3 : ¬ ((g 10 (f + 1)) = (116 : Int32))) => ?_)
        · refine q_ret 8 (some (.int (1 : Int32)), g, u) (fun _ _ => rfl) ?_
          rw [if_pos hc0]
          have zl := hc1
          rw [hp, hf, q_sb (by omega) hle, show (2 : Int32) = Int32.ofNat 2 from rfl, q_eq (by omega) (by omega)] at zl
          unfold t_is
          rw [if_pos (show e - f = (t_nm 4).length from zl)]
          simp only [t_nm, t_eq, Nat.add_assoc, Nat.reduceAdd]
          rw [if_pos (show (g 10 f) = (97 : Int32) from hc2), if_pos (show (g 10 (f + 1)) = (116 : Int32) from hc3)]
        · refine q_ret 2 (some (.int (0 : Int32)), g, u) (fun _ _ => rfl) ?_
          rw [if_pos hc0]
          have zl := hc1
          rw [hp, hf, q_sb (by omega) hle, show (2 : Int32) = Int32.ofNat 2 from rfl, q_eq (by omega) (by omega)] at zl
          unfold t_is
          rw [if_pos (show e - f = (t_nm 4).length from zl)]
          simp only [t_nm, t_eq, Nat.add_assoc, Nat.reduceAdd]
          rw [if_pos (show (g 10 f) = (97 : Int32) from hc2), if_neg (show ¬ (g 10 (f + 1)) = (116 : Int32) from hc3)]
      · refine q_ret 2 (some (.int (0 : Int32)), g, u) (fun _ _ => rfl) ?_
        rw [if_pos hc0]
        have zl := hc1
        rw [hp, hf, q_sb (by omega) hle, show (2 : Int32) = Int32.ofNat 2 from rfl, q_eq (by omega) (by omega)] at zl
        unfold t_is
        rw [if_pos (show e - f = (t_nm 4).length from zl)]
        simp only [t_nm, t_eq, Nat.add_assoc, Nat.reduceAdd]
        rw [if_neg (show ¬ (g 10 f) = (97 : Int32) from hc2)]
    · refine q_ret 2 (some (.int (0 : Int32)), g, u) (fun _ _ => rfl) ?_
      rw [if_pos hc0]
      have zl := hc1
      rw [hp, hf, q_sb (by omega) hle, show (2 : Int32) = Int32.ofNat 2 from rfl, q_eq (by omega) (by omega)] at zl
      unfold t_is
      rw [if_neg (show ¬ e - f = (t_nm 4).length from zl)]
  · refine q_ret 2 (some (.int (0 : Int32)), g, u) (fun _ _ => rfl) ?_
    rw [if_neg hc0]
theorem c_isn5 {f e : Nat} (g : qM) (u : qW) (hf : g 9 3 = Int32.ofNat f) (hp : g 9 5 = Int32.ofNat e) (hle : f ≤ e) (he : e ≤ 160) : q_BS 21 [.ref 9, .ref 4] g u (some (.int (if g 9 2 = 1 then t_is (g 10) f (e - f) (t_nm 5) else 0)), g, u) := by
  refine q_bx (mm := m_21) rfl (Nat.le_of_ble_eq_true rfl) rfl ?_
  refine q_step 3 5 [(0, .ref 9), (1, .ref 4)] [.int (1 : Int32), .int (g 9 2)] g u (fun big n0 => sg_nm_27 big n0 g u) ?_
  refine q_ic_ne rfl (fun (hc0 : (g 9 2) = (1 : Int32)) => ?_) (fun (hc0 : ¬ ((g 9 2) = (1 : Int32))) => ?_)
  · refine q_step 7 21 [(0, .ref 9), (1, .ref 4)] [.int (5 : Int32), .int ((g 9 5) - (g 9 3))] g u (fun big n0 => sg_nm_28 big n0 g u) ?_
    refine q_ic_eq rfl (fun (hc1 : ((g 9 5) - (g 9 3)) = (5 : Int32)) => ?_) (fun (hc1 : ¬ (((g 9 5) - (g 9 3)) = (5 : Int32))) => ?_)
    · refine q_step 12 46 [(0, .ref 9), (1, .ref 4), (2, .int (0 : Int32))] [.int ((g 9 3) + (0 : Int32)), .ref 10] g u (fun big n0 => sg_nm_29 big n0 g u) ?_
      refine q_bald (j := (f + 0)) (by have z := hc1; rw [hp, hf, q_sb (by omega) hle, show (5 : Int32) = Int32.ofNat 5 from rfl, q_eq (by omega) (by omega)] at z; rw [hf, show (0 : Int32) = Int32.ofNat 0 from rfl, q_add]; exact q_ixn (by omega) (by omega)) rfl (by decide) rfl ?_
      refine q_step 3 52 [(0, .ref 9), (1, .ref 4), (2, .int (0 : Int32))] [.int (115 : Int32), .int (g 10 (f + 0))] g u (fun big n0 => sg_nm_30 big n0 g u (g 10 (f + 0))) ?_
      refine q_ic_eq rfl (fun (hc2 : (g 10 (f + 0)) = (115 : Int32)) => ?_) (fun (hc2 : ¬ ((g 10 (f + 0)) = (115 : Int32))) => ?_)
      · refine q_step 12 46 [(0, .ref 9), (1, .ref 4), (2, .int (1 : Int32))] [.int ((g 9 3) + (1 : Int32)), .ref 10] g u (fun big n0 => sg_nm_31 big n0 g u) ?_
        refine q_bald (j := (f + 1)) (by have z := hc1; rw [hp, hf, q_sb (by omega) hle, show (5 : Int32) = Int32.ofNat 5 from rfl, q_eq (by omega) (by omega)] at z; rw [hf, show (1 : Int32) = Int32.ofNat 1 from rfl, q_add]; exact q_ixn (by omega) (by omega)) rfl (by decide) rfl ?_
        refine q_step 3 52 [(0, .ref 9), (1, .ref 4), (2, .int (1 : Int32))] [.int (116 : Int32), .int (g 10 (f + 1))] g u (fun big n0 => sg_nm_32 big n0 g u (g 10 (f + 1))) ?_
        refine q_ic_eq rfl (fun (hc3 : (g 10 (f + 1)) = (116 : Int32)) => ?_) (fun (hc3 : ¬ ((g 10 (f + 1)) = (116 : Int32))) => ?_)
        · refine q_step 12 46 [(0, .ref 9), (1, .ref 4), (2, .int (2 : Int32))] [.int ((g 9 3) + (2 : Int32)), .ref 10] g u (fun big n0 => sg_nm_33 big n0 g u) ?_
          refine q_bald (j := (f + 2)) (by have z := hc1; rw [hp, hf, q_sb (by omega) hle, show (5 : Int32) = Int32.ofNat 5 from rfl, q_eq (by omega) (by omega)] at z; rw [hf, show (2 : Int32) = Int32.ofNat 2 from rfl, q_add]; exact q_ixn (by omega) (by omega)) rfl (by decide) rfl ?_
          refine q_step 3 52 [(0, .ref 9), (1, .ref 4), (2, .int (2 : Int32))] [.int (105 : Int32), .int (g 10 (f + 2))] g u (fun big n0 => sg_nm_34 big n0 g u (g 10 (f + 2))) ?_
          refine q_ic_eq rfl (fun (hc4 : (g 10 (f + 2)) = (105 : Int32)) => ?_) (fun (hc4 : ¬ ((g 10 (f + 2)) = (105 : Int32))) => ?_)
          · refine q_step 12 46 [(0, .ref 9), (1, .ref 4), (2, .int (3 : Int32))] [.int ((g 9 3) + (3 : Int32)), .ref 10] g u (fun big n0 => sg_nm_35 big n0 g u) ?_
            refine q_bald (j := (f + 3)) (by have z := hc1; rw [hp, hf, q_sb (by omega) hle, show (5 : Int32) = Int32.ofNat 5 from rfl, q_eq (by omega) (by omega)] at z; rw [hf, show (3 : Int32) = Int32.ofNat 3 from rfl, q_add]; exact q_ixn (by omega) (by omega)) rfl (by decide) rfl ?_
            refine q_step 3 52 [(0, .ref 9), (1, .ref 4), (2, .int (3 : Int32))] [.int (108 : Int32), .int (g 10 (f + 3))] g u (fun big n0 => sg_nm_36 big n0 g u (g 10 (f + 3))) ?_
            refine q_ic_eq rfl (fun (hc5 : (g 10 (f + 3)) = (108 : Int32)) => ?_) (fun (hc5 : ¬ ((g 10 (f + 3)) = (108 : Int32))) => ?_)
            · refine q_step 12 46 [(0, .ref 9), (1, .ref 4), (2, .int (4 : Int32))] [.int ((g 9 3) + (4 : Int32)), .ref 10] g u (fun big n0 => sg_nm_37 big n0 g u) ?_
              refine q_bald (j := (f + 4)) (by have z := hc1; rw [hp, hf, q_sb (by omega) hle, show (5 : Int32) = Int32.ofNat 5 from rfl, q_eq (by omega) (by omega)] at z; rw [hf, show (4 : Int32) = Int32.ofNat 4 from rfl, q_add]; exact q_ixn (by omega) (by omega)) rfl (by decide) rfl ?_
              refine q_step 3 52 [(0, .ref 9), (1, .ref 4), (2, .int (4 : Int32))] [.int (108 : Int32), .int (g 10 (f + 4))] g u (fun big n0 => sg_nm_38 big n0 g u (g 10 (f + 4))) ?_
              refine q_ic_eq rfl (fun (hc6 : (g 10 (f + 4)) = (108 : Int32)) => ?_) (fun (hc6 : ¬ ((g 10 (f + 4)) = (108 : Int32))) => ?_)
              · refine q_ret 8 (some (.int (1 : Int32)), g, u) (fun _ _ => rfl) ?_
                rw [if_pos hc0]
                have zl := hc1
                rw [hp, hf, q_sb (by omega) hle, show (5 : Int32) = Int32.ofNat 5 from rfl, q_eq (by omega) (by omega)] at zl
                unfold t_is
                rw [if_pos (show e - f = (t_nm 5).length from zl)]
                simp only [t_nm, t_eq, Nat.add_assoc, Nat.reduceAdd]
                rw [if_pos (show (g 10 f) = (115 : Int32) from hc2), if_pos (show (g 10 (f + 1)) = (116 : Int32) from hc3), if_pos (show (g 10 (f + 2)) = (105 : Int32) from hc4), if_pos (show (g 10 (f + 3)) = (108 : Int32) from hc5), if_pos (show (g 10 (f + 4)) = (108 : Int32) from hc6)]
              · refine q_ret 2 (some (.int (0 : Int32)), g, u) (fun _ _ => rfl) ?_
                rw [if_pos hc0]
                have zl := hc1
                rw [hp, hf, q_sb (by omega) hle, show (5 : Int32) = Int32.ofNat 5 from rfl, q_eq (by omega) (by omega)] at zl
                unfold t_is
                rw [if_pos (show e - f = (t_nm 5).length from zl)]
                simp only [t_nm, t_eq, Nat.add_assoc, Nat.reduceAdd]
                rw [if_pos (show (g 10 f) = (115 : Int32) from hc2), if_pos (show (g 10 (f + 1)) = (116 : Int32) from hc3), if_pos (show (g 10 (f + 2)) = (105 : Int32) from hc4), if_pos (show (g 10 (f + 3)) = (108 : Int32) from hc5), if_neg (show ¬ (g 10 (f + 4)) = (108 : Int32) from hc6)]
            · refine q_ret 2 (some (.int (0 : Int32)), g, u) (fun _ _ => rfl) ?_
              rw [if_pos hc0]
              have zl := hc1
              rw [hp, hf, q_sb (by omega) hle, show (5 : Int32) = Int32.ofNat 5 from rfl, q_eq (by omega) (by omega)] at zl
              unfold t_is
              rw [if_pos (show e - f = (t_nm 5).length from zl)]
              simp only [t_nm, t_eq, Nat.add_assoc, Nat.reduceAdd]
              rw [if_pos (show (g 10 f) = (115 : Int32) from hc2), if_pos (show (g 10 (f + 1)) = (116 : Int32) from hc3), if_pos (show (g 10 (f + 2)) = (105 : Int32) from hc4), if_neg (show ¬ (g 10 (f + 3)) = (108 : Int32) from hc5)]
          · refine q_ret 2 (some (.int (0 : Int32)), g, u) (fun _ _ => rfl) ?_
            rw [if_pos hc0]
            have zl := hc1
            rw [hp, hf, q_sb (by omega) hle, show (5 : Int32) = Int32.ofNat 5 from rfl, q_eq (by omega) (by omega)] at zl
            unfold t_is
            rw [if_pos (show e - f = (t_nm 5).length from zl)]
            simp only [t_nm, t_eq, Nat.add_assoc, Nat.reduceAdd]
            rw [if_pos (show (g 10 f) = (115 : Int32) from hc2), if_pos (show (g 10 (f + 1)) = (116 : Int32) from hc3), if_neg (show ¬ (g 10 (f + 2)) = (105 : Int32) from hc4)]
        · refine q_ret 2 (some (.int (0 : Int32)), g, u) (fun _ _ => rfl) ?_
          rw [if_pos hc0]
          have zl := hc1
          rw [hp, hf, q_sb (by omega) hle, show (5 : Int32) = Int32.ofNat 5 from rfl, q_eq (by omega) (by omega)] at zl
          unfold t_is
          rw [if_pos (show e - f = (t_nm 5).length from zl)]
          simp only [t_nm, t_eq, Nat.add_assoc, Nat.reduceAdd]
          rw [if_pos (show (g 10 f) = (115 : Int32) from hc2), if_neg (show ¬ (g 10 (f + 1)) = (116 : Int32) from hc3)]
      · refine q_ret 2 (some (.int (0 : Int32)), g, u) (fun _ _ => rfl) ?_
        rw [if_pos hc0]
        have zl := hc1
        rw [hp, hf, q_sb (by omega) hle, show (5 : Int32) = Int32.ofNat 5 from rfl, q_eq (by omega) (by omega)] at zl
        unfold t_is
        rw [if_pos (show e - f = (t_nm 5).length from zl)]
        simp only [t_nm, t_eq, Nat.add_assoc, Nat.reduceAdd]
        rw [if_neg (show ¬ (g 10 f) = (115 : Int32) from hc2)]
    · refine q_ret 2 (some (.int (0 : Int32)), g, u) (fun _ _ => rfl) ?_
      rw [if_pos hc0]
      have zl := hc1
      rw [hp, hf, q_sb (by omega) hle, show (5 : Int32) = Int32.ofNat 5 from rfl, q_eq (by omega) (by omega)] at zl
      unfold t_is
      rw [if_neg (show ¬ e - f = (t_nm 5).length from zl)]
  · refine q_ret 2 (some (.int (0 : Int32)), g, u) (fun _ _ => rfl) ?_
    rw [if_neg hc0]
theorem c_isn1 {f e : Nat} (g : qM) (u : qW) (hf : g 9 3 = Int32.ofNat f) (hp : g 9 5 = Int32.ofNat e) (hle : f ≤ e) (he : e ≤ 160) : q_BS 21 [.ref 9, .ref 5] g u (some (.int (if g 9 2 = 1 then t_is (g 10) f (e - f) (t_nm 1) else 0)), g, u) := by
  refine q_bx (mm := m_21) rfl (Nat.le_of_ble_eq_true rfl) rfl ?_
  refine q_step 3 5 [(0, .ref 9), (1, .ref 5)] [.int (1 : Int32), .int (g 9 2)] g u (fun big n0 => sg_nm_39 big n0 g u) ?_
  refine q_ic_ne rfl (fun (hc0 : (g 9 2) = (1 : Int32)) => ?_) (fun (hc0 : ¬ ((g 9 2) = (1 : Int32))) => ?_)
  · refine q_step 7 21 [(0, .ref 9), (1, .ref 5)] [.int (4 : Int32), .int ((g 9 5) - (g 9 3))] g u (fun big n0 => sg_nm_40 big n0 g u) ?_
    refine q_ic_eq rfl (fun (hc1 : ((g 9 5) - (g 9 3)) = (4 : Int32)) => ?_) (fun (hc1 : ¬ (((g 9 5) - (g 9 3)) = (4 : Int32))) => ?_)
    · refine q_step 12 46 [(0, .ref 9), (1, .ref 5), (2, .int (0 : Int32))] [.int ((g 9 3) + (0 : Int32)), .ref 10] g u (fun big n0 => sg_nm_41 big n0 g u) ?_
      refine q_bald (j := (f + 0)) (by have z := hc1; rw [hp, hf, q_sb (by omega) hle, show (4 : Int32) = Int32.ofNat 4 from rfl, q_eq (by omega) (by omega)] at z; rw [hf, show (0 : Int32) = Int32.ofNat 0 from rfl, q_add]; exact q_ixn (by omega) (by omega)) rfl (by decide) rfl ?_
      refine q_step 3 52 [(0, .ref 9), (1, .ref 5), (2, .int (0 : Int32))] [.int (112 : Int32), .int (g 10 (f + 0))] g u (fun big n0 => sg_nm_42 big n0 g u (g 10 (f + 0))) ?_
      refine q_ic_eq rfl (fun (hc2 : (g 10 (f + 0)) = (112 : Int32)) => ?_) (fun (hc2 : ¬ ((g 10 (f + 0)) = (112 : Int32))) => ?_)
      · refine q_step 12 46 [(0, .ref 9), (1, .ref 5), (2, .int (1 : Int32))] [.int ((g 9 3) + (1 : Int32)), .ref 10] g u (fun big n0 => sg_nm_43 big n0 g u) ?_
        refine q_bald (j := (f + 1)) (by have z := hc1; rw [hp, hf, q_sb (by omega) hle, show (4 : Int32) = Int32.ofNat 4 from rfl, q_eq (by omega) (by omega)] at z; rw [hf, show (1 : Int32) = Int32.ofNat 1 from rfl, q_add]; exact q_ixn (by omega) (by omega)) rfl (by decide) rfl ?_
        refine q_step 3 52 [(0, .ref 9), (1, .ref 5), (2, .int (1 : Int32))] [.int (117 : Int32), .int (g 10 (f + 1))] g u (fun big n0 => sg_nm_44 big n0 g u (g 10 (f + 1))) ?_
        refine q_ic_eq rfl (fun (hc3 : (g 10 (f + 1)) = (117 : Int32)) => ?_) (fun (hc3 : ¬ ((g 10 (f + 1)) = (117 : Int32))) => ?_)
        · refine q_step 12 46 [(0, .ref 9), (1, .ref 5), (2, .int (2 : Int32))] [.int ((g 9 3) + (2 : Int32)), .ref 10] g u (fun big n0 => sg_nm_45 big n0 g u) ?_
          refine q_bald (j := (f + 2)) (by have z := hc1; rw [hp, hf, q_sb (by omega) hle, show (4 : Int32) = Int32.ofNat 4 from rfl, q_eq (by omega) (by omega)] at z; rw [hf, show (2 : Int32) = Int32.ofNat 2 from rfl, q_add]; exact q_ixn (by omega) (by omega)) rfl (by decide) rfl ?_
          refine q_step 3 52 [(0, .ref 9), (1, .ref 5), (2, .int (2 : Int32))] [.int (108 : Int32), .int (g 10 (f + 2))] g u (fun big n0 => sg_nm_46 big n0 g u (g 10 (f + 2))) ?_
          refine q_ic_eq rfl (fun (hc4 : (g 10 (f + 2)) = (108 : Int32)) => ?_) (fun (hc4 : ¬ ((g 10 (f + 2)) = (108 : Int32))) => ?_)
          · refine q_step 12 46 [(0, .ref 9), (1, .ref 5), (2, .int (3 : Int32))] [.int ((g 9 3) + (3 : Int32)), .ref 10] g u (fun big n0 => sg_nm_47 big n0 g u) ?_
            refine q_bald (j := (f + 3)) (by have z := hc1; rw [hp, hf, q_sb (by omega) hle, show (4 : Int32) = Int32.ofNat 4 from rfl, q_eq (by omega) (by omega)] at z; rw [hf, show (3 : Int32) = Int32.ofNat 3 from rfl, q_add]; exact q_ixn (by omega) (by omega)) rfl (by decide) rfl ?_
            refine q_step 3 52 [(0, .ref 9), (1, .ref 5), (2, .int (3 : Int32))] [.int (108 : Int32), .int (g 10 (f + 3))] g u (fun big n0 => sg_nm_48 big n0 g u (g 10 (f + 3))) ?_
            refine q_ic_eq rfl (fun (hc5 : (g 10 (f + 3)) = (108 : Int32)) => ?_) (fun (hc5 : ¬ ((g 10 (f + 3)) = (108 : Int32))) => ?_)
            · refine q_ret 8 (some (.int (1 : Int32)), g, u) (fun _ _ => rfl) ?_
              rw [if_pos hc0]
              have zl := hc1
              rw [hp, hf, q_sb (by omega) hle, show (4 : Int32) = Int32.ofNat 4 from rfl, q_eq (by omega) (by omega)] at zl
              unfold t_is
              rw [if_pos (show e - f = (t_nm 1).length from zl)]
              simp only [t_nm, t_eq, Nat.add_assoc, Nat.reduceAdd]
              rw [if_pos (show (g 10 f) = (112 : Int32) from hc2), if_pos (show (g 10 (f + 1)) = (117 : Int32) from hc3), if_pos (show (g 10 (f + 2)) = (108 : Int32) from hc4), if_pos (show (g 10 (f + 3)) = (108 : Int32) from hc5)]
            · refine q_ret 2 (some (.int (0 : Int32)), g, u) (fun _ _ => rfl) ?_
              rw [if_pos hc0]
              have zl := hc1
              rw [hp, hf, q_sb (by omega) hle, show (4 : Int32) = Int32.ofNat 4 from rfl, q_eq (by omega) (by omega)] at zl
              unfold t_is
              rw [if_pos (show e - f = (t_nm 1).length from zl)]
              simp only [t_nm, t_eq, Nat.add_assoc, Nat.reduceAdd]
              rw [if_pos (show (g 10 f) = (112 : Int32) from hc2), if_pos (show (g 10 (f + 1)) = (117 : Int32) from hc3), if_pos (show (g 10 (f + 2)) = (108 : Int32) from hc4), if_neg (show ¬ (g 10 (f + 3)) = (108 : Int32) from hc5)]
          · refine q_ret 2 (some (.int (0 : Int32)), g, u) (fun _ _ => rfl) ?_
            rw [if_pos hc0]
            have zl := hc1
            rw [hp, hf, q_sb (by omega) hle, show (4 : Int32) = Int32.ofNat 4 from rfl, q_eq (by omega) (by omega)] at zl
            unfold t_is
            rw [if_pos (show e - f = (t_nm 1).length from zl)]
            simp only [t_nm, t_eq, Nat.add_assoc, Nat.reduceAdd]
            rw [if_pos (show (g 10 f) = (112 : Int32) from hc2), if_pos (show (g 10 (f + 1)) = (117 : Int32) from hc3), if_neg (show ¬ (g 10 (f + 2)) = (108 : Int32) from hc4)]
        · refine q_ret 2 (some (.int (0 : Int32)), g, u) (fun _ _ => rfl) ?_
          rw [if_pos hc0]
          have zl := hc1
          rw [hp, hf, q_sb (by omega) hle, show (4 : Int32) = Int32.ofNat 4 from rfl, q_eq (by omega) (by omega)] at zl
          unfold t_is
          rw [if_pos (show e - f = (t_nm 1).length from zl)]
          simp only [t_nm, t_eq, Nat.add_assoc, Nat.reduceAdd]
          rw [if_pos (show (g 10 f) = (112 : Int32) from hc2), if_neg (show ¬ (g 10 (f + 1)) = (117 : Int32) from hc3)]
      · refine q_ret 2 (some (.int (0 : Int32)), g, u) (fun _ _ => rfl) ?_
        rw [if_pos hc0]
        have zl := hc1
        rw [hp, hf, q_sb (by omega) hle, show (4 : Int32) = Int32.ofNat 4 from rfl, q_eq (by omega) (by omega)] at zl
        unfold t_is
        rw [if_pos (show e - f = (t_nm 1).length from zl)]
        simp only [t_nm, t_eq, Nat.add_assoc, Nat.reduceAdd]
        rw [if_neg (show ¬ (g 10 f) = (112 : Int32) from hc2)]
    · refine q_ret 2 (some (.int (0 : Int32)), g, u) (fun _ _ => rfl) ?_
      rw [if_pos hc0]
      have zl := hc1
      rw [hp, hf, q_sb (by omega) hle, show (4 : Int32) = Int32.ofNat 4 from rfl, q_eq (by omega) (by omega)] at zl
      unfold t_is
      rw [if_neg (show ¬ e - f = (t_nm 1).length from zl)]
  · refine q_ret 2 (some (.int (0 : Int32)), g, u) (fun _ _ => rfl) ?_
    rw [if_neg hc0]
theorem c_isn2 {f e : Nat} (g : qM) (u : qW) (hf : g 9 3 = Int32.ofNat f) (hp : g 9 5 = Int32.ofNat e) (hle : f ≤ e) (he : e ≤ 160) : q_BS 21 [.ref 9, .ref 6] g u (some (.int (if g 9 2 = 1 then t_is (g 10) f (e - f) (t_nm 2) else 0)), g, u) := by
  refine q_bx (mm := m_21) rfl (Nat.le_of_ble_eq_true rfl) rfl ?_
  refine q_step 3 5 [(0, .ref 9), (1, .ref 6)] [.int (1 : Int32), .int (g 9 2)] g u (fun big n0 => sg_nm_49 big n0 g u) ?_
  refine q_ic_ne rfl (fun (hc0 : (g 9 2) = (1 : Int32)) => ?_) (fun (hc0 : ¬ ((g 9 2) = (1 : Int32))) => ?_)
  · refine q_step 7 21 [(0, .ref 9), (1, .ref 6)] [.int (5 : Int32), .int ((g 9 5) - (g 9 3))] g u (fun big n0 => sg_nm_50 big n0 g u) ?_
    refine q_ic_eq rfl (fun (hc1 : ((g 9 5) - (g 9 3)) = (5 : Int32)) => ?_) (fun (hc1 : ¬ (((g 9 5) - (g 9 3)) = (5 : Int32))) => ?_)
    · refine q_step 12 46 [(0, .ref 9), (1, .ref 6), (2, .int (0 : Int32))] [.int ((g 9 3) + (0 : Int32)), .ref 10] g u (fun big n0 => sg_nm_51 big n0 g u) ?_
      refine q_bald (j := (f + 0)) (by have z := hc1; rw [hp, hf, q_sb (by omega) hle, show (5 : Int32) = Int32.ofNat 5 from rfl, q_eq (by omega) (by omega)] at z; rw [hf, show (0 : Int32) = Int32.ofNat 0 from rfl, q_add]; exact q_ixn (by omega) (by omega)) rfl (by decide) rfl ?_
      refine q_step 3 52 [(0, .ref 9), (1, .ref 6), (2, .int (0 : Int32))] [.int (112 : Int32), .int (g 10 (f + 0))] g u (fun big n0 => sg_nm_52 big n0 g u (g 10 (f + 0))) ?_
      refine q_ic_eq rfl (fun (hc2 : (g 10 (f + 0)) = (112 : Int32)) => ?_) (fun (hc2 : ¬ ((g 10 (f + 0)) = (112 : Int32))) => ?_)
      · refine q_step 12 46 [(0, .ref 9), (1, .ref 6), (2, .int (1 : Int32))] [.int ((g 9 3) + (1 : Int32)), .ref 10] g u (fun big n0 => sg_nm_53 big n0 g u) ?_
        refine q_bald (j := (f + 1)) (by have z := hc1; rw [hp, hf, q_sb (by omega) hle, show (5 : Int32) = Int32.ofNat 5 from rfl, q_eq (by omega) (by omega)] at z; rw [hf, show (1 : Int32) = Int32.ofNat 1 from rfl, q_add]; exact q_ixn (by omega) (by omega)) rfl (by decide) rfl ?_
        refine q_step 3 52 [(0, .ref 9), (1, .ref 6), (2, .int (1 : Int32))] [.int (114 : Int32), .int (g 10 (f + 1))] g u (fun big n0 => sg_nm_54 big n0 g u (g 10 (f + 1))) ?_
        refine q_ic_eq rfl (fun (hc3 : (g 10 (f + 1)) = (114 : Int32)) => ?_) (fun (hc3 : ¬ ((g 10 (f + 1)) = (114 : Int32))) => ?_)
        · refine q_step 12 46 [(0, .ref 9), (1, .ref 6), (2, .int (2 : Int32))] [.int ((g 9 3) + (2 : Int32)), .ref 10] g u (fun big n0 => sg_nm_55 big n0 g u) ?_
          refine q_bald (j := (f + 2)) (by have z := hc1; rw [hp, hf, q_sb (by omega) hle, show (5 : Int32) = Int32.ofNat 5 from rfl, q_eq (by omega) (by omega)] at z; rw [hf, show (2 : Int32) = Int32.ofNat 2 from rfl, q_add]; exact q_ixn (by omega) (by omega)) rfl (by decide) rfl ?_
          refine q_step 3 52 [(0, .ref 9), (1, .ref 6), (2, .int (2 : Int32))] [.int (101 : Int32), .int (g 10 (f + 2))] g u (fun big n0 => sg_nm_56 big n0 g u (g 10 (f + 2))) ?_
          refine q_ic_eq rfl (fun (hc4 : (g 10 (f + 2)) = (101 : Int32)) => ?_) (fun (hc4 : ¬ ((g 10 (f + 2)) = (101 : Int32))) => ?_)
          · refine q_step 12 46 [(0, .ref 9), (1, .ref 6), (2, .int (3 : Int32))] [.int ((g 9 3) + (3 : Int32)), .ref 10] g u (fun big n0 => sg_nm_57 big n0 g u) ?_
            refine q_bald (j := (f + 3)) (by have z := hc1; rw [hp, hf, q_sb (by omega) hle, show (5 : Int32) = Int32.ofNat 5 from rfl, q_eq (by omega) (by omega)] at z; rw [hf, show (3 : Int32) = Int32.ofNat 3 from rfl, q_add]; exact q_ixn (by omega) (by omega)) rfl (by decide) rfl ?_
            refine q_step 3 52 [(0, .ref 9), (1, .ref 6), (2, .int (3 : Int32))] [.int (115 : Int32), .int (g 10 (f + 3))] g u (fun big n0 => sg_nm_58 big n0 g u (g 10 (f + 3))) ?_
            refine q_ic_eq rfl (fun (hc5 : (g 10 (f + 3)) = (115 : Int32)) => ?_) (fun (hc5 : ¬ ((g 10 (f + 3)) = (115 : Int32))) => ?_)
            · refine q_step 12 46 [(0, .ref 9), (1, .ref 6), (2, .int (4 : Int32))] [.int ((g 9 3) + (4 : Int32)), .ref 10] g u (fun big n0 => sg_nm_59 big n0 g u) ?_
              refine q_bald (j := (f + 4)) (by have z := hc1; rw [hp, hf, q_sb (by omega) hle, show (5 : Int32) = Int32.ofNat 5 from rfl, q_eq (by omega) (by omega)] at z; rw [hf, show (4 : Int32) = Int32.ofNat 4 from rfl, q_add]; exact q_ixn (by omega) (by omega)) rfl (by decide) rfl ?_
              refine q_step 3 52 [(0, .ref 9), (1, .ref 6), (2, .int (4 : Int32))] [.int (115 : Int32), .int (g 10 (f + 4))] g u (fun big n0 => sg_nm_60 big n0 g u (g 10 (f + 4))) ?_
              refine q_ic_eq rfl (fun (hc6 : (g 10 (f + 4)) = (115 : Int32)) => ?_) (fun (hc6 : ¬ ((g 10 (f + 4)) = (115 : Int32))) => ?_)
              · refine q_ret 8 (some (.int (1 : Int32)), g, u) (fun _ _ => rfl) ?_
                rw [if_pos hc0]
                have zl := hc1
                rw [hp, hf, q_sb (by omega) hle, show (5 : Int32) = Int32.ofNat 5 from rfl, q_eq (by omega) (by omega)] at zl
                unfold t_is
                rw [if_pos (show e - f = (t_nm 2).length from zl)]
                simp only [t_nm, t_eq, Nat.add_assoc, Nat.reduceAdd]
                rw [if_pos (show (g 10 f) = (112 : Int32) from hc2), if_pos (show (g 10 (f + 1)) = (114 : Int32) from hc3), if_pos (show (g 10 (f + 2)) = (101 : Int32) from hc4), if_pos (show (g 10 (f + 3)) = (115 : Int32) from hc5), if_pos (show (g 10 (f + 4)) = (115 : Int32) from hc6)]
              · refine q_ret 2 (some (.int (0 : Int32)), g, u) (fun _ _ => rfl) ?_
                rw [if_pos hc0]
                have zl := hc1
                rw [hp, hf, q_sb (by omega) hle, show (5 : Int32) = Int32.ofNat 5 from rfl, q_eq (by omega) (by omega)] at zl
                unfold t_is
                rw [if_pos (show e - f = (t_nm 2).length from zl)]
                simp only [t_nm, t_eq, Nat.add_assoc, Nat.reduceAdd]
                rw [if_pos (show (g 10 f) = (112 : Int32) from hc2), if_pos (show (g 10 (f + 1)) = (114 : Int32) from hc3), if_pos (show (g 10 (f + 2)) = (101 : Int32) from hc4), if_pos (show (g 10 (f + 3)) = (115 : Int32) from hc5), if_neg (show ¬ (g 10 (f + 4)) = (115 : Int32) from hc6)]
            · refine q_ret 2 (some (.int (0 : Int32)), g, u) (fun _ _ => rfl) ?_
              rw [if_pos hc0]
              have zl := hc1
              rw [hp, hf, q_sb (by omega) hle, show (5 : Int32) = Int32.ofNat 5 from rfl, q_eq (by omega) (by omega)] at zl
              unfold t_is
              rw [if_pos (show e - f = (t_nm 2).length from zl)]
              simp only [t_nm, t_eq, Nat.add_assoc, Nat.reduceAdd]
              rw [if_pos (show (g 10 f) = (112 : Int32) from hc2), if_pos (show (g 10 (f + 1)) = (114 : Int32) from hc3), if_pos (show (g 10 (f + 2)) = (101 : Int32) from hc4), if_neg (show ¬ (g 10 (f + 3)) = (115 : Int32) from hc5)]
          · refine q_ret 2 (some (.int (0 : Int32)), g, u) (fun _ _ => rfl) ?_
            rw [if_pos hc0]
            have zl := hc1
            rw [hp, hf, q_sb (by omega) hle, show (5 : Int32) = Int32.ofNat 5 from rfl, q_eq (by omega) (by omega)] at zl
            unfold t_is
            rw [if_pos (show e - f = (t_nm 2).length from zl)]
            simp only [t_nm, t_eq, Nat.add_assoc, Nat.reduceAdd]
            rw [if_pos (show (g 10 f) = (112 : Int32) from hc2), if_pos (show (g 10 (f + 1)) = (114 : Int32) from hc3), if_neg (show ¬ (g 10 (f + 2)) = (101 : Int32) from hc4)]
        · refine q_ret 2 (some (.int (0 : Int32)), g, u) (fun _ _ => rfl) ?_
          rw [if_pos hc0]
          have zl := hc1
          rw [hp, hf, q_sb (by omega) hle, show (5 : Int32) = Int32.ofNat 5 from rfl, q_eq (by omega) (by omega)] at zl
          unfold t_is
          rw [if_pos (show e - f = (t_nm 2).length from zl)]
          simp only [t_nm, t_eq, Nat.add_assoc, Nat.reduceAdd]
          rw [if_pos (show (g 10 f) = (112 : Int32) from hc2), if_neg (show ¬ (g 10 (f + 1)) = (114 : Int32) from hc3)]
      · refine q_ret 2 (some (.int (0 : Int32)), g, u) (fun _ _ => rfl) ?_
        rw [if_pos hc0]
        have zl := hc1
        rw [hp, hf, q_sb (by omega) hle, show (5 : Int32) = Int32.ofNat 5 from rfl, q_eq (by omega) (by omega)] at zl
        unfold t_is
        rw [if_pos (show e - f = (t_nm 2).length from zl)]
        simp only [t_nm, t_eq, Nat.add_assoc, Nat.reduceAdd]
        rw [if_neg (show ¬ (g 10 f) = (112 : Int32) from hc2)]
    · refine q_ret 2 (some (.int (0 : Int32)), g, u) (fun _ _ => rfl) ?_
      rw [if_pos hc0]
      have zl := hc1
      rw [hp, hf, q_sb (by omega) hle, show (5 : Int32) = Int32.ofNat 5 from rfl, q_eq (by omega) (by omega)] at zl
      unfold t_is
      rw [if_neg (show ¬ e - f = (t_nm 2).length from zl)]
  · refine q_ret 2 (some (.int (0 : Int32)), g, u) (fun _ _ => rfl) ?_
    rw [if_neg hc0]
theorem c_isn6 {f e : Nat} (g : qM) (u : qW) (hf : g 9 3 = Int32.ofNat f) (hp : g 9 5 = Int32.ofNat e) (hle : f ≤ e) (he : e ≤ 160) : q_BS 21 [.ref 9, .ref 7] g u (some (.int (if g 9 2 = 1 then t_is (g 10) f (e - f) (t_nm 6) else 0)), g, u) := by
  refine q_bx (mm := m_21) rfl (Nat.le_of_ble_eq_true rfl) rfl ?_
  refine q_step 3 5 [(0, .ref 9), (1, .ref 7)] [.int (1 : Int32), .int (g 9 2)] g u (fun big n0 => sg_nm_61 big n0 g u) ?_
  refine q_ic_ne rfl (fun (hc0 : (g 9 2) = (1 : Int32)) => ?_) (fun (hc0 : ¬ ((g 9 2) = (1 : Int32))) => ?_)
  · refine q_step 7 21 [(0, .ref 9), (1, .ref 7)] [.int (4 : Int32), .int ((g 9 5) - (g 9 3))] g u (fun big n0 => sg_nm_62 big n0 g u) ?_
    refine q_ic_eq rfl (fun (hc1 : ((g 9 5) - (g 9 3)) = (4 : Int32)) => ?_) (fun (hc1 : ¬ (((g 9 5) - (g 9 3)) = (4 : Int32))) => ?_)
    · refine q_step 12 46 [(0, .ref 9), (1, .ref 7), (2, .int (0 : Int32))] [.int ((g 9 3) + (0 : Int32)), .ref 10] g u (fun big n0 => sg_nm_63 big n0 g u) ?_
      refine q_bald (j := (f + 0)) (by have z := hc1; rw [hp, hf, q_sb (by omega) hle, show (4 : Int32) = Int32.ofNat 4 from rfl, q_eq (by omega) (by omega)] at z; rw [hf, show (0 : Int32) = Int32.ofNat 0 from rfl, q_add]; exact q_ixn (by omega) (by omega)) rfl (by decide) rfl ?_
      refine q_step 3 52 [(0, .ref 9), (1, .ref 7), (2, .int (0 : Int32))] [.int (103 : Int32), .int (g 10 (f + 0))] g u (fun big n0 => sg_nm_64 big n0 g u (g 10 (f + 0))) ?_
      refine q_ic_eq rfl (fun (hc2 : (g 10 (f + 0)) = (103 : Int32)) => ?_) (fun (hc2 : ¬ ((g 10 (f + 0)) = (103 : Int32))) => ?_)
      · refine q_step 12 46 [(0, .ref 9), (1, .ref 7), (2, .int (1 : Int32))] [.int ((g 9 3) + (1 : Int32)), .ref 10] g u (fun big n0 => sg_nm_65 big n0 g u) ?_
        refine q_bald (j := (f + 1)) (by have z := hc1; rw [hp, hf, q_sb (by omega) hle, show (4 : Int32) = Int32.ofNat 4 from rfl, q_eq (by omega) (by omega)] at z; rw [hf, show (1 : Int32) = Int32.ofNat 1 from rfl, q_add]; exact q_ixn (by omega) (by omega)) rfl (by decide) rfl ?_
        refine q_step 3 52 [(0, .ref 9), (1, .ref 7), (2, .int (1 : Int32))] [.int (111 : Int32), .int (g 10 (f + 1))] g u (fun big n0 => sg_nm_66 big n0 g u (g 10 (f + 1))) ?_
        refine q_ic_eq rfl (fun (hc3 : (g 10 (f + 1)) = (111 : Int32)) => ?_) (fun (hc3 : ¬ ((g 10 (f + 1)) = (111 : Int32))) => ?_)
        · refine q_step 12 46 [(0, .ref 9), (1, .ref 7), (2, .int (2 : Int32))] [.int ((g 9 3) + (2 : Int32)), .ref 10] g u (fun big n0 => sg_nm_67 big n0 g u) ?_
          refine q_bald (j := (f + 2)) (by have z := hc1; rw [hp, hf, q_sb (by omega) hle, show (4 : Int32) = Int32.ofNat 4 from rfl, q_eq (by omega) (by omega)] at z; rw [hf, show (2 : Int32) = Int32.ofNat 2 from rfl, q_add]; exact q_ixn (by omega) (by omega)) rfl (by decide) rfl ?_
          refine q_step 3 52 [(0, .ref 9), (1, .ref 7), (2, .int (2 : Int32))] [.int (97 : Int32), .int (g 10 (f + 2))] g u (fun big n0 => sg_nm_68 big n0 g u (g 10 (f + 2))) ?_
          refine q_ic_eq rfl (fun (hc4 : (g 10 (f + 2)) = (97 : Int32)) => ?_) (fun (hc4 : ¬ ((g 10 (f + 2)) = (97 : Int32))) => ?_)
          · refine q_step 12 46 [(0, .ref 9), (1, .ref 7), (2, .int (3 : Int32))] [.int ((g 9 3) + (3 : Int32)), .ref 10] g u (fun big n0 => sg_nm_69 big n0 g u) ?_
            refine q_bald (j := (f + 3)) (by have z := hc1; rw [hp, hf, q_sb (by omega) hle, show (4 : Int32) = Int32.ofNat 4 from rfl, q_eq (by omega) (by omega)] at z; rw [hf, show (3 : Int32) = Int32.ofNat 3 from rfl, q_add]; exact q_ixn (by omega) (by omega)) rfl (by decide) rfl ?_
            refine q_step 3 52 [(0, .ref 9), (1, .ref 7), (2, .int (3 : Int32))] [.int (108 : Int32), .int (g 10 (f + 3))] g u (fun big n0 => sg_nm_70 big n0 g u (g 10 (f + 3))) ?_
            refine q_ic_eq rfl (fun (hc5 : (g 10 (f + 3)) = (108 : Int32)) => ?_) (fun (hc5 : ¬ ((g 10 (f + 3)) = (108 : Int32))) => ?_)
            · refine q_ret 8 (some (.int (1 : Int32)), g, u) (fun _ _ => rfl) ?_
              rw [if_pos hc0]
              have zl := hc1
              rw [hp, hf, q_sb (by omega) hle, show (4 : Int32) = Int32.ofNat 4 from rfl, q_eq (by omega) (by omega)] at zl
              unfold t_is
              rw [if_pos (show e - f = (t_nm 6).length from zl)]
              simp only [t_nm, t_eq, Nat.add_assoc, Nat.reduceAdd]
              rw [if_pos (show (g 10 f) = (103 : Int32) from hc2), if_pos (show (g 10 (f + 1)) = (111 : Int32) from hc3), if_pos (show (g 10 (f + 2)) = (97 : Int32) from hc4), if_pos (show (g 10 (f + 3)) = (108 : Int32) from hc5)]
            · refine q_ret 2 (some (.int (0 : Int32)), g, u) (fun _ _ => rfl) ?_
              rw [if_pos hc0]
              have zl := hc1
              rw [hp, hf, q_sb (by omega) hle, show (4 : Int32) = Int32.ofNat 4 from rfl, q_eq (by omega) (by omega)] at zl
              unfold t_is
              rw [if_pos (show e - f = (t_nm 6).length from zl)]
              simp only [t_nm, t_eq, Nat.add_assoc, Nat.reduceAdd]
              rw [if_pos (show (g 10 f) = (103 : Int32) from hc2), if_pos (show (g 10 (f + 1)) = (111 : Int32) from hc3), if_pos (show (g 10 (f + 2)) = (97 : Int32) from hc4), if_neg (show ¬ (g 10 (f + 3)) = (108 : Int32) from hc5)]
          · refine q_ret 2 (some (.int (0 : Int32)), g, u) (fun _ _ => rfl) ?_
            rw [if_pos hc0]
            have zl := hc1
            rw [hp, hf, q_sb (by omega) hle, show (4 : Int32) = Int32.ofNat 4 from rfl, q_eq (by omega) (by omega)] at zl
            unfold t_is
            rw [if_pos (show e - f = (t_nm 6).length from zl)]
            simp only [t_nm, t_eq, Nat.add_assoc, Nat.reduceAdd]
            rw [if_pos (show (g 10 f) = (103 : Int32) from hc2), if_pos (show (g 10 (f + 1)) = (111 : Int32) from hc3), if_neg (show ¬ (g 10 (f + 2)) = (97 : Int32) from hc4)]
        · refine q_ret 2 (some (.int (0 : Int32)), g, u) (fun _ _ => rfl) ?_
          rw [if_pos hc0]
          have zl := hc1
          rw [hp, hf, q_sb (by omega) hle, show (4 : Int32) = Int32.ofNat 4 from rfl, q_eq (by omega) (by omega)] at zl
          unfold t_is
          rw [if_pos (show e - f = (t_nm 6).length from zl)]
          simp only [t_nm, t_eq, Nat.add_assoc, Nat.reduceAdd]
          rw [if_pos (show (g 10 f) = (103 : Int32) from hc2), if_neg (show ¬ (g 10 (f + 1)) = (111 : Int32) from hc3)]
      · refine q_ret 2 (some (.int (0 : Int32)), g, u) (fun _ _ => rfl) ?_
        rw [if_pos hc0]
        have zl := hc1
        rw [hp, hf, q_sb (by omega) hle, show (4 : Int32) = Int32.ofNat 4 from rfl, q_eq (by omega) (by omega)] at zl
        unfold t_is
        rw [if_pos (show e - f = (t_nm 6).length from zl)]
        simp only [t_nm, t_eq, Nat.add_assoc, Nat.reduceAdd]
        rw [if_neg (show ¬ (g 10 f) = (103 : Int32) from hc2)]
    · refine q_ret 2 (some (.int (0 : Int32)), g, u) (fun _ _ => rfl) ?_
      rw [if_pos hc0]
      have zl := hc1
      rw [hp, hf, q_sb (by omega) hle, show (4 : Int32) = Int32.ofNat 4 from rfl, q_eq (by omega) (by omega)] at zl
      unfold t_is
      rw [if_neg (show ¬ e - f = (t_nm 6).length from zl)]
  · refine q_ret 2 (some (.int (0 : Int32)), g, u) (fun _ _ => rfl) ?_
    rw [if_neg hc0]
theorem r_is (g : qM) (u : qW) {s f e : Nat} (hs : g 70 13 = Int32.ofNat s) (h160 : s ≤ 160) (hf : g 70 15 = Int32.ofNat f) (he : g 70 14 = Int32.ofNat e) (hfe : f ≤ e) (hes : e ≤ s) (n : Nat) (hn : n ≤ 5) (a b : Int32) : q_BS 157 [.ref 70, .int (Int32.ofNat n), .int a, .int b] g u (some (.int (t_p1 (g 74) s f (e - f) n a b)), g, u) := by
  refine q_bx (mm := m_157) rfl (Nat.le_of_ble_eq_true rfl) rfl ?_
  refine q_step 6 10 [(0, .ref 70), (1, .int (Int32.ofNat n)), (2, .int a), (3, .int b)] [.int (Int32.ofNat n), .int ((g 70 14) - (g 70 15))] g u (fun big n0 => sg_nm_71 big n0 g u (Int32.ofNat n) a b) ?_
  refine q_ic_ne rfl (fun (hc0 : ((g 70 14) - (g 70 15)) = (Int32.ofNat n)) => ?_) (fun (hc0 : ¬ (((g 70 14) - (g 70 15)) = (Int32.ofNat n))) => ?_)
  · refine q_step 3 18 [(0, .ref 70), (1, .int (Int32.ofNat n)), (2, .int a), (3, .int b)] [.int (g 70 15), .ref 70] g u (fun big n0 => sg_nm_72 big n0 g u (Int32.ofNat n) a b) ?_
    refine q_call (M2 := 153) (rest := []) (by rw [hf]; exact b_look g u (p := f) (s := s) hs h160 (by omega)) (fun _ _ => rfl) ?_
    refine q_step 1 22 [(0, .ref 70), (1, .int (Int32.ofNat n)), (2, .int a), (3, .int b)] [.int a, .int (s_lk (g 74) s f)] g u (fun big n0 => sg_nm_73 big n0 g u (Int32.ofNat n) a b (s_lk (g 74) s f)) ?_
    refine q_ic_ne rfl (fun (hc1 : (s_lk (g 74) s f) = a) => ?_) (fun (hc1 : ¬ ((s_lk (g 74) s f) = a)) => ?_)
    · refine q_step 5 32 [(0, .ref 70), (1, .int (Int32.ofNat n)), (2, .int a), (3, .int b)] [.int ((g 70 15) + (1 : Int32)), .ref 70] g u (fun big n0 => sg_nm_74 big n0 g u (Int32.ofNat n) a b) ?_
      refine q_call (M2 := 153) (rest := []) (by rw [hf, show (1 : Int32) = Int32.ofNat 1 from rfl, q_add]; exact b_look g u (p := f + 1) (s := s) hs h160 (by omega)) (fun _ _ => rfl) ?_
      refine q_step 1 36 [(0, .ref 70), (1, .int (Int32.ofNat n)), (2, .int a), (3, .int b)] [.int b, .int (s_lk (g 74) s (f + 1))] g u (fun big n0 => sg_nm_75 big n0 g u (Int32.ofNat n) a b (s_lk (g 74) s (f + 1))) ?_
      refine q_ic_ne rfl (fun (hc2 : (s_lk (g 74) s (f + 1)) = b) => ?_) (fun (hc2 : ¬ ((s_lk (g 74) s (f + 1)) = b)) => ?_)
      · refine q_ret 3 (some (.int (1 : Int32)), g, u) (fun _ _ => rfl) ?_
        have z := hc0
        rw [he, hf, q_sb (by omega) hfe, q_eq (by omega) (by omega)] at z
        unfold t_p1
        rw [if_pos z, if_pos hc1, if_pos hc2]
      · refine q_ret 2 (some (.int (0 : Int32)), g, u) (fun _ _ => rfl) ?_
        have z := hc0
        rw [he, hf, q_sb (by omega) hfe, q_eq (by omega) (by omega)] at z
        unfold t_p1
        rw [if_pos z, if_pos hc1, if_neg hc2]
    · refine q_ret 2 (some (.int (0 : Int32)), g, u) (fun _ _ => rfl) ?_
      have z := hc0
      rw [he, hf, q_sb (by omega) hfe, q_eq (by omega) (by omega)] at z
      unfold t_p1
      rw [if_pos z, if_neg hc1]
  · refine q_ret 2 (some (.int (0 : Int32)), g, u) (fun _ _ => rfl) ?_
    have z := hc0
    rw [he, hf, q_sb (by omega) hfe, q_eq (by omega) (by omega)] at z
    unfold t_p1
    rw [if_neg z]
theorem r_ends (g : qM) (u : qW) {s f e : Nat} (hs : g 70 13 = Int32.ofNat s) (h160 : s ≤ 160) (hf : g 70 15 = Int32.ofNat f) (he : g 70 14 = Int32.ofNat e) (hfe : f ≤ e) (hes : e ≤ s) (a b c : Int32) : q_BS 158 [.ref 70, .int a, .int b, .int c] g u (some (.int (t_p2 (g 74) s f a b c)), g, u) := by
  refine q_bx (mm := m_158) rfl (Nat.le_of_ble_eq_true rfl) rfl ?_
  refine q_step 5 7 [(0, .ref 70), (1, .int a), (2, .int b), (3, .int c)] [.int ((g 70 15) + (2 : Int32)), .ref 70] g u (fun big n0 => sg_nm_76 big n0 g u a b c) ?_
  refine q_call (M2 := 153) (rest := []) (by rw [hf, show (2 : Int32) = Int32.ofNat 2 from rfl, q_add]; exact b_look g u (p := f + 2) (s := s) hs h160 (by omega)) (fun _ _ => rfl) ?_
  refine q_step 1 11 [(0, .ref 70), (1, .int a), (2, .int b), (3, .int c)] [.int a, .int (s_lk (g 74) s (f + 2))] g u (fun big n0 => sg_nm_77 big n0 g u a b c (s_lk (g 74) s (f + 2))) ?_
  refine q_ic_ne rfl (fun (hc0 : (s_lk (g 74) s (f + 2)) = a) => ?_) (fun (hc0 : ¬ ((s_lk (g 74) s (f + 2)) = a)) => ?_)
  · refine q_step 5 21 [(0, .ref 70), (1, .int a), (2, .int b), (3, .int c)] [.int ((g 70 15) + (3 : Int32)), .ref 70] g u (fun big n0 => sg_nm_78 big n0 g u a b c) ?_
    refine q_call (M2 := 153) (rest := []) (by rw [hf, show (3 : Int32) = Int32.ofNat 3 from rfl, q_add]; exact b_look g u (p := f + 3) (s := s) hs h160 (by omega)) (fun _ _ => rfl) ?_
    refine q_step 1 25 [(0, .ref 70), (1, .int a), (2, .int b), (3, .int c)] [.int b, .int (s_lk (g 74) s (f + 3))] g u (fun big n0 => sg_nm_79 big n0 g u a b c (s_lk (g 74) s (f + 3))) ?_
    refine q_ic_ne rfl (fun (hc1 : (s_lk (g 74) s (f + 3)) = b) => ?_) (fun (hc1 : ¬ ((s_lk (g 74) s (f + 3)) = b)) => ?_)
    · refine q_step 1 29 [(0, .ref 70), (1, .int a), (2, .int b), (3, .int c)] [.int c] g u (fun big n0 => sg_nm_80 big n0 g u a b c) ?_
      refine q_if_eq rfl (fun (hc2 : c = 0) => ?_) (fun (hc2 : ¬ (c = 0)) => ?_)
      · refine q_ret 3 (some (.int (1 : Int32)), g, u) (fun _ _ => rfl) ?_
        unfold t_p2
        rw [if_pos hc0, if_pos hc1, if_pos hc2]
      · refine q_step 5 39 [(0, .ref 70), (1, .int a), (2, .int b), (3, .int c)] [.int ((g 70 15) + (4 : Int32)), .ref 70] g u (fun big n0 => sg_nm_81 big n0 g u a b c) ?_
        refine q_call (M2 := 153) (rest := []) (by rw [hf, show (4 : Int32) = Int32.ofNat 4 from rfl, q_add]; exact b_look g u (p := f + 4) (s := s) hs h160 (by omega)) (fun _ _ => rfl) ?_
        refine q_step 1 43 [(0, .ref 70), (1, .int a), (2, .int b), (3, .int c)] [.int c, .int (s_lk (g 74) s (f + 4))] g u (fun big n0 => sg_nm_82 big n0 g u a b c (s_lk (g 74) s (f + 4))) ?_
        refine q_ic_ne rfl (fun (hc3 : (s_lk (g 74) s (f + 4)) = c) => ?_) (fun (hc3 : ¬ ((s_lk (g 74) s (f + 4)) = c)) => ?_)
        · refine q_ret 3 (some (.int (1 : Int32)), g, u) (fun _ _ => rfl) ?_
          unfold t_p2
          rw [if_pos hc0, if_pos hc1, if_neg hc2, if_pos hc3]
        · refine q_ret 2 (some (.int (0 : Int32)), g, u) (fun _ _ => rfl) ?_
          unfold t_p2
          rw [if_pos hc0, if_pos hc1, if_neg hc2, if_neg hc3]
    · refine q_ret 2 (some (.int (0 : Int32)), g, u) (fun _ _ => rfl) ?_
      unfold t_p2
      rw [if_pos hc0, if_neg hc1]
  · refine q_ret 2 (some (.int (0 : Int32)), g, u) (fun _ _ => rfl) ?_
    unfold t_p2
    rw [if_neg hc0]
theorem r_line (g : qM) (u : qW) {s f e : Nat} (hs : g 70 13 = Int32.ofNat s) (h160 : s ≤ 160) (hf : g 70 15 = Int32.ofNat f) (he : g 70 14 = Int32.ofNat e) (hfe : f ≤ e) (hes : e ≤ s) : q_BS 156 [.ref 70] g u (some (.int (t_ln (g 74) f (e - f))), g, u) := by
  refine q_bx (mm := m_156) rfl (Nat.le_of_ble_eq_true rfl) rfl ?_
  refine q_step 4 6 [(0, .ref 70)] [.int (111 : Int32), .int (116 : Int32), .int (4 : Int32), .ref 70] g u (fun big n0 => sg_nm_83 big n0 g u) ?_
  refine q_call (M2 := 157) (rest := []) (r_is g u hs h160 hf he hfe hes 4 (by omega) _ _) (fun _ _ => rfl) ?_
  refine q_if_eq rfl (fun (hc0 : (t_p1 (g 74) s f (e - f) 4 (116 : Int32) (111 : Int32)) = 0) => ?_) (fun (hc0 : ¬ ((t_p1 (g 74) s f (e - f) 4 (116 : Int32) (111 : Int32)) = 0)) => ?_)
  · refine q_step 4 32 [(0, .ref 70)] [.int (117 : Int32), .int (112 : Int32), .int (4 : Int32), .ref 70] g u (fun big n0 => sg_nm_84 big n0 g u) ?_
    refine q_call (M2 := 157) (rest := []) (r_is g u hs h160 hf he hfe hes 4 (by omega) _ _) (fun _ _ => rfl) ?_
    refine q_if_eq rfl (fun (hc1 : (t_p1 (g 74) s f (e - f) 4 (112 : Int32) (117 : Int32)) = 0) => ?_) (fun (hc1 : ¬ ((t_p1 (g 74) s f (e - f) 4 (112 : Int32) (117 : Int32)) = 0)) => ?_)
    · refine q_step 4 58 [(0, .ref 70)] [.int (114 : Int32), .int (112 : Int32), .int (5 : Int32), .ref 70] g u (fun big n0 => sg_nm_85 big n0 g u) ?_
      refine q_call (M2 := 157) (rest := []) (r_is g u hs h160 hf he hfe hes 5 (by omega) _ _) (fun _ _ => rfl) ?_
      refine q_if_eq rfl (fun (hc2 : (t_p1 (g 74) s f (e - f) 5 (112 : Int32) (114 : Int32)) = 0) => ?_) (fun (hc2 : ¬ ((t_p1 (g 74) s f (e - f) 5 (112 : Int32) (114 : Int32)) = 0)) => ?_)
      · refine q_step 4 85 [(0, .ref 70)] [.int (97 : Int32), .int (119 : Int32), .int (4 : Int32), .ref 70] g u (fun big n0 => sg_nm_86 big n0 g u) ?_
        refine q_call (M2 := 157) (rest := []) (r_is g u hs h160 hf he hfe hes 4 (by omega) _ _) (fun _ _ => rfl) ?_
        refine q_if_eq rfl (fun (hc3 : (t_p1 (g 74) s f (e - f) 4 (119 : Int32) (97 : Int32)) = 0) => ?_) (fun (hc3 : ¬ ((t_p1 (g 74) s f (e - f) 4 (119 : Int32) (97 : Int32)) = 0)) => ?_)
        · refine q_step 4 111 [(0, .ref 70)] [.int (116 : Int32), .int (97 : Int32), .int (2 : Int32), .ref 70] g u (fun big n0 => sg_nm_87 big n0 g u) ?_
          refine q_call (M2 := 157) (rest := []) (r_is g u hs h160 hf he hfe hes 2 (by omega) _ _) (fun _ _ => rfl) ?_
          refine q_if_eq rfl (fun (hc4 : (t_p1 (g 74) s f (e - f) 2 (97 : Int32) (116 : Int32)) = 0) => ?_) (fun (hc4 : ¬ ((t_p1 (g 74) s f (e - f) 2 (97 : Int32) (116 : Int32)) = 0)) => ?_)
          · refine q_step 4 125 [(0, .ref 70)] [.int (116 : Int32), .int (115 : Int32), .int (5 : Int32), .ref 70] g u (fun big n0 => sg_nm_88 big n0 g u) ?_
            refine q_call (M2 := 157) (rest := []) (r_is g u hs h160 hf he hfe hes 5 (by omega) _ _) (fun _ _ => rfl) ?_
            refine q_if_eq rfl (fun (hc5 : (t_p1 (g 74) s f (e - f) 5 (115 : Int32) (116 : Int32)) = 0) => ?_) (fun (hc5 : ¬ ((t_p1 (g 74) s f (e - f) 5 (115 : Int32) (116 : Int32)) = 0)) => ?_)
            · refine q_step 4 154 [(0, .ref 70)] [.int (111 : Int32), .int (103 : Int32), .int (4 : Int32), .ref 70] g u (fun big n0 => sg_nm_89 big n0 g u) ?_
              refine q_call (M2 := 157) (rest := []) (r_is g u hs h160 hf he hfe hes 4 (by omega) _ _) (fun _ _ => rfl) ?_
              refine q_if_eq rfl (fun (hc6 : (t_p1 (g 74) s f (e - f) 4 (103 : Int32) (111 : Int32)) = 0) => ?_) (fun (hc6 : ¬ ((t_p1 (g 74) s f (e - f) 4 (103 : Int32) (111 : Int32)) = 0)) => ?_)
              · refine q_ret 2 (some (.int (Int8.toInt32 (Int8.ofInt (-4)))), g, u) (fun _ _ => rfl) ?_
                have n0 : ¬ t_is (g 74) f (e - f) (t_nm 0) = 1 := fun z => ((t_is_4 (by omega)).mp z).1 hc0
                have n1 : ¬ t_is (g 74) f (e - f) (t_nm 1) = 1 := fun z => ((t_is_4 (by omega)).mp z).1 hc1
                have n2 : ¬ t_is (g 74) f (e - f) (t_nm 2) = 1 := fun z => ((t_is_5 (by omega)).mp z).1 hc2
                have n3 : ¬ t_is (g 74) f (e - f) (t_nm 3) = 1 := fun z => ((t_is_4 (by omega)).mp z).1 hc3
                have n4 : ¬ t_is (g 74) f (e - f) (t_nm 4) = 1 := fun z => ((t_is_2 (by omega)).mp z) hc4
                have n5 : ¬ t_is (g 74) f (e - f) (t_nm 5) = 1 := fun z => ((t_is_5 (by omega)).mp z).1 hc5
                have n6 : ¬ t_is (g 74) f (e - f) (t_nm 6) = 1 := fun z => ((t_is_4 (by omega)).mp z).1 hc6
                unfold t_ln
                rw [if_neg n0, if_neg n1, if_neg n2, if_neg n3, if_neg n4, if_neg n5, if_neg n6]
                rfl
              · refine q_step 4 166 [(0, .ref 70)] [.int (0 : Int32), .int (108 : Int32), .int (97 : Int32), .ref 70] g u (fun big n0 => sg_nm_90 big n0 g u) ?_
                refine q_call (M2 := 158) (rest := []) (r_ends g u hs h160 hf he hfe hes _ _ _) (fun _ _ => rfl) ?_
                refine q_if_eq rfl (fun (hc7 : (t_p2 (g 74) s f (97 : Int32) (108 : Int32) (0 : Int32)) = 0) => ?_) (fun (hc7 : ¬ ((t_p2 (g 74) s f (97 : Int32) (108 : Int32) (0 : Int32)) = 0)) => ?_)
                · refine q_ret 2 (some (.int (Int8.toInt32 (Int8.ofInt (-4)))), g, u) (fun _ _ => rfl) ?_
                  have n0 : ¬ t_is (g 74) f (e - f) (t_nm 0) = 1 := fun z => ((t_is_4 (by omega)).mp z).1 hc0
                  have n1 : ¬ t_is (g 74) f (e - f) (t_nm 1) = 1 := fun z => ((t_is_4 (by omega)).mp z).1 hc1
                  have n2 : ¬ t_is (g 74) f (e - f) (t_nm 2) = 1 := fun z => ((t_is_5 (by omega)).mp z).1 hc2
                  have n3 : ¬ t_is (g 74) f (e - f) (t_nm 3) = 1 := fun z => ((t_is_4 (by omega)).mp z).1 hc3
                  have n4 : ¬ t_is (g 74) f (e - f) (t_nm 4) = 1 := fun z => ((t_is_2 (by omega)).mp z) hc4
                  have n5 : ¬ t_is (g 74) f (e - f) (t_nm 5) = 1 := fun z => ((t_is_5 (by omega)).mp z).1 hc5
                  have n6 : ¬ t_is (g 74) f (e - f) (t_nm 6) = 1 := fun z => ((t_is_4 (by omega)).mp z).2 hc7
                  unfold t_ln
                  rw [if_neg n0, if_neg n1, if_neg n2, if_neg n3, if_neg n4, if_neg n5, if_neg n6]
                  rfl
                · refine q_ret 3 (some (.int (6 : Int32)), g, u) (fun _ _ => rfl) ?_
                  have n0 : ¬ t_is (g 74) f (e - f) (t_nm 0) = 1 := fun z => ((t_is_4 (by omega)).mp z).1 hc0
                  have n1 : ¬ t_is (g 74) f (e - f) (t_nm 1) = 1 := fun z => ((t_is_4 (by omega)).mp z).1 hc1
                  have n2 : ¬ t_is (g 74) f (e - f) (t_nm 2) = 1 := fun z => ((t_is_5 (by omega)).mp z).1 hc2
                  have n3 : ¬ t_is (g 74) f (e - f) (t_nm 3) = 1 := fun z => ((t_is_4 (by omega)).mp z).1 hc3
                  have n4 : ¬ t_is (g 74) f (e - f) (t_nm 4) = 1 := fun z => ((t_is_2 (by omega)).mp z) hc4
                  have n5 : ¬ t_is (g 74) f (e - f) (t_nm 5) = 1 := fun z => ((t_is_5 (by omega)).mp z).1 hc5
                  have y6 : t_is (g 74) f (e - f) (t_nm 6) = 1 := (t_is_4 (by omega)).mpr ⟨hc6, hc7⟩
                  unfold t_ln
                  rw [if_neg n0, if_neg n1, if_neg n2, if_neg n3, if_neg n4, if_neg n5, if_pos y6]
            · refine q_step 4 138 [(0, .ref 70)] [.int (108 : Int32), .int (108 : Int32), .int (105 : Int32), .ref 70] g u (fun big n0 => sg_nm_91 big n0 g u) ?_
              refine q_call (M2 := 158) (rest := []) (r_ends g u hs h160 hf he hfe hes _ _ _) (fun _ _ => rfl) ?_
              refine q_if_eq rfl (fun (hc6 : (t_p2 (g 74) s f (105 : Int32) (108 : Int32) (108 : Int32)) = 0) => ?_) (fun (hc6 : ¬ ((t_p2 (g 74) s f (105 : Int32) (108 : Int32) (108 : Int32)) = 0)) => ?_)
              · refine q_step 4 154 [(0, .ref 70)] [.int (111 : Int32), .int (103 : Int32), .int (4 : Int32), .ref 70] g u (fun big n0 => sg_nm_89 big n0 g u) ?_
                refine q_call (M2 := 157) (rest := []) (r_is g u hs h160 hf he hfe hes 4 (by omega) _ _) (fun _ _ => rfl) ?_
                refine q_if_eq rfl (fun (hc7 : (t_p1 (g 74) s f (e - f) 4 (103 : Int32) (111 : Int32)) = 0) => ?_) (fun (hc7 : ¬ ((t_p1 (g 74) s f (e - f) 4 (103 : Int32) (111 : Int32)) = 0)) => ?_)
                · refine q_ret 2 (some (.int (Int8.toInt32 (Int8.ofInt (-4)))), g, u) (fun _ _ => rfl) ?_
                  have n0 : ¬ t_is (g 74) f (e - f) (t_nm 0) = 1 := fun z => ((t_is_4 (by omega)).mp z).1 hc0
                  have n1 : ¬ t_is (g 74) f (e - f) (t_nm 1) = 1 := fun z => ((t_is_4 (by omega)).mp z).1 hc1
                  have n2 : ¬ t_is (g 74) f (e - f) (t_nm 2) = 1 := fun z => ((t_is_5 (by omega)).mp z).1 hc2
                  have n3 : ¬ t_is (g 74) f (e - f) (t_nm 3) = 1 := fun z => ((t_is_4 (by omega)).mp z).1 hc3
                  have n4 : ¬ t_is (g 74) f (e - f) (t_nm 4) = 1 := fun z => ((t_is_2 (by omega)).mp z) hc4
                  have n5 : ¬ t_is (g 74) f (e - f) (t_nm 5) = 1 := fun z => ((t_is_5 (by omega)).mp z).2 hc6
                  have n6 : ¬ t_is (g 74) f (e - f) (t_nm 6) = 1 := fun z => ((t_is_4 (by omega)).mp z).1 hc7
                  unfold t_ln
                  rw [if_neg n0, if_neg n1, if_neg n2, if_neg n3, if_neg n4, if_neg n5, if_neg n6]
                  rfl
                · refine q_step 4 166 [(0, .ref 70)] [.int (0 : Int32), .int (108 : Int32), .int (97 : Int32), .ref 70] g u (fun big n0 => sg_nm_90 big n0 g u) ?_
                  refine q_call (M2 := 158) (rest := []) (r_ends g u hs h160 hf he hfe hes _ _ _) (fun _ _ => rfl) ?_
                  refine q_if_eq rfl (fun (hc8 : (t_p2 (g 74) s f (97 : Int32) (108 : Int32) (0 : Int32)) = 0) => ?_) (fun (hc8 : ¬ ((t_p2 (g 74) s f (97 : Int32) (108 : Int32) (0 : Int32)) = 0)) => ?_)
                  · refine q_ret 2 (some (.int (Int8.toInt32 (Int8.ofInt (-4)))), g, u) (fun _ _ => rfl) ?_
                    have n0 : ¬ t_is (g 74) f (e - f) (t_nm 0) = 1 := fun z => ((t_is_4 (by omega)).mp z).1 hc0
                    have n1 : ¬ t_is (g 74) f (e - f) (t_nm 1) = 1 := fun z => ((t_is_4 (by omega)).mp z).1 hc1
                    have n2 : ¬ t_is (g 74) f (e - f) (t_nm 2) = 1 := fun z => ((t_is_5 (by omega)).mp z).1 hc2
                    have n3 : ¬ t_is (g 74) f (e - f) (t_nm 3) = 1 := fun z => ((t_is_4 (by omega)).mp z).1 hc3
                    have n4 : ¬ t_is (g 74) f (e - f) (t_nm 4) = 1 := fun z => ((t_is_2 (by omega)).mp z) hc4
                    have n5 : ¬ t_is (g 74) f (e - f) (t_nm 5) = 1 := fun z => ((t_is_5 (by omega)).mp z).2 hc6
                    have n6 : ¬ t_is (g 74) f (e - f) (t_nm 6) = 1 := fun z => ((t_is_4 (by omega)).mp z).2 hc8
                    unfold t_ln
                    rw [if_neg n0, if_neg n1, if_neg n2, if_neg n3, if_neg n4, if_neg n5, if_neg n6]
                    rfl
                  · refine q_ret 3 (some (.int (6 : Int32)), g, u) (fun _ _ => rfl) ?_
                    have n0 : ¬ t_is (g 74) f (e - f) (t_nm 0) = 1 := fun z => ((t_is_4 (by omega)).mp z).1 hc0
                    have n1 : ¬ t_is (g 74) f (e - f) (t_nm 1) = 1 := fun z => ((t_is_4 (by omega)).mp z).1 hc1
                    have n2 : ¬ t_is (g 74) f (e - f) (t_nm 2) = 1 := fun z => ((t_is_5 (by omega)).mp z).1 hc2
                    have n3 : ¬ t_is (g 74) f (e - f) (t_nm 3) = 1 := fun z => ((t_is_4 (by omega)).mp z).1 hc3
                    have n4 : ¬ t_is (g 74) f (e - f) (t_nm 4) = 1 := fun z => ((t_is_2 (by omega)).mp z) hc4
                    have n5 : ¬ t_is (g 74) f (e - f) (t_nm 5) = 1 := fun z => ((t_is_5 (by omega)).mp z).2 hc6
                    have y6 : t_is (g 74) f (e - f) (t_nm 6) = 1 := (t_is_4 (by omega)).mpr ⟨hc7, hc8⟩
                    unfold t_ln
                    rw [if_neg n0, if_neg n1, if_neg n2, if_neg n3, if_neg n4, if_neg n5, if_pos y6]
              · refine q_ret 3 (some (.int (5 : Int32)), g, u) (fun _ _ => rfl) ?_
                have n0 : ¬ t_is (g 74) f (e - f) (t_nm 0) = 1 := fun z => ((t_is_4 (by omega)).mp z).1 hc0
                have n1 : ¬ t_is (g 74) f (e - f) (t_nm 1) = 1 := fun z => ((t_is_4 (by omega)).mp z).1 hc1
                have n2 : ¬ t_is (g 74) f (e - f) (t_nm 2) = 1 := fun z => ((t_is_5 (by omega)).mp z).1 hc2
                have n3 : ¬ t_is (g 74) f (e - f) (t_nm 3) = 1 := fun z => ((t_is_4 (by omega)).mp z).1 hc3
                have n4 : ¬ t_is (g 74) f (e - f) (t_nm 4) = 1 := fun z => ((t_is_2 (by omega)).mp z) hc4
                have y5 : t_is (g 74) f (e - f) (t_nm 5) = 1 := (t_is_5 (by omega)).mpr ⟨hc5, hc6⟩
                unfold t_ln
                rw [if_neg n0, if_neg n1, if_neg n2, if_neg n3, if_neg n4, if_pos y5]
          · refine q_ret 2 (some (.int (4 : Int32)), g, u) (fun _ _ => rfl) ?_
            have n0 : ¬ t_is (g 74) f (e - f) (t_nm 0) = 1 := fun z => ((t_is_4 (by omega)).mp z).1 hc0
            have n1 : ¬ t_is (g 74) f (e - f) (t_nm 1) = 1 := fun z => ((t_is_4 (by omega)).mp z).1 hc1
            have n2 : ¬ t_is (g 74) f (e - f) (t_nm 2) = 1 := fun z => ((t_is_5 (by omega)).mp z).1 hc2
            have n3 : ¬ t_is (g 74) f (e - f) (t_nm 3) = 1 := fun z => ((t_is_4 (by omega)).mp z).1 hc3
            have y4 : t_is (g 74) f (e - f) (t_nm 4) = 1 := (t_is_2 (by omega)).mpr hc4
            unfold t_ln
            rw [if_neg n0, if_neg n1, if_neg n2, if_neg n3, if_pos y4]
        · refine q_step 4 97 [(0, .ref 70)] [.int (0 : Int32), .int (108 : Int32), .int (108 : Int32), .ref 70] g u (fun big n0 => sg_nm_92 big n0 g u) ?_
          refine q_call (M2 := 158) (rest := []) (r_ends g u hs h160 hf he hfe hes _ _ _) (fun _ _ => rfl) ?_
          refine q_if_eq rfl (fun (hc4 : (t_p2 (g 74) s f (108 : Int32) (108 : Int32) (0 : Int32)) = 0) => ?_) (fun (hc4 : ¬ ((t_p2 (g 74) s f (108 : Int32) (108 : Int32) (0 : Int32)) = 0)) => ?_)
          · refine q_step 4 111 [(0, .ref 70)] [.int (116 : Int32), .int (97 : Int32), .int (2 : Int32), .ref 70] g u (fun big n0 => sg_nm_87 big n0 g u) ?_
            refine q_call (M2 := 157) (rest := []) (r_is g u hs h160 hf he hfe hes 2 (by omega) _ _) (fun _ _ => rfl) ?_
            refine q_if_eq rfl (fun (hc5 : (t_p1 (g 74) s f (e - f) 2 (97 : Int32) (116 : Int32)) = 0) => ?_) (fun (hc5 : ¬ ((t_p1 (g 74) s f (e - f) 2 (97 : Int32) (116 : Int32)) = 0)) => ?_)
            · refine q_step 4 125 [(0, .ref 70)] [.int (116 : Int32), .int (115 : Int32), .int (5 : Int32), .ref 70] g u (fun big n0 => sg_nm_88 big n0 g u) ?_
              refine q_call (M2 := 157) (rest := []) (r_is g u hs h160 hf he hfe hes 5 (by omega) _ _) (fun _ _ => rfl) ?_
              refine q_if_eq rfl (fun (hc6 : (t_p1 (g 74) s f (e - f) 5 (115 : Int32) (116 : Int32)) = 0) => ?_) (fun (hc6 : ¬ ((t_p1 (g 74) s f (e - f) 5 (115 : Int32) (116 : Int32)) = 0)) => ?_)
              · refine q_step 4 154 [(0, .ref 70)] [.int (111 : Int32), .int (103 : Int32), .int (4 : Int32), .ref 70] g u (fun big n0 => sg_nm_89 big n0 g u) ?_
                refine q_call (M2 := 157) (rest := []) (r_is g u hs h160 hf he hfe hes 4 (by omega) _ _) (fun _ _ => rfl) ?_
                refine q_if_eq rfl (fun (hc7 : (t_p1 (g 74) s f (e - f) 4 (103 : Int32) (111 : Int32)) = 0) => ?_) (fun (hc7 : ¬ ((t_p1 (g 74) s f (e - f) 4 (103 : Int32) (111 : Int32)) = 0)) => ?_)
                · refine q_ret 2 (some (.int (Int8.toInt32 (Int8.ofInt (-4)))), g, u) (fun _ _ => rfl) ?_
                  have n0 : ¬ t_is (g 74) f (e - f) (t_nm 0) = 1 := fun z => ((t_is_4 (by omega)).mp z).1 hc0
                  have n1 : ¬ t_is (g 74) f (e - f) (t_nm 1) = 1 := fun z => ((t_is_4 (by omega)).mp z).1 hc1
                  have n2 : ¬ t_is (g 74) f (e - f) (t_nm 2) = 1 := fun z => ((t_is_5 (by omega)).mp z).1 hc2
                  have n3 : ¬ t_is (g 74) f (e - f) (t_nm 3) = 1 := fun z => ((t_is_4 (by omega)).mp z).2 hc4
                  have n4 : ¬ t_is (g 74) f (e - f) (t_nm 4) = 1 := fun z => ((t_is_2 (by omega)).mp z) hc5
                  have n5 : ¬ t_is (g 74) f (e - f) (t_nm 5) = 1 := fun z => ((t_is_5 (by omega)).mp z).1 hc6
                  have n6 : ¬ t_is (g 74) f (e - f) (t_nm 6) = 1 := fun z => ((t_is_4 (by omega)).mp z).1 hc7
                  unfold t_ln
                  rw [if_neg n0, if_neg n1, if_neg n2, if_neg n3, if_neg n4, if_neg n5, if_neg n6]
                  rfl
                · refine q_step 4 166 [(0, .ref 70)] [.int (0 : Int32), .int (108 : Int32), .int (97 : Int32), .ref 70] g u (fun big n0 => sg_nm_90 big n0 g u) ?_
                  refine q_call (M2 := 158) (rest := []) (r_ends g u hs h160 hf he hfe hes _ _ _) (fun _ _ => rfl) ?_
                  refine q_if_eq rfl (fun (hc8 : (t_p2 (g 74) s f (97 : Int32) (108 : Int32) (0 : Int32)) = 0) => ?_) (fun (hc8 : ¬ ((t_p2 (g 74) s f (97 : Int32) (108 : Int32) (0 : Int32)) = 0)) => ?_)
                  · refine q_ret 2 (some (.int (Int8.toInt32 (Int8.ofInt (-4)))), g, u) (fun _ _ => rfl) ?_
                    have n0 : ¬ t_is (g 74) f (e - f) (t_nm 0) = 1 := fun z => ((t_is_4 (by omega)).mp z).1 hc0
                    have n1 : ¬ t_is (g 74) f (e - f) (t_nm 1) = 1 := fun z => ((t_is_4 (by omega)).mp z).1 hc1
                    have n2 : ¬ t_is (g 74) f (e - f) (t_nm 2) = 1 := fun z => ((t_is_5 (by omega)).mp z).1 hc2
                    have n3 : ¬ t_is (g 74) f (e - f) (t_nm 3) = 1 := fun z => ((t_is_4 (by omega)).mp z).2 hc4
                    have n4 : ¬ t_is (g 74) f (e - f) (t_nm 4) = 1 := fun z => ((t_is_2 (by omega)).mp z) hc5
                    have n5 : ¬ t_is (g 74) f (e - f) (t_nm 5) = 1 := fun z => ((t_is_5 (by omega)).mp z).1 hc6
                    have n6 : ¬ t_is (g 74) f (e - f) (t_nm 6) = 1 := fun z => ((t_is_4 (by omega)).mp z).2 hc8
                    unfold t_ln
                    rw [if_neg n0, if_neg n1, if_neg n2, if_neg n3, if_neg n4, if_neg n5, if_neg n6]
                    rfl
                  · refine q_ret 3 (some (.int (6 : Int32)), g, u) (fun _ _ => rfl) ?_
                    have n0 : ¬ t_is (g 74) f (e - f) (t_nm 0) = 1 := fun z => ((t_is_4 (by omega)).mp z).1 hc0
                    have n1 : ¬ t_is (g 74) f (e - f) (t_nm 1) = 1 := fun z => ((t_is_4 (by omega)).mp z).1 hc1
                    have n2 : ¬ t_is (g 74) f (e - f) (t_nm 2) = 1 := fun z => ((t_is_5 (by omega)).mp z).1 hc2
                    have n3 : ¬ t_is (g 74) f (e - f) (t_nm 3) = 1 := fun z => ((t_is_4 (by omega)).mp z).2 hc4
                    have n4 : ¬ t_is (g 74) f (e - f) (t_nm 4) = 1 := fun z => ((t_is_2 (by omega)).mp z) hc5
                    have n5 : ¬ t_is (g 74) f (e - f) (t_nm 5) = 1 := fun z => ((t_is_5 (by omega)).mp z).1 hc6
                    have y6 : t_is (g 74) f (e - f) (t_nm 6) = 1 := (t_is_4 (by omega)).mpr ⟨hc7, hc8⟩
                    unfold t_ln
                    rw [if_neg n0, if_neg n1, if_neg n2, if_neg n3, if_neg n4, if_neg n5, if_pos y6]
              · refine q_step 4 138 [(0, .ref 70)] [.int (108 : Int32), .int (108 : Int32), .int (105 : Int32), .ref 70] g u (fun big n0 => sg_nm_91 big n0 g u) ?_
                refine q_call (M2 := 158) (rest := []) (r_ends g u hs h160 hf he hfe hes _ _ _) (fun _ _ => rfl) ?_
                refine q_if_eq rfl (fun (hc7 : (t_p2 (g 74) s f (105 : Int32) (108 : Int32) (108 : Int32)) = 0) => ?_) (fun (hc7 : ¬ ((t_p2 (g 74) s f (105 : Int32) (108 : Int32) (108 : Int32)) = 0)) => ?_)
                · refine q_step 4 154 [(0, .ref 70)] [.int (111 : Int32), .int (103 : Int32), .int (4 : Int32), .ref 70] g u (fun big n0 => sg_nm_89 big n0 g u) ?_
                  refine q_call (M2 := 157) (rest := []) (r_is g u hs h160 hf he hfe hes 4 (by omega) _ _) (fun _ _ => rfl) ?_
                  refine q_if_eq rfl (fun (hc8 : (t_p1 (g 74) s f (e - f) 4 (103 : Int32) (111 : Int32)) = 0) => ?_) (fun (hc8 : ¬ ((t_p1 (g 74) s f (e - f) 4 (103 : Int32) (111 : Int32)) = 0)) => ?_)
                  · refine q_ret 2 (some (.int (Int8.toInt32 (Int8.ofInt (-4)))), g, u) (fun _ _ => rfl) ?_
                    have n0 : ¬ t_is (g 74) f (e - f) (t_nm 0) = 1 := fun z => ((t_is_4 (by omega)).mp z).1 hc0
                    have n1 : ¬ t_is (g 74) f (e - f) (t_nm 1) = 1 := fun z => ((t_is_4 (by omega)).mp z).1 hc1
                    have n2 : ¬ t_is (g 74) f (e - f) (t_nm 2) = 1 := fun z => ((t_is_5 (by omega)).mp z).1 hc2
                    have n3 : ¬ t_is (g 74) f (e - f) (t_nm 3) = 1 := fun z => ((t_is_4 (by omega)).mp z).2 hc4
                    have n4 : ¬ t_is (g 74) f (e - f) (t_nm 4) = 1 := fun z => ((t_is_2 (by omega)).mp z) hc5
                    have n5 : ¬ t_is (g 74) f (e - f) (t_nm 5) = 1 := fun z => ((t_is_5 (by omega)).mp z).2 hc7
                    have n6 : ¬ t_is (g 74) f (e - f) (t_nm 6) = 1 := fun z => ((t_is_4 (by omega)).mp z).1 hc8
                    unfold t_ln
                    rw [if_neg n0, if_neg n1, if_neg n2, if_neg n3, if_neg n4, if_neg n5, if_neg n6]
                    rfl
                  · refine q_step 4 166 [(0, .ref 70)] [.int (0 : Int32), .int (108 : Int32), .int (97 : Int32), .ref 70] g u (fun big n0 => sg_nm_90 big n0 g u) ?_
                    refine q_call (M2 := 158) (rest := []) (r_ends g u hs h160 hf he hfe hes _ _ _) (fun _ _ => rfl) ?_
                    refine q_if_eq rfl (fun (hc9 : (t_p2 (g 74) s f (97 : Int32) (108 : Int32) (0 : Int32)) = 0) => ?_) (fun (hc9 : ¬ ((t_p2 (g 74) s f (97 : Int32) (108 : Int32) (0 : Int32)) = 0)) => ?_)
                    · refine q_ret 2 (some (.int (Int8.toInt32 (Int8.ofInt (-4)))), g, u) (fun _ _ => rfl) ?_
                      have n0 : ¬ t_is (g 74) f (e - f) (t_nm 0) = 1 := fun z => ((t_is_4 (by omega)).mp z).1 hc0
                      have n1 : ¬ t_is (g 74) f (e - f) (t_nm 1) = 1 := fun z => ((t_is_4 (by omega)).mp z).1 hc1
                      have n2 : ¬ t_is (g 74) f (e - f) (t_nm 2) = 1 := fun z => ((t_is_5 (by omega)).mp z).1 hc2
                      have n3 : ¬ t_is (g 74) f (e - f) (t_nm 3) = 1 := fun z => ((t_is_4 (by omega)).mp z).2 hc4
                      have n4 : ¬ t_is (g 74) f (e - f) (t_nm 4) = 1 := fun z => ((t_is_2 (by omega)).mp z) hc5
                      have n5 : ¬ t_is (g 74) f (e - f) (t_nm 5) = 1 := fun z => ((t_is_5 (by omega)).mp z).2 hc7
                      have n6 : ¬ t_is (g 74) f (e - f) (t_nm 6) = 1 := fun z => ((t_is_4 (by omega)).mp z).2 hc9
                      unfold t_ln
                      rw [if_neg n0, if_neg n1, if_neg n2, if_neg n3, if_neg n4, if_neg n5, if_neg n6]
                      rfl
                    · refine q_ret 3 (some (.int (6 : Int32)), g, u) (fun _ _ => rfl) ?_
                      have n0 : ¬ t_is (g 74) f (e - f) (t_nm 0) = 1 := fun z => ((t_is_4 (by omega)).mp z).1 hc0
                      have n1 : ¬ t_is (g 74) f (e - f) (t_nm 1) = 1 := fun z => ((t_is_4 (by omega)).mp z).1 hc1
                      have n2 : ¬ t_is (g 74) f (e - f) (t_nm 2) = 1 := fun z => ((t_is_5 (by omega)).mp z).1 hc2
                      have n3 : ¬ t_is (g 74) f (e - f) (t_nm 3) = 1 := fun z => ((t_is_4 (by omega)).mp z).2 hc4
                      have n4 : ¬ t_is (g 74) f (e - f) (t_nm 4) = 1 := fun z => ((t_is_2 (by omega)).mp z) hc5
                      have n5 : ¬ t_is (g 74) f (e - f) (t_nm 5) = 1 := fun z => ((t_is_5 (by omega)).mp z).2 hc7
                      have y6 : t_is (g 74) f (e - f) (t_nm 6) = 1 := (t_is_4 (by omega)).mpr ⟨hc8, hc9⟩
                      unfold t_ln
                      rw [if_neg n0, if_neg n1, if_neg n2, if_neg n3, if_neg n4, if_neg n5, if_pos y6]
                · refine q_ret 3 (some (.int (5 : Int32)), g, u) (fun _ _ => rfl) ?_
                  have n0 : ¬ t_is (g 74) f (e - f) (t_nm 0) = 1 := fun z => ((t_is_4 (by omega)).mp z).1 hc0
                  have n1 : ¬ t_is (g 74) f (e - f) (t_nm 1) = 1 := fun z => ((t_is_4 (by omega)).mp z).1 hc1
                  have n2 : ¬ t_is (g 74) f (e - f) (t_nm 2) = 1 := fun z => ((t_is_5 (by omega)).mp z).1 hc2
                  have n3 : ¬ t_is (g 74) f (e - f) (t_nm 3) = 1 := fun z => ((t_is_4 (by omega)).mp z).2 hc4
                  have n4 : ¬ t_is (g 74) f (e - f) (t_nm 4) = 1 := fun z => ((t_is_2 (by omega)).mp z) hc5
                  have y5 : t_is (g 74) f (e - f) (t_nm 5) = 1 := (t_is_5 (by omega)).mpr ⟨hc6, hc7⟩
                  unfold t_ln
                  rw [if_neg n0, if_neg n1, if_neg n2, if_neg n3, if_neg n4, if_pos y5]
            · refine q_ret 2 (some (.int (4 : Int32)), g, u) (fun _ _ => rfl) ?_
              have n0 : ¬ t_is (g 74) f (e - f) (t_nm 0) = 1 := fun z => ((t_is_4 (by omega)).mp z).1 hc0
              have n1 : ¬ t_is (g 74) f (e - f) (t_nm 1) = 1 := fun z => ((t_is_4 (by omega)).mp z).1 hc1
              have n2 : ¬ t_is (g 74) f (e - f) (t_nm 2) = 1 := fun z => ((t_is_5 (by omega)).mp z).1 hc2
              have n3 : ¬ t_is (g 74) f (e - f) (t_nm 3) = 1 := fun z => ((t_is_4 (by omega)).mp z).2 hc4
              have y4 : t_is (g 74) f (e - f) (t_nm 4) = 1 := (t_is_2 (by omega)).mpr hc5
              unfold t_ln
              rw [if_neg n0, if_neg n1, if_neg n2, if_neg n3, if_pos y4]
          · refine q_ret 2 (some (.int (3 : Int32)), g, u) (fun _ _ => rfl) ?_
            have n0 : ¬ t_is (g 74) f (e - f) (t_nm 0) = 1 := fun z => ((t_is_4 (by omega)).mp z).1 hc0
            have n1 : ¬ t_is (g 74) f (e - f) (t_nm 1) = 1 := fun z => ((t_is_4 (by omega)).mp z).1 hc1
            have n2 : ¬ t_is (g 74) f (e - f) (t_nm 2) = 1 := fun z => ((t_is_5 (by omega)).mp z).1 hc2
            have y3 : t_is (g 74) f (e - f) (t_nm 3) = 1 := (t_is_4 (by omega)).mpr ⟨hc3, hc4⟩
            unfold t_ln
            rw [if_neg n0, if_neg n1, if_neg n2, if_pos y3]
      · refine q_step 4 71 [(0, .ref 70)] [.int (115 : Int32), .int (115 : Int32), .int (101 : Int32), .ref 70] g u (fun big n0 => sg_nm_93 big n0 g u) ?_
        refine q_call (M2 := 158) (rest := []) (r_ends g u hs h160 hf he hfe hes _ _ _) (fun _ _ => rfl) ?_
        refine q_if_eq rfl (fun (hc3 : (t_p2 (g 74) s f (101 : Int32) (115 : Int32) (115 : Int32)) = 0) => ?_) (fun (hc3 : ¬ ((t_p2 (g 74) s f (101 : Int32) (115 : Int32) (115 : Int32)) = 0)) => ?_)
        · refine q_step 4 85 [(0, .ref 70)] [.int (97 : Int32), .int (119 : Int32), .int (4 : Int32), .ref 70] g u (fun big n0 => sg_nm_86 big n0 g u) ?_
          refine q_call (M2 := 157) (rest := []) (r_is g u hs h160 hf he hfe hes 4 (by omega) _ _) (fun _ _ => rfl) ?_
          refine q_if_eq rfl (fun (hc4 : (t_p1 (g 74) s f (e - f) 4 (119 : Int32) (97 : Int32)) = 0) => ?_) (fun (hc4 : ¬ ((t_p1 (g 74) s f (e - f) 4 (119 : Int32) (97 : Int32)) = 0)) => ?_)
          · refine q_step 4 111 [(0, .ref 70)] [.int (116 : Int32), .int (97 : Int32), .int (2 : Int32), .ref 70] g u (fun big n0 => sg_nm_87 big n0 g u) ?_
            refine q_call (M2 := 157) (rest := []) (r_is g u hs h160 hf he hfe hes 2 (by omega) _ _) (fun _ _ => rfl) ?_
            refine q_if_eq rfl (fun (hc5 : (t_p1 (g 74) s f (e - f) 2 (97 : Int32) (116 : Int32)) = 0) => ?_) (fun (hc5 : ¬ ((t_p1 (g 74) s f (e - f) 2 (97 : Int32) (116 : Int32)) = 0)) => ?_)
            · refine q_step 4 125 [(0, .ref 70)] [.int (116 : Int32), .int (115 : Int32), .int (5 : Int32), .ref 70] g u (fun big n0 => sg_nm_88 big n0 g u) ?_
              refine q_call (M2 := 157) (rest := []) (r_is g u hs h160 hf he hfe hes 5 (by omega) _ _) (fun _ _ => rfl) ?_
              refine q_if_eq rfl (fun (hc6 : (t_p1 (g 74) s f (e - f) 5 (115 : Int32) (116 : Int32)) = 0) => ?_) (fun (hc6 : ¬ ((t_p1 (g 74) s f (e - f) 5 (115 : Int32) (116 : Int32)) = 0)) => ?_)
              · refine q_step 4 154 [(0, .ref 70)] [.int (111 : Int32), .int (103 : Int32), .int (4 : Int32), .ref 70] g u (fun big n0 => sg_nm_89 big n0 g u) ?_
                refine q_call (M2 := 157) (rest := []) (r_is g u hs h160 hf he hfe hes 4 (by omega) _ _) (fun _ _ => rfl) ?_
                refine q_if_eq rfl (fun (hc7 : (t_p1 (g 74) s f (e - f) 4 (103 : Int32) (111 : Int32)) = 0) => ?_) (fun (hc7 : ¬ ((t_p1 (g 74) s f (e - f) 4 (103 : Int32) (111 : Int32)) = 0)) => ?_)
                · refine q_ret 2 (some (.int (Int8.toInt32 (Int8.ofInt (-4)))), g, u) (fun _ _ => rfl) ?_
                  have n0 : ¬ t_is (g 74) f (e - f) (t_nm 0) = 1 := fun z => ((t_is_4 (by omega)).mp z).1 hc0
                  have n1 : ¬ t_is (g 74) f (e - f) (t_nm 1) = 1 := fun z => ((t_is_4 (by omega)).mp z).1 hc1
                  have n2 : ¬ t_is (g 74) f (e - f) (t_nm 2) = 1 := fun z => ((t_is_5 (by omega)).mp z).2 hc3
                  have n3 : ¬ t_is (g 74) f (e - f) (t_nm 3) = 1 := fun z => ((t_is_4 (by omega)).mp z).1 hc4
                  have n4 : ¬ t_is (g 74) f (e - f) (t_nm 4) = 1 := fun z => ((t_is_2 (by omega)).mp z) hc5
                  have n5 : ¬ t_is (g 74) f (e - f) (t_nm 5) = 1 := fun z => ((t_is_5 (by omega)).mp z).1 hc6
                  have n6 : ¬ t_is (g 74) f (e - f) (t_nm 6) = 1 := fun z => ((t_is_4 (by omega)).mp z).1 hc7
                  unfold t_ln
                  rw [if_neg n0, if_neg n1, if_neg n2, if_neg n3, if_neg n4, if_neg n5, if_neg n6]
                  rfl
                · refine q_step 4 166 [(0, .ref 70)] [.int (0 : Int32), .int (108 : Int32), .int (97 : Int32), .ref 70] g u (fun big n0 => sg_nm_90 big n0 g u) ?_
                  refine q_call (M2 := 158) (rest := []) (r_ends g u hs h160 hf he hfe hes _ _ _) (fun _ _ => rfl) ?_
                  refine q_if_eq rfl (fun (hc8 : (t_p2 (g 74) s f (97 : Int32) (108 : Int32) (0 : Int32)) = 0) => ?_) (fun (hc8 : ¬ ((t_p2 (g 74) s f (97 : Int32) (108 : Int32) (0 : Int32)) = 0)) => ?_)
                  · refine q_ret 2 (some (.int (Int8.toInt32 (Int8.ofInt (-4)))), g, u) (fun _ _ => rfl) ?_
                    have n0 : ¬ t_is (g 74) f (e - f) (t_nm 0) = 1 := fun z => ((t_is_4 (by omega)).mp z).1 hc0
                    have n1 : ¬ t_is (g 74) f (e - f) (t_nm 1) = 1 := fun z => ((t_is_4 (by omega)).mp z).1 hc1
                    have n2 : ¬ t_is (g 74) f (e - f) (t_nm 2) = 1 := fun z => ((t_is_5 (by omega)).mp z).2 hc3
                    have n3 : ¬ t_is (g 74) f (e - f) (t_nm 3) = 1 := fun z => ((t_is_4 (by omega)).mp z).1 hc4
                    have n4 : ¬ t_is (g 74) f (e - f) (t_nm 4) = 1 := fun z => ((t_is_2 (by omega)).mp z) hc5
                    have n5 : ¬ t_is (g 74) f (e - f) (t_nm 5) = 1 := fun z => ((t_is_5 (by omega)).mp z).1 hc6
                    have n6 : ¬ t_is (g 74) f (e - f) (t_nm 6) = 1 := fun z => ((t_is_4 (by omega)).mp z).2 hc8
                    unfold t_ln
                    rw [if_neg n0, if_neg n1, if_neg n2, if_neg n3, if_neg n4, if_neg n5, if_neg n6]
                    rfl
                  · refine q_ret 3 (some (.int (6 : Int32)), g, u) (fun _ _ => rfl) ?_
                    have n0 : ¬ t_is (g 74) f (e - f) (t_nm 0) = 1 := fun z => ((t_is_4 (by omega)).mp z).1 hc0
                    have n1 : ¬ t_is (g 74) f (e - f) (t_nm 1) = 1 := fun z => ((t_is_4 (by omega)).mp z).1 hc1
                    have n2 : ¬ t_is (g 74) f (e - f) (t_nm 2) = 1 := fun z => ((t_is_5 (by omega)).mp z).2 hc3
                    have n3 : ¬ t_is (g 74) f (e - f) (t_nm 3) = 1 := fun z => ((t_is_4 (by omega)).mp z).1 hc4
                    have n4 : ¬ t_is (g 74) f (e - f) (t_nm 4) = 1 := fun z => ((t_is_2 (by omega)).mp z) hc5
                    have n5 : ¬ t_is (g 74) f (e - f) (t_nm 5) = 1 := fun z => ((t_is_5 (by omega)).mp z).1 hc6
                    have y6 : t_is (g 74) f (e - f) (t_nm 6) = 1 := (t_is_4 (by omega)).mpr ⟨hc7, hc8⟩
                    unfold t_ln
                    rw [if_neg n0, if_neg n1, if_neg n2, if_neg n3, if_neg n4, if_neg n5, if_pos y6]
              · refine q_step 4 138 [(0, .ref 70)] [.int (108 : Int32), .int (108 : Int32), .int (105 : Int32), .ref 70] g u (fun big n0 => sg_nm_91 big n0 g u) ?_
                refine q_call (M2 := 158) (rest := []) (r_ends g u hs h160 hf he hfe hes _ _ _) (fun _ _ => rfl) ?_
                refine q_if_eq rfl (fun (hc7 : (t_p2 (g 74) s f (105 : Int32) (108 : Int32) (108 : Int32)) = 0) => ?_) (fun (hc7 : ¬ ((t_p2 (g 74) s f (105 : Int32) (108 : Int32) (108 : Int32)) = 0)) => ?_)
                · refine q_step 4 154 [(0, .ref 70)] [.int (111 : Int32), .int (103 : Int32), .int (4 : Int32), .ref 70] g u (fun big n0 => sg_nm_89 big n0 g u) ?_
                  refine q_call (M2 := 157) (rest := []) (r_is g u hs h160 hf he hfe hes 4 (by omega) _ _) (fun _ _ => rfl) ?_
                  refine q_if_eq rfl (fun (hc8 : (t_p1 (g 74) s f (e - f) 4 (103 : Int32) (111 : Int32)) = 0) => ?_) (fun (hc8 : ¬ ((t_p1 (g 74) s f (e - f) 4 (103 : Int32) (111 : Int32)) = 0)) => ?_)
                  · refine q_ret 2 (some (.int (Int8.toInt32 (Int8.ofInt (-4)))), g, u) (fun _ _ => rfl) ?_
                    have n0 : ¬ t_is (g 74) f (e - f) (t_nm 0) = 1 := fun z => ((t_is_4 (by omega)).mp z).1 hc0
                    have n1 : ¬ t_is (g 74) f (e - f) (t_nm 1) = 1 := fun z => ((t_is_4 (by omega)).mp z).1 hc1
                    have n2 : ¬ t_is (g 74) f (e - f) (t_nm 2) = 1 := fun z => ((t_is_5 (by omega)).mp z).2 hc3
                    have n3 : ¬ t_is (g 74) f (e - f) (t_nm 3) = 1 := fun z => ((t_is_4 (by omega)).mp z).1 hc4
                    have n4 : ¬ t_is (g 74) f (e - f) (t_nm 4) = 1 := fun z => ((t_is_2 (by omega)).mp z) hc5
                    have n5 : ¬ t_is (g 74) f (e - f) (t_nm 5) = 1 := fun z => ((t_is_5 (by omega)).mp z).2 hc7
                    have n6 : ¬ t_is (g 74) f (e - f) (t_nm 6) = 1 := fun z => ((t_is_4 (by omega)).mp z).1 hc8
                    unfold t_ln
                    rw [if_neg n0, if_neg n1, if_neg n2, if_neg n3, if_neg n4, if_neg n5, if_neg n6]
                    rfl
                  · refine q_step 4 166 [(0, .ref 70)] [.int (0 : Int32), .int (108 : Int32), .int (97 : Int32), .ref 70] g u (fun big n0 => sg_nm_90 big n0 g u) ?_
                    refine q_call (M2 := 158) (rest := []) (r_ends g u hs h160 hf he hfe hes _ _ _) (fun _ _ => rfl) ?_
                    refine q_if_eq rfl (fun (hc9 : (t_p2 (g 74) s f (97 : Int32) (108 : Int32) (0 : Int32)) = 0) => ?_) (fun (hc9 : ¬ ((t_p2 (g 74) s f (97 : Int32) (108 : Int32) (0 : Int32)) = 0)) => ?_)
                    · refine q_ret 2 (some (.int (Int8.toInt32 (Int8.ofInt (-4)))), g, u) (fun _ _ => rfl) ?_
                      have n0 : ¬ t_is (g 74) f (e - f) (t_nm 0) = 1 := fun z => ((t_is_4 (by omega)).mp z).1 hc0
                      have n1 : ¬ t_is (g 74) f (e - f) (t_nm 1) = 1 := fun z => ((t_is_4 (by omega)).mp z).1 hc1
                      have n2 : ¬ t_is (g 74) f (e - f) (t_nm 2) = 1 := fun z => ((t_is_5 (by omega)).mp z).2 hc3
                      have n3 : ¬ t_is (g 74) f (e - f) (t_nm 3) = 1 := fun z => ((t_is_4 (by omega)).mp z).1 hc4
                      have n4 : ¬ t_is (g 74) f (e - f) (t_nm 4) = 1 := fun z => ((t_is_2 (by omega)).mp z) hc5
                      have n5 : ¬ t_is (g 74) f (e - f) (t_nm 5) = 1 := fun z => ((t_is_5 (by omega)).mp z).2 hc7
                      have n6 : ¬ t_is (g 74) f (e - f) (t_nm 6) = 1 := fun z => ((t_is_4 (by omega)).mp z).2 hc9
                      unfold t_ln
                      rw [if_neg n0, if_neg n1, if_neg n2, if_neg n3, if_neg n4, if_neg n5, if_neg n6]
                      rfl
                    · refine q_ret 3 (some (.int (6 : Int32)), g, u) (fun _ _ => rfl) ?_
                      have n0 : ¬ t_is (g 74) f (e - f) (t_nm 0) = 1 := fun z => ((t_is_4 (by omega)).mp z).1 hc0
                      have n1 : ¬ t_is (g 74) f (e - f) (t_nm 1) = 1 := fun z => ((t_is_4 (by omega)).mp z).1 hc1
                      have n2 : ¬ t_is (g 74) f (e - f) (t_nm 2) = 1 := fun z => ((t_is_5 (by omega)).mp z).2 hc3
                      have n3 : ¬ t_is (g 74) f (e - f) (t_nm 3) = 1 := fun z => ((t_is_4 (by omega)).mp z).1 hc4
                      have n4 : ¬ t_is (g 74) f (e - f) (t_nm 4) = 1 := fun z => ((t_is_2 (by omega)).mp z) hc5
                      have n5 : ¬ t_is (g 74) f (e - f) (t_nm 5) = 1 := fun z => ((t_is_5 (by omega)).mp z).2 hc7
                      have y6 : t_is (g 74) f (e - f) (t_nm 6) = 1 := (t_is_4 (by omega)).mpr ⟨hc8, hc9⟩
                      unfold t_ln
                      rw [if_neg n0, if_neg n1, if_neg n2, if_neg n3, if_neg n4, if_neg n5, if_pos y6]
                · refine q_ret 3 (some (.int (5 : Int32)), g, u) (fun _ _ => rfl) ?_
                  have n0 : ¬ t_is (g 74) f (e - f) (t_nm 0) = 1 := fun z => ((t_is_4 (by omega)).mp z).1 hc0
                  have n1 : ¬ t_is (g 74) f (e - f) (t_nm 1) = 1 := fun z => ((t_is_4 (by omega)).mp z).1 hc1
                  have n2 : ¬ t_is (g 74) f (e - f) (t_nm 2) = 1 := fun z => ((t_is_5 (by omega)).mp z).2 hc3
                  have n3 : ¬ t_is (g 74) f (e - f) (t_nm 3) = 1 := fun z => ((t_is_4 (by omega)).mp z).1 hc4
                  have n4 : ¬ t_is (g 74) f (e - f) (t_nm 4) = 1 := fun z => ((t_is_2 (by omega)).mp z) hc5
                  have y5 : t_is (g 74) f (e - f) (t_nm 5) = 1 := (t_is_5 (by omega)).mpr ⟨hc6, hc7⟩
                  unfold t_ln
                  rw [if_neg n0, if_neg n1, if_neg n2, if_neg n3, if_neg n4, if_pos y5]
            · refine q_ret 2 (some (.int (4 : Int32)), g, u) (fun _ _ => rfl) ?_
              have n0 : ¬ t_is (g 74) f (e - f) (t_nm 0) = 1 := fun z => ((t_is_4 (by omega)).mp z).1 hc0
              have n1 : ¬ t_is (g 74) f (e - f) (t_nm 1) = 1 := fun z => ((t_is_4 (by omega)).mp z).1 hc1
              have n2 : ¬ t_is (g 74) f (e - f) (t_nm 2) = 1 := fun z => ((t_is_5 (by omega)).mp z).2 hc3
              have n3 : ¬ t_is (g 74) f (e - f) (t_nm 3) = 1 := fun z => ((t_is_4 (by omega)).mp z).1 hc4
              have y4 : t_is (g 74) f (e - f) (t_nm 4) = 1 := (t_is_2 (by omega)).mpr hc5
              unfold t_ln
              rw [if_neg n0, if_neg n1, if_neg n2, if_neg n3, if_pos y4]
          · refine q_step 4 97 [(0, .ref 70)] [.int (0 : Int32), .int (108 : Int32), .int (108 : Int32), .ref 70] g u (fun big n0 => sg_nm_92 big n0 g u) ?_
            refine q_call (M2 := 158) (rest := []) (r_ends g u hs h160 hf he hfe hes _ _ _) (fun _ _ => rfl) ?_
            refine q_if_eq rfl (fun (hc5 : (t_p2 (g 74) s f (108 : Int32) (108 : Int32) (0 : Int32)) = 0) => ?_) (fun (hc5 : ¬ ((t_p2 (g 74) s f (108 : Int32) (108 : Int32) (0 : Int32)) = 0)) => ?_)
            · refine q_step 4 111 [(0, .ref 70)] [.int (116 : Int32), .int (97 : Int32), .int (2 : Int32), .ref 70] g u (fun big n0 => sg_nm_87 big n0 g u) ?_
              refine q_call (M2 := 157) (rest := []) (r_is g u hs h160 hf he hfe hes 2 (by omega) _ _) (fun _ _ => rfl) ?_
              refine q_if_eq rfl (fun (hc6 : (t_p1 (g 74) s f (e - f) 2 (97 : Int32) (116 : Int32)) = 0) => ?_) (fun (hc6 : ¬ ((t_p1 (g 74) s f (e - f) 2 (97 : Int32) (116 : Int32)) = 0)) => ?_)
              · refine q_step 4 125 [(0, .ref 70)] [.int (116 : Int32), .int (115 : Int32), .int (5 : Int32), .ref 70] g u (fun big n0 => sg_nm_88 big n0 g u) ?_
                refine q_call (M2 := 157) (rest := []) (r_is g u hs h160 hf he hfe hes 5 (by omega) _ _) (fun _ _ => rfl) ?_
                refine q_if_eq rfl (fun (hc7 : (t_p1 (g 74) s f (e - f) 5 (115 : Int32) (116 : Int32)) = 0) => ?_) (fun (hc7 : ¬ ((t_p1 (g 74) s f (e - f) 5 (115 : Int32) (116 : Int32)) = 0)) => ?_)
                · refine q_step 4 154 [(0, .ref 70)] [.int (111 : Int32), .int (103 : Int32), .int (4 : Int32), .ref 70] g u (fun big n0 => sg_nm_89 big n0 g u) ?_
                  refine q_call (M2 := 157) (rest := []) (r_is g u hs h160 hf he hfe hes 4 (by omega) _ _) (fun _ _ => rfl) ?_
                  refine q_if_eq rfl (fun (hc8 : (t_p1 (g 74) s f (e - f) 4 (103 : Int32) (111 : Int32)) = 0) => ?_) (fun (hc8 : ¬ ((t_p1 (g 74) s f (e - f) 4 (103 : Int32) (111 : Int32)) = 0)) => ?_)
                  · refine q_ret 2 (some (.int (Int8.toInt32 (Int8.ofInt (-4)))), g, u) (fun _ _ => rfl) ?_
                    have n0 : ¬ t_is (g 74) f (e - f) (t_nm 0) = 1 := fun z => ((t_is_4 (by omega)).mp z).1 hc0
                    have n1 : ¬ t_is (g 74) f (e - f) (t_nm 1) = 1 := fun z => ((t_is_4 (by omega)).mp z).1 hc1
                    have n2 : ¬ t_is (g 74) f (e - f) (t_nm 2) = 1 := fun z => ((t_is_5 (by omega)).mp z).2 hc3
                    have n3 : ¬ t_is (g 74) f (e - f) (t_nm 3) = 1 := fun z => ((t_is_4 (by omega)).mp z).2 hc5
                    have n4 : ¬ t_is (g 74) f (e - f) (t_nm 4) = 1 := fun z => ((t_is_2 (by omega)).mp z) hc6
                    have n5 : ¬ t_is (g 74) f (e - f) (t_nm 5) = 1 := fun z => ((t_is_5 (by omega)).mp z).1 hc7
                    have n6 : ¬ t_is (g 74) f (e - f) (t_nm 6) = 1 := fun z => ((t_is_4 (by omega)).mp z).1 hc8
                    unfold t_ln
                    rw [if_neg n0, if_neg n1, if_neg n2, if_neg n3, if_neg n4, if_neg n5, if_neg n6]
                    rfl
                  · refine q_step 4 166 [(0, .ref 70)] [.int (0 : Int32), .int (108 : Int32), .int (97 : Int32), .ref 70] g u (fun big n0 => sg_nm_90 big n0 g u) ?_
                    refine q_call (M2 := 158) (rest := []) (r_ends g u hs h160 hf he hfe hes _ _ _) (fun _ _ => rfl) ?_
                    refine q_if_eq rfl (fun (hc9 : (t_p2 (g 74) s f (97 : Int32) (108 : Int32) (0 : Int32)) = 0) => ?_) (fun (hc9 : ¬ ((t_p2 (g 74) s f (97 : Int32) (108 : Int32) (0 : Int32)) = 0)) => ?_)
                    · refine q_ret 2 (some (.int (Int8.toInt32 (Int8.ofInt (-4)))), g, u) (fun _ _ => rfl) ?_
                      have n0 : ¬ t_is (g 74) f (e - f) (t_nm 0) = 1 := fun z => ((t_is_4 (by omega)).mp z).1 hc0
                      have n1 : ¬ t_is (g 74) f (e - f) (t_nm 1) = 1 := fun z => ((t_is_4 (by omega)).mp z).1 hc1
                      have n2 : ¬ t_is (g 74) f (e - f) (t_nm 2) = 1 := fun z => ((t_is_5 (by omega)).mp z).2 hc3
                      have n3 : ¬ t_is (g 74) f (e - f) (t_nm 3) = 1 := fun z => ((t_is_4 (by omega)).mp z).2 hc5
                      have n4 : ¬ t_is (g 74) f (e - f) (t_nm 4) = 1 := fun z => ((t_is_2 (by omega)).mp z) hc6
                      have n5 : ¬ t_is (g 74) f (e - f) (t_nm 5) = 1 := fun z => ((t_is_5 (by omega)).mp z).1 hc7
                      have n6 : ¬ t_is (g 74) f (e - f) (t_nm 6) = 1 := fun z => ((t_is_4 (by omega)).mp z).2 hc9
                      unfold t_ln
                      rw [if_neg n0, if_neg n1, if_neg n2, if_neg n3, if_neg n4, if_neg n5, if_neg n6]
                      rfl
                    · refine q_ret 3 (some (.int (6 : Int32)), g, u) (fun _ _ => rfl) ?_
                      have n0 : ¬ t_is (g 74) f (e - f) (t_nm 0) = 1 := fun z => ((t_is_4 (by omega)).mp z).1 hc0
                      have n1 : ¬ t_is (g 74) f (e - f) (t_nm 1) = 1 := fun z => ((t_is_4 (by omega)).mp z).1 hc1
                      have n2 : ¬ t_is (g 74) f (e - f) (t_nm 2) = 1 := fun z => ((t_is_5 (by omega)).mp z).2 hc3
                      have n3 : ¬ t_is (g 74) f (e - f) (t_nm 3) = 1 := fun z => ((t_is_4 (by omega)).mp z).2 hc5
                      have n4 : ¬ t_is (g 74) f (e - f) (t_nm 4) = 1 := fun z => ((t_is_2 (by omega)).mp z) hc6
                      have n5 : ¬ t_is (g 74) f (e - f) (t_nm 5) = 1 := fun z => ((t_is_5 (by omega)).mp z).1 hc7
                      have y6 : t_is (g 74) f (e - f) (t_nm 6) = 1 := (t_is_4 (by omega)).mpr ⟨hc8, hc9⟩
                      unfold t_ln
                      rw [if_neg n0, if_neg n1, if_neg n2, if_neg n3, if_neg n4, if_neg n5, if_pos y6]
                · refine q_step 4 138 [(0, .ref 70)] [.int (108 : Int32), .int (108 : Int32), .int (105 : Int32), .ref 70] g u (fun big n0 => sg_nm_91 big n0 g u) ?_
                  refine q_call (M2 := 158) (rest := []) (r_ends g u hs h160 hf he hfe hes _ _ _) (fun _ _ => rfl) ?_
                  refine q_if_eq rfl (fun (hc8 : (t_p2 (g 74) s f (105 : Int32) (108 : Int32) (108 : Int32)) = 0) => ?_) (fun (hc8 : ¬ ((t_p2 (g 74) s f (105 : Int32) (108 : Int32) (108 : Int32)) = 0)) => ?_)
                  · refine q_step 4 154 [(0, .ref 70)] [.int (111 : Int32), .int (103 : Int32), .int (4 : Int32), .ref 70] g u (fun big n0 => sg_nm_89 big n0 g u) ?_
                    refine q_call (M2 := 157) (rest := []) (r_is g u hs h160 hf he hfe hes 4 (by omega) _ _) (fun _ _ => rfl) ?_
                    refine q_if_eq rfl (fun (hc9 : (t_p1 (g 74) s f (e - f) 4 (103 : Int32) (111 : Int32)) = 0) => ?_) (fun (hc9 : ¬ ((t_p1 (g 74) s f (e - f) 4 (103 : Int32) (111 : Int32)) = 0)) => ?_)
                    · refine q_ret 2 (some (.int (Int8.toInt32 (Int8.ofInt (-4)))), g, u) (fun _ _ => rfl) ?_
                      have n0 : ¬ t_is (g 74) f (e - f) (t_nm 0) = 1 := fun z => ((t_is_4 (by omega)).mp z).1 hc0
                      have n1 : ¬ t_is (g 74) f (e - f) (t_nm 1) = 1 := fun z => ((t_is_4 (by omega)).mp z).1 hc1
                      have n2 : ¬ t_is (g 74) f (e - f) (t_nm 2) = 1 := fun z => ((t_is_5 (by omega)).mp z).2 hc3
                      have n3 : ¬ t_is (g 74) f (e - f) (t_nm 3) = 1 := fun z => ((t_is_4 (by omega)).mp z).2 hc5
                      have n4 : ¬ t_is (g 74) f (e - f) (t_nm 4) = 1 := fun z => ((t_is_2 (by omega)).mp z) hc6
                      have n5 : ¬ t_is (g 74) f (e - f) (t_nm 5) = 1 := fun z => ((t_is_5 (by omega)).mp z).2 hc8
                      have n6 : ¬ t_is (g 74) f (e - f) (t_nm 6) = 1 := fun z => ((t_is_4 (by omega)).mp z).1 hc9
                      unfold t_ln
                      rw [if_neg n0, if_neg n1, if_neg n2, if_neg n3, if_neg n4, if_neg n5, if_neg n6]
                      rfl
                    · refine q_step 4 166 [(0, .ref 70)] [.int (0 : Int32), .int (108 : Int32), .int (97 : Int32), .ref 70] g u (fun big n0 => sg_nm_90 big n0 g u) ?_
                      refine q_call (M2 := 158) (rest := []) (r_ends g u hs h160 hf he hfe hes _ _ _) (fun _ _ => rfl) ?_
                      refine q_if_eq rfl (fun (hc10 : (t_p2 (g 74) s f (97 : Int32) (108 : Int32) (0 : Int32)) = 0) => ?_) (fun (hc10 : ¬ ((t_p2 (g 74) s f (97 : Int32) (108 : Int32) (0 : Int32)) = 0)) => ?_)
                      · refine q_ret 2 (some (.int (Int8.toInt32 (Int8.ofInt (-4)))), g, u) (fun _ _ => rfl) ?_
                        have n0 : ¬ t_is (g 74) f (e - f) (t_nm 0) = 1 := fun z => ((t_is_4 (by omega)).mp z).1 hc0
                        have n1 : ¬ t_is (g 74) f (e - f) (t_nm 1) = 1 := fun z => ((t_is_4 (by omega)).mp z).1 hc1
                        have n2 : ¬ t_is (g 74) f (e - f) (t_nm 2) = 1 := fun z => ((t_is_5 (by omega)).mp z).2 hc3
                        have n3 : ¬ t_is (g 74) f (e - f) (t_nm 3) = 1 := fun z => ((t_is_4 (by omega)).mp z).2 hc5
                        have n4 : ¬ t_is (g 74) f (e - f) (t_nm 4) = 1 := fun z => ((t_is_2 (by omega)).mp z) hc6
                        have n5 : ¬ t_is (g 74) f (e - f) (t_nm 5) = 1 := fun z => ((t_is_5 (by omega)).mp z).2 hc8
                        have n6 : ¬ t_is (g 74) f (e - f) (t_nm 6) = 1 := fun z => ((t_is_4 (by omega)).mp z).2 hc10
                        unfold t_ln
                        rw [if_neg n0, if_neg n1, if_neg n2, if_neg n3, if_neg n4, if_neg n5, if_neg n6]
                        rfl
                      · refine q_ret 3 (some (.int (6 : Int32)), g, u) (fun _ _ => rfl) ?_
                        have n0 : ¬ t_is (g 74) f (e - f) (t_nm 0) = 1 := fun z => ((t_is_4 (by omega)).mp z).1 hc0
                        have n1 : ¬ t_is (g 74) f (e - f) (t_nm 1) = 1 := fun z => ((t_is_4 (by omega)).mp z).1 hc1
                        have n2 : ¬ t_is (g 74) f (e - f) (t_nm 2) = 1 := fun z => ((t_is_5 (by omega)).mp z).2 hc3
                        have n3 : ¬ t_is (g 74) f (e - f) (t_nm 3) = 1 := fun z => ((t_is_4 (by omega)).mp z).2 hc5
                        have n4 : ¬ t_is (g 74) f (e - f) (t_nm 4) = 1 := fun z => ((t_is_2 (by omega)).mp z) hc6
                        have n5 : ¬ t_is (g 74) f (e - f) (t_nm 5) = 1 := fun z => ((t_is_5 (by omega)).mp z).2 hc8
                        have y6 : t_is (g 74) f (e - f) (t_nm 6) = 1 := (t_is_4 (by omega)).mpr ⟨hc9, hc10⟩
                        unfold t_ln
                        rw [if_neg n0, if_neg n1, if_neg n2, if_neg n3, if_neg n4, if_neg n5, if_pos y6]
                  · refine q_ret 3 (some (.int (5 : Int32)), g, u) (fun _ _ => rfl) ?_
                    have n0 : ¬ t_is (g 74) f (e - f) (t_nm 0) = 1 := fun z => ((t_is_4 (by omega)).mp z).1 hc0
                    have n1 : ¬ t_is (g 74) f (e - f) (t_nm 1) = 1 := fun z => ((t_is_4 (by omega)).mp z).1 hc1
                    have n2 : ¬ t_is (g 74) f (e - f) (t_nm 2) = 1 := fun z => ((t_is_5 (by omega)).mp z).2 hc3
                    have n3 : ¬ t_is (g 74) f (e - f) (t_nm 3) = 1 := fun z => ((t_is_4 (by omega)).mp z).2 hc5
                    have n4 : ¬ t_is (g 74) f (e - f) (t_nm 4) = 1 := fun z => ((t_is_2 (by omega)).mp z) hc6
                    have y5 : t_is (g 74) f (e - f) (t_nm 5) = 1 := (t_is_5 (by omega)).mpr ⟨hc7, hc8⟩
                    unfold t_ln
                    rw [if_neg n0, if_neg n1, if_neg n2, if_neg n3, if_neg n4, if_pos y5]
              · refine q_ret 2 (some (.int (4 : Int32)), g, u) (fun _ _ => rfl) ?_
                have n0 : ¬ t_is (g 74) f (e - f) (t_nm 0) = 1 := fun z => ((t_is_4 (by omega)).mp z).1 hc0
                have n1 : ¬ t_is (g 74) f (e - f) (t_nm 1) = 1 := fun z => ((t_is_4 (by omega)).mp z).1 hc1
                have n2 : ¬ t_is (g 74) f (e - f) (t_nm 2) = 1 := fun z => ((t_is_5 (by omega)).mp z).2 hc3
                have n3 : ¬ t_is (g 74) f (e - f) (t_nm 3) = 1 := fun z => ((t_is_4 (by omega)).mp z).2 hc5
                have y4 : t_is (g 74) f (e - f) (t_nm 4) = 1 := (t_is_2 (by omega)).mpr hc6
                unfold t_ln
                rw [if_neg n0, if_neg n1, if_neg n2, if_neg n3, if_pos y4]
            · refine q_ret 2 (some (.int (3 : Int32)), g, u) (fun _ _ => rfl) ?_
              have n0 : ¬ t_is (g 74) f (e - f) (t_nm 0) = 1 := fun z => ((t_is_4 (by omega)).mp z).1 hc0
              have n1 : ¬ t_is (g 74) f (e - f) (t_nm 1) = 1 := fun z => ((t_is_4 (by omega)).mp z).1 hc1
              have n2 : ¬ t_is (g 74) f (e - f) (t_nm 2) = 1 := fun z => ((t_is_5 (by omega)).mp z).2 hc3
              have y3 : t_is (g 74) f (e - f) (t_nm 3) = 1 := (t_is_4 (by omega)).mpr ⟨hc4, hc5⟩
              unfold t_ln
              rw [if_neg n0, if_neg n1, if_neg n2, if_pos y3]
        · refine q_ret 2 (some (.int (2 : Int32)), g, u) (fun _ _ => rfl) ?_
          have n0 : ¬ t_is (g 74) f (e - f) (t_nm 0) = 1 := fun z => ((t_is_4 (by omega)).mp z).1 hc0
          have n1 : ¬ t_is (g 74) f (e - f) (t_nm 1) = 1 := fun z => ((t_is_4 (by omega)).mp z).1 hc1
          have y2 : t_is (g 74) f (e - f) (t_nm 2) = 1 := (t_is_5 (by omega)).mpr ⟨hc2, hc3⟩
          unfold t_ln
          rw [if_neg n0, if_neg n1, if_pos y2]
    · refine q_step 4 44 [(0, .ref 70)] [.int (0 : Int32), .int (108 : Int32), .int (108 : Int32), .ref 70] g u (fun big n0 => sg_nm_94 big n0 g u) ?_
      refine q_call (M2 := 158) (rest := []) (r_ends g u hs h160 hf he hfe hes _ _ _) (fun _ _ => rfl) ?_
      refine q_if_eq rfl (fun (hc2 : (t_p2 (g 74) s f (108 : Int32) (108 : Int32) (0 : Int32)) = 0) => ?_) (fun (hc2 : ¬ ((t_p2 (g 74) s f (108 : Int32) (108 : Int32) (0 : Int32)) = 0)) => ?_)
      · refine q_step 4 58 [(0, .ref 70)] [.int (114 : Int32), .int (112 : Int32), .int (5 : Int32), .ref 70] g u (fun big n0 => sg_nm_85 big n0 g u) ?_
        refine q_call (M2 := 157) (rest := []) (r_is g u hs h160 hf he hfe hes 5 (by omega) _ _) (fun _ _ => rfl) ?_
        refine q_if_eq rfl (fun (hc3 : (t_p1 (g 74) s f (e - f) 5 (112 : Int32) (114 : Int32)) = 0) => ?_) (fun (hc3 : ¬ ((t_p1 (g 74) s f (e - f) 5 (112 : Int32) (114 : Int32)) = 0)) => ?_)
        · refine q_step 4 85 [(0, .ref 70)] [.int (97 : Int32), .int (119 : Int32), .int (4 : Int32), .ref 70] g u (fun big n0 => sg_nm_86 big n0 g u) ?_
          refine q_call (M2 := 157) (rest := []) (r_is g u hs h160 hf he hfe hes 4 (by omega) _ _) (fun _ _ => rfl) ?_
          refine q_if_eq rfl (fun (hc4 : (t_p1 (g 74) s f (e - f) 4 (119 : Int32) (97 : Int32)) = 0) => ?_) (fun (hc4 : ¬ ((t_p1 (g 74) s f (e - f) 4 (119 : Int32) (97 : Int32)) = 0)) => ?_)
          · refine q_step 4 111 [(0, .ref 70)] [.int (116 : Int32), .int (97 : Int32), .int (2 : Int32), .ref 70] g u (fun big n0 => sg_nm_87 big n0 g u) ?_
            refine q_call (M2 := 157) (rest := []) (r_is g u hs h160 hf he hfe hes 2 (by omega) _ _) (fun _ _ => rfl) ?_
            refine q_if_eq rfl (fun (hc5 : (t_p1 (g 74) s f (e - f) 2 (97 : Int32) (116 : Int32)) = 0) => ?_) (fun (hc5 : ¬ ((t_p1 (g 74) s f (e - f) 2 (97 : Int32) (116 : Int32)) = 0)) => ?_)
            · refine q_step 4 125 [(0, .ref 70)] [.int (116 : Int32), .int (115 : Int32), .int (5 : Int32), .ref 70] g u (fun big n0 => sg_nm_88 big n0 g u) ?_
              refine q_call (M2 := 157) (rest := []) (r_is g u hs h160 hf he hfe hes 5 (by omega) _ _) (fun _ _ => rfl) ?_
              refine q_if_eq rfl (fun (hc6 : (t_p1 (g 74) s f (e - f) 5 (115 : Int32) (116 : Int32)) = 0) => ?_) (fun (hc6 : ¬ ((t_p1 (g 74) s f (e - f) 5 (115 : Int32) (116 : Int32)) = 0)) => ?_)
              · refine q_step 4 154 [(0, .ref 70)] [.int (111 : Int32), .int (103 : Int32), .int (4 : Int32), .ref 70] g u (fun big n0 => sg_nm_89 big n0 g u) ?_
                refine q_call (M2 := 157) (rest := []) (r_is g u hs h160 hf he hfe hes 4 (by omega) _ _) (fun _ _ => rfl) ?_
                refine q_if_eq rfl (fun (hc7 : (t_p1 (g 74) s f (e - f) 4 (103 : Int32) (111 : Int32)) = 0) => ?_) (fun (hc7 : ¬ ((t_p1 (g 74) s f (e - f) 4 (103 : Int32) (111 : Int32)) = 0)) => ?_)
                · refine q_ret 2 (some (.int (Int8.toInt32 (Int8.ofInt (-4)))), g, u) (fun _ _ => rfl) ?_
                  have n0 : ¬ t_is (g 74) f (e - f) (t_nm 0) = 1 := fun z => ((t_is_4 (by omega)).mp z).1 hc0
                  have n1 : ¬ t_is (g 74) f (e - f) (t_nm 1) = 1 := fun z => ((t_is_4 (by omega)).mp z).2 hc2
                  have n2 : ¬ t_is (g 74) f (e - f) (t_nm 2) = 1 := fun z => ((t_is_5 (by omega)).mp z).1 hc3
                  have n3 : ¬ t_is (g 74) f (e - f) (t_nm 3) = 1 := fun z => ((t_is_4 (by omega)).mp z).1 hc4
                  have n4 : ¬ t_is (g 74) f (e - f) (t_nm 4) = 1 := fun z => ((t_is_2 (by omega)).mp z) hc5
                  have n5 : ¬ t_is (g 74) f (e - f) (t_nm 5) = 1 := fun z => ((t_is_5 (by omega)).mp z).1 hc6
                  have n6 : ¬ t_is (g 74) f (e - f) (t_nm 6) = 1 := fun z => ((t_is_4 (by omega)).mp z).1 hc7
                  unfold t_ln
                  rw [if_neg n0, if_neg n1, if_neg n2, if_neg n3, if_neg n4, if_neg n5, if_neg n6]
                  rfl
                · refine q_step 4 166 [(0, .ref 70)] [.int (0 : Int32), .int (108 : Int32), .int (97 : Int32), .ref 70] g u (fun big n0 => sg_nm_90 big n0 g u) ?_
                  refine q_call (M2 := 158) (rest := []) (r_ends g u hs h160 hf he hfe hes _ _ _) (fun _ _ => rfl) ?_
                  refine q_if_eq rfl (fun (hc8 : (t_p2 (g 74) s f (97 : Int32) (108 : Int32) (0 : Int32)) = 0) => ?_) (fun (hc8 : ¬ ((t_p2 (g 74) s f (97 : Int32) (108 : Int32) (0 : Int32)) = 0)) => ?_)
                  · refine q_ret 2 (some (.int (Int8.toInt32 (Int8.ofInt (-4)))), g, u) (fun _ _ => rfl) ?_
                    have n0 : ¬ t_is (g 74) f (e - f) (t_nm 0) = 1 := fun z => ((t_is_4 (by omega)).mp z).1 hc0
                    have n1 : ¬ t_is (g 74) f (e - f) (t_nm 1) = 1 := fun z => ((t_is_4 (by omega)).mp z).2 hc2
                    have n2 : ¬ t_is (g 74) f (e - f) (t_nm 2) = 1 := fun z => ((t_is_5 (by omega)).mp z).1 hc3
                    have n3 : ¬ t_is (g 74) f (e - f) (t_nm 3) = 1 := fun z => ((t_is_4 (by omega)).mp z).1 hc4
                    have n4 : ¬ t_is (g 74) f (e - f) (t_nm 4) = 1 := fun z => ((t_is_2 (by omega)).mp z) hc5
                    have n5 : ¬ t_is (g 74) f (e - f) (t_nm 5) = 1 := fun z => ((t_is_5 (by omega)).mp z).1 hc6
                    have n6 : ¬ t_is (g 74) f (e - f) (t_nm 6) = 1 := fun z => ((t_is_4 (by omega)).mp z).2 hc8
                    unfold t_ln
                    rw [if_neg n0, if_neg n1, if_neg n2, if_neg n3, if_neg n4, if_neg n5, if_neg n6]
                    rfl
                  · refine q_ret 3 (some (.int (6 : Int32)), g, u) (fun _ _ => rfl) ?_
                    have n0 : ¬ t_is (g 74) f (e - f) (t_nm 0) = 1 := fun z => ((t_is_4 (by omega)).mp z).1 hc0
                    have n1 : ¬ t_is (g 74) f (e - f) (t_nm 1) = 1 := fun z => ((t_is_4 (by omega)).mp z).2 hc2
                    have n2 : ¬ t_is (g 74) f (e - f) (t_nm 2) = 1 := fun z => ((t_is_5 (by omega)).mp z).1 hc3
                    have n3 : ¬ t_is (g 74) f (e - f) (t_nm 3) = 1 := fun z => ((t_is_4 (by omega)).mp z).1 hc4
                    have n4 : ¬ t_is (g 74) f (e - f) (t_nm 4) = 1 := fun z => ((t_is_2 (by omega)).mp z) hc5
                    have n5 : ¬ t_is (g 74) f (e - f) (t_nm 5) = 1 := fun z => ((t_is_5 (by omega)).mp z).1 hc6
                    have y6 : t_is (g 74) f (e - f) (t_nm 6) = 1 := (t_is_4 (by omega)).mpr ⟨hc7, hc8⟩
                    unfold t_ln
                    rw [if_neg n0, if_neg n1, if_neg n2, if_neg n3, if_neg n4, if_neg n5, if_pos y6]
              · refine q_step 4 138 [(0, .ref 70)] [.int (108 : Int32), .int (108 : Int32), .int (105 : Int32), .ref 70] g u (fun big n0 => sg_nm_91 big n0 g u) ?_
                refine q_call (M2 := 158) (rest := []) (r_ends g u hs h160 hf he hfe hes _ _ _) (fun _ _ => rfl) ?_
                refine q_if_eq rfl (fun (hc7 : (t_p2 (g 74) s f (105 : Int32) (108 : Int32) (108 : Int32)) = 0) => ?_) (fun (hc7 : ¬ ((t_p2 (g 74) s f (105 : Int32) (108 : Int32) (108 : Int32)) = 0)) => ?_)
                · refine q_step 4 154 [(0, .ref 70)] [.int (111 : Int32), .int (103 : Int32), .int (4 : Int32), .ref 70] g u (fun big n0 => sg_nm_89 big n0 g u) ?_
                  refine q_call (M2 := 157) (rest := []) (r_is g u hs h160 hf he hfe hes 4 (by omega) _ _) (fun _ _ => rfl) ?_
                  refine q_if_eq rfl (fun (hc8 : (t_p1 (g 74) s f (e - f) 4 (103 : Int32) (111 : Int32)) = 0) => ?_) (fun (hc8 : ¬ ((t_p1 (g 74) s f (e - f) 4 (103 : Int32) (111 : Int32)) = 0)) => ?_)
                  · refine q_ret 2 (some (.int (Int8.toInt32 (Int8.ofInt (-4)))), g, u) (fun _ _ => rfl) ?_
                    have n0 : ¬ t_is (g 74) f (e - f) (t_nm 0) = 1 := fun z => ((t_is_4 (by omega)).mp z).1 hc0
                    have n1 : ¬ t_is (g 74) f (e - f) (t_nm 1) = 1 := fun z => ((t_is_4 (by omega)).mp z).2 hc2
                    have n2 : ¬ t_is (g 74) f (e - f) (t_nm 2) = 1 := fun z => ((t_is_5 (by omega)).mp z).1 hc3
                    have n3 : ¬ t_is (g 74) f (e - f) (t_nm 3) = 1 := fun z => ((t_is_4 (by omega)).mp z).1 hc4
                    have n4 : ¬ t_is (g 74) f (e - f) (t_nm 4) = 1 := fun z => ((t_is_2 (by omega)).mp z) hc5
                    have n5 : ¬ t_is (g 74) f (e - f) (t_nm 5) = 1 := fun z => ((t_is_5 (by omega)).mp z).2 hc7
                    have n6 : ¬ t_is (g 74) f (e - f) (t_nm 6) = 1 := fun z => ((t_is_4 (by omega)).mp z).1 hc8
                    unfold t_ln
                    rw [if_neg n0, if_neg n1, if_neg n2, if_neg n3, if_neg n4, if_neg n5, if_neg n6]
                    rfl
                  · refine q_step 4 166 [(0, .ref 70)] [.int (0 : Int32), .int (108 : Int32), .int (97 : Int32), .ref 70] g u (fun big n0 => sg_nm_90 big n0 g u) ?_
                    refine q_call (M2 := 158) (rest := []) (r_ends g u hs h160 hf he hfe hes _ _ _) (fun _ _ => rfl) ?_
                    refine q_if_eq rfl (fun (hc9 : (t_p2 (g 74) s f (97 : Int32) (108 : Int32) (0 : Int32)) = 0) => ?_) (fun (hc9 : ¬ ((t_p2 (g 74) s f (97 : Int32) (108 : Int32) (0 : Int32)) = 0)) => ?_)
                    · refine q_ret 2 (some (.int (Int8.toInt32 (Int8.ofInt (-4)))), g, u) (fun _ _ => rfl) ?_
                      have n0 : ¬ t_is (g 74) f (e - f) (t_nm 0) = 1 := fun z => ((t_is_4 (by omega)).mp z).1 hc0
                      have n1 : ¬ t_is (g 74) f (e - f) (t_nm 1) = 1 := fun z => ((t_is_4 (by omega)).mp z).2 hc2
                      have n2 : ¬ t_is (g 74) f (e - f) (t_nm 2) = 1 := fun z => ((t_is_5 (by omega)).mp z).1 hc3
                      have n3 : ¬ t_is (g 74) f (e - f) (t_nm 3) = 1 := fun z => ((t_is_4 (by omega)).mp z).1 hc4
                      have n4 : ¬ t_is (g 74) f (e - f) (t_nm 4) = 1 := fun z => ((t_is_2 (by omega)).mp z) hc5
                      have n5 : ¬ t_is (g 74) f (e - f) (t_nm 5) = 1 := fun z => ((t_is_5 (by omega)).mp z).2 hc7
                      have n6 : ¬ t_is (g 74) f (e - f) (t_nm 6) = 1 := fun z => ((t_is_4 (by omega)).mp z).2 hc9
                      unfold t_ln
                      rw [if_neg n0, if_neg n1, if_neg n2, if_neg n3, if_neg n4, if_neg n5, if_neg n6]
                      rfl
                    · refine q_ret 3 (some (.int (6 : Int32)), g, u) (fun _ _ => rfl) ?_
                      have n0 : ¬ t_is (g 74) f (e - f) (t_nm 0) = 1 := fun z => ((t_is_4 (by omega)).mp z).1 hc0
                      have n1 : ¬ t_is (g 74) f (e - f) (t_nm 1) = 1 := fun z => ((t_is_4 (by omega)).mp z).2 hc2
                      have n2 : ¬ t_is (g 74) f (e - f) (t_nm 2) = 1 := fun z => ((t_is_5 (by omega)).mp z).1 hc3
                      have n3 : ¬ t_is (g 74) f (e - f) (t_nm 3) = 1 := fun z => ((t_is_4 (by omega)).mp z).1 hc4
                      have n4 : ¬ t_is (g 74) f (e - f) (t_nm 4) = 1 := fun z => ((t_is_2 (by omega)).mp z) hc5
                      have n5 : ¬ t_is (g 74) f (e - f) (t_nm 5) = 1 := fun z => ((t_is_5 (by omega)).mp z).2 hc7
                      have y6 : t_is (g 74) f (e - f) (t_nm 6) = 1 := (t_is_4 (by omega)).mpr ⟨hc8, hc9⟩
                      unfold t_ln
                      rw [if_neg n0, if_neg n1, if_neg n2, if_neg n3, if_neg n4, if_neg n5, if_pos y6]
                · refine q_ret 3 (some (.int (5 : Int32)), g, u) (fun _ _ => rfl) ?_
                  have n0 : ¬ t_is (g 74) f (e - f) (t_nm 0) = 1 := fun z => ((t_is_4 (by omega)).mp z).1 hc0
                  have n1 : ¬ t_is (g 74) f (e - f) (t_nm 1) = 1 := fun z => ((t_is_4 (by omega)).mp z).2 hc2
                  have n2 : ¬ t_is (g 74) f (e - f) (t_nm 2) = 1 := fun z => ((t_is_5 (by omega)).mp z).1 hc3
                  have n3 : ¬ t_is (g 74) f (e - f) (t_nm 3) = 1 := fun z => ((t_is_4 (by omega)).mp z).1 hc4
                  have n4 : ¬ t_is (g 74) f (e - f) (t_nm 4) = 1 := fun z => ((t_is_2 (by omega)).mp z) hc5
                  have y5 : t_is (g 74) f (e - f) (t_nm 5) = 1 := (t_is_5 (by omega)).mpr ⟨hc6, hc7⟩
                  unfold t_ln
                  rw [if_neg n0, if_neg n1, if_neg n2, if_neg n3, if_neg n4, if_pos y5]
            · refine q_ret 2 (some (.int (4 : Int32)), g, u) (fun _ _ => rfl) ?_
              have n0 : ¬ t_is (g 74) f (e - f) (t_nm 0) = 1 := fun z => ((t_is_4 (by omega)).mp z).1 hc0
              have n1 : ¬ t_is (g 74) f (e - f) (t_nm 1) = 1 := fun z => ((t_is_4 (by omega)).mp z).2 hc2
              have n2 : ¬ t_is (g 74) f (e - f) (t_nm 2) = 1 := fun z => ((t_is_5 (by omega)).mp z).1 hc3
              have n3 : ¬ t_is (g 74) f (e - f) (t_nm 3) = 1 := fun z => ((t_is_4 (by omega)).mp z).1 hc4
              have y4 : t_is (g 74) f (e - f) (t_nm 4) = 1 := (t_is_2 (by omega)).mpr hc5
              unfold t_ln
              rw [if_neg n0, if_neg n1, if_neg n2, if_neg n3, if_pos y4]
          · refine q_step 4 97 [(0, .ref 70)] [.int (0 : Int32), .int (108 : Int32), .int (108 : Int32), .ref 70] g u (fun big n0 => sg_nm_92 big n0 g u) ?_
            refine q_call (M2 := 158) (rest := []) (r_ends g u hs h160 hf he hfe hes _ _ _) (fun _ _ => rfl) ?_
            refine q_if_eq rfl (fun (hc5 : (t_p2 (g 74) s f (108 : Int32) (108 : Int32) (0 : Int32)) = 0) => ?_) (fun (hc5 : ¬ ((t_p2 (g 74) s f (108 : Int32) (108 : Int32) (0 : Int32)) = 0)) => ?_)
            · refine q_step 4 111 [(0, .ref 70)] [.int (116 : Int32), .int (97 : Int32), .int (2 : Int32), .ref 70] g u (fun big n0 => sg_nm_87 big n0 g u) ?_
              refine q_call (M2 := 157) (rest := []) (r_is g u hs h160 hf he hfe hes 2 (by omega) _ _) (fun _ _ => rfl) ?_
              refine q_if_eq rfl (fun (hc6 : (t_p1 (g 74) s f (e - f) 2 (97 : Int32) (116 : Int32)) = 0) => ?_) (fun (hc6 : ¬ ((t_p1 (g 74) s f (e - f) 2 (97 : Int32) (116 : Int32)) = 0)) => ?_)
              · refine q_step 4 125 [(0, .ref 70)] [.int (116 : Int32), .int (115 : Int32), .int (5 : Int32), .ref 70] g u (fun big n0 => sg_nm_88 big n0 g u) ?_
                refine q_call (M2 := 157) (rest := []) (r_is g u hs h160 hf he hfe hes 5 (by omega) _ _) (fun _ _ => rfl) ?_
                refine q_if_eq rfl (fun (hc7 : (t_p1 (g 74) s f (e - f) 5 (115 : Int32) (116 : Int32)) = 0) => ?_) (fun (hc7 : ¬ ((t_p1 (g 74) s f (e - f) 5 (115 : Int32) (116 : Int32)) = 0)) => ?_)
                · refine q_step 4 154 [(0, .ref 70)] [.int (111 : Int32), .int (103 : Int32), .int (4 : Int32), .ref 70] g u (fun big n0 => sg_nm_89 big n0 g u) ?_
                  refine q_call (M2 := 157) (rest := []) (r_is g u hs h160 hf he hfe hes 4 (by omega) _ _) (fun _ _ => rfl) ?_
                  refine q_if_eq rfl (fun (hc8 : (t_p1 (g 74) s f (e - f) 4 (103 : Int32) (111 : Int32)) = 0) => ?_) (fun (hc8 : ¬ ((t_p1 (g 74) s f (e - f) 4 (103 : Int32) (111 : Int32)) = 0)) => ?_)
                  · refine q_ret 2 (some (.int (Int8.toInt32 (Int8.ofInt (-4)))), g, u) (fun _ _ => rfl) ?_
                    have n0 : ¬ t_is (g 74) f (e - f) (t_nm 0) = 1 := fun z => ((t_is_4 (by omega)).mp z).1 hc0
                    have n1 : ¬ t_is (g 74) f (e - f) (t_nm 1) = 1 := fun z => ((t_is_4 (by omega)).mp z).2 hc2
                    have n2 : ¬ t_is (g 74) f (e - f) (t_nm 2) = 1 := fun z => ((t_is_5 (by omega)).mp z).1 hc3
                    have n3 : ¬ t_is (g 74) f (e - f) (t_nm 3) = 1 := fun z => ((t_is_4 (by omega)).mp z).2 hc5
                    have n4 : ¬ t_is (g 74) f (e - f) (t_nm 4) = 1 := fun z => ((t_is_2 (by omega)).mp z) hc6
                    have n5 : ¬ t_is (g 74) f (e - f) (t_nm 5) = 1 := fun z => ((t_is_5 (by omega)).mp z).1 hc7
                    have n6 : ¬ t_is (g 74) f (e - f) (t_nm 6) = 1 := fun z => ((t_is_4 (by omega)).mp z).1 hc8
                    unfold t_ln
                    rw [if_neg n0, if_neg n1, if_neg n2, if_neg n3, if_neg n4, if_neg n5, if_neg n6]
                    rfl
                  · refine q_step 4 166 [(0, .ref 70)] [.int (0 : Int32), .int (108 : Int32), .int (97 : Int32), .ref 70] g u (fun big n0 => sg_nm_90 big n0 g u) ?_
                    refine q_call (M2 := 158) (rest := []) (r_ends g u hs h160 hf he hfe hes _ _ _) (fun _ _ => rfl) ?_
                    refine q_if_eq rfl (fun (hc9 : (t_p2 (g 74) s f (97 : Int32) (108 : Int32) (0 : Int32)) = 0) => ?_) (fun (hc9 : ¬ ((t_p2 (g 74) s f (97 : Int32) (108 : Int32) (0 : Int32)) = 0)) => ?_)
                    · refine q_ret 2 (some (.int (Int8.toInt32 (Int8.ofInt (-4)))), g, u) (fun _ _ => rfl) ?_
                      have n0 : ¬ t_is (g 74) f (e - f) (t_nm 0) = 1 := fun z => ((t_is_4 (by omega)).mp z).1 hc0
                      have n1 : ¬ t_is (g 74) f (e - f) (t_nm 1) = 1 := fun z => ((t_is_4 (by omega)).mp z).2 hc2
                      have n2 : ¬ t_is (g 74) f (e - f) (t_nm 2) = 1 := fun z => ((t_is_5 (by omega)).mp z).1 hc3
                      have n3 : ¬ t_is (g 74) f (e - f) (t_nm 3) = 1 := fun z => ((t_is_4 (by omega)).mp z).2 hc5
                      have n4 : ¬ t_is (g 74) f (e - f) (t_nm 4) = 1 := fun z => ((t_is_2 (by omega)).mp z) hc6
                      have n5 : ¬ t_is (g 74) f (e - f) (t_nm 5) = 1 := fun z => ((t_is_5 (by omega)).mp z).1 hc7
                      have n6 : ¬ t_is (g 74) f (e - f) (t_nm 6) = 1 := fun z => ((t_is_4 (by omega)).mp z).2 hc9
                      unfold t_ln
                      rw [if_neg n0, if_neg n1, if_neg n2, if_neg n3, if_neg n4, if_neg n5, if_neg n6]
                      rfl
                    · refine q_ret 3 (some (.int (6 : Int32)), g, u) (fun _ _ => rfl) ?_
                      have n0 : ¬ t_is (g 74) f (e - f) (t_nm 0) = 1 := fun z => ((t_is_4 (by omega)).mp z).1 hc0
                      have n1 : ¬ t_is (g 74) f (e - f) (t_nm 1) = 1 := fun z => ((t_is_4 (by omega)).mp z).2 hc2
                      have n2 : ¬ t_is (g 74) f (e - f) (t_nm 2) = 1 := fun z => ((t_is_5 (by omega)).mp z).1 hc3
                      have n3 : ¬ t_is (g 74) f (e - f) (t_nm 3) = 1 := fun z => ((t_is_4 (by omega)).mp z).2 hc5
                      have n4 : ¬ t_is (g 74) f (e - f) (t_nm 4) = 1 := fun z => ((t_is_2 (by omega)).mp z) hc6
                      have n5 : ¬ t_is (g 74) f (e - f) (t_nm 5) = 1 := fun z => ((t_is_5 (by omega)).mp z).1 hc7
                      have y6 : t_is (g 74) f (e - f) (t_nm 6) = 1 := (t_is_4 (by omega)).mpr ⟨hc8, hc9⟩
                      unfold t_ln
                      rw [if_neg n0, if_neg n1, if_neg n2, if_neg n3, if_neg n4, if_neg n5, if_pos y6]
                · refine q_step 4 138 [(0, .ref 70)] [.int (108 : Int32), .int (108 : Int32), .int (105 : Int32), .ref 70] g u (fun big n0 => sg_nm_91 big n0 g u) ?_
                  refine q_call (M2 := 158) (rest := []) (r_ends g u hs h160 hf he hfe hes _ _ _) (fun _ _ => rfl) ?_
                  refine q_if_eq rfl (fun (hc8 : (t_p2 (g 74) s f (105 : Int32) (108 : Int32) (108 : Int32)) = 0) => ?_) (fun (hc8 : ¬ ((t_p2 (g 74) s f (105 : Int32) (108 : Int32) (108 : Int32)) = 0)) => ?_)
                  · refine q_step 4 154 [(0, .ref 70)] [.int (111 : Int32), .int (103 : Int32), .int (4 : Int32), .ref 70] g u (fun big n0 => sg_nm_89 big n0 g u) ?_
                    refine q_call (M2 := 157) (rest := []) (r_is g u hs h160 hf he hfe hes 4 (by omega) _ _) (fun _ _ => rfl) ?_
                    refine q_if_eq rfl (fun (hc9 : (t_p1 (g 74) s f (e - f) 4 (103 : Int32) (111 : Int32)) = 0) => ?_) (fun (hc9 : ¬ ((t_p1 (g 74) s f (e - f) 4 (103 : Int32) (111 : Int32)) = 0)) => ?_)
                    · refine q_ret 2 (some (.int (Int8.toInt32 (Int8.ofInt (-4)))), g, u) (fun _ _ => rfl) ?_
                      have n0 : ¬ t_is (g 74) f (e - f) (t_nm 0) = 1 := fun z => ((t_is_4 (by omega)).mp z).1 hc0
                      have n1 : ¬ t_is (g 74) f (e - f) (t_nm 1) = 1 := fun z => ((t_is_4 (by omega)).mp z).2 hc2
                      have n2 : ¬ t_is (g 74) f (e - f) (t_nm 2) = 1 := fun z => ((t_is_5 (by omega)).mp z).1 hc3
                      have n3 : ¬ t_is (g 74) f (e - f) (t_nm 3) = 1 := fun z => ((t_is_4 (by omega)).mp z).2 hc5
                      have n4 : ¬ t_is (g 74) f (e - f) (t_nm 4) = 1 := fun z => ((t_is_2 (by omega)).mp z) hc6
                      have n5 : ¬ t_is (g 74) f (e - f) (t_nm 5) = 1 := fun z => ((t_is_5 (by omega)).mp z).2 hc8
                      have n6 : ¬ t_is (g 74) f (e - f) (t_nm 6) = 1 := fun z => ((t_is_4 (by omega)).mp z).1 hc9
                      unfold t_ln
                      rw [if_neg n0, if_neg n1, if_neg n2, if_neg n3, if_neg n4, if_neg n5, if_neg n6]
                      rfl
                    · refine q_step 4 166 [(0, .ref 70)] [.int (0 : Int32), .int (108 : Int32), .int (97 : Int32), .ref 70] g u (fun big n0 => sg_nm_90 big n0 g u) ?_
                      refine q_call (M2 := 158) (rest := []) (r_ends g u hs h160 hf he hfe hes _ _ _) (fun _ _ => rfl) ?_
                      refine q_if_eq rfl (fun (hc10 : (t_p2 (g 74) s f (97 : Int32) (108 : Int32) (0 : Int32)) = 0) => ?_) (fun (hc10 : ¬ ((t_p2 (g 74) s f (97 : Int32) (108 : Int32) (0 : Int32)) = 0)) => ?_)
                      · refine q_ret 2 (some (.int (Int8.toInt32 (Int8.ofInt (-4)))), g, u) (fun _ _ => rfl) ?_
                        have n0 : ¬ t_is (g 74) f (e - f) (t_nm 0) = 1 := fun z => ((t_is_4 (by omega)).mp z).1 hc0
                        have n1 : ¬ t_is (g 74) f (e - f) (t_nm 1) = 1 := fun z => ((t_is_4 (by omega)).mp z).2 hc2
                        have n2 : ¬ t_is (g 74) f (e - f) (t_nm 2) = 1 := fun z => ((t_is_5 (by omega)).mp z).1 hc3
                        have n3 : ¬ t_is (g 74) f (e - f) (t_nm 3) = 1 := fun z => ((t_is_4 (by omega)).mp z).2 hc5
                        have n4 : ¬ t_is (g 74) f (e - f) (t_nm 4) = 1 := fun z => ((t_is_2 (by omega)).mp z) hc6
                        have n5 : ¬ t_is (g 74) f (e - f) (t_nm 5) = 1 := fun z => ((t_is_5 (by omega)).mp z).2 hc8
                        have n6 : ¬ t_is (g 74) f (e - f) (t_nm 6) = 1 := fun z => ((t_is_4 (by omega)).mp z).2 hc10
                        unfold t_ln
                        rw [if_neg n0, if_neg n1, if_neg n2, if_neg n3, if_neg n4, if_neg n5, if_neg n6]
                        rfl
                      · refine q_ret 3 (some (.int (6 : Int32)), g, u) (fun _ _ => rfl) ?_
                        have n0 : ¬ t_is (g 74) f (e - f) (t_nm 0) = 1 := fun z => ((t_is_4 (by omega)).mp z).1 hc0
                        have n1 : ¬ t_is (g 74) f (e - f) (t_nm 1) = 1 := fun z => ((t_is_4 (by omega)).mp z).2 hc2
                        have n2 : ¬ t_is (g 74) f (e - f) (t_nm 2) = 1 := fun z => ((t_is_5 (by omega)).mp z).1 hc3
                        have n3 : ¬ t_is (g 74) f (e - f) (t_nm 3) = 1 := fun z => ((t_is_4 (by omega)).mp z).2 hc5
                        have n4 : ¬ t_is (g 74) f (e - f) (t_nm 4) = 1 := fun z => ((t_is_2 (by omega)).mp z) hc6
                        have n5 : ¬ t_is (g 74) f (e - f) (t_nm 5) = 1 := fun z => ((t_is_5 (by omega)).mp z).2 hc8
                        have y6 : t_is (g 74) f (e - f) (t_nm 6) = 1 := (t_is_4 (by omega)).mpr ⟨hc9, hc10⟩
                        unfold t_ln
                        rw [if_neg n0, if_neg n1, if_neg n2, if_neg n3, if_neg n4, if_neg n5, if_pos y6]
                  · refine q_ret 3 (some (.int (5 : Int32)), g, u) (fun _ _ => rfl) ?_
                    have n0 : ¬ t_is (g 74) f (e - f) (t_nm 0) = 1 := fun z => ((t_is_4 (by omega)).mp z).1 hc0
                    have n1 : ¬ t_is (g 74) f (e - f) (t_nm 1) = 1 := fun z => ((t_is_4 (by omega)).mp z).2 hc2
                    have n2 : ¬ t_is (g 74) f (e - f) (t_nm 2) = 1 := fun z => ((t_is_5 (by omega)).mp z).1 hc3
                    have n3 : ¬ t_is (g 74) f (e - f) (t_nm 3) = 1 := fun z => ((t_is_4 (by omega)).mp z).2 hc5
                    have n4 : ¬ t_is (g 74) f (e - f) (t_nm 4) = 1 := fun z => ((t_is_2 (by omega)).mp z) hc6
                    have y5 : t_is (g 74) f (e - f) (t_nm 5) = 1 := (t_is_5 (by omega)).mpr ⟨hc7, hc8⟩
                    unfold t_ln
                    rw [if_neg n0, if_neg n1, if_neg n2, if_neg n3, if_neg n4, if_pos y5]
              · refine q_ret 2 (some (.int (4 : Int32)), g, u) (fun _ _ => rfl) ?_
                have n0 : ¬ t_is (g 74) f (e - f) (t_nm 0) = 1 := fun z => ((t_is_4 (by omega)).mp z).1 hc0
                have n1 : ¬ t_is (g 74) f (e - f) (t_nm 1) = 1 := fun z => ((t_is_4 (by omega)).mp z).2 hc2
                have n2 : ¬ t_is (g 74) f (e - f) (t_nm 2) = 1 := fun z => ((t_is_5 (by omega)).mp z).1 hc3
                have n3 : ¬ t_is (g 74) f (e - f) (t_nm 3) = 1 := fun z => ((t_is_4 (by omega)).mp z).2 hc5
                have y4 : t_is (g 74) f (e - f) (t_nm 4) = 1 := (t_is_2 (by omega)).mpr hc6
                unfold t_ln
                rw [if_neg n0, if_neg n1, if_neg n2, if_neg n3, if_pos y4]
            · refine q_ret 2 (some (.int (3 : Int32)), g, u) (fun _ _ => rfl) ?_
              have n0 : ¬ t_is (g 74) f (e - f) (t_nm 0) = 1 := fun z => ((t_is_4 (by omega)).mp z).1 hc0
              have n1 : ¬ t_is (g 74) f (e - f) (t_nm 1) = 1 := fun z => ((t_is_4 (by omega)).mp z).2 hc2
              have n2 : ¬ t_is (g 74) f (e - f) (t_nm 2) = 1 := fun z => ((t_is_5 (by omega)).mp z).1 hc3
              have y3 : t_is (g 74) f (e - f) (t_nm 3) = 1 := (t_is_4 (by omega)).mpr ⟨hc4, hc5⟩
              unfold t_ln
              rw [if_neg n0, if_neg n1, if_neg n2, if_pos y3]
        · refine q_step 4 71 [(0, .ref 70)] [.int (115 : Int32), .int (115 : Int32), .int (101 : Int32), .ref 70] g u (fun big n0 => sg_nm_93 big n0 g u) ?_
          refine q_call (M2 := 158) (rest := []) (r_ends g u hs h160 hf he hfe hes _ _ _) (fun _ _ => rfl) ?_
          refine q_if_eq rfl (fun (hc4 : (t_p2 (g 74) s f (101 : Int32) (115 : Int32) (115 : Int32)) = 0) => ?_) (fun (hc4 : ¬ ((t_p2 (g 74) s f (101 : Int32) (115 : Int32) (115 : Int32)) = 0)) => ?_)
          · refine q_step 4 85 [(0, .ref 70)] [.int (97 : Int32), .int (119 : Int32), .int (4 : Int32), .ref 70] g u (fun big n0 => sg_nm_86 big n0 g u) ?_
            refine q_call (M2 := 157) (rest := []) (r_is g u hs h160 hf he hfe hes 4 (by omega) _ _) (fun _ _ => rfl) ?_
            refine q_if_eq rfl (fun (hc5 : (t_p1 (g 74) s f (e - f) 4 (119 : Int32) (97 : Int32)) = 0) => ?_) (fun (hc5 : ¬ ((t_p1 (g 74) s f (e - f) 4 (119 : Int32) (97 : Int32)) = 0)) => ?_)
            · refine q_step 4 111 [(0, .ref 70)] [.int (116 : Int32), .int (97 : Int32), .int (2 : Int32), .ref 70] g u (fun big n0 => sg_nm_87 big n0 g u) ?_
              refine q_call (M2 := 157) (rest := []) (r_is g u hs h160 hf he hfe hes 2 (by omega) _ _) (fun _ _ => rfl) ?_
              refine q_if_eq rfl (fun (hc6 : (t_p1 (g 74) s f (e - f) 2 (97 : Int32) (116 : Int32)) = 0) => ?_) (fun (hc6 : ¬ ((t_p1 (g 74) s f (e - f) 2 (97 : Int32) (116 : Int32)) = 0)) => ?_)
              · refine q_step 4 125 [(0, .ref 70)] [.int (116 : Int32), .int (115 : Int32), .int (5 : Int32), .ref 70] g u (fun big n0 => sg_nm_88 big n0 g u) ?_
                refine q_call (M2 := 157) (rest := []) (r_is g u hs h160 hf he hfe hes 5 (by omega) _ _) (fun _ _ => rfl) ?_
                refine q_if_eq rfl (fun (hc7 : (t_p1 (g 74) s f (e - f) 5 (115 : Int32) (116 : Int32)) = 0) => ?_) (fun (hc7 : ¬ ((t_p1 (g 74) s f (e - f) 5 (115 : Int32) (116 : Int32)) = 0)) => ?_)
                · refine q_step 4 154 [(0, .ref 70)] [.int (111 : Int32), .int (103 : Int32), .int (4 : Int32), .ref 70] g u (fun big n0 => sg_nm_89 big n0 g u) ?_
                  refine q_call (M2 := 157) (rest := []) (r_is g u hs h160 hf he hfe hes 4 (by omega) _ _) (fun _ _ => rfl) ?_
                  refine q_if_eq rfl (fun (hc8 : (t_p1 (g 74) s f (e - f) 4 (103 : Int32) (111 : Int32)) = 0) => ?_) (fun (hc8 : ¬ ((t_p1 (g 74) s f (e - f) 4 (103 : Int32) (111 : Int32)) = 0)) => ?_)
                  · refine q_ret 2 (some (.int (Int8.toInt32 (Int8.ofInt (-4)))), g, u) (fun _ _ => rfl) ?_
                    have n0 : ¬ t_is (g 74) f (e - f) (t_nm 0) = 1 := fun z => ((t_is_4 (by omega)).mp z).1 hc0
                    have n1 : ¬ t_is (g 74) f (e - f) (t_nm 1) = 1 := fun z => ((t_is_4 (by omega)).mp z).2 hc2
                    have n2 : ¬ t_is (g 74) f (e - f) (t_nm 2) = 1 := fun z => ((t_is_5 (by omega)).mp z).2 hc4
                    have n3 : ¬ t_is (g 74) f (e - f) (t_nm 3) = 1 := fun z => ((t_is_4 (by omega)).mp z).1 hc5
                    have n4 : ¬ t_is (g 74) f (e - f) (t_nm 4) = 1 := fun z => ((t_is_2 (by omega)).mp z) hc6
                    have n5 : ¬ t_is (g 74) f (e - f) (t_nm 5) = 1 := fun z => ((t_is_5 (by omega)).mp z).1 hc7
                    have n6 : ¬ t_is (g 74) f (e - f) (t_nm 6) = 1 := fun z => ((t_is_4 (by omega)).mp z).1 hc8
                    unfold t_ln
                    rw [if_neg n0, if_neg n1, if_neg n2, if_neg n3, if_neg n4, if_neg n5, if_neg n6]
                    rfl
                  · refine q_step 4 166 [(0, .ref 70)] [.int (0 : Int32), .int (108 : Int32), .int (97 : Int32), .ref 70] g u (fun big n0 => sg_nm_90 big n0 g u) ?_
                    refine q_call (M2 := 158) (rest := []) (r_ends g u hs h160 hf he hfe hes _ _ _) (fun _ _ => rfl) ?_
                    refine q_if_eq rfl (fun (hc9 : (t_p2 (g 74) s f (97 : Int32) (108 : Int32) (0 : Int32)) = 0) => ?_) (fun (hc9 : ¬ ((t_p2 (g 74) s f (97 : Int32) (108 : Int32) (0 : Int32)) = 0)) => ?_)
                    · refine q_ret 2 (some (.int (Int8.toInt32 (Int8.ofInt (-4)))), g, u) (fun _ _ => rfl) ?_
                      have n0 : ¬ t_is (g 74) f (e - f) (t_nm 0) = 1 := fun z => ((t_is_4 (by omega)).mp z).1 hc0
                      have n1 : ¬ t_is (g 74) f (e - f) (t_nm 1) = 1 := fun z => ((t_is_4 (by omega)).mp z).2 hc2
                      have n2 : ¬ t_is (g 74) f (e - f) (t_nm 2) = 1 := fun z => ((t_is_5 (by omega)).mp z).2 hc4
                      have n3 : ¬ t_is (g 74) f (e - f) (t_nm 3) = 1 := fun z => ((t_is_4 (by omega)).mp z).1 hc5
                      have n4 : ¬ t_is (g 74) f (e - f) (t_nm 4) = 1 := fun z => ((t_is_2 (by omega)).mp z) hc6
                      have n5 : ¬ t_is (g 74) f (e - f) (t_nm 5) = 1 := fun z => ((t_is_5 (by omega)).mp z).1 hc7
                      have n6 : ¬ t_is (g 74) f (e - f) (t_nm 6) = 1 := fun z => ((t_is_4 (by omega)).mp z).2 hc9
                      unfold t_ln
                      rw [if_neg n0, if_neg n1, if_neg n2, if_neg n3, if_neg n4, if_neg n5, if_neg n6]
                      rfl
                    · refine q_ret 3 (some (.int (6 : Int32)), g, u) (fun _ _ => rfl) ?_
                      have n0 : ¬ t_is (g 74) f (e - f) (t_nm 0) = 1 := fun z => ((t_is_4 (by omega)).mp z).1 hc0
                      have n1 : ¬ t_is (g 74) f (e - f) (t_nm 1) = 1 := fun z => ((t_is_4 (by omega)).mp z).2 hc2
                      have n2 : ¬ t_is (g 74) f (e - f) (t_nm 2) = 1 := fun z => ((t_is_5 (by omega)).mp z).2 hc4
                      have n3 : ¬ t_is (g 74) f (e - f) (t_nm 3) = 1 := fun z => ((t_is_4 (by omega)).mp z).1 hc5
                      have n4 : ¬ t_is (g 74) f (e - f) (t_nm 4) = 1 := fun z => ((t_is_2 (by omega)).mp z) hc6
                      have n5 : ¬ t_is (g 74) f (e - f) (t_nm 5) = 1 := fun z => ((t_is_5 (by omega)).mp z).1 hc7
                      have y6 : t_is (g 74) f (e - f) (t_nm 6) = 1 := (t_is_4 (by omega)).mpr ⟨hc8, hc9⟩
                      unfold t_ln
                      rw [if_neg n0, if_neg n1, if_neg n2, if_neg n3, if_neg n4, if_neg n5, if_pos y6]
                · refine q_step 4 138 [(0, .ref 70)] [.int (108 : Int32), .int (108 : Int32), .int (105 : Int32), .ref 70] g u (fun big n0 => sg_nm_91 big n0 g u) ?_
                  refine q_call (M2 := 158) (rest := []) (r_ends g u hs h160 hf he hfe hes _ _ _) (fun _ _ => rfl) ?_
                  refine q_if_eq rfl (fun (hc8 : (t_p2 (g 74) s f (105 : Int32) (108 : Int32) (108 : Int32)) = 0) => ?_) (fun (hc8 : ¬ ((t_p2 (g 74) s f (105 : Int32) (108 : Int32) (108 : Int32)) = 0)) => ?_)
                  · refine q_step 4 154 [(0, .ref 70)] [.int (111 : Int32), .int (103 : Int32), .int (4 : Int32), .ref 70] g u (fun big n0 => sg_nm_89 big n0 g u) ?_
                    refine q_call (M2 := 157) (rest := []) (r_is g u hs h160 hf he hfe hes 4 (by omega) _ _) (fun _ _ => rfl) ?_
                    refine q_if_eq rfl (fun (hc9 : (t_p1 (g 74) s f (e - f) 4 (103 : Int32) (111 : Int32)) = 0) => ?_) (fun (hc9 : ¬ ((t_p1 (g 74) s f (e - f) 4 (103 : Int32) (111 : Int32)) = 0)) => ?_)
                    · refine q_ret 2 (some (.int (Int8.toInt32 (Int8.ofInt (-4)))), g, u) (fun _ _ => rfl) ?_
                      have n0 : ¬ t_is (g 74) f (e - f) (t_nm 0) = 1 := fun z => ((t_is_4 (by omega)).mp z).1 hc0
                      have n1 : ¬ t_is (g 74) f (e - f) (t_nm 1) = 1 := fun z => ((t_is_4 (by omega)).mp z).2 hc2
                      have n2 : ¬ t_is (g 74) f (e - f) (t_nm 2) = 1 := fun z => ((t_is_5 (by omega)).mp z).2 hc4
                      have n3 : ¬ t_is (g 74) f (e - f) (t_nm 3) = 1 := fun z => ((t_is_4 (by omega)).mp z).1 hc5
                      have n4 : ¬ t_is (g 74) f (e - f) (t_nm 4) = 1 := fun z => ((t_is_2 (by omega)).mp z) hc6
                      have n5 : ¬ t_is (g 74) f (e - f) (t_nm 5) = 1 := fun z => ((t_is_5 (by omega)).mp z).2 hc8
                      have n6 : ¬ t_is (g 74) f (e - f) (t_nm 6) = 1 := fun z => ((t_is_4 (by omega)).mp z).1 hc9
                      unfold t_ln
                      rw [if_neg n0, if_neg n1, if_neg n2, if_neg n3, if_neg n4, if_neg n5, if_neg n6]
                      rfl
                    · refine q_step 4 166 [(0, .ref 70)] [.int (0 : Int32), .int (108 : Int32), .int (97 : Int32), .ref 70] g u (fun big n0 => sg_nm_90 big n0 g u) ?_
                      refine q_call (M2 := 158) (rest := []) (r_ends g u hs h160 hf he hfe hes _ _ _) (fun _ _ => rfl) ?_
                      refine q_if_eq rfl (fun (hc10 : (t_p2 (g 74) s f (97 : Int32) (108 : Int32) (0 : Int32)) = 0) => ?_) (fun (hc10 : ¬ ((t_p2 (g 74) s f (97 : Int32) (108 : Int32) (0 : Int32)) = 0)) => ?_)
                      · refine q_ret 2 (some (.int (Int8.toInt32 (Int8.ofInt (-4)))), g, u) (fun _ _ => rfl) ?_
                        have n0 : ¬ t_is (g 74) f (e - f) (t_nm 0) = 1 := fun z => ((t_is_4 (by omega)).mp z).1 hc0
                        have n1 : ¬ t_is (g 74) f (e - f) (t_nm 1) = 1 := fun z => ((t_is_4 (by omega)).mp z).2 hc2
                        have n2 : ¬ t_is (g 74) f (e - f) (t_nm 2) = 1 := fun z => ((t_is_5 (by omega)).mp z).2 hc4
                        have n3 : ¬ t_is (g 74) f (e - f) (t_nm 3) = 1 := fun z => ((t_is_4 (by omega)).mp z).1 hc5
                        have n4 : ¬ t_is (g 74) f (e - f) (t_nm 4) = 1 := fun z => ((t_is_2 (by omega)).mp z) hc6
                        have n5 : ¬ t_is (g 74) f (e - f) (t_nm 5) = 1 := fun z => ((t_is_5 (by omega)).mp z).2 hc8
                        have n6 : ¬ t_is (g 74) f (e - f) (t_nm 6) = 1 := fun z => ((t_is_4 (by omega)).mp z).2 hc10
                        unfold t_ln
                        rw [if_neg n0, if_neg n1, if_neg n2, if_neg n3, if_neg n4, if_neg n5, if_neg n6]
                        rfl
                      · refine q_ret 3 (some (.int (6 : Int32)), g, u) (fun _ _ => rfl) ?_
                        have n0 : ¬ t_is (g 74) f (e - f) (t_nm 0) = 1 := fun z => ((t_is_4 (by omega)).mp z).1 hc0
                        have n1 : ¬ t_is (g 74) f (e - f) (t_nm 1) = 1 := fun z => ((t_is_4 (by omega)).mp z).2 hc2
                        have n2 : ¬ t_is (g 74) f (e - f) (t_nm 2) = 1 := fun z => ((t_is_5 (by omega)).mp z).2 hc4
                        have n3 : ¬ t_is (g 74) f (e - f) (t_nm 3) = 1 := fun z => ((t_is_4 (by omega)).mp z).1 hc5
                        have n4 : ¬ t_is (g 74) f (e - f) (t_nm 4) = 1 := fun z => ((t_is_2 (by omega)).mp z) hc6
                        have n5 : ¬ t_is (g 74) f (e - f) (t_nm 5) = 1 := fun z => ((t_is_5 (by omega)).mp z).2 hc8
                        have y6 : t_is (g 74) f (e - f) (t_nm 6) = 1 := (t_is_4 (by omega)).mpr ⟨hc9, hc10⟩
                        unfold t_ln
                        rw [if_neg n0, if_neg n1, if_neg n2, if_neg n3, if_neg n4, if_neg n5, if_pos y6]
                  · refine q_ret 3 (some (.int (5 : Int32)), g, u) (fun _ _ => rfl) ?_
                    have n0 : ¬ t_is (g 74) f (e - f) (t_nm 0) = 1 := fun z => ((t_is_4 (by omega)).mp z).1 hc0
                    have n1 : ¬ t_is (g 74) f (e - f) (t_nm 1) = 1 := fun z => ((t_is_4 (by omega)).mp z).2 hc2
                    have n2 : ¬ t_is (g 74) f (e - f) (t_nm 2) = 1 := fun z => ((t_is_5 (by omega)).mp z).2 hc4
                    have n3 : ¬ t_is (g 74) f (e - f) (t_nm 3) = 1 := fun z => ((t_is_4 (by omega)).mp z).1 hc5
                    have n4 : ¬ t_is (g 74) f (e - f) (t_nm 4) = 1 := fun z => ((t_is_2 (by omega)).mp z) hc6
                    have y5 : t_is (g 74) f (e - f) (t_nm 5) = 1 := (t_is_5 (by omega)).mpr ⟨hc7, hc8⟩
                    unfold t_ln
                    rw [if_neg n0, if_neg n1, if_neg n2, if_neg n3, if_neg n4, if_pos y5]
              · refine q_ret 2 (some (.int (4 : Int32)), g, u) (fun _ _ => rfl) ?_
                have n0 : ¬ t_is (g 74) f (e - f) (t_nm 0) = 1 := fun z => ((t_is_4 (by omega)).mp z).1 hc0
                have n1 : ¬ t_is (g 74) f (e - f) (t_nm 1) = 1 := fun z => ((t_is_4 (by omega)).mp z).2 hc2
                have n2 : ¬ t_is (g 74) f (e - f) (t_nm 2) = 1 := fun z => ((t_is_5 (by omega)).mp z).2 hc4
                have n3 : ¬ t_is (g 74) f (e - f) (t_nm 3) = 1 := fun z => ((t_is_4 (by omega)).mp z).1 hc5
                have y4 : t_is (g 74) f (e - f) (t_nm 4) = 1 := (t_is_2 (by omega)).mpr hc6
                unfold t_ln
                rw [if_neg n0, if_neg n1, if_neg n2, if_neg n3, if_pos y4]
            · refine q_step 4 97 [(0, .ref 70)] [.int (0 : Int32), .int (108 : Int32), .int (108 : Int32), .ref 70] g u (fun big n0 => sg_nm_92 big n0 g u) ?_
              refine q_call (M2 := 158) (rest := []) (r_ends g u hs h160 hf he hfe hes _ _ _) (fun _ _ => rfl) ?_
              refine q_if_eq rfl (fun (hc6 : (t_p2 (g 74) s f (108 : Int32) (108 : Int32) (0 : Int32)) = 0) => ?_) (fun (hc6 : ¬ ((t_p2 (g 74) s f (108 : Int32) (108 : Int32) (0 : Int32)) = 0)) => ?_)
              · refine q_step 4 111 [(0, .ref 70)] [.int (116 : Int32), .int (97 : Int32), .int (2 : Int32), .ref 70] g u (fun big n0 => sg_nm_87 big n0 g u) ?_
                refine q_call (M2 := 157) (rest := []) (r_is g u hs h160 hf he hfe hes 2 (by omega) _ _) (fun _ _ => rfl) ?_
                refine q_if_eq rfl (fun (hc7 : (t_p1 (g 74) s f (e - f) 2 (97 : Int32) (116 : Int32)) = 0) => ?_) (fun (hc7 : ¬ ((t_p1 (g 74) s f (e - f) 2 (97 : Int32) (116 : Int32)) = 0)) => ?_)
                · refine q_step 4 125 [(0, .ref 70)] [.int (116 : Int32), .int (115 : Int32), .int (5 : Int32), .ref 70] g u (fun big n0 => sg_nm_88 big n0 g u) ?_
                  refine q_call (M2 := 157) (rest := []) (r_is g u hs h160 hf he hfe hes 5 (by omega) _ _) (fun _ _ => rfl) ?_
                  refine q_if_eq rfl (fun (hc8 : (t_p1 (g 74) s f (e - f) 5 (115 : Int32) (116 : Int32)) = 0) => ?_) (fun (hc8 : ¬ ((t_p1 (g 74) s f (e - f) 5 (115 : Int32) (116 : Int32)) = 0)) => ?_)
                  · refine q_step 4 154 [(0, .ref 70)] [.int (111 : Int32), .int (103 : Int32), .int (4 : Int32), .ref 70] g u (fun big n0 => sg_nm_89 big n0 g u) ?_
                    refine q_call (M2 := 157) (rest := []) (r_is g u hs h160 hf he hfe hes 4 (by omega) _ _) (fun _ _ => rfl) ?_
                    refine q_if_eq rfl (fun (hc9 : (t_p1 (g 74) s f (e - f) 4 (103 : Int32) (111 : Int32)) = 0) => ?_) (fun (hc9 : ¬ ((t_p1 (g 74) s f (e - f) 4 (103 : Int32) (111 : Int32)) = 0)) => ?_)
                    · refine q_ret 2 (some (.int (Int8.toInt32 (Int8.ofInt (-4)))), g, u) (fun _ _ => rfl) ?_
                      have n0 : ¬ t_is (g 74) f (e - f) (t_nm 0) = 1 := fun z => ((t_is_4 (by omega)).mp z).1 hc0
                      have n1 : ¬ t_is (g 74) f (e - f) (t_nm 1) = 1 := fun z => ((t_is_4 (by omega)).mp z).2 hc2
                      have n2 : ¬ t_is (g 74) f (e - f) (t_nm 2) = 1 := fun z => ((t_is_5 (by omega)).mp z).2 hc4
                      have n3 : ¬ t_is (g 74) f (e - f) (t_nm 3) = 1 := fun z => ((t_is_4 (by omega)).mp z).2 hc6
                      have n4 : ¬ t_is (g 74) f (e - f) (t_nm 4) = 1 := fun z => ((t_is_2 (by omega)).mp z) hc7
                      have n5 : ¬ t_is (g 74) f (e - f) (t_nm 5) = 1 := fun z => ((t_is_5 (by omega)).mp z).1 hc8
                      have n6 : ¬ t_is (g 74) f (e - f) (t_nm 6) = 1 := fun z => ((t_is_4 (by omega)).mp z).1 hc9
                      unfold t_ln
                      rw [if_neg n0, if_neg n1, if_neg n2, if_neg n3, if_neg n4, if_neg n5, if_neg n6]
                      rfl
                    · refine q_step 4 166 [(0, .ref 70)] [.int (0 : Int32), .int (108 : Int32), .int (97 : Int32), .ref 70] g u (fun big n0 => sg_nm_90 big n0 g u) ?_
                      refine q_call (M2 := 158) (rest := []) (r_ends g u hs h160 hf he hfe hes _ _ _) (fun _ _ => rfl) ?_
                      refine q_if_eq rfl (fun (hc10 : (t_p2 (g 74) s f (97 : Int32) (108 : Int32) (0 : Int32)) = 0) => ?_) (fun (hc10 : ¬ ((t_p2 (g 74) s f (97 : Int32) (108 : Int32) (0 : Int32)) = 0)) => ?_)
                      · refine q_ret 2 (some (.int (Int8.toInt32 (Int8.ofInt (-4)))), g, u) (fun _ _ => rfl) ?_
                        have n0 : ¬ t_is (g 74) f (e - f) (t_nm 0) = 1 := fun z => ((t_is_4 (by omega)).mp z).1 hc0
                        have n1 : ¬ t_is (g 74) f (e - f) (t_nm 1) = 1 := fun z => ((t_is_4 (by omega)).mp z).2 hc2
                        have n2 : ¬ t_is (g 74) f (e - f) (t_nm 2) = 1 := fun z => ((t_is_5 (by omega)).mp z).2 hc4
                        have n3 : ¬ t_is (g 74) f (e - f) (t_nm 3) = 1 := fun z => ((t_is_4 (by omega)).mp z).2 hc6
                        have n4 : ¬ t_is (g 74) f (e - f) (t_nm 4) = 1 := fun z => ((t_is_2 (by omega)).mp z) hc7
                        have n5 : ¬ t_is (g 74) f (e - f) (t_nm 5) = 1 := fun z => ((t_is_5 (by omega)).mp z).1 hc8
                        have n6 : ¬ t_is (g 74) f (e - f) (t_nm 6) = 1 := fun z => ((t_is_4 (by omega)).mp z).2 hc10
                        unfold t_ln
                        rw [if_neg n0, if_neg n1, if_neg n2, if_neg n3, if_neg n4, if_neg n5, if_neg n6]
                        rfl
                      · refine q_ret 3 (some (.int (6 : Int32)), g, u) (fun _ _ => rfl) ?_
                        have n0 : ¬ t_is (g 74) f (e - f) (t_nm 0) = 1 := fun z => ((t_is_4 (by omega)).mp z).1 hc0
                        have n1 : ¬ t_is (g 74) f (e - f) (t_nm 1) = 1 := fun z => ((t_is_4 (by omega)).mp z).2 hc2
                        have n2 : ¬ t_is (g 74) f (e - f) (t_nm 2) = 1 := fun z => ((t_is_5 (by omega)).mp z).2 hc4
                        have n3 : ¬ t_is (g 74) f (e - f) (t_nm 3) = 1 := fun z => ((t_is_4 (by omega)).mp z).2 hc6
                        have n4 : ¬ t_is (g 74) f (e - f) (t_nm 4) = 1 := fun z => ((t_is_2 (by omega)).mp z) hc7
                        have n5 : ¬ t_is (g 74) f (e - f) (t_nm 5) = 1 := fun z => ((t_is_5 (by omega)).mp z).1 hc8
                        have y6 : t_is (g 74) f (e - f) (t_nm 6) = 1 := (t_is_4 (by omega)).mpr ⟨hc9, hc10⟩
                        unfold t_ln
                        rw [if_neg n0, if_neg n1, if_neg n2, if_neg n3, if_neg n4, if_neg n5, if_pos y6]
                  · refine q_step 4 138 [(0, .ref 70)] [.int (108 : Int32), .int (108 : Int32), .int (105 : Int32), .ref 70] g u (fun big n0 => sg_nm_91 big n0 g u) ?_
                    refine q_call (M2 := 158) (rest := []) (r_ends g u hs h160 hf he hfe hes _ _ _) (fun _ _ => rfl) ?_
                    refine q_if_eq rfl (fun (hc9 : (t_p2 (g 74) s f (105 : Int32) (108 : Int32) (108 : Int32)) = 0) => ?_) (fun (hc9 : ¬ ((t_p2 (g 74) s f (105 : Int32) (108 : Int32) (108 : Int32)) = 0)) => ?_)
                    · refine q_step 4 154 [(0, .ref 70)] [.int (111 : Int32), .int (103 : Int32), .int (4 : Int32), .ref 70] g u (fun big n0 => sg_nm_89 big n0 g u) ?_
                      refine q_call (M2 := 157) (rest := []) (r_is g u hs h160 hf he hfe hes 4 (by omega) _ _) (fun _ _ => rfl) ?_
                      refine q_if_eq rfl (fun (hc10 : (t_p1 (g 74) s f (e - f) 4 (103 : Int32) (111 : Int32)) = 0) => ?_) (fun (hc10 : ¬ ((t_p1 (g 74) s f (e - f) 4 (103 : Int32) (111 : Int32)) = 0)) => ?_)
                      · refine q_ret 2 (some (.int (Int8.toInt32 (Int8.ofInt (-4)))), g, u) (fun _ _ => rfl) ?_
                        have n0 : ¬ t_is (g 74) f (e - f) (t_nm 0) = 1 := fun z => ((t_is_4 (by omega)).mp z).1 hc0
                        have n1 : ¬ t_is (g 74) f (e - f) (t_nm 1) = 1 := fun z => ((t_is_4 (by omega)).mp z).2 hc2
                        have n2 : ¬ t_is (g 74) f (e - f) (t_nm 2) = 1 := fun z => ((t_is_5 (by omega)).mp z).2 hc4
                        have n3 : ¬ t_is (g 74) f (e - f) (t_nm 3) = 1 := fun z => ((t_is_4 (by omega)).mp z).2 hc6
                        have n4 : ¬ t_is (g 74) f (e - f) (t_nm 4) = 1 := fun z => ((t_is_2 (by omega)).mp z) hc7
                        have n5 : ¬ t_is (g 74) f (e - f) (t_nm 5) = 1 := fun z => ((t_is_5 (by omega)).mp z).2 hc9
                        have n6 : ¬ t_is (g 74) f (e - f) (t_nm 6) = 1 := fun z => ((t_is_4 (by omega)).mp z).1 hc10
                        unfold t_ln
                        rw [if_neg n0, if_neg n1, if_neg n2, if_neg n3, if_neg n4, if_neg n5, if_neg n6]
                        rfl
                      · refine q_step 4 166 [(0, .ref 70)] [.int (0 : Int32), .int (108 : Int32), .int (97 : Int32), .ref 70] g u (fun big n0 => sg_nm_90 big n0 g u) ?_
                        refine q_call (M2 := 158) (rest := []) (r_ends g u hs h160 hf he hfe hes _ _ _) (fun _ _ => rfl) ?_
                        refine q_if_eq rfl (fun (hc11 : (t_p2 (g 74) s f (97 : Int32) (108 : Int32) (0 : Int32)) = 0) => ?_) (fun (hc11 : ¬ ((t_p2 (g 74) s f (97 : Int32) (108 : Int32) (0 : Int32)) = 0)) => ?_)
                        · refine q_ret 2 (some (.int (Int8.toInt32 (Int8.ofInt (-4)))), g, u) (fun _ _ => rfl) ?_
                          have n0 : ¬ t_is (g 74) f (e - f) (t_nm 0) = 1 := fun z => ((t_is_4 (by omega)).mp z).1 hc0
                          have n1 : ¬ t_is (g 74) f (e - f) (t_nm 1) = 1 := fun z => ((t_is_4 (by omega)).mp z).2 hc2
                          have n2 : ¬ t_is (g 74) f (e - f) (t_nm 2) = 1 := fun z => ((t_is_5 (by omega)).mp z).2 hc4
                          have n3 : ¬ t_is (g 74) f (e - f) (t_nm 3) = 1 := fun z => ((t_is_4 (by omega)).mp z).2 hc6
                          have n4 : ¬ t_is (g 74) f (e - f) (t_nm 4) = 1 := fun z => ((t_is_2 (by omega)).mp z) hc7
                          have n5 : ¬ t_is (g 74) f (e - f) (t_nm 5) = 1 := fun z => ((t_is_5 (by omega)).mp z).2 hc9
                          have n6 : ¬ t_is (g 74) f (e - f) (t_nm 6) = 1 := fun z => ((t_is_4 (by omega)).mp z).2 hc11
                          unfold t_ln
                          rw [if_neg n0, if_neg n1, if_neg n2, if_neg n3, if_neg n4, if_neg n5, if_neg n6]
                          rfl
                        · refine q_ret 3 (some (.int (6 : Int32)), g, u) (fun _ _ => rfl) ?_
                          have n0 : ¬ t_is (g 74) f (e - f) (t_nm 0) = 1 := fun z => ((t_is_4 (by omega)).mp z).1 hc0
                          have n1 : ¬ t_is (g 74) f (e - f) (t_nm 1) = 1 := fun z => ((t_is_4 (by omega)).mp z).2 hc2
                          have n2 : ¬ t_is (g 74) f (e - f) (t_nm 2) = 1 := fun z => ((t_is_5 (by omega)).mp z).2 hc4
                          have n3 : ¬ t_is (g 74) f (e - f) (t_nm 3) = 1 := fun z => ((t_is_4 (by omega)).mp z).2 hc6
                          have n4 : ¬ t_is (g 74) f (e - f) (t_nm 4) = 1 := fun z => ((t_is_2 (by omega)).mp z) hc7
                          have n5 : ¬ t_is (g 74) f (e - f) (t_nm 5) = 1 := fun z => ((t_is_5 (by omega)).mp z).2 hc9
                          have y6 : t_is (g 74) f (e - f) (t_nm 6) = 1 := (t_is_4 (by omega)).mpr ⟨hc10, hc11⟩
                          unfold t_ln
                          rw [if_neg n0, if_neg n1, if_neg n2, if_neg n3, if_neg n4, if_neg n5, if_pos y6]
                    · refine q_ret 3 (some (.int (5 : Int32)), g, u) (fun _ _ => rfl) ?_
                      have n0 : ¬ t_is (g 74) f (e - f) (t_nm 0) = 1 := fun z => ((t_is_4 (by omega)).mp z).1 hc0
                      have n1 : ¬ t_is (g 74) f (e - f) (t_nm 1) = 1 := fun z => ((t_is_4 (by omega)).mp z).2 hc2
                      have n2 : ¬ t_is (g 74) f (e - f) (t_nm 2) = 1 := fun z => ((t_is_5 (by omega)).mp z).2 hc4
                      have n3 : ¬ t_is (g 74) f (e - f) (t_nm 3) = 1 := fun z => ((t_is_4 (by omega)).mp z).2 hc6
                      have n4 : ¬ t_is (g 74) f (e - f) (t_nm 4) = 1 := fun z => ((t_is_2 (by omega)).mp z) hc7
                      have y5 : t_is (g 74) f (e - f) (t_nm 5) = 1 := (t_is_5 (by omega)).mpr ⟨hc8, hc9⟩
                      unfold t_ln
                      rw [if_neg n0, if_neg n1, if_neg n2, if_neg n3, if_neg n4, if_pos y5]
                · refine q_ret 2 (some (.int (4 : Int32)), g, u) (fun _ _ => rfl) ?_
                  have n0 : ¬ t_is (g 74) f (e - f) (t_nm 0) = 1 := fun z => ((t_is_4 (by omega)).mp z).1 hc0
                  have n1 : ¬ t_is (g 74) f (e - f) (t_nm 1) = 1 := fun z => ((t_is_4 (by omega)).mp z).2 hc2
                  have n2 : ¬ t_is (g 74) f (e - f) (t_nm 2) = 1 := fun z => ((t_is_5 (by omega)).mp z).2 hc4
                  have n3 : ¬ t_is (g 74) f (e - f) (t_nm 3) = 1 := fun z => ((t_is_4 (by omega)).mp z).2 hc6
                  have y4 : t_is (g 74) f (e - f) (t_nm 4) = 1 := (t_is_2 (by omega)).mpr hc7
                  unfold t_ln
                  rw [if_neg n0, if_neg n1, if_neg n2, if_neg n3, if_pos y4]
              · refine q_ret 2 (some (.int (3 : Int32)), g, u) (fun _ _ => rfl) ?_
                have n0 : ¬ t_is (g 74) f (e - f) (t_nm 0) = 1 := fun z => ((t_is_4 (by omega)).mp z).1 hc0
                have n1 : ¬ t_is (g 74) f (e - f) (t_nm 1) = 1 := fun z => ((t_is_4 (by omega)).mp z).2 hc2
                have n2 : ¬ t_is (g 74) f (e - f) (t_nm 2) = 1 := fun z => ((t_is_5 (by omega)).mp z).2 hc4
                have y3 : t_is (g 74) f (e - f) (t_nm 3) = 1 := (t_is_4 (by omega)).mpr ⟨hc5, hc6⟩
                unfold t_ln
                rw [if_neg n0, if_neg n1, if_neg n2, if_pos y3]
          · refine q_ret 2 (some (.int (2 : Int32)), g, u) (fun _ _ => rfl) ?_
            have n0 : ¬ t_is (g 74) f (e - f) (t_nm 0) = 1 := fun z => ((t_is_4 (by omega)).mp z).1 hc0
            have n1 : ¬ t_is (g 74) f (e - f) (t_nm 1) = 1 := fun z => ((t_is_4 (by omega)).mp z).2 hc2
            have y2 : t_is (g 74) f (e - f) (t_nm 2) = 1 := (t_is_5 (by omega)).mpr ⟨hc3, hc4⟩
            unfold t_ln
            rw [if_neg n0, if_neg n1, if_pos y2]
      · refine q_ret 2 (some (.int (1 : Int32)), g, u) (fun _ _ => rfl) ?_
        have n0 : ¬ t_is (g 74) f (e - f) (t_nm 0) = 1 := fun z => ((t_is_4 (by omega)).mp z).1 hc0
        have y1 : t_is (g 74) f (e - f) (t_nm 1) = 1 := (t_is_4 (by omega)).mpr ⟨hc1, hc2⟩
        unfold t_ln
        rw [if_neg n0, if_pos y1]
  · refine q_step 4 18 [(0, .ref 70)] [.int (0 : Int32), .int (110 : Int32), .int (119 : Int32), .ref 70] g u (fun big n0 => sg_nm_95 big n0 g u) ?_
    refine q_call (M2 := 158) (rest := []) (r_ends g u hs h160 hf he hfe hes _ _ _) (fun _ _ => rfl) ?_
    refine q_if_eq rfl (fun (hc1 : (t_p2 (g 74) s f (119 : Int32) (110 : Int32) (0 : Int32)) = 0) => ?_) (fun (hc1 : ¬ ((t_p2 (g 74) s f (119 : Int32) (110 : Int32) (0 : Int32)) = 0)) => ?_)
    · refine q_step 4 32 [(0, .ref 70)] [.int (117 : Int32), .int (112 : Int32), .int (4 : Int32), .ref 70] g u (fun big n0 => sg_nm_84 big n0 g u) ?_
      refine q_call (M2 := 157) (rest := []) (r_is g u hs h160 hf he hfe hes 4 (by omega) _ _) (fun _ _ => rfl) ?_
      refine q_if_eq rfl (fun (hc2 : (t_p1 (g 74) s f (e - f) 4 (112 : Int32) (117 : Int32)) = 0) => ?_) (fun (hc2 : ¬ ((t_p1 (g 74) s f (e - f) 4 (112 : Int32) (117 : Int32)) = 0)) => ?_)
      · refine q_step 4 58 [(0, .ref 70)] [.int (114 : Int32), .int (112 : Int32), .int (5 : Int32), .ref 70] g u (fun big n0 => sg_nm_85 big n0 g u) ?_
        refine q_call (M2 := 157) (rest := []) (r_is g u hs h160 hf he hfe hes 5 (by omega) _ _) (fun _ _ => rfl) ?_
        refine q_if_eq rfl (fun (hc3 : (t_p1 (g 74) s f (e - f) 5 (112 : Int32) (114 : Int32)) = 0) => ?_) (fun (hc3 : ¬ ((t_p1 (g 74) s f (e - f) 5 (112 : Int32) (114 : Int32)) = 0)) => ?_)
        · refine q_step 4 85 [(0, .ref 70)] [.int (97 : Int32), .int (119 : Int32), .int (4 : Int32), .ref 70] g u (fun big n0 => sg_nm_86 big n0 g u) ?_
          refine q_call (M2 := 157) (rest := []) (r_is g u hs h160 hf he hfe hes 4 (by omega) _ _) (fun _ _ => rfl) ?_
          refine q_if_eq rfl (fun (hc4 : (t_p1 (g 74) s f (e - f) 4 (119 : Int32) (97 : Int32)) = 0) => ?_) (fun (hc4 : ¬ ((t_p1 (g 74) s f (e - f) 4 (119 : Int32) (97 : Int32)) = 0)) => ?_)
          · refine q_step 4 111 [(0, .ref 70)] [.int (116 : Int32), .int (97 : Int32), .int (2 : Int32), .ref 70] g u (fun big n0 => sg_nm_87 big n0 g u) ?_
            refine q_call (M2 := 157) (rest := []) (r_is g u hs h160 hf he hfe hes 2 (by omega) _ _) (fun _ _ => rfl) ?_
            refine q_if_eq rfl (fun (hc5 : (t_p1 (g 74) s f (e - f) 2 (97 : Int32) (116 : Int32)) = 0) => ?_) (fun (hc5 : ¬ ((t_p1 (g 74) s f (e - f) 2 (97 : Int32) (116 : Int32)) = 0)) => ?_)
            · refine q_step 4 125 [(0, .ref 70)] [.int (116 : Int32), .int (115 : Int32), .int (5 : Int32), .ref 70] g u (fun big n0 => sg_nm_88 big n0 g u) ?_
              refine q_call (M2 := 157) (rest := []) (r_is g u hs h160 hf he hfe hes 5 (by omega) _ _) (fun _ _ => rfl) ?_
              refine q_if_eq rfl (fun (hc6 : (t_p1 (g 74) s f (e - f) 5 (115 : Int32) (116 : Int32)) = 0) => ?_) (fun (hc6 : ¬ ((t_p1 (g 74) s f (e - f) 5 (115 : Int32) (116 : Int32)) = 0)) => ?_)
              · refine q_step 4 154 [(0, .ref 70)] [.int (111 : Int32), .int (103 : Int32), .int (4 : Int32), .ref 70] g u (fun big n0 => sg_nm_89 big n0 g u) ?_
                refine q_call (M2 := 157) (rest := []) (r_is g u hs h160 hf he hfe hes 4 (by omega) _ _) (fun _ _ => rfl) ?_
                refine q_if_eq rfl (fun (hc7 : (t_p1 (g 74) s f (e - f) 4 (103 : Int32) (111 : Int32)) = 0) => ?_) (fun (hc7 : ¬ ((t_p1 (g 74) s f (e - f) 4 (103 : Int32) (111 : Int32)) = 0)) => ?_)
                · refine q_ret 2 (some (.int (Int8.toInt32 (Int8.ofInt (-4)))), g, u) (fun _ _ => rfl) ?_
                  have n0 : ¬ t_is (g 74) f (e - f) (t_nm 0) = 1 := fun z => ((t_is_4 (by omega)).mp z).2 hc1
                  have n1 : ¬ t_is (g 74) f (e - f) (t_nm 1) = 1 := fun z => ((t_is_4 (by omega)).mp z).1 hc2
                  have n2 : ¬ t_is (g 74) f (e - f) (t_nm 2) = 1 := fun z => ((t_is_5 (by omega)).mp z).1 hc3
                  have n3 : ¬ t_is (g 74) f (e - f) (t_nm 3) = 1 := fun z => ((t_is_4 (by omega)).mp z).1 hc4
                  have n4 : ¬ t_is (g 74) f (e - f) (t_nm 4) = 1 := fun z => ((t_is_2 (by omega)).mp z) hc5
                  have n5 : ¬ t_is (g 74) f (e - f) (t_nm 5) = 1 := fun z => ((t_is_5 (by omega)).mp z).1 hc6
                  have n6 : ¬ t_is (g 74) f (e - f) (t_nm 6) = 1 := fun z => ((t_is_4 (by omega)).mp z).1 hc7
                  unfold t_ln
                  rw [if_neg n0, if_neg n1, if_neg n2, if_neg n3, if_neg n4, if_neg n5, if_neg n6]
                  rfl
                · refine q_step 4 166 [(0, .ref 70)] [.int (0 : Int32), .int (108 : Int32), .int (97 : Int32), .ref 70] g u (fun big n0 => sg_nm_90 big n0 g u) ?_
                  refine q_call (M2 := 158) (rest := []) (r_ends g u hs h160 hf he hfe hes _ _ _) (fun _ _ => rfl) ?_
                  refine q_if_eq rfl (fun (hc8 : (t_p2 (g 74) s f (97 : Int32) (108 : Int32) (0 : Int32)) = 0) => ?_) (fun (hc8 : ¬ ((t_p2 (g 74) s f (97 : Int32) (108 : Int32) (0 : Int32)) = 0)) => ?_)
                  · refine q_ret 2 (some (.int (Int8.toInt32 (Int8.ofInt (-4)))), g, u) (fun _ _ => rfl) ?_
                    have n0 : ¬ t_is (g 74) f (e - f) (t_nm 0) = 1 := fun z => ((t_is_4 (by omega)).mp z).2 hc1
                    have n1 : ¬ t_is (g 74) f (e - f) (t_nm 1) = 1 := fun z => ((t_is_4 (by omega)).mp z).1 hc2
                    have n2 : ¬ t_is (g 74) f (e - f) (t_nm 2) = 1 := fun z => ((t_is_5 (by omega)).mp z).1 hc3
                    have n3 : ¬ t_is (g 74) f (e - f) (t_nm 3) = 1 := fun z => ((t_is_4 (by omega)).mp z).1 hc4
                    have n4 : ¬ t_is (g 74) f (e - f) (t_nm 4) = 1 := fun z => ((t_is_2 (by omega)).mp z) hc5
                    have n5 : ¬ t_is (g 74) f (e - f) (t_nm 5) = 1 := fun z => ((t_is_5 (by omega)).mp z).1 hc6
                    have n6 : ¬ t_is (g 74) f (e - f) (t_nm 6) = 1 := fun z => ((t_is_4 (by omega)).mp z).2 hc8
                    unfold t_ln
                    rw [if_neg n0, if_neg n1, if_neg n2, if_neg n3, if_neg n4, if_neg n5, if_neg n6]
                    rfl
                  · refine q_ret 3 (some (.int (6 : Int32)), g, u) (fun _ _ => rfl) ?_
                    have n0 : ¬ t_is (g 74) f (e - f) (t_nm 0) = 1 := fun z => ((t_is_4 (by omega)).mp z).2 hc1
                    have n1 : ¬ t_is (g 74) f (e - f) (t_nm 1) = 1 := fun z => ((t_is_4 (by omega)).mp z).1 hc2
                    have n2 : ¬ t_is (g 74) f (e - f) (t_nm 2) = 1 := fun z => ((t_is_5 (by omega)).mp z).1 hc3
                    have n3 : ¬ t_is (g 74) f (e - f) (t_nm 3) = 1 := fun z => ((t_is_4 (by omega)).mp z).1 hc4
                    have n4 : ¬ t_is (g 74) f (e - f) (t_nm 4) = 1 := fun z => ((t_is_2 (by omega)).mp z) hc5
                    have n5 : ¬ t_is (g 74) f (e - f) (t_nm 5) = 1 := fun z => ((t_is_5 (by omega)).mp z).1 hc6
                    have y6 : t_is (g 74) f (e - f) (t_nm 6) = 1 := (t_is_4 (by omega)).mpr ⟨hc7, hc8⟩
                    unfold t_ln
                    rw [if_neg n0, if_neg n1, if_neg n2, if_neg n3, if_neg n4, if_neg n5, if_pos y6]
              · refine q_step 4 138 [(0, .ref 70)] [.int (108 : Int32), .int (108 : Int32), .int (105 : Int32), .ref 70] g u (fun big n0 => sg_nm_91 big n0 g u) ?_
                refine q_call (M2 := 158) (rest := []) (r_ends g u hs h160 hf he hfe hes _ _ _) (fun _ _ => rfl) ?_
                refine q_if_eq rfl (fun (hc7 : (t_p2 (g 74) s f (105 : Int32) (108 : Int32) (108 : Int32)) = 0) => ?_) (fun (hc7 : ¬ ((t_p2 (g 74) s f (105 : Int32) (108 : Int32) (108 : Int32)) = 0)) => ?_)
                · refine q_step 4 154 [(0, .ref 70)] [.int (111 : Int32), .int (103 : Int32), .int (4 : Int32), .ref 70] g u (fun big n0 => sg_nm_89 big n0 g u) ?_
                  refine q_call (M2 := 157) (rest := []) (r_is g u hs h160 hf he hfe hes 4 (by omega) _ _) (fun _ _ => rfl) ?_
                  refine q_if_eq rfl (fun (hc8 : (t_p1 (g 74) s f (e - f) 4 (103 : Int32) (111 : Int32)) = 0) => ?_) (fun (hc8 : ¬ ((t_p1 (g 74) s f (e - f) 4 (103 : Int32) (111 : Int32)) = 0)) => ?_)
                  · refine q_ret 2 (some (.int (Int8.toInt32 (Int8.ofInt (-4)))), g, u) (fun _ _ => rfl) ?_
                    have n0 : ¬ t_is (g 74) f (e - f) (t_nm 0) = 1 := fun z => ((t_is_4 (by omega)).mp z).2 hc1
                    have n1 : ¬ t_is (g 74) f (e - f) (t_nm 1) = 1 := fun z => ((t_is_4 (by omega)).mp z).1 hc2
                    have n2 : ¬ t_is (g 74) f (e - f) (t_nm 2) = 1 := fun z => ((t_is_5 (by omega)).mp z).1 hc3
                    have n3 : ¬ t_is (g 74) f (e - f) (t_nm 3) = 1 := fun z => ((t_is_4 (by omega)).mp z).1 hc4
                    have n4 : ¬ t_is (g 74) f (e - f) (t_nm 4) = 1 := fun z => ((t_is_2 (by omega)).mp z) hc5
                    have n5 : ¬ t_is (g 74) f (e - f) (t_nm 5) = 1 := fun z => ((t_is_5 (by omega)).mp z).2 hc7
                    have n6 : ¬ t_is (g 74) f (e - f) (t_nm 6) = 1 := fun z => ((t_is_4 (by omega)).mp z).1 hc8
                    unfold t_ln
                    rw [if_neg n0, if_neg n1, if_neg n2, if_neg n3, if_neg n4, if_neg n5, if_neg n6]
                    rfl
                  · refine q_step 4 166 [(0, .ref 70)] [.int (0 : Int32), .int (108 : Int32), .int (97 : Int32), .ref 70] g u (fun big n0 => sg_nm_90 big n0 g u) ?_
                    refine q_call (M2 := 158) (rest := []) (r_ends g u hs h160 hf he hfe hes _ _ _) (fun _ _ => rfl) ?_
                    refine q_if_eq rfl (fun (hc9 : (t_p2 (g 74) s f (97 : Int32) (108 : Int32) (0 : Int32)) = 0) => ?_) (fun (hc9 : ¬ ((t_p2 (g 74) s f (97 : Int32) (108 : Int32) (0 : Int32)) = 0)) => ?_)
                    · refine q_ret 2 (some (.int (Int8.toInt32 (Int8.ofInt (-4)))), g, u) (fun _ _ => rfl) ?_
                      have n0 : ¬ t_is (g 74) f (e - f) (t_nm 0) = 1 := fun z => ((t_is_4 (by omega)).mp z).2 hc1
                      have n1 : ¬ t_is (g 74) f (e - f) (t_nm 1) = 1 := fun z => ((t_is_4 (by omega)).mp z).1 hc2
                      have n2 : ¬ t_is (g 74) f (e - f) (t_nm 2) = 1 := fun z => ((t_is_5 (by omega)).mp z).1 hc3
                      have n3 : ¬ t_is (g 74) f (e - f) (t_nm 3) = 1 := fun z => ((t_is_4 (by omega)).mp z).1 hc4
                      have n4 : ¬ t_is (g 74) f (e - f) (t_nm 4) = 1 := fun z => ((t_is_2 (by omega)).mp z) hc5
                      have n5 : ¬ t_is (g 74) f (e - f) (t_nm 5) = 1 := fun z => ((t_is_5 (by omega)).mp z).2 hc7
                      have n6 : ¬ t_is (g 74) f (e - f) (t_nm 6) = 1 := fun z => ((t_is_4 (by omega)).mp z).2 hc9
                      unfold t_ln
                      rw [if_neg n0, if_neg n1, if_neg n2, if_neg n3, if_neg n4, if_neg n5, if_neg n6]
                      rfl
                    · refine q_ret 3 (some (.int (6 : Int32)), g, u) (fun _ _ => rfl) ?_
                      have n0 : ¬ t_is (g 74) f (e - f) (t_nm 0) = 1 := fun z => ((t_is_4 (by omega)).mp z).2 hc1
                      have n1 : ¬ t_is (g 74) f (e - f) (t_nm 1) = 1 := fun z => ((t_is_4 (by omega)).mp z).1 hc2
                      have n2 : ¬ t_is (g 74) f (e - f) (t_nm 2) = 1 := fun z => ((t_is_5 (by omega)).mp z).1 hc3
                      have n3 : ¬ t_is (g 74) f (e - f) (t_nm 3) = 1 := fun z => ((t_is_4 (by omega)).mp z).1 hc4
                      have n4 : ¬ t_is (g 74) f (e - f) (t_nm 4) = 1 := fun z => ((t_is_2 (by omega)).mp z) hc5
                      have n5 : ¬ t_is (g 74) f (e - f) (t_nm 5) = 1 := fun z => ((t_is_5 (by omega)).mp z).2 hc7
                      have y6 : t_is (g 74) f (e - f) (t_nm 6) = 1 := (t_is_4 (by omega)).mpr ⟨hc8, hc9⟩
                      unfold t_ln
                      rw [if_neg n0, if_neg n1, if_neg n2, if_neg n3, if_neg n4, if_neg n5, if_pos y6]
                · refine q_ret 3 (some (.int (5 : Int32)), g, u) (fun _ _ => rfl) ?_
                  have n0 : ¬ t_is (g 74) f (e - f) (t_nm 0) = 1 := fun z => ((t_is_4 (by omega)).mp z).2 hc1
                  have n1 : ¬ t_is (g 74) f (e - f) (t_nm 1) = 1 := fun z => ((t_is_4 (by omega)).mp z).1 hc2
                  have n2 : ¬ t_is (g 74) f (e - f) (t_nm 2) = 1 := fun z => ((t_is_5 (by omega)).mp z).1 hc3
                  have n3 : ¬ t_is (g 74) f (e - f) (t_nm 3) = 1 := fun z => ((t_is_4 (by omega)).mp z).1 hc4
                  have n4 : ¬ t_is (g 74) f (e - f) (t_nm 4) = 1 := fun z => ((t_is_2 (by omega)).mp z) hc5
                  have y5 : t_is (g 74) f (e - f) (t_nm 5) = 1 := (t_is_5 (by omega)).mpr ⟨hc6, hc7⟩
                  unfold t_ln
                  rw [if_neg n0, if_neg n1, if_neg n2, if_neg n3, if_neg n4, if_pos y5]
            · refine q_ret 2 (some (.int (4 : Int32)), g, u) (fun _ _ => rfl) ?_
              have n0 : ¬ t_is (g 74) f (e - f) (t_nm 0) = 1 := fun z => ((t_is_4 (by omega)).mp z).2 hc1
              have n1 : ¬ t_is (g 74) f (e - f) (t_nm 1) = 1 := fun z => ((t_is_4 (by omega)).mp z).1 hc2
              have n2 : ¬ t_is (g 74) f (e - f) (t_nm 2) = 1 := fun z => ((t_is_5 (by omega)).mp z).1 hc3
              have n3 : ¬ t_is (g 74) f (e - f) (t_nm 3) = 1 := fun z => ((t_is_4 (by omega)).mp z).1 hc4
              have y4 : t_is (g 74) f (e - f) (t_nm 4) = 1 := (t_is_2 (by omega)).mpr hc5
              unfold t_ln
              rw [if_neg n0, if_neg n1, if_neg n2, if_neg n3, if_pos y4]
          · refine q_step 4 97 [(0, .ref 70)] [.int (0 : Int32), .int (108 : Int32), .int (108 : Int32), .ref 70] g u (fun big n0 => sg_nm_92 big n0 g u) ?_
            refine q_call (M2 := 158) (rest := []) (r_ends g u hs h160 hf he hfe hes _ _ _) (fun _ _ => rfl) ?_
            refine q_if_eq rfl (fun (hc5 : (t_p2 (g 74) s f (108 : Int32) (108 : Int32) (0 : Int32)) = 0) => ?_) (fun (hc5 : ¬ ((t_p2 (g 74) s f (108 : Int32) (108 : Int32) (0 : Int32)) = 0)) => ?_)
            · refine q_step 4 111 [(0, .ref 70)] [.int (116 : Int32), .int (97 : Int32), .int (2 : Int32), .ref 70] g u (fun big n0 => sg_nm_87 big n0 g u) ?_
              refine q_call (M2 := 157) (rest := []) (r_is g u hs h160 hf he hfe hes 2 (by omega) _ _) (fun _ _ => rfl) ?_
              refine q_if_eq rfl (fun (hc6 : (t_p1 (g 74) s f (e - f) 2 (97 : Int32) (116 : Int32)) = 0) => ?_) (fun (hc6 : ¬ ((t_p1 (g 74) s f (e - f) 2 (97 : Int32) (116 : Int32)) = 0)) => ?_)
              · refine q_step 4 125 [(0, .ref 70)] [.int (116 : Int32), .int (115 : Int32), .int (5 : Int32), .ref 70] g u (fun big n0 => sg_nm_88 big n0 g u) ?_
                refine q_call (M2 := 157) (rest := []) (r_is g u hs h160 hf he hfe hes 5 (by omega) _ _) (fun _ _ => rfl) ?_
                refine q_if_eq rfl (fun (hc7 : (t_p1 (g 74) s f (e - f) 5 (115 : Int32) (116 : Int32)) = 0) => ?_) (fun (hc7 : ¬ ((t_p1 (g 74) s f (e - f) 5 (115 : Int32) (116 : Int32)) = 0)) => ?_)
                · refine q_step 4 154 [(0, .ref 70)] [.int (111 : Int32), .int (103 : Int32), .int (4 : Int32), .ref 70] g u (fun big n0 => sg_nm_89 big n0 g u) ?_
                  refine q_call (M2 := 157) (rest := []) (r_is g u hs h160 hf he hfe hes 4 (by omega) _ _) (fun _ _ => rfl) ?_
                  refine q_if_eq rfl (fun (hc8 : (t_p1 (g 74) s f (e - f) 4 (103 : Int32) (111 : Int32)) = 0) => ?_) (fun (hc8 : ¬ ((t_p1 (g 74) s f (e - f) 4 (103 : Int32) (111 : Int32)) = 0)) => ?_)
                  · refine q_ret 2 (some (.int (Int8.toInt32 (Int8.ofInt (-4)))), g, u) (fun _ _ => rfl) ?_
                    have n0 : ¬ t_is (g 74) f (e - f) (t_nm 0) = 1 := fun z => ((t_is_4 (by omega)).mp z).2 hc1
                    have n1 : ¬ t_is (g 74) f (e - f) (t_nm 1) = 1 := fun z => ((t_is_4 (by omega)).mp z).1 hc2
                    have n2 : ¬ t_is (g 74) f (e - f) (t_nm 2) = 1 := fun z => ((t_is_5 (by omega)).mp z).1 hc3
                    have n3 : ¬ t_is (g 74) f (e - f) (t_nm 3) = 1 := fun z => ((t_is_4 (by omega)).mp z).2 hc5
                    have n4 : ¬ t_is (g 74) f (e - f) (t_nm 4) = 1 := fun z => ((t_is_2 (by omega)).mp z) hc6
                    have n5 : ¬ t_is (g 74) f (e - f) (t_nm 5) = 1 := fun z => ((t_is_5 (by omega)).mp z).1 hc7
                    have n6 : ¬ t_is (g 74) f (e - f) (t_nm 6) = 1 := fun z => ((t_is_4 (by omega)).mp z).1 hc8
                    unfold t_ln
                    rw [if_neg n0, if_neg n1, if_neg n2, if_neg n3, if_neg n4, if_neg n5, if_neg n6]
                    rfl
                  · refine q_step 4 166 [(0, .ref 70)] [.int (0 : Int32), .int (108 : Int32), .int (97 : Int32), .ref 70] g u (fun big n0 => sg_nm_90 big n0 g u) ?_
                    refine q_call (M2 := 158) (rest := []) (r_ends g u hs h160 hf he hfe hes _ _ _) (fun _ _ => rfl) ?_
                    refine q_if_eq rfl (fun (hc9 : (t_p2 (g 74) s f (97 : Int32) (108 : Int32) (0 : Int32)) = 0) => ?_) (fun (hc9 : ¬ ((t_p2 (g 74) s f (97 : Int32) (108 : Int32) (0 : Int32)) = 0)) => ?_)
                    · refine q_ret 2 (some (.int (Int8.toInt32 (Int8.ofInt (-4)))), g, u) (fun _ _ => rfl) ?_
                      have n0 : ¬ t_is (g 74) f (e - f) (t_nm 0) = 1 := fun z => ((t_is_4 (by omega)).mp z).2 hc1
                      have n1 : ¬ t_is (g 74) f (e - f) (t_nm 1) = 1 := fun z => ((t_is_4 (by omega)).mp z).1 hc2
                      have n2 : ¬ t_is (g 74) f (e - f) (t_nm 2) = 1 := fun z => ((t_is_5 (by omega)).mp z).1 hc3
                      have n3 : ¬ t_is (g 74) f (e - f) (t_nm 3) = 1 := fun z => ((t_is_4 (by omega)).mp z).2 hc5
                      have n4 : ¬ t_is (g 74) f (e - f) (t_nm 4) = 1 := fun z => ((t_is_2 (by omega)).mp z) hc6
                      have n5 : ¬ t_is (g 74) f (e - f) (t_nm 5) = 1 := fun z => ((t_is_5 (by omega)).mp z).1 hc7
                      have n6 : ¬ t_is (g 74) f (e - f) (t_nm 6) = 1 := fun z => ((t_is_4 (by omega)).mp z).2 hc9
                      unfold t_ln
                      rw [if_neg n0, if_neg n1, if_neg n2, if_neg n3, if_neg n4, if_neg n5, if_neg n6]
                      rfl
                    · refine q_ret 3 (some (.int (6 : Int32)), g, u) (fun _ _ => rfl) ?_
                      have n0 : ¬ t_is (g 74) f (e - f) (t_nm 0) = 1 := fun z => ((t_is_4 (by omega)).mp z).2 hc1
                      have n1 : ¬ t_is (g 74) f (e - f) (t_nm 1) = 1 := fun z => ((t_is_4 (by omega)).mp z).1 hc2
                      have n2 : ¬ t_is (g 74) f (e - f) (t_nm 2) = 1 := fun z => ((t_is_5 (by omega)).mp z).1 hc3
                      have n3 : ¬ t_is (g 74) f (e - f) (t_nm 3) = 1 := fun z => ((t_is_4 (by omega)).mp z).2 hc5
                      have n4 : ¬ t_is (g 74) f (e - f) (t_nm 4) = 1 := fun z => ((t_is_2 (by omega)).mp z) hc6
                      have n5 : ¬ t_is (g 74) f (e - f) (t_nm 5) = 1 := fun z => ((t_is_5 (by omega)).mp z).1 hc7
                      have y6 : t_is (g 74) f (e - f) (t_nm 6) = 1 := (t_is_4 (by omega)).mpr ⟨hc8, hc9⟩
                      unfold t_ln
                      rw [if_neg n0, if_neg n1, if_neg n2, if_neg n3, if_neg n4, if_neg n5, if_pos y6]
                · refine q_step 4 138 [(0, .ref 70)] [.int (108 : Int32), .int (108 : Int32), .int (105 : Int32), .ref 70] g u (fun big n0 => sg_nm_91 big n0 g u) ?_
                  refine q_call (M2 := 158) (rest := []) (r_ends g u hs h160 hf he hfe hes _ _ _) (fun _ _ => rfl) ?_
                  refine q_if_eq rfl (fun (hc8 : (t_p2 (g 74) s f (105 : Int32) (108 : Int32) (108 : Int32)) = 0) => ?_) (fun (hc8 : ¬ ((t_p2 (g 74) s f (105 : Int32) (108 : Int32) (108 : Int32)) = 0)) => ?_)
                  · refine q_step 4 154 [(0, .ref 70)] [.int (111 : Int32), .int (103 : Int32), .int (4 : Int32), .ref 70] g u (fun big n0 => sg_nm_89 big n0 g u) ?_
                    refine q_call (M2 := 157) (rest := []) (r_is g u hs h160 hf he hfe hes 4 (by omega) _ _) (fun _ _ => rfl) ?_
                    refine q_if_eq rfl (fun (hc9 : (t_p1 (g 74) s f (e - f) 4 (103 : Int32) (111 : Int32)) = 0) => ?_) (fun (hc9 : ¬ ((t_p1 (g 74) s f (e - f) 4 (103 : Int32) (111 : Int32)) = 0)) => ?_)
                    · refine q_ret 2 (some (.int (Int8.toInt32 (Int8.ofInt (-4)))), g, u) (fun _ _ => rfl) ?_
                      have n0 : ¬ t_is (g 74) f (e - f) (t_nm 0) = 1 := fun z => ((t_is_4 (by omega)).mp z).2 hc1
                      have n1 : ¬ t_is (g 74) f (e - f) (t_nm 1) = 1 := fun z => ((t_is_4 (by omega)).mp z).1 hc2
                      have n2 : ¬ t_is (g 74) f (e - f) (t_nm 2) = 1 := fun z => ((t_is_5 (by omega)).mp z).1 hc3
                      have n3 : ¬ t_is (g 74) f (e - f) (t_nm 3) = 1 := fun z => ((t_is_4 (by omega)).mp z).2 hc5
                      have n4 : ¬ t_is (g 74) f (e - f) (t_nm 4) = 1 := fun z => ((t_is_2 (by omega)).mp z) hc6
                      have n5 : ¬ t_is (g 74) f (e - f) (t_nm 5) = 1 := fun z => ((t_is_5 (by omega)).mp z).2 hc8
                      have n6 : ¬ t_is (g 74) f (e - f) (t_nm 6) = 1 := fun z => ((t_is_4 (by omega)).mp z).1 hc9
                      unfold t_ln
                      rw [if_neg n0, if_neg n1, if_neg n2, if_neg n3, if_neg n4, if_neg n5, if_neg n6]
                      rfl
                    · refine q_step 4 166 [(0, .ref 70)] [.int (0 : Int32), .int (108 : Int32), .int (97 : Int32), .ref 70] g u (fun big n0 => sg_nm_90 big n0 g u) ?_
                      refine q_call (M2 := 158) (rest := []) (r_ends g u hs h160 hf he hfe hes _ _ _) (fun _ _ => rfl) ?_
                      refine q_if_eq rfl (fun (hc10 : (t_p2 (g 74) s f (97 : Int32) (108 : Int32) (0 : Int32)) = 0) => ?_) (fun (hc10 : ¬ ((t_p2 (g 74) s f (97 : Int32) (108 : Int32) (0 : Int32)) = 0)) => ?_)
                      · refine q_ret 2 (some (.int (Int8.toInt32 (Int8.ofInt (-4)))), g, u) (fun _ _ => rfl) ?_
                        have n0 : ¬ t_is (g 74) f (e - f) (t_nm 0) = 1 := fun z => ((t_is_4 (by omega)).mp z).2 hc1
                        have n1 : ¬ t_is (g 74) f (e - f) (t_nm 1) = 1 := fun z => ((t_is_4 (by omega)).mp z).1 hc2
                        have n2 : ¬ t_is (g 74) f (e - f) (t_nm 2) = 1 := fun z => ((t_is_5 (by omega)).mp z).1 hc3
                        have n3 : ¬ t_is (g 74) f (e - f) (t_nm 3) = 1 := fun z => ((t_is_4 (by omega)).mp z).2 hc5
                        have n4 : ¬ t_is (g 74) f (e - f) (t_nm 4) = 1 := fun z => ((t_is_2 (by omega)).mp z) hc6
                        have n5 : ¬ t_is (g 74) f (e - f) (t_nm 5) = 1 := fun z => ((t_is_5 (by omega)).mp z).2 hc8
                        have n6 : ¬ t_is (g 74) f (e - f) (t_nm 6) = 1 := fun z => ((t_is_4 (by omega)).mp z).2 hc10
                        unfold t_ln
                        rw [if_neg n0, if_neg n1, if_neg n2, if_neg n3, if_neg n4, if_neg n5, if_neg n6]
                        rfl
                      · refine q_ret 3 (some (.int (6 : Int32)), g, u) (fun _ _ => rfl) ?_
                        have n0 : ¬ t_is (g 74) f (e - f) (t_nm 0) = 1 := fun z => ((t_is_4 (by omega)).mp z).2 hc1
                        have n1 : ¬ t_is (g 74) f (e - f) (t_nm 1) = 1 := fun z => ((t_is_4 (by omega)).mp z).1 hc2
                        have n2 : ¬ t_is (g 74) f (e - f) (t_nm 2) = 1 := fun z => ((t_is_5 (by omega)).mp z).1 hc3
                        have n3 : ¬ t_is (g 74) f (e - f) (t_nm 3) = 1 := fun z => ((t_is_4 (by omega)).mp z).2 hc5
                        have n4 : ¬ t_is (g 74) f (e - f) (t_nm 4) = 1 := fun z => ((t_is_2 (by omega)).mp z) hc6
                        have n5 : ¬ t_is (g 74) f (e - f) (t_nm 5) = 1 := fun z => ((t_is_5 (by omega)).mp z).2 hc8
                        have y6 : t_is (g 74) f (e - f) (t_nm 6) = 1 := (t_is_4 (by omega)).mpr ⟨hc9, hc10⟩
                        unfold t_ln
                        rw [if_neg n0, if_neg n1, if_neg n2, if_neg n3, if_neg n4, if_neg n5, if_pos y6]
                  · refine q_ret 3 (some (.int (5 : Int32)), g, u) (fun _ _ => rfl) ?_
                    have n0 : ¬ t_is (g 74) f (e - f) (t_nm 0) = 1 := fun z => ((t_is_4 (by omega)).mp z).2 hc1
                    have n1 : ¬ t_is (g 74) f (e - f) (t_nm 1) = 1 := fun z => ((t_is_4 (by omega)).mp z).1 hc2
                    have n2 : ¬ t_is (g 74) f (e - f) (t_nm 2) = 1 := fun z => ((t_is_5 (by omega)).mp z).1 hc3
                    have n3 : ¬ t_is (g 74) f (e - f) (t_nm 3) = 1 := fun z => ((t_is_4 (by omega)).mp z).2 hc5
                    have n4 : ¬ t_is (g 74) f (e - f) (t_nm 4) = 1 := fun z => ((t_is_2 (by omega)).mp z) hc6
                    have y5 : t_is (g 74) f (e - f) (t_nm 5) = 1 := (t_is_5 (by omega)).mpr ⟨hc7, hc8⟩
                    unfold t_ln
                    rw [if_neg n0, if_neg n1, if_neg n2, if_neg n3, if_neg n4, if_pos y5]
              · refine q_ret 2 (some (.int (4 : Int32)), g, u) (fun _ _ => rfl) ?_
                have n0 : ¬ t_is (g 74) f (e - f) (t_nm 0) = 1 := fun z => ((t_is_4 (by omega)).mp z).2 hc1
                have n1 : ¬ t_is (g 74) f (e - f) (t_nm 1) = 1 := fun z => ((t_is_4 (by omega)).mp z).1 hc2
                have n2 : ¬ t_is (g 74) f (e - f) (t_nm 2) = 1 := fun z => ((t_is_5 (by omega)).mp z).1 hc3
                have n3 : ¬ t_is (g 74) f (e - f) (t_nm 3) = 1 := fun z => ((t_is_4 (by omega)).mp z).2 hc5
                have y4 : t_is (g 74) f (e - f) (t_nm 4) = 1 := (t_is_2 (by omega)).mpr hc6
                unfold t_ln
                rw [if_neg n0, if_neg n1, if_neg n2, if_neg n3, if_pos y4]
            · refine q_ret 2 (some (.int (3 : Int32)), g, u) (fun _ _ => rfl) ?_
              have n0 : ¬ t_is (g 74) f (e - f) (t_nm 0) = 1 := fun z => ((t_is_4 (by omega)).mp z).2 hc1
              have n1 : ¬ t_is (g 74) f (e - f) (t_nm 1) = 1 := fun z => ((t_is_4 (by omega)).mp z).1 hc2
              have n2 : ¬ t_is (g 74) f (e - f) (t_nm 2) = 1 := fun z => ((t_is_5 (by omega)).mp z).1 hc3
              have y3 : t_is (g 74) f (e - f) (t_nm 3) = 1 := (t_is_4 (by omega)).mpr ⟨hc4, hc5⟩
              unfold t_ln
              rw [if_neg n0, if_neg n1, if_neg n2, if_pos y3]
        · refine q_step 4 71 [(0, .ref 70)] [.int (115 : Int32), .int (115 : Int32), .int (101 : Int32), .ref 70] g u (fun big n0 => sg_nm_93 big n0 g u) ?_
          refine q_call (M2 := 158) (rest := []) (r_ends g u hs h160 hf he hfe hes _ _ _) (fun _ _ => rfl) ?_
          refine q_if_eq rfl (fun (hc4 : (t_p2 (g 74) s f (101 : Int32) (115 : Int32) (115 : Int32)) = 0) => ?_) (fun (hc4 : ¬ ((t_p2 (g 74) s f (101 : Int32) (115 : Int32) (115 : Int32)) = 0)) => ?_)
          · refine q_step 4 85 [(0, .ref 70)] [.int (97 : Int32), .int (119 : Int32), .int (4 : Int32), .ref 70] g u (fun big n0 => sg_nm_86 big n0 g u) ?_
            refine q_call (M2 := 157) (rest := []) (r_is g u hs h160 hf he hfe hes 4 (by omega) _ _) (fun _ _ => rfl) ?_
            refine q_if_eq rfl (fun (hc5 : (t_p1 (g 74) s f (e - f) 4 (119 : Int32) (97 : Int32)) = 0) => ?_) (fun (hc5 : ¬ ((t_p1 (g 74) s f (e - f) 4 (119 : Int32) (97 : Int32)) = 0)) => ?_)
            · refine q_step 4 111 [(0, .ref 70)] [.int (116 : Int32), .int (97 : Int32), .int (2 : Int32), .ref 70] g u (fun big n0 => sg_nm_87 big n0 g u) ?_
              refine q_call (M2 := 157) (rest := []) (r_is g u hs h160 hf he hfe hes 2 (by omega) _ _) (fun _ _ => rfl) ?_
              refine q_if_eq rfl (fun (hc6 : (t_p1 (g 74) s f (e - f) 2 (97 : Int32) (116 : Int32)) = 0) => ?_) (fun (hc6 : ¬ ((t_p1 (g 74) s f (e - f) 2 (97 : Int32) (116 : Int32)) = 0)) => ?_)
              · refine q_step 4 125 [(0, .ref 70)] [.int (116 : Int32), .int (115 : Int32), .int (5 : Int32), .ref 70] g u (fun big n0 => sg_nm_88 big n0 g u) ?_
                refine q_call (M2 := 157) (rest := []) (r_is g u hs h160 hf he hfe hes 5 (by omega) _ _) (fun _ _ => rfl) ?_
                refine q_if_eq rfl (fun (hc7 : (t_p1 (g 74) s f (e - f) 5 (115 : Int32) (116 : Int32)) = 0) => ?_) (fun (hc7 : ¬ ((t_p1 (g 74) s f (e - f) 5 (115 : Int32) (116 : Int32)) = 0)) => ?_)
                · refine q_step 4 154 [(0, .ref 70)] [.int (111 : Int32), .int (103 : Int32), .int (4 : Int32), .ref 70] g u (fun big n0 => sg_nm_89 big n0 g u) ?_
                  refine q_call (M2 := 157) (rest := []) (r_is g u hs h160 hf he hfe hes 4 (by omega) _ _) (fun _ _ => rfl) ?_
                  refine q_if_eq rfl (fun (hc8 : (t_p1 (g 74) s f (e - f) 4 (103 : Int32) (111 : Int32)) = 0) => ?_) (fun (hc8 : ¬ ((t_p1 (g 74) s f (e - f) 4 (103 : Int32) (111 : Int32)) = 0)) => ?_)
                  · refine q_ret 2 (some (.int (Int8.toInt32 (Int8.ofInt (-4)))), g, u) (fun _ _ => rfl) ?_
                    have n0 : ¬ t_is (g 74) f (e - f) (t_nm 0) = 1 := fun z => ((t_is_4 (by omega)).mp z).2 hc1
                    have n1 : ¬ t_is (g 74) f (e - f) (t_nm 1) = 1 := fun z => ((t_is_4 (by omega)).mp z).1 hc2
                    have n2 : ¬ t_is (g 74) f (e - f) (t_nm 2) = 1 := fun z => ((t_is_5 (by omega)).mp z).2 hc4
                    have n3 : ¬ t_is (g 74) f (e - f) (t_nm 3) = 1 := fun z => ((t_is_4 (by omega)).mp z).1 hc5
                    have n4 : ¬ t_is (g 74) f (e - f) (t_nm 4) = 1 := fun z => ((t_is_2 (by omega)).mp z) hc6
                    have n5 : ¬ t_is (g 74) f (e - f) (t_nm 5) = 1 := fun z => ((t_is_5 (by omega)).mp z).1 hc7
                    have n6 : ¬ t_is (g 74) f (e - f) (t_nm 6) = 1 := fun z => ((t_is_4 (by omega)).mp z).1 hc8
                    unfold t_ln
                    rw [if_neg n0, if_neg n1, if_neg n2, if_neg n3, if_neg n4, if_neg n5, if_neg n6]
                    rfl
                  · refine q_step 4 166 [(0, .ref 70)] [.int (0 : Int32), .int (108 : Int32), .int (97 : Int32), .ref 70] g u (fun big n0 => sg_nm_90 big n0 g u) ?_
                    refine q_call (M2 := 158) (rest := []) (r_ends g u hs h160 hf he hfe hes _ _ _) (fun _ _ => rfl) ?_
                    refine q_if_eq rfl (fun (hc9 : (t_p2 (g 74) s f (97 : Int32) (108 : Int32) (0 : Int32)) = 0) => ?_) (fun (hc9 : ¬ ((t_p2 (g 74) s f (97 : Int32) (108 : Int32) (0 : Int32)) = 0)) => ?_)
                    · refine q_ret 2 (some (.int (Int8.toInt32 (Int8.ofInt (-4)))), g, u) (fun _ _ => rfl) ?_
                      have n0 : ¬ t_is (g 74) f (e - f) (t_nm 0) = 1 := fun z => ((t_is_4 (by omega)).mp z).2 hc1
                      have n1 : ¬ t_is (g 74) f (e - f) (t_nm 1) = 1 := fun z => ((t_is_4 (by omega)).mp z).1 hc2
                      have n2 : ¬ t_is (g 74) f (e - f) (t_nm 2) = 1 := fun z => ((t_is_5 (by omega)).mp z).2 hc4
                      have n3 : ¬ t_is (g 74) f (e - f) (t_nm 3) = 1 := fun z => ((t_is_4 (by omega)).mp z).1 hc5
                      have n4 : ¬ t_is (g 74) f (e - f) (t_nm 4) = 1 := fun z => ((t_is_2 (by omega)).mp z) hc6
                      have n5 : ¬ t_is (g 74) f (e - f) (t_nm 5) = 1 := fun z => ((t_is_5 (by omega)).mp z).1 hc7
                      have n6 : ¬ t_is (g 74) f (e - f) (t_nm 6) = 1 := fun z => ((t_is_4 (by omega)).mp z).2 hc9
                      unfold t_ln
                      rw [if_neg n0, if_neg n1, if_neg n2, if_neg n3, if_neg n4, if_neg n5, if_neg n6]
                      rfl
                    · refine q_ret 3 (some (.int (6 : Int32)), g, u) (fun _ _ => rfl) ?_
                      have n0 : ¬ t_is (g 74) f (e - f) (t_nm 0) = 1 := fun z => ((t_is_4 (by omega)).mp z).2 hc1
                      have n1 : ¬ t_is (g 74) f (e - f) (t_nm 1) = 1 := fun z => ((t_is_4 (by omega)).mp z).1 hc2
                      have n2 : ¬ t_is (g 74) f (e - f) (t_nm 2) = 1 := fun z => ((t_is_5 (by omega)).mp z).2 hc4
                      have n3 : ¬ t_is (g 74) f (e - f) (t_nm 3) = 1 := fun z => ((t_is_4 (by omega)).mp z).1 hc5
                      have n4 : ¬ t_is (g 74) f (e - f) (t_nm 4) = 1 := fun z => ((t_is_2 (by omega)).mp z) hc6
                      have n5 : ¬ t_is (g 74) f (e - f) (t_nm 5) = 1 := fun z => ((t_is_5 (by omega)).mp z).1 hc7
                      have y6 : t_is (g 74) f (e - f) (t_nm 6) = 1 := (t_is_4 (by omega)).mpr ⟨hc8, hc9⟩
                      unfold t_ln
                      rw [if_neg n0, if_neg n1, if_neg n2, if_neg n3, if_neg n4, if_neg n5, if_pos y6]
                · refine q_step 4 138 [(0, .ref 70)] [.int (108 : Int32), .int (108 : Int32), .int (105 : Int32), .ref 70] g u (fun big n0 => sg_nm_91 big n0 g u) ?_
                  refine q_call (M2 := 158) (rest := []) (r_ends g u hs h160 hf he hfe hes _ _ _) (fun _ _ => rfl) ?_
                  refine q_if_eq rfl (fun (hc8 : (t_p2 (g 74) s f (105 : Int32) (108 : Int32) (108 : Int32)) = 0) => ?_) (fun (hc8 : ¬ ((t_p2 (g 74) s f (105 : Int32) (108 : Int32) (108 : Int32)) = 0)) => ?_)
                  · refine q_step 4 154 [(0, .ref 70)] [.int (111 : Int32), .int (103 : Int32), .int (4 : Int32), .ref 70] g u (fun big n0 => sg_nm_89 big n0 g u) ?_
                    refine q_call (M2 := 157) (rest := []) (r_is g u hs h160 hf he hfe hes 4 (by omega) _ _) (fun _ _ => rfl) ?_
                    refine q_if_eq rfl (fun (hc9 : (t_p1 (g 74) s f (e - f) 4 (103 : Int32) (111 : Int32)) = 0) => ?_) (fun (hc9 : ¬ ((t_p1 (g 74) s f (e - f) 4 (103 : Int32) (111 : Int32)) = 0)) => ?_)
                    · refine q_ret 2 (some (.int (Int8.toInt32 (Int8.ofInt (-4)))), g, u) (fun _ _ => rfl) ?_
                      have n0 : ¬ t_is (g 74) f (e - f) (t_nm 0) = 1 := fun z => ((t_is_4 (by omega)).mp z).2 hc1
                      have n1 : ¬ t_is (g 74) f (e - f) (t_nm 1) = 1 := fun z => ((t_is_4 (by omega)).mp z).1 hc2
                      have n2 : ¬ t_is (g 74) f (e - f) (t_nm 2) = 1 := fun z => ((t_is_5 (by omega)).mp z).2 hc4
                      have n3 : ¬ t_is (g 74) f (e - f) (t_nm 3) = 1 := fun z => ((t_is_4 (by omega)).mp z).1 hc5
                      have n4 : ¬ t_is (g 74) f (e - f) (t_nm 4) = 1 := fun z => ((t_is_2 (by omega)).mp z) hc6
                      have n5 : ¬ t_is (g 74) f (e - f) (t_nm 5) = 1 := fun z => ((t_is_5 (by omega)).mp z).2 hc8
                      have n6 : ¬ t_is (g 74) f (e - f) (t_nm 6) = 1 := fun z => ((t_is_4 (by omega)).mp z).1 hc9
                      unfold t_ln
                      rw [if_neg n0, if_neg n1, if_neg n2, if_neg n3, if_neg n4, if_neg n5, if_neg n6]
                      rfl
                    · refine q_step 4 166 [(0, .ref 70)] [.int (0 : Int32), .int (108 : Int32), .int (97 : Int32), .ref 70] g u (fun big n0 => sg_nm_90 big n0 g u) ?_
                      refine q_call (M2 := 158) (rest := []) (r_ends g u hs h160 hf he hfe hes _ _ _) (fun _ _ => rfl) ?_
                      refine q_if_eq rfl (fun (hc10 : (t_p2 (g 74) s f (97 : Int32) (108 : Int32) (0 : Int32)) = 0) => ?_) (fun (hc10 : ¬ ((t_p2 (g 74) s f (97 : Int32) (108 : Int32) (0 : Int32)) = 0)) => ?_)
                      · refine q_ret 2 (some (.int (Int8.toInt32 (Int8.ofInt (-4)))), g, u) (fun _ _ => rfl) ?_
                        have n0 : ¬ t_is (g 74) f (e - f) (t_nm 0) = 1 := fun z => ((t_is_4 (by omega)).mp z).2 hc1
                        have n1 : ¬ t_is (g 74) f (e - f) (t_nm 1) = 1 := fun z => ((t_is_4 (by omega)).mp z).1 hc2
                        have n2 : ¬ t_is (g 74) f (e - f) (t_nm 2) = 1 := fun z => ((t_is_5 (by omega)).mp z).2 hc4
                        have n3 : ¬ t_is (g 74) f (e - f) (t_nm 3) = 1 := fun z => ((t_is_4 (by omega)).mp z).1 hc5
                        have n4 : ¬ t_is (g 74) f (e - f) (t_nm 4) = 1 := fun z => ((t_is_2 (by omega)).mp z) hc6
                        have n5 : ¬ t_is (g 74) f (e - f) (t_nm 5) = 1 := fun z => ((t_is_5 (by omega)).mp z).2 hc8
                        have n6 : ¬ t_is (g 74) f (e - f) (t_nm 6) = 1 := fun z => ((t_is_4 (by omega)).mp z).2 hc10
                        unfold t_ln
                        rw [if_neg n0, if_neg n1, if_neg n2, if_neg n3, if_neg n4, if_neg n5, if_neg n6]
                        rfl
                      · refine q_ret 3 (some (.int (6 : Int32)), g, u) (fun _ _ => rfl) ?_
                        have n0 : ¬ t_is (g 74) f (e - f) (t_nm 0) = 1 := fun z => ((t_is_4 (by omega)).mp z).2 hc1
                        have n1 : ¬ t_is (g 74) f (e - f) (t_nm 1) = 1 := fun z => ((t_is_4 (by omega)).mp z).1 hc2
                        have n2 : ¬ t_is (g 74) f (e - f) (t_nm 2) = 1 := fun z => ((t_is_5 (by omega)).mp z).2 hc4
                        have n3 : ¬ t_is (g 74) f (e - f) (t_nm 3) = 1 := fun z => ((t_is_4 (by omega)).mp z).1 hc5
                        have n4 : ¬ t_is (g 74) f (e - f) (t_nm 4) = 1 := fun z => ((t_is_2 (by omega)).mp z) hc6
                        have n5 : ¬ t_is (g 74) f (e - f) (t_nm 5) = 1 := fun z => ((t_is_5 (by omega)).mp z).2 hc8
                        have y6 : t_is (g 74) f (e - f) (t_nm 6) = 1 := (t_is_4 (by omega)).mpr ⟨hc9, hc10⟩
                        unfold t_ln
                        rw [if_neg n0, if_neg n1, if_neg n2, if_neg n3, if_neg n4, if_neg n5, if_pos y6]
                  · refine q_ret 3 (some (.int (5 : Int32)), g, u) (fun _ _ => rfl) ?_
                    have n0 : ¬ t_is (g 74) f (e - f) (t_nm 0) = 1 := fun z => ((t_is_4 (by omega)).mp z).2 hc1
                    have n1 : ¬ t_is (g 74) f (e - f) (t_nm 1) = 1 := fun z => ((t_is_4 (by omega)).mp z).1 hc2
                    have n2 : ¬ t_is (g 74) f (e - f) (t_nm 2) = 1 := fun z => ((t_is_5 (by omega)).mp z).2 hc4
                    have n3 : ¬ t_is (g 74) f (e - f) (t_nm 3) = 1 := fun z => ((t_is_4 (by omega)).mp z).1 hc5
                    have n4 : ¬ t_is (g 74) f (e - f) (t_nm 4) = 1 := fun z => ((t_is_2 (by omega)).mp z) hc6
                    have y5 : t_is (g 74) f (e - f) (t_nm 5) = 1 := (t_is_5 (by omega)).mpr ⟨hc7, hc8⟩
                    unfold t_ln
                    rw [if_neg n0, if_neg n1, if_neg n2, if_neg n3, if_neg n4, if_pos y5]
              · refine q_ret 2 (some (.int (4 : Int32)), g, u) (fun _ _ => rfl) ?_
                have n0 : ¬ t_is (g 74) f (e - f) (t_nm 0) = 1 := fun z => ((t_is_4 (by omega)).mp z).2 hc1
                have n1 : ¬ t_is (g 74) f (e - f) (t_nm 1) = 1 := fun z => ((t_is_4 (by omega)).mp z).1 hc2
                have n2 : ¬ t_is (g 74) f (e - f) (t_nm 2) = 1 := fun z => ((t_is_5 (by omega)).mp z).2 hc4
                have n3 : ¬ t_is (g 74) f (e - f) (t_nm 3) = 1 := fun z => ((t_is_4 (by omega)).mp z).1 hc5
                have y4 : t_is (g 74) f (e - f) (t_nm 4) = 1 := (t_is_2 (by omega)).mpr hc6
                unfold t_ln
                rw [if_neg n0, if_neg n1, if_neg n2, if_neg n3, if_pos y4]
            · refine q_step 4 97 [(0, .ref 70)] [.int (0 : Int32), .int (108 : Int32), .int (108 : Int32), .ref 70] g u (fun big n0 => sg_nm_92 big n0 g u) ?_
              refine q_call (M2 := 158) (rest := []) (r_ends g u hs h160 hf he hfe hes _ _ _) (fun _ _ => rfl) ?_
              refine q_if_eq rfl (fun (hc6 : (t_p2 (g 74) s f (108 : Int32) (108 : Int32) (0 : Int32)) = 0) => ?_) (fun (hc6 : ¬ ((t_p2 (g 74) s f (108 : Int32) (108 : Int32) (0 : Int32)) = 0)) => ?_)
              · refine q_step 4 111 [(0, .ref 70)] [.int (116 : Int32), .int (97 : Int32), .int (2 : Int32), .ref 70] g u (fun big n0 => sg_nm_87 big n0 g u) ?_
                refine q_call (M2 := 157) (rest := []) (r_is g u hs h160 hf he hfe hes 2 (by omega) _ _) (fun _ _ => rfl) ?_
                refine q_if_eq rfl (fun (hc7 : (t_p1 (g 74) s f (e - f) 2 (97 : Int32) (116 : Int32)) = 0) => ?_) (fun (hc7 : ¬ ((t_p1 (g 74) s f (e - f) 2 (97 : Int32) (116 : Int32)) = 0)) => ?_)
                · refine q_step 4 125 [(0, .ref 70)] [.int (116 : Int32), .int (115 : Int32), .int (5 : Int32), .ref 70] g u (fun big n0 => sg_nm_88 big n0 g u) ?_
                  refine q_call (M2 := 157) (rest := []) (r_is g u hs h160 hf he hfe hes 5 (by omega) _ _) (fun _ _ => rfl) ?_
                  refine q_if_eq rfl (fun (hc8 : (t_p1 (g 74) s f (e - f) 5 (115 : Int32) (116 : Int32)) = 0) => ?_) (fun (hc8 : ¬ ((t_p1 (g 74) s f (e - f) 5 (115 : Int32) (116 : Int32)) = 0)) => ?_)
                  · refine q_step 4 154 [(0, .ref 70)] [.int (111 : Int32), .int (103 : Int32), .int (4 : Int32), .ref 70] g u (fun big n0 => sg_nm_89 big n0 g u) ?_
                    refine q_call (M2 := 157) (rest := []) (r_is g u hs h160 hf he hfe hes 4 (by omega) _ _) (fun _ _ => rfl) ?_
                    refine q_if_eq rfl (fun (hc9 : (t_p1 (g 74) s f (e - f) 4 (103 : Int32) (111 : Int32)) = 0) => ?_) (fun (hc9 : ¬ ((t_p1 (g 74) s f (e - f) 4 (103 : Int32) (111 : Int32)) = 0)) => ?_)
                    · refine q_ret 2 (some (.int (Int8.toInt32 (Int8.ofInt (-4)))), g, u) (fun _ _ => rfl) ?_
                      have n0 : ¬ t_is (g 74) f (e - f) (t_nm 0) = 1 := fun z => ((t_is_4 (by omega)).mp z).2 hc1
                      have n1 : ¬ t_is (g 74) f (e - f) (t_nm 1) = 1 := fun z => ((t_is_4 (by omega)).mp z).1 hc2
                      have n2 : ¬ t_is (g 74) f (e - f) (t_nm 2) = 1 := fun z => ((t_is_5 (by omega)).mp z).2 hc4
                      have n3 : ¬ t_is (g 74) f (e - f) (t_nm 3) = 1 := fun z => ((t_is_4 (by omega)).mp z).2 hc6
                      have n4 : ¬ t_is (g 74) f (e - f) (t_nm 4) = 1 := fun z => ((t_is_2 (by omega)).mp z) hc7
                      have n5 : ¬ t_is (g 74) f (e - f) (t_nm 5) = 1 := fun z => ((t_is_5 (by omega)).mp z).1 hc8
                      have n6 : ¬ t_is (g 74) f (e - f) (t_nm 6) = 1 := fun z => ((t_is_4 (by omega)).mp z).1 hc9
                      unfold t_ln
                      rw [if_neg n0, if_neg n1, if_neg n2, if_neg n3, if_neg n4, if_neg n5, if_neg n6]
                      rfl
                    · refine q_step 4 166 [(0, .ref 70)] [.int (0 : Int32), .int (108 : Int32), .int (97 : Int32), .ref 70] g u (fun big n0 => sg_nm_90 big n0 g u) ?_
                      refine q_call (M2 := 158) (rest := []) (r_ends g u hs h160 hf he hfe hes _ _ _) (fun _ _ => rfl) ?_
                      refine q_if_eq rfl (fun (hc10 : (t_p2 (g 74) s f (97 : Int32) (108 : Int32) (0 : Int32)) = 0) => ?_) (fun (hc10 : ¬ ((t_p2 (g 74) s f (97 : Int32) (108 : Int32) (0 : Int32)) = 0)) => ?_)
                      · refine q_ret 2 (some (.int (Int8.toInt32 (Int8.ofInt (-4)))), g, u) (fun _ _ => rfl) ?_
                        have n0 : ¬ t_is (g 74) f (e - f) (t_nm 0) = 1 := fun z => ((t_is_4 (by omega)).mp z).2 hc1
                        have n1 : ¬ t_is (g 74) f (e - f) (t_nm 1) = 1 := fun z => ((t_is_4 (by omega)).mp z).1 hc2
                        have n2 : ¬ t_is (g 74) f (e - f) (t_nm 2) = 1 := fun z => ((t_is_5 (by omega)).mp z).2 hc4
                        have n3 : ¬ t_is (g 74) f (e - f) (t_nm 3) = 1 := fun z => ((t_is_4 (by omega)).mp z).2 hc6
                        have n4 : ¬ t_is (g 74) f (e - f) (t_nm 4) = 1 := fun z => ((t_is_2 (by omega)).mp z) hc7
                        have n5 : ¬ t_is (g 74) f (e - f) (t_nm 5) = 1 := fun z => ((t_is_5 (by omega)).mp z).1 hc8
                        have n6 : ¬ t_is (g 74) f (e - f) (t_nm 6) = 1 := fun z => ((t_is_4 (by omega)).mp z).2 hc10
                        unfold t_ln
                        rw [if_neg n0, if_neg n1, if_neg n2, if_neg n3, if_neg n4, if_neg n5, if_neg n6]
                        rfl
                      · refine q_ret 3 (some (.int (6 : Int32)), g, u) (fun _ _ => rfl) ?_
                        have n0 : ¬ t_is (g 74) f (e - f) (t_nm 0) = 1 := fun z => ((t_is_4 (by omega)).mp z).2 hc1
                        have n1 : ¬ t_is (g 74) f (e - f) (t_nm 1) = 1 := fun z => ((t_is_4 (by omega)).mp z).1 hc2
                        have n2 : ¬ t_is (g 74) f (e - f) (t_nm 2) = 1 := fun z => ((t_is_5 (by omega)).mp z).2 hc4
                        have n3 : ¬ t_is (g 74) f (e - f) (t_nm 3) = 1 := fun z => ((t_is_4 (by omega)).mp z).2 hc6
                        have n4 : ¬ t_is (g 74) f (e - f) (t_nm 4) = 1 := fun z => ((t_is_2 (by omega)).mp z) hc7
                        have n5 : ¬ t_is (g 74) f (e - f) (t_nm 5) = 1 := fun z => ((t_is_5 (by omega)).mp z).1 hc8
                        have y6 : t_is (g 74) f (e - f) (t_nm 6) = 1 := (t_is_4 (by omega)).mpr ⟨hc9, hc10⟩
                        unfold t_ln
                        rw [if_neg n0, if_neg n1, if_neg n2, if_neg n3, if_neg n4, if_neg n5, if_pos y6]
                  · refine q_step 4 138 [(0, .ref 70)] [.int (108 : Int32), .int (108 : Int32), .int (105 : Int32), .ref 70] g u (fun big n0 => sg_nm_91 big n0 g u) ?_
                    refine q_call (M2 := 158) (rest := []) (r_ends g u hs h160 hf he hfe hes _ _ _) (fun _ _ => rfl) ?_
                    refine q_if_eq rfl (fun (hc9 : (t_p2 (g 74) s f (105 : Int32) (108 : Int32) (108 : Int32)) = 0) => ?_) (fun (hc9 : ¬ ((t_p2 (g 74) s f (105 : Int32) (108 : Int32) (108 : Int32)) = 0)) => ?_)
                    · refine q_step 4 154 [(0, .ref 70)] [.int (111 : Int32), .int (103 : Int32), .int (4 : Int32), .ref 70] g u (fun big n0 => sg_nm_89 big n0 g u) ?_
                      refine q_call (M2 := 157) (rest := []) (r_is g u hs h160 hf he hfe hes 4 (by omega) _ _) (fun _ _ => rfl) ?_
                      refine q_if_eq rfl (fun (hc10 : (t_p1 (g 74) s f (e - f) 4 (103 : Int32) (111 : Int32)) = 0) => ?_) (fun (hc10 : ¬ ((t_p1 (g 74) s f (e - f) 4 (103 : Int32) (111 : Int32)) = 0)) => ?_)
                      · refine q_ret 2 (some (.int (Int8.toInt32 (Int8.ofInt (-4)))), g, u) (fun _ _ => rfl) ?_
                        have n0 : ¬ t_is (g 74) f (e - f) (t_nm 0) = 1 := fun z => ((t_is_4 (by omega)).mp z).2 hc1
                        have n1 : ¬ t_is (g 74) f (e - f) (t_nm 1) = 1 := fun z => ((t_is_4 (by omega)).mp z).1 hc2
                        have n2 : ¬ t_is (g 74) f (e - f) (t_nm 2) = 1 := fun z => ((t_is_5 (by omega)).mp z).2 hc4
                        have n3 : ¬ t_is (g 74) f (e - f) (t_nm 3) = 1 := fun z => ((t_is_4 (by omega)).mp z).2 hc6
                        have n4 : ¬ t_is (g 74) f (e - f) (t_nm 4) = 1 := fun z => ((t_is_2 (by omega)).mp z) hc7
                        have n5 : ¬ t_is (g 74) f (e - f) (t_nm 5) = 1 := fun z => ((t_is_5 (by omega)).mp z).2 hc9
                        have n6 : ¬ t_is (g 74) f (e - f) (t_nm 6) = 1 := fun z => ((t_is_4 (by omega)).mp z).1 hc10
                        unfold t_ln
                        rw [if_neg n0, if_neg n1, if_neg n2, if_neg n3, if_neg n4, if_neg n5, if_neg n6]
                        rfl
                      · refine q_step 4 166 [(0, .ref 70)] [.int (0 : Int32), .int (108 : Int32), .int (97 : Int32), .ref 70] g u (fun big n0 => sg_nm_90 big n0 g u) ?_
                        refine q_call (M2 := 158) (rest := []) (r_ends g u hs h160 hf he hfe hes _ _ _) (fun _ _ => rfl) ?_
                        refine q_if_eq rfl (fun (hc11 : (t_p2 (g 74) s f (97 : Int32) (108 : Int32) (0 : Int32)) = 0) => ?_) (fun (hc11 : ¬ ((t_p2 (g 74) s f (97 : Int32) (108 : Int32) (0 : Int32)) = 0)) => ?_)
                        · refine q_ret 2 (some (.int (Int8.toInt32 (Int8.ofInt (-4)))), g, u) (fun _ _ => rfl) ?_
                          have n0 : ¬ t_is (g 74) f (e - f) (t_nm 0) = 1 := fun z => ((t_is_4 (by omega)).mp z).2 hc1
                          have n1 : ¬ t_is (g 74) f (e - f) (t_nm 1) = 1 := fun z => ((t_is_4 (by omega)).mp z).1 hc2
                          have n2 : ¬ t_is (g 74) f (e - f) (t_nm 2) = 1 := fun z => ((t_is_5 (by omega)).mp z).2 hc4
                          have n3 : ¬ t_is (g 74) f (e - f) (t_nm 3) = 1 := fun z => ((t_is_4 (by omega)).mp z).2 hc6
                          have n4 : ¬ t_is (g 74) f (e - f) (t_nm 4) = 1 := fun z => ((t_is_2 (by omega)).mp z) hc7
                          have n5 : ¬ t_is (g 74) f (e - f) (t_nm 5) = 1 := fun z => ((t_is_5 (by omega)).mp z).2 hc9
                          have n6 : ¬ t_is (g 74) f (e - f) (t_nm 6) = 1 := fun z => ((t_is_4 (by omega)).mp z).2 hc11
                          unfold t_ln
                          rw [if_neg n0, if_neg n1, if_neg n2, if_neg n3, if_neg n4, if_neg n5, if_neg n6]
                          rfl
                        · refine q_ret 3 (some (.int (6 : Int32)), g, u) (fun _ _ => rfl) ?_
                          have n0 : ¬ t_is (g 74) f (e - f) (t_nm 0) = 1 := fun z => ((t_is_4 (by omega)).mp z).2 hc1
                          have n1 : ¬ t_is (g 74) f (e - f) (t_nm 1) = 1 := fun z => ((t_is_4 (by omega)).mp z).1 hc2
                          have n2 : ¬ t_is (g 74) f (e - f) (t_nm 2) = 1 := fun z => ((t_is_5 (by omega)).mp z).2 hc4
                          have n3 : ¬ t_is (g 74) f (e - f) (t_nm 3) = 1 := fun z => ((t_is_4 (by omega)).mp z).2 hc6
                          have n4 : ¬ t_is (g 74) f (e - f) (t_nm 4) = 1 := fun z => ((t_is_2 (by omega)).mp z) hc7
                          have n5 : ¬ t_is (g 74) f (e - f) (t_nm 5) = 1 := fun z => ((t_is_5 (by omega)).mp z).2 hc9
                          have y6 : t_is (g 74) f (e - f) (t_nm 6) = 1 := (t_is_4 (by omega)).mpr ⟨hc10, hc11⟩
                          unfold t_ln
                          rw [if_neg n0, if_neg n1, if_neg n2, if_neg n3, if_neg n4, if_neg n5, if_pos y6]
                    · refine q_ret 3 (some (.int (5 : Int32)), g, u) (fun _ _ => rfl) ?_
                      have n0 : ¬ t_is (g 74) f (e - f) (t_nm 0) = 1 := fun z => ((t_is_4 (by omega)).mp z).2 hc1
                      have n1 : ¬ t_is (g 74) f (e - f) (t_nm 1) = 1 := fun z => ((t_is_4 (by omega)).mp z).1 hc2
                      have n2 : ¬ t_is (g 74) f (e - f) (t_nm 2) = 1 := fun z => ((t_is_5 (by omega)).mp z).2 hc4
                      have n3 : ¬ t_is (g 74) f (e - f) (t_nm 3) = 1 := fun z => ((t_is_4 (by omega)).mp z).2 hc6
                      have n4 : ¬ t_is (g 74) f (e - f) (t_nm 4) = 1 := fun z => ((t_is_2 (by omega)).mp z) hc7
                      have y5 : t_is (g 74) f (e - f) (t_nm 5) = 1 := (t_is_5 (by omega)).mpr ⟨hc8, hc9⟩
                      unfold t_ln
                      rw [if_neg n0, if_neg n1, if_neg n2, if_neg n3, if_neg n4, if_pos y5]
                · refine q_ret 2 (some (.int (4 : Int32)), g, u) (fun _ _ => rfl) ?_
                  have n0 : ¬ t_is (g 74) f (e - f) (t_nm 0) = 1 := fun z => ((t_is_4 (by omega)).mp z).2 hc1
                  have n1 : ¬ t_is (g 74) f (e - f) (t_nm 1) = 1 := fun z => ((t_is_4 (by omega)).mp z).1 hc2
                  have n2 : ¬ t_is (g 74) f (e - f) (t_nm 2) = 1 := fun z => ((t_is_5 (by omega)).mp z).2 hc4
                  have n3 : ¬ t_is (g 74) f (e - f) (t_nm 3) = 1 := fun z => ((t_is_4 (by omega)).mp z).2 hc6
                  have y4 : t_is (g 74) f (e - f) (t_nm 4) = 1 := (t_is_2 (by omega)).mpr hc7
                  unfold t_ln
                  rw [if_neg n0, if_neg n1, if_neg n2, if_neg n3, if_pos y4]
              · refine q_ret 2 (some (.int (3 : Int32)), g, u) (fun _ _ => rfl) ?_
                have n0 : ¬ t_is (g 74) f (e - f) (t_nm 0) = 1 := fun z => ((t_is_4 (by omega)).mp z).2 hc1
                have n1 : ¬ t_is (g 74) f (e - f) (t_nm 1) = 1 := fun z => ((t_is_4 (by omega)).mp z).1 hc2
                have n2 : ¬ t_is (g 74) f (e - f) (t_nm 2) = 1 := fun z => ((t_is_5 (by omega)).mp z).2 hc4
                have y3 : t_is (g 74) f (e - f) (t_nm 3) = 1 := (t_is_4 (by omega)).mpr ⟨hc5, hc6⟩
                unfold t_ln
                rw [if_neg n0, if_neg n1, if_neg n2, if_pos y3]
          · refine q_ret 2 (some (.int (2 : Int32)), g, u) (fun _ _ => rfl) ?_
            have n0 : ¬ t_is (g 74) f (e - f) (t_nm 0) = 1 := fun z => ((t_is_4 (by omega)).mp z).2 hc1
            have n1 : ¬ t_is (g 74) f (e - f) (t_nm 1) = 1 := fun z => ((t_is_4 (by omega)).mp z).1 hc2
            have y2 : t_is (g 74) f (e - f) (t_nm 2) = 1 := (t_is_5 (by omega)).mpr ⟨hc3, hc4⟩
            unfold t_ln
            rw [if_neg n0, if_neg n1, if_pos y2]
      · refine q_step 4 44 [(0, .ref 70)] [.int (0 : Int32), .int (108 : Int32), .int (108 : Int32), .ref 70] g u (fun big n0 => sg_nm_94 big n0 g u) ?_
        refine q_call (M2 := 158) (rest := []) (r_ends g u hs h160 hf he hfe hes _ _ _) (fun _ _ => rfl) ?_
        refine q_if_eq rfl (fun (hc3 : (t_p2 (g 74) s f (108 : Int32) (108 : Int32) (0 : Int32)) = 0) => ?_) (fun (hc3 : ¬ ((t_p2 (g 74) s f (108 : Int32) (108 : Int32) (0 : Int32)) = 0)) => ?_)
        · refine q_step 4 58 [(0, .ref 70)] [.int (114 : Int32), .int (112 : Int32), .int (5 : Int32), .ref 70] g u (fun big n0 => sg_nm_85 big n0 g u) ?_
          refine q_call (M2 := 157) (rest := []) (r_is g u hs h160 hf he hfe hes 5 (by omega) _ _) (fun _ _ => rfl) ?_
          refine q_if_eq rfl (fun (hc4 : (t_p1 (g 74) s f (e - f) 5 (112 : Int32) (114 : Int32)) = 0) => ?_) (fun (hc4 : ¬ ((t_p1 (g 74) s f (e - f) 5 (112 : Int32) (114 : Int32)) = 0)) => ?_)
          · refine q_step 4 85 [(0, .ref 70)] [.int (97 : Int32), .int (119 : Int32), .int (4 : Int32), .ref 70] g u (fun big n0 => sg_nm_86 big n0 g u) ?_
            refine q_call (M2 := 157) (rest := []) (r_is g u hs h160 hf he hfe hes 4 (by omega) _ _) (fun _ _ => rfl) ?_
            refine q_if_eq rfl (fun (hc5 : (t_p1 (g 74) s f (e - f) 4 (119 : Int32) (97 : Int32)) = 0) => ?_) (fun (hc5 : ¬ ((t_p1 (g 74) s f (e - f) 4 (119 : Int32) (97 : Int32)) = 0)) => ?_)
            · refine q_step 4 111 [(0, .ref 70)] [.int (116 : Int32), .int (97 : Int32), .int (2 : Int32), .ref 70] g u (fun big n0 => sg_nm_87 big n0 g u) ?_
              refine q_call (M2 := 157) (rest := []) (r_is g u hs h160 hf he hfe hes 2 (by omega) _ _) (fun _ _ => rfl) ?_
              refine q_if_eq rfl (fun (hc6 : (t_p1 (g 74) s f (e - f) 2 (97 : Int32) (116 : Int32)) = 0) => ?_) (fun (hc6 : ¬ ((t_p1 (g 74) s f (e - f) 2 (97 : Int32) (116 : Int32)) = 0)) => ?_)
              · refine q_step 4 125 [(0, .ref 70)] [.int (116 : Int32), .int (115 : Int32), .int (5 : Int32), .ref 70] g u (fun big n0 => sg_nm_88 big n0 g u) ?_
                refine q_call (M2 := 157) (rest := []) (r_is g u hs h160 hf he hfe hes 5 (by omega) _ _) (fun _ _ => rfl) ?_
                refine q_if_eq rfl (fun (hc7 : (t_p1 (g 74) s f (e - f) 5 (115 : Int32) (116 : Int32)) = 0) => ?_) (fun (hc7 : ¬ ((t_p1 (g 74) s f (e - f) 5 (115 : Int32) (116 : Int32)) = 0)) => ?_)
                · refine q_step 4 154 [(0, .ref 70)] [.int (111 : Int32), .int (103 : Int32), .int (4 : Int32), .ref 70] g u (fun big n0 => sg_nm_89 big n0 g u) ?_
                  refine q_call (M2 := 157) (rest := []) (r_is g u hs h160 hf he hfe hes 4 (by omega) _ _) (fun _ _ => rfl) ?_
                  refine q_if_eq rfl (fun (hc8 : (t_p1 (g 74) s f (e - f) 4 (103 : Int32) (111 : Int32)) = 0) => ?_) (fun (hc8 : ¬ ((t_p1 (g 74) s f (e - f) 4 (103 : Int32) (111 : Int32)) = 0)) => ?_)
                  · refine q_ret 2 (some (.int (Int8.toInt32 (Int8.ofInt (-4)))), g, u) (fun _ _ => rfl) ?_
                    have n0 : ¬ t_is (g 74) f (e - f) (t_nm 0) = 1 := fun z => ((t_is_4 (by omega)).mp z).2 hc1
                    have n1 : ¬ t_is (g 74) f (e - f) (t_nm 1) = 1 := fun z => ((t_is_4 (by omega)).mp z).2 hc3
                    have n2 : ¬ t_is (g 74) f (e - f) (t_nm 2) = 1 := fun z => ((t_is_5 (by omega)).mp z).1 hc4
                    have n3 : ¬ t_is (g 74) f (e - f) (t_nm 3) = 1 := fun z => ((t_is_4 (by omega)).mp z).1 hc5
                    have n4 : ¬ t_is (g 74) f (e - f) (t_nm 4) = 1 := fun z => ((t_is_2 (by omega)).mp z) hc6
                    have n5 : ¬ t_is (g 74) f (e - f) (t_nm 5) = 1 := fun z => ((t_is_5 (by omega)).mp z).1 hc7
                    have n6 : ¬ t_is (g 74) f (e - f) (t_nm 6) = 1 := fun z => ((t_is_4 (by omega)).mp z).1 hc8
                    unfold t_ln
                    rw [if_neg n0, if_neg n1, if_neg n2, if_neg n3, if_neg n4, if_neg n5, if_neg n6]
                    rfl
                  · refine q_step 4 166 [(0, .ref 70)] [.int (0 : Int32), .int (108 : Int32), .int (97 : Int32), .ref 70] g u (fun big n0 => sg_nm_90 big n0 g u) ?_
                    refine q_call (M2 := 158) (rest := []) (r_ends g u hs h160 hf he hfe hes _ _ _) (fun _ _ => rfl) ?_
                    refine q_if_eq rfl (fun (hc9 : (t_p2 (g 74) s f (97 : Int32) (108 : Int32) (0 : Int32)) = 0) => ?_) (fun (hc9 : ¬ ((t_p2 (g 74) s f (97 : Int32) (108 : Int32) (0 : Int32)) = 0)) => ?_)
                    · refine q_ret 2 (some (.int (Int8.toInt32 (Int8.ofInt (-4)))), g, u) (fun _ _ => rfl) ?_
                      have n0 : ¬ t_is (g 74) f (e - f) (t_nm 0) = 1 := fun z => ((t_is_4 (by omega)).mp z).2 hc1
                      have n1 : ¬ t_is (g 74) f (e - f) (t_nm 1) = 1 := fun z => ((t_is_4 (by omega)).mp z).2 hc3
                      have n2 : ¬ t_is (g 74) f (e - f) (t_nm 2) = 1 := fun z => ((t_is_5 (by omega)).mp z).1 hc4
                      have n3 : ¬ t_is (g 74) f (e - f) (t_nm 3) = 1 := fun z => ((t_is_4 (by omega)).mp z).1 hc5
                      have n4 : ¬ t_is (g 74) f (e - f) (t_nm 4) = 1 := fun z => ((t_is_2 (by omega)).mp z) hc6
                      have n5 : ¬ t_is (g 74) f (e - f) (t_nm 5) = 1 := fun z => ((t_is_5 (by omega)).mp z).1 hc7
                      have n6 : ¬ t_is (g 74) f (e - f) (t_nm 6) = 1 := fun z => ((t_is_4 (by omega)).mp z).2 hc9
                      unfold t_ln
                      rw [if_neg n0, if_neg n1, if_neg n2, if_neg n3, if_neg n4, if_neg n5, if_neg n6]
                      rfl
                    · refine q_ret 3 (some (.int (6 : Int32)), g, u) (fun _ _ => rfl) ?_
                      have n0 : ¬ t_is (g 74) f (e - f) (t_nm 0) = 1 := fun z => ((t_is_4 (by omega)).mp z).2 hc1
                      have n1 : ¬ t_is (g 74) f (e - f) (t_nm 1) = 1 := fun z => ((t_is_4 (by omega)).mp z).2 hc3
                      have n2 : ¬ t_is (g 74) f (e - f) (t_nm 2) = 1 := fun z => ((t_is_5 (by omega)).mp z).1 hc4
                      have n3 : ¬ t_is (g 74) f (e - f) (t_nm 3) = 1 := fun z => ((t_is_4 (by omega)).mp z).1 hc5
                      have n4 : ¬ t_is (g 74) f (e - f) (t_nm 4) = 1 := fun z => ((t_is_2 (by omega)).mp z) hc6
                      have n5 : ¬ t_is (g 74) f (e - f) (t_nm 5) = 1 := fun z => ((t_is_5 (by omega)).mp z).1 hc7
                      have y6 : t_is (g 74) f (e - f) (t_nm 6) = 1 := (t_is_4 (by omega)).mpr ⟨hc8, hc9⟩
                      unfold t_ln
                      rw [if_neg n0, if_neg n1, if_neg n2, if_neg n3, if_neg n4, if_neg n5, if_pos y6]
                · refine q_step 4 138 [(0, .ref 70)] [.int (108 : Int32), .int (108 : Int32), .int (105 : Int32), .ref 70] g u (fun big n0 => sg_nm_91 big n0 g u) ?_
                  refine q_call (M2 := 158) (rest := []) (r_ends g u hs h160 hf he hfe hes _ _ _) (fun _ _ => rfl) ?_
                  refine q_if_eq rfl (fun (hc8 : (t_p2 (g 74) s f (105 : Int32) (108 : Int32) (108 : Int32)) = 0) => ?_) (fun (hc8 : ¬ ((t_p2 (g 74) s f (105 : Int32) (108 : Int32) (108 : Int32)) = 0)) => ?_)
                  · refine q_step 4 154 [(0, .ref 70)] [.int (111 : Int32), .int (103 : Int32), .int (4 : Int32), .ref 70] g u (fun big n0 => sg_nm_89 big n0 g u) ?_
                    refine q_call (M2 := 157) (rest := []) (r_is g u hs h160 hf he hfe hes 4 (by omega) _ _) (fun _ _ => rfl) ?_
                    refine q_if_eq rfl (fun (hc9 : (t_p1 (g 74) s f (e - f) 4 (103 : Int32) (111 : Int32)) = 0) => ?_) (fun (hc9 : ¬ ((t_p1 (g 74) s f (e - f) 4 (103 : Int32) (111 : Int32)) = 0)) => ?_)
                    · refine q_ret 2 (some (.int (Int8.toInt32 (Int8.ofInt (-4)))), g, u) (fun _ _ => rfl) ?_
                      have n0 : ¬ t_is (g 74) f (e - f) (t_nm 0) = 1 := fun z => ((t_is_4 (by omega)).mp z).2 hc1
                      have n1 : ¬ t_is (g 74) f (e - f) (t_nm 1) = 1 := fun z => ((t_is_4 (by omega)).mp z).2 hc3
                      have n2 : ¬ t_is (g 74) f (e - f) (t_nm 2) = 1 := fun z => ((t_is_5 (by omega)).mp z).1 hc4
                      have n3 : ¬ t_is (g 74) f (e - f) (t_nm 3) = 1 := fun z => ((t_is_4 (by omega)).mp z).1 hc5
                      have n4 : ¬ t_is (g 74) f (e - f) (t_nm 4) = 1 := fun z => ((t_is_2 (by omega)).mp z) hc6
                      have n5 : ¬ t_is (g 74) f (e - f) (t_nm 5) = 1 := fun z => ((t_is_5 (by omega)).mp z).2 hc8
                      have n6 : ¬ t_is (g 74) f (e - f) (t_nm 6) = 1 := fun z => ((t_is_4 (by omega)).mp z).1 hc9
                      unfold t_ln
                      rw [if_neg n0, if_neg n1, if_neg n2, if_neg n3, if_neg n4, if_neg n5, if_neg n6]
                      rfl
                    · refine q_step 4 166 [(0, .ref 70)] [.int (0 : Int32), .int (108 : Int32), .int (97 : Int32), .ref 70] g u (fun big n0 => sg_nm_90 big n0 g u) ?_
                      refine q_call (M2 := 158) (rest := []) (r_ends g u hs h160 hf he hfe hes _ _ _) (fun _ _ => rfl) ?_
                      refine q_if_eq rfl (fun (hc10 : (t_p2 (g 74) s f (97 : Int32) (108 : Int32) (0 : Int32)) = 0) => ?_) (fun (hc10 : ¬ ((t_p2 (g 74) s f (97 : Int32) (108 : Int32) (0 : Int32)) = 0)) => ?_)
                      · refine q_ret 2 (some (.int (Int8.toInt32 (Int8.ofInt (-4)))), g, u) (fun _ _ => rfl) ?_
                        have n0 : ¬ t_is (g 74) f (e - f) (t_nm 0) = 1 := fun z => ((t_is_4 (by omega)).mp z).2 hc1
                        have n1 : ¬ t_is (g 74) f (e - f) (t_nm 1) = 1 := fun z => ((t_is_4 (by omega)).mp z).2 hc3
                        have n2 : ¬ t_is (g 74) f (e - f) (t_nm 2) = 1 := fun z => ((t_is_5 (by omega)).mp z).1 hc4
                        have n3 : ¬ t_is (g 74) f (e - f) (t_nm 3) = 1 := fun z => ((t_is_4 (by omega)).mp z).1 hc5
                        have n4 : ¬ t_is (g 74) f (e - f) (t_nm 4) = 1 := fun z => ((t_is_2 (by omega)).mp z) hc6
                        have n5 : ¬ t_is (g 74) f (e - f) (t_nm 5) = 1 := fun z => ((t_is_5 (by omega)).mp z).2 hc8
                        have n6 : ¬ t_is (g 74) f (e - f) (t_nm 6) = 1 := fun z => ((t_is_4 (by omega)).mp z).2 hc10
                        unfold t_ln
                        rw [if_neg n0, if_neg n1, if_neg n2, if_neg n3, if_neg n4, if_neg n5, if_neg n6]
                        rfl
                      · refine q_ret 3 (some (.int (6 : Int32)), g, u) (fun _ _ => rfl) ?_
                        have n0 : ¬ t_is (g 74) f (e - f) (t_nm 0) = 1 := fun z => ((t_is_4 (by omega)).mp z).2 hc1
                        have n1 : ¬ t_is (g 74) f (e - f) (t_nm 1) = 1 := fun z => ((t_is_4 (by omega)).mp z).2 hc3
                        have n2 : ¬ t_is (g 74) f (e - f) (t_nm 2) = 1 := fun z => ((t_is_5 (by omega)).mp z).1 hc4
                        have n3 : ¬ t_is (g 74) f (e - f) (t_nm 3) = 1 := fun z => ((t_is_4 (by omega)).mp z).1 hc5
                        have n4 : ¬ t_is (g 74) f (e - f) (t_nm 4) = 1 := fun z => ((t_is_2 (by omega)).mp z) hc6
                        have n5 : ¬ t_is (g 74) f (e - f) (t_nm 5) = 1 := fun z => ((t_is_5 (by omega)).mp z).2 hc8
                        have y6 : t_is (g 74) f (e - f) (t_nm 6) = 1 := (t_is_4 (by omega)).mpr ⟨hc9, hc10⟩
                        unfold t_ln
                        rw [if_neg n0, if_neg n1, if_neg n2, if_neg n3, if_neg n4, if_neg n5, if_pos y6]
                  · refine q_ret 3 (some (.int (5 : Int32)), g, u) (fun _ _ => rfl) ?_
                    have n0 : ¬ t_is (g 74) f (e - f) (t_nm 0) = 1 := fun z => ((t_is_4 (by omega)).mp z).2 hc1
                    have n1 : ¬ t_is (g 74) f (e - f) (t_nm 1) = 1 := fun z => ((t_is_4 (by omega)).mp z).2 hc3
                    have n2 : ¬ t_is (g 74) f (e - f) (t_nm 2) = 1 := fun z => ((t_is_5 (by omega)).mp z).1 hc4
                    have n3 : ¬ t_is (g 74) f (e - f) (t_nm 3) = 1 := fun z => ((t_is_4 (by omega)).mp z).1 hc5
                    have n4 : ¬ t_is (g 74) f (e - f) (t_nm 4) = 1 := fun z => ((t_is_2 (by omega)).mp z) hc6
                    have y5 : t_is (g 74) f (e - f) (t_nm 5) = 1 := (t_is_5 (by omega)).mpr ⟨hc7, hc8⟩
                    unfold t_ln
                    rw [if_neg n0, if_neg n1, if_neg n2, if_neg n3, if_neg n4, if_pos y5]
              · refine q_ret 2 (some (.int (4 : Int32)), g, u) (fun _ _ => rfl) ?_
                have n0 : ¬ t_is (g 74) f (e - f) (t_nm 0) = 1 := fun z => ((t_is_4 (by omega)).mp z).2 hc1
                have n1 : ¬ t_is (g 74) f (e - f) (t_nm 1) = 1 := fun z => ((t_is_4 (by omega)).mp z).2 hc3
                have n2 : ¬ t_is (g 74) f (e - f) (t_nm 2) = 1 := fun z => ((t_is_5 (by omega)).mp z).1 hc4
                have n3 : ¬ t_is (g 74) f (e - f) (t_nm 3) = 1 := fun z => ((t_is_4 (by omega)).mp z).1 hc5
                have y4 : t_is (g 74) f (e - f) (t_nm 4) = 1 := (t_is_2 (by omega)).mpr hc6
                unfold t_ln
                rw [if_neg n0, if_neg n1, if_neg n2, if_neg n3, if_pos y4]
            · refine q_step 4 97 [(0, .ref 70)] [.int (0 : Int32), .int (108 : Int32), .int (108 : Int32), .ref 70] g u (fun big n0 => sg_nm_92 big n0 g u) ?_
              refine q_call (M2 := 158) (rest := []) (r_ends g u hs h160 hf he hfe hes _ _ _) (fun _ _ => rfl) ?_
              refine q_if_eq rfl (fun (hc6 : (t_p2 (g 74) s f (108 : Int32) (108 : Int32) (0 : Int32)) = 0) => ?_) (fun (hc6 : ¬ ((t_p2 (g 74) s f (108 : Int32) (108 : Int32) (0 : Int32)) = 0)) => ?_)
              · refine q_step 4 111 [(0, .ref 70)] [.int (116 : Int32), .int (97 : Int32), .int (2 : Int32), .ref 70] g u (fun big n0 => sg_nm_87 big n0 g u) ?_
                refine q_call (M2 := 157) (rest := []) (r_is g u hs h160 hf he hfe hes 2 (by omega) _ _) (fun _ _ => rfl) ?_
                refine q_if_eq rfl (fun (hc7 : (t_p1 (g 74) s f (e - f) 2 (97 : Int32) (116 : Int32)) = 0) => ?_) (fun (hc7 : ¬ ((t_p1 (g 74) s f (e - f) 2 (97 : Int32) (116 : Int32)) = 0)) => ?_)
                · refine q_step 4 125 [(0, .ref 70)] [.int (116 : Int32), .int (115 : Int32), .int (5 : Int32), .ref 70] g u (fun big n0 => sg_nm_88 big n0 g u) ?_
                  refine q_call (M2 := 157) (rest := []) (r_is g u hs h160 hf he hfe hes 5 (by omega) _ _) (fun _ _ => rfl) ?_
                  refine q_if_eq rfl (fun (hc8 : (t_p1 (g 74) s f (e - f) 5 (115 : Int32) (116 : Int32)) = 0) => ?_) (fun (hc8 : ¬ ((t_p1 (g 74) s f (e - f) 5 (115 : Int32) (116 : Int32)) = 0)) => ?_)
                  · refine q_step 4 154 [(0, .ref 70)] [.int (111 : Int32), .int (103 : Int32), .int (4 : Int32), .ref 70] g u (fun big n0 => sg_nm_89 big n0 g u) ?_
                    refine q_call (M2 := 157) (rest := []) (r_is g u hs h160 hf he hfe hes 4 (by omega) _ _) (fun _ _ => rfl) ?_
                    refine q_if_eq rfl (fun (hc9 : (t_p1 (g 74) s f (e - f) 4 (103 : Int32) (111 : Int32)) = 0) => ?_) (fun (hc9 : ¬ ((t_p1 (g 74) s f (e - f) 4 (103 : Int32) (111 : Int32)) = 0)) => ?_)
                    · refine q_ret 2 (some (.int (Int8.toInt32 (Int8.ofInt (-4)))), g, u) (fun _ _ => rfl) ?_
                      have n0 : ¬ t_is (g 74) f (e - f) (t_nm 0) = 1 := fun z => ((t_is_4 (by omega)).mp z).2 hc1
                      have n1 : ¬ t_is (g 74) f (e - f) (t_nm 1) = 1 := fun z => ((t_is_4 (by omega)).mp z).2 hc3
                      have n2 : ¬ t_is (g 74) f (e - f) (t_nm 2) = 1 := fun z => ((t_is_5 (by omega)).mp z).1 hc4
                      have n3 : ¬ t_is (g 74) f (e - f) (t_nm 3) = 1 := fun z => ((t_is_4 (by omega)).mp z).2 hc6
                      have n4 : ¬ t_is (g 74) f (e - f) (t_nm 4) = 1 := fun z => ((t_is_2 (by omega)).mp z) hc7
                      have n5 : ¬ t_is (g 74) f (e - f) (t_nm 5) = 1 := fun z => ((t_is_5 (by omega)).mp z).1 hc8
                      have n6 : ¬ t_is (g 74) f (e - f) (t_nm 6) = 1 := fun z => ((t_is_4 (by omega)).mp z).1 hc9
                      unfold t_ln
                      rw [if_neg n0, if_neg n1, if_neg n2, if_neg n3, if_neg n4, if_neg n5, if_neg n6]
                      rfl
                    · refine q_step 4 166 [(0, .ref 70)] [.int (0 : Int32), .int (108 : Int32), .int (97 : Int32), .ref 70] g u (fun big n0 => sg_nm_90 big n0 g u) ?_
                      refine q_call (M2 := 158) (rest := []) (r_ends g u hs h160 hf he hfe hes _ _ _) (fun _ _ => rfl) ?_
                      refine q_if_eq rfl (fun (hc10 : (t_p2 (g 74) s f (97 : Int32) (108 : Int32) (0 : Int32)) = 0) => ?_) (fun (hc10 : ¬ ((t_p2 (g 74) s f (97 : Int32) (108 : Int32) (0 : Int32)) = 0)) => ?_)
                      · refine q_ret 2 (some (.int (Int8.toInt32 (Int8.ofInt (-4)))), g, u) (fun _ _ => rfl) ?_
                        have n0 : ¬ t_is (g 74) f (e - f) (t_nm 0) = 1 := fun z => ((t_is_4 (by omega)).mp z).2 hc1
                        have n1 : ¬ t_is (g 74) f (e - f) (t_nm 1) = 1 := fun z => ((t_is_4 (by omega)).mp z).2 hc3
                        have n2 : ¬ t_is (g 74) f (e - f) (t_nm 2) = 1 := fun z => ((t_is_5 (by omega)).mp z).1 hc4
                        have n3 : ¬ t_is (g 74) f (e - f) (t_nm 3) = 1 := fun z => ((t_is_4 (by omega)).mp z).2 hc6
                        have n4 : ¬ t_is (g 74) f (e - f) (t_nm 4) = 1 := fun z => ((t_is_2 (by omega)).mp z) hc7
                        have n5 : ¬ t_is (g 74) f (e - f) (t_nm 5) = 1 := fun z => ((t_is_5 (by omega)).mp z).1 hc8
                        have n6 : ¬ t_is (g 74) f (e - f) (t_nm 6) = 1 := fun z => ((t_is_4 (by omega)).mp z).2 hc10
                        unfold t_ln
                        rw [if_neg n0, if_neg n1, if_neg n2, if_neg n3, if_neg n4, if_neg n5, if_neg n6]
                        rfl
                      · refine q_ret 3 (some (.int (6 : Int32)), g, u) (fun _ _ => rfl) ?_
                        have n0 : ¬ t_is (g 74) f (e - f) (t_nm 0) = 1 := fun z => ((t_is_4 (by omega)).mp z).2 hc1
                        have n1 : ¬ t_is (g 74) f (e - f) (t_nm 1) = 1 := fun z => ((t_is_4 (by omega)).mp z).2 hc3
                        have n2 : ¬ t_is (g 74) f (e - f) (t_nm 2) = 1 := fun z => ((t_is_5 (by omega)).mp z).1 hc4
                        have n3 : ¬ t_is (g 74) f (e - f) (t_nm 3) = 1 := fun z => ((t_is_4 (by omega)).mp z).2 hc6
                        have n4 : ¬ t_is (g 74) f (e - f) (t_nm 4) = 1 := fun z => ((t_is_2 (by omega)).mp z) hc7
                        have n5 : ¬ t_is (g 74) f (e - f) (t_nm 5) = 1 := fun z => ((t_is_5 (by omega)).mp z).1 hc8
                        have y6 : t_is (g 74) f (e - f) (t_nm 6) = 1 := (t_is_4 (by omega)).mpr ⟨hc9, hc10⟩
                        unfold t_ln
                        rw [if_neg n0, if_neg n1, if_neg n2, if_neg n3, if_neg n4, if_neg n5, if_pos y6]
                  · refine q_step 4 138 [(0, .ref 70)] [.int (108 : Int32), .int (108 : Int32), .int (105 : Int32), .ref 70] g u (fun big n0 => sg_nm_91 big n0 g u) ?_
                    refine q_call (M2 := 158) (rest := []) (r_ends g u hs h160 hf he hfe hes _ _ _) (fun _ _ => rfl) ?_
                    refine q_if_eq rfl (fun (hc9 : (t_p2 (g 74) s f (105 : Int32) (108 : Int32) (108 : Int32)) = 0) => ?_) (fun (hc9 : ¬ ((t_p2 (g 74) s f (105 : Int32) (108 : Int32) (108 : Int32)) = 0)) => ?_)
                    · refine q_step 4 154 [(0, .ref 70)] [.int (111 : Int32), .int (103 : Int32), .int (4 : Int32), .ref 70] g u (fun big n0 => sg_nm_89 big n0 g u) ?_
                      refine q_call (M2 := 157) (rest := []) (r_is g u hs h160 hf he hfe hes 4 (by omega) _ _) (fun _ _ => rfl) ?_
                      refine q_if_eq rfl (fun (hc10 : (t_p1 (g 74) s f (e - f) 4 (103 : Int32) (111 : Int32)) = 0) => ?_) (fun (hc10 : ¬ ((t_p1 (g 74) s f (e - f) 4 (103 : Int32) (111 : Int32)) = 0)) => ?_)
                      · refine q_ret 2 (some (.int (Int8.toInt32 (Int8.ofInt (-4)))), g, u) (fun _ _ => rfl) ?_
                        have n0 : ¬ t_is (g 74) f (e - f) (t_nm 0) = 1 := fun z => ((t_is_4 (by omega)).mp z).2 hc1
                        have n1 : ¬ t_is (g 74) f (e - f) (t_nm 1) = 1 := fun z => ((t_is_4 (by omega)).mp z).2 hc3
                        have n2 : ¬ t_is (g 74) f (e - f) (t_nm 2) = 1 := fun z => ((t_is_5 (by omega)).mp z).1 hc4
                        have n3 : ¬ t_is (g 74) f (e - f) (t_nm 3) = 1 := fun z => ((t_is_4 (by omega)).mp z).2 hc6
                        have n4 : ¬ t_is (g 74) f (e - f) (t_nm 4) = 1 := fun z => ((t_is_2 (by omega)).mp z) hc7
                        have n5 : ¬ t_is (g 74) f (e - f) (t_nm 5) = 1 := fun z => ((t_is_5 (by omega)).mp z).2 hc9
                        have n6 : ¬ t_is (g 74) f (e - f) (t_nm 6) = 1 := fun z => ((t_is_4 (by omega)).mp z).1 hc10
                        unfold t_ln
                        rw [if_neg n0, if_neg n1, if_neg n2, if_neg n3, if_neg n4, if_neg n5, if_neg n6]
                        rfl
                      · refine q_step 4 166 [(0, .ref 70)] [.int (0 : Int32), .int (108 : Int32), .int (97 : Int32), .ref 70] g u (fun big n0 => sg_nm_90 big n0 g u) ?_
                        refine q_call (M2 := 158) (rest := []) (r_ends g u hs h160 hf he hfe hes _ _ _) (fun _ _ => rfl) ?_
                        refine q_if_eq rfl (fun (hc11 : (t_p2 (g 74) s f (97 : Int32) (108 : Int32) (0 : Int32)) = 0) => ?_) (fun (hc11 : ¬ ((t_p2 (g 74) s f (97 : Int32) (108 : Int32) (0 : Int32)) = 0)) => ?_)
                        · refine q_ret 2 (some (.int (Int8.toInt32 (Int8.ofInt (-4)))), g, u) (fun _ _ => rfl) ?_
                          have n0 : ¬ t_is (g 74) f (e - f) (t_nm 0) = 1 := fun z => ((t_is_4 (by omega)).mp z).2 hc1
                          have n1 : ¬ t_is (g 74) f (e - f) (t_nm 1) = 1 := fun z => ((t_is_4 (by omega)).mp z).2 hc3
                          have n2 : ¬ t_is (g 74) f (e - f) (t_nm 2) = 1 := fun z => ((t_is_5 (by omega)).mp z).1 hc4
                          have n3 : ¬ t_is (g 74) f (e - f) (t_nm 3) = 1 := fun z => ((t_is_4 (by omega)).mp z).2 hc6
                          have n4 : ¬ t_is (g 74) f (e - f) (t_nm 4) = 1 := fun z => ((t_is_2 (by omega)).mp z) hc7
                          have n5 : ¬ t_is (g 74) f (e - f) (t_nm 5) = 1 := fun z => ((t_is_5 (by omega)).mp z).2 hc9
                          have n6 : ¬ t_is (g 74) f (e - f) (t_nm 6) = 1 := fun z => ((t_is_4 (by omega)).mp z).2 hc11
                          unfold t_ln
                          rw [if_neg n0, if_neg n1, if_neg n2, if_neg n3, if_neg n4, if_neg n5, if_neg n6]
                          rfl
                        · refine q_ret 3 (some (.int (6 : Int32)), g, u) (fun _ _ => rfl) ?_
                          have n0 : ¬ t_is (g 74) f (e - f) (t_nm 0) = 1 := fun z => ((t_is_4 (by omega)).mp z).2 hc1
                          have n1 : ¬ t_is (g 74) f (e - f) (t_nm 1) = 1 := fun z => ((t_is_4 (by omega)).mp z).2 hc3
                          have n2 : ¬ t_is (g 74) f (e - f) (t_nm 2) = 1 := fun z => ((t_is_5 (by omega)).mp z).1 hc4
                          have n3 : ¬ t_is (g 74) f (e - f) (t_nm 3) = 1 := fun z => ((t_is_4 (by omega)).mp z).2 hc6
                          have n4 : ¬ t_is (g 74) f (e - f) (t_nm 4) = 1 := fun z => ((t_is_2 (by omega)).mp z) hc7
                          have n5 : ¬ t_is (g 74) f (e - f) (t_nm 5) = 1 := fun z => ((t_is_5 (by omega)).mp z).2 hc9
                          have y6 : t_is (g 74) f (e - f) (t_nm 6) = 1 := (t_is_4 (by omega)).mpr ⟨hc10, hc11⟩
                          unfold t_ln
                          rw [if_neg n0, if_neg n1, if_neg n2, if_neg n3, if_neg n4, if_neg n5, if_pos y6]
                    · refine q_ret 3 (some (.int (5 : Int32)), g, u) (fun _ _ => rfl) ?_
                      have n0 : ¬ t_is (g 74) f (e - f) (t_nm 0) = 1 := fun z => ((t_is_4 (by omega)).mp z).2 hc1
                      have n1 : ¬ t_is (g 74) f (e - f) (t_nm 1) = 1 := fun z => ((t_is_4 (by omega)).mp z).2 hc3
                      have n2 : ¬ t_is (g 74) f (e - f) (t_nm 2) = 1 := fun z => ((t_is_5 (by omega)).mp z).1 hc4
                      have n3 : ¬ t_is (g 74) f (e - f) (t_nm 3) = 1 := fun z => ((t_is_4 (by omega)).mp z).2 hc6
                      have n4 : ¬ t_is (g 74) f (e - f) (t_nm 4) = 1 := fun z => ((t_is_2 (by omega)).mp z) hc7
                      have y5 : t_is (g 74) f (e - f) (t_nm 5) = 1 := (t_is_5 (by omega)).mpr ⟨hc8, hc9⟩
                      unfold t_ln
                      rw [if_neg n0, if_neg n1, if_neg n2, if_neg n3, if_neg n4, if_pos y5]
                · refine q_ret 2 (some (.int (4 : Int32)), g, u) (fun _ _ => rfl) ?_
                  have n0 : ¬ t_is (g 74) f (e - f) (t_nm 0) = 1 := fun z => ((t_is_4 (by omega)).mp z).2 hc1
                  have n1 : ¬ t_is (g 74) f (e - f) (t_nm 1) = 1 := fun z => ((t_is_4 (by omega)).mp z).2 hc3
                  have n2 : ¬ t_is (g 74) f (e - f) (t_nm 2) = 1 := fun z => ((t_is_5 (by omega)).mp z).1 hc4
                  have n3 : ¬ t_is (g 74) f (e - f) (t_nm 3) = 1 := fun z => ((t_is_4 (by omega)).mp z).2 hc6
                  have y4 : t_is (g 74) f (e - f) (t_nm 4) = 1 := (t_is_2 (by omega)).mpr hc7
                  unfold t_ln
                  rw [if_neg n0, if_neg n1, if_neg n2, if_neg n3, if_pos y4]
              · refine q_ret 2 (some (.int (3 : Int32)), g, u) (fun _ _ => rfl) ?_
                have n0 : ¬ t_is (g 74) f (e - f) (t_nm 0) = 1 := fun z => ((t_is_4 (by omega)).mp z).2 hc1
                have n1 : ¬ t_is (g 74) f (e - f) (t_nm 1) = 1 := fun z => ((t_is_4 (by omega)).mp z).2 hc3
                have n2 : ¬ t_is (g 74) f (e - f) (t_nm 2) = 1 := fun z => ((t_is_5 (by omega)).mp z).1 hc4
                have y3 : t_is (g 74) f (e - f) (t_nm 3) = 1 := (t_is_4 (by omega)).mpr ⟨hc5, hc6⟩
                unfold t_ln
                rw [if_neg n0, if_neg n1, if_neg n2, if_pos y3]
          · refine q_step 4 71 [(0, .ref 70)] [.int (115 : Int32), .int (115 : Int32), .int (101 : Int32), .ref 70] g u (fun big n0 => sg_nm_93 big n0 g u) ?_
            refine q_call (M2 := 158) (rest := []) (r_ends g u hs h160 hf he hfe hes _ _ _) (fun _ _ => rfl) ?_
            refine q_if_eq rfl (fun (hc5 : (t_p2 (g 74) s f (101 : Int32) (115 : Int32) (115 : Int32)) = 0) => ?_) (fun (hc5 : ¬ ((t_p2 (g 74) s f (101 : Int32) (115 : Int32) (115 : Int32)) = 0)) => ?_)
            · refine q_step 4 85 [(0, .ref 70)] [.int (97 : Int32), .int (119 : Int32), .int (4 : Int32), .ref 70] g u (fun big n0 => sg_nm_86 big n0 g u) ?_
              refine q_call (M2 := 157) (rest := []) (r_is g u hs h160 hf he hfe hes 4 (by omega) _ _) (fun _ _ => rfl) ?_
              refine q_if_eq rfl (fun (hc6 : (t_p1 (g 74) s f (e - f) 4 (119 : Int32) (97 : Int32)) = 0) => ?_) (fun (hc6 : ¬ ((t_p1 (g 74) s f (e - f) 4 (119 : Int32) (97 : Int32)) = 0)) => ?_)
              · refine q_step 4 111 [(0, .ref 70)] [.int (116 : Int32), .int (97 : Int32), .int (2 : Int32), .ref 70] g u (fun big n0 => sg_nm_87 big n0 g u) ?_
                refine q_call (M2 := 157) (rest := []) (r_is g u hs h160 hf he hfe hes 2 (by omega) _ _) (fun _ _ => rfl) ?_
                refine q_if_eq rfl (fun (hc7 : (t_p1 (g 74) s f (e - f) 2 (97 : Int32) (116 : Int32)) = 0) => ?_) (fun (hc7 : ¬ ((t_p1 (g 74) s f (e - f) 2 (97 : Int32) (116 : Int32)) = 0)) => ?_)
                · refine q_step 4 125 [(0, .ref 70)] [.int (116 : Int32), .int (115 : Int32), .int (5 : Int32), .ref 70] g u (fun big n0 => sg_nm_88 big n0 g u) ?_
                  refine q_call (M2 := 157) (rest := []) (r_is g u hs h160 hf he hfe hes 5 (by omega) _ _) (fun _ _ => rfl) ?_
                  refine q_if_eq rfl (fun (hc8 : (t_p1 (g 74) s f (e - f) 5 (115 : Int32) (116 : Int32)) = 0) => ?_) (fun (hc8 : ¬ ((t_p1 (g 74) s f (e - f) 5 (115 : Int32) (116 : Int32)) = 0)) => ?_)
                  · refine q_step 4 154 [(0, .ref 70)] [.int (111 : Int32), .int (103 : Int32), .int (4 : Int32), .ref 70] g u (fun big n0 => sg_nm_89 big n0 g u) ?_
                    refine q_call (M2 := 157) (rest := []) (r_is g u hs h160 hf he hfe hes 4 (by omega) _ _) (fun _ _ => rfl) ?_
                    refine q_if_eq rfl (fun (hc9 : (t_p1 (g 74) s f (e - f) 4 (103 : Int32) (111 : Int32)) = 0) => ?_) (fun (hc9 : ¬ ((t_p1 (g 74) s f (e - f) 4 (103 : Int32) (111 : Int32)) = 0)) => ?_)
                    · refine q_ret 2 (some (.int (Int8.toInt32 (Int8.ofInt (-4)))), g, u) (fun _ _ => rfl) ?_
                      have n0 : ¬ t_is (g 74) f (e - f) (t_nm 0) = 1 := fun z => ((t_is_4 (by omega)).mp z).2 hc1
                      have n1 : ¬ t_is (g 74) f (e - f) (t_nm 1) = 1 := fun z => ((t_is_4 (by omega)).mp z).2 hc3
                      have n2 : ¬ t_is (g 74) f (e - f) (t_nm 2) = 1 := fun z => ((t_is_5 (by omega)).mp z).2 hc5
                      have n3 : ¬ t_is (g 74) f (e - f) (t_nm 3) = 1 := fun z => ((t_is_4 (by omega)).mp z).1 hc6
                      have n4 : ¬ t_is (g 74) f (e - f) (t_nm 4) = 1 := fun z => ((t_is_2 (by omega)).mp z) hc7
                      have n5 : ¬ t_is (g 74) f (e - f) (t_nm 5) = 1 := fun z => ((t_is_5 (by omega)).mp z).1 hc8
                      have n6 : ¬ t_is (g 74) f (e - f) (t_nm 6) = 1 := fun z => ((t_is_4 (by omega)).mp z).1 hc9
                      unfold t_ln
                      rw [if_neg n0, if_neg n1, if_neg n2, if_neg n3, if_neg n4, if_neg n5, if_neg n6]
                      rfl
                    · refine q_step 4 166 [(0, .ref 70)] [.int (0 : Int32), .int (108 : Int32), .int (97 : Int32), .ref 70] g u (fun big n0 => sg_nm_90 big n0 g u) ?_
                      refine q_call (M2 := 158) (rest := []) (r_ends g u hs h160 hf he hfe hes _ _ _) (fun _ _ => rfl) ?_
                      refine q_if_eq rfl (fun (hc10 : (t_p2 (g 74) s f (97 : Int32) (108 : Int32) (0 : Int32)) = 0) => ?_) (fun (hc10 : ¬ ((t_p2 (g 74) s f (97 : Int32) (108 : Int32) (0 : Int32)) = 0)) => ?_)
                      · refine q_ret 2 (some (.int (Int8.toInt32 (Int8.ofInt (-4)))), g, u) (fun _ _ => rfl) ?_
                        have n0 : ¬ t_is (g 74) f (e - f) (t_nm 0) = 1 := fun z => ((t_is_4 (by omega)).mp z).2 hc1
                        have n1 : ¬ t_is (g 74) f (e - f) (t_nm 1) = 1 := fun z => ((t_is_4 (by omega)).mp z).2 hc3
                        have n2 : ¬ t_is (g 74) f (e - f) (t_nm 2) = 1 := fun z => ((t_is_5 (by omega)).mp z).2 hc5
                        have n3 : ¬ t_is (g 74) f (e - f) (t_nm 3) = 1 := fun z => ((t_is_4 (by omega)).mp z).1 hc6
                        have n4 : ¬ t_is (g 74) f (e - f) (t_nm 4) = 1 := fun z => ((t_is_2 (by omega)).mp z) hc7
                        have n5 : ¬ t_is (g 74) f (e - f) (t_nm 5) = 1 := fun z => ((t_is_5 (by omega)).mp z).1 hc8
                        have n6 : ¬ t_is (g 74) f (e - f) (t_nm 6) = 1 := fun z => ((t_is_4 (by omega)).mp z).2 hc10
                        unfold t_ln
                        rw [if_neg n0, if_neg n1, if_neg n2, if_neg n3, if_neg n4, if_neg n5, if_neg n6]
                        rfl
                      · refine q_ret 3 (some (.int (6 : Int32)), g, u) (fun _ _ => rfl) ?_
                        have n0 : ¬ t_is (g 74) f (e - f) (t_nm 0) = 1 := fun z => ((t_is_4 (by omega)).mp z).2 hc1
                        have n1 : ¬ t_is (g 74) f (e - f) (t_nm 1) = 1 := fun z => ((t_is_4 (by omega)).mp z).2 hc3
                        have n2 : ¬ t_is (g 74) f (e - f) (t_nm 2) = 1 := fun z => ((t_is_5 (by omega)).mp z).2 hc5
                        have n3 : ¬ t_is (g 74) f (e - f) (t_nm 3) = 1 := fun z => ((t_is_4 (by omega)).mp z).1 hc6
                        have n4 : ¬ t_is (g 74) f (e - f) (t_nm 4) = 1 := fun z => ((t_is_2 (by omega)).mp z) hc7
                        have n5 : ¬ t_is (g 74) f (e - f) (t_nm 5) = 1 := fun z => ((t_is_5 (by omega)).mp z).1 hc8
                        have y6 : t_is (g 74) f (e - f) (t_nm 6) = 1 := (t_is_4 (by omega)).mpr ⟨hc9, hc10⟩
                        unfold t_ln
                        rw [if_neg n0, if_neg n1, if_neg n2, if_neg n3, if_neg n4, if_neg n5, if_pos y6]
                  · refine q_step 4 138 [(0, .ref 70)] [.int (108 : Int32), .int (108 : Int32), .int (105 : Int32), .ref 70] g u (fun big n0 => sg_nm_91 big n0 g u) ?_
                    refine q_call (M2 := 158) (rest := []) (r_ends g u hs h160 hf he hfe hes _ _ _) (fun _ _ => rfl) ?_
                    refine q_if_eq rfl (fun (hc9 : (t_p2 (g 74) s f (105 : Int32) (108 : Int32) (108 : Int32)) = 0) => ?_) (fun (hc9 : ¬ ((t_p2 (g 74) s f (105 : Int32) (108 : Int32) (108 : Int32)) = 0)) => ?_)
                    · refine q_step 4 154 [(0, .ref 70)] [.int (111 : Int32), .int (103 : Int32), .int (4 : Int32), .ref 70] g u (fun big n0 => sg_nm_89 big n0 g u) ?_
                      refine q_call (M2 := 157) (rest := []) (r_is g u hs h160 hf he hfe hes 4 (by omega) _ _) (fun _ _ => rfl) ?_
                      refine q_if_eq rfl (fun (hc10 : (t_p1 (g 74) s f (e - f) 4 (103 : Int32) (111 : Int32)) = 0) => ?_) (fun (hc10 : ¬ ((t_p1 (g 74) s f (e - f) 4 (103 : Int32) (111 : Int32)) = 0)) => ?_)
                      · refine q_ret 2 (some (.int (Int8.toInt32 (Int8.ofInt (-4)))), g, u) (fun _ _ => rfl) ?_
                        have n0 : ¬ t_is (g 74) f (e - f) (t_nm 0) = 1 := fun z => ((t_is_4 (by omega)).mp z).2 hc1
                        have n1 : ¬ t_is (g 74) f (e - f) (t_nm 1) = 1 := fun z => ((t_is_4 (by omega)).mp z).2 hc3
                        have n2 : ¬ t_is (g 74) f (e - f) (t_nm 2) = 1 := fun z => ((t_is_5 (by omega)).mp z).2 hc5
                        have n3 : ¬ t_is (g 74) f (e - f) (t_nm 3) = 1 := fun z => ((t_is_4 (by omega)).mp z).1 hc6
                        have n4 : ¬ t_is (g 74) f (e - f) (t_nm 4) = 1 := fun z => ((t_is_2 (by omega)).mp z) hc7
                        have n5 : ¬ t_is (g 74) f (e - f) (t_nm 5) = 1 := fun z => ((t_is_5 (by omega)).mp z).2 hc9
                        have n6 : ¬ t_is (g 74) f (e - f) (t_nm 6) = 1 := fun z => ((t_is_4 (by omega)).mp z).1 hc10
                        unfold t_ln
                        rw [if_neg n0, if_neg n1, if_neg n2, if_neg n3, if_neg n4, if_neg n5, if_neg n6]
                        rfl
                      · refine q_step 4 166 [(0, .ref 70)] [.int (0 : Int32), .int (108 : Int32), .int (97 : Int32), .ref 70] g u (fun big n0 => sg_nm_90 big n0 g u) ?_
                        refine q_call (M2 := 158) (rest := []) (r_ends g u hs h160 hf he hfe hes _ _ _) (fun _ _ => rfl) ?_
                        refine q_if_eq rfl (fun (hc11 : (t_p2 (g 74) s f (97 : Int32) (108 : Int32) (0 : Int32)) = 0) => ?_) (fun (hc11 : ¬ ((t_p2 (g 74) s f (97 : Int32) (108 : Int32) (0 : Int32)) = 0)) => ?_)
                        · refine q_ret 2 (some (.int (Int8.toInt32 (Int8.ofInt (-4)))), g, u) (fun _ _ => rfl) ?_
                          have n0 : ¬ t_is (g 74) f (e - f) (t_nm 0) = 1 := fun z => ((t_is_4 (by omega)).mp z).2 hc1
                          have n1 : ¬ t_is (g 74) f (e - f) (t_nm 1) = 1 := fun z => ((t_is_4 (by omega)).mp z).2 hc3
                          have n2 : ¬ t_is (g 74) f (e - f) (t_nm 2) = 1 := fun z => ((t_is_5 (by omega)).mp z).2 hc5
                          have n3 : ¬ t_is (g 74) f (e - f) (t_nm 3) = 1 := fun z => ((t_is_4 (by omega)).mp z).1 hc6
                          have n4 : ¬ t_is (g 74) f (e - f) (t_nm 4) = 1 := fun z => ((t_is_2 (by omega)).mp z) hc7
                          have n5 : ¬ t_is (g 74) f (e - f) (t_nm 5) = 1 := fun z => ((t_is_5 (by omega)).mp z).2 hc9
                          have n6 : ¬ t_is (g 74) f (e - f) (t_nm 6) = 1 := fun z => ((t_is_4 (by omega)).mp z).2 hc11
                          unfold t_ln
                          rw [if_neg n0, if_neg n1, if_neg n2, if_neg n3, if_neg n4, if_neg n5, if_neg n6]
                          rfl
                        · refine q_ret 3 (some (.int (6 : Int32)), g, u) (fun _ _ => rfl) ?_
                          have n0 : ¬ t_is (g 74) f (e - f) (t_nm 0) = 1 := fun z => ((t_is_4 (by omega)).mp z).2 hc1
                          have n1 : ¬ t_is (g 74) f (e - f) (t_nm 1) = 1 := fun z => ((t_is_4 (by omega)).mp z).2 hc3
                          have n2 : ¬ t_is (g 74) f (e - f) (t_nm 2) = 1 := fun z => ((t_is_5 (by omega)).mp z).2 hc5
                          have n3 : ¬ t_is (g 74) f (e - f) (t_nm 3) = 1 := fun z => ((t_is_4 (by omega)).mp z).1 hc6
                          have n4 : ¬ t_is (g 74) f (e - f) (t_nm 4) = 1 := fun z => ((t_is_2 (by omega)).mp z) hc7
                          have n5 : ¬ t_is (g 74) f (e - f) (t_nm 5) = 1 := fun z => ((t_is_5 (by omega)).mp z).2 hc9
                          have y6 : t_is (g 74) f (e - f) (t_nm 6) = 1 := (t_is_4 (by omega)).mpr ⟨hc10, hc11⟩
                          unfold t_ln
                          rw [if_neg n0, if_neg n1, if_neg n2, if_neg n3, if_neg n4, if_neg n5, if_pos y6]
                    · refine q_ret 3 (some (.int (5 : Int32)), g, u) (fun _ _ => rfl) ?_
                      have n0 : ¬ t_is (g 74) f (e - f) (t_nm 0) = 1 := fun z => ((t_is_4 (by omega)).mp z).2 hc1
                      have n1 : ¬ t_is (g 74) f (e - f) (t_nm 1) = 1 := fun z => ((t_is_4 (by omega)).mp z).2 hc3
                      have n2 : ¬ t_is (g 74) f (e - f) (t_nm 2) = 1 := fun z => ((t_is_5 (by omega)).mp z).2 hc5
                      have n3 : ¬ t_is (g 74) f (e - f) (t_nm 3) = 1 := fun z => ((t_is_4 (by omega)).mp z).1 hc6
                      have n4 : ¬ t_is (g 74) f (e - f) (t_nm 4) = 1 := fun z => ((t_is_2 (by omega)).mp z) hc7
                      have y5 : t_is (g 74) f (e - f) (t_nm 5) = 1 := (t_is_5 (by omega)).mpr ⟨hc8, hc9⟩
                      unfold t_ln
                      rw [if_neg n0, if_neg n1, if_neg n2, if_neg n3, if_neg n4, if_pos y5]
                · refine q_ret 2 (some (.int (4 : Int32)), g, u) (fun _ _ => rfl) ?_
                  have n0 : ¬ t_is (g 74) f (e - f) (t_nm 0) = 1 := fun z => ((t_is_4 (by omega)).mp z).2 hc1
                  have n1 : ¬ t_is (g 74) f (e - f) (t_nm 1) = 1 := fun z => ((t_is_4 (by omega)).mp z).2 hc3
                  have n2 : ¬ t_is (g 74) f (e - f) (t_nm 2) = 1 := fun z => ((t_is_5 (by omega)).mp z).2 hc5
                  have n3 : ¬ t_is (g 74) f (e - f) (t_nm 3) = 1 := fun z => ((t_is_4 (by omega)).mp z).1 hc6
                  have y4 : t_is (g 74) f (e - f) (t_nm 4) = 1 := (t_is_2 (by omega)).mpr hc7
                  unfold t_ln
                  rw [if_neg n0, if_neg n1, if_neg n2, if_neg n3, if_pos y4]
              · refine q_step 4 97 [(0, .ref 70)] [.int (0 : Int32), .int (108 : Int32), .int (108 : Int32), .ref 70] g u (fun big n0 => sg_nm_92 big n0 g u) ?_
                refine q_call (M2 := 158) (rest := []) (r_ends g u hs h160 hf he hfe hes _ _ _) (fun _ _ => rfl) ?_
                refine q_if_eq rfl (fun (hc7 : (t_p2 (g 74) s f (108 : Int32) (108 : Int32) (0 : Int32)) = 0) => ?_) (fun (hc7 : ¬ ((t_p2 (g 74) s f (108 : Int32) (108 : Int32) (0 : Int32)) = 0)) => ?_)
                · refine q_step 4 111 [(0, .ref 70)] [.int (116 : Int32), .int (97 : Int32), .int (2 : Int32), .ref 70] g u (fun big n0 => sg_nm_87 big n0 g u) ?_
                  refine q_call (M2 := 157) (rest := []) (r_is g u hs h160 hf he hfe hes 2 (by omega) _ _) (fun _ _ => rfl) ?_
                  refine q_if_eq rfl (fun (hc8 : (t_p1 (g 74) s f (e - f) 2 (97 : Int32) (116 : Int32)) = 0) => ?_) (fun (hc8 : ¬ ((t_p1 (g 74) s f (e - f) 2 (97 : Int32) (116 : Int32)) = 0)) => ?_)
                  · refine q_step 4 125 [(0, .ref 70)] [.int (116 : Int32), .int (115 : Int32), .int (5 : Int32), .ref 70] g u (fun big n0 => sg_nm_88 big n0 g u) ?_
                    refine q_call (M2 := 157) (rest := []) (r_is g u hs h160 hf he hfe hes 5 (by omega) _ _) (fun _ _ => rfl) ?_
                    refine q_if_eq rfl (fun (hc9 : (t_p1 (g 74) s f (e - f) 5 (115 : Int32) (116 : Int32)) = 0) => ?_) (fun (hc9 : ¬ ((t_p1 (g 74) s f (e - f) 5 (115 : Int32) (116 : Int32)) = 0)) => ?_)
                    · refine q_step 4 154 [(0, .ref 70)] [.int (111 : Int32), .int (103 : Int32), .int (4 : Int32), .ref 70] g u (fun big n0 => sg_nm_89 big n0 g u) ?_
                      refine q_call (M2 := 157) (rest := []) (r_is g u hs h160 hf he hfe hes 4 (by omega) _ _) (fun _ _ => rfl) ?_
                      refine q_if_eq rfl (fun (hc10 : (t_p1 (g 74) s f (e - f) 4 (103 : Int32) (111 : Int32)) = 0) => ?_) (fun (hc10 : ¬ ((t_p1 (g 74) s f (e - f) 4 (103 : Int32) (111 : Int32)) = 0)) => ?_)
                      · refine q_ret 2 (some (.int (Int8.toInt32 (Int8.ofInt (-4)))), g, u) (fun _ _ => rfl) ?_
                        have n0 : ¬ t_is (g 74) f (e - f) (t_nm 0) = 1 := fun z => ((t_is_4 (by omega)).mp z).2 hc1
                        have n1 : ¬ t_is (g 74) f (e - f) (t_nm 1) = 1 := fun z => ((t_is_4 (by omega)).mp z).2 hc3
                        have n2 : ¬ t_is (g 74) f (e - f) (t_nm 2) = 1 := fun z => ((t_is_5 (by omega)).mp z).2 hc5
                        have n3 : ¬ t_is (g 74) f (e - f) (t_nm 3) = 1 := fun z => ((t_is_4 (by omega)).mp z).2 hc7
                        have n4 : ¬ t_is (g 74) f (e - f) (t_nm 4) = 1 := fun z => ((t_is_2 (by omega)).mp z) hc8
                        have n5 : ¬ t_is (g 74) f (e - f) (t_nm 5) = 1 := fun z => ((t_is_5 (by omega)).mp z).1 hc9
                        have n6 : ¬ t_is (g 74) f (e - f) (t_nm 6) = 1 := fun z => ((t_is_4 (by omega)).mp z).1 hc10
                        unfold t_ln
                        rw [if_neg n0, if_neg n1, if_neg n2, if_neg n3, if_neg n4, if_neg n5, if_neg n6]
                        rfl
                      · refine q_step 4 166 [(0, .ref 70)] [.int (0 : Int32), .int (108 : Int32), .int (97 : Int32), .ref 70] g u (fun big n0 => sg_nm_90 big n0 g u) ?_
                        refine q_call (M2 := 158) (rest := []) (r_ends g u hs h160 hf he hfe hes _ _ _) (fun _ _ => rfl) ?_
                        refine q_if_eq rfl (fun (hc11 : (t_p2 (g 74) s f (97 : Int32) (108 : Int32) (0 : Int32)) = 0) => ?_) (fun (hc11 : ¬ ((t_p2 (g 74) s f (97 : Int32) (108 : Int32) (0 : Int32)) = 0)) => ?_)
                        · refine q_ret 2 (some (.int (Int8.toInt32 (Int8.ofInt (-4)))), g, u) (fun _ _ => rfl) ?_
                          have n0 : ¬ t_is (g 74) f (e - f) (t_nm 0) = 1 := fun z => ((t_is_4 (by omega)).mp z).2 hc1
                          have n1 : ¬ t_is (g 74) f (e - f) (t_nm 1) = 1 := fun z => ((t_is_4 (by omega)).mp z).2 hc3
                          have n2 : ¬ t_is (g 74) f (e - f) (t_nm 2) = 1 := fun z => ((t_is_5 (by omega)).mp z).2 hc5
                          have n3 : ¬ t_is (g 74) f (e - f) (t_nm 3) = 1 := fun z => ((t_is_4 (by omega)).mp z).2 hc7
                          have n4 : ¬ t_is (g 74) f (e - f) (t_nm 4) = 1 := fun z => ((t_is_2 (by omega)).mp z) hc8
                          have n5 : ¬ t_is (g 74) f (e - f) (t_nm 5) = 1 := fun z => ((t_is_5 (by omega)).mp z).1 hc9
                          have n6 : ¬ t_is (g 74) f (e - f) (t_nm 6) = 1 := fun z => ((t_is_4 (by omega)).mp z).2 hc11
                          unfold t_ln
                          rw [if_neg n0, if_neg n1, if_neg n2, if_neg n3, if_neg n4, if_neg n5, if_neg n6]
                          rfl
                        · refine q_ret 3 (some (.int (6 : Int32)), g, u) (fun _ _ => rfl) ?_
                          have n0 : ¬ t_is (g 74) f (e - f) (t_nm 0) = 1 := fun z => ((t_is_4 (by omega)).mp z).2 hc1
                          have n1 : ¬ t_is (g 74) f (e - f) (t_nm 1) = 1 := fun z => ((t_is_4 (by omega)).mp z).2 hc3
                          have n2 : ¬ t_is (g 74) f (e - f) (t_nm 2) = 1 := fun z => ((t_is_5 (by omega)).mp z).2 hc5
                          have n3 : ¬ t_is (g 74) f (e - f) (t_nm 3) = 1 := fun z => ((t_is_4 (by omega)).mp z).2 hc7
                          have n4 : ¬ t_is (g 74) f (e - f) (t_nm 4) = 1 := fun z => ((t_is_2 (by omega)).mp z) hc8
                          have n5 : ¬ t_is (g 74) f (e - f) (t_nm 5) = 1 := fun z => ((t_is_5 (by omega)).mp z).1 hc9
                          have y6 : t_is (g 74) f (e - f) (t_nm 6) = 1 := (t_is_4 (by omega)).mpr ⟨hc10, hc11⟩
                          unfold t_ln
                          rw [if_neg n0, if_neg n1, if_neg n2, if_neg n3, if_neg n4, if_neg n5, if_pos y6]
                    · refine q_step 4 138 [(0, .ref 70)] [.int (108 : Int32), .int (108 : Int32), .int (105 : Int32), .ref 70] g u (fun big n0 => sg_nm_91 big n0 g u) ?_
                      refine q_call (M2 := 158) (rest := []) (r_ends g u hs h160 hf he hfe hes _ _ _) (fun _ _ => rfl) ?_
                      refine q_if_eq rfl (fun (hc10 : (t_p2 (g 74) s f (105 : Int32) (108 : Int32) (108 : Int32)) = 0) => ?_) (fun (hc10 : ¬ ((t_p2 (g 74) s f (105 : Int32) (108 : Int32) (108 : Int32)) = 0)) => ?_)
                      · refine q_step 4 154 [(0, .ref 70)] [.int (111 : Int32), .int (103 : Int32), .int (4 : Int32), .ref 70] g u (fun big n0 => sg_nm_89 big n0 g u) ?_
                        refine q_call (M2 := 157) (rest := []) (r_is g u hs h160 hf he hfe hes 4 (by omega) _ _) (fun _ _ => rfl) ?_
                        refine q_if_eq rfl (fun (hc11 : (t_p1 (g 74) s f (e - f) 4 (103 : Int32) (111 : Int32)) = 0) => ?_) (fun (hc11 : ¬ ((t_p1 (g 74) s f (e - f) 4 (103 : Int32) (111 : Int32)) = 0)) => ?_)
                        · refine q_ret 2 (some (.int (Int8.toInt32 (Int8.ofInt (-4)))), g, u) (fun _ _ => rfl) ?_
                          have n0 : ¬ t_is (g 74) f (e - f) (t_nm 0) = 1 := fun z => ((t_is_4 (by omega)).mp z).2 hc1
                          have n1 : ¬ t_is (g 74) f (e - f) (t_nm 1) = 1 := fun z => ((t_is_4 (by omega)).mp z).2 hc3
                          have n2 : ¬ t_is (g 74) f (e - f) (t_nm 2) = 1 := fun z => ((t_is_5 (by omega)).mp z).2 hc5
                          have n3 : ¬ t_is (g 74) f (e - f) (t_nm 3) = 1 := fun z => ((t_is_4 (by omega)).mp z).2 hc7
                          have n4 : ¬ t_is (g 74) f (e - f) (t_nm 4) = 1 := fun z => ((t_is_2 (by omega)).mp z) hc8
                          have n5 : ¬ t_is (g 74) f (e - f) (t_nm 5) = 1 := fun z => ((t_is_5 (by omega)).mp z).2 hc10
                          have n6 : ¬ t_is (g 74) f (e - f) (t_nm 6) = 1 := fun z => ((t_is_4 (by omega)).mp z).1 hc11
                          unfold t_ln
                          rw [if_neg n0, if_neg n1, if_neg n2, if_neg n3, if_neg n4, if_neg n5, if_neg n6]
                          rfl
                        · refine q_step 4 166 [(0, .ref 70)] [.int (0 : Int32), .int (108 : Int32), .int (97 : Int32), .ref 70] g u (fun big n0 => sg_nm_90 big n0 g u) ?_
                          refine q_call (M2 := 158) (rest := []) (r_ends g u hs h160 hf he hfe hes _ _ _) (fun _ _ => rfl) ?_
                          refine q_if_eq rfl (fun (hc12 : (t_p2 (g 74) s f (97 : Int32) (108 : Int32) (0 : Int32)) = 0) => ?_) (fun (hc12 : ¬ ((t_p2 (g 74) s f (97 : Int32) (108 : Int32) (0 : Int32)) = 0)) => ?_)
                          · refine q_ret 2 (some (.int (Int8.toInt32 (Int8.ofInt (-4)))), g, u) (fun _ _ => rfl) ?_
                            have n0 : ¬ t_is (g 74) f (e - f) (t_nm 0) = 1 := fun z => ((t_is_4 (by omega)).mp z).2 hc1
                            have n1 : ¬ t_is (g 74) f (e - f) (t_nm 1) = 1 := fun z => ((t_is_4 (by omega)).mp z).2 hc3
                            have n2 : ¬ t_is (g 74) f (e - f) (t_nm 2) = 1 := fun z => ((t_is_5 (by omega)).mp z).2 hc5
                            have n3 : ¬ t_is (g 74) f (e - f) (t_nm 3) = 1 := fun z => ((t_is_4 (by omega)).mp z).2 hc7
                            have n4 : ¬ t_is (g 74) f (e - f) (t_nm 4) = 1 := fun z => ((t_is_2 (by omega)).mp z) hc8
                            have n5 : ¬ t_is (g 74) f (e - f) (t_nm 5) = 1 := fun z => ((t_is_5 (by omega)).mp z).2 hc10
                            have n6 : ¬ t_is (g 74) f (e - f) (t_nm 6) = 1 := fun z => ((t_is_4 (by omega)).mp z).2 hc12
                            unfold t_ln
                            rw [if_neg n0, if_neg n1, if_neg n2, if_neg n3, if_neg n4, if_neg n5, if_neg n6]
                            rfl
                          · refine q_ret 3 (some (.int (6 : Int32)), g, u) (fun _ _ => rfl) ?_
                            have n0 : ¬ t_is (g 74) f (e - f) (t_nm 0) = 1 := fun z => ((t_is_4 (by omega)).mp z).2 hc1
                            have n1 : ¬ t_is (g 74) f (e - f) (t_nm 1) = 1 := fun z => ((t_is_4 (by omega)).mp z).2 hc3
                            have n2 : ¬ t_is (g 74) f (e - f) (t_nm 2) = 1 := fun z => ((t_is_5 (by omega)).mp z).2 hc5
                            have n3 : ¬ t_is (g 74) f (e - f) (t_nm 3) = 1 := fun z => ((t_is_4 (by omega)).mp z).2 hc7
                            have n4 : ¬ t_is (g 74) f (e - f) (t_nm 4) = 1 := fun z => ((t_is_2 (by omega)).mp z) hc8
                            have n5 : ¬ t_is (g 74) f (e - f) (t_nm 5) = 1 := fun z => ((t_is_5 (by omega)).mp z).2 hc10
                            have y6 : t_is (g 74) f (e - f) (t_nm 6) = 1 := (t_is_4 (by omega)).mpr ⟨hc11, hc12⟩
                            unfold t_ln
                            rw [if_neg n0, if_neg n1, if_neg n2, if_neg n3, if_neg n4, if_neg n5, if_pos y6]
                      · refine q_ret 3 (some (.int (5 : Int32)), g, u) (fun _ _ => rfl) ?_
                        have n0 : ¬ t_is (g 74) f (e - f) (t_nm 0) = 1 := fun z => ((t_is_4 (by omega)).mp z).2 hc1
                        have n1 : ¬ t_is (g 74) f (e - f) (t_nm 1) = 1 := fun z => ((t_is_4 (by omega)).mp z).2 hc3
                        have n2 : ¬ t_is (g 74) f (e - f) (t_nm 2) = 1 := fun z => ((t_is_5 (by omega)).mp z).2 hc5
                        have n3 : ¬ t_is (g 74) f (e - f) (t_nm 3) = 1 := fun z => ((t_is_4 (by omega)).mp z).2 hc7
                        have n4 : ¬ t_is (g 74) f (e - f) (t_nm 4) = 1 := fun z => ((t_is_2 (by omega)).mp z) hc8
                        have y5 : t_is (g 74) f (e - f) (t_nm 5) = 1 := (t_is_5 (by omega)).mpr ⟨hc9, hc10⟩
                        unfold t_ln
                        rw [if_neg n0, if_neg n1, if_neg n2, if_neg n3, if_neg n4, if_pos y5]
                  · refine q_ret 2 (some (.int (4 : Int32)), g, u) (fun _ _ => rfl) ?_
                    have n0 : ¬ t_is (g 74) f (e - f) (t_nm 0) = 1 := fun z => ((t_is_4 (by omega)).mp z).2 hc1
                    have n1 : ¬ t_is (g 74) f (e - f) (t_nm 1) = 1 := fun z => ((t_is_4 (by omega)).mp z).2 hc3
                    have n2 : ¬ t_is (g 74) f (e - f) (t_nm 2) = 1 := fun z => ((t_is_5 (by omega)).mp z).2 hc5
                    have n3 : ¬ t_is (g 74) f (e - f) (t_nm 3) = 1 := fun z => ((t_is_4 (by omega)).mp z).2 hc7
                    have y4 : t_is (g 74) f (e - f) (t_nm 4) = 1 := (t_is_2 (by omega)).mpr hc8
                    unfold t_ln
                    rw [if_neg n0, if_neg n1, if_neg n2, if_neg n3, if_pos y4]
                · refine q_ret 2 (some (.int (3 : Int32)), g, u) (fun _ _ => rfl) ?_
                  have n0 : ¬ t_is (g 74) f (e - f) (t_nm 0) = 1 := fun z => ((t_is_4 (by omega)).mp z).2 hc1
                  have n1 : ¬ t_is (g 74) f (e - f) (t_nm 1) = 1 := fun z => ((t_is_4 (by omega)).mp z).2 hc3
                  have n2 : ¬ t_is (g 74) f (e - f) (t_nm 2) = 1 := fun z => ((t_is_5 (by omega)).mp z).2 hc5
                  have y3 : t_is (g 74) f (e - f) (t_nm 3) = 1 := (t_is_4 (by omega)).mpr ⟨hc6, hc7⟩
                  unfold t_ln
                  rw [if_neg n0, if_neg n1, if_neg n2, if_pos y3]
            · refine q_ret 2 (some (.int (2 : Int32)), g, u) (fun _ _ => rfl) ?_
              have n0 : ¬ t_is (g 74) f (e - f) (t_nm 0) = 1 := fun z => ((t_is_4 (by omega)).mp z).2 hc1
              have n1 : ¬ t_is (g 74) f (e - f) (t_nm 1) = 1 := fun z => ((t_is_4 (by omega)).mp z).2 hc3
              have y2 : t_is (g 74) f (e - f) (t_nm 2) = 1 := (t_is_5 (by omega)).mpr ⟨hc4, hc5⟩
              unfold t_ln
              rw [if_neg n0, if_neg n1, if_pos y2]
        · refine q_ret 2 (some (.int (1 : Int32)), g, u) (fun _ _ => rfl) ?_
          have n0 : ¬ t_is (g 74) f (e - f) (t_nm 0) = 1 := fun z => ((t_is_4 (by omega)).mp z).2 hc1
          have y1 : t_is (g 74) f (e - f) (t_nm 1) = 1 := (t_is_4 (by omega)).mpr ⟨hc2, hc3⟩
          unfold t_ln
          rw [if_neg n0, if_pos y1]
    · refine q_ret 2 (some (.int (0 : Int32)), g, u) (fun _ _ => rfl) ?_
      have y0 : t_is (g 74) f (e - f) (t_nm 0) = 1 := (t_is_4 (by omega)).mpr ⟨hc0, hc1⟩
      unfold t_ln
      rw [if_pos y0]
