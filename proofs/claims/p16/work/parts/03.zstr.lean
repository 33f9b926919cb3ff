/-! THE WORLD OF THE STRING CONSTANTS: pure references 1 to 7. -/
def sg_ref : List (Nat × String) := [(76, "town"), (85, "wall"), (90, "at"), (96, "still"), (98, "pull"), (103, "press"), (108, "goal")]
def sg_ix (i : Nat) : Nat := (sg_ref.getD i (0, "")).1
def sg_tx (i : Nat) : String := (sg_ref.getD i (0, "")).2
def sg_W (pre : Nat → Nat) (base : Nat) (U : State) (H : Heap) : Prop :=
  vk_S 7 sg_len sg_byt (fun i => pre (i + 1)) (fun i => pre (i + 8)) (fun q => base ≤ q) U H ∧ (∀ i : Nat, i < 7 → vk_R "MoodTown$Telling" (sg_ix i) (sg_tx i) (pre (i + 1)) U) ∧ va_Z "java/lang/String" "COMPACT_STRINGS" "Z" (.int 1) (fun q => base ≤ q) U H ∧ va_Zq "jdk/internal/util/Preconditions" "SIOOBE_FORMATTER" "Ljava/util/function/BiFunction;" (fun q => base ≤ q) U H
/-- the script and the constants -/
def pm_Xs (pre : Nat → Nat) (base : Nat) (xs : List Int32) (U : State) (H : Heap) : Prop := va_X (pre 0) xs.length (fun j => xs.getD j 0) U H ∧ sg_W pre base U H
theorem pm_Xs.same {pre : Nat → Nat} {base : Nat} {xs : List Int32} {u U : State} {H : Heap} (hv : U.vm = u.vm) (h : pm_Xs pre base xs u H) : pm_Xs pre base xs U H := by
  have hA : u.vm.Alike U.vm := by rw [hv]; exact Vm.Alike.refl _
  obtain ⟨h1, h2, h3, h4, h5⟩ := h
  exact ⟨va_X.moved hA h1, vk_S.moved hA h2, fun i hi => vk_R.same hv (h3 i hi), va_Z.moved hA h4, va_Zq.moved hA h5⟩
theorem pm_Xs.warm {pre : Nat → Nat} {base : Nat} {xs : List Int32} {s U : State} {H : Heap} {locs : List Loc} (hW : s.WarmedH U.vm) (hb0 : pre 0 < base) (hb1 : base ≤ s.heap.size) (hS : va_S (fun q => base ≤ q) s.heap H locs) (h : pm_Xs pre base xs s s.heap) : pm_Xs pre base xs U H := by
  obtain ⟨h1, h2, h3, h4, h5⟩ := h
  exact ⟨va_X.moved hW.alike (va_X.kept h1 (hS.2.1 _ (Nat.lt_of_lt_of_le hb0 hb1) (Nat.not_le.mpr hb0))), vk_S.moved hW.alike (h2.kept hS.2.1), fun i hi => vk_R.warm hW (h3 i hi), va_Z.moved hW.alike (h4.kept hS.2.1), va_Zq.moved hW.alike (h5.kept hS.2.1)⟩
