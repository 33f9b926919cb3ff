/-! THE PURE MACHINE: class tables (printed by wip/gen/gen02.py), then cells, one step, runs. -/
def lw_gt : List Cond := lw_tbl.filter goodWord
theorem lw_gi {w : Cond} (i : Nat) (h : lw_tbl[i]? = some w) (hg : goodWord w = true) : w ∈ lw_gt := List.mem_filter.mpr ⟨List.mem_of_getElem? h, hg⟩
def kN (o : Nat) : String := match o with
  | 0 => "MoodTown$Search"
  | 1 => "MoodTown$Sheet"
  | 2 => "MoodTown$Tape"
  | 3 => "MoodTown$Telling"
  | 4 => "MoodTown$Town"
  | 5 => "MoodTown$Walk"
  | 6 => "MoodTown"
  | 7 => "MoodTownModel"
  | 8 => "MoodTownLaw"
  | 9 => "java/util/Arrays"
  | 10 => "java/lang/Math"
  | 11 => "java/lang/Integer"
  | _ => ""
def kT0 : u_T := fun k => match k with
  | 0 => ("MoodTown$Search", "walk", "LMoodTown$Walk;", true)
  | 1 => ("MoodTown$Search", "trial", "LMoodTown$Town;", true)
  | _ => ("MoodTown$Search", "marks", "[J", true)
def kY0 : Nat → FieldType := fun k => match k with
  | 0 => .object "MoodTown$Walk"
  | 1 => .object "MoodTown$Town"
  | _ => .array .long
def kT1 : u_T := fun k => match k with
  | 0 => ("MoodTown$Sheet", "row", "[I", true)
  | 1 => ("MoodTown$Sheet", "size", "I", false)
  | _ => ("MoodTown$Sheet", "lane", "I", false)
def kY1 : Nat → FieldType := fun k => match k with
  | 0 => .array .int
  | 1 => .int
  | _ => .int
def kT2 : u_T := fun k => match k with
  | 0 => ("MoodTown$Tape", "bytes", "[B", true)
  | 1 => ("MoodTown$Tape", "length", "I", false)
  | 2 => ("MoodTown$Tape", "kind", "I", false)
  | 3 => ("MoodTown$Tape", "first", "I", false)
  | 4 => ("MoodTown$Tape", "value", "I", false)
  | _ => ("MoodTown$Tape", "place", "I", false)
def kY2 : Nat → FieldType := fun k => match k with
  | 0 => .array .byte
  | 1 => .int
  | 2 => .int
  | 3 => .int
  | 4 => .int
  | _ => .int
def kT3 : u_T := fun k => match k with
  | 0 => ("MoodTown$Telling", "told", "LMoodTown$Town;", true)
  | 1 => ("MoodTown$Telling", "lines", "I", false)
  | 2 => ("MoodTown$Telling", "fault", "I", false)
  | 3 => ("MoodTown$Telling", "faultPlace", "I", false)
  | 4 => ("MoodTown$Telling", "tape", "LMoodTown$Tape;", true)
  | 5 => ("MoodTown$Telling", "townTold", "Z", false)
  | 6 => ("MoodTown$Telling", "pullTold", "Z", false)
  | _ => ("MoodTown$Telling", "pressTold", "Z", false)
def kY3 : Nat → FieldType := fun k => match k with
  | 0 => .object "MoodTown$Town"
  | 1 => .int
  | 2 => .int
  | 3 => .int
  | 4 => .object "MoodTown$Tape"
  | 5 => .boolean
  | 6 => .boolean
  | _ => .boolean
def kT4 : u_T := fun k => match k with
  | 0 => ("MoodTown$Town", "wide", "I", false)
  | 1 => ("MoodTown$Town", "high", "I", false)
  | 2 => ("MoodTown$Town", "walls", "I", false)
  | 3 => ("MoodTown$Town", "people", "I", false)
  | 4 => ("MoodTown$Town", "press", "I", false)
  | 5 => ("MoodTown$Town", "step", "I", false)
  | 6 => ("MoodTown$Town", "seen", "I", false)
  | 7 => ("MoodTown$Town", "cells", "[I", true)
  | 8 => ("MoodTown$Town", "moods", "[I", true)
  | 9 => ("MoodTown$Town", "still", "[I", true)
  | 10 => ("MoodTown$Town", "goals", "[I", true)
  | 11 => ("MoodTown$Town", "pulls", "[I", true)
  | 12 => ("MoodTown$Town", "seenOnes", "[I", true)
  | _ => ("MoodTown$Town", "seenWays", "[I", true)
def kY4 : Nat → FieldType := fun k => match k with
  | 0 => .int
  | 1 => .int
  | 2 => .int
  | 3 => .int
  | 4 => .int
  | 5 => .int
  | 6 => .int
  | 7 => .array .int
  | 8 => .array .int
  | 9 => .array .int
  | 10 => .array .int
  | 11 => .array .int
  | 12 => .array .int
  | _ => .array .int
def kT5 : u_T := fun k => match k with
  | 0 => ("MoodTown$Walk", "columns", "[I", true)
  | 1 => ("MoodTown$Walk", "rows", "[I", true)
  | 2 => ("MoodTown$Walk", "easts", "[I", true)
  | 3 => ("MoodTown$Walk", "souths", "[I", true)
  | 4 => ("MoodTown$Walk", "ways", "[I", true)
  | 5 => ("MoodTown$Walk", "went", "I", false)
  | _ => ("MoodTown$Walk", "flipped", "I", false)
def kY5 : Nat → FieldType := fun k => match k with
  | 0 => .array .int
  | 1 => .array .int
  | 2 => .array .int
  | 3 => .array .int
  | 4 => .array .int
  | 5 => .int
  | _ => .int
def kT6 : u_T := fun k => match k with
  | 0 => ("MoodTown", "tape", "LMoodTown$Tape;", true)
  | 1 => ("MoodTown", "telling", "LMoodTown$Telling;", true)
  | 2 => ("MoodTown", "town", "LMoodTown$Town;", true)
  | 3 => ("MoodTown", "walk", "LMoodTown$Walk;", true)
  | 4 => ("MoodTown", "search", "LMoodTown$Search;", true)
  | 5 => ("MoodTown", "images", "[LMoodTown$Town;", true)
  | 6 => ("MoodTown", "sheets", "[LMoodTown$Sheet;", true)
  | 7 => ("MoodTown", "keptBits", "I", false)
  | _ => ("MoodTown", "latestTorn", "I", false)
def kY6 : Nat → FieldType := fun k => match k with
  | 0 => .object "MoodTown$Tape"
  | 1 => .object "MoodTown$Telling"
  | 2 => .object "MoodTown$Town"
  | 3 => .object "MoodTown$Walk"
  | 4 => .object "MoodTown$Search"
  | 5 => .array (.object "MoodTown$Town")
  | 6 => .array (.object "MoodTown$Sheet")
  | 7 => .int
  | _ => .int
def kT7 : u_T := fun k => match k with
  | 0 => ("MoodTownModel", "st", "[I", true)
  | 1 => ("MoodTownModel", "isKept", "[Z", true)
  | 2 => ("MoodTownModel", "wide", "I", false)
  | 3 => ("MoodTownModel", "high", "I", false)
  | 4 => ("MoodTownModel", "people", "I", false)
  | 5 => ("MoodTownModel", "draft", "[I", true)
  | 6 => ("MoodTownModel", "dWide", "I", false)
  | 7 => ("MoodTownModel", "dHigh", "I", false)
  | 8 => ("MoodTownModel", "dPeople", "I", false)
  | 9 => ("MoodTownModel", "toldLines", "I", false)
  | 10 => ("MoodTownModel", "highestCell", "I", false)
  | 11 => ("MoodTownModel", "highestOne", "I", false)
  | 12 => ("MoodTownModel", "tape", "[I", true)
  | 13 => ("MoodTownModel", "taped", "I", false)
  | 14 => ("MoodTownModel", "pos", "I", false)
  | 15 => ("MoodTownModel", "from", "I", false)
  | 16 => ("MoodTownModel", "sort", "I", false)
  | 17 => ("MoodTownModel", "value", "I", false)
  | 18 => ("MoodTownModel", "fault", "I", false)
  | 19 => ("MoodTownModel", "wrongAt", "I", false)
  | 20 => ("MoodTownModel", "at", "[I", true)
  | 21 => ("MoodTownModel", "feels", "[I", true)
  | 22 => ("MoodTownModel", "stills", "[I", true)
  | 23 => ("MoodTownModel", "goals", "[I", true)
  | 24 => ("MoodTownModel", "wishes", "[I", true)
  | 25 => ("MoodTownModel", "went", "[I", true)
  | 26 => ("MoodTownModel", "flips", "[I", true)
  | 27 => ("MoodTownModel", "many", "I", false)
  | 28 => ("MoodTownModel", "cellRows", "[I", true)
  | 29 => ("MoodTownModel", "moodRows", "[I", true)
  | 30 => ("MoodTownModel", "lanes", "[I", true)
  | 31 => ("MoodTownModel", "sizes", "[I", true)
  | 32 => ("MoodTownModel", "cells", "[I", true)
  | 33 => ("MoodTownModel", "torn", "I", false)
  | _ => ("MoodTownModel", "had", "[I", true)
def kY7 : Nat → FieldType := fun k => match k with
  | 0 => .array .int
  | 1 => .array .boolean
  | 2 => .int
  | 3 => .int
  | 4 => .int
  | 5 => .array .int
  | 6 => .int
  | 7 => .int
  | 8 => .int
  | 9 => .int
  | 10 => .int
  | 11 => .int
  | 12 => .array .int
  | 13 => .int
  | 14 => .int
  | 15 => .int
  | 16 => .int
  | 17 => .int
  | 18 => .int
  | 19 => .int
  | 20 => .array .int
  | 21 => .array .int
  | 22 => .array .int
  | 23 => .array .int
  | 24 => .array .int
  | 25 => .array .int
  | 26 => .array .int
  | 27 => .int
  | 28 => .array .int
  | 29 => .array .int
  | 30 => .array .int
  | 31 => .array .int
  | 32 => .array .int
  | 33 => .int
  | _ => .array .int
def kT (ci : Nat) : u_T := match ci with
  | 0 => kT0
  | 1 => kT1
  | 2 => kT2
  | 3 => kT3
  | 4 => kT4
  | 5 => kT5
  | 6 => kT6
  | _ => kT7
def kY (ci : Nat) : Nat → FieldType := match ci with
  | 0 => kY0
  | 1 => kY1
  | 2 => kY2
  | 3 => kY3
  | 4 => kY4
  | 5 => kY5
  | 6 => kY6
  | _ => kY7
def kM (ci : Nat) : Nat := match ci with
  | 0 => 3
  | 1 => 3
  | 2 => 6
  | 3 => 8
  | 4 => 14
  | 5 => 7
  | 6 => 9
  | _ => 35
def kZ (ci : Nat) : List Value := match ci with
  | 0 => [.null, .null, .null]
  | 1 => [.null, .int 0, .int 0]
  | 2 => [.null, .int 0, .int 0, .int 0, .int 0, .int 0]
  | 3 => [.null, .int 0, .int 0, .int 0, .null, .int 0, .int 0, .int 0]
  | 4 => [.int 0, .int 0, .int 0, .int 0, .int 0, .int 0, .int 0, .null, .null, .null, .null, .null, .null, .null]
  | 5 => [.null, .null, .null, .null, .null, .int 0, .int 0]
  | 6 => [.null, .null, .null, .null, .null, .null, .null, .int 0, .int 0]
  | _ => [.null, .null, .int 0, .int 0, .int 0, .null, .int 0, .int 0, .int 0, .int 0, .int 0, .int 0, .null, .int 0, .int 0, .int 0, .int 0, .int 0, .int 0, .int 0, .null, .null, .null, .null, .null, .null, .null, .int 0, .null, .null, .null, .null, .null, .int 0, .null]
def kC : List vw_C := [(kN 0, kT 0, kM 0), (kN 1, kT 1, kM 1), (kN 2, kT 2, kM 2), (kN 3, kT 3, kM 3), (kN 4, kT 4, kM 4), (kN 5, kT 5, kM 5), (kN 6, kT 6, kM 6), (kN 7, kT 7, kM 7)]
def kJ0 : List Nat := [291, 293, 295]
theorem kI0 : ∀ w ∈ u_ws (kN 0) (kT 0) (kM 0), w ∈ lw_gt := by
  have h : u_ws (kN 0) (kT 0) (kM 0) = kJ0.filterMap (fun i => lw_tbl[i]?) := by decide +kernel
  have hg : (u_ws (kN 0) (kT 0) (kM 0)).all goodWord = true := by decide +kernel
  intro w hw
  have hw2 := List.all_eq_true.mp hg w hw
  rw [h] at hw
  obtain ⟨i, -, hi⟩ := List.mem_filterMap.mp hw
  exact lw_gi i hi hw2
def kJ1 : List Nat := [312, 314, 316]
theorem kI1 : ∀ w ∈ u_ws (kN 1) (kT 1) (kM 1), w ∈ lw_gt := by
  have h : u_ws (kN 1) (kT 1) (kM 1) = kJ1.filterMap (fun i => lw_tbl[i]?) := by decide +kernel
  have hg : (u_ws (kN 1) (kT 1) (kM 1)).all goodWord = true := by decide +kernel
  intro w hw
  have hw2 := List.all_eq_true.mp hg w hw
  rw [h] at hw
  obtain ⟨i, -, hi⟩ := List.mem_filterMap.mp hw
  exact lw_gi i hi hw2
def kJ2 : List Nat := [100, 102, 104, 106, 108, 110]
theorem kI2 : ∀ w ∈ u_ws (kN 2) (kT 2) (kM 2), w ∈ lw_gt := by
  have h : u_ws (kN 2) (kT 2) (kM 2) = kJ2.filterMap (fun i => lw_tbl[i]?) := by decide +kernel
  have hg : (u_ws (kN 2) (kT 2) (kM 2)).all goodWord = true := by decide +kernel
  intro w hw
  have hw2 := List.all_eq_true.mp hg w hw
  rw [h] at hw
  obtain ⟨i, -, hi⟩ := List.mem_filterMap.mp hw
  exact lw_gi i hi hw2
def kJ3 : List Nat := [228, 230, 232, 234, 236, 238, 240, 242]
theorem kI3 : ∀ w ∈ u_ws (kN 3) (kT 3) (kM 3), w ∈ lw_gt := by
  have h : u_ws (kN 3) (kT 3) (kM 3) = kJ3.filterMap (fun i => lw_tbl[i]?) := by decide +kernel
  have hg : (u_ws (kN 3) (kT 3) (kM 3)).all goodWord = true := by decide +kernel
  intro w hw
  have hw2 := List.all_eq_true.mp hg w hw
  rw [h] at hw
  obtain ⟨i, -, hi⟩ := List.mem_filterMap.mp hw
  exact lw_gi i hi hw2
def kJ4 : List Nat := [186, 188, 190, 192, 194, 196, 198, 200, 202, 204, 206, 208, 210, 212]
theorem kI4 : ∀ w ∈ u_ws (kN 4) (kT 4) (kM 4), w ∈ lw_gt := by
  have h : u_ws (kN 4) (kT 4) (kM 4) = kJ4.filterMap (fun i => lw_tbl[i]?) := by decide +kernel
  have hg : (u_ws (kN 4) (kT 4) (kM 4)).all goodWord = true := by decide +kernel
  intro w hw
  have hw2 := List.all_eq_true.mp hg w hw
  rw [h] at hw
  obtain ⟨i, -, hi⟩ := List.mem_filterMap.mp hw
  exact lw_gi i hi hw2
def kJ5 : List Nat := [265, 267, 269, 271, 273, 275, 277]
theorem kI5 : ∀ w ∈ u_ws (kN 5) (kT 5) (kM 5), w ∈ lw_gt := by
  have h : u_ws (kN 5) (kT 5) (kM 5) = kJ5.filterMap (fun i => lw_tbl[i]?) := by decide +kernel
  have hg : (u_ws (kN 5) (kT 5) (kM 5)).all goodWord = true := by decide +kernel
  intro w hw
  have hw2 := List.all_eq_true.mp hg w hw
  rw [h] at hw
  obtain ⟨i, -, hi⟩ := List.mem_filterMap.mp hw
  exact lw_gi i hi hw2
def kJ6 : List Nat := [328, 330, 332, 334, 336, 338, 340, 342, 344]
theorem kI6 : ∀ w ∈ u_ws (kN 6) (kT 6) (kM 6), w ∈ lw_gt := by
  have h : u_ws (kN 6) (kT 6) (kM 6) = kJ6.filterMap (fun i => lw_tbl[i]?) := by decide +kernel
  have hg : (u_ws (kN 6) (kT 6) (kM 6)).all goodWord = true := by decide +kernel
  intro w hw
  have hw2 := List.all_eq_true.mp hg w hw
  rw [h] at hw
  obtain ⟨i, -, hi⟩ := List.mem_filterMap.mp hw
  exact lw_gi i hi hw2
def kJ7 : List Nat := [1020, 1022, 1024, 1026, 1028, 1030, 1032, 1034, 1036, 1038, 1040, 1042, 1044, 1046, 1048, 1050, 1052, 1054, 1056, 1058, 1060, 1062, 1064, 1066, 1068, 1070, 1072, 1074, 1076, 1078, 1080, 1082, 1084, 1086, 1088]
theorem kI7 : ∀ w ∈ u_ws (kN 7) (kT 7) (kM 7), w ∈ lw_gt := by
  have h : u_ws (kN 7) (kT 7) (kM 7) = kJ7.filterMap (fun i => lw_tbl[i]?) := by decide +kernel
  have hg : (u_ws (kN 7) (kT 7) (kM 7)).all goodWord = true := by decide +kernel
  intro w hw
  have hw2 := List.all_eq_true.mp hg w hw
  rw [h] at hw
  obtain ⟨i, -, hi⟩ := List.mem_filterMap.mp hw
  exact lw_gi i hi hw2
theorem kI (ci : Nat) (h : ci < 8) : ∀ w ∈ u_ws (kN ci) (kT ci) (kM ci), w ∈ lw_gt := by
  match ci, h with
  | 0, _ => exact kI0
  | 1, _ => exact kI1
  | 2, _ => exact kI2
  | 3, _ => exact kI3
  | 4, _ => exact kI4
  | 5, _ => exact kI5
  | 6, _ => exact kI6
  | 7, _ => exact kI7
theorem kCi (ci : Nat) (h : ci < 8) : kC[ci]? = some (kN ci, kT ci, kM ci) := by
  match ci, h with
  | 0, _ => rfl
  | 1, _ => rfl
  | 2, _ => rfl
  | 3, _ => rfl
  | 4, _ => rfl
  | 5, _ => rfl
  | 6, _ => rfl
  | 7, _ => rfl
theorem kYok (ci : Nat) (h : ci < 8) : ∀ k, k < kM ci → parseFieldDescriptor (kT ci k).2.2.1 = some (kY ci k) := by
  match ci, h with
  | 0, _ => decide +kernel
  | 1, _ => decide +kernel
  | 2, _ => decide +kernel
  | 3, _ => decide +kernel
  | 4, _ => decide +kernel
  | 5, _ => decide +kernel
  | 6, _ => decide +kernel
  | 7, _ => decide +kernel
theorem kNm (ci : Nat) (h : ci < 8) : ∀ a, a < kM ci → ∀ b, b < kM ci → a ≠ b → (kT ci a).2.1 ≠ (kT ci b).2.1 := by
  match ci, h with
  | 0, _ => decide +kernel
  | 1, _ => decide +kernel
  | 2, _ => decide +kernel
  | 3, _ => decide +kernel
  | 4, _ => decide +kernel
  | 5, _ => decide +kernel
  | 6, _ => decide +kernel
  | 7, _ => decide +kernel
theorem kZok (ci : Nat) (h : ci < 8) : ∀ j, j < kM ci → defaultValue (kY ci j) = vp_V (kZ ci) j := by
  match ci, h with
  | 0, _ => decide +kernel
  | 1, _ => decide +kernel
  | 2, _ => decide +kernel
  | 3, _ => decide +kernel
  | 4, _ => decide +kernel
  | 5, _ => decide +kernel
  | 6, _ => decide +kernel
  | 7, _ => decide +kernel
theorem kTown (ci : Nat) (h : ci < 8) : ∀ k, k < kM ci → (kT ci k).1 = kN ci := by
  match ci, h with
  | 0, _ => decide +kernel
  | 1, _ => decide +kernel
  | 2, _ => decide +kernel
  | 3, _ => decide +kernel
  | 4, _ => decide +kernel
  | 5, _ => decide +kernel
  | 6, _ => decide +kernel
  | 7, _ => decide +kernel
