def ck_T0 : u_T := fun k => match k with
  | 0 => ("CheckSaver$Facts", "known", "[I", true)
  | 1 => ("CheckSaver$Facts", "low", "[I", true)
  | 2 => ("CheckSaver$Facts", "high", "[I", true)
  | 3 => ("CheckSaver$Facts", "value", "[I", true)
  | 4 => ("CheckSaver$Facts", "size", "[I", true)
  | _ => ("CheckSaver$Facts", "there", "[Z", true)
def ck_ty0 : Nat → FieldType := fun k => match k with
  | 0 => .array .int
  | 1 => .array .int
  | 2 => .array .int
  | 3 => .array .int
  | 4 => .array .int
  | _ => .array .boolean
def ck_T1 : u_T := fun k => match k with
  | 0 => ("CheckSaver$Finder", "program", "LCheckSaver$Program;", true)
  | 1 => ("CheckSaver$Finder", "before", "[LCheckSaver$Facts;", true)
  | 2 => ("CheckSaver$Finder", "checksNeedless", "[I", true)
  | 3 => ("CheckSaver$Finder", "reached", "[Z", true)
  | 4 => ("CheckSaver$Finder", "due", "[Z", true)
  | 5 => ("CheckSaver$Finder", "way", "LCheckSaver$Facts;", true)
  | _ => ("CheckSaver$Finder", "worked", "Z", false)
def ck_ty1 : Nat → FieldType := fun k => match k with
  | 0 => .object "CheckSaver$Program"
  | 1 => .array (.object "CheckSaver$Facts")
  | 2 => .array .int
  | 3 => .array .boolean
  | 4 => .array .boolean
  | 5 => .object "CheckSaver$Facts"
  | _ => .boolean
def ck_T2 : u_T := fun k => match k with
  | 0 => ("CheckSaver$Inputs", "waiting", "[I", true)
  | 1 => ("CheckSaver$Inputs", "first", "I", false)
  | _ => ("CheckSaver$Inputs", "count", "I", false)
def ck_ty2 : Nat → FieldType := fun k => match k with
  | 0 => .array .int
  | 1 => .int
  | _ => .int
def ck_T3 : u_T := fun k => match k with
  | 0 => ("CheckSaver$Machine", "inputs", "LCheckSaver$Inputs;", true)
  | 1 => ("CheckSaver$Machine", "finder", "LCheckSaver$Finder;", true)
  | 2 => ("CheckSaver$Machine", "program", "LCheckSaver$Program;", true)
  | 3 => ("CheckSaver$Machine", "numbers", "[I", true)
  | 4 => ("CheckSaver$Machine", "arrays", "[I", true)
  | 5 => ("CheckSaver$Machine", "lengths", "[I", true)
  | 6 => ("CheckSaver$Machine", "places", "[I", true)
  | 7 => ("CheckSaver$Machine", "kept", "[I", true)
  | 8 => ("CheckSaver$Machine", "begun", "Z", false)
  | 9 => ("CheckSaver$Machine", "status", "I", false)
  | 10 => ("CheckSaver$Machine", "at", "I", false)
  | 11 => ("CheckSaver$Machine", "done", "I", false)
  | 12 => ("CheckSaver$Machine", "checksMade", "I", false)
  | 13 => ("CheckSaver$Machine", "checksLeftOut", "I", false)
  | 14 => ("CheckSaver$Machine", "outputs", "I", false)
  | _ => ("CheckSaver$Machine", "made", "I", false)
def ck_ty3 : Nat → FieldType := fun k => match k with
  | 0 => .object "CheckSaver$Inputs"
  | 1 => .object "CheckSaver$Finder"
  | 2 => .object "CheckSaver$Program"
  | 3 => .array .int
  | 4 => .array .int
  | 5 => .array .int
  | 6 => .array .int
  | 7 => .array .int
  | 8 => .boolean
  | 9 => .int
  | 10 => .int
  | 11 => .int
  | 12 => .int
  | 13 => .int
  | 14 => .int
  | _ => .int
def ck_T4 : u_T := fun k => match k with
  | 0 => ("CheckSaver$Program", "sorts", "[I", true)
  | 1 => ("CheckSaver$Program", "xs", "[I", true)
  | 2 => ("CheckSaver$Program", "ys", "[I", true)
  | 3 => ("CheckSaver$Program", "zs", "[I", true)
  | 4 => ("CheckSaver$Program", "headOf", "[I", true)
  | 5 => ("CheckSaver$Program", "elseOf", "[I", true)
  | 6 => ("CheckSaver$Program", "endOf", "[I", true)
  | 7 => ("CheckSaver$Program", "numbersChanged", "[I", true)
  | 8 => ("CheckSaver$Program", "arraysChanged", "[I", true)
  | 9 => ("CheckSaver$Program", "open", "[I", true)
  | 10 => ("CheckSaver$Program", "count", "I", false)
  | _ => ("CheckSaver$Program", "depth", "I", false)
def ck_ty4 : Nat → FieldType := fun k => match k with
  | 0 => .array .int
  | 1 => .array .int
  | 2 => .array .int
  | 3 => .array .int
  | 4 => .array .int
  | 5 => .array .int
  | 6 => .array .int
  | 7 => .array .int
  | 8 => .array .int
  | 9 => .array .int
  | 10 => .int
  | _ => .int
def ck_T5 : u_T := fun k => match k with
  | 0 => ("CheckSaver", "machine", "LCheckSaver$Machine;", true)
  | 1 => ("CheckSaver", "inputs", "LCheckSaver$Inputs;", true)
  | 2 => ("CheckSaver", "finder", "LCheckSaver$Finder;", true)
  | _ => ("CheckSaver", "program", "LCheckSaver$Program;", true)
def ck_ty5 : Nat → FieldType := fun k => match k with
  | 0 => .object "CheckSaver$Machine"
  | 1 => .object "CheckSaver$Inputs"
  | 2 => .object "CheckSaver$Finder"
  | _ => .object "CheckSaver$Program"
def ck_T6 : u_T := fun k => match k with
  | 0 => ("CheckSaverModel", "thrown", "I", false)
  | 1 => ("CheckSaverModel", "size", "I", false)
  | 2 => ("CheckSaverModel", "open", "I", false)
  | 3 => ("CheckSaverModel", "sort", "[I", true)
  | 4 => ("CheckSaverModel", "x", "[I", true)
  | 5 => ("CheckSaverModel", "y", "[I", true)
  | 6 => ("CheckSaverModel", "z", "[I", true)
  | 7 => ("CheckSaverModel", "other", "[I", true)
  | 8 => ("CheckSaverModel", "end", "[I", true)
  | 9 => ("CheckSaverModel", "of", "[I", true)
  | 10 => ("CheckSaverModel", "opened", "[I", true)
  | 11 => ("CheckSaverModel", "inputs", "[I", true)
  | 12 => ("CheckSaverModel", "waiting", "I", false)
  | 13 => ("CheckSaverModel", "row", "[I", true)
  | 14 => ("CheckSaverModel", "before", "[I", true)
  | 15 => ("CheckSaverModel", "not", "[I", true)
  | 16 => ("CheckSaverModel", "then", "[I", true)
  | 17 => ("CheckSaverModel", "back", "[I", true)
  | 18 => ("CheckSaverModel", "comes", "[Z", true)
  | 19 => ("CheckSaverModel", "begun", "Z", false)
  | 20 => ("CheckSaverModel", "at", "I", false)
  | 21 => ("CheckSaverModel", "how", "I", false)
  | 22 => ("CheckSaverModel", "done", "I", false)
  | 23 => ("CheckSaverModel", "made", "I", false)
  | 24 => ("CheckSaverModel", "saved", "I", false)
  | 25 => ("CheckSaverModel", "outputs", "I", false)
  | 26 => ("CheckSaverModel", "arrays", "I", false)
  | 27 => ("CheckSaverModel", "number", "[I", true)
  | 28 => ("CheckSaverModel", "array", "[I", true)
  | 29 => ("CheckSaverModel", "length", "[I", true)
  | 30 => ("CheckSaverModel", "cells", "[I", true)
  | _ => ("CheckSaverModel", "shown", "[I", true)
def ck_ty6 : Nat → FieldType := fun k => match k with
  | 0 => .int
  | 1 => .int
  | 2 => .int
  | 3 => .array .int
  | 4 => .array .int
  | 5 => .array .int
  | 6 => .array .int
  | 7 => .array .int
  | 8 => .array .int
  | 9 => .array .int
  | 10 => .array .int
  | 11 => .array .int
  | 12 => .int
  | 13 => .array .int
  | 14 => .array .int
  | 15 => .array .int
  | 16 => .array .int
  | 17 => .array .int
  | 18 => .array .boolean
  | 19 => .boolean
  | 20 => .int
  | 21 => .int
  | 22 => .int
  | 23 => .int
  | 24 => .int
  | 25 => .int
  | 26 => .int
  | 27 => .array .int
  | 28 => .array .int
  | 29 => .array .int
  | 30 => .array .int
  | _ => .array .int
/-- the sorts of objects; an object names its own by its place here -/
abbrev ck_cl : List vw_C := [("CheckSaver$Facts", ck_T0, 6), ("CheckSaver$Finder", ck_T1, 7), ("CheckSaver$Inputs", ck_T2, 3), ("CheckSaver$Machine", ck_T3, 16), ("CheckSaver$Program", ck_T4, 12), ("CheckSaver", ck_T5, 4), ("CheckSaverModel", ck_T6, 32)]
/-- a field that is a reference: the cell that it names, its kind (0 ints, 1 truths, 2 Facts, 3 an object), its length or its sort -/
def ck_fr (ci k : Nat) (c : Int) : Option (Int × Nat × Nat) := match ci with
  | 0 => (match k with
    | 0 => some (c + 1, 0, 10)
    | 1 => some (c + 2, 0, 10)
    | 2 => some (c + 3, 0, 40)
    | 3 => some (c + 4, 0, 4)
    | 4 => some (c + 5, 0, 4)
    | 5 => some (c + 6, 1, 4)
    | _ => none)
  | 1 => (match k with
    | 0 => some (5, 3, 4)
    | 1 => some (16, 2, 64)
    | 2 => some (17, 0, 64)
    | 3 => some (18, 1, 64)
    | 4 => some (19, 1, 65)
    | 5 => some (473, 3, 0)
    | _ => none)
  | 2 => (match k with
    | 0 => some (3, 0, 64)
    | _ => none)
  | 3 => (match k with
    | 0 => some (2, 3, 2)
    | 1 => some (4, 3, 1)
    | 2 => some (5, 3, 4)
    | 3 => some (20, 0, 10)
    | 4 => some (21, 0, 4)
    | 5 => some (22, 0, 40)
    | 6 => some (23, 0, 1600)
    | 7 => some (24, 0, 16)
    | _ => none)
  | 4 => (match k with
    | 0 => some (6, 0, 64)
    | 1 => some (7, 0, 64)
    | 2 => some (8, 0, 64)
    | 3 => some (9, 0, 64)
    | 4 => some (10, 0, 64)
    | 5 => some (11, 0, 64)
    | 6 => some (12, 0, 64)
    | 7 => some (13, 0, 64)
    | 8 => some (14, 0, 64)
    | 9 => some (15, 0, 8)
    | _ => none)
  | 5 => (match k with
    | 0 => some (1, 3, 3)
    | 1 => some (2, 3, 2)
    | 2 => some (4, 3, 1)
    | 3 => some (5, 3, 4)
    | _ => none)
  | 6 => (match k with
    | 3 => some (481, 0, 64)
    | 4 => some (482, 0, 64)
    | 5 => some (483, 0, 64)
    | 6 => some (484, 0, 64)
    | 7 => some (485, 0, 64)
    | 8 => some (486, 0, 64)
    | 9 => some (487, 0, 64)
    | 10 => some (488, 0, 8)
    | 11 => some (489, 0, 64)
    | 13 => some (490, 0, 82)
    | 14 => some (491, 0, 5248)
    | 15 => some (492, 0, 5248)
    | 16 => some (493, 0, 5248)
    | 17 => some (494, 0, 5248)
    | 18 => some (495, 1, 64)
    | 27 => some (496, 0, 10)
    | 28 => some (497, 0, 4)
    | 29 => some (498, 0, 40)
    | 30 => some (499, 0, 1600)
    | 31 => some (500, 0, 16)
    | _ => none)
  | _ => none
/-- what each cell is -/
def ck_shF (j : Nat) : Nat × Nat := match j with
  | 0 => (3, 0)
  | 1 => (0, 10)
  | 2 => (0, 10)
  | 3 => (0, 40)
  | 4 => (0, 4)
  | 5 => (0, 4)
  | _ => (1, 4)
def ck_shA : List (Nat × Nat) := [(3, 5), (3, 3), (3, 2), (0, 64), (3, 1), (3, 4), (0, 64), (0, 64), (0, 64), (0, 64), (0, 64), (0, 64), (0, 64), (0, 64), (0, 64), (0, 8), (2, 64), (0, 64), (1, 64), (1, 65), (0, 10), (0, 4), (0, 40), (0, 1600), (0, 16)]
def ck_shM : List (Nat × Nat) := [(3, 6), (0, 64), (0, 64), (0, 64), (0, 64), (0, 64), (0, 64), (0, 64), (0, 8), (0, 64), (0, 82), (0, 5248), (0, 5248), (0, 5248), (0, 5248), (1, 64), (0, 10), (0, 4), (0, 40), (0, 1600), (0, 16)]
def ck_sh (c : Nat) : Nat × Nat := if c < 25 then ck_shA.getD c (9, 0) else if c < 480 then ck_shF ((c - 25) % 7) else ck_shM.getD (c - 480) (9, 0)
def ck_nF (ci : Nat) : Nat := match ci with
  | 0 => 6
  | 1 => 7
  | 2 => 3
  | 3 => 16
  | 4 => 12
  | 5 => 4
  | _ => 32
def ck_GW : List Cond := lw_tbl.filter goodWord
theorem ck_gw {w : Cond} (i : Nat) (h : lw_tbl[i]? = some w) (hg : goodWord w = true) : w ∈ ck_GW := List.mem_filter.mpr ⟨List.mem_of_getElem? h, hg⟩
theorem ck_gws {ws : List Cond} (ps : List Nat) (h : ws = ps.filterMap (fun i => lw_tbl[i]?)) (hg : ws.all goodWord = true) : ∀ w ∈ ws, w ∈ ck_GW := by
  intro w hw
  have h1 := List.all_eq_true.mp hg w hw
  rw [h] at hw
  obtain ⟨i, -, hi⟩ := List.mem_filterMap.mp hw
  exact ck_gw i hi h1
theorem ck_nm0 : ∀ a, a < 6 → ∀ b, b < 6 → a ≠ b → (ck_T0 a).2.1 ≠ (ck_T0 b).2.1 := by decide +kernel
theorem ck_tyok0 : ∀ k, k < 6 → parseFieldDescriptor (ck_T0 k).2.2.1 = some (ck_ty0 k) := by decide +kernel
set_option maxRecDepth 20000 in
theorem ck_in0 : ∀ w ∈ u_ws "CheckSaver$Facts" ck_T0 6, w ∈ ck_GW := ck_gws [192, 194, 196, 198, 200, 202] (by decide +kernel) (by decide +kernel)
theorem ck_nm1 : ∀ a, a < 7 → ∀ b, b < 7 → a ≠ b → (ck_T1 a).2.1 ≠ (ck_T1 b).2.1 := by decide +kernel
theorem ck_tyok1 : ∀ k, k < 7 → parseFieldDescriptor (ck_T1 k).2.2.1 = some (ck_ty1 k) := by decide +kernel
set_option maxRecDepth 20000 in
theorem ck_in1 : ∀ w ∈ u_ws "CheckSaver$Finder" ck_T1 7, w ∈ ck_GW := ck_gws [218, 220, 222, 224, 226, 228, 230] (by decide +kernel) (by decide +kernel)
theorem ck_nm2 : ∀ a, a < 3 → ∀ b, b < 3 → a ≠ b → (ck_T2 a).2.1 ≠ (ck_T2 b).2.1 := by decide +kernel
theorem ck_tyok2 : ∀ k, k < 3 → parseFieldDescriptor (ck_T2 k).2.2.1 = some (ck_ty2 k) := by decide +kernel
set_option maxRecDepth 20000 in
theorem ck_in2 : ∀ w ∈ u_ws "CheckSaver$Inputs" ck_T2 3, w ∈ ck_GW := ck_gws [97, 99, 101] (by decide +kernel) (by decide +kernel)
theorem ck_nm3 : ∀ a, a < 16 → ∀ b, b < 16 → a ≠ b → (ck_T3 a).2.1 ≠ (ck_T3 b).2.1 := by decide +kernel
theorem ck_tyok3 : ∀ k, k < 16 → parseFieldDescriptor (ck_T3 k).2.2.1 = some (ck_ty3 k) := by decide +kernel
set_option maxRecDepth 20000 in
theorem ck_in3 : ∀ w ∈ u_ws "CheckSaver$Machine" ck_T3 16, w ∈ ck_GW := ck_gws [254, 256, 258, 260, 262, 264, 266, 268, 270, 272, 274, 276, 278, 280, 282, 284] (by decide +kernel) (by decide +kernel)
theorem ck_nm4 : ∀ a, a < 12 → ∀ b, b < 12 → a ≠ b → (ck_T4 a).2.1 ≠ (ck_T4 b).2.1 := by decide +kernel
theorem ck_tyok4 : ∀ k, k < 12 → parseFieldDescriptor (ck_T4 k).2.2.1 = some (ck_ty4 k) := by decide +kernel
set_option maxRecDepth 20000 in
theorem ck_in4 : ∀ w ∈ u_ws "CheckSaver$Program" ck_T4 12, w ∈ ck_GW := ck_gws [149, 151, 153, 155, 157, 159, 161, 163, 165, 167, 169, 171] (by decide +kernel) (by decide +kernel)
theorem ck_nm5 : ∀ a, a < 4 → ∀ b, b < 4 → a ≠ b → (ck_T5 a).2.1 ≠ (ck_T5 b).2.1 := by decide +kernel
theorem ck_tyok5 : ∀ k, k < 4 → parseFieldDescriptor (ck_T5 k).2.2.1 = some (ck_ty5 k) := by decide +kernel
set_option maxRecDepth 20000 in
theorem ck_in5 : ∀ w ∈ u_ws "CheckSaver" ck_T5 4, w ∈ ck_GW := ck_gws [291, 293, 295, 297] (by decide +kernel) (by decide +kernel)
theorem ck_nm6 : ∀ a, a < 32 → ∀ b, b < 32 → a ≠ b → (ck_T6 a).2.1 ≠ (ck_T6 b).2.1 := by decide +kernel
theorem ck_tyok6 : ∀ k, k < 32 → parseFieldDescriptor (ck_T6 k).2.2.1 = some (ck_ty6 k) := by decide +kernel
set_option maxRecDepth 20000 in
theorem ck_in6 : ∀ w ∈ u_ws "CheckSaverModel" ck_T6 32, w ∈ ck_GW := ck_gws [790, 792, 794, 796, 798, 800, 802, 804, 806, 808, 810, 812, 814, 816, 818, 820, 822, 824, 826, 828, 830, 832, 834, 836, 838, 840, 842, 844, 846, 848, 850, 852] (by decide +kernel) (by decide +kernel)
