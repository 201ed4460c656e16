/-! The pure machine: ints are whole numbers, cells have fixed numbers, memory is a function of cell and place. A frame: pc, variables, operands, memory. -/
abbrev ck_PV : Type := Int ⊕ (Int × Nat × Nat)
abbrev ck_M : Type := Int → Int → Int
abbrev ck_Ls : Type := List (Option ck_PV)
abbrev ck_F : Type := Nat × ck_Ls × List ck_PV × ck_M
/-- an instruction: itself, a resolved number, a place in the tables' words, a constant, a switch's targets -/
abbrev ck_En : Type := Instr × Nat × Nat × Int × List Nat
/-- instructions by their places, in pieces: below which place a piece lies, and the piece -/
abbrev ck_Tb : Type := List (Nat × List (Nat × ck_En))
/-- name, code, variables, answer, static, how many parameters, the sort of its own objects, instructions -/
abbrev ck_MD : Type := MethodName × ByteArray × Nat × Option FieldType × Bool × Nat × Nat × ck_Tb
abbrev ck_mN (md : ck_MD) : MethodName := md.1
abbrev ck_mB (md : ck_MD) : ByteArray := md.2.1
abbrev ck_mL (md : ck_MD) : Nat := md.2.2.1
abbrev ck_mR (md : ck_MD) : Option FieldType := md.2.2.2.1
abbrev ck_mS (md : ck_MD) : Bool := md.2.2.2.2.1
abbrev ck_mP (md : ck_MD) : Nat := md.2.2.2.2.2.1
abbrev ck_mC (md : ck_MD) : Nat := md.2.2.2.2.2.2.1
abbrev ck_mT (md : ck_MD) : ck_Tb := md.2.2.2.2.2.2.2
