def ck_up (σ : ck_M) (a i x : Int) : ck_M := fun b j => if b = a ∧ j = i then x else σ b j
def ck_rg (x : Int) : Prop := -2147483648 ≤ x ∧ x < 2147483648
def ck_ild (pc i : Nat) (ls : ck_Ls) (st : List ck_PV) (σ : ck_M) : Option (List Prop × ck_F) := match ls[i]? with
  | some (some (.inl x)) => some ([], pc, ls, .inl x :: st, σ)
  | _ => none
def ck_ald (pc i : Nat) (ls : ck_Ls) (st : List ck_PV) (σ : ck_M) : Option (List Prop × ck_F) := match ls[i]? with
  | some (some (.inr x)) => some ([], pc, ls, .inr x :: st, σ)
  | _ => none
def ck_ist (pc i : Nat) (ls : ck_Ls) (st : List ck_PV) (σ : ck_M) : Option (List Prop × ck_F) := match st with
  | .inl x :: r => if i < ls.length then some ([], pc, ls.set i (some (.inl x)), r, σ) else none
  | _ => none
def ck_ast (pc i : Nat) (ls : ck_Ls) (st : List ck_PV) (σ : ck_M) : Option (List Prop × ck_F) := match st with
  | .inr x :: r => if i < ls.length then some ([], pc, ls.set i (some (.inr x)), r, σ) else none
  | _ => none
def ck_inc (pc i : Nat) (n : Int) (ls : ck_Ls) (st : List ck_PV) (σ : ck_M) : Option (List Prop × ck_F) := match ls[i]? with
  | some (some (.inl x)) => some ([], pc, ls.set i (some (.inl (x + n))), st, σ)
  | _ => none
def ck_bin (f : Int → Int → Int) (pc : Nat) (ls : ck_Ls) (st : List ck_PV) (σ : ck_M) : Option (List Prop × ck_F) := match st with
  | .inl y :: .inl x :: r => some ([], pc + 1, ls, .inl (f x y) :: r, σ)
  | _ => none
def ck_and (x y : Int) : Int := (Int32.ofInt x &&& Int32.ofInt y).toInt
def ck_or (x y : Int) : Int := (Int32.ofInt x ||| Int32.ofInt y).toInt
def ck_xor (x y : Int) : Int := (Int32.ofInt x ^^^ Int32.ofInt y).toInt
def ck_shl (x y : Int) : Int := (Int32.ofInt x <<< (Int32.ofInt y &&& 31)).toInt
def ck_shr (x y : Int) : Int := (Int32.ofInt x >>> (Int32.ofInt y &&& 31)).toInt
def ck_ush (x y : Int) : Int := (((Int32.ofInt x).toUInt32 >>> ((Int32.ofInt y).toUInt32 &&& Int32.toUInt32 31)).toInt32).toInt
def ck_rem (x y : Int) : Int := (Int32.ofInt x - Int32.ofInt x / Int32.ofInt y * Int32.ofInt y).toInt
def ck_nz (x : Int) : Int := (vp_nar .boolean (Int32.ofInt x)).toInt
def ck_cond (c : ClassFile.Cond) (x y : Int) (t f : Nat) : Nat := match c with
  | .eq => if x = y then t else f
  | .ne => if x = y then f else t
  | .lt => if x < y then t else f
  | .ge => if x < y then f else t
  | .gt => if y < x then t else f
  | .le => if y < x then f else t
def ck_sw (lo : Int) (x : Int) (d : Nat) (tl : List Nat) : Nat := if x < lo then d else (tl[(x - lo).toNat]?).getD d
def ck_getf (pc aux : Nat) (ls : ck_Ls) (st : List ck_PV) (σ : ck_M) : Option (List Prop × ck_F) := match st with
  | .inr (c, 3, ci) :: r => if ci = aux / 100 then (match ck_fr (aux / 100) (aux % 100) c with
    | some q => some ([], pc + 3, ls, .inr q :: r, σ)
    | none => some ([], pc + 3, ls, .inl (σ c (aux % 100 : Nat)) :: r, σ)) else none
  | _ => none
def ck_putf (pc aux : Nat) (z : Int) (ls : ck_Ls) (st : List ck_PV) (σ : ck_M) : Option (List Prop × ck_F) := match st with
  | .inl x :: .inr (c, 3, ci) :: r => if ci = aux / 100 then (match ck_fr (aux / 100) (aux % 100) c with
    | some _ => none
    | none => some (if z = 0 then [] else [x = 0 ∨ x = 1], pc + 3, ls, r, ck_up σ c (aux % 100 : Nat) x)) else none
  | _ => none
def ck_aldI (pc : Nat) (ls : ck_Ls) (st : List ck_PV) (σ : ck_M) : Option (List Prop × ck_F) := match st with
  | .inl i :: .inr (a, 0, n) :: r => some ([0 ≤ i ∧ i < (n : Int)], pc + 1, ls, .inl (σ a i) :: r, σ)
  | _ => none
def ck_aldZ (pc : Nat) (ls : ck_Ls) (st : List ck_PV) (σ : ck_M) : Option (List Prop × ck_F) := match st with
  | .inl i :: .inr (a, 1, n) :: r => some ([0 ≤ i ∧ i < (n : Int)], pc + 1, ls, .inl (σ a i) :: r, σ)
  | _ => none
def ck_aldA (pc : Nat) (ls : ck_Ls) (st : List ck_PV) (σ : ck_M) : Option (List Prop × ck_F) := match st with
  | .inl i :: .inr (a, 2, n) :: r => some ([0 ≤ i ∧ i < (n : Int)], pc + 1, ls, .inr (25 + 7 * i, 3, 0) :: r, σ)
  | _ => none
def ck_astI (pc : Nat) (ls : ck_Ls) (st : List ck_PV) (σ : ck_M) : Option (List Prop × ck_F) := match st with
  | .inl x :: .inl i :: .inr (a, 0, n) :: r => some ([0 ≤ i ∧ i < (n : Int)], pc + 1, ls, r, ck_up σ a i x)
  | _ => none
def ck_astZ (pc : Nat) (ls : ck_Ls) (st : List ck_PV) (σ : ck_M) : Option (List Prop × ck_F) := match st with
  | .inl x :: .inl i :: .inr (a, 1, n) :: r => some ([0 ≤ i ∧ i < (n : Int), x = 0 ∨ x = 1], pc + 1, ls, r, ck_up σ a i x)
  | _ => none
def ck_aln (pc : Nat) (ls : ck_Ls) (st : List ck_PV) (σ : ck_M) : Option (List Prop × ck_F) := match st with
  | .inr (_, 0, n) :: r => some ([], pc + 1, ls, .inl (n : Int) :: r, σ)
  | .inr (_, 1, n) :: r => some ([], pc + 1, ls, .inl (n : Int) :: r, σ)
  | .inr (_, 2, n) :: r => some ([], pc + 1, ls, .inl (n : Int) :: r, σ)
  | _ => none
/-- System.arraycopy of n ints from the places 0 on -/
def ck_cpy (σ : ck_M) (a b n : Int) : ck_M := fun c j => if c = b ∧ 0 ≤ j ∧ j < n then σ a j else σ c j
def ck_acp (pc : Nat) (ls : ck_Ls) (st : List ck_PV) (σ : ck_M) : Option (List Prop × ck_F) := match st with
  | [.inl n, .inl d, .inr (b, 0, nb), .inl s0, .inr (a, 0, na)] => some ([s0 = 0, d = 0, 0 ≤ n, n ≤ (na : Int), n ≤ (nb : Int)], pc + 3, ls, [], ck_cpy σ a b n)
  | _ => none
def ck_step (pc : Nat) (en : ck_En) (ls : ck_Ls) (st : List ck_PV) (σ : ck_M) : Option (List Prop × ck_F) :=
  match en.1 with
  | .iconst _ => some ([], pc + 1, ls, .inl en.2.2.2.1 :: st, σ)
  | .bipush _ => some ([], pc + 2, ls, .inl en.2.2.2.1 :: st, σ)
  | .sipush _ => some ([], pc + 3, ls, .inl en.2.2.2.1 :: st, σ)
  | .ldc _ => some ([], pc + 2, ls, .inl en.2.2.2.1 :: st, σ)
  | .ldc_w _ => some ([], pc + 3, ls, .inl en.2.2.2.1 :: st, σ)
  | .iload _ => ck_ild (pc + 2) en.2.1 ls st σ
  | .iload_n _ => ck_ild (pc + 1) en.2.1 ls st σ
  | .aload _ => ck_ald (pc + 2) en.2.1 ls st σ
  | .aload_n _ => ck_ald (pc + 1) en.2.1 ls st σ
  | .istore _ => ck_ist (pc + 2) en.2.1 ls st σ
  | .istore_n _ => ck_ist (pc + 1) en.2.1 ls st σ
  | .astore_n _ => ck_ast (pc + 1) en.2.1 ls st σ
  | .iinc _ _ => ck_inc (pc + 3) en.2.1 en.2.2.2.1 ls st σ
  | .iadd => ck_bin (fun x y => x + y) pc ls st σ
  | .isub => ck_bin (fun x y => x - y) pc ls st σ
  | .imul => ck_bin (fun x y => x * y) pc ls st σ
  | .iand => ck_bin ck_and pc ls st σ
  | .ior => ck_bin ck_or pc ls st σ
  | .ixor => ck_bin ck_xor pc ls st σ
  | .ishl => ck_bin ck_shl pc ls st σ
  | .ishr => ck_bin ck_shr pc ls st σ
  | .iushr => ck_bin ck_ush pc ls st σ
  | .irem => (match st with
    | .inl y :: .inl x :: r => some ([ck_rg y ∧ y ≠ 0], pc + 1, ls, .inl (ck_rem x y) :: r, σ)
    | _ => none)
  | .ineg => (match st with
    | .inl x :: r => some ([], pc + 1, ls, .inl (-x) :: r, σ)
    | _ => none)
  | .dup => (match st with
    | v :: r => some ([], pc + 1, ls, v :: v :: r, σ)
    | _ => none)
  | .ifCond c _ => (match st with
    | .inl x :: r => some ([ck_rg x], ck_cond c x 0 en.2.1 (pc + 3), ls, r, σ)
    | _ => none)
  | .if_icmp c _ => (match st with
    | .inl y :: .inl x :: r => some ([ck_rg x, ck_rg y], ck_cond c x y en.2.1 (pc + 3), ls, r, σ)
    | _ => none)
  | .goto _ => some ([], en.2.1, ls, st, σ)
  | .tableswitch _ lo _ _ => (match st with
    | .inl x :: r => some ([ck_rg x], ck_sw lo x en.2.1 en.2.2.2.2, ls, r, σ)
    | _ => none)
  | .getfield _ => ck_getf pc en.2.1 ls st σ
  | .putfield _ => ck_putf pc en.2.1 en.2.2.2.1 ls st σ
  | .iaload => ck_aldI pc ls st σ
  | .baload => ck_aldZ pc ls st σ
  | .aaload => ck_aldA pc ls st σ
  | .iastore => ck_astI pc ls st σ
  | .bastore => ck_astZ pc ls st σ
  | .arraylength => ck_aln pc ls st σ
  | .invokestatic _ => if en.2.1 = 999 then ck_acp pc ls st σ else none
  | _ => none
/-- the instruction at a place -/
def ck_lk1 : List (Nat × ck_En) → Nat → Option ck_En
  | [], _ => none
  | (a, e) :: r, k => bif Nat.beq k a then some e else ck_lk1 r k
def ck_lk : ck_Tb → Nat → Option ck_En
  | [], _ => none
  | (h, c) :: r, k => bif Nat.ble h k then ck_lk r k else ck_lk1 c k
/-- n steps within a frame, no call among them: what must hold, and where it comes -/
def ck_run : Nat → ck_Tb → ck_F → Option (List Prop × ck_F)
  | 0, _, X => some ([], X)
  | n + 1, tb, X => match ck_lk tb X.1 with
    | none => none
    | some en => match ck_step X.1 en X.2.1 X.2.2.1 X.2.2.2 with
      | none => none
      | some (ps, X1) => match ck_run n tb X1 with
        | none => none
        | some (qs, X2) => some (ps ++ qs, X2)
def ck_all : List Prop → Prop
  | [] => True
  | p :: r => p ∧ ck_all r
theorem ck_all_app {a b : List Prop} : ck_all (a ++ b) ↔ ck_all a ∧ ck_all b := by
  induction a with
  | nil => simp [ck_all]
  | cons p r ih => simp [ck_all, ih, and_assoc]
/-- a method's first frame -/
def ck_ent (md : ck_MD) (as : List ck_PV) (σ : ck_M) : ck_F := (0, as.map some ++ List.replicate (ck_mL md - as.length) none, [], σ)
/-- at a return, with this answer -/
def ck_ret (md : ck_MD) (X : ck_F) (r : Option Int) (σ : ck_M) : Prop := X.2.2.2 = σ ∧ ∃ en, ck_lk (ck_mT md) X.1 = some en ∧ match r with
  | none => en.1 = .return_ ∧ X.2.2.1 = [] ∧ ck_mR md = none
  | some x => en.1 = .ireturn ∧ X.2.2.1 = [.inl x] ∧ (ck_mR md = some .int ∨ (ck_mR md = some .boolean ∧ (x = 0 ∨ x = 1)))
def ck_psh (r : Option Int) (st : List ck_PV) : List ck_PV := match r with
  | none => st
  | some x => .inl x :: st
/-- a call stands at X: the callee, its values, what stays on the stack -/
def ck_at (md : ck_MD) (X : ck_F) (md' : ck_MD) (as rest : List ck_PV) : Prop := ∃ en, ck_lk (ck_mT md) X.1 = some en ∧ ((∃ i, en.1 = .invokevirtual i) ∨ ∃ i, en.1 = .invokestatic i) ∧ ck_MDs[en.2.1]? = some md' ∧ X.2.2.1 = as.reverse ++ rest ∧ as.length = ck_ar md' ∧ rest.length ≤ 4 ∧ (ck_mS md' = false → ∃ c r, as = .inr (c, 3, ck_mC md') :: r)
/-- within a frame, calls by C, at most n turns: a state of T is reached -/
def ck_rch (C : ck_MD → List ck_PV → ck_M → Option Int → ck_M → Prop) (md : ck_MD) : Nat → ck_F → (ck_F → Prop) → Prop
  | 0, X, T => T X
  | n + 1, X, T => T X ∨ (∃ k ps X1, ck_run k (ck_mT md) X = some (ps, X1) ∧ ck_all ps ∧ ck_rch C md n X1 T) ∨ (∃ md' as rest r σ', ck_at md X md' as rest ∧ C md' as X.2.2.2 r σ' ∧ ck_rch C md n (X.1 + 3, X.2.1, ck_psh r rest, σ') T)
def ck_call : Nat → ck_MD → List ck_PV → ck_M → Option Int → ck_M → Prop
  | 0 => fun _ _ _ _ _ => False
  | d + 1 => fun md as σ r σ' => ∃ n, ck_rch (ck_call d) md n (ck_ent md as σ) (fun X => ck_ret md X r σ')
def ck_go (d : Nat) (md : ck_MD) (X : ck_F) (T : ck_F → Prop) : Prop := ∃ n, ck_rch (ck_call d) md n X T
