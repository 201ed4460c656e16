/-- how many values a call takes -/
def ck_ar (md : ck_MD) : Nat := ck_mP md + (if ck_mS md = true then 0 else 1)
/-! what the tables of instructions must be -/
def ck_len (en : ck_En) : Nat := match en.1 with
  | .iconst _ => 1
  | .bipush _ => 2
  | .sipush _ => 3
  | .ldc _ => 2
  | .ldc_w _ => 3
  | .iload _ => 2
  | .iload_n _ => 1
  | .aload _ => 2
  | .aload_n _ => 1
  | .istore _ => 2
  | .istore_n _ => 1
  | .astore_n _ => 1
  | .iinc _ _ => 3
  | .ifCond _ _ => 3
  | .if_icmp _ _ => 3
  | .goto _ => 3
  | .tableswitch _ _ _ _ => en.2.2.1
  | .getfield _ => 3
  | .putfield _ => 3
  | .invokevirtual _ => 3
  | .invokestatic _ => 3
  | _ => 1
def ck_wd (hint : Nat) (w : Cond) : Bool := decide (lw_tbl[hint]? = some w) && goodWord w
def ck_okF (own : String) (idx aux hint : Nat) : Bool := match ck_cl[aux / 100]? with
  | some r => decide (aux % 100 < r.2.2) && ck_wd hint (Cond.fieldLink own idx r.1 (r.2.1 (aux % 100)).2.1 (r.2.1 (aux % 100)).2.2.1)
  | none => false
def ck_okP (aux : Nat) (z : Int) : Bool := match ck_cl[aux / 100]? with
  | some r => !(r.2.1 (aux % 100)).2.2.2 && decide ((r.2.1 (aux % 100)).2.2.1 = if z = 0 then "I" else "Z")
  | none => false
/-- entries of nest mates' methods -/
def ck_NW : List Cond := [.methodLinkNest "CheckSaver$Program" 42 ⟨"CheckSaver", "isNumber", "(I)Z"⟩ "CheckSaver", .methodLinkNest "CheckSaver$Program" 49 ⟨"CheckSaver", "isArray", "(I)Z"⟩ "CheckSaver"]
def ck_okC (own : String) (idx aux hint : Nat) (sta : Bool) : Bool := match ck_MDs[aux]? with
  | some md => (ck_wd hint (Cond.methodLink own idx (ck_mN md)) || (sta && decide (Cond.methodLinkNest own idx (ck_mN md) "CheckSaver" ∈ ck_NW))) && (ck_mS md == sta)
  | none => sta && decide (aux = 999) && ck_wd hint (Cond.methodLink own idx arraycopyName)
/-- methods that write nothing, and call such ones alone -/
def ck_ROi : List Nat := [11, 13, 19, 20, 21, 64, 65]
def ck_roI (en : ck_En) : Bool := match en.1 with
  | .putfield _ => false
  | .iastore => false
  | .bastore => false
  | .invokevirtual _ => ck_ROi.contains en.2.1
  | .invokestatic _ => ck_ROi.contains en.2.1
  | _ => true
def ck_roB (md : ck_MD) : Bool := (ck_mT md).all (fun ch => ch.2.all (fun q => ck_roI q.2))
def ck_RO (md : ck_MD) : Prop := ∃ i ∈ ck_ROi, ck_MDs[i]? = some md
theorem ck_RO_all : ck_ROi.all (fun i => match ck_MDs[i]? with
  | some md => ck_roB md
  | none => false) = true := by decide +kernel
theorem ck_RO_ok {md : ck_MD} (h : ck_RO md) : ck_roB md = true := by
  obtain ⟨i, h1, h2⟩ := h
  have h3 := List.all_eq_true.mp ck_RO_all i h1
  rw [h2] at h3
  exact h3
def ck_okx (own : String) (pc : Nat) (en : ck_En) : Bool := match en.1 with
  | .iconst n => decide (Int32.ofInt n = Int32.ofInt en.2.2.2.1)
  | .bipush n => decide ((Int8.ofInt n).toInt32 = Int32.ofInt en.2.2.2.1)
  | .sipush n => decide ((Int16.ofInt n).toInt32 = Int32.ofInt en.2.2.2.1)
  | .ldc i => ck_wd en.2.2.1 (Cond.constant own i (Int32.ofInt en.2.2.2.1))
  | .ldc_w i => ck_wd en.2.2.1 (Cond.constant own i (Int32.ofInt en.2.2.2.1))
  | .iload i => decide (i = en.2.1)
  | .iload_n i => decide (i.val = en.2.1)
  | .aload i => decide (i = en.2.1)
  | .aload_n i => decide (i.val = en.2.1)
  | .istore i => decide (i = en.2.1)
  | .istore_n i => decide (i.val = en.2.1)
  | .astore_n i => decide (i.val = en.2.1)
  | .iinc i n => decide (i = en.2.1) && decide (Int32.ofInt n = Int32.ofInt en.2.2.2.1)
  | .ifCond _ o => decide ((pc : Int) + o = en.2.1)
  | .if_icmp _ o => decide ((pc : Int) + o = en.2.1)
  | .goto o => decide ((pc : Int) + o = en.2.1)
  | .tableswitch d lo hi offs => decide ((pc : Int) + d = en.2.1) && decide (offs.toList.map (fun o => (pc : Int) + o) = en.2.2.2.2.map (fun t : Nat => (t : Int))) && decide (hi - lo + 1 = offs.size)
  | .getfield i => ck_okF own i en.2.1 en.2.2.1
  | .putfield i => ck_okF own i en.2.1 en.2.2.1 && ck_okP en.2.1 en.2.2.2.1
  | .invokevirtual i => ck_okC own i en.2.1 en.2.2.1 false
  | .invokestatic i => ck_okC own i en.2.1 en.2.2.1 true
  | _ => true
def ck_ok (own : String) (bytes : ByteArray) (q : Nat × ck_En) : Bool := decide (decode bytes q.1 = .ok (q.2.1, ck_len q.2)) && ck_okx own q.1 q.2
def ck_chk (md : ck_MD) : Bool := (ck_mT md).all (fun ch => ch.2.all (ck_ok (ck_mN md).cls (ck_mB md)))
def ck_mok (md : ck_MD) : Prop := Cond.code (ck_mN md) (ck_mB md) (ck_mL md) (ck_mR md) ∈ ck_GW ∧ Cond.initialized (ck_mN md).cls ∈ ck_GW ∧ plainFor (ck_mN md) = true ∧
  ((ck_mN md).cls ≠ "java/lang/invoke/MethodHandle" ∧ (ck_mN md).cls ≠ "java/lang/invoke/VarHandle" ∧ (parseMethodDescriptor (ck_mN md).desc).map (fun d => d.parameters.length) = some (ck_mP md)) ∧
  (ck_mS md = true → Cond.static (ck_mN md) ∈ ck_GW) ∧ (ck_mS md = false → Cond.instanceMethod (ck_mN md) ∈ ck_GW ∧ Cond.selects (ck_mN md).cls (ck_mN md) (ck_mN md) ∈ ck_GW ∧ (ck_cl[ck_mC md]?).map (fun r => r.1) = some (ck_mN md).cls) ∧
  (ck_mL md ≤ 11 ∧ ck_ar md ≤ ck_mL md) ∧ ck_chk md = true
