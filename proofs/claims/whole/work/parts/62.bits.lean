/-! ## Bits of masks -/
def co_bx1 (a : Nat) : Bool := (List.range 10).all fun m => ck_and (ck_shr (a : Int) (m : Int)) 1 == ((a / 2 ^ m % 2 : Nat) : Int)
theorem co_bx1_all : (List.range 1024).all co_bx1 = true := by decide +kernel
def co_bx2 (a : Nat) : Bool := (List.range 10).all fun x => ck_or (a : Int) (ck_shl 1 (x : Int)) == ((if a / 2 ^ x % 2 = 1 then a else a + 2 ^ x : Nat) : Int)
theorem co_bx2_all : (List.range 1024).all co_bx2 = true := by decide +kernel
theorem co_nat {a : Int} (h : 0 ≤ a) : ∃ A : Nat, a = (A : Int) := ⟨a.toNat, (Int.toNat_of_nonneg h).symm⟩
theorem co_bit {a m : Nat} (ha : a < 1024) (hm : m < 10) : ck_and (ck_shr (a : Int) (m : Int)) 1 = ((a / 2 ^ m % 2 : Nat) : Int) := by
  have h := List.all_eq_true.mp co_bx1_all a (List.mem_range.mpr ha)
  have h2 := List.all_eq_true.mp h m (List.mem_range.mpr hm)
  exact eq_of_beq h2
theorem co_orb {a x : Nat} (ha : a < 1024) (hx : x < 10) : ck_or (a : Int) (ck_shl 1 (x : Int)) = ((if a / 2 ^ x % 2 = 1 then a else a + 2 ^ x : Nat) : Int) := by
  have h := List.all_eq_true.mp co_bx2_all a (List.mem_range.mpr ha)
  have h2 := List.all_eq_true.mp h x (List.mem_range.mpr hx)
  exact eq_of_beq h2
theorem co_lt10 {x : Nat} (h : x < 10) : x = 0 ∨ x = 1 ∨ x = 2 ∨ x = 3 ∨ x = 4 ∨ x = 5 ∨ x = 6 ∨ x = 7 ∨ x = 8 ∨ x = 9 := by omega
theorem co_ors0 {a x : Nat} (ha : a < 1024) (hx : x < 10) : (if a / 2 ^ x % 2 = 1 then a else a + 2 ^ x) < 1024 ∧ ∀ m, m < 10 → ((if a / 2 ^ x % 2 = 1 then a else a + 2 ^ x) / 2 ^ m % 2 = 0 ↔ (m ≠ x ∧ a / 2 ^ m % 2 = 0)) := by
  rcases co_lt10 hx with rfl | rfl | rfl | rfl | rfl | rfl | rfl | rfl | rfl | rfl <;>
  · refine ⟨by split <;> omega, fun m hm => ?_⟩
    rcases co_lt10 hm with rfl | rfl | rfl | rfl | rfl | rfl | rfl | rfl | rfl | rfl <;> (split <;> omega)
theorem co_ors {a x : Int} (ha : 0 ≤ a ∧ a < 1024) (hx : 0 ≤ x ∧ x < 10) : (0 ≤ ck_or a (ck_shl 1 x) ∧ ck_or a (ck_shl 1 x) < 1024) ∧ ∀ m, 0 ≤ m → m < 10 → (ck_and (ck_shr (ck_or a (ck_shl 1 x)) m) 1 = 0 ↔ (m ≠ x ∧ ck_and (ck_shr a m) 1 = 0)) := by
  obtain ⟨A, rfl⟩ := co_nat ha.1
  obtain ⟨Y, rfl⟩ := co_nat hx.1
  have h := co_ors0 (a := A) (x := Y) (by omega) (by omega)
  rw [co_orb (by omega) (by omega)]
  refine ⟨by omega, fun m m0 m1 => ?_⟩
  obtain ⟨M, rfl⟩ := co_nat m0
  rw [co_bit h.1 (by omega), co_bit (by omega) (by omega)]
  have := h.2 M (by omega)
  omega
