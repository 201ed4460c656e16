/-! The Finder's constructor: its laws. -/
theorem cn_enF (cs : ck_Cs) (ad : Nat → Nat) {i : Nat} (hi : i ≤ 64) : ck_en ad cs ck_z (25 + 7 * i) = .inr (0, ck_fs ad ck_z 0 ((25 + 7 * i : Nat) : Int)) := by
  unfold ck_en
  rw [show ck_sh (25 + 7 * i) = ck_shF 0 from cn_shf (j := 0) hi (by decide)]
  rfl
/-- a block of seven by its addresses -/
theorem cn_clF (cs : ck_Cs) {ad ad' : Nat → Nat} {i : Nat} (hi : i ≤ 64) (h : ∀ j : Nat, j < 7 → ad (25 + 7 * i + j) = ad' (25 + 7 * i + j)) : cn_ws cs ad (cn_iF i) = cn_ws cs ad' (cn_iF i) := by
  have t : ∀ j : Nat, (((25 + 7 * i : Nat) : Int) + (j : Int)).toNat = 25 + 7 * i + j := fun j => by omega
  have e0 : ∀ a : Nat → Nat, ck_fs a ck_z 0 ((25 + 7 * i : Nat) : Int) = [.ref (a (25 + 7 * i + 1)), .ref (a (25 + 7 * i + 2)), .ref (a (25 + 7 * i + 3)), .ref (a (25 + 7 * i + 4)), .ref (a (25 + 7 * i + 5)), .ref (a (25 + 7 * i + 6))] := fun a => by
    show [Value.ref (a (((25 + 7 * i : Nat) : Int) + ((1 : Nat) : Int)).toNat), .ref (a (((25 + 7 * i : Nat) : Int) + ((2 : Nat) : Int)).toNat), .ref (a (((25 + 7 * i : Nat) : Int) + ((3 : Nat) : Int)).toNat), .ref (a (((25 + 7 * i : Nat) : Int) + ((4 : Nat) : Int)).toNat), .ref (a (((25 + 7 * i : Nat) : Int) + ((5 : Nat) : Int)).toNat), .ref (a (((25 + 7 * i : Nat) : Int) + ((6 : Nat) : Int)).toNat)] = _
    rw [t, t, t, t, t, t]
  have k1 : ∀ j : Nat, 0 < j → j < 7 → ck_en ad cs ck_z (25 + 7 * i + j) = ck_en ad' cs ck_z (25 + 7 * i + j) := fun j h0 h1 => by
    unfold ck_en
    rw [cn_shf hi h1]
    have h2 : j = 1 ∨ j = 2 ∨ j = 3 ∨ j = 4 ∨ j = 5 ∨ j = 6 := by omega
    rcases h2 with rfl | rfl | rfl | rfl | rfl | rfl <;> rfl
  unfold cn_ws cn_iF
  simp only [List.map_cons, List.map_nil]
  rw [cn_enF cs ad hi, cn_enF cs ad' hi, e0, e0, k1 1 (by decide) (by decide), k1 2 (by decide) (by decide), k1 3 (by decide) (by decide), k1 4 (by decide) (by decide), k1 5 (by decide) (by decide), k1 6 (by decide) (by decide), h 1 (by decide), h 2 (by decide), h 3 (by decide), h 4 (by decide), h 5 (by decide), h 6 (by decide), show ad (25 + 7 * i) = ad' (25 + 7 * i) from h 0 (by decide)]
def cn_iB (k : Nat) : List Nat := (List.range k).flatMap cn_iF
def cn_PL (cs : ck_Cs) (v : Nat → Nat → Nat) (k : Nat) : va_W := (List.range k).flatMap (fun i => cn_ws cs (v i) (cn_iF i))
theorem cn_fm {α β : Type} {l : List α} {f g : α → List β} (h : ∀ x ∈ l, f x = g x) : l.flatMap f = l.flatMap g := by
  induction l with
  | nil => rfl
  | cons a r ih => rw [List.flatMap_cons, List.flatMap_cons, h a List.mem_cons_self, ih fun x hx => h x (List.mem_cons_of_mem _ hx)]
theorem cn_PL_s (cs : ck_Cs) (v : Nat → Nat → Nat) (a : Nat → Nat) (k : Nat) : cn_PL cs (fun i => if i = k then a else v i) (k + 1) = cn_PL cs v k ++ cn_ws cs a (cn_iF k) := by
  unfold cn_PL
  rw [List.range_succ, List.flatMap_append, List.flatMap_cons, List.flatMap_nil, List.append_nil, show (fun i => if i = k then a else v i) k = a from if_pos rfl]
  congr 1
  refine cn_fm fun x hx => ?_
  have : x < k := List.mem_range.mp hx
  show cn_ws cs (if x = k then a else v x) (cn_iF x) = _
  rw [if_neg (by omega)]
theorem cn_PL_ad (cs : ck_Cs) (v : Nat → Nat → Nat) (ad : Nat → Nat) {k : Nat} (hk : k ≤ 64) (h : ∀ i j : Nat, i < k → j < 7 → ad (25 + 7 * i + j) = v i (25 + 7 * i + j)) : cn_ws cs ad (cn_iB k) = cn_PL cs v k := by
  unfold cn_PL cn_iB
  unfold cn_ws
  rw [List.map_flatMap]
  refine cn_fm fun x hx => ?_
  have hxk : x < k := List.mem_range.mp hx
  exact cn_clF cs (by omega) (fun j hj => h x j hxk hj)
/-- the array of Facts, by what it holds at its places -/
theorem cn_arrE {cA : ClassId} {N : Nat} {f g : Nat → Option Nat} (h : ∀ j, j < N → f j = g j) : vp_cell cA (N, .inr (.inr (.inr (.inr f)))) = vp_cell cA (N, .inr (.inr (.inr (.inr g)))) := by
  rw [vp_cell_q, vp_cell_q]
  unfold arrV
  congr 1
  apply Array.ext
  · simp
  · intro i h1 h2
    simp only [Array.size_ofFn] at h1
    simp [h i h1]
def cn_iFi : List Nat := 4 :: ([5, 6, 7, 8, 9, 10, 11, 12, 13, 14, 15] ++ ([16, 17, 18, 19] ++ (cn_iF 64 ++ cn_iB 64)))
/-- the Finder, its Program, its arrays, way -/
def cn_X (cs : ck_Cs) (h : Nat) (ad1 : Nat → Nat) (qb q17 q18 q19 : Nat) (ad2 : Nat → Nat) (f : Nat → Option Nat) : va_W :=
  (h, .inr (1, [.ref (ad1 5), .ref qb, .ref q17, .ref q18, .ref q19, .ref (ad2 473), cn_i0])) :: (cn_ws cs ad1 [5, 6, 7, 8, 9, 10, 11, 12, 13, 14, 15] ++ ([(qb, .inl (cs.2.2, 64, .inr (.inr (.inr (.inr f))))), (q17, .inl (cs.1, 64, .inl (fun _ => Int32.ofInt 0))), (q18, .inl (cs.2.1, 64, .inl (fun _ => Int32.ofInt 0))), (q19, .inl (cs.2.1, 65, .inl (fun _ => Int32.ofInt 0)))] ++ cn_ws cs ad2 (cn_iF 64)))
def cn_adF (h : Nat) (ad1 : Nat → Nat) (qb q17 q18 q19 : Nat) (ad2 : Nat → Nat) (v : Nat → Nat → Nat) : Nat → Nat := fun x => if x = 4 then h else if x ≤ 15 then ad1 x else if x = 16 then qb else if x = 17 then q17 else if x = 18 then q18 else if x = 19 then q19 else if 473 ≤ x then ad2 x else v ((x - 25) / 7) x
theorem cn_X_ad (cs : ck_Cs) (h : Nat) (ad1 : Nat → Nat) (qb q17 q18 q19 : Nat) (ad2 : Nat → Nat) (v : Nat → Nat → Nat) : cn_ws cs (cn_adF h ad1 qb q17 q18 q19 ad2 v) cn_iFi = cn_X cs h ad1 qb q17 q18 q19 ad2 (fun j => some (cn_adF h ad1 qb q17 q18 q19 ad2 v (25 + 7 * j))) ++ cn_PL cs v 64 := by
  have e1 : cn_ws cs (cn_adF h ad1 qb q17 q18 q19 ad2 v) (cn_iF 64) = cn_ws cs ad2 (cn_iF 64) := cn_clF cs (Nat.le_refl _) (fun j hj => by
    unfold cn_adF
    rw [if_neg (by omega), if_neg (by omega), if_neg (by omega), if_neg (by omega), if_neg (by omega), if_neg (by omega), if_pos (by omega)])
  have e2 : cn_ws cs (cn_adF h ad1 qb q17 q18 q19 ad2 v) (cn_iB 64) = cn_PL cs v 64 := cn_PL_ad cs v _ (Nat.le_refl _) (fun i j hi hj => by
    unfold cn_adF
    rw [if_neg (by omega), if_neg (by omega), if_neg (by omega), if_neg (by omega), if_neg (by omega), if_neg (by omega), if_neg (by omega), show (25 + 7 * i + j - 25) / 7 = i by omega])
  have e3 : cn_ws cs (cn_adF h ad1 qb q17 q18 q19 ad2 v) (4 :: ([5, 6, 7, 8, 9, 10, 11, 12, 13, 14, 15] ++ [16, 17, 18, 19])) = (h, .inr (1, [.ref (ad1 5), .ref qb, .ref q17, .ref q18, .ref q19, .ref (ad2 473), cn_i0])) :: (cn_ws cs ad1 [5, 6, 7, 8, 9, 10, 11, 12, 13, 14, 15] ++ [(qb, .inl (cs.2.2, 64, .inr (.inr (.inr (.inr (fun j => some (cn_adF h ad1 qb q17 q18 q19 ad2 v (25 + 7 * j)))))))), (q17, .inl (cs.1, 64, .inl (fun _ => Int32.ofInt 0))), (q18, .inl (cs.2.1, 64, .inl (fun _ => Int32.ofInt 0))), (q19, .inl (cs.2.1, 65, .inl (fun _ => Int32.ofInt 0)))]) := rfl
  have e4 : cn_iFi = (4 :: ([5, 6, 7, 8, 9, 10, 11, 12, 13, 14, 15] ++ [16, 17, 18, 19])) ++ (cn_iF 64 ++ cn_iB 64) := rfl
  have ea : ∀ a b : List Nat, cn_ws cs (cn_adF h ad1 qb q17 q18 q19 ad2 v) (a ++ b) = cn_ws cs (cn_adF h ad1 qb q17 q18 q19 ad2 v) a ++ cn_ws cs (cn_adF h ad1 qb q17 q18 q19 ad2 v) b := fun a b => by unfold cn_ws; exact List.map_append
  rw [e4, ea, e3, ea, e1, e2]
  unfold cn_X
  simp only [List.cons_append, List.append_assoc]
