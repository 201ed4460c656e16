/-! ## The measure: each bound moves one way alone -/
section COS
variable {f g : Int → Int}
theorem co_sum_le : ∀ m : Nat, (∀ i : Int, 0 ≤ i → i < m → f i ≤ g i) → ck_sum0 f m ≤ ck_sum0 g m := by
  intro m
  induction m with
  | zero => exact fun _ => Int.le_refl _
  | succ m ih =>
    intro h
    have h1 := ih (fun i a b => h i a (by omega))
    have h2 := h m (by omega) (by omega)
    show ck_sum0 f m + f m ≤ ck_sum0 g m + g m
    omega
theorem co_sum_eq : ∀ m : Nat, (∀ i : Int, 0 ≤ i → i < m → f i ≤ g i) → ck_sum0 g m ≤ ck_sum0 f m → ∀ i : Int, 0 ≤ i → i < m → f i = g i := by
  intro m
  induction m with
  | zero => intro _ _ i a b; exact absurd b (by omega)
  | succ m ih =>
    intro h h3 i a b
    have h1 := co_sum_le m (fun i a b => h i a (by omega))
    have h2 := h m (by omega) (by omega)
    have h4 : ck_sum0 g m + g m ≤ ck_sum0 f m + f m := h3
    by_cases e : i = m
    · rw [e]; omega
    · exact ih (fun i a b => h i a (by omega)) (by omega) i a (by omega)
theorem co_sum_c (c : Int) : ∀ m : Nat, ck_sum0 (fun _ => c) m = m * c := by
  intro m
  induction m with
  | zero => show (0 : Int) = (0 : Int) * c; rw [Int.zero_mul]
  | succ m ih =>
    show ck_sum0 (fun _ => c) m + c = ((m + 1 : Nat) : Int) * c
    rw [ih]
    show (m : Int) * c + c = ((m : Int) + 1) * c
    rw [Int.add_mul, Int.one_mul]
theorem co_sum_ext : ∀ m : Nat, (∀ i : Int, 0 ≤ i → i < m → f i = g i) → ck_sum0 f m = ck_sum0 g m := by
  intro m h
  exact Int.le_antisymm (co_sum_le m (fun i a b => Int.le_of_eq (h i a b))) (co_sum_le m (fun i a b => Int.le_of_eq (h i a b).symm))
theorem co_sum_bd {c d : Int} (m : Nat) (h : ∀ i : Int, 0 ≤ i → i < m → c ≤ f i ∧ f i ≤ d) : m * c ≤ ck_sum0 f m ∧ ck_sum0 f m ≤ m * d := by
  rw [← co_sum_c, ← co_sum_c]
  exact ⟨co_sum_le m (fun i a b => (h i a b).1), co_sum_le m (fun i a b => (h i a b).2)⟩
end COS
def co_wl (v : Int) : Int := if v ≤ -1000000000 then 0 else v + 201
def co_wh (v : Int) : Int := if 1000000000 ≤ v then 0 else 201 - v
def co_mu (f : ck_D) : Int := ck_sum0 (fun n => co_wl (ck_lo f n)) 10 + ck_sum0 (fun n => ck_sum0 (fun r => co_wh (ck_hi f n r)) 4) 10 + ck_sum0 (fun r => ck_th f r) 4
def co_mM (k : Int) : Int := 10 * (101 * k + 201) + 10 * (4 * (201 * k + 201)) + 4
theorem co_mu_bd {k : Int} (hk : 0 ≤ k) {f : ck_D} (h : co_wb k f) : 0 ≤ co_mu f ∧ co_mu f ≤ co_mM k := by
  obtain ⟨-, hl, hh, -, -, ht⟩ := h
  have h1 := co_sum_bd (f := fun n => co_wl (ck_lo f n)) (c := 0) (d := 101 * k + 201) 10 (fun n _ _ => by have := hl n; unfold co_wl; split <;> omega)
  have h2 := co_sum_bd (f := fun n => ck_sum0 (fun r => co_wh (ck_hi f n r)) 4) (c := 0) (d := 4 * (201 * k + 201)) 10 (fun n _ _ => by
    have h3 := co_sum_bd (f := fun r => co_wh (ck_hi f n r)) (c := 0) (d := 201 * k + 201) 4 (fun r _ _ => by have := hh n r; unfold co_wh; split <;> omega)
    omega)
  have h3 := co_sum_bd (f := fun r => ck_th f r) (c := 0) (d := 1) 4 (fun r _ _ => by have := ht r; omega)
  unfold co_mu co_mM
  omega
section COM
variable {f g : ck_D} {j k : Int}
theorem co_wl_le (hf : co_wb j f) (hg : co_wb k g) (h : co_le f g) (n : Int) : co_wl (ck_lo g n) ≤ co_wl (ck_lo f n) := by
  have := h.2.2.2.1 n
  have := hf.2.1 n
  have := hg.2.1 n
  unfold co_wl; split <;> split <;> omega
theorem co_wh_le (hf : co_wb j f) (hg : co_wb k g) (h : co_le f g) (n r : Int) : co_wh (ck_hi g n r) ≤ co_wh (ck_hi f n r) := by
  have := h.2.2.2.2.1 n r
  have := hf.2.2.1 n r
  have := hg.2.2.1 n r
  unfold co_wh; split <;> split <;> omega
theorem co_wt_le (hf : co_wb j f) (hg : co_wb k g) (h : co_le f g) (r : Int) : ck_th g r ≤ ck_th f r := by
  have := h.2.2.2.2.2 r
  have := hf.2.2.2.2.2 r
  have := hg.2.2.2.2.2 r
  omega
theorem co_mu_le (hf : co_wb j f) (hg : co_wb k g) (h : co_le f g) : co_mu g ≤ co_mu f := by
  have h1 := co_sum_le (f := fun n => co_wl (ck_lo g n)) (g := fun n => co_wl (ck_lo f n)) 10 (fun n _ _ => co_wl_le hf hg h n)
  have h2 := co_sum_le (f := fun n => ck_sum0 (fun r => co_wh (ck_hi g n r)) 4) (g := fun n => ck_sum0 (fun r => co_wh (ck_hi f n r)) 4) 10 (fun n _ _ => co_sum_le 4 (fun r _ _ => co_wh_le hf hg h n r))
  have h3 := co_sum_le (f := fun n => ck_th g n) (g := fun n => ck_th f n) 4 (fun n _ _ => co_wt_le hf hg h n)
  unfold co_mu
  omega
theorem co_mu_sb (hf : co_wb j f) (hg : co_wb k g) (h : co_le f g) (hm : co_mu f ≤ co_mu g) : ck_sb f g := by
  have h1 := co_sum_le (f := fun n => co_wl (ck_lo g n)) (g := fun n => co_wl (ck_lo f n)) 10 (fun n _ _ => co_wl_le hf hg h n)
  have h2 := co_sum_le (f := fun n => ck_sum0 (fun r => co_wh (ck_hi g n r)) 4) (g := fun n => ck_sum0 (fun r => co_wh (ck_hi f n r)) 4) 10 (fun n _ _ => co_sum_le 4 (fun r _ _ => co_wh_le hf hg h n r))
  have h3 := co_sum_le (f := fun n => ck_th g n) (g := fun n => ck_th f n) 4 (fun n _ _ => co_wt_le hf hg h n)
  unfold co_mu at hm
  have e1 := co_sum_eq (f := fun n => co_wl (ck_lo g n)) (g := fun n => co_wl (ck_lo f n)) 10 (fun n _ _ => co_wl_le hf hg h n) (by omega)
  have e2 := co_sum_eq (f := fun n => ck_sum0 (fun r => co_wh (ck_hi g n r)) 4) (g := fun n => ck_sum0 (fun r => co_wh (ck_hi f n r)) 4) 10 (fun n _ _ => co_sum_le 4 (fun r _ _ => co_wh_le hf hg h n r)) (by omega)
  have e3 := co_sum_eq (f := fun n => ck_th g n) (g := fun n => ck_th f n) 4 (fun n _ _ => co_wt_le hf hg h n) (by omega)
  refine ⟨fun n a b => ?_, fun n r a b c d => ?_, fun r a b => (e3 r a b).symm⟩
  · have e : co_wl (ck_lo g n) = co_wl (ck_lo f n) := e1 n a b
    have := hf.2.1 n
    have := hg.2.1 n
    unfold co_wl at e
    split at e <;> split at e <;> omega
  · have e4 : ck_sum0 (fun r => co_wh (ck_hi g n r)) 4 = ck_sum0 (fun r => co_wh (ck_hi f n r)) 4 := e2 n a b
    have e : co_wh (ck_hi g n r) = co_wh (ck_hi f n r) := co_sum_eq (f := fun r => co_wh (ck_hi g n r)) (g := fun r => co_wh (ck_hi f n r)) 4 (fun r _ _ => co_wh_le hf hg h n r) (by omega) r c d
    have := hf.2.2.1 n r
    have := hg.2.2.1 n r
    unfold co_wh at e
    split at e <;> split at e <;> omega
end COM
/-- nothing stands outside -/
def co_nf (f : ck_D) : Prop := ck_N (ck_kn f) (ck_lo f) (ck_hi f) (ck_va f) (ck_sz f) (ck_th f) = f
theorem co_nf_N (k l : Int → Int) (h : Int → Int → Int) (v z t : Int → Int) : co_nf (ck_N k l h v z t) := by
  unfold co_nf
  exact ck_N_ext (fun n a b => ck_N_kn a b) (fun n a b => ck_N_lo a b) (fun n r a b c d => ck_N_hi a b c d) (fun r a b => ck_N_va a b) (fun r a b => ck_N_sz a b) (fun r a b => ck_N_th a b)
theorem co_nf_eq {f g : ck_D} (hf : co_nf f) (hg : co_nf g) (h : co_le f g) (hs : ck_sb f g) : f = g := by
  have : ck_N (ck_kn f) (ck_lo f) (ck_hi f) (ck_va f) (ck_sz f) (ck_th f) = ck_N (ck_kn g) (ck_lo g) (ck_hi g) (ck_va g) (ck_sz g) (ck_th g) := ck_N_ext (fun n _ _ => by rw [h.1]) hs.1 hs.2.1 (fun r _ _ => by rw [h.2.1]) (fun r _ _ => by rw [h.2.2.1]) hs.2.2
  exact hf.symm.trans (this.trans hg)
theorem co_le_anti {f g : ck_D} {j k : Int} (hf : co_wb j f) (hg : co_wb k g) (h : co_le f g) (h2 : co_le g f) : f = g := by
  obtain ⟨h1, h3, h4, h5, h6, h7⟩ := h
  obtain ⟨-, -, -, a5, a6, a7⟩ := h2
  refine Prod.ext h1 (Prod.ext (funext fun n => Int.le_antisymm (a5 n) (h5 n)) (Prod.ext (funext fun n => funext fun r => Int.le_antisymm (h6 n r) (a6 n r)) (Prod.ext h3 (Prod.ext h4 (funext fun r => ?_)))))
  show ck_th f r = ck_th g r
  have := h7 r
  have := a7 r
  have := hf.2.2.2.2.2 r
  have := hg.2.2.2.2.2 r
  omega
section COG
variable {p : ck_M} {n : Int}
theorem co_nf_dEff {t x y z k : Int} {f : ck_D} (h : co_nf f) : co_nf (ck_dEff t x y z k f) := by
  unfold ck_dEff
  split
  · exact co_nf_N _ _ _ _ _ _
  split
  · exact co_nf_N _ _ _ _ _ _
  split
  · exact co_nf_N _ _ _ _ _ _
  split
  · exact co_nf_N _ _ _ _ _ _
  split
  · exact co_nf_N _ _ _ _ _ _
  split
  · exact co_nf_N _ _ _ _ _ _
  split
  · exact co_nf_N _ _ _ _ _ _
  split
  · exact co_nf_N _ _ _ _ _ _
  split
  · exact co_nf_N _ _ _ _ _ _
  · exact h
theorem co_nf_O {B : Int → ck_D} {h e : Int} (hB : e ≠ -1 → co_nf (B e)) : co_nf (co_O p B h e) := by
  unfold co_O
  split
  · exact co_nf_N _ _ _ _ _ _
  · rename_i he; exact hB he
theorem co_nf_F (hp : co_pg p n) {B : Int → ck_D} {k : Int} (h0 : 0 ≤ k) (h1 : k < n) (h : ∀ j, 0 ≤ j → j ≤ k → co_nf (B j)) : co_nf (co_F p B k) := by
  obtain ⟨hn, hS, hH, hE, hN, hM⟩ := hp
  unfold co_F
  split
  · exact co_nf_N _ _ _ _ _ _
  split
  · exact co_nf_O (fun h => absurd rfl h)
  split
  · rename_i h2 h3 h4
    obtain ⟨a, -, b⟩ := hE k h0 h1 (Or.inr h4)
    obtain ⟨b1, b2⟩ := b h4
    obtain ⟨c1, -, -, c4⟩ := hH _ a.1 (by omega) b1
    split
    · exact co_nf_N _ _ _ _ _ _
    · exact co_nf_O (fun he => h _ (by omega) (by omega))
  · exact co_nf_dEff (h k h0 (Int.le_refl _))
theorem co_nf_A (hp : co_pg p n) {B Z : Int → ck_D} {r k : Int} (h0 : 0 ≤ k) (h1 : k < n) (h : ∀ j, 0 ≤ j → j < k → co_nf (B j)) : co_nf (co_A p B Z r k) := by
  unfold co_A
  split
  · exact co_nf_N _ _ _ _ _ _
  · unfold co_A0
    split
    · exact co_nf_N _ _ _ _ _ _
    · exact co_nf_F hp (by omega) (by omega) (fun j a b => h j a (by omega))
theorem co_ps_nf (hp : co_pg p n) {Z : Int → ck_D} {r : Int} : ∀ k, 0 ≤ k → k < n → co_nf (co_ps p Z r k) := by
  refine co_ind (fun k h0 h1 ih => ?_)
  rw [co_ps_eq hp Z r h0 h1]
  exact co_nf_A hp h0 h1 ih
theorem co_Fi_nf (hp : co_pg p n) : ∀ i k, 0 ≤ k → k < n → co_nf (co_Fi p i k) := by
  intro i
  cases i with
  | zero => exact co_ps_nf hp
  | succ i => exact co_ps_nf hp
def co_Mu (p : ck_M) (n : Int) (i : Nat) : Int := ck_sum0 (fun k => co_mu (co_Fi p i k)) n.toNat
theorem co_Mu_le (hp : co_pg p n) (i : Nat) : co_Mu p n (i + 1) ≤ co_Mu p n i := co_sum_le _ (fun k a b => co_mu_le (co_Fi_wb hp i k a (by omega)) (co_Fi_wb hp (i + 1) k a (by omega)) (co_Fi_le hp i k a (by omega)))
theorem co_Mu_0 (hp : co_pg p n) (i : Nat) : 0 ≤ co_Mu p n i := by
  have := co_sum_le (f := fun _ => 0) (g := fun k => co_mu (co_Fi p i k)) n.toNat (fun k a b => (co_mu_bd a (co_Fi_wb hp i k a (by omega))).1)
  rw [co_sum_c, Int.mul_zero] at this
  exact this
theorem co_Mu_eq (hp : co_pg p n) {i : Nat} (h : co_Mu p n i ≤ co_Mu p n (i + 1)) : ∀ k, 0 ≤ k → k < n → co_Fi p i k = co_Fi p (i + 1) k := by
  intro k h0 h1
  have e := co_sum_eq (f := fun k => co_mu (co_Fi p (i + 1) k)) (g := fun k => co_mu (co_Fi p i k)) n.toNat (fun k a b => co_mu_le (co_Fi_wb hp i k a (by omega)) (co_Fi_wb hp (i + 1) k a (by omega)) (co_Fi_le hp i k a (by omega))) h k h0 (by omega)
  have hl := co_Fi_le hp i k h0 h1
  exact co_nf_eq (co_Fi_nf hp i k h0 h1) (co_Fi_nf hp (i + 1) k h0 h1) hl (co_mu_sb (co_Fi_wb hp i k h0 h1) (co_Fi_wb hp (i + 1) k h0 h1) hl (Int.le_of_eq e.symm))
/-- there is a solution -/
theorem co_ex (hp : co_pg p n) : ∃ i : Nat, ∀ k, 0 ≤ k → k < n → co_Fi p i k = co_Fi p (i + 1) k := by
  have : ∀ (N : Nat) (i : Nat), co_Mu p n i ≤ N → ∃ i : Nat, ∀ k, 0 ≤ k → k < n → co_Fi p i k = co_Fi p (i + 1) k := by
    intro N
    induction N with
    | zero =>
      intro i h
      exact ⟨i, co_Mu_eq hp (by have := co_Mu_0 hp (i + 1); have := h; omega)⟩
    | succ N ih =>
      intro i h
      by_cases e : co_Mu p n i ≤ co_Mu p n (i + 1)
      · exact ⟨i, co_Mu_eq hp e⟩
      · exact ih (i + 1) (by omega)
  exact this (co_Mu p n 0).toNat 0 (by omega)
/-- the strongest solution -/
theorem co_least (hp : co_pg p n) {X Y : Int → ck_D} (hX : co_sol p n X) (hY : co_sol p n Y) (wX : ∀ k, 0 ≤ k → k < n → co_wb k (X k)) (wY : ∀ k, 0 ≤ k → k < n → co_wb k (Y k)) (h1 : ∀ k, 0 ≤ k → k < n → co_le (X k) (Y k)) (h2 : ∀ k, 0 ≤ k → k < n → co_le (Y k) (X k)) : ∀ k, 0 ≤ k → k < n → X k = Y k := fun k a b => co_le_anti (wX k a b) (wY k a b) (h1 k a b) (h2 k a b)
end COG
