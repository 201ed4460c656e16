/-! ## Looser: the same values, lower leasts, higher highests, less that is there -/
def co_le (f g : ck_D) : Prop := ck_kn f = ck_kn g ∧ ck_va f = ck_va g ∧ ck_sz f = ck_sz g ∧ (∀ n, ck_lo g n ≤ ck_lo f n) ∧ (∀ n r, ck_hi f n r ≤ ck_hi g n r) ∧ ∀ r, ck_th f r = 0 → ck_th g r = 0
theorem co_le_rfl (f : ck_D) : co_le f f := ⟨rfl, rfl, rfl, fun _ => Int.le_refl _, fun _ _ => Int.le_refl _, fun _ h => h⟩
theorem co_le_tr {f g h : ck_D} (a : co_le f g) (b : co_le g h) : co_le f h := ⟨a.1.trans b.1, a.2.1.trans b.2.1, a.2.2.1.trans b.2.2.1, fun n => Int.le_trans (b.2.2.2.1 n) (a.2.2.2.1 n), fun n r => Int.le_trans (a.2.2.2.2.1 n r) (b.2.2.2.2.1 n r), fun r q => b.2.2.2.2.2 r (a.2.2.2.2.2 r q)⟩
theorem co_le_N {k l v z t k' l' v' z' t' : Int → Int} {h h' : Int → Int → Int} (e1 : ∀ n, 0 ≤ n → n < 10 → k n = k' n) (e2 : ∀ n, 0 ≤ n → n < 10 → l' n ≤ l n) (e3 : ∀ n r, 0 ≤ n → n < 10 → 0 ≤ r → r < 4 → h n r ≤ h' n r) (e4 : ∀ r, 0 ≤ r → r < 4 → v r = v' r) (e5 : ∀ r, 0 ≤ r → r < 4 → z r = z' r) (e6 : ∀ r, 0 ≤ r → r < 4 → t r = 0 → t' r = 0) : co_le (ck_N k l h v z t) (ck_N k' l' h' v' z' t') := by
  unfold ck_N
  refine ⟨?_, ?_, ?_, fun n => ?_, fun n r => ?_, fun r => ?_⟩
  · funext n
    show (if _ then _ else _) = (if _ then _ else _)
    by_cases hn : 0 ≤ n ∧ n < 10
    · rw [if_pos hn, if_pos hn]; exact e1 n hn.1 hn.2
    · rw [if_neg hn, if_neg hn]
  · funext n
    show (if _ then _ else _) = (if _ then _ else _)
    by_cases hn : 0 ≤ n ∧ n < 4
    · rw [if_pos hn, if_pos hn]; exact e4 n hn.1 hn.2
    · rw [if_neg hn, if_neg hn]
  · funext n
    show (if _ then _ else _) = (if _ then _ else _)
    by_cases hn : 0 ≤ n ∧ n < 4
    · rw [if_pos hn, if_pos hn]; exact e5 n hn.1 hn.2
    · rw [if_neg hn, if_neg hn]
  · show (if _ then _ else _) ≤ (if _ then _ else _)
    by_cases hn : 0 ≤ n ∧ n < 10
    · rw [if_pos hn, if_pos hn]; exact e2 n hn.1 hn.2
    · rw [if_neg hn, if_neg hn]; exact Int.le_refl _
  · show (if _ then _ else _) ≤ (if _ then _ else _)
    by_cases hn : (0 ≤ n ∧ n < 10) ∧ 0 ≤ r ∧ r < 4
    · rw [if_pos hn, if_pos hn]; exact e3 n r hn.1.1 hn.1.2 hn.2.1 hn.2.2
    · rw [if_neg hn, if_neg hn]; exact Int.le_refl _
  · show (if _ then _ else _) = _ → (if _ then _ else _) = _
    by_cases hn : 0 ≤ r ∧ r < 4
    · rw [if_pos hn, if_pos hn]; exact e6 r hn.1 hn.2
    · rw [if_neg hn, if_neg hn]; exact fun h => h
theorem ck_bL_mono {a b : Int} (h : a ≤ b) : ck_bL a ≤ ck_bL b := by unfold ck_bL; split <;> split <;> omega
theorem ck_bH_mono {a b : Int} (h : a ≤ b) : ck_bH a ≤ ck_bH b := by unfold ck_bH; split <;> split <;> omega
theorem ck_mx_mono {a b c d : Int} (h : a ≤ b) (h2 : c ≤ d) : ck_mx a c ≤ ck_mx b d := by unfold ck_mx; split <;> split <;> omega
theorem ck_mn_mono {a b c d : Int} (h : a ≤ b) (h2 : c ≤ d) : ck_mn a c ≤ ck_mn b d := by unfold ck_mn; split <;> split <;> omega
section CKO
variable {f g : ck_D}
theorem ck_hoc_le (h : co_le f g) (v r : Int) : ck_hoc f v r = ck_hoc g v r := by
  unfold ck_hoc
  rw [h.2.1, h.2.2.1]
theorem co_le_dSet (h : co_le f g) (x k : Int) : co_le (ck_dSet x k f) (ck_dSet x k g) := by
  have e := ck_hoc_le h
  obtain ⟨hk, hv, hz, hl, hh, ht⟩ := h
  refine co_le_N (fun n _ _ => ?_) (fun n _ _ => ?_) (fun n q _ _ _ _ => ?_) (fun q _ _ => ?_) (fun q _ _ => ?_) (fun q _ _ => ?_)
  · rw [hk]
  · split
    · exact Int.le_refl _
    · exact hl n
  · split
    · rw [e]; exact Int.le_refl _
    · exact hh n q
  · rw [hv]
  · rw [hz]
  · exact ht q
theorem co_le_dSum (h : co_le f g) (x y z : Int) : co_le (ck_dSum x y z f) (ck_dSum x y z g) := by
  obtain ⟨hk, hv, hz, hl, hh, ht⟩ := h
  refine co_le_N (fun n _ _ => ?_) (fun n _ _ => ?_) (fun n q _ _ _ _ => ?_) (fun q _ _ => ?_) (fun q _ _ => ?_) (fun q _ _ => ?_)
  · rw [hk]
  · split
    · exact ck_bL_mono (Int.add_le_add_right (hl y) z)
    · exact hl n
  · split
    · exact ck_bH_mono (Int.add_le_add_right (hh y q) z)
    · exact hh n q
  · rw [hv]
  · rw [hz]
  · exact ht q
theorem co_le_dAny (h : co_le f g) (x : Int) : co_le (ck_dAny x f) (ck_dAny x g) := by
  obtain ⟨hk, hv, hz, hl, hh, ht⟩ := h
  refine co_le_N (fun n _ _ => ?_) (fun n _ _ => ?_) (fun n q _ _ _ _ => ?_) (fun q _ _ => ?_) (fun q _ _ => ?_) (fun q _ _ => ?_)
  · rw [hk]
  · split
    · exact Int.le_refl _
    · exact hl n
  · split
    · exact Int.le_refl _
    · exact hh n q
  · rw [hv]
  · rw [hz]
  · exact ht q
theorem co_le_dLen (h : co_le f g) (x a : Int) : co_le (ck_dLen x a f) (ck_dLen x a g) := by
  obtain ⟨hk, hv, hz, hl, hh, ht⟩ := h
  refine co_le_N (fun n _ _ => ?_) (fun n _ _ => ?_) (fun n q _ _ _ _ => ?_) (fun q _ _ => ?_) (fun q _ _ => ?_) (fun q _ _ => ?_)
  · rw [hk]
  · split
    · exact Int.le_refl _
    · exact hl n
  · rw [hv]
    split
    · exact Int.le_refl _
    · exact hh n q
  · rw [hv]
  · rw [hz]
  · rw [hv]
    split
    · exact fun h => h
    · exact ht q
theorem co_le_dUse (h : co_le f g) (a m : Int) : co_le (ck_dUse a m f) (ck_dUse a m g) := by
  obtain ⟨hk, hv, hz, hl, hh, ht⟩ := h
  refine co_le_N (fun n _ _ => ?_) (fun n _ _ => ?_) (fun n q _ _ _ _ => ?_) (fun q _ _ => ?_) (fun q _ _ => ?_) (fun q _ _ => ?_)
  · rw [hk]
  · split
    · exact ck_mx_mono (hl m) (Int.le_refl _)
    · exact hl n
  · rw [hv]
    split
    · split
      · exact ck_mn_mono (hh m q) (Int.le_refl _)
      · exact hh m q
    · exact hh n q
  · rw [hv]
  · rw [hz]
  · rw [hv]
    split
    · exact fun h => h
    · exact ht q
theorem co_le_dNew (h : co_le f g) (a y k : Int) : co_le (ck_dNew a y k f) (ck_dNew a y k g) := by
  obtain ⟨hk, hv, hz, hl, hh, ht⟩ := h
  refine co_le_N (fun n _ _ => ?_) (fun n _ _ => ?_) (fun n q _ _ _ _ => ?_) (fun q _ _ => ?_) (fun q _ _ => ?_) (fun q _ _ => ?_)
  · rw [hk]
  · split
    · exact ck_mx_mono (hl y) (Int.le_refl _)
    · exact hl n
  · rw [hk]
    split
    · exact Int.le_refl _
    · exact hh n q
  · rw [hv]
  · rw [hz, hk]
  · split
    · exact fun h => h
    · exact ht q
theorem co_le_dNull (h : co_le f g) (a : Int) : co_le (ck_dNull a f) (ck_dNull a g) := by
  obtain ⟨hk, hv, hz, hl, hh, ht⟩ := h
  refine co_le_N (fun n _ _ => ?_) (fun n _ _ => ?_) (fun n q _ _ _ _ => ?_) (fun q _ _ => ?_) (fun q _ _ => ?_) (fun q _ _ => ?_)
  · rw [hk]
  · exact hl n
  · split
    · exact Int.le_refl _
    · exact hh n q
  · rw [hv]
  · rw [hz]
  · split
    · exact fun h => h
    · exact ht q
theorem co_le_dLet (h : co_le f g) (a e : Int) : co_le (ck_dLet a e f) (ck_dLet a e g) := by
  obtain ⟨hk, hv, hz, hl, hh, ht⟩ := h
  refine co_le_N (fun n _ _ => ?_) (fun n _ _ => ?_) (fun n q _ _ _ _ => ?_) (fun q _ _ => ?_) (fun q _ _ => ?_) (fun q _ _ => ?_)
  · rw [hk]
  · exact hl n
  · split
    · exact hh n e
    · exact hh n q
  · rw [hv]
  · rw [hz]
  · split
    · exact ht e
    · exact ht q
theorem co_le_dBel (h : co_le f g) (x y z : Int) : co_le (ck_dBel x y z f) (ck_dBel x y z g) := by
  have e := ck_hoc_le h
  obtain ⟨hk, hv, hz, hl, hh, ht⟩ := h
  refine co_le_N (fun n _ _ => ?_) (fun n _ _ => ?_) (fun n q _ _ _ _ => ?_) (fun q _ _ => ?_) (fun q _ _ => ?_) (fun q _ _ => ?_)
  · rw [hk]
  · split
    · exact ck_mx_mono (hl y) (ck_bL_mono (by have := hl x; omega))
    · exact hl n
  · rw [e]
    split
    · refine ck_mn_mono (hh x q) (ck_bH_mono ?_)
      have := hh y q
      split <;> omega
    · exact hh n q
  · rw [hv]
  · rw [hz]
  · exact ht q
theorem co_le_dNot (h : co_le f g) (x y z : Int) : co_le (ck_dNot x y z f) (ck_dNot x y z g) := by
  obtain ⟨hk, hv, hz, hl, hh, ht⟩ := h
  refine co_le_N (fun n _ _ => ?_) (fun n _ _ => ?_) (fun n q _ _ _ _ => ?_) (fun q _ _ => ?_) (fun q _ _ => ?_) (fun q _ _ => ?_)
  · rw [hk]
  · split
    · refine ck_mx_mono (hl x) (ck_bL_mono ?_)
      have := hl y
      split <;> omega
    · exact hl n
  · split
    · exact ck_mn_mono (hh y q) (ck_bH_mono (by have := hh x q; omega))
    · exact hh n q
  · rw [hv]
  · rw [hz]
  · exact ht q
theorem co_le_dJb {f' g' : ck_D} (h : co_le f g) (h' : co_le f' g') : co_le (ck_dJb f' f) (ck_dJb g' g) := by
  obtain ⟨hk, hv, hz, hl, hh, ht⟩ := h
  obtain ⟨hk', hv', hz', hl', hh', ht'⟩ := h'
  refine co_le_N (fun n _ _ => ?_) (fun n _ _ => ?_) (fun n q _ _ _ _ => ?_) (fun q _ _ => ?_) (fun q _ _ => ?_) (fun q _ _ => ?_)
  · rw [hk]
  · exact ck_mn_mono (hl n) (hl' n)
  · exact ck_mx_mono (hh n q) (hh' n q)
  · rw [hv]
  · rw [hz]
  · intro hq
    rw [if_pos]
    by_cases h1 : ck_th f q = 0 ∨ ck_th f' q = 0
    · rcases h1 with h1 | h1
      · exact Or.inl (ht q h1)
      · exact Or.inr (ht' q h1)
    · rw [if_neg h1] at hq
      exact absurd hq (by decide)
theorem co_le_dJb0 {g' : ck_D} (h : co_le f g) : co_le (ck_N (ck_kn f) (ck_lo f) (ck_hi f) (ck_va f) (ck_sz f) (ck_th f)) (ck_dJb g' g) := by
  obtain ⟨hk, hv, hz, hl, hh, ht⟩ := h
  refine co_le_N (fun n _ _ => ?_) (fun n _ _ => ?_) (fun n q _ _ _ _ => ?_) (fun q _ _ => ?_) (fun q _ _ => ?_) (fun q _ _ => ?_)
  · rw [hk]
  · have := hl n
    unfold ck_mn; split <;> omega
  · have := hh n q
    unfold ck_mx; split <;> omega
  · rw [hv]
  · rw [hz]
  · intro hq
    rw [if_pos (Or.inl (ht q hq))]
theorem co_le_dJw {f' g' : ck_D} (h : co_le f g) (h' : co_le f' g') (k : Int) : co_le (ck_dJw f' k f) (ck_dJw g' k g) := by
  obtain ⟨hk, hv, hz, hl, hh, ht⟩ := h
  obtain ⟨hk', hv', hz', hl', hh', ht'⟩ := h'
  refine co_le_N (fun n _ _ => ?_) (fun n _ _ => ?_) (fun n q _ _ _ _ => ?_) (fun q _ _ => ?_) (fun q _ _ => ?_) (fun q _ _ => ?_)
  · rw [hk, hk']
  · exact ck_mn_mono (hl n) (hl' n)
  · exact ck_mx_mono (hh n q) (hh' n q)
  · rw [hv, hv']
  · rw [hv, hv', hz]
  · intro hq
    rw [if_pos]
    by_cases h1 : ck_th f q = 0 ∨ ck_th f' q = 0
    · rcases h1 with h1 | h1
      · exact Or.inl (ht q h1)
      · exact Or.inr (ht' q h1)
    · rw [if_neg h1] at hq
      exact absurd hq (by decide)
theorem co_le_dFc (h : co_le f g) (nb ab k : Int) : co_le (ck_dFc nb ab k f) (ck_dFc nb ab k g) := by
  obtain ⟨hk, hv, hz, hl, hh, ht⟩ := h
  refine co_le_N (fun n _ _ => ?_) (fun n _ _ => ?_) (fun n q _ _ _ _ => ?_) (fun q _ _ => ?_) (fun q _ _ => ?_) (fun q _ _ => ?_)
  · rw [hk]
  · exact hl n
  · exact hh n q
  · rw [hv]
  · rw [hz]
  · exact ht q
theorem co_le_dEff (h : co_le f g) (t x y z k : Int) : co_le (ck_dEff t x y z k f) (ck_dEff t x y z k g) := by
  unfold ck_dEff
  split
  · exact co_le_dSet h _ _
  split
  · exact co_le_dSum h _ _ _
  split
  · exact co_le_dAny h _
  split
  · exact co_le_dLen h _ _
  split
  · exact co_le_dAny (co_le_dUse h _ _) _
  split
  · exact co_le_dUse h _ _
  split
  · exact co_le_dNew h _ _ _
  split
  · exact co_le_dNull h _
  split
  · exact co_le_dLet h _ _
  · exact h
end CKO
