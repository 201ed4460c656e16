/-! The law's loop. -/
theorem lw_lt {L q : Nat} (hL : L ≤ 2560) (hq : q ≤ 100000) : Int32.ofNat L - 5 < nI q ↔ L < q + 5 := by
  have e : Int32.ofNat L - 5 = nI L - nI 5 := rfl
  rw [e, Int32.lt_iff_toInt_lt, pk_sub_toInt (by omega) (by omega), nI_toInt (by omega)]
  omega
section LWO
variable {p : Program} {l : Launch} {e : Env} {R : Room} {s : State} {m : MethodId} {args : Array Value} {below : List Frame} {meth : Method} {c : Code} {Q : State → Prop}
variable {D : va_G} {ad : Nat → Nat} {cs : ck_Cs} {ao b L : Nat} {cL : ClassId} {xs : Nat → Int32} {Cm Nm : Nat}
set_option maxHeartbeats 4000000 in
theorem lw_loop (hE : lw_E p l R s m args c D ad cs ao cL b L xs) (hCN : Cm ≤ R.cells ∧ Nm ≤ R.slots)
    (kend : ∀ (cells slots : Nat) (ls : Array Slot) (H : Heap) (locs : List Loc), cells ≤ Cm → slots ≤ Nm → va_S (fun z => s.heap.size ≤ z) s.heap H locs → W p l e R s m args below meth c H locs cells slots Q (F0 m 712 ls [])) :
    ∀ (n q : Nat) (cI : Int) (cells slots : Nat) (H : Heap) (locs : List Loc) (ls : Array Slot), L < q + 5 * n + 5 → q + 5 * n ≤ 50000 → 0 ≤ cI → cI + 8000 * (n : Int) ≤ 100000000 → cells + n ≤ Cm → slots + 6 * n ≤ Nm → lw_I s D ad cs ao cL b q cI H locs ls → W p l e R s m args below meth c H locs cells slots Q (F0 m 23 ls []) := by
  intro n
  induction n with
  | zero =>
    intro q cI cells slots H locs ls h1 h2 h3 h4 h5 h6 hI
    obtain ⟨hfl, h0, hwd, Cx, hK, hX, hbl, hL, hR1, hR2⟩ := hE
    obtain ⟨hl, hS, -⟩ := hI
    have hx := Cx.1
    have hb := Cx.2.1
    refine lv_iload hx hb dl_23 (lv_at hl 0 rfl) ?_
    refine lv_aload_n hx hb dl_25 rfl (lv_at hl 1 rfl) ?_
    refine va_slen hx hb hX hbl (A := fun z => s.heap.size ≤ z) (Nat.not_le.mpr hbl) hS dl_26 ?_
    refine lv_iconst (v := 5) hx hb dl_27 (by decide) ?_
    refine lv_isub hx hb dl_28 ?_
    exact lv_icmp_gt (tgt := 712) hx hb dl_29 (by decide) (fun _ => kend cells slots ls H locs (by omega) (by omega) hS) (fun h => absurd ((lw_lt hL (by omega)).mpr (by omega)) h)
  | succ n ih =>
    intro q cI cells slots H locs ls h1 h2 h3 h4 h5 h6 hI
    obtain ⟨hfl, h0, hwd, Cx, hK, hX, hbl, hL, hR1, hR2⟩ := id hE
    obtain ⟨hl, hS, -⟩ := id hI
    have hx := Cx.1
    have hb := Cx.2.1
    refine lv_iload hx hb dl_23 (lv_at hl 0 rfl) ?_
    refine lv_aload_n hx hb dl_25 rfl (lv_at hl 1 rfl) ?_
    refine va_slen hx hb hX hbl (A := fun z => s.heap.size ≤ z) (Nat.not_le.mpr hbl) hS dl_26 ?_
    refine lv_iconst (v := 5) hx hb dl_27 (by decide) ?_
    refine lv_isub hx hb dl_28 ?_
    refine lv_icmp_gt (tgt := 712) hx hb dl_29 (by decide) (fun _ => kend cells slots ls H locs (by omega) (by omega) hS) (fun h => ?_)
    have hq : q + 5 ≤ L := by
      have h7 : ¬ L < q + 5 := fun z => h ((lw_lt hL (by omega)).mpr z)
      omega
    refine lv_aload_n hx hb dl_32 rfl (lv_at hl 1 rfl) ?_
    refine lv_iload hx hb dl_33 (lv_at hl 0 rfl) ?_
    refine va_sld hx hb hX hbl (A := fun z => s.heap.size ≤ z) (Nat.not_le.mpr hbl) hS (vp_in_nI (n := q) (by omega) (by omega)) dl_35 ?_
    refine lv_bipush (v := 15) hx hb dl_36 (by decide) ?_
    refine lv_iand hx hb dl_38 ?_
    obtain ⟨t, ht, e1⟩ := pk_andE (xs (nI q).toNatClampNeg) (m := 15) 4 (by decide)
    rw [e1]
    have hti : (nI t).toInt = (t : Int) := nI_toInt (by omega)
    have nx : ∀ (ls' : Array Slot) (H1 : Heap) (locs1 : List Loc), lw_I s D ad cs ao cL b q (cI + 8000) H1 locs1 ls' → W p l e R s m args below meth c H1 locs1 (cells + 1) (slots + 6) Q (F0 m 706 ls' []) := fun ls' H1 locs1 hI1 => lw_next hx hb hI1.1 dl_706 dl_709 (by decide) (fun ls2 hl2 => ih (q + 5) (cI + 8000) (cells + 1) (slots + 6) H1 locs1 ls2 (by omega) (by omega) (by omega) (by omega) (by omega) (by omega) ⟨hl2, hI1.2⟩)
    have hcs : cells + 1 ≤ R.cells ∧ slots + 6 ≤ R.slots := ⟨by omega, by omega⟩
    have hc : 0 ≤ cI ∧ cI ≤ 100000000 := ⟨h3, by omega⟩
    have hcase : t = 0 ∨ t = 1 ∨ t = 2 ∨ t = 3 ∨ t = 4 ∨ t = 5 ∨ t = 6 ∨ t = 7 ∨ t = 8 ∨ t = 9 ∨ t = 10 ∨ t = 11 ∨ t = 12 ∨ 13 ≤ t := by omega
    rcases hcase with rfl | rfl | rfl | rfl | rfl | rfl | rfl | rfl | rfl | rfl | rfl | rfl | rfl | hd
    · exact lv_tableIn (tgt := 104) (off := 65) hx hb dl_39 (by rw [hti]; decide) (by rw [hti]; decide) (by rw [hti]; rfl) (by decide) (lw_k_put hE hq hc hcs hI nx)
    · exact lv_tableIn (tgt := 196) (off := 157) hx hb dl_39 (by rw [hti]; decide) (by rw [hti]; decide) (by rw [hti]; rfl) (by decide) (lw_k_clear hE hq hc hcs hI nx)
    · exact lv_tableIn (tgt := 209) (off := 170) hx hb dl_39 (by rw [hti]; decide) (by rw [hti]; decide) (by rw [hti]; rfl) (by decide) (lw_k_give hE hq hc hcs hI nx)
    · exact lv_tableIn (tgt := 265) (off := 226) hx hb dl_39 (by rw [hti]; decide) (by rw [hti]; decide) (by rw [hti]; rfl) (by decide) (lw_k_start hE hq hc hcs hI nx)
    · exact lv_tableIn (tgt := 309) (off := 270) hx hb dl_39 (by rw [hti]; decide) (by rw [hti]; decide) (by rw [hti]; rfl) (by decide) (lw_k_needless hE hq hc hcs hI nx)
    · exact lv_tableIn (tgt := 365) (off := 326) hx hb dl_39 (by rw [hti]; decide) (by rw [hti]; decide) (by rw [hti]; rfl) (by decide) (lw_k_least hE hq hc hcs hI nx)
    · exact lv_tableIn (tgt := 433) (off := 394) hx hb dl_39 (by rw [hti]; decide) (by rw [hti]; decide) (by rw [hti]; rfl) (by decide) (lw_k_highest hE hq hc hcs hI nx)
    · exact lv_tableIn (tgt := 513) (off := 474) hx hb dl_39 (by rw [hti]; decide) (by rw [hti]; decide) (by rw [hti]; rfl) (by decide) (lw_k_run hE hq hc hcs hI nx)
    · exact lv_tableIn (tgt := 569) (off := 530) hx hb dl_39 (by rw [hti]; decide) (by rw [hti]; decide) (by rw [hti]; rfl) (by decide) (lw_k_output hE hq hc hcs hI nx)
    · exact lv_tableIn (tgt := 594) (off := 555) hx hb dl_39 (by rw [hti]; decide) (by rw [hti]; decide) (by rw [hti]; rfl) (by decide) (lw_k_state hE hq hc hcs hI nx)
    · exact lv_tableIn (tgt := 619) (off := 580) hx hb dl_39 (by rw [hti]; decide) (by rw [hti]; decide) (by rw [hti]; rfl) (by decide) (lw_k_number hE hq hc hcs hI nx)
    · exact lv_tableIn (tgt := 644) (off := 605) hx hb dl_39 (by rw [hti]; decide) (by rw [hti]; decide) (by rw [hti]; rfl) (by decide) (lw_k_length hE hq hc hcs hI nx)
    · exact lv_tableIn (tgt := 669) (off := 630) hx hb dl_39 (by rw [hti]; decide) (by rw [hti]; decide) (by rw [hti]; rfl) (by decide) (lw_k_place hE hq hc hcs hI nx)
    · exact lv_tableOut (tgt := 706) hx hb dl_39 (Or.inr (by rw [hti]; omega)) (by decide) (W.widen (by omega) (by omega) (nx ls H locs ⟨hl, hS, by
        obtain ⟨f, σ, g1, g2⟩ := hI.2.2
        exact ⟨f, σ, co_GI_up (by omega) g1, g2⟩⟩))
end LWO
