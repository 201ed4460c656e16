section CKS1
variable {p : Program} {l : Launch} {e : Env} {R : Room} {s : State} {m : MethodId} {args : Array Value} {below : List Frame} {meth : Method} {c : Code} {cells slots : Nat} {Q : State → Prop}
variable {D : va_G} {ad : Nat → Nat} {cs : ck_Cs} {A : Nat → Prop} {H0 : Heap} {md : ck_MD}
theorem ck_s_if {H : Heap} {locs : List Loc} {ls : Array Slot} {pc t : Nat} {rest : List Value} {x : Int} {off : Int} {bt : ByteArray} (cnd : ClassFile.Cond) (hx : p.tables.exec = Jvm.exec) (hb : c.code = bt) (hd : decode bt pc = .ok (.ifCond cnd off, 3)) (ht : (pc : Int) + off = (t : Int)) (hr : ck_rg x)
    (k : W p l e R s m args below meth c H locs cells slots Q (F0 m (ck_cond cnd x 0 t (pc + 3)) ls rest)) : W p l e R s m args below meth c H locs cells slots Q (F0 m pc ls (.int (Int32.ofInt x) :: rest)) := by
  have he : Int32.ofInt x = 0 ↔ x = 0 := by rw [← ck_ofz]; exact ck_eq hr ck_rg0
  have hl : Int32.ofInt x < 0 ↔ x < 0 := by rw [← ck_ofz]; exact ck_lt hr ck_rg0
  have hg : 0 < Int32.ofInt x ↔ 0 < x := by rw [← ck_ofz]; exact ck_lt ck_rg0 hr
  have hle : Int32.ofInt x ≤ 0 ↔ x ≤ 0 := by rw [← ck_ofz]; exact ck_le hr ck_rg0
  have hge : 0 ≤ Int32.ofInt x ↔ 0 ≤ x := by rw [← ck_ofz]; exact ck_le ck_rg0 hr
  cases cnd with
  | eq => exact lv_if_eq hx hb hd ht (fun h => by rw [ck_cond, if_pos (he.mp h)] at k; exact k) (fun h => by rw [ck_cond, if_neg (fun q => h (he.mpr q))] at k; exact k)
  | ne => exact lv_if_ne hx hb hd ht (fun h => by rw [ck_cond, if_neg (fun q => h (he.mpr q))] at k; exact k) (fun h => by rw [ck_cond, if_pos (he.mp h)] at k; exact k)
  | lt => exact lv_if_lt hx hb hd ht (fun h => by rw [ck_cond, if_pos (hl.mp h)] at k; exact k) (fun h => by rw [ck_cond, if_neg (fun q => h (hl.mpr q))] at k; exact k)
  | ge => exact lv_if_ge hx hb hd ht (fun h => by rw [ck_cond, if_neg (by have := hge.mp h; omega)] at k; exact k) (fun h => by rw [ck_cond, if_pos (by have := mt hge.mpr h; omega)] at k; exact k)
  | gt => exact lv_if_gt hx hb hd ht (fun h => by rw [ck_cond, if_pos (hg.mp h)] at k; exact k) (fun h => by rw [ck_cond, if_neg (fun q => h (hg.mpr q))] at k; exact k)
  | le => exact lv_if_le hx hb hd ht (fun h => by rw [ck_cond, if_neg (by have := hle.mp h; omega)] at k; exact k) (fun h => by rw [ck_cond, if_pos (by have := mt hle.mpr h; omega)] at k; exact k)
theorem ck_s_icmp {H : Heap} {locs : List Loc} {ls : Array Slot} {pc t : Nat} {rest : List Value} {x y : Int} {off : Int} {bt : ByteArray} (cnd : ClassFile.Cond) (hx : p.tables.exec = Jvm.exec) (hb : c.code = bt) (hd : decode bt pc = .ok (.if_icmp cnd off, 3)) (ht : (pc : Int) + off = (t : Int)) (hr : ck_rg x) (hr2 : ck_rg y)
    (k : W p l e R s m args below meth c H locs cells slots Q (F0 m (ck_cond cnd x y t (pc + 3)) ls rest)) : W p l e R s m args below meth c H locs cells slots Q (F0 m pc ls (.int (Int32.ofInt y) :: .int (Int32.ofInt x) :: rest)) := by
  have he : Int32.ofInt x = Int32.ofInt y ↔ x = y := ck_eq hr hr2
  have hl : Int32.ofInt x < Int32.ofInt y ↔ x < y := ck_lt hr hr2
  have hg : Int32.ofInt y < Int32.ofInt x ↔ y < x := ck_lt hr2 hr
  have hle : Int32.ofInt x ≤ Int32.ofInt y ↔ x ≤ y := ck_le hr hr2
  have hge : Int32.ofInt y ≤ Int32.ofInt x ↔ y ≤ x := ck_le hr2 hr
  cases cnd with
  | eq => exact lv_icmp_eq hx hb hd ht (fun h => by rw [ck_cond, if_pos (he.mp h)] at k; exact k) (fun h => by rw [ck_cond, if_neg (fun q => h (he.mpr q))] at k; exact k)
  | ne => exact lv_icmp_ne hx hb hd ht (fun h => by rw [ck_cond, if_neg (fun q => h (he.mpr q))] at k; exact k) (fun h => by rw [ck_cond, if_pos (he.mp h)] at k; exact k)
  | lt => exact lv_icmp_lt hx hb hd ht (fun h => by rw [ck_cond, if_pos (hl.mp h)] at k; exact k) (fun h => by rw [ck_cond, if_neg (fun q => h (hl.mpr q))] at k; exact k)
  | ge => exact lv_icmp_ge hx hb hd ht (fun h => by rw [ck_cond, if_neg (by have := hge.mp h; omega)] at k; exact k) (fun h => by rw [ck_cond, if_pos (by have := mt hge.mpr h; omega)] at k; exact k)
  | gt => exact lv_icmp_gt hx hb hd ht (fun h => by rw [ck_cond, if_pos (hg.mp h)] at k; exact k) (fun h => by rw [ck_cond, if_neg (fun q => h (hg.mpr q))] at k; exact k)
  | le => exact lv_icmp_le hx hb hd ht (fun h => by rw [ck_cond, if_neg (by have := hle.mp h; omega)] at k; exact k) (fun h => by rw [ck_cond, if_pos (by have := mt hle.mpr h; omega)] at k; exact k)
theorem ck_s_sw {H : Heap} {locs : List Loc} {ls : Array Slot} {pc t len : Nat} {rest : List Value} {x dflt lo hi : Int} {offs : Array Int} {tl : List Nat} {bt : ByteArray} (hx : p.tables.exec = Jvm.exec) (hb : c.code = bt) (hd : decode bt pc = .ok (.tableswitch dflt lo hi offs, len)) (ht : (pc : Int) + dflt = (t : Int)) (hl : offs.toList.map (fun o => (pc : Int) + o) = tl.map (fun t : Nat => (t : Int))) (hh : hi - lo + 1 = offs.size) (hr : ck_rg x)
    (k : W p l e R s m args below meth c H locs cells slots Q (F0 m (ck_sw lo x t tl) ls rest)) : W p l e R s m args below meth c H locs cells slots Q (F0 m pc ls (.int (Int32.ofInt x) :: rest)) := by
  have hlen : tl.length = offs.size := by
    have h := congrArg List.length hl
    simpa using h.symm
  unfold ck_sw at k
  by_cases h1 : x < lo
  · rw [if_pos h1] at k
    exact lv_tableOut hx hb hd (Or.inl (by rw [ck_toI hr]; exact h1)) ht k
  · rw [if_neg h1] at k
    by_cases h2 : hi < x
    · rw [List.getElem?_eq_none (by omega)] at k
      exact lv_tableOut hx hb hd (Or.inr (by rw [ck_toI hr]; exact h2)) ht k
    · have hj : (x - lo).toNat < offs.size := by omega
      have h3 := congrArg (fun z => z[(x - lo).toNat]?) hl
      simp only [List.getElem?_map, Array.getElem?_toList] at h3
      rw [Array.getElem?_eq_getElem hj, List.getElem?_eq_getElem (by omega)] at h3
      rw [List.getElem?_eq_getElem (by omega)] at k
      exact lv_tableIn hx hb hd (by rw [ck_toI hr]; exact h1) (by rw [ck_toI hr]; exact h2) (off := offs[(x - lo).toNat]) (by rw [ck_toI hr, Array.getElem?_eq_getElem hj]) (by simpa using h3) k
theorem ck_en_ast {cs : ck_Cs} {σ : ck_M} {a : Int} {i x : Int} (hi : 0 ≤ i) : (fun j : Nat => Int32.ofInt (ck_up σ a i x a j)) = upd (fun j : Nat => Int32.ofInt (σ a j)) i.toNat (Int32.ofInt x) := by
  funext j
  unfold ck_up upd
  by_cases h : j = i.toNat
  · rw [if_pos h, if_pos ⟨rfl, by omega⟩]
  · rw [if_neg h, if_neg (by rintro ⟨-, h2⟩; omega)]
set_option maxHeartbeats 4000000 in
theorem ck_sim1 {X X1 : ck_F} {en : ck_En} {ps : List Prop} (Cx : ck_Cx p R s m args c D ad cs A H0 md) (hlk : ck_lk (ck_mT md) X.1 = some en) (hst : ck_step X.1 en X.2.1 X.2.2.1 X.2.2.2 = some (ps, X1)) (hps : ck_all ps)
    (k : ck_W p l e R s m args below meth c cells slots Q D ad cs A H0 (ck_mL md) X1) : ck_W p l e R s m args below meth c cells slots Q D ad cs A H0 (ck_mL md) X := by
  have Cx' := Cx
  obtain ⟨hx, hb, hml, hown, hts, hK, hD, hA, hmok, hR⟩ := Cx
  obtain ⟨pc, L, st, σ⟩ := X
  obtain ⟨hd, ho⟩ := ck_entry hmok hlk
  obtain ⟨i, aux, hint, cst, tl⟩ := en
  intro H locs ls hP hS hL hwl hws
  dsimp only at hst hd ho hP hS hL hwl hws ⊢
  have hlen := hL.1
  have bin : ∀ (f : Int → Int → Int) (g : Int32 → Int32 → Int32), (∀ x y, Int32.ofInt (f x y) = g (Int32.ofInt x) (Int32.ofInt y)) → ck_bin f pc L st σ = some (ps, X1) → (∀ x y : Int32, ∀ rest : List Value, W p l e R s m args below meth c H locs cells slots Q (F0 m (pc + 1) ls (.int (g x y) :: rest)) → W p l e R s m args below meth c H locs cells slots Q (F0 m pc ls (.int y :: .int x :: rest))) → W p l e R s m args below meth c H locs cells slots Q (F0 m pc ls (st.map (ck_vv ad))) := by
    intro f g hfg h kk
    obtain ⟨-, x, y, r, rfl, rfl⟩ := ck_bin_inv h
    refine kk (Int32.ofInt x) (Int32.ofInt y) (r.map (ck_vv ad)) ?_
    rw [← hfg]
    exact k H locs ls hP hS hL hwl (List.forall_mem_cons.mpr ⟨trivial, (List.forall_mem_cons.mp (List.forall_mem_cons.mp hws).2).2⟩)
  cases i
  case iconst n =>
    cases (show some (([] : List Prop), pc + 1, L, (.inl cst :: st : List ck_PV), σ) = some (ps, X1) from hst)
    exact lv_iconst hx hb hd (of_decide_eq_true ho) (k H locs ls hP hS hL hwl (List.forall_mem_cons.mpr ⟨trivial, hws⟩))
  case bipush n =>
    cases (show some (([] : List Prop), pc + 2, L, (.inl cst :: st : List ck_PV), σ) = some (ps, X1) from hst)
    exact lv_bipush hx hb hd (of_decide_eq_true ho) (k H locs ls hP hS hL hwl (List.forall_mem_cons.mpr ⟨trivial, hws⟩))
  case sipush n =>
    cases (show some (([] : List Prop), pc + 3, L, (.inl cst :: st : List ck_PV), σ) = some (ps, X1) from hst)
    exact lv_sipush hx hb hd (of_decide_eq_true ho) (k H locs ls hP hS hL hwl (List.forall_mem_cons.mpr ⟨trivial, hws⟩))
  case ldc n =>
    cases (show some (([] : List Prop), pc + 2, L, (.inl cst :: st : List ck_PV), σ) = some (ps, X1) from hst)
    exact lv_ldc hx hb hown (hts _ (ck_wd_in ho)) hd (k H locs ls hP hS hL hwl (List.forall_mem_cons.mpr ⟨trivial, hws⟩))
  case ldc_w n =>
    cases (show some (([] : List Prop), pc + 3, L, (.inl cst :: st : List ck_PV), σ) = some (ps, X1) from hst)
    exact lv_ldcw hx hb hown (hts _ (ck_wd_in ho)) hd (k H locs ls hP hS hL hwl (List.forall_mem_cons.mpr ⟨trivial, hws⟩))
  case iload n =>
    obtain ⟨-, x, hl, rfl⟩ := ck_ild_inv hst
    have hn : n = aux := of_decide_eq_true ho
    subst hn
    exact lv_iload hx hb hd (hL.2.2.2 _ _ hl) (k H locs ls hP hS hL hwl (List.forall_mem_cons.mpr ⟨trivial, hws⟩))
  case iload_n n =>
    obtain ⟨-, x, hl, rfl⟩ := ck_ild_inv hst
    exact lv_iload_n hx hb hd (of_decide_eq_true ho) (hL.2.2.2 _ _ hl) (k H locs ls hP hS hL hwl (List.forall_mem_cons.mpr ⟨trivial, hws⟩))
  case aload n =>
    obtain ⟨-, x, hl, rfl⟩ := ck_ald_inv hst
    have hn : n = aux := of_decide_eq_true ho
    subst hn
    exact lv_aload hx hb hd (hL.2.2.2 _ _ hl) (k H locs ls hP hS hL hwl (List.forall_mem_cons.mpr ⟨hwl _ (List.mem_of_getElem? hl), hws⟩))
  case aload_n n =>
    obtain ⟨-, x, hl, rfl⟩ := ck_ald_inv hst
    exact lv_aload_n hx hb hd (of_decide_eq_true ho) (hL.2.2.2 _ _ hl) (k H locs ls hP hS hL hwl (List.forall_mem_cons.mpr ⟨hwl _ (List.mem_of_getElem? hl), hws⟩))
  case istore n =>
    obtain ⟨-, x, r, rfl, hi, rfl⟩ := ck_ist_inv hst
    dsimp only at hi
    have hn : n = aux := of_decide_eq_true ho
    subst hn
    exact lv_istore hx hb hd (ck_has hL) (by omega) rfl (fun ls' h' => k H locs ls' hP hS (ck_set (v := .inl x) hlen h') (ck_wl_set hwl trivial) (List.forall_mem_cons.mp hws).2)
  case istore_n n =>
    obtain ⟨-, x, r, rfl, hi, rfl⟩ := ck_ist_inv hst
    dsimp only at hi
    exact lv_istore_n (i := aux) hx hb hd (of_decide_eq_true ho) (ck_has hL) (by omega) rfl (fun ls' h' => k H locs ls' hP hS (ck_set (v := .inl x) hlen h') (ck_wl_set hwl trivial) (List.forall_mem_cons.mp hws).2)
  case astore_n n =>
    obtain ⟨-, x, r, rfl, hi, rfl⟩ := ck_ast_inv hst
    dsimp only at hi
    have hv := (List.forall_mem_cons.mp hws).1
    exact lv_astore_n (i := aux) hx hb hd (of_decide_eq_true ho) (ck_has hL) (by omega) rfl (fun ls' h' => k H locs ls' hP hS (ck_set (v := .inr x) hlen h') (ck_wl_set hwl hv) (List.forall_mem_cons.mp hws).2)
  case iinc n z =>
    obtain ⟨-, x, hl, rfl⟩ := ck_inc_inv hst
    dsimp only at hl
    have ho : (decide (n = aux) && decide (Int32.ofInt z = Int32.ofInt cst)) = true := ho
    simp only [Bool.and_eq_true, decide_eq_true_eq] at ho
    obtain ⟨hn, hz⟩ := ho
    subst hn
    have hi := (List.getElem?_eq_some_iff.mp hl).1
    obtain ⟨k0, hk0⟩ := List.getElem?_of_mem (ck_lv_mem.mpr ⟨(by omega : n < ck_mL md), .inl x, hl, rfl⟩ : (n, ck_vv ad (.inl x)) ∈ ck_lv ad (ck_mL md) L)
    exact lv_iinc hx hb hd (ck_has hL) hk0 (v := Int32.ofInt (x + cst)) (by rw [Int32.ofInt_add, hz]) (by omega) rfl (fun ls' h' => k H locs ls' hP hS (ck_set (v := .inl (x + cst)) hlen h') (ck_wl_set hwl trivial) hws)
  case iadd => exact bin (fun x y => x + y) (fun x y => x + y) (fun x y => Int32.ofInt_add x y) hst (fun x y rest kk => lv_iadd hx hb hd kk)
  case isub => exact bin (fun x y => x - y) (fun x y => x - y) (fun x y => Int32.ofInt_sub x y) hst (fun x y rest kk => lv_isub hx hb hd kk)
  case imul => exact bin (fun x y => x * y) (fun x y => x * y) (fun x y => Int32.ofInt_mul x y) hst (fun x y rest kk => lv_imul hx hb hd kk)
  case iand => exact bin ck_and (fun x y => x &&& y) (fun x y => Int32.ofInt_toInt _) hst (fun x y rest kk => lv_iand hx hb hd kk)
  case ior => exact bin ck_or (fun x y => x ||| y) (fun x y => Int32.ofInt_toInt _) hst (fun x y rest kk => lv_ior hx hb hd kk)
  case ixor => exact bin ck_xor (fun x y => x ^^^ y) (fun x y => Int32.ofInt_toInt _) hst (fun x y rest kk => lv_ixor hx hb hd kk)
  case ishl => exact bin ck_shl (fun x y => x <<< (y &&& 31)) (fun x y => Int32.ofInt_toInt _) hst (fun x y rest kk => lv_ishl hx hb hd kk)
  case ishr => exact bin ck_shr (fun x y => x >>> (y &&& 31)) (fun x y => Int32.ofInt_toInt _) hst (fun x y rest kk => lv_ishr hx hb hd kk)
  case iushr => exact bin ck_ush (fun x y => (x.toUInt32 >>> (y.toUInt32 &&& Int32.toUInt32 31)).toInt32) (fun x y => Int32.ofInt_toInt _) hst (fun x y rest kk => lv_iushr hx hb hd rfl kk)
  case irem =>
    unfold ck_step at hst
    dsimp only at hst
    split at hst
    · rename_i y x r
      cases hst
      refine lv_irem hx hb hd (fun h => hps.1.2 ?_) ?_
      · exact (ck_eq hps.1.1 ck_rg0).mp (by rw [h, ck_ofz])
      · exact ck_top (Int32.ofInt_toInt _).symm (k H locs ls hP hS hL hwl (List.forall_mem_cons.mpr ⟨trivial, (List.forall_mem_cons.mp (List.forall_mem_cons.mp hws).2).2⟩))
    · cases hst
  case ineg =>
    unfold ck_step at hst
    dsimp only at hst
    split at hst
    · rename_i x r
      cases hst
      exact lv_ineg hx hb hd (ck_top (Int32.ofInt_neg _).symm (k H locs ls hP hS hL hwl (List.forall_mem_cons.mpr ⟨trivial, (List.forall_mem_cons.mp hws).2⟩)))
    · cases hst
  case dup =>
    unfold ck_step at hst
    dsimp only at hst
    split at hst
    · rename_i v r
      cases hst
      exact lv_dup hx hb hd (ck_cat ad v) (k H locs ls hP hS hL hwl (List.forall_mem_cons.mpr ⟨(List.forall_mem_cons.mp hws).1, hws⟩))
    · cases hst
  case ifCond cnd off =>
    unfold ck_step at hst
    dsimp only at hst
    split at hst
    · rename_i x r
      cases hst
      exact ck_s_if cnd hx hb hd (of_decide_eq_true ho) hps.1 (k H locs ls hP hS hL hwl (List.forall_mem_cons.mp hws).2)
    · cases hst
  case if_icmp cnd off =>
    unfold ck_step at hst
    dsimp only at hst
    split at hst
    · rename_i y x r
      cases hst
      exact ck_s_icmp cnd hx hb hd (of_decide_eq_true ho) hps.1 hps.2.1 (k H locs ls hP hS hL hwl (List.forall_mem_cons.mp (List.forall_mem_cons.mp hws).2).2)
    · cases hst
  case goto off =>
    cases (show some (([] : List Prop), aux, L, st, σ) = some (ps, X1) from hst)
    exact lv_goto hx hb hd (of_decide_eq_true ho) (k H locs ls hP hS hL hwl hws)
  case tableswitch d lo hi offs =>
    have ho : (decide ((pc : Int) + d = aux) && decide (offs.toList.map (fun o => (pc : Int) + o) = tl.map (fun t : Nat => (t : Int))) && decide (hi - lo + 1 = offs.size)) = true := ho
    simp only [Bool.and_eq_true, decide_eq_true_eq] at ho
    unfold ck_step at hst
    dsimp only at hst
    split at hst
    · rename_i x r
      cases hst
      exact ck_s_sw hx hb hd ho.1.1 ho.1.2 ho.2 hps.1 (k H locs ls hP hS hL hwl (List.forall_mem_cons.mp hws).2)
    · cases hst
  case getfield idx =>
    obtain ⟨-, cc, r, rfl, h⟩ := ck_getf_inv hst
    obtain ⟨hw, hwr⟩ := List.forall_mem_cons.mp hws
    refine ck_s_getf Cx' hd ho hw hP (fun hk => ?_)
    rcases h with ⟨q, hq, rfl⟩ | ⟨hq, rfl⟩
    · unfold ck_fv
      rw [hq]
      exact k H locs ls hP hS hL hwl (List.forall_mem_cons.mpr ⟨ck_fr_wt hw hk hq, hwr⟩)
    · unfold ck_fv
      rw [hq]
      exact k H locs ls hP hS hL hwl (List.forall_mem_cons.mpr ⟨trivial, hwr⟩)
  case putfield idx =>
    obtain ⟨x, cc, r, rfl, hq, rfl, rfl⟩ := ck_putf_inv hst
    have ho : (ck_okF (ck_mN md).cls idx aux hint && ck_okP aux cst) = true := ho
    simp only [Bool.and_eq_true] at ho
    obtain ⟨hw, hwr⟩ := List.forall_mem_cons.mp (List.forall_mem_cons.mp hws).2
    exact ck_s_putf Cx' hd ho.1 ho.2 hw hq hps hP hS (fun h => Bool.noConfusion (show false = true from ck_ro_no h hlk)) (fun H1 locs1 hP1 hS1 => k H1 locs1 ls hP1 hS1 hL hwl hwr)
  case iaload =>
    obtain ⟨i, a, n, r, rfl, rfl, rfl⟩ := ck_aldI_inv hst
    obtain ⟨hw, hwr⟩ := List.forall_mem_cons.mp (List.forall_mem_cons.mp hws).2
    have hn := ck_wt_len hw
    have hlt := ck_wt_lt hw
    obtain ⟨⟨h0, h1⟩, -⟩ := hps
    refine va_iald (D := D) (cl := ck_cl) hx hb hK hP a.toNat 0 (by rw [ck_ws_get hlt.1, ck_en0 hw]) rfl (ck_vin h0 h1 hn) hd ?_
    refine ck_top ?_ (k H locs ls hP hS hL hwl (List.forall_mem_cons.mpr ⟨trivial, hwr⟩))
    show Int32.ofInt (σ a ((Int32.ofInt i).toNatClampNeg : Nat)) = _
    rw [ck_clamp h0 (by omega), Int.toNat_of_nonneg h0]
  case baload =>
    obtain ⟨i, a, n, r, rfl, rfl, rfl⟩ := ck_aldZ_inv hst
    obtain ⟨hw, hwr⟩ := List.forall_mem_cons.mp (List.forall_mem_cons.mp hws).2
    have hn := ck_wt_len hw
    have hlt := ck_wt_lt hw
    obtain ⟨⟨h0, h1⟩, -⟩ := hps
    refine va_zald (D := D) (cl := ck_cl) hx hb hK hP a.toNat 1 (by rw [ck_ws_get hlt.1, ck_en1 hw]) rfl (ck_vin h0 h1 hn) hd ?_
    refine ck_top ?_ (k H locs ls hP hS hL hwl (List.forall_mem_cons.mpr ⟨trivial, hwr⟩))
    show Int32.ofInt (σ a ((Int32.ofInt i).toNatClampNeg : Nat)) = _
    rw [ck_clamp h0 (by omega), Int.toNat_of_nonneg h0]
  case aaload =>
    obtain ⟨i, a, n, r, rfl, rfl, rfl⟩ := ck_aldA_inv hst
    obtain ⟨hw, hwr⟩ := List.forall_mem_cons.mp (List.forall_mem_cons.mp hws).2
    have hn := ck_wt_len hw
    have hlt := ck_wt_lt hw
    obtain ⟨he, h64⟩ := ck_en2 (ad := ad) (cs := cs) (σ := σ) hw
    subst h64
    obtain ⟨⟨h0, h1⟩, -⟩ := hps
    refine va_aldq (D := D) (cl := ck_cl) hx hb hK hP a.toNat 2 (by rw [ck_ws_get hlt.1, he]) rfl (ck_vin h0 h1 hn) hd ?_
    have e1 : va_rf (some (ad (25 + 7 * (Int32.ofInt i).toNatClampNeg))) = ck_vv ad (.inr (25 + 7 * i, 3, 0)) := by
      show Value.ref _ = Value.ref _
      rw [ck_clamp h0 (by omega)]
      congr 2
      show _ = (25 + 7 * i).toNat
      omega
    rw [e1]
    exact k H locs ls hP hS hL hwl (List.forall_mem_cons.mpr ⟨ck_wt_before h0 h1, hwr⟩)
  case iastore =>
    obtain ⟨x, i, a, n, r, rfl, rfl, rfl⟩ := ck_astI_inv hst
    obtain ⟨hw, hwr⟩ := List.forall_mem_cons.mp (List.forall_mem_cons.mp (List.forall_mem_cons.mp hws).2).2
    have hn := ck_wt_len hw
    have hlt := ck_wt_lt hw
    obtain ⟨⟨h0, h1⟩, -⟩ := hps
    obtain ⟨hD, hA⟩ := hA.resolve_right (fun h => Bool.noConfusion (show false = true from ck_ro_no h hlk))
    refine va_iast (D := D) (cl := ck_cl) hx hb hK hP (hD σ) hS a.toNat 0 (by rw [ck_ws_get hlt.1, ck_en0 hw]) rfl (ck_vin h0 h1 hn) hd (fun H1 locs1 hP1 _ hS1 => k H1 locs1 ls ?_ hS1 hL hwl hwr)
    rw [ck_clamp h0 (by omega), ck_ws_set hlt.1 (σ' := ck_up σ a i x) (by rw [ck_en0 hw, ck_en_ast (cs := cs) h0]) (fun b hb' j => ck_up_ne hb' hlt.2 j)] at hP1
    exact hP1
  case bastore =>
    obtain ⟨x, i, a, n, r, rfl, rfl, rfl⟩ := ck_astZ_inv hst
    obtain ⟨hw, hwr⟩ := List.forall_mem_cons.mp (List.forall_mem_cons.mp (List.forall_mem_cons.mp hws).2).2
    have hn := ck_wt_len hw
    have hlt := ck_wt_lt hw
    obtain ⟨⟨h0, h1⟩, hz, -⟩ := hps
    have hv : vp_nar .boolean (Int32.ofInt x) = Int32.ofInt x := by rcases hz with h | h <;> subst h <;> decide +kernel
    obtain ⟨hD, hA⟩ := hA.resolve_right (fun h => Bool.noConfusion (show false = true from ck_ro_no h hlk))
    refine va_zast (D := D) (cl := ck_cl) hx hb hK hP (hD σ) hS a.toNat 1 (by rw [ck_ws_get hlt.1, ck_en1 hw]) rfl (ck_vin h0 h1 hn) hd (fun H1 locs1 hP1 _ hS1 => k H1 locs1 ls ?_ hS1 hL hwl hwr)
    rw [hv, ck_clamp h0 (by omega), ck_ws_set hlt.1 (σ' := ck_up σ a i x) (by rw [ck_en1 hw, ck_en_ast (cs := cs) h0]) (fun b hb' j => ck_up_ne hb' hlt.2 j)] at hP1
    exact hP1
  case arraylength =>
    obtain ⟨-, a, kd, n, r, rfl, hkd, rfl⟩ := ck_aln_inv hst
    obtain ⟨hw, hwr⟩ := List.forall_mem_cons.mp hws
    have hlt := ck_wt_lt hw
    have k' := k H locs ls hP hS hL hwl (List.forall_mem_cons.mpr ⟨trivial, hwr⟩)
    rcases hkd with h | h | h
    · subst h
      exact va_alen (D := D) (cl := ck_cl) hx hb hK hP a.toNat 0 (by rw [ck_ws_get hlt.1, ck_en0 hw]) rfl (v := Int32.ofInt n) (by rw [Int32.ofInt_eq_ofNat]) hd k'
    · subst h
      exact va_alen (D := D) (cl := ck_cl) hx hb hK hP a.toNat 1 (by rw [ck_ws_get hlt.1, ck_en1 hw]) rfl (v := Int32.ofInt n) (by rw [Int32.ofInt_eq_ofNat]) hd k'
    · subst h
      exact va_alen (D := D) (cl := ck_cl) hx hb hK hP a.toNat 2 (by rw [ck_ws_get hlt.1, (ck_en2 (ad := ad) (cs := cs) (σ := σ) hw).1]) rfl (v := Int32.ofInt n) (by rw [Int32.ofInt_eq_ofNat]) hd k'
  case invokestatic idx =>
    unfold ck_step at hst
    dsimp only at hst
    split at hst
    · rename_i h999
      subst h999
      obtain ⟨n, d, b, nb, s0, a, na, rfl, rfl, rfl⟩ := ck_acp_inv hst
      obtain ⟨hs0, hd0, hn0, hna, hnb, -⟩ := hps
      subst hs0 hd0
      have hw := hws
      simp only [List.forall_mem_cons] at hw
      obtain ⟨-, -, hwb, -, hwa, -⟩ := hw
      have ha := ck_wt_lt hwa
      have hb2 := ck_wt_lt hwb
      have la := ck_wt_len hwa
      have ho : ck_okC (ck_mN md).cls idx 999 hint true = true := ho
      have ho2 : ck_wd hint (Cond.methodLink (ck_mN md).cls idx arraycopyName) = true := by
        unfold ck_okC at ho
        rw [show ck_MDs[999]? = none from by decide +kernel] at ho
        simpa using ho
      have hcn : (Int32.ofInt n).toNatClampNeg = n.toNat := ck_clamp hn0 (by omega)
      have hc0 : (Int32.ofInt 0).toNatClampNeg = 0 := by decide
      obtain ⟨hD, hA⟩ := hA.resolve_right (fun h => absurd (show ck_ROi.contains 999 = true from ck_ro_no h hlk) (by decide))
      refine va_copyi (D := D) (cl := ck_cl) (ty := .int) (rest := []) hx hb (by rw [hml, hL.2.1]) hown (hts _ (ck_wd_in ho2)) (hts _ ck_natw) (hts _ ck_natS) (hts _ ck_natI) hK hP (hD σ) hS a.toNat b.toNat 0 0 (by rw [ck_ws_get ha.1, ck_en0 hwa]) (by rw [ck_ws_get hb2.1, ck_en0 hwb]) rfl rfl rfl (by decide) (by decide) (by rw [← ck_ofz, ck_lt ⟨by omega, by omega⟩ ck_rg0]; omega) (by rw [hc0, hcn]; omega) (by rw [hc0, hcn]; omega) (fun i _ => rfl) hR.1.1 (by have h2 := hR.1.2; show 0 + (nativeFrameWords "java/lang/System" "arraycopy" 5 + 11) ≤ R.locals; have h3 : nativeFrameWords "java/lang/System" "arraycopy" 5 = 7 := (by decide); omega) hd (fun H1 locs1 hP1 _ hS1 => k H1 locs1 ls ?_ hS1 hL hwl (fun v hv => absurd hv List.not_mem_nil))
      rw [hc0, hcn, ck_ws_set hb2.1 (σ' := ck_cpy σ a b n) (by
        rw [ck_en0 hwb]
        congr 4
        funext j
        unfold ck_cpy va_cpy
        by_cases hj : j < n.toNat
        · rw [if_pos ⟨rfl, by omega, by omega⟩, if_pos ⟨Nat.zero_le _, by omega⟩]
          simp
        · rw [if_neg (by rintro ⟨-, -, h⟩; omega), if_neg (by rintro ⟨-, h⟩; omega)]) (fun b' hb' j => by
        unfold ck_cpy
        rw [if_neg (by rintro ⟨h, -⟩; omega)])] at hP1
      exact hP1
    · cases hst
  all_goals exact absurd (show (none : Option (List Prop × ck_F)) = some (ps, X1) from hst) (by simp)
end CKS1
