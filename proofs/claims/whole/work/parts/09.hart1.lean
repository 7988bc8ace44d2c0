set_option maxHeartbeats 4000000 in
set_option maxRecDepth 100000 in
theorem hc_Memory_write (l : Launch) {D : va_G} {cR cW cP : ClassId} {h0 h1 h2 h3 h4 : Nat} {A : Nat → Prop} {st : HS} {G : Heap} (hP : va_P D hcl (hs_W cR cW cP h0 h1 h2 h3 h4 st) G) (hD : ∀ z, va_D A (hs_W cR cW cP h0 h1 h2 h3 h4 z)) (a1 : Int32) (a2 : Int32) (a3 : Int32)  : Met l yMem_write (wq yMem_write cMem_write 6 none) ({ frames := 1, cells := 0, slots := 0, locals := 20 }) (mk_PK D hcl [(cR, .int), (cW, .int), (cP, .int)] G [.ref h1, .int a1, .int a2, .int a3]) (mk_Wv (fun u t => va_P D hcl (hs_W cR cW cP h0 h1 h2 h3 h4 u) t) A (hf_Memory_write st a1 a2 a3)) 0 0 A := by
  refine Met.ofW (cc := cMem_write) (maxL := 6) (ret := none) (by decide) rfl ?_
  intro p e s m args below meth c s₁ B hml hv
  obtain ⟨rfl, hG, hK⟩ := hv
  subst hG
  have hx := B.exec
  have hb := B.bytes
  have hr := B.returns
  have hts := atoms_spec (ws := (wq yMem_write cMem_write 6 none)) B.pre
  have hown : s.vm.findClass RMem = some m.cls := findClass_of_methodNamed B.named
  have hlocks := B.notSynchronized
  have hg : ∀ w ∈ lw_g, w.before _ s = true := fun w h => hts w (List.mem_cons_of_mem _ h)
  have hS : va_S A s.heap s.heap [] := va_S.rf
  have hl := lv_entry ([.ref h1, .int a1, .int a2, .int a3]) (n := 6) (Nat.le_of_ble_eq_true rfl)
  rw [lg_entry_eq]
  generalize (lg_sl ([.ref h1, .int a1, .int a2, .int a3]) ++ List.replicate (6 - (lg_sl ([.ref h1, .int a1, .int a2, .int a3])).length) Slot.unset).toArray = ls at hl ⊢
  have hl : lv_has ls 6 [(0, .ref h1), (1, .int a1), (2, .int a2), (3, .int a3)] := hl
  refine lv_iload_n hx hb dMem_write_0 rfl (lv_at hl 2 rfl) ?_
  refine mk_callR (va_runS (As := [.int a2]) (rest := []) ⟨hx, hb, hml, hown, hts⟩ (hc_Memory_wordIndex l _ a2) (va_cwS 1 hts (mk_gS tw_147 tw_148 tw_47 tw_149) rfl rfl rfl hdMem_wordIndex.2 ⟨Nat.le_of_ble_eq_true rfl, Nat.le_of_ble_eq_true rfl⟩) mk_preS rfl rfl hl.1 rfl (lv_room (Nat.le_of_ble_eq_true rfl)) dMem_write_1 ⟨Nat.zero_le _, Nat.zero_le _⟩) ?_
  refine lv_istore (lv' := [(4, .int (hf_Memory_wordIndex a2)), (0, .ref h1), (1, .int a1), (2, .int a2), (3, .int a3)]) hx hb dMem_write_4 hl (by decide) rfl (fun ls hl => ?_)
  refine lv_iload_n hx hb dMem_write_6 rfl (lv_at hl 2 rfl) ?_
  refine mk_callR (va_runS (As := [.int a1]) (rest := []) ⟨hx, hb, hml, hown, hts⟩ (hc_Memory_maskOf l _ a1) (va_cwS 1 hts (mk_gS tw_244 tw_245 tw_47 tw_246) rfl rfl rfl hdMem_maskOf.2 ⟨Nat.le_of_ble_eq_true rfl, Nat.le_of_ble_eq_true rfl⟩) mk_preS rfl rfl hl.1 rfl (lv_room (Nat.le_of_ble_eq_true rfl)) dMem_write_7 ⟨Nat.zero_le _, Nat.zero_le _⟩) ?_
  refine lv_iload_n hx hb dMem_write_10 rfl (lv_at hl 3 rfl) ?_
  refine mk_callR (va_runS (As := [.int a2]) (rest := [.int (hf_Memory_maskOf a1)]) ⟨hx, hb, hml, hown, hts⟩ (hc_Memory_shiftOf l _ a2) (va_cwS 1 hts (mk_gS tw_150 tw_151 tw_47 tw_152) rfl rfl rfl hdMem_shiftOf.2 ⟨Nat.le_of_ble_eq_true rfl, Nat.le_of_ble_eq_true rfl⟩) mk_preS rfl rfl hl.1 rfl (lv_room (Nat.le_of_ble_eq_true rfl)) dMem_write_11 ⟨Nat.zero_le _, Nat.zero_le _⟩) ?_
  refine lv_ishl hx hb dMem_write_14 ?_
  refine lv_istore (lv' := [(5, .int ((hf_Memory_maskOf a1) <<< ((hf_Memory_shiftOf a2) &&& 31))), (4, .int (hf_Memory_wordIndex a2)), (0, .ref h1), (1, .int a1), (2, .int a2), (3, .int a3)]) hx hb dMem_write_15 hl (by decide) rfl (fun ls hl => ?_)
  refine lv_aload_n hx hb dMem_write_17 rfl (lv_at hl 2 rfl) ?_
  refine va_get (D := D) (ci := 1) (v := .ref h3) (C := RMem) (T := TMem) (N := 3) hx hb hg inMem hown hK hP 1 rfl rfl 0 (by decide) (hg _ tw_72) (fun _ h9 => h9) rfl dMem_write_18 ?_
  refine lv_iload hx hb dMem_write_21 (lv_at hl 1 rfl) ?_
  refine lv_aload_n hx hb dMem_write_23 rfl (lv_at hl 2 rfl) ?_
  refine va_get (D := D) (ci := 1) (v := .ref h3) (C := RMem) (T := TMem) (N := 3) hx hb hg inMem hown hK hP 1 rfl rfl 0 (by decide) (hg _ tw_72) (fun _ h9 => h9) rfl dMem_write_24 ?_
  refine lv_iload hx hb dMem_write_27 (lv_at hl 1 rfl) ?_
  refine va_iald (D := D) (f := hs_words st) hx hb hK hP 3 1 rfl rfl (in_Memory_wordIndex _) dMem_write_29 ?_
  refine lv_iload hx hb dMem_write_30 (lv_at hl 0 rfl) ?_
  refine lv_iconst (v := (-1)) hx hb dMem_write_32 (by decide) ?_
  refine lv_ixor hx hb dMem_write_33 ?_
  refine lv_iand hx hb dMem_write_34 ?_
  refine lv_iload_n hx hb dMem_write_35 rfl (lv_at hl 5 rfl) ?_
  refine lv_iload_n hx hb dMem_write_36 rfl (lv_at hl 4 rfl) ?_
  refine mk_callR (va_runS (As := [.int a2]) (rest := [.int a3, .int ((hs_words st ((hf_Memory_wordIndex a2)).toNatClampNeg) &&& (((hf_Memory_maskOf a1) <<< ((hf_Memory_shiftOf a2) &&& 31)) ^^^ (-1))), .int (hf_Memory_wordIndex a2), .ref h3]) ⟨hx, hb, hml, hown, hts⟩ (hc_Memory_shiftOf l _ a2) (va_cwS 1 hts (mk_gS tw_150 tw_151 tw_47 tw_152) rfl rfl rfl hdMem_shiftOf.2 ⟨Nat.le_of_ble_eq_true rfl, Nat.le_of_ble_eq_true rfl⟩) mk_preS rfl rfl hl.1 rfl (lv_room (Nat.le_of_ble_eq_true rfl)) dMem_write_37 ⟨Nat.zero_le _, Nat.zero_le _⟩) ?_
  refine lv_ishl hx hb dMem_write_40 ?_
  refine lv_iload hx hb dMem_write_41 (lv_at hl 0 rfl) ?_
  refine lv_iand hx hb dMem_write_43 ?_
  refine lv_ior hx hb dMem_write_44 ?_
  refine lv_topi (fun y_1 ey_1 => ?_)
  refine va_iast (D := D) (f := hs_words st) hx hb hK hP (hD _) hS 3 1 rfl rfl (in_Memory_wordIndex _) dMem_write_45 (fun H locs hP _ hS => ?_)
  have hP : va_P D hcl (hs_W cR cW cP h0 h1 h2 h3 h4 (hs_set_word st (hf_Memory_wordIndex a2) y_1)) H := hP
  subst ey_1
  refine lv_aload_n hx hb dMem_write_46 rfl (lv_at hl 2 rfl) ?_
  refine va_get (D := D) (ci := 1) (v := .int (hs_reserved st)) (C := RMem) (T := TMem) (N := 3) hx hb hg inMem hown hK hP 1 rfl rfl 2 (by decide) (hg _ tw_74) (fun _ h9 => h9) rfl dMem_write_47 ?_
  refine lv_iload_n hx hb dMem_write_50 rfl (lv_at hl 4 rfl) ?_
  refine lv_bipush (v := (-4)) hx hb dMem_write_51 (by decide) ?_
  refine lv_iand hx hb dMem_write_53 ?_
  refine lv_icmp_ne (tgt := 62) hx hb dMem_write_54 (by decide) (fun c_2 => ?_) (fun c_2 => ?_)
  · exact W.vret hx hb hr (fun t ht hW => ⟨⟨(hs_set_word st (hf_Memory_wordIndex a2) (((hs_words st ((hf_Memory_wordIndex a2)).toNatClampNeg) &&& (((hf_Memory_maskOf a1) <<< ((hf_Memory_shiftOf a2) &&& 31)) ^^^ (-1))) ||| ((a3 <<< ((hf_Memory_shiftOf a2) &&& 31)) &&& ((hf_Memory_maskOf a1) <<< ((hf_Memory_shiftOf a2) &&& 31))))), rfl, (by unfold hf_Memory_write; rw [if_neg c_2]), by show va_P D hcl _ t.heap; rw [ht]; exact hP⟩, hS.F ht⟩) hS.2.2 dMem_write_62
  · refine lv_aload_n hx hb dMem_write_57 rfl (lv_at hl 2 rfl) ?_
    refine lv_iconst (v := (-1)) hx hb dMem_write_58 (by decide) ?_
    refine va_put (D := D) (ci := 1) (v := .int (-1)) (ty := .int) (C := RMem) (T := TMem) (N := 3) hx hb hg inMem tyMem tyMem_ok nmMem hown hK hP (hD _) hS 1 rfl rfl 2 (by decide) (hg _ tw_74) (fun _ h9 => h9) rfl (by decide +kernel) rfl rfl (Nat.le_of_ble_eq_true rfl) dMem_write_59 (fun H locs hP _ hS => ?_)
    have hP : va_P D hcl (hs_W cR cW cP h0 h1 h2 h3 h4 (hs_set_reserved (hs_set_word st (hf_Memory_wordIndex a2) (((hs_words st ((hf_Memory_wordIndex a2)).toNatClampNeg) &&& (((hf_Memory_maskOf a1) <<< ((hf_Memory_shiftOf a2) &&& 31)) ^^^ (-1))) ||| ((a3 <<< ((hf_Memory_shiftOf a2) &&& 31)) &&& ((hf_Memory_maskOf a1) <<< ((hf_Memory_shiftOf a2) &&& 31))))) (-1))) H := hP
    exact W.vret hx hb hr (fun t ht hW => ⟨⟨(hs_set_reserved (hs_set_word st (hf_Memory_wordIndex a2) (((hs_words st ((hf_Memory_wordIndex a2)).toNatClampNeg) &&& (((hf_Memory_maskOf a1) <<< ((hf_Memory_shiftOf a2) &&& 31)) ^^^ (-1))) ||| ((a3 <<< ((hf_Memory_shiftOf a2) &&& 31)) &&& ((hf_Memory_maskOf a1) <<< ((hf_Memory_shiftOf a2) &&& 31))))) (-1)), rfl, (by unfold hf_Memory_write; rw [if_pos c_2]), by show va_P D hcl _ t.heap; rw [ht]; exact hP⟩, hS.F ht⟩) hS.2.2 dMem_write_62
set_option maxHeartbeats 4000000 in
set_option maxRecDepth 100000 in
theorem hc_Memory_read (l : Launch) {D : va_G} {cR cW cP : ClassId} {h0 h1 h2 h3 h4 : Nat} {st : HS} {G : Heap} (hP : va_P D hcl (hs_W cR cW cP h0 h1 h2 h3 h4 st) G) (a1 : Int32) (a2 : Int32)  : Met l yMem_read (wq yMem_read cMem_read 5 (some .int)) ({ frames := 1, cells := 0, slots := 0, locals := 20 }) (mk_PK D hcl [(cR, .int), (cW, .int), (cP, .int)] G [.ref h1, .int a1, .int a2]) (mk_Qi G (hf_Memory_read st a1 a2)) 0 0 (fun _ => False) := by
  refine Met.ofW (cc := cMem_read) (maxL := 5) (ret := (some .int)) (by decide) rfl ?_
  intro p e s m args below meth c s₁ B hml hv
  obtain ⟨rfl, hG, hK⟩ := hv
  subst hG
  have hx := B.exec
  have hb := B.bytes
  have hr := B.returns
  have hts := atoms_spec (ws := (wq yMem_read cMem_read 5 (some .int))) B.pre
  have hown : s.vm.findClass RMem = some m.cls := findClass_of_methodNamed B.named
  have hlocks := B.notSynchronized
  have hg : ∀ w ∈ lw_g, w.before _ s = true := fun w h => hts w (List.mem_cons_of_mem _ h)
  have hl := lv_entry ([.ref h1, .int a1, .int a2]) (n := 5) (Nat.le_of_ble_eq_true rfl)
  rw [lg_entry_eq]
  generalize (lg_sl ([.ref h1, .int a1, .int a2]) ++ List.replicate (5 - (lg_sl ([.ref h1, .int a1, .int a2])).length) Slot.unset).toArray = ls at hl ⊢
  have hl : lv_has ls 5 [(0, .ref h1), (1, .int a1), (2, .int a2)] := hl
  refine lv_aload_n hx hb dMem_read_0 rfl (lv_at hl 0 rfl) ?_
  refine va_get (D := D) (ci := 1) (v := .ref h3) (C := RMem) (T := TMem) (N := 3) hx hb hg inMem hown hK hP 1 rfl rfl 0 (by decide) (hg _ tw_72) (fun _ h9 => h9) rfl dMem_read_1 ?_
  refine lv_iload_n hx hb dMem_read_4 rfl (lv_at hl 2 rfl) ?_
  refine mk_callR (va_runS (As := [.int a2]) (rest := [.ref h3]) ⟨hx, hb, hml, hown, hts⟩ (hc_Memory_wordIndex l s.heap a2) (va_cwS 1 hts (mk_gS tw_147 tw_148 tw_47 tw_149) rfl rfl rfl hdMem_wordIndex.2 ⟨Nat.le_of_ble_eq_true rfl, Nat.le_of_ble_eq_true rfl⟩) mk_preS rfl rfl hl.1 rfl (lv_room (Nat.le_of_ble_eq_true rfl)) dMem_read_5 ⟨Nat.zero_le _, Nat.zero_le _⟩) ?_
  refine va_iald (D := D) (f := hs_words st) hx hb hK hP 3 1 rfl rfl (in_Memory_wordIndex _) dMem_read_8 ?_
  refine lv_istore_n (lv' := [(3, .int (hs_words st ((hf_Memory_wordIndex a2)).toNatClampNeg)), (0, .ref h1), (1, .int a1), (2, .int a2)]) hx hb dMem_read_9 rfl hl (by decide) rfl (fun ls hl => ?_)
  refine lv_iload_n hx hb dMem_read_10 rfl (lv_at hl 0 rfl) ?_
  refine lv_iload_n hx hb dMem_read_11 rfl (lv_at hl 3 rfl) ?_
  refine mk_callR (va_runS (As := [.int a2]) (rest := [.int (hs_words st ((hf_Memory_wordIndex a2)).toNatClampNeg)]) ⟨hx, hb, hml, hown, hts⟩ (hc_Memory_shiftOf l s.heap a2) (va_cwS 1 hts (mk_gS tw_150 tw_151 tw_47 tw_152) rfl rfl rfl hdMem_shiftOf.2 ⟨Nat.le_of_ble_eq_true rfl, Nat.le_of_ble_eq_true rfl⟩) mk_preS rfl rfl hl.1 rfl (lv_room (Nat.le_of_ble_eq_true rfl)) dMem_read_12 ⟨Nat.zero_le _, Nat.zero_le _⟩) ?_
  refine lv_iushr (v := (ja_ushr (hs_words st ((hf_Memory_wordIndex a2)).toNatClampNeg) (hf_Memory_shiftOf a2))) hx hb dMem_read_15 rfl ?_
  refine lv_istore (lv' := [(4, .int (ja_ushr (hs_words st ((hf_Memory_wordIndex a2)).toNatClampNeg) (hf_Memory_shiftOf a2))), (3, .int (hs_words st ((hf_Memory_wordIndex a2)).toNatClampNeg)), (0, .ref h1), (1, .int a1), (2, .int a2)]) hx hb dMem_read_16 hl (by decide) rfl (fun ls hl => ?_)
  refine lv_iload_n hx hb dMem_read_18 rfl (lv_at hl 3 rfl) ?_
  by_cases c_1 : a1 = 0
  · refine lv_tableIn (tgt := 56) hx hb dMem_read_19 (by rw [c_1]; decide) (by rw [c_1]; decide) (by rw [c_1]; rfl) (by decide) ?_
    refine lv_iload hx hb dMem_read_56 (lv_at hl 0 rfl) ?_
    refine lv_i2b (v := (ja_ushr (hs_words st ((hf_Memory_wordIndex a2)).toNatClampNeg) (hf_Memory_shiftOf a2)).toInt8.toInt32) hx hb dMem_read_58 rfl ?_
    exact W.iret hx hb hr (fun t ht hW => ⟨⟨_, (), rfl, (by unfold hf_Memory_read; rw [if_pos c_1]), ht⟩, mk_F ht⟩) (fun q h => nomatch h) dMem_read_59
  by_cases c_2 : a1 = 1
  · refine lv_tableIn (tgt := 60) hx hb dMem_read_19 (by rw [c_2]; decide) (by rw [c_2]; decide) (by rw [c_2]; rfl) (by decide) ?_
    refine lv_iload hx hb dMem_read_60 (lv_at hl 0 rfl) ?_
    refine lv_i2s (v := (ja_ushr (hs_words st ((hf_Memory_wordIndex a2)).toNatClampNeg) (hf_Memory_shiftOf a2)).toInt16.toInt32) hx hb dMem_read_62 rfl ?_
    exact W.iret hx hb hr (fun t ht hW => ⟨⟨_, (), rfl, (by unfold hf_Memory_read; rw [if_neg c_1, if_pos c_2]), ht⟩, mk_F ht⟩) (fun q h => nomatch h) dMem_read_63
  by_cases c_3 : a1 = 4
  · refine lv_tableIn (tgt := 64) hx hb dMem_read_19 (by rw [c_3]; decide) (by rw [c_3]; decide) (by rw [c_3]; rfl) (by decide) ?_
    refine lv_iload hx hb dMem_read_64 (lv_at hl 0 rfl) ?_
    refine lv_sipush (v := 255) hx hb dMem_read_66 (by decide) ?_
    refine lv_iand hx hb dMem_read_69 ?_
    exact W.iret hx hb hr (fun t ht hW => ⟨⟨_, (), rfl, (by unfold hf_Memory_read; rw [if_neg c_1, if_neg c_2, if_pos c_3]), ht⟩, mk_F ht⟩) (fun q h => nomatch h) dMem_read_70
  by_cases c_4 : a1 = 5
  · refine lv_tableIn (tgt := 71) hx hb dMem_read_19 (by rw [c_4]; decide) (by rw [c_4]; decide) (by rw [c_4]; rfl) (by decide) ?_
    refine lv_iload hx hb dMem_read_71 (lv_at hl 0 rfl) ?_
    refine lv_ldc (v := 65535) hx hb hown (hg _ tw_138) dMem_read_73 ?_
    refine lv_iand hx hb dMem_read_75 ?_
    exact W.iret hx hb hr (fun t ht hW => ⟨⟨_, (), rfl, (by unfold hf_Memory_read; rw [if_neg c_1, if_neg c_2, if_neg c_3, if_pos c_4]), ht⟩, mk_F ht⟩) (fun q h => nomatch h) dMem_read_76
  refine mk_table (tgt := 77) hx hb dMem_read_19 (mk_gap (N := 6) [0, 1, 4, 5] (by decide) (by decide) (by have q_1 := lv_neT (a := 0) c_1 rfl; have q_2 := lv_neT (a := 1) c_2 rfl; have q_3 := lv_neT (a := 4) c_3 rfl; have q_4 := lv_neT (a := 5) c_4 rfl; intro n hn; simp only [List.mem_cons, List.not_mem_nil, or_false, not_or]; omega)) (by decide) ?_
  refine lv_iload_n hx hb dMem_read_77 rfl (lv_at hl 1 rfl) ?_
  exact W.iret hx hb hr (fun t ht hW => ⟨⟨_, (), rfl, (by unfold hf_Memory_read; rw [if_neg c_1, if_neg c_2, if_neg c_3, if_neg c_4]), ht⟩, mk_F ht⟩) (fun q h => nomatch h) dMem_read_78
set_option maxHeartbeats 4000000 in
set_option maxRecDepth 100000 in
theorem hc_Memory_exchangeRights (l : Launch) {D : va_G} {cR cW cP : ClassId} {h0 h1 h2 h3 h4 : Nat} {A : Nat → Prop} {st : HS} {G : Heap} (hP : va_P D hcl (hs_W cR cW cP h0 h1 h2 h3 h4 st) G) (hD : ∀ z, va_D A (hs_W cR cW cP h0 h1 h2 h3 h4 z)) (a1 : Int32) (a2 : Int32) (hq1 : vp_in a1 64) : Met l yMem_exchangeRights (wq yMem_exchangeRights cMem_exchangeRights 4 (some .int)) ({ frames := 0, cells := 0, slots := 0, locals := 0 }) (mk_PK D hcl [(cR, .int), (cW, .int), (cP, .int)] G [.ref h1, .int a1, .int a2]) (mk_Wi (fun u t => va_P D hcl (hs_W cR cW cP h0 h1 h2 h3 h4 u) t) A (hf_Memory_exchangeRights st a1 a2)) 0 0 A := by
  refine Met.ofW (cc := cMem_exchangeRights) (maxL := 4) (ret := (some .int)) (by decide) rfl ?_
  intro p e s m args below meth c s₁ B hml hv
  obtain ⟨rfl, hG, hK⟩ := hv
  subst hG
  have hx := B.exec
  have hb := B.bytes
  have hr := B.returns
  have hts := atoms_spec (ws := (wq yMem_exchangeRights cMem_exchangeRights 4 (some .int))) B.pre
  have hown : s.vm.findClass RMem = some m.cls := findClass_of_methodNamed B.named
  have hlocks := B.notSynchronized
  have hg : ∀ w ∈ lw_g, w.before _ s = true := fun w h => hts w (List.mem_cons_of_mem _ h)
  have hS : va_S A s.heap s.heap [] := va_S.rf
  have hl := lv_entry ([.ref h1, .int a1, .int a2]) (n := 4) (Nat.le_of_ble_eq_true rfl)
  rw [lg_entry_eq]
  generalize (lg_sl ([.ref h1, .int a1, .int a2]) ++ List.replicate (4 - (lg_sl ([.ref h1, .int a1, .int a2])).length) Slot.unset).toArray = ls at hl ⊢
  have hl : lv_has ls 4 [(0, .ref h1), (1, .int a1), (2, .int a2)] := hl
  refine lv_aload_n hx hb dMem_exchangeRights_0 rfl (lv_at hl 0 rfl) ?_
  refine va_get (D := D) (ci := 1) (v := .ref h4) (C := RMem) (T := TMem) (N := 3) hx hb hg inMem hown hK hP 1 rfl rfl 1 (by decide) (hg _ tw_73) (fun _ h9 => h9) rfl dMem_exchangeRights_1 ?_
  refine lv_iload_n hx hb dMem_exchangeRights_4 rfl (lv_at hl 1 rfl) ?_
  refine va_iald (D := D) (f := hs_rights st) hx hb hK hP 4 2 rfl rfl hq1 dMem_exchangeRights_5 ?_
  refine lv_istore_n (lv' := [(3, .int (hs_rights st (a1).toNatClampNeg)), (0, .ref h1), (1, .int a1), (2, .int a2)]) hx hb dMem_exchangeRights_6 rfl hl (by decide) rfl (fun ls hl => ?_)
  refine lv_aload_n hx hb dMem_exchangeRights_7 rfl (lv_at hl 1 rfl) ?_
  refine va_get (D := D) (ci := 1) (v := .ref h4) (C := RMem) (T := TMem) (N := 3) hx hb hg inMem hown hK hP 1 rfl rfl 1 (by decide) (hg _ tw_73) (fun _ h9 => h9) rfl dMem_exchangeRights_8 ?_
  refine lv_iload_n hx hb dMem_exchangeRights_11 rfl (lv_at hl 2 rfl) ?_
  refine lv_iload_n hx hb dMem_exchangeRights_12 rfl (lv_at hl 3 rfl) ?_
  refine va_iast (D := D) (f := hs_rights st) hx hb hK hP (hD _) hS 4 2 rfl rfl hq1 dMem_exchangeRights_13 (fun H locs hP _ hS => ?_)
  have hP : va_P D hcl (hs_W cR cW cP h0 h1 h2 h3 h4 (hs_set_right st a1 a2)) H := hP
  refine lv_iload_n hx hb dMem_exchangeRights_14 rfl (lv_at hl 0 rfl) ?_
  exact W.iret hx hb hr (fun t ht hW => ⟨⟨_, (hs_set_right st a1 a2), rfl, rfl, by show va_P D hcl _ t.heap; rw [ht]; exact hP⟩, hS.F ht⟩) hS.2.2 dMem_exchangeRights_15
set_option maxHeartbeats 4000000 in
set_option maxRecDepth 100000 in
theorem hc_RiscHart_give (l : Launch) {D : va_G} {cR cW cP : ClassId} {h0 h1 h2 h3 h4 : Nat} {A : Nat → Prop} {st : HS} {G : Heap} (hP : va_P D hcl (hs_W cR cW cP h0 h1 h2 h3 h4 st) G) (hD : ∀ z, va_D A (hs_W cR cW cP h0 h1 h2 h3 h4 z)) (a1 : Int32) (a2 : Int32) (hq1 : vp_in a1 32) : Met l yHart_give (wq yHart_give cHart_give 3 (some .int)) ({ frames := 0, cells := 0, slots := 0, locals := 0 }) (mk_PK D hcl [(cR, .int), (cW, .int), (cP, .int)] G [.ref h0, .int a1, .int a2]) (mk_Wi (fun u t => va_P D hcl (hs_W cR cW cP h0 h1 h2 h3 h4 u) t) A (hf_RiscHart_give st a1 a2)) 0 0 A := by
  refine Met.ofW (cc := cHart_give) (maxL := 3) (ret := (some .int)) (by decide) rfl ?_
  intro p e s m args below meth c s₁ B hml hv
  obtain ⟨rfl, hG, hK⟩ := hv
  subst hG
  have hx := B.exec
  have hb := B.bytes
  have hr := B.returns
  have hts := atoms_spec (ws := (wq yHart_give cHart_give 3 (some .int))) B.pre
  have hown : s.vm.findClass RHart = some m.cls := findClass_of_methodNamed B.named
  have hlocks := B.notSynchronized
  have hg : ∀ w ∈ lw_g, w.before _ s = true := fun w h => hts w (List.mem_cons_of_mem _ h)
  have hS : va_S A s.heap s.heap [] := va_S.rf
  have hl := lv_entry ([.ref h0, .int a1, .int a2]) (n := 3) (Nat.le_of_ble_eq_true rfl)
  rw [lg_entry_eq]
  generalize (lg_sl ([.ref h0, .int a1, .int a2]) ++ List.replicate (3 - (lg_sl ([.ref h0, .int a1, .int a2])).length) Slot.unset).toArray = ls at hl ⊢
  have hl : lv_has ls 3 [(0, .ref h0), (1, .int a1), (2, .int a2)] := hl
  refine lv_iload_n hx hb dHart_give_0 rfl (lv_at hl 1 rfl) ?_
  refine lv_if_eq (tgt := 11) hx hb dHart_give_1 (by decide) (fun c_1 => ?_) (fun c_1 => ?_)
  · refine lv_iconst (v := 0) hx hb dHart_give_11 (by decide) ?_
    exact W.iret hx hb hr (fun t ht hW => ⟨⟨_, st, rfl, (by unfold hf_RiscHart_give; rw [if_pos c_1]), by show va_P D hcl _ t.heap; rw [ht]; exact hP⟩, hS.F ht⟩) hS.2.2 dHart_give_12
  · refine lv_aload_n hx hb dHart_give_4 rfl (lv_at hl 0 rfl) ?_
    refine va_get (D := D) (ci := 0) (v := .ref h2) (C := RHart) (T := THart) (N := 8) hx hb hg inHart hown hK hP 0 rfl rfl 1 (by decide) (hg _ tw_84) (fun _ h9 => h9) rfl dHart_give_5 ?_
    refine lv_iload_n hx hb dHart_give_8 rfl (lv_at hl 1 rfl) ?_
    refine lv_iload_n hx hb dHart_give_9 rfl (lv_at hl 2 rfl) ?_
    refine va_iast (D := D) (f := hs_regs st) hx hb hK hP (hD _) hS 2 0 rfl rfl hq1 dHart_give_10 (fun H locs hP _ hS => ?_)
    have hP : va_P D hcl (hs_W cR cW cP h0 h1 h2 h3 h4 (hs_set_reg st a1 a2)) H := hP
    refine lv_iconst (v := 0) hx hb dHart_give_11 (by decide) ?_
    exact W.iret hx hb hr (fun t ht hW => ⟨⟨_, (hs_set_reg st a1 a2), rfl, (by unfold hf_RiscHart_give; rw [if_neg c_1]), by show va_P D hcl _ t.heap; rw [ht]; exact hP⟩, hS.F ht⟩) hS.2.2 dHart_give_12
set_option maxHeartbeats 4000000 in
set_option maxRecDepth 100000 in
theorem hc_RiscHart_jump (l : Launch) {D : va_G} {cR cW cP : ClassId} {h0 h1 h2 h3 h4 : Nat} {A : Nat → Prop} {st : HS} {G : Heap} (hP : va_P D hcl (hs_W cR cW cP h0 h1 h2 h3 h4 st) G) (hD : ∀ z, va_D A (hs_W cR cW cP h0 h1 h2 h3 h4 z)) (a1 : Int32)  : Met l yHart_jump (wq yHart_jump cHart_jump 2 none) ({ frames := 0, cells := 0, slots := 0, locals := 0 }) (mk_PK D hcl [(cR, .int), (cW, .int), (cP, .int)] G [.ref h0, .int a1]) (mk_Wv (fun u t => va_P D hcl (hs_W cR cW cP h0 h1 h2 h3 h4 u) t) A (hf_RiscHart_jump st a1)) 0 0 A := by
  refine Met.ofW (cc := cHart_jump) (maxL := 2) (ret := none) (by decide) rfl ?_
  intro p e s m args below meth c s₁ B hml hv
  obtain ⟨rfl, hG, hK⟩ := hv
  subst hG
  have hx := B.exec
  have hb := B.bytes
  have hr := B.returns
  have hts := atoms_spec (ws := (wq yHart_jump cHart_jump 2 none)) B.pre
  have hown : s.vm.findClass RHart = some m.cls := findClass_of_methodNamed B.named
  have hlocks := B.notSynchronized
  have hg : ∀ w ∈ lw_g, w.before _ s = true := fun w h => hts w (List.mem_cons_of_mem _ h)
  have hS : va_S A s.heap s.heap [] := va_S.rf
  have hl := lv_entry ([.ref h0, .int a1]) (n := 2) (Nat.le_of_ble_eq_true rfl)
  rw [lg_entry_eq]
  generalize (lg_sl ([.ref h0, .int a1]) ++ List.replicate (2 - (lg_sl ([.ref h0, .int a1])).length) Slot.unset).toArray = ls at hl ⊢
  have hl : lv_has ls 2 [(0, .ref h0), (1, .int a1)] := hl
  refine lv_aload_n hx hb dHart_jump_0 rfl (lv_at hl 0 rfl) ?_
  refine lv_iload_n hx hb dHart_jump_1 rfl (lv_at hl 1 rfl) ?_
  refine va_put (D := D) (ci := 0) (v := .int a1) (ty := .int) (C := RHart) (T := THart) (N := 8) hx hb hg inHart tyHart tyHart_ok nmHart hown hK hP (hD _) hS 0 rfl rfl 2 (by decide) (hg _ tw_85) (fun _ h9 => h9) rfl (by decide +kernel) rfl rfl (Nat.le_of_ble_eq_true rfl) dHart_jump_2 (fun H locs hP _ hS => ?_)
  have hP : va_P D hcl (hs_W cR cW cP h0 h1 h2 h3 h4 (hs_set_place st a1)) H := hP
  exact W.vret hx hb hr (fun t ht hW => ⟨⟨(hs_set_place st a1), rfl, rfl, by show va_P D hcl _ t.heap; rw [ht]; exact hP⟩, hS.F ht⟩) hS.2.2 dHart_jump_5
set_option maxHeartbeats 4000000 in
set_option maxRecDepth 100000 in
theorem hc_RiscHart_clock (l : Launch) {D : va_G} {cR cW cP : ClassId} {h0 h1 h2 h3 h4 : Nat} {A : Nat → Prop} {st : HS} {G : Heap} (hP : va_P D hcl (hs_W cR cW cP h0 h1 h2 h3 h4 st) G) (hD : ∀ z, va_D A (hs_W cR cW cP h0 h1 h2 h3 h4 z)) (a1 : Int64)  : Met l yHart_clock (wq yHart_clock cHart_clock 3 none) ({ frames := 0, cells := 0, slots := 0, locals := 0 }) (mk_PK D hcl [(cR, .int), (cW, .int), (cP, .int)] G [.ref h0, .long a1]) (mk_Wv (fun u t => va_P D hcl (hs_W cR cW cP h0 h1 h2 h3 h4 u) t) A (hf_RiscHart_clock st a1)) 0 0 A := by
  refine Met.ofW (cc := cHart_clock) (maxL := 3) (ret := none) (by decide) rfl ?_
  intro p e s m args below meth c s₁ B hml hv
  obtain ⟨rfl, hG, hK⟩ := hv
  subst hG
  have hx := B.exec
  have hb := B.bytes
  have hr := B.returns
  have hts := atoms_spec (ws := (wq yHart_clock cHart_clock 3 none)) B.pre
  have hown : s.vm.findClass RHart = some m.cls := findClass_of_methodNamed B.named
  have hlocks := B.notSynchronized
  have hg : ∀ w ∈ lw_g, w.before _ s = true := fun w h => hts w (List.mem_cons_of_mem _ h)
  have hS : va_S A s.heap s.heap [] := va_S.rf
  have hl := lv_entry ([.ref h0, .long a1]) (n := 3) (Nat.le_of_ble_eq_true rfl)
  rw [lg_entry_eq]
  generalize (lg_sl ([.ref h0, .long a1]) ++ List.replicate (3 - (lg_sl ([.ref h0, .long a1])).length) Slot.unset).toArray = ls at hl ⊢
  have hl : lv_has ls 3 [(0, .ref h0), (1, .long a1)] := hl
  refine lv_aload_n hx hb dHart_clock_0 rfl (lv_at hl 0 rfl) ?_
  refine lv_lload_n hx hb dHart_clock_1 rfl (lv_at hl 1 rfl) ?_
  refine va_put (D := D) (ci := 0) (v := .long a1) (ty := .long) (C := RHart) (T := THart) (N := 8) hx hb hg inHart tyHart tyHart_ok nmHart hown hK hP (hD _) hS 0 rfl rfl 7 (by decide) (hg _ tw_90) (fun _ h9 => h9) rfl (by decide +kernel) rfl rfl (Nat.le_of_ble_eq_true rfl) dHart_clock_2 (fun H locs hP _ hS => ?_)
  have hP : va_P D hcl (hs_W cR cW cP h0 h1 h2 h3 h4 (hs_set_time st a1)) H := hP
  exact W.vret hx hb hr (fun t ht hW => ⟨⟨(hs_set_time st a1), rfl, rfl, by show va_P D hcl _ t.heap; rw [ht]; exact hP⟩, hS.F ht⟩) hS.2.2 dHart_clock_5
set_option maxHeartbeats 4000000 in
set_option maxRecDepth 100000 in
theorem hc_Memory_allows (l : Launch) {D : va_G} {cR cW cP : ClassId} {h0 h1 h2 h3 h4 : Nat} {st : HS} {G : Heap} (hP : va_P D hcl (hs_W cR cW cP h0 h1 h2 h3 h4 st) G) (a1 : Int32) (a2 : Int32)  : Met l yMem_allows (wq yMem_allows cMem_allows 3 (some .boolean)) ({ frames := 1, cells := 0, slots := 0, locals := 20 }) (mk_PK D hcl [(cR, .int), (cW, .int), (cP, .int)] G [.ref h1, .int a1, .int a2]) (mk_Qi G (hf_Memory_allows st a1 a2)) 0 0 (fun _ => False) := by
  refine Met.ofW (cc := cMem_allows) (maxL := 3) (ret := (some .boolean)) (by decide) rfl ?_
  intro p e s m args below meth c s₁ B hml hv
  obtain ⟨rfl, hG, hK⟩ := hv
  subst hG
  have hx := B.exec
  have hb := B.bytes
  have hr := B.returns
  have hts := atoms_spec (ws := (wq yMem_allows cMem_allows 3 (some .boolean))) B.pre
  have hown : s.vm.findClass RMem = some m.cls := findClass_of_methodNamed B.named
  have hlocks := B.notSynchronized
  have hg : ∀ w ∈ lw_g, w.before _ s = true := fun w h => hts w (List.mem_cons_of_mem _ h)
  have hl := lv_entry ([.ref h1, .int a1, .int a2]) (n := 3) (Nat.le_of_ble_eq_true rfl)
  rw [lg_entry_eq]
  generalize (lg_sl ([.ref h1, .int a1, .int a2]) ++ List.replicate (3 - (lg_sl ([.ref h1, .int a1, .int a2])).length) Slot.unset).toArray = ls at hl ⊢
  have hl : lv_has ls 3 [(0, .ref h1), (1, .int a1), (2, .int a2)] := hl
  refine lv_iload_n hx hb dMem_allows_0 rfl (lv_at hl 2 rfl) ?_
  refine mk_callR (va_runS (As := [.int a2]) (rest := []) ⟨hx, hb, hml, hown, hts⟩ (hc_Memory_holds l s.heap a2) (va_cwS 1 hts (mk_gS tw_135 tw_136 tw_47 tw_137) rfl rfl rfl hdMem_holds.2 ⟨Nat.le_of_ble_eq_true rfl, Nat.le_of_ble_eq_true rfl⟩) mk_preS rfl rfl hl.1 rfl (lv_room (Nat.le_of_ble_eq_true rfl)) dMem_allows_1 ⟨Nat.zero_le _, Nat.zero_le _⟩) ?_
  refine lv_if_eq (tgt := 25) hx hb dMem_allows_4 (by decide) (fun c_1 => ?_) (fun c_1 => ?_)
  · refine lv_iconst (v := 0) hx hb dMem_allows_25 (by decide) ?_
    exact W.zret hx hb hr rfl (fun t ht hW => ⟨⟨_, (), rfl, (by unfold hf_Memory_allows; rw [if_pos c_1]), ht⟩, mk_F ht⟩) (fun q h => nomatch h) dMem_allows_26
  · refine lv_aload_n hx hb dMem_allows_7 rfl (lv_at hl 0 rfl) ?_
    refine va_get (D := D) (ci := 1) (v := .ref h4) (C := RMem) (T := TMem) (N := 3) hx hb hg inMem hown hK hP 1 rfl rfl 1 (by decide) (hg _ tw_73) (fun _ h9 => h9) rfl dMem_allows_8 ?_
    refine lv_iload_n hx hb dMem_allows_11 rfl (lv_at hl 2 rfl) ?_
    refine lv_bipush (v := 10) hx hb dMem_allows_12 (by decide) ?_
    refine lv_iushr (v := (ja_ushr a2 10)) hx hb dMem_allows_14 rfl ?_
    refine va_iald (D := D) (f := hs_rights st) hx hb hK hP 4 2 rfl rfl (in_page c_1) dMem_allows_15 ?_
    refine lv_iload_n hx hb dMem_allows_16 rfl (lv_at hl 1 rfl) ?_
    refine lv_iand hx hb dMem_allows_17 ?_
    refine lv_if_eq (tgt := 25) hx hb dMem_allows_18 (by decide) (fun c_2 => ?_) (fun c_2 => ?_)
    · refine lv_iconst (v := 0) hx hb dMem_allows_25 (by decide) ?_
      exact W.zret hx hb hr rfl (fun t ht hW => ⟨⟨_, (), rfl, (by unfold hf_Memory_allows; rw [if_neg c_1, if_pos c_2]), ht⟩, mk_F ht⟩) (fun q h => nomatch h) dMem_allows_26
    · refine lv_iconst (v := 1) hx hb dMem_allows_21 (by decide) ?_
      refine lv_goto (tgt := 26) hx hb dMem_allows_22 (by decide) ?_
      exact W.zret hx hb hr rfl (fun t ht hW => ⟨⟨_, (), rfl, (by unfold hf_Memory_allows; rw [if_neg c_1, if_neg c_2]), ht⟩, mk_F ht⟩) (fun q h => nomatch h) dMem_allows_26
set_option maxHeartbeats 4000000 in
set_option maxRecDepth 100000 in
theorem hc_Memory_mayCarryOut (l : Launch) {D : va_G} {cR cW cP : ClassId} {h0 h1 h2 h3 h4 : Nat} {st : HS} {G : Heap} (hP : va_P D hcl (hs_W cR cW cP h0 h1 h2 h3 h4 st) G) (a1 : Int32)  : Met l yMem_mayCarryOut (wq yMem_mayCarryOut cMem_mayCarryOut 2 (some .boolean)) ({ frames := 2, cells := 0, slots := 0, locals := 42 }) (mk_PK D hcl [(cR, .int), (cW, .int), (cP, .int)] G [.ref h1, .int a1]) (mk_Qi G (hf_Memory_mayCarryOut st a1)) 0 0 (fun _ => False) := by
  refine Met.ofW (cc := cMem_mayCarryOut) (maxL := 2) (ret := (some .boolean)) (by decide) rfl ?_
  intro p e s m args below meth c s₁ B hml hv
  obtain ⟨rfl, hG, hK⟩ := hv
  subst hG
  have hx := B.exec
  have hb := B.bytes
  have hr := B.returns
  have hts := atoms_spec (ws := (wq yMem_mayCarryOut cMem_mayCarryOut 2 (some .boolean))) B.pre
  have hown : s.vm.findClass RMem = some m.cls := findClass_of_methodNamed B.named
  have hlocks := B.notSynchronized
  have hg : ∀ w ∈ lw_g, w.before _ s = true := fun w h => hts w (List.mem_cons_of_mem _ h)
  have hl := lv_entry ([.ref h1, .int a1]) (n := 2) (Nat.le_of_ble_eq_true rfl)
  rw [lg_entry_eq]
  generalize (lg_sl ([.ref h1, .int a1]) ++ List.replicate (2 - (lg_sl ([.ref h1, .int a1])).length) Slot.unset).toArray = ls at hl ⊢
  have hl : lv_has ls 2 [(0, .ref h1), (1, .int a1)] := hl
  refine lv_iconst (v := 1) hx hb dMem_mayCarryOut_0 (by decide) ?_
  refine lv_iload_n hx hb dMem_mayCarryOut_1 rfl (lv_at hl 1 rfl) ?_
  refine mk_callR (va_runS (As := [.int 1, .int a1]) (rest := []) ⟨hx, hb, hml, hown, hts⟩ (hc_Memory_isMisaligned l s.heap 1 a1) (va_cwS 2 hts (mk_gS tw_128 tw_129 tw_47 tw_130) rfl rfl rfl hdMem_isMisaligned.2 ⟨Nat.le_of_ble_eq_true rfl, Nat.le_of_ble_eq_true rfl⟩) mk_preS rfl rfl hl.1 rfl (lv_room (Nat.le_of_ble_eq_true rfl)) dMem_mayCarryOut_2 ⟨Nat.zero_le _, Nat.zero_le _⟩) ?_
  refine lv_if_ne (tgt := 21) hx hb dMem_mayCarryOut_5 (by decide) (fun c_1 => ?_) (fun c_1 => ?_)
  · refine lv_iconst (v := 0) hx hb dMem_mayCarryOut_21 (by decide) ?_
    exact W.zret hx hb hr rfl (fun t ht hW => ⟨⟨_, (), rfl, (by unfold hf_Memory_mayCarryOut; rw [if_neg c_1]), ht⟩, mk_F ht⟩) (fun q h => nomatch h) dMem_mayCarryOut_22
  · refine lv_aload_n hx hb dMem_mayCarryOut_8 rfl (lv_at hl 0 rfl) ?_
    refine lv_iconst (v := 4) hx hb dMem_mayCarryOut_9 (by decide) ?_
    refine lv_iload_n hx hb dMem_mayCarryOut_10 rfl (lv_at hl 1 rfl) ?_
    refine mk_callR (va_runV (As := [.int 4, .int a1]) (rest := []) ⟨hx, hb, hml, hown, hts⟩ (hc_Memory_allows l hP 4 a1) (cwV 2 hts (mk_gV tw_131 tw_132 tw_133 tw_47 tw_134) rfl rfl rfl hdMem_allows ⟨Nat.le_of_ble_eq_true rfl, Nat.le_of_ble_eq_true rfl⟩) (mk_preVK hK (va_recv hK hP (ci := 1) (q0 := 1) rfl rfl)) rfl rfl hl.1 rfl (lv_room (Nat.le_of_ble_eq_true rfl)) dMem_mayCarryOut_11 ⟨Nat.zero_le _, Nat.zero_le _⟩) ?_
    refine lv_if_eq (tgt := 21) hx hb dMem_mayCarryOut_14 (by decide) (fun c_2 => ?_) (fun c_2 => ?_)
    · refine lv_iconst (v := 0) hx hb dMem_mayCarryOut_21 (by decide) ?_
      exact W.zret hx hb hr rfl (fun t ht hW => ⟨⟨_, (), rfl, (by unfold hf_Memory_mayCarryOut; rw [if_pos c_1, if_pos c_2]), ht⟩, mk_F ht⟩) (fun q h => nomatch h) dMem_mayCarryOut_22
    · refine lv_iconst (v := 1) hx hb dMem_mayCarryOut_17 (by decide) ?_
      refine lv_goto (tgt := 22) hx hb dMem_mayCarryOut_18 (by decide) ?_
      exact W.zret hx hb hr rfl (fun t ht hW => ⟨⟨_, (), rfl, (by unfold hf_Memory_mayCarryOut; rw [if_pos c_1, if_neg c_2]), ht⟩, mk_F ht⟩) (fun q h => nomatch h) dMem_mayCarryOut_22
set_option maxHeartbeats 4000000 in
set_option maxRecDepth 100000 in
theorem hc_RiscHart_trap (l : Launch) {D : va_G} {cR cW cP : ClassId} {h0 h1 h2 h3 h4 : Nat} {A : Nat → Prop} {st : HS} {G : Heap} (hP : va_P D hcl (hs_W cR cW cP h0 h1 h2 h3 h4 st) G) (hD : ∀ z, va_D A (hs_W cR cW cP h0 h1 h2 h3 h4 z)) (a1 : Int32) (a2 : Int32)  : Met l yHart_trap (wq yHart_trap cHart_trap 3 (some .int)) ({ frames := 0, cells := 0, slots := 0, locals := 0 }) (mk_PK D hcl [(cR, .int), (cW, .int), (cP, .int)] G [.ref h0, .int a1, .int a2]) (mk_Wi (fun u t => va_P D hcl (hs_W cR cW cP h0 h1 h2 h3 h4 u) t) A (hf_RiscHart_trap st a1 a2)) 0 0 A := by
  refine Met.ofW (cc := cHart_trap) (maxL := 3) (ret := (some .int)) (by decide) rfl ?_
  intro p e s m args below meth c s₁ B hml hv
  obtain ⟨rfl, hG, hK⟩ := hv
  subst hG
  have hx := B.exec
  have hb := B.bytes
  have hr := B.returns
  have hts := atoms_spec (ws := (wq yHart_trap cHart_trap 3 (some .int))) B.pre
  have hown : s.vm.findClass RHart = some m.cls := findClass_of_methodNamed B.named
  have hlocks := B.notSynchronized
  have hg : ∀ w ∈ lw_g, w.before _ s = true := fun w h => hts w (List.mem_cons_of_mem _ h)
  have hS : va_S A s.heap s.heap [] := va_S.rf
  have hl := lv_entry ([.ref h0, .int a1, .int a2]) (n := 3) (Nat.le_of_ble_eq_true rfl)
  rw [lg_entry_eq]
  generalize (lg_sl ([.ref h0, .int a1, .int a2]) ++ List.replicate (3 - (lg_sl ([.ref h0, .int a1, .int a2])).length) Slot.unset).toArray = ls at hl ⊢
  have hl : lv_has ls 3 [(0, .ref h0), (1, .int a1), (2, .int a2)] := hl
  refine lv_aload_n hx hb dHart_trap_0 rfl (lv_at hl 0 rfl) ?_
  refine lv_iload_n hx hb dHart_trap_1 rfl (lv_at hl 1 rfl) ?_
  refine va_put (D := D) (ci := 0) (v := .int a1) (ty := .int) (C := RHart) (T := THart) (N := 8) hx hb hg inHart tyHart tyHart_ok nmHart hown hK hP (hD _) hS 0 rfl rfl 4 (by decide) (hg _ tw_87) (fun _ h9 => h9) rfl (by decide +kernel) rfl rfl (Nat.le_of_ble_eq_true rfl) dHart_trap_2 (fun H locs hP _ hS => ?_)
  have hP : va_P D hcl (hs_W cR cW cP h0 h1 h2 h3 h4 (hs_set_cause st a1)) H := hP
  refine lv_aload_n hx hb dHart_trap_5 rfl (lv_at hl 0 rfl) ?_
  refine lv_iload_n hx hb dHart_trap_6 rfl (lv_at hl 2 rfl) ?_
  refine va_put (D := D) (ci := 0) (v := .int a2) (ty := .int) (C := RHart) (T := THart) (N := 8) hx hb hg inHart tyHart tyHart_ok nmHart hown hK hP (hD _) hS 0 rfl rfl 5 (by decide) (hg _ tw_88) (fun _ h9 => h9) rfl (by decide +kernel) rfl rfl (Nat.le_of_ble_eq_true rfl) dHart_trap_7 (fun H locs hP _ hS => ?_)
  have hP : va_P D hcl (hs_W cR cW cP h0 h1 h2 h3 h4 (hs_set_value (hs_set_cause st a1) a2)) H := hP
  refine lv_iload_n hx hb dHart_trap_10 rfl (lv_at hl 1 rfl) ?_
  exact W.iret hx hb hr (fun t ht hW => ⟨⟨_, (hs_set_value (hs_set_cause st a1) a2), rfl, rfl, by show va_P D hcl _ t.heap; rw [ht]; exact hP⟩, hS.F ht⟩) hS.2.2 dHart_trap_11
set_option maxHeartbeats 4000000 in
set_option maxRecDepth 100000 in
theorem hc_RiscHart_longFrom (l : Launch) {D : va_G} {cR cW cP : ClassId} {h0 h1 h2 h3 h4 : Nat} {st : HS} {G : Heap} (hP : va_P D hcl (hs_W cR cW cP h0 h1 h2 h3 h4 st) G) (a1 : Int32)  : Met l yHart_longFrom (wq yHart_longFrom cHart_longFrom 2 (some .int)) ({ frames := 2, cells := 0, slots := 0, locals := 44 }) (mk_PK D hcl [(cR, .int), (cW, .int), (cP, .int)] G [.ref h0, .int a1]) (mk_Qi G (hf_RiscHart_longFrom st a1)) 0 0 (fun _ => False) := by
  refine Met.ofW (cc := cHart_longFrom) (maxL := 2) (ret := (some .int)) (by decide) rfl ?_
  intro p e s m args below meth c s₁ B hml hv
  obtain ⟨rfl, hG, hK⟩ := hv
  subst hG
  have hx := B.exec
  have hb := B.bytes
  have hr := B.returns
  have hts := atoms_spec (ws := (wq yHart_longFrom cHart_longFrom 2 (some .int))) B.pre
  have hown : s.vm.findClass RHart = some m.cls := findClass_of_methodNamed B.named
  have hlocks := B.notSynchronized
  have hg : ∀ w ∈ lw_g, w.before _ s = true := fun w h => hts w (List.mem_cons_of_mem _ h)
  have hl := lv_entry ([.ref h0, .int a1]) (n := 2) (Nat.le_of_ble_eq_true rfl)
  rw [lg_entry_eq]
  generalize (lg_sl ([.ref h0, .int a1]) ++ List.replicate (2 - (lg_sl ([.ref h0, .int a1])).length) Slot.unset).toArray = ls at hl ⊢
  have hl : lv_has ls 2 [(0, .ref h0), (1, .int a1)] := hl
  refine lv_aload_n hx hb dHart_longFrom_0 rfl (lv_at hl 0 rfl) ?_
  refine va_get (D := D) (ci := 0) (v := .ref h1) (C := RHart) (T := THart) (N := 8) hx hb hg inHart hown hK hP 0 rfl rfl 0 (by decide) (hg _ tw_83) (fun _ h9 => h9) rfl dHart_longFrom_1 ?_
  refine lv_iconst (v := 5) hx hb dHart_longFrom_4 (by decide) ?_
  refine lv_aload_n hx hb dHart_longFrom_5 rfl (lv_at hl 0 rfl) ?_
  refine va_get (D := D) (ci := 0) (v := .int (hs_place st)) (C := RHart) (T := THart) (N := 8) hx hb hg inHart hown hK hP 0 rfl rfl 2 (by decide) (hg _ tw_85) (fun _ h9 => h9) rfl dHart_longFrom_6 ?_
  refine lv_iconst (v := 2) hx hb dHart_longFrom_9 (by decide) ?_
  refine lv_iadd hx hb dHart_longFrom_10 ?_
  refine mk_callR (va_runV (As := [.int 5, .int ((hs_place st) + 2)]) (rest := []) ⟨hx, hb, hml, hown, hts⟩ (hc_Memory_read l hP 5 ((hs_place st) + 2)) (cwV 2 hts (mk_gV tw_143 tw_144 tw_145 tw_47 tw_146) rfl rfl rfl hdMem_read ⟨Nat.le_of_ble_eq_true rfl, Nat.le_of_ble_eq_true rfl⟩) (mk_preVK hK (va_recv hK hP (ci := 1) (q0 := 1) rfl rfl)) rfl rfl hl.1 rfl (lv_room (Nat.le_of_ble_eq_true rfl)) dHart_longFrom_11 ⟨Nat.zero_le _, Nat.zero_le _⟩) ?_
  refine lv_bipush (v := 16) hx hb dHart_longFrom_14 (by decide) ?_
  refine lv_ishl hx hb dHart_longFrom_16 ?_
  refine lv_iload_n hx hb dHart_longFrom_17 rfl (lv_at hl 1 rfl) ?_
  refine lv_ior hx hb dHart_longFrom_18 ?_
  exact W.iret hx hb hr (fun t ht hW => ⟨⟨_, (), rfl, rfl, ht⟩, mk_F ht⟩) (fun q h => nomatch h) dHart_longFrom_19
set_option maxHeartbeats 4000000 in
set_option maxRecDepth 100000 in
theorem hc_RiscHart_linkAndJump (l : Launch) {D : va_G} {cR cW cP : ClassId} {h0 h1 h2 h3 h4 : Nat} {A : Nat → Prop} {st : HS} {G : Heap} (hP : va_P D hcl (hs_W cR cW cP h0 h1 h2 h3 h4 st) G) (hD : ∀ z, va_D A (hs_W cR cW cP h0 h1 h2 h3 h4 z)) (a1 : Int32) (a2 : Int32) (hq1 : vp_in a1 32) : Met l yHart_linkAndJump (wq yHart_linkAndJump cHart_linkAndJump 4 (some .int)) ({ frames := 1, cells := 0, slots := 0, locals := 22 }) (mk_PK D hcl [(cR, .int), (cW, .int), (cP, .int)] G [.ref h0, .int a1, .int a2]) (mk_Wi (fun u t => va_P D hcl (hs_W cR cW cP h0 h1 h2 h3 h4 u) t) A (hf_RiscHart_linkAndJump st a1 a2)) 0 0 A := by
  refine Met.ofW (cc := cHart_linkAndJump) (maxL := 4) (ret := (some .int)) (by decide) rfl ?_
  intro p e s m args below meth c s₁ B hml hv
  obtain ⟨rfl, hG, hK⟩ := hv
  subst hG
  have hx := B.exec
  have hb := B.bytes
  have hr := B.returns
  have hts := atoms_spec (ws := (wq yHart_linkAndJump cHart_linkAndJump 4 (some .int))) B.pre
  have hown : s.vm.findClass RHart = some m.cls := findClass_of_methodNamed B.named
  have hlocks := B.notSynchronized
  have hg : ∀ w ∈ lw_g, w.before _ s = true := fun w h => hts w (List.mem_cons_of_mem _ h)
  have hS : va_S A s.heap s.heap [] := va_S.rf
  have hl := lv_entry ([.ref h0, .int a1, .int a2]) (n := 4) (Nat.le_of_ble_eq_true rfl)
  rw [lg_entry_eq]
  generalize (lg_sl ([.ref h0, .int a1, .int a2]) ++ List.replicate (4 - (lg_sl ([.ref h0, .int a1, .int a2])).length) Slot.unset).toArray = ls at hl ⊢
  have hl : lv_has ls 4 [(0, .ref h0), (1, .int a1), (2, .int a2)] := hl
  refine lv_aload_n hx hb dHart_linkAndJump_0 rfl (lv_at hl 0 rfl) ?_
  refine va_get (D := D) (ci := 0) (v := .int (hs_behind st)) (C := RHart) (T := THart) (N := 8) hx hb hg inHart hown hK hP 0 rfl rfl 3 (by decide) (hg _ tw_86) (fun _ h9 => h9) rfl dHart_linkAndJump_1 ?_
  refine lv_istore_n (lv' := [(3, .int (hs_behind st)), (0, .ref h0), (1, .int a1), (2, .int a2)]) hx hb dHart_linkAndJump_4 rfl hl (by decide) rfl (fun ls hl => ?_)
  refine lv_aload_n hx hb dHart_linkAndJump_5 rfl (lv_at hl 1 rfl) ?_
  refine lv_iload_n hx hb dHart_linkAndJump_6 rfl (lv_at hl 3 rfl) ?_
  refine lv_bipush (v := (-2)) hx hb dHart_linkAndJump_7 (by decide) ?_
  refine lv_iand hx hb dHart_linkAndJump_9 ?_
  refine lv_topi (fun y_1 ey_1 => ?_)
  refine va_put (D := D) (ci := 0) (v := .int y_1) (ty := .int) (C := RHart) (T := THart) (N := 8) hx hb hg inHart tyHart tyHart_ok nmHart hown hK hP (hD _) hS 0 rfl rfl 3 (by decide) (hg _ tw_86) (fun _ h9 => h9) rfl (by decide +kernel) rfl rfl (Nat.le_of_ble_eq_true rfl) dHart_linkAndJump_10 (fun H locs hP _ hS => ?_)
  have hP : va_P D hcl (hs_W cR cW cP h0 h1 h2 h3 h4 (hs_set_behind st y_1)) H := hP
  subst ey_1
  refine lv_aload_n hx hb dHart_linkAndJump_13 rfl (lv_at hl 1 rfl) ?_
  refine lv_iload_n hx hb dHart_linkAndJump_14 rfl (lv_at hl 2 rfl) ?_
  refine lv_iload_n hx hb dHart_linkAndJump_15 rfl (lv_at hl 0 rfl) ?_
  refine mk_callW (va_runV (As := [.int a1, .int (hs_behind st)]) (rest := []) ⟨hx, hb, hml, hown, hts⟩ (hc_RiscHart_give l hP hD a1 (hs_behind st) hq1) (cwV 2 hts (mk_gV tw_170 tw_172 tw_4 tw_46 tw_173) rfl rfl rfl hdHart_give ⟨Nat.le_of_ble_eq_true rfl, Nat.le_of_ble_eq_true rfl⟩) (mk_preVK hK (va_recv hK hP (ci := 0) (q0 := 0) rfl rfl)) rfl rfl hl.1 rfl (lv_room (Nat.le_of_ble_eq_true rfl)) dHart_linkAndJump_16 ⟨Nat.zero_le _, Nat.zero_le _⟩) hS (fun H locs hP hS => ?_)
  exact W.iret hx hb hr (fun t ht hW => ⟨⟨_, (hf_RiscHart_give (hs_set_behind st (a2 &&& (-2))) a1 (hs_behind st)).2, rfl, rfl, by show va_P D hcl _ t.heap; rw [ht]; exact hP⟩, hS.F ht⟩) hS.2.2 dHart_linkAndJump_19
set_option maxHeartbeats 4000000 in
set_option maxRecDepth 100000 in
theorem hc_RiscHart_longJumpToRegister (l : Launch) {D : va_G} {cR cW cP : ClassId} {h0 h1 h2 h3 h4 : Nat} {A : Nat → Prop} {st : HS} {G : Heap} (hP : va_P D hcl (hs_W cR cW cP h0 h1 h2 h3 h4 st) G) (hD : ∀ z, va_D A (hs_W cR cW cP h0 h1 h2 h3 h4 z)) (a1 : Int32)  : Met l yHart_longJumpToRegister (wq yHart_longJumpToRegister cHart_longJumpToRegister 2 (some .int)) ({ frames := 2, cells := 0, slots := 0, locals := 45 }) (mk_PK D hcl [(cR, .int), (cW, .int), (cP, .int)] G [.ref h0, .int a1]) (mk_Wi (fun u t => va_P D hcl (hs_W cR cW cP h0 h1 h2 h3 h4 u) t) A (hf_RiscHart_longJumpToRegister st a1)) 0 0 A := by
  refine Met.ofW (cc := cHart_longJumpToRegister) (maxL := 2) (ret := (some .int)) (by decide) rfl ?_
  intro p e s m args below meth c s₁ B hml hv
  obtain ⟨rfl, hG, hK⟩ := hv
  subst hG
  have hx := B.exec
  have hb := B.bytes
  have hr := B.returns
  have hts := atoms_spec (ws := (wq yHart_longJumpToRegister cHart_longJumpToRegister 2 (some .int))) B.pre
  have hown : s.vm.findClass RHart = some m.cls := findClass_of_methodNamed B.named
  have hlocks := B.notSynchronized
  have hg : ∀ w ∈ lw_g, w.before _ s = true := fun w h => hts w (List.mem_cons_of_mem _ h)
  have hS : va_S A s.heap s.heap [] := va_S.rf
  have hl := lv_entry ([.ref h0, .int a1]) (n := 2) (Nat.le_of_ble_eq_true rfl)
  rw [lg_entry_eq]
  generalize (lg_sl ([.ref h0, .int a1]) ++ List.replicate (2 - (lg_sl ([.ref h0, .int a1])).length) Slot.unset).toArray = ls at hl ⊢
  have hl : lv_has ls 2 [(0, .ref h0), (1, .int a1)] := hl
  refine lv_iload_n hx hb dHart_longJumpToRegister_0 rfl (lv_at hl 1 rfl) ?_
  refine mk_callR (va_runS (As := [.int a1]) (rest := []) ⟨hx, hb, hml, hown, hts⟩ (hc_LongForm_f l _ a1) (va_cwS 1 hts (mk_gS tw_188 tw_189 tw_54 tw_190) rfl rfl rfl hdLF_f.2 ⟨Nat.le_of_ble_eq_true rfl, Nat.le_of_ble_eq_true rfl⟩) mk_preS rfl rfl hl.1 rfl (lv_room (Nat.le_of_ble_eq_true rfl)) dHart_longJumpToRegister_1 ⟨Nat.zero_le _, Nat.zero_le _⟩) ?_
  refine lv_if_eq (tgt := 14) hx hb dHart_longJumpToRegister_4 (by decide) (fun c_1 => ?_) (fun c_1 => ?_)
  · refine lv_aload_n hx hb dHart_longJumpToRegister_14 rfl (lv_at hl 0 rfl) ?_
    refine lv_iload_n hx hb dHart_longJumpToRegister_15 rfl (lv_at hl 1 rfl) ?_
    refine mk_callR (va_runS (As := [.int a1]) (rest := [.ref h0]) ⟨hx, hb, hml, hown, hts⟩ (hc_LongForm_d l _ a1) (va_cwS 1 hts (mk_gS tw_161 tw_162 tw_54 tw_163) rfl rfl rfl hdLF_d.2 ⟨Nat.le_of_ble_eq_true rfl, Nat.le_of_ble_eq_true rfl⟩) mk_preS rfl rfl hl.1 rfl (lv_room (Nat.le_of_ble_eq_true rfl)) dHart_longJumpToRegister_16 ⟨Nat.zero_le _, Nat.zero_le _⟩) ?_
    refine lv_aload_n hx hb dHart_longJumpToRegister_19 rfl (lv_at hl 0 rfl) ?_
    refine va_get (D := D) (ci := 0) (v := .ref h2) (C := RHart) (T := THart) (N := 8) hx hb hg inHart hown hK hP 0 rfl rfl 1 (by decide) (hg _ tw_84) (fun _ h9 => h9) rfl dHart_longJumpToRegister_20 ?_
    refine lv_iload_n hx hb dHart_longJumpToRegister_23 rfl (lv_at hl 1 rfl) ?_
    refine mk_callR (va_runS (As := [.int a1]) (rest := [.ref h2, .int (hf_LongForm_d a1), .ref h0]) ⟨hx, hb, hml, hown, hts⟩ (hc_LongForm_a l _ a1) (va_cwS 1 hts (mk_gS tw_191 tw_192 tw_54 tw_193) rfl rfl rfl hdLF_a.2 ⟨Nat.le_of_ble_eq_true rfl, Nat.le_of_ble_eq_true rfl⟩) mk_preS rfl rfl hl.1 rfl (lv_room (Nat.le_of_ble_eq_true rfl)) dHart_longJumpToRegister_24 ⟨Nat.zero_le _, Nat.zero_le _⟩) ?_
    refine va_iald (D := D) (f := hs_regs st) hx hb hK hP 2 0 rfl rfl (in_LongForm_a _) dHart_longJumpToRegister_27 ?_
    refine lv_iload_n hx hb dHart_longJumpToRegister_28 rfl (lv_at hl 1 rfl) ?_
    refine mk_callR (va_runS (As := [.int a1]) (rest := [.int (hs_regs st ((hf_LongForm_a a1)).toNatClampNeg), .int (hf_LongForm_d a1), .ref h0]) ⟨hx, hb, hml, hown, hts⟩ (hc_LongForm_numberI l _ a1) (va_cwS 1 hts (mk_gS tw_194 tw_195 tw_54 tw_196) rfl rfl rfl hdLF_numberI.2 ⟨Nat.le_of_ble_eq_true rfl, Nat.le_of_ble_eq_true rfl⟩) mk_preS rfl rfl hl.1 rfl (lv_room (Nat.le_of_ble_eq_true rfl)) dHart_longJumpToRegister_29 ⟨Nat.zero_le _, Nat.zero_le _⟩) ?_
    refine lv_iadd hx hb dHart_longJumpToRegister_32 ?_
    refine mk_callW (va_runV (As := [.int (hf_LongForm_d a1), .int ((hs_regs st ((hf_LongForm_a a1)).toNatClampNeg) + (hf_LongForm_numberI a1))]) (rest := []) ⟨hx, hb, hml, hown, hts⟩ (hc_RiscHart_linkAndJump l hP hD (hf_LongForm_d a1) ((hs_regs st ((hf_LongForm_a a1)).toNatClampNeg) + (hf_LongForm_numberI a1)) (in_LongForm_d _)) (cwV 2 hts (mk_gV tw_180 tw_182 tw_5 tw_46 tw_183) rfl rfl rfl hdHart_linkAndJump ⟨Nat.le_of_ble_eq_true rfl, Nat.le_of_ble_eq_true rfl⟩) (mk_preVK hK (va_recv hK hP (ci := 0) (q0 := 0) rfl rfl)) rfl rfl hl.1 rfl (lv_room (Nat.le_of_ble_eq_true rfl)) dHart_longJumpToRegister_33 ⟨Nat.zero_le _, Nat.zero_le _⟩) hS (fun H locs hP hS => ?_)
    exact W.iret hx hb hr (fun t ht hW => ⟨⟨_, (hf_RiscHart_linkAndJump st (hf_LongForm_d a1) ((hs_regs st ((hf_LongForm_a a1)).toNatClampNeg) + (hf_LongForm_numberI a1))).2, rfl, (by unfold hf_RiscHart_longJumpToRegister; rw [if_pos c_1]), by show va_P D hcl _ t.heap; rw [ht]; exact hP⟩, hS.F ht⟩) hS.2.2 dHart_longJumpToRegister_36
  · refine lv_aload_n hx hb dHart_longJumpToRegister_7 rfl (lv_at hl 0 rfl) ?_
    refine lv_iconst (v := 2) hx hb dHart_longJumpToRegister_8 (by decide) ?_
    refine lv_iload_n hx hb dHart_longJumpToRegister_9 rfl (lv_at hl 1 rfl) ?_
    refine mk_callW (va_runV (As := [.int 2, .int a1]) (rest := []) ⟨hx, hb, hml, hown, hts⟩ (hc_RiscHart_trap l hP hD 2 a1) (cwV 2 hts (mk_gV tw_139 tw_141 tw_1 tw_46 tw_142) rfl rfl rfl hdHart_trap ⟨Nat.le_of_ble_eq_true rfl, Nat.le_of_ble_eq_true rfl⟩) (mk_preVK hK (va_recv hK hP (ci := 0) (q0 := 0) rfl rfl)) rfl rfl hl.1 rfl (lv_room (Nat.le_of_ble_eq_true rfl)) dHart_longJumpToRegister_10 ⟨Nat.zero_le _, Nat.zero_le _⟩) hS (fun H locs hP hS => ?_)
    exact W.iret hx hb hr (fun t ht hW => ⟨⟨_, (hf_RiscHart_trap st 2 a1).2, rfl, (by unfold hf_RiscHart_longJumpToRegister; rw [if_neg c_1]), by show va_P D hcl _ t.heap; rw [ht]; exact hP⟩, hS.F ht⟩) hS.2.2 dHart_longJumpToRegister_13
set_option maxHeartbeats 4000000 in
set_option maxRecDepth 100000 in
theorem hc_RiscHart_jumpIf (l : Launch) {D : va_G} {cR cW cP : ClassId} {h0 h1 h2 h3 h4 : Nat} {A : Nat → Prop} {st : HS} {G : Heap} (hP : va_P D hcl (hs_W cR cW cP h0 h1 h2 h3 h4 st) G) (hD : ∀ z, va_D A (hs_W cR cW cP h0 h1 h2 h3 h4 z)) (a1 : Int32) (a2 : Int32)  : Met l yHart_jumpIf (wq yHart_jumpIf cHart_jumpIf 3 (some .int)) ({ frames := 2, cells := 0, slots := 0, locals := 45 }) (mk_PK D hcl [(cR, .int), (cW, .int), (cP, .int)] G [.ref h0, .int a1, .int a2]) (mk_Wi (fun u t => va_P D hcl (hs_W cR cW cP h0 h1 h2 h3 h4 u) t) A (hf_RiscHart_jumpIf st a1 a2)) 0 0 A := by
  refine Met.ofW (cc := cHart_jumpIf) (maxL := 3) (ret := (some .int)) (by decide) rfl ?_
  intro p e s m args below meth c s₁ B hml hv
  obtain ⟨rfl, hG, hK⟩ := hv
  subst hG
  have hx := B.exec
  have hb := B.bytes
  have hr := B.returns
  have hts := atoms_spec (ws := (wq yHart_jumpIf cHart_jumpIf 3 (some .int))) B.pre
  have hown : s.vm.findClass RHart = some m.cls := findClass_of_methodNamed B.named
  have hlocks := B.notSynchronized
  have hg : ∀ w ∈ lw_g, w.before _ s = true := fun w h => hts w (List.mem_cons_of_mem _ h)
  have hS : va_S A s.heap s.heap [] := va_S.rf
  have hl := lv_entry ([.ref h0, .int a1, .int a2]) (n := 3) (Nat.le_of_ble_eq_true rfl)
  rw [lg_entry_eq]
  generalize (lg_sl ([.ref h0, .int a1, .int a2]) ++ List.replicate (3 - (lg_sl ([.ref h0, .int a1, .int a2])).length) Slot.unset).toArray = ls at hl ⊢
  have hl : lv_has ls 3 [(0, .ref h0), (1, .int a1), (2, .int a2)] := hl
  refine lv_iload_n hx hb dHart_jumpIf_0 rfl (lv_at hl 1 rfl) ?_
  refine lv_if_eq (tgt := 13) hx hb dHart_jumpIf_1 (by decide) (fun c_1 => ?_) (fun c_1 => ?_)
  · refine lv_iconst (v := 0) hx hb dHart_jumpIf_13 (by decide) ?_
    exact W.iret hx hb hr (fun t ht hW => ⟨⟨_, st, rfl, (by unfold hf_RiscHart_jumpIf; rw [if_pos c_1]), by show va_P D hcl _ t.heap; rw [ht]; exact hP⟩, hS.F ht⟩) hS.2.2 dHart_jumpIf_14
  · refine lv_aload_n hx hb dHart_jumpIf_4 rfl (lv_at hl 0 rfl) ?_
    refine lv_iconst (v := 0) hx hb dHart_jumpIf_5 (by decide) ?_
    refine lv_iload_n hx hb dHart_jumpIf_6 rfl (lv_at hl 2 rfl) ?_
    refine mk_callW (va_runV (As := [.int 0, .int a2]) (rest := []) ⟨hx, hb, hml, hown, hts⟩ (hc_RiscHart_linkAndJump l hP hD 0 a2 (in_k (by decide))) (cwV 2 hts (mk_gV tw_180 tw_182 tw_5 tw_46 tw_183) rfl rfl rfl hdHart_linkAndJump ⟨Nat.le_of_ble_eq_true rfl, Nat.le_of_ble_eq_true rfl⟩) (mk_preVK hK (va_recv hK hP (ci := 0) (q0 := 0) rfl rfl)) rfl rfl hl.1 rfl (lv_room (Nat.le_of_ble_eq_true rfl)) dHart_jumpIf_7 ⟨Nat.zero_le _, Nat.zero_le _⟩) hS (fun H locs hP hS => ?_)
    refine lv_goto (tgt := 14) hx hb dHart_jumpIf_10 (by decide) ?_
    exact W.iret hx hb hr (fun t ht hW => ⟨⟨_, (hf_RiscHart_linkAndJump st 0 a2).2, rfl, (by unfold hf_RiscHart_jumpIf; rw [if_neg c_1]), by show va_P D hcl _ t.heap; rw [ht]; exact hP⟩, hS.F ht⟩) hS.2.2 dHart_jumpIf_14
set_option maxHeartbeats 4000000 in
set_option maxRecDepth 100000 in
theorem hc_RiscHart_longBranch (l : Launch) {D : va_G} {cR cW cP : ClassId} {h0 h1 h2 h3 h4 : Nat} {A : Nat → Prop} {st : HS} {G : Heap} (hP : va_P D hcl (hs_W cR cW cP h0 h1 h2 h3 h4 st) G) (hD : ∀ z, va_D A (hs_W cR cW cP h0 h1 h2 h3 h4 z)) (a1 : Int32)  : Met l yHart_longBranch (wq yHart_longBranch cHart_longBranch 5 (some .int)) ({ frames := 3, cells := 0, slots := 0, locals := 67 }) (mk_PK D hcl [(cR, .int), (cW, .int), (cP, .int)] G [.ref h0, .int a1]) (mk_Wi (fun u t => va_P D hcl (hs_W cR cW cP h0 h1 h2 h3 h4 u) t) A (hf_RiscHart_longBranch st a1)) 0 0 A := by
  refine Met.ofW (cc := cHart_longBranch) (maxL := 5) (ret := (some .int)) (by decide) rfl ?_
  intro p e s m args below meth c s₁ B hml hv
  obtain ⟨rfl, hG, hK⟩ := hv
  subst hG
  have hx := B.exec
  have hb := B.bytes
  have hr := B.returns
  have hts := atoms_spec (ws := (wq yHart_longBranch cHart_longBranch 5 (some .int))) B.pre
  have hown : s.vm.findClass RHart = some m.cls := findClass_of_methodNamed B.named
  have hlocks := B.notSynchronized
  have hg : ∀ w ∈ lw_g, w.before _ s = true := fun w h => hts w (List.mem_cons_of_mem _ h)
  have hS : va_S A s.heap s.heap [] := va_S.rf
  have hl := lv_entry ([.ref h0, .int a1]) (n := 5) (Nat.le_of_ble_eq_true rfl)
  rw [lg_entry_eq]
  generalize (lg_sl ([.ref h0, .int a1]) ++ List.replicate (5 - (lg_sl ([.ref h0, .int a1])).length) Slot.unset).toArray = ls at hl ⊢
  have hl : lv_has ls 5 [(0, .ref h0), (1, .int a1)] := hl
  refine lv_aload_n hx hb dHart_longBranch_0 rfl (lv_at hl 0 rfl) ?_
  refine va_get (D := D) (ci := 0) (v := .ref h2) (C := RHart) (T := THart) (N := 8) hx hb hg inHart hown hK hP 0 rfl rfl 1 (by decide) (hg _ tw_84) (fun _ h9 => h9) rfl dHart_longBranch_1 ?_
  refine lv_iload_n hx hb dHart_longBranch_4 rfl (lv_at hl 1 rfl) ?_
  refine mk_callR (va_runS (As := [.int a1]) (rest := [.ref h2]) ⟨hx, hb, hml, hown, hts⟩ (hc_LongForm_a l _ a1) (va_cwS 1 hts (mk_gS tw_191 tw_192 tw_54 tw_193) rfl rfl rfl hdLF_a.2 ⟨Nat.le_of_ble_eq_true rfl, Nat.le_of_ble_eq_true rfl⟩) mk_preS rfl rfl hl.1 rfl (lv_room (Nat.le_of_ble_eq_true rfl)) dHart_longBranch_5 ⟨Nat.zero_le _, Nat.zero_le _⟩) ?_
  refine va_iald (D := D) (f := hs_regs st) hx hb hK hP 2 0 rfl rfl (in_LongForm_a _) dHart_longBranch_8 ?_
  refine lv_istore_n (lv' := [(2, .int (hs_regs st ((hf_LongForm_a a1)).toNatClampNeg)), (0, .ref h0), (1, .int a1)]) hx hb dHart_longBranch_9 rfl hl (by decide) rfl (fun ls hl => ?_)
  refine lv_aload_n hx hb dHart_longBranch_10 rfl (lv_at hl 1 rfl) ?_
  refine va_get (D := D) (ci := 0) (v := .ref h2) (C := RHart) (T := THart) (N := 8) hx hb hg inHart hown hK hP 0 rfl rfl 1 (by decide) (hg _ tw_84) (fun _ h9 => h9) rfl dHart_longBranch_11 ?_
  refine lv_iload_n hx hb dHart_longBranch_14 rfl (lv_at hl 2 rfl) ?_
  refine mk_callR (va_runS (As := [.int a1]) (rest := [.ref h2]) ⟨hx, hb, hml, hown, hts⟩ (hc_LongForm_b l _ a1) (va_cwS 1 hts (mk_gS tw_201 tw_202 tw_54 tw_203) rfl rfl rfl hdLF_b.2 ⟨Nat.le_of_ble_eq_true rfl, Nat.le_of_ble_eq_true rfl⟩) mk_preS rfl rfl hl.1 rfl (lv_room (Nat.le_of_ble_eq_true rfl)) dHart_longBranch_15 ⟨Nat.zero_le _, Nat.zero_le _⟩) ?_
  refine va_iald (D := D) (f := hs_regs st) hx hb hK hP 2 0 rfl rfl (in_LongForm_b _) dHart_longBranch_18 ?_
  refine lv_istore_n (lv' := [(3, .int (hs_regs st ((hf_LongForm_b a1)).toNatClampNeg)), (2, .int (hs_regs st ((hf_LongForm_a a1)).toNatClampNeg)), (0, .ref h0), (1, .int a1)]) hx hb dHart_longBranch_19 rfl hl (by decide) rfl (fun ls hl => ?_)
  refine lv_aload_n hx hb dHart_longBranch_20 rfl (lv_at hl 2 rfl) ?_
  refine va_get (D := D) (ci := 0) (v := .int (hs_place st)) (C := RHart) (T := THart) (N := 8) hx hb hg inHart hown hK hP 0 rfl rfl 2 (by decide) (hg _ tw_85) (fun _ h9 => h9) rfl dHart_longBranch_21 ?_
  refine lv_iload_n hx hb dHart_longBranch_24 rfl (lv_at hl 3 rfl) ?_
  refine mk_callR (va_runS (As := [.int a1]) (rest := [.int (hs_place st)]) ⟨hx, hb, hml, hown, hts⟩ (hc_LongForm_offsetT l _ a1) (va_cwS 1 hts (mk_gS tw_204 tw_205 tw_54 tw_206) rfl rfl rfl hdLF_offsetT.2 ⟨Nat.le_of_ble_eq_true rfl, Nat.le_of_ble_eq_true rfl⟩) mk_preS rfl rfl hl.1 rfl (lv_room (Nat.le_of_ble_eq_true rfl)) dHart_longBranch_25 ⟨Nat.zero_le _, Nat.zero_le _⟩) ?_
  refine lv_iadd hx hb dHart_longBranch_28 ?_
  refine lv_istore (lv' := [(4, .int ((hs_place st) + (hf_LongForm_offsetT a1))), (3, .int (hs_regs st ((hf_LongForm_b a1)).toNatClampNeg)), (2, .int (hs_regs st ((hf_LongForm_a a1)).toNatClampNeg)), (0, .ref h0), (1, .int a1)]) hx hb dHart_longBranch_29 hl (by decide) rfl (fun ls hl => ?_)
  refine lv_iload_n hx hb dHart_longBranch_31 rfl (lv_at hl 4 rfl) ?_
  refine mk_callR (va_runS (As := [.int a1]) (rest := []) ⟨hx, hb, hml, hown, hts⟩ (hc_LongForm_f l _ a1) (va_cwS 1 hts (mk_gS tw_188 tw_189 tw_54 tw_190) rfl rfl rfl hdLF_f.2 ⟨Nat.le_of_ble_eq_true rfl, Nat.le_of_ble_eq_true rfl⟩) mk_preS rfl rfl hl.1 rfl (lv_room (Nat.le_of_ble_eq_true rfl)) dHart_longBranch_32 ⟨Nat.zero_le _, Nat.zero_le _⟩) ?_
  by_cases c_1 : (hf_LongForm_f a1) = 0
  · refine lv_tableIn (tgt := 80) hx hb dHart_longBranch_35 (by rw [c_1]; decide) (by rw [c_1]; decide) (by rw [c_1]; rfl) (by decide) ?_
    refine lv_aload_n hx hb dHart_longBranch_80 rfl (lv_at hl 3 rfl) ?_
    refine lv_iload_n hx hb dHart_longBranch_81 rfl (lv_at hl 2 rfl) ?_
    refine lv_iload_n hx hb dHart_longBranch_82 rfl (lv_at hl 1 rfl) ?_
    refine lv_icmp_ne (tgt := 90) hx hb dHart_longBranch_83 (by decide) (fun c_2 => ?_) (fun c_2 => ?_)
    · refine lv_iconst (v := 0) hx hb dHart_longBranch_90 (by decide) ?_
      refine lv_iload hx hb dHart_longBranch_91 (lv_at hl 0 rfl) ?_
      refine mk_callW (va_runV (As := [.int 0, .int ((hs_place st) + (hf_LongForm_offsetT a1))]) (rest := []) ⟨hx, hb, hml, hown, hts⟩ (hc_RiscHart_jumpIf l hP hD 0 ((hs_place st) + (hf_LongForm_offsetT a1))) (cwV 2 hts (mk_gV tw_207 tw_209 tw_8 tw_46 tw_210) rfl rfl rfl hdHart_jumpIf ⟨Nat.le_of_ble_eq_true rfl, Nat.le_of_ble_eq_true rfl⟩) (mk_preVK hK (va_recv hK hP (ci := 0) (q0 := 0) rfl rfl)) rfl rfl hl.1 rfl (lv_room (Nat.le_of_ble_eq_true rfl)) dHart_longBranch_93 ⟨Nat.zero_le _, Nat.zero_le _⟩) hS (fun H locs hP hS => ?_)
      exact W.iret hx hb hr (fun t ht hW => ⟨⟨_, (hf_RiscHart_jumpIf st 0 ((hs_place st) + (hf_LongForm_offsetT a1))).2, rfl, (by unfold hf_RiscHart_longBranch; rw [if_pos c_1, if_neg c_2]), by show va_P D hcl _ t.heap; rw [ht]; exact hP⟩, hS.F ht⟩) hS.2.2 dHart_longBranch_96
    · refine lv_iconst (v := 1) hx hb dHart_longBranch_86 (by decide) ?_
      refine lv_goto (tgt := 91) hx hb dHart_longBranch_87 (by decide) ?_
      refine lv_iload hx hb dHart_longBranch_91 (lv_at hl 0 rfl) ?_
      refine mk_callW (va_runV (As := [.int 1, .int ((hs_place st) + (hf_LongForm_offsetT a1))]) (rest := []) ⟨hx, hb, hml, hown, hts⟩ (hc_RiscHart_jumpIf l hP hD 1 ((hs_place st) + (hf_LongForm_offsetT a1))) (cwV 2 hts (mk_gV tw_207 tw_209 tw_8 tw_46 tw_210) rfl rfl rfl hdHart_jumpIf ⟨Nat.le_of_ble_eq_true rfl, Nat.le_of_ble_eq_true rfl⟩) (mk_preVK hK (va_recv hK hP (ci := 0) (q0 := 0) rfl rfl)) rfl rfl hl.1 rfl (lv_room (Nat.le_of_ble_eq_true rfl)) dHart_longBranch_93 ⟨Nat.zero_le _, Nat.zero_le _⟩) hS (fun H locs hP hS => ?_)
      exact W.iret hx hb hr (fun t ht hW => ⟨⟨_, (hf_RiscHart_jumpIf st 1 ((hs_place st) + (hf_LongForm_offsetT a1))).2, rfl, (by unfold hf_RiscHart_longBranch; rw [if_pos c_1, if_pos c_2]), by show va_P D hcl _ t.heap; rw [ht]; exact hP⟩, hS.F ht⟩) hS.2.2 dHart_longBranch_96
  by_cases c_3 : (hf_LongForm_f a1) = 1
  · refine lv_tableIn (tgt := 97) hx hb dHart_longBranch_35 (by rw [c_3]; decide) (by rw [c_3]; decide) (by rw [c_3]; rfl) (by decide) ?_
    refine lv_aload_n hx hb dHart_longBranch_97 rfl (lv_at hl 3 rfl) ?_
    refine lv_iload_n hx hb dHart_longBranch_98 rfl (lv_at hl 2 rfl) ?_
    refine lv_iload_n hx hb dHart_longBranch_99 rfl (lv_at hl 1 rfl) ?_
    refine lv_icmp_eq (tgt := 107) hx hb dHart_longBranch_100 (by decide) (fun c_4 => ?_) (fun c_4 => ?_)
    · refine lv_iconst (v := 0) hx hb dHart_longBranch_107 (by decide) ?_
      refine lv_iload hx hb dHart_longBranch_108 (lv_at hl 0 rfl) ?_
      refine mk_callW (va_runV (As := [.int 0, .int ((hs_place st) + (hf_LongForm_offsetT a1))]) (rest := []) ⟨hx, hb, hml, hown, hts⟩ (hc_RiscHart_jumpIf l hP hD 0 ((hs_place st) + (hf_LongForm_offsetT a1))) (cwV 2 hts (mk_gV tw_207 tw_209 tw_8 tw_46 tw_210) rfl rfl rfl hdHart_jumpIf ⟨Nat.le_of_ble_eq_true rfl, Nat.le_of_ble_eq_true rfl⟩) (mk_preVK hK (va_recv hK hP (ci := 0) (q0 := 0) rfl rfl)) rfl rfl hl.1 rfl (lv_room (Nat.le_of_ble_eq_true rfl)) dHart_longBranch_110 ⟨Nat.zero_le _, Nat.zero_le _⟩) hS (fun H locs hP hS => ?_)
      exact W.iret hx hb hr (fun t ht hW => ⟨⟨_, (hf_RiscHart_jumpIf st 0 ((hs_place st) + (hf_LongForm_offsetT a1))).2, rfl, (by unfold hf_RiscHart_longBranch; rw [if_neg c_1, if_pos c_3, if_pos c_4]), by show va_P D hcl _ t.heap; rw [ht]; exact hP⟩, hS.F ht⟩) hS.2.2 dHart_longBranch_113
    · refine lv_iconst (v := 1) hx hb dHart_longBranch_103 (by decide) ?_
      refine lv_goto (tgt := 108) hx hb dHart_longBranch_104 (by decide) ?_
      refine lv_iload hx hb dHart_longBranch_108 (lv_at hl 0 rfl) ?_
      refine mk_callW (va_runV (As := [.int 1, .int ((hs_place st) + (hf_LongForm_offsetT a1))]) (rest := []) ⟨hx, hb, hml, hown, hts⟩ (hc_RiscHart_jumpIf l hP hD 1 ((hs_place st) + (hf_LongForm_offsetT a1))) (cwV 2 hts (mk_gV tw_207 tw_209 tw_8 tw_46 tw_210) rfl rfl rfl hdHart_jumpIf ⟨Nat.le_of_ble_eq_true rfl, Nat.le_of_ble_eq_true rfl⟩) (mk_preVK hK (va_recv hK hP (ci := 0) (q0 := 0) rfl rfl)) rfl rfl hl.1 rfl (lv_room (Nat.le_of_ble_eq_true rfl)) dHart_longBranch_110 ⟨Nat.zero_le _, Nat.zero_le _⟩) hS (fun H locs hP hS => ?_)
      exact W.iret hx hb hr (fun t ht hW => ⟨⟨_, (hf_RiscHart_jumpIf st 1 ((hs_place st) + (hf_LongForm_offsetT a1))).2, rfl, (by unfold hf_RiscHart_longBranch; rw [if_neg c_1, if_pos c_3, if_neg c_4]), by show va_P D hcl _ t.heap; rw [ht]; exact hP⟩, hS.F ht⟩) hS.2.2 dHart_longBranch_113
  by_cases c_5 : (hf_LongForm_f a1) = 4
  · refine lv_tableIn (tgt := 114) hx hb dHart_longBranch_35 (by rw [c_5]; decide) (by rw [c_5]; decide) (by rw [c_5]; rfl) (by decide) ?_
    refine lv_aload_n hx hb dHart_longBranch_114 rfl (lv_at hl 3 rfl) ?_
    refine lv_iload_n hx hb dHart_longBranch_115 rfl (lv_at hl 2 rfl) ?_
    refine lv_iload_n hx hb dHart_longBranch_116 rfl (lv_at hl 1 rfl) ?_
    refine lv_icmp_ge (tgt := 124) hx hb dHart_longBranch_117 (by decide) (fun c_6 => ?_) (fun c_6 => ?_)
    · refine lv_iconst (v := 0) hx hb dHart_longBranch_124 (by decide) ?_
      refine lv_iload hx hb dHart_longBranch_125 (lv_at hl 0 rfl) ?_
      refine mk_callW (va_runV (As := [.int 0, .int ((hs_place st) + (hf_LongForm_offsetT a1))]) (rest := []) ⟨hx, hb, hml, hown, hts⟩ (hc_RiscHart_jumpIf l hP hD 0 ((hs_place st) + (hf_LongForm_offsetT a1))) (cwV 2 hts (mk_gV tw_207 tw_209 tw_8 tw_46 tw_210) rfl rfl rfl hdHart_jumpIf ⟨Nat.le_of_ble_eq_true rfl, Nat.le_of_ble_eq_true rfl⟩) (mk_preVK hK (va_recv hK hP (ci := 0) (q0 := 0) rfl rfl)) rfl rfl hl.1 rfl (lv_room (Nat.le_of_ble_eq_true rfl)) dHart_longBranch_127 ⟨Nat.zero_le _, Nat.zero_le _⟩) hS (fun H locs hP hS => ?_)
      exact W.iret hx hb hr (fun t ht hW => ⟨⟨_, (hf_RiscHart_jumpIf st 0 ((hs_place st) + (hf_LongForm_offsetT a1))).2, rfl, (by unfold hf_RiscHart_longBranch; rw [if_neg c_1, if_neg c_3, if_pos c_5, if_pos c_6]), by show va_P D hcl _ t.heap; rw [ht]; exact hP⟩, hS.F ht⟩) hS.2.2 dHart_longBranch_130
    · refine lv_iconst (v := 1) hx hb dHart_longBranch_120 (by decide) ?_
      refine lv_goto (tgt := 125) hx hb dHart_longBranch_121 (by decide) ?_
      refine lv_iload hx hb dHart_longBranch_125 (lv_at hl 0 rfl) ?_
      refine mk_callW (va_runV (As := [.int 1, .int ((hs_place st) + (hf_LongForm_offsetT a1))]) (rest := []) ⟨hx, hb, hml, hown, hts⟩ (hc_RiscHart_jumpIf l hP hD 1 ((hs_place st) + (hf_LongForm_offsetT a1))) (cwV 2 hts (mk_gV tw_207 tw_209 tw_8 tw_46 tw_210) rfl rfl rfl hdHart_jumpIf ⟨Nat.le_of_ble_eq_true rfl, Nat.le_of_ble_eq_true rfl⟩) (mk_preVK hK (va_recv hK hP (ci := 0) (q0 := 0) rfl rfl)) rfl rfl hl.1 rfl (lv_room (Nat.le_of_ble_eq_true rfl)) dHart_longBranch_127 ⟨Nat.zero_le _, Nat.zero_le _⟩) hS (fun H locs hP hS => ?_)
      exact W.iret hx hb hr (fun t ht hW => ⟨⟨_, (hf_RiscHart_jumpIf st 1 ((hs_place st) + (hf_LongForm_offsetT a1))).2, rfl, (by unfold hf_RiscHart_longBranch; rw [if_neg c_1, if_neg c_3, if_pos c_5, if_neg c_6]), by show va_P D hcl _ t.heap; rw [ht]; exact hP⟩, hS.F ht⟩) hS.2.2 dHart_longBranch_130
  by_cases c_7 : (hf_LongForm_f a1) = 5
  · refine lv_tableIn (tgt := 131) hx hb dHart_longBranch_35 (by rw [c_7]; decide) (by rw [c_7]; decide) (by rw [c_7]; rfl) (by decide) ?_
    refine lv_aload_n hx hb dHart_longBranch_131 rfl (lv_at hl 3 rfl) ?_
    refine lv_iload_n hx hb dHart_longBranch_132 rfl (lv_at hl 2 rfl) ?_
    refine lv_iload_n hx hb dHart_longBranch_133 rfl (lv_at hl 1 rfl) ?_
    refine lv_icmp_lt (tgt := 141) hx hb dHart_longBranch_134 (by decide) (fun c_8 => ?_) (fun c_8 => ?_)
    · refine lv_iconst (v := 0) hx hb dHart_longBranch_141 (by decide) ?_
      refine lv_iload hx hb dHart_longBranch_142 (lv_at hl 0 rfl) ?_
      refine mk_callW (va_runV (As := [.int 0, .int ((hs_place st) + (hf_LongForm_offsetT a1))]) (rest := []) ⟨hx, hb, hml, hown, hts⟩ (hc_RiscHart_jumpIf l hP hD 0 ((hs_place st) + (hf_LongForm_offsetT a1))) (cwV 2 hts (mk_gV tw_207 tw_209 tw_8 tw_46 tw_210) rfl rfl rfl hdHart_jumpIf ⟨Nat.le_of_ble_eq_true rfl, Nat.le_of_ble_eq_true rfl⟩) (mk_preVK hK (va_recv hK hP (ci := 0) (q0 := 0) rfl rfl)) rfl rfl hl.1 rfl (lv_room (Nat.le_of_ble_eq_true rfl)) dHart_longBranch_144 ⟨Nat.zero_le _, Nat.zero_le _⟩) hS (fun H locs hP hS => ?_)
      exact W.iret hx hb hr (fun t ht hW => ⟨⟨_, (hf_RiscHart_jumpIf st 0 ((hs_place st) + (hf_LongForm_offsetT a1))).2, rfl, (by unfold hf_RiscHart_longBranch; rw [if_neg c_1, if_neg c_3, if_neg c_5, if_pos c_7, if_pos c_8]), by show va_P D hcl _ t.heap; rw [ht]; exact hP⟩, hS.F ht⟩) hS.2.2 dHart_longBranch_147
    · refine lv_iconst (v := 1) hx hb dHart_longBranch_137 (by decide) ?_
      refine lv_goto (tgt := 142) hx hb dHart_longBranch_138 (by decide) ?_
      refine lv_iload hx hb dHart_longBranch_142 (lv_at hl 0 rfl) ?_
      refine mk_callW (va_runV (As := [.int 1, .int ((hs_place st) + (hf_LongForm_offsetT a1))]) (rest := []) ⟨hx, hb, hml, hown, hts⟩ (hc_RiscHart_jumpIf l hP hD 1 ((hs_place st) + (hf_LongForm_offsetT a1))) (cwV 2 hts (mk_gV tw_207 tw_209 tw_8 tw_46 tw_210) rfl rfl rfl hdHart_jumpIf ⟨Nat.le_of_ble_eq_true rfl, Nat.le_of_ble_eq_true rfl⟩) (mk_preVK hK (va_recv hK hP (ci := 0) (q0 := 0) rfl rfl)) rfl rfl hl.1 rfl (lv_room (Nat.le_of_ble_eq_true rfl)) dHart_longBranch_144 ⟨Nat.zero_le _, Nat.zero_le _⟩) hS (fun H locs hP hS => ?_)
      exact W.iret hx hb hr (fun t ht hW => ⟨⟨_, (hf_RiscHart_jumpIf st 1 ((hs_place st) + (hf_LongForm_offsetT a1))).2, rfl, (by unfold hf_RiscHart_longBranch; rw [if_neg c_1, if_neg c_3, if_neg c_5, if_pos c_7, if_neg c_8]), by show va_P D hcl _ t.heap; rw [ht]; exact hP⟩, hS.F ht⟩) hS.2.2 dHart_longBranch_147
  by_cases c_9 : (hf_LongForm_f a1) = 6
  · refine lv_tableIn (tgt := 148) hx hb dHart_longBranch_35 (by rw [c_9]; decide) (by rw [c_9]; decide) (by rw [c_9]; rfl) (by decide) ?_
    refine lv_aload_n hx hb dHart_longBranch_148 rfl (lv_at hl 3 rfl) ?_
    refine lv_iload_n hx hb dHart_longBranch_149 rfl (lv_at hl 2 rfl) ?_
    refine lv_iload_n hx hb dHart_longBranch_150 rfl (lv_at hl 1 rfl) ?_
    refine mk_callR (va_runS (As := [.int (hs_regs st ((hf_LongForm_a a1)).toNatClampNeg), .int (hs_regs st ((hf_LongForm_b a1)).toNatClampNeg)]) (rest := [.ref h0]) ⟨hx, hb, hml, hown, hts⟩ (hc_Arithmetic_isBelow l _ (hs_regs st ((hf_LongForm_a a1)).toNatClampNeg) (hs_regs st ((hf_LongForm_b a1)).toNatClampNeg)) (va_cwS 2 hts (mk_gS tw_211 tw_212 tw_56 tw_213) rfl rfl rfl hdAr_isBelow.2 ⟨Nat.le_of_ble_eq_true rfl, Nat.le_of_ble_eq_true rfl⟩) mk_preS rfl rfl hl.1 rfl (lv_room (Nat.le_of_ble_eq_true rfl)) dHart_longBranch_151 ⟨Nat.zero_le _, Nat.zero_le _⟩) ?_
    refine lv_iload hx hb dHart_longBranch_154 (lv_at hl 0 rfl) ?_
    refine mk_callW (va_runV (As := [.int (hf_Arithmetic_isBelow (hs_regs st ((hf_LongForm_a a1)).toNatClampNeg) (hs_regs st ((hf_LongForm_b a1)).toNatClampNeg)), .int ((hs_place st) + (hf_LongForm_offsetT a1))]) (rest := []) ⟨hx, hb, hml, hown, hts⟩ (hc_RiscHart_jumpIf l hP hD (hf_Arithmetic_isBelow (hs_regs st ((hf_LongForm_a a1)).toNatClampNeg) (hs_regs st ((hf_LongForm_b a1)).toNatClampNeg)) ((hs_place st) + (hf_LongForm_offsetT a1))) (cwV 2 hts (mk_gV tw_207 tw_209 tw_8 tw_46 tw_210) rfl rfl rfl hdHart_jumpIf ⟨Nat.le_of_ble_eq_true rfl, Nat.le_of_ble_eq_true rfl⟩) (mk_preVK hK (va_recv hK hP (ci := 0) (q0 := 0) rfl rfl)) rfl rfl hl.1 rfl (lv_room (Nat.le_of_ble_eq_true rfl)) dHart_longBranch_156 ⟨Nat.zero_le _, Nat.zero_le _⟩) hS (fun H locs hP hS => ?_)
    exact W.iret hx hb hr (fun t ht hW => ⟨⟨_, (hf_RiscHart_jumpIf st (hf_Arithmetic_isBelow (hs_regs st ((hf_LongForm_a a1)).toNatClampNeg) (hs_regs st ((hf_LongForm_b a1)).toNatClampNeg)) ((hs_place st) + (hf_LongForm_offsetT a1))).2, rfl, (by unfold hf_RiscHart_longBranch; rw [if_neg c_1, if_neg c_3, if_neg c_5, if_neg c_7, if_pos c_9]), by show va_P D hcl _ t.heap; rw [ht]; exact hP⟩, hS.F ht⟩) hS.2.2 dHart_longBranch_159
  by_cases c_10 : (hf_LongForm_f a1) = 7
  · refine lv_tableIn (tgt := 160) hx hb dHart_longBranch_35 (by rw [c_10]; decide) (by rw [c_10]; decide) (by rw [c_10]; rfl) (by decide) ?_
    refine lv_aload_n hx hb dHart_longBranch_160 rfl (lv_at hl 3 rfl) ?_
    refine lv_iload_n hx hb dHart_longBranch_161 rfl (lv_at hl 2 rfl) ?_
    refine lv_iload_n hx hb dHart_longBranch_162 rfl (lv_at hl 1 rfl) ?_
    refine mk_callR (va_runS (As := [.int (hs_regs st ((hf_LongForm_a a1)).toNatClampNeg), .int (hs_regs st ((hf_LongForm_b a1)).toNatClampNeg)]) (rest := [.ref h0]) ⟨hx, hb, hml, hown, hts⟩ (hc_Arithmetic_isBelow l _ (hs_regs st ((hf_LongForm_a a1)).toNatClampNeg) (hs_regs st ((hf_LongForm_b a1)).toNatClampNeg)) (va_cwS 2 hts (mk_gS tw_211 tw_212 tw_56 tw_213) rfl rfl rfl hdAr_isBelow.2 ⟨Nat.le_of_ble_eq_true rfl, Nat.le_of_ble_eq_true rfl⟩) mk_preS rfl rfl hl.1 rfl (lv_room (Nat.le_of_ble_eq_true rfl)) dHart_longBranch_163 ⟨Nat.zero_le _, Nat.zero_le _⟩) ?_
    refine lv_if_ne (tgt := 173) hx hb dHart_longBranch_166 (by decide) (fun c_11 => ?_) (fun c_11 => ?_)
    · refine lv_iconst (v := 0) hx hb dHart_longBranch_173 (by decide) ?_
      refine lv_iload hx hb dHart_longBranch_174 (lv_at hl 0 rfl) ?_
      refine mk_callW (va_runV (As := [.int 0, .int ((hs_place st) + (hf_LongForm_offsetT a1))]) (rest := []) ⟨hx, hb, hml, hown, hts⟩ (hc_RiscHart_jumpIf l hP hD 0 ((hs_place st) + (hf_LongForm_offsetT a1))) (cwV 2 hts (mk_gV tw_207 tw_209 tw_8 tw_46 tw_210) rfl rfl rfl hdHart_jumpIf ⟨Nat.le_of_ble_eq_true rfl, Nat.le_of_ble_eq_true rfl⟩) (mk_preVK hK (va_recv hK hP (ci := 0) (q0 := 0) rfl rfl)) rfl rfl hl.1 rfl (lv_room (Nat.le_of_ble_eq_true rfl)) dHart_longBranch_176 ⟨Nat.zero_le _, Nat.zero_le _⟩) hS (fun H locs hP hS => ?_)
      exact W.iret hx hb hr (fun t ht hW => ⟨⟨_, (hf_RiscHart_jumpIf st 0 ((hs_place st) + (hf_LongForm_offsetT a1))).2, rfl, (by unfold hf_RiscHart_longBranch; rw [if_neg c_1, if_neg c_3, if_neg c_5, if_neg c_7, if_neg c_9, if_pos c_10, if_neg c_11]), by show va_P D hcl _ t.heap; rw [ht]; exact hP⟩, hS.F ht⟩) hS.2.2 dHart_longBranch_179
    · refine lv_iconst (v := 1) hx hb dHart_longBranch_169 (by decide) ?_
      refine lv_goto (tgt := 174) hx hb dHart_longBranch_170 (by decide) ?_
      refine lv_iload hx hb dHart_longBranch_174 (lv_at hl 0 rfl) ?_
      refine mk_callW (va_runV (As := [.int 1, .int ((hs_place st) + (hf_LongForm_offsetT a1))]) (rest := []) ⟨hx, hb, hml, hown, hts⟩ (hc_RiscHart_jumpIf l hP hD 1 ((hs_place st) + (hf_LongForm_offsetT a1))) (cwV 2 hts (mk_gV tw_207 tw_209 tw_8 tw_46 tw_210) rfl rfl rfl hdHart_jumpIf ⟨Nat.le_of_ble_eq_true rfl, Nat.le_of_ble_eq_true rfl⟩) (mk_preVK hK (va_recv hK hP (ci := 0) (q0 := 0) rfl rfl)) rfl rfl hl.1 rfl (lv_room (Nat.le_of_ble_eq_true rfl)) dHart_longBranch_176 ⟨Nat.zero_le _, Nat.zero_le _⟩) hS (fun H locs hP hS => ?_)
      exact W.iret hx hb hr (fun t ht hW => ⟨⟨_, (hf_RiscHart_jumpIf st 1 ((hs_place st) + (hf_LongForm_offsetT a1))).2, rfl, (by unfold hf_RiscHart_longBranch; rw [if_neg c_1, if_neg c_3, if_neg c_5, if_neg c_7, if_neg c_9, if_pos c_10, if_pos c_11]), by show va_P D hcl _ t.heap; rw [ht]; exact hP⟩, hS.F ht⟩) hS.2.2 dHart_longBranch_179
  refine mk_table (tgt := 180) hx hb dHart_longBranch_35 (mk_gap (N := 8) [0, 1, 4, 5, 6, 7] (by decide) (by decide) (by have q_1 := lv_neT (a := 0) c_1 rfl; have q_3 := lv_neT (a := 1) c_3 rfl; have q_5 := lv_neT (a := 4) c_5 rfl; have q_7 := lv_neT (a := 5) c_7 rfl; have q_9 := lv_neT (a := 6) c_9 rfl; have q_10 := lv_neT (a := 7) c_10 rfl; intro n hn; simp only [List.mem_cons, List.not_mem_nil, or_false, not_or]; omega)) (by decide) ?_
  refine lv_aload_n hx hb dHart_longBranch_180 rfl (lv_at hl 3 rfl) ?_
  refine lv_iconst (v := 2) hx hb dHart_longBranch_181 (by decide) ?_
  refine lv_iload_n hx hb dHart_longBranch_182 rfl (lv_at hl 4 rfl) ?_
  refine mk_callW (va_runV (As := [.int 2, .int a1]) (rest := []) ⟨hx, hb, hml, hown, hts⟩ (hc_RiscHart_trap l hP hD 2 a1) (cwV 2 hts (mk_gV tw_139 tw_141 tw_1 tw_46 tw_142) rfl rfl rfl hdHart_trap ⟨Nat.le_of_ble_eq_true rfl, Nat.le_of_ble_eq_true rfl⟩) (mk_preVK hK (va_recv hK hP (ci := 0) (q0 := 0) rfl rfl)) rfl rfl hl.1 rfl (lv_room (Nat.le_of_ble_eq_true rfl)) dHart_longBranch_183 ⟨Nat.zero_le _, Nat.zero_le _⟩) hS (fun H locs hP hS => ?_)
  exact W.iret hx hb hr (fun t ht hW => ⟨⟨_, (hf_RiscHart_trap st 2 a1).2, rfl, (by unfold hf_RiscHart_longBranch; rw [if_neg c_1, if_neg c_3, if_neg c_5, if_neg c_7, if_neg c_9, if_neg c_10]), by show va_P D hcl _ t.heap; rw [ht]; exact hP⟩, hS.F ht⟩) hS.2.2 dHart_longBranch_186
set_option maxHeartbeats 4000000 in
set_option maxRecDepth 100000 in
theorem hc_RiscHart_load (l : Launch) {D : va_G} {cR cW cP : ClassId} {h0 h1 h2 h3 h4 : Nat} {A : Nat → Prop} {st : HS} {G : Heap} (hP : va_P D hcl (hs_W cR cW cP h0 h1 h2 h3 h4 st) G) (hD : ∀ z, va_D A (hs_W cR cW cP h0 h1 h2 h3 h4 z)) (a1 : Int32) (a2 : Int32) (a3 : Int32) (hq1 : vp_in a2 32) : Met l yHart_load (wq yHart_load cHart_load 4 (some .int)) ({ frames := 2, cells := 0, slots := 0, locals := 44 }) (mk_PK D hcl [(cR, .int), (cW, .int), (cP, .int)] G [.ref h0, .int a1, .int a2, .int a3]) (mk_Wi (fun u t => va_P D hcl (hs_W cR cW cP h0 h1 h2 h3 h4 u) t) A (hf_RiscHart_load st a1 a2 a3)) 0 0 A := by
  refine Met.ofW (cc := cHart_load) (maxL := 4) (ret := (some .int)) (by decide) rfl ?_
  intro p e s m args below meth c s₁ B hml hv
  obtain ⟨rfl, hG, hK⟩ := hv
  subst hG
  have hx := B.exec
  have hb := B.bytes
  have hr := B.returns
  have hts := atoms_spec (ws := (wq yHart_load cHart_load 4 (some .int))) B.pre
  have hown : s.vm.findClass RHart = some m.cls := findClass_of_methodNamed B.named
  have hlocks := B.notSynchronized
  have hg : ∀ w ∈ lw_g, w.before _ s = true := fun w h => hts w (List.mem_cons_of_mem _ h)
  have hS : va_S A s.heap s.heap [] := va_S.rf
  have hl := lv_entry ([.ref h0, .int a1, .int a2, .int a3]) (n := 4) (Nat.le_of_ble_eq_true rfl)
  rw [lg_entry_eq]
  generalize (lg_sl ([.ref h0, .int a1, .int a2, .int a3]) ++ List.replicate (4 - (lg_sl ([.ref h0, .int a1, .int a2, .int a3])).length) Slot.unset).toArray = ls at hl ⊢
  have hl : lv_has ls 4 [(0, .ref h0), (1, .int a1), (2, .int a2), (3, .int a3)] := hl
  refine lv_iload_n hx hb dHart_load_0 rfl (lv_at hl 1 rfl) ?_
  refine lv_iload_n hx hb dHart_load_1 rfl (lv_at hl 3 rfl) ?_
  refine mk_callR (va_runS (As := [.int a1, .int a3]) (rest := []) ⟨hx, hb, hml, hown, hts⟩ (hc_Memory_isMisaligned l _ a1 a3) (va_cwS 2 hts (mk_gS tw_223 tw_129 tw_47 tw_130) rfl rfl rfl hdMem_isMisaligned.2 ⟨Nat.le_of_ble_eq_true rfl, Nat.le_of_ble_eq_true rfl⟩) mk_preS rfl rfl hl.1 rfl (lv_room (Nat.le_of_ble_eq_true rfl)) dHart_load_2 ⟨Nat.zero_le _, Nat.zero_le _⟩) ?_
  refine lv_if_eq (tgt := 15) hx hb dHart_load_5 (by decide) (fun c_1 => ?_) (fun c_1 => ?_)
  · refine lv_aload_n hx hb dHart_load_15 rfl (lv_at hl 0 rfl) ?_
    refine va_get (D := D) (ci := 0) (v := .ref h1) (C := RHart) (T := THart) (N := 8) hx hb hg inHart hown hK hP 0 rfl rfl 0 (by decide) (hg _ tw_83) (fun _ h9 => h9) rfl dHart_load_16 ?_
    refine lv_iconst (v := 1) hx hb dHart_load_19 (by decide) ?_
    refine lv_iload_n hx hb dHart_load_20 rfl (lv_at hl 3 rfl) ?_
    refine mk_callR (va_runV (As := [.int 1, .int a3]) (rest := []) ⟨hx, hb, hml, hown, hts⟩ (hc_Memory_allows l hP 1 a3) (cwV 2 hts (mk_gV tw_224 tw_132 tw_133 tw_47 tw_134) rfl rfl rfl hdMem_allows ⟨Nat.le_of_ble_eq_true rfl, Nat.le_of_ble_eq_true rfl⟩) (mk_preVK hK (va_recv hK hP (ci := 1) (q0 := 1) rfl rfl)) rfl rfl hl.1 rfl (lv_room (Nat.le_of_ble_eq_true rfl)) dHart_load_21 ⟨Nat.zero_le _, Nat.zero_le _⟩) ?_
    refine lv_if_ne (tgt := 35) hx hb dHart_load_24 (by decide) (fun c_2 => ?_) (fun c_2 => ?_)
    · refine lv_aload_n hx hb dHart_load_35 rfl (lv_at hl 0 rfl) ?_
      refine lv_iload_n hx hb dHart_load_36 rfl (lv_at hl 2 rfl) ?_
      refine lv_aload_n hx hb dHart_load_37 rfl (lv_at hl 0 rfl) ?_
      refine va_get (D := D) (ci := 0) (v := .ref h1) (C := RHart) (T := THart) (N := 8) hx hb hg inHart hown hK hP 0 rfl rfl 0 (by decide) (hg _ tw_83) (fun _ h9 => h9) rfl dHart_load_38 ?_
      refine lv_iload_n hx hb dHart_load_41 rfl (lv_at hl 1 rfl) ?_
      refine lv_iload_n hx hb dHart_load_42 rfl (lv_at hl 3 rfl) ?_
      refine mk_callR (va_runV (As := [.int a1, .int a3]) (rest := [.int a2, .ref h0]) ⟨hx, hb, hml, hown, hts⟩ (hc_Memory_read l hP a1 a3) (cwV 2 hts (mk_gV tw_143 tw_144 tw_145 tw_47 tw_146) rfl rfl rfl hdMem_read ⟨Nat.le_of_ble_eq_true rfl, Nat.le_of_ble_eq_true rfl⟩) (mk_preVK hK (va_recv hK hP (ci := 1) (q0 := 1) rfl rfl)) rfl rfl hl.1 rfl (lv_room (Nat.le_of_ble_eq_true rfl)) dHart_load_43 ⟨Nat.zero_le _, Nat.zero_le _⟩) ?_
      refine mk_callW (va_runV (As := [.int a2, .int (hf_Memory_read st a1 a3)]) (rest := []) ⟨hx, hb, hml, hown, hts⟩ (hc_RiscHart_give l hP hD a2 (hf_Memory_read st a1 a3) hq1) (cwV 2 hts (mk_gV tw_170 tw_172 tw_4 tw_46 tw_173) rfl rfl rfl hdHart_give ⟨Nat.le_of_ble_eq_true rfl, Nat.le_of_ble_eq_true rfl⟩) (mk_preVK hK (va_recv hK hP (ci := 0) (q0 := 0) rfl rfl)) rfl rfl hl.1 rfl (lv_room (Nat.le_of_ble_eq_true rfl)) dHart_load_46 ⟨Nat.zero_le _, Nat.zero_le _⟩) hS (fun H locs hP hS => ?_)
      exact W.iret hx hb hr (fun t ht hW => ⟨⟨_, (hf_RiscHart_give st a2 (hf_Memory_read st a1 a3)).2, rfl, (by unfold hf_RiscHart_load; rw [if_pos c_1, if_neg c_2]), by show va_P D hcl _ t.heap; rw [ht]; exact hP⟩, hS.F ht⟩) hS.2.2 dHart_load_49
    · refine lv_aload_n hx hb dHart_load_27 rfl (lv_at hl 0 rfl) ?_
      refine lv_bipush (v := 6) hx hb dHart_load_28 (by decide) ?_
      refine lv_iload_n hx hb dHart_load_30 rfl (lv_at hl 3 rfl) ?_
      refine mk_callW (va_runV (As := [.int 6, .int a3]) (rest := []) ⟨hx, hb, hml, hown, hts⟩ (hc_RiscHart_trap l hP hD 6 a3) (cwV 2 hts (mk_gV tw_139 tw_141 tw_1 tw_46 tw_142) rfl rfl rfl hdHart_trap ⟨Nat.le_of_ble_eq_true rfl, Nat.le_of_ble_eq_true rfl⟩) (mk_preVK hK (va_recv hK hP (ci := 0) (q0 := 0) rfl rfl)) rfl rfl hl.1 rfl (lv_room (Nat.le_of_ble_eq_true rfl)) dHart_load_31 ⟨Nat.zero_le _, Nat.zero_le _⟩) hS (fun H locs hP hS => ?_)
      exact W.iret hx hb hr (fun t ht hW => ⟨⟨_, (hf_RiscHart_trap st 6 a3).2, rfl, (by unfold hf_RiscHart_load; rw [if_pos c_1, if_pos c_2]), by show va_P D hcl _ t.heap; rw [ht]; exact hP⟩, hS.F ht⟩) hS.2.2 dHart_load_34
  · refine lv_aload_n hx hb dHart_load_8 rfl (lv_at hl 0 rfl) ?_
    refine lv_iconst (v := 5) hx hb dHart_load_9 (by decide) ?_
    refine lv_iload_n hx hb dHart_load_10 rfl (lv_at hl 3 rfl) ?_
    refine mk_callW (va_runV (As := [.int 5, .int a3]) (rest := []) ⟨hx, hb, hml, hown, hts⟩ (hc_RiscHart_trap l hP hD 5 a3) (cwV 2 hts (mk_gV tw_139 tw_141 tw_1 tw_46 tw_142) rfl rfl rfl hdHart_trap ⟨Nat.le_of_ble_eq_true rfl, Nat.le_of_ble_eq_true rfl⟩) (mk_preVK hK (va_recv hK hP (ci := 0) (q0 := 0) rfl rfl)) rfl rfl hl.1 rfl (lv_room (Nat.le_of_ble_eq_true rfl)) dHart_load_11 ⟨Nat.zero_le _, Nat.zero_le _⟩) hS (fun H locs hP hS => ?_)
    exact W.iret hx hb hr (fun t ht hW => ⟨⟨_, (hf_RiscHart_trap st 5 a3).2, rfl, (by unfold hf_RiscHart_load; rw [if_neg c_1]), by show va_P D hcl _ t.heap; rw [ht]; exact hP⟩, hS.F ht⟩) hS.2.2 dHart_load_14
set_option maxHeartbeats 4000000 in
set_option maxRecDepth 100000 in
theorem hc_RiscHart_longLoad (l : Launch) {D : va_G} {cR cW cP : ClassId} {h0 h1 h2 h3 h4 : Nat} {A : Nat → Prop} {st : HS} {G : Heap} (hP : va_P D hcl (hs_W cR cW cP h0 h1 h2 h3 h4 st) G) (hD : ∀ z, va_D A (hs_W cR cW cP h0 h1 h2 h3 h4 z)) (a1 : Int32)  : Met l yHart_longLoad (wq yHart_longLoad cHart_longLoad 3 (some .int)) ({ frames := 3, cells := 0, slots := 0, locals := 67 }) (mk_PK D hcl [(cR, .int), (cW, .int), (cP, .int)] G [.ref h0, .int a1]) (mk_Wi (fun u t => va_P D hcl (hs_W cR cW cP h0 h1 h2 h3 h4 u) t) A (hf_RiscHart_longLoad st a1)) 0 0 A := by
  refine Met.ofW (cc := cHart_longLoad) (maxL := 3) (ret := (some .int)) (by decide) rfl ?_
  intro p e s m args below meth c s₁ B hml hv
  obtain ⟨rfl, hG, hK⟩ := hv
  subst hG
  have hx := B.exec
  have hb := B.bytes
  have hr := B.returns
  have hts := atoms_spec (ws := (wq yHart_longLoad cHart_longLoad 3 (some .int))) B.pre
  have hown : s.vm.findClass RHart = some m.cls := findClass_of_methodNamed B.named
  have hlocks := B.notSynchronized
  have hg : ∀ w ∈ lw_g, w.before _ s = true := fun w h => hts w (List.mem_cons_of_mem _ h)
  have hS : va_S A s.heap s.heap [] := va_S.rf
  have hl := lv_entry ([.ref h0, .int a1]) (n := 3) (Nat.le_of_ble_eq_true rfl)
  rw [lg_entry_eq]
  generalize (lg_sl ([.ref h0, .int a1]) ++ List.replicate (3 - (lg_sl ([.ref h0, .int a1])).length) Slot.unset).toArray = ls at hl ⊢
  have hl : lv_has ls 3 [(0, .ref h0), (1, .int a1)] := hl
  refine lv_iload_n hx hb dHart_longLoad_0 rfl (lv_at hl 1 rfl) ?_
  refine mk_callR (va_runS (As := [.int a1]) (rest := []) ⟨hx, hb, hml, hown, hts⟩ (hc_LongForm_f l _ a1) (va_cwS 1 hts (mk_gS tw_188 tw_189 tw_54 tw_190) rfl rfl rfl hdLF_f.2 ⟨Nat.le_of_ble_eq_true rfl, Nat.le_of_ble_eq_true rfl⟩) mk_preS rfl rfl hl.1 rfl (lv_room (Nat.le_of_ble_eq_true rfl)) dHart_longLoad_1 ⟨Nat.zero_le _, Nat.zero_le _⟩) ?_
  refine lv_istore_n (lv' := [(2, .int (hf_LongForm_f a1)), (0, .ref h0), (1, .int a1)]) hx hb dHart_longLoad_4 rfl hl (by decide) rfl (fun ls hl => ?_)
  refine lv_iload_n hx hb dHart_longLoad_5 rfl (lv_at hl 0 rfl) ?_
  refine lv_iconst (v := 3) hx hb dHart_longLoad_6 (by decide) ?_
  refine lv_icmp_eq (tgt := 15) hx hb dHart_longLoad_7 (by decide) (fun c_1 => ?_) (fun c_1 => ?_)
  · refine lv_aload_n hx hb dHart_longLoad_15 rfl (lv_at hl 1 rfl) ?_
    refine lv_iconst (v := 2) hx hb dHart_longLoad_16 (by decide) ?_
    refine lv_iload_n hx hb dHart_longLoad_17 rfl (lv_at hl 2 rfl) ?_
    refine mk_callW (va_runV (As := [.int 2, .int a1]) (rest := []) ⟨hx, hb, hml, hown, hts⟩ (hc_RiscHart_trap l hP hD 2 a1) (cwV 2 hts (mk_gV tw_139 tw_141 tw_1 tw_46 tw_142) rfl rfl rfl hdHart_trap ⟨Nat.le_of_ble_eq_true rfl, Nat.le_of_ble_eq_true rfl⟩) (mk_preVK hK (va_recv hK hP (ci := 0) (q0 := 0) rfl rfl)) rfl rfl hl.1 rfl (lv_room (Nat.le_of_ble_eq_true rfl)) dHart_longLoad_18 ⟨Nat.zero_le _, Nat.zero_le _⟩) hS (fun H locs hP hS => ?_)
    exact W.iret hx hb hr (fun t ht hW => ⟨⟨_, (hf_RiscHart_trap st 2 a1).2, rfl, (by unfold hf_RiscHart_longLoad; rw [if_pos c_1]), by show va_P D hcl _ t.heap; rw [ht]; exact hP⟩, hS.F ht⟩) hS.2.2 dHart_longLoad_21
  · refine lv_iload_n hx hb dHart_longLoad_10 rfl (lv_at hl 0 rfl) ?_
    refine lv_iconst (v := 5) hx hb dHart_longLoad_11 (by decide) ?_
    refine lv_icmp_le (tgt := 22) hx hb dHart_longLoad_12 (by decide) (fun c_2 => ?_) (fun c_2 => ?_)
    · refine lv_aload_n hx hb dHart_longLoad_22 rfl (lv_at hl 1 rfl) ?_
      refine lv_iload_n hx hb dHart_longLoad_23 rfl (lv_at hl 0 rfl) ?_
      refine lv_iload_n hx hb dHart_longLoad_24 rfl (lv_at hl 2 rfl) ?_
      refine mk_callR (va_runS (As := [.int a1]) (rest := [.int (hf_LongForm_f a1), .ref h0]) ⟨hx, hb, hml, hown, hts⟩ (hc_LongForm_d l _ a1) (va_cwS 1 hts (mk_gS tw_161 tw_162 tw_54 tw_163) rfl rfl rfl hdLF_d.2 ⟨Nat.le_of_ble_eq_true rfl, Nat.le_of_ble_eq_true rfl⟩) mk_preS rfl rfl hl.1 rfl (lv_room (Nat.le_of_ble_eq_true rfl)) dHart_longLoad_25 ⟨Nat.zero_le _, Nat.zero_le _⟩) ?_
      refine lv_aload_n hx hb dHart_longLoad_28 rfl (lv_at hl 1 rfl) ?_
      refine va_get (D := D) (ci := 0) (v := .ref h2) (C := RHart) (T := THart) (N := 8) hx hb hg inHart hown hK hP 0 rfl rfl 1 (by decide) (hg _ tw_84) (fun _ h9 => h9) rfl dHart_longLoad_29 ?_
      refine lv_iload_n hx hb dHart_longLoad_32 rfl (lv_at hl 2 rfl) ?_
      refine mk_callR (va_runS (As := [.int a1]) (rest := [.ref h2, .int (hf_LongForm_d a1), .int (hf_LongForm_f a1), .ref h0]) ⟨hx, hb, hml, hown, hts⟩ (hc_LongForm_a l _ a1) (va_cwS 1 hts (mk_gS tw_191 tw_192 tw_54 tw_193) rfl rfl rfl hdLF_a.2 ⟨Nat.le_of_ble_eq_true rfl, Nat.le_of_ble_eq_true rfl⟩) mk_preS rfl rfl hl.1 rfl (lv_room (Nat.le_of_ble_eq_true rfl)) dHart_longLoad_33 ⟨Nat.zero_le _, Nat.zero_le _⟩) ?_
      refine va_iald (D := D) (f := hs_regs st) hx hb hK hP 2 0 rfl rfl (in_LongForm_a _) dHart_longLoad_36 ?_
      refine lv_iload_n hx hb dHart_longLoad_37 rfl (lv_at hl 2 rfl) ?_
      refine mk_callR (va_runS (As := [.int a1]) (rest := [.int (hs_regs st ((hf_LongForm_a a1)).toNatClampNeg), .int (hf_LongForm_d a1), .int (hf_LongForm_f a1), .ref h0]) ⟨hx, hb, hml, hown, hts⟩ (hc_LongForm_numberI l _ a1) (va_cwS 1 hts (mk_gS tw_194 tw_195 tw_54 tw_196) rfl rfl rfl hdLF_numberI.2 ⟨Nat.le_of_ble_eq_true rfl, Nat.le_of_ble_eq_true rfl⟩) mk_preS rfl rfl hl.1 rfl (lv_room (Nat.le_of_ble_eq_true rfl)) dHart_longLoad_38 ⟨Nat.zero_le _, Nat.zero_le _⟩) ?_
      refine lv_iadd hx hb dHart_longLoad_41 ?_
      refine mk_callW (va_runV (As := [.int (hf_LongForm_f a1), .int (hf_LongForm_d a1), .int ((hs_regs st ((hf_LongForm_a a1)).toNatClampNeg) + (hf_LongForm_numberI a1))]) (rest := []) ⟨hx, hb, hml, hown, hts⟩ (hc_RiscHart_load l hP hD (hf_LongForm_f a1) (hf_LongForm_d a1) ((hs_regs st ((hf_LongForm_a a1)).toNatClampNeg) + (hf_LongForm_numberI a1)) (in_LongForm_d _)) (cwV 3 hts (mk_gV tw_219 tw_221 tw_10 tw_46 tw_222) rfl rfl rfl hdHart_load ⟨Nat.le_of_ble_eq_true rfl, Nat.le_of_ble_eq_true rfl⟩) (mk_preVK hK (va_recv hK hP (ci := 0) (q0 := 0) rfl rfl)) rfl rfl hl.1 rfl (lv_room (Nat.le_of_ble_eq_true rfl)) dHart_longLoad_42 ⟨Nat.zero_le _, Nat.zero_le _⟩) hS (fun H locs hP hS => ?_)
      exact W.iret hx hb hr (fun t ht hW => ⟨⟨_, (hf_RiscHart_load st (hf_LongForm_f a1) (hf_LongForm_d a1) ((hs_regs st ((hf_LongForm_a a1)).toNatClampNeg) + (hf_LongForm_numberI a1))).2, rfl, (by unfold hf_RiscHart_longLoad; rw [if_neg c_1, if_pos c_2]), by show va_P D hcl _ t.heap; rw [ht]; exact hP⟩, hS.F ht⟩) hS.2.2 dHart_longLoad_45
    · refine lv_aload_n hx hb dHart_longLoad_15 rfl (lv_at hl 1 rfl) ?_
      refine lv_iconst (v := 2) hx hb dHart_longLoad_16 (by decide) ?_
      refine lv_iload_n hx hb dHart_longLoad_17 rfl (lv_at hl 2 rfl) ?_
      refine mk_callW (va_runV (As := [.int 2, .int a1]) (rest := []) ⟨hx, hb, hml, hown, hts⟩ (hc_RiscHart_trap l hP hD 2 a1) (cwV 2 hts (mk_gV tw_139 tw_141 tw_1 tw_46 tw_142) rfl rfl rfl hdHart_trap ⟨Nat.le_of_ble_eq_true rfl, Nat.le_of_ble_eq_true rfl⟩) (mk_preVK hK (va_recv hK hP (ci := 0) (q0 := 0) rfl rfl)) rfl rfl hl.1 rfl (lv_room (Nat.le_of_ble_eq_true rfl)) dHart_longLoad_18 ⟨Nat.zero_le _, Nat.zero_le _⟩) hS (fun H locs hP hS => ?_)
      exact W.iret hx hb hr (fun t ht hW => ⟨⟨_, (hf_RiscHart_trap st 2 a1).2, rfl, (by unfold hf_RiscHart_longLoad; rw [if_neg c_1, if_neg c_2]), by show va_P D hcl _ t.heap; rw [ht]; exact hP⟩, hS.F ht⟩) hS.2.2 dHart_longLoad_21
set_option maxHeartbeats 4000000 in
set_option maxRecDepth 100000 in
theorem hc_RiscHart_store (l : Launch) {D : va_G} {cR cW cP : ClassId} {h0 h1 h2 h3 h4 : Nat} {A : Nat → Prop} {st : HS} {G : Heap} (hP : va_P D hcl (hs_W cR cW cP h0 h1 h2 h3 h4 st) G) (hD : ∀ z, va_D A (hs_W cR cW cP h0 h1 h2 h3 h4 z)) (a1 : Int32) (a2 : Int32) (a3 : Int32)  : Met l yHart_store (wq yHart_store cHart_store 4 (some .int)) ({ frames := 2, cells := 0, slots := 0, locals := 45 }) (mk_PK D hcl [(cR, .int), (cW, .int), (cP, .int)] G [.ref h0, .int a1, .int a2, .int a3]) (mk_Wi (fun u t => va_P D hcl (hs_W cR cW cP h0 h1 h2 h3 h4 u) t) A (hf_RiscHart_store st a1 a2 a3)) 0 0 A := by
  refine Met.ofW (cc := cHart_store) (maxL := 4) (ret := (some .int)) (by decide) rfl ?_
  intro p e s m args below meth c s₁ B hml hv
  obtain ⟨rfl, hG, hK⟩ := hv
  subst hG
  have hx := B.exec
  have hb := B.bytes
  have hr := B.returns
  have hts := atoms_spec (ws := (wq yHart_store cHart_store 4 (some .int))) B.pre
  have hown : s.vm.findClass RHart = some m.cls := findClass_of_methodNamed B.named
  have hlocks := B.notSynchronized
  have hg : ∀ w ∈ lw_g, w.before _ s = true := fun w h => hts w (List.mem_cons_of_mem _ h)
  have hS : va_S A s.heap s.heap [] := va_S.rf
  have hl := lv_entry ([.ref h0, .int a1, .int a2, .int a3]) (n := 4) (Nat.le_of_ble_eq_true rfl)
  rw [lg_entry_eq]
  generalize (lg_sl ([.ref h0, .int a1, .int a2, .int a3]) ++ List.replicate (4 - (lg_sl ([.ref h0, .int a1, .int a2, .int a3])).length) Slot.unset).toArray = ls at hl ⊢
  have hl : lv_has ls 4 [(0, .ref h0), (1, .int a1), (2, .int a2), (3, .int a3)] := hl
  refine lv_iload_n hx hb dHart_store_0 rfl (lv_at hl 1 rfl) ?_
  refine lv_iload_n hx hb dHart_store_1 rfl (lv_at hl 2 rfl) ?_
  refine mk_callR (va_runS (As := [.int a1, .int a2]) (rest := []) ⟨hx, hb, hml, hown, hts⟩ (hc_Memory_isMisaligned l _ a1 a2) (va_cwS 2 hts (mk_gS tw_223 tw_129 tw_47 tw_130) rfl rfl rfl hdMem_isMisaligned.2 ⟨Nat.le_of_ble_eq_true rfl, Nat.le_of_ble_eq_true rfl⟩) mk_preS rfl rfl hl.1 rfl (lv_room (Nat.le_of_ble_eq_true rfl)) dHart_store_2 ⟨Nat.zero_le _, Nat.zero_le _⟩) ?_
  refine lv_if_eq (tgt := 15) hx hb dHart_store_5 (by decide) (fun c_1 => ?_) (fun c_1 => ?_)
  · refine lv_aload_n hx hb dHart_store_15 rfl (lv_at hl 0 rfl) ?_
    refine va_get (D := D) (ci := 0) (v := .ref h1) (C := RHart) (T := THart) (N := 8) hx hb hg inHart hown hK hP 0 rfl rfl 0 (by decide) (hg _ tw_83) (fun _ h9 => h9) rfl dHart_store_16 ?_
    refine lv_iconst (v := 2) hx hb dHart_store_19 (by decide) ?_
    refine lv_iload_n hx hb dHart_store_20 rfl (lv_at hl 2 rfl) ?_
    refine mk_callR (va_runV (As := [.int 2, .int a2]) (rest := []) ⟨hx, hb, hml, hown, hts⟩ (hc_Memory_allows l hP 2 a2) (cwV 2 hts (mk_gV tw_224 tw_132 tw_133 tw_47 tw_134) rfl rfl rfl hdMem_allows ⟨Nat.le_of_ble_eq_true rfl, Nat.le_of_ble_eq_true rfl⟩) (mk_preVK hK (va_recv hK hP (ci := 1) (q0 := 1) rfl rfl)) rfl rfl hl.1 rfl (lv_room (Nat.le_of_ble_eq_true rfl)) dHart_store_21 ⟨Nat.zero_le _, Nat.zero_le _⟩) ?_
    refine lv_if_ne (tgt := 35) hx hb dHart_store_24 (by decide) (fun c_2 => ?_) (fun c_2 => ?_)
    · refine lv_aload_n hx hb dHart_store_35 rfl (lv_at hl 0 rfl) ?_
      refine va_get (D := D) (ci := 0) (v := .ref h1) (C := RHart) (T := THart) (N := 8) hx hb hg inHart hown hK hP 0 rfl rfl 0 (by decide) (hg _ tw_83) (fun _ h9 => h9) rfl dHart_store_36 ?_
      refine lv_iload_n hx hb dHart_store_39 rfl (lv_at hl 1 rfl) ?_
      refine lv_iload_n hx hb dHart_store_40 rfl (lv_at hl 2 rfl) ?_
      refine lv_iload_n hx hb dHart_store_41 rfl (lv_at hl 3 rfl) ?_
      refine mk_callWv (va_runV (As := [.int a1, .int a2, .int a3]) (rest := []) ⟨hx, hb, hml, hown, hts⟩ (hc_Memory_write l hP hD a1 a2 a3) (cwV 3 hts (mk_gV tw_240 tw_241 tw_242 tw_47 tw_243) rfl rfl rfl hdMem_write ⟨Nat.le_of_ble_eq_true rfl, Nat.le_of_ble_eq_true rfl⟩) (mk_preVK hK (va_recv hK hP (ci := 1) (q0 := 1) rfl rfl)) rfl rfl hl.1 rfl (lv_room (Nat.le_of_ble_eq_true rfl)) dHart_store_42 ⟨Nat.zero_le _, Nat.zero_le _⟩) hS (fun H locs hP hS => ?_)
      refine lv_iconst (v := 0) hx hb dHart_store_45 (by decide) ?_
      exact W.iret hx hb hr (fun t ht hW => ⟨⟨_, (hf_Memory_write st a1 a2 a3), rfl, (by unfold hf_RiscHart_store; rw [if_pos c_1, if_neg c_2]), by show va_P D hcl _ t.heap; rw [ht]; exact hP⟩, hS.F ht⟩) hS.2.2 dHart_store_46
    · refine lv_aload_n hx hb dHart_store_27 rfl (lv_at hl 0 rfl) ?_
      refine lv_bipush (v := 7) hx hb dHart_store_28 (by decide) ?_
      refine lv_iload_n hx hb dHart_store_30 rfl (lv_at hl 2 rfl) ?_
      refine mk_callW (va_runV (As := [.int 7, .int a2]) (rest := []) ⟨hx, hb, hml, hown, hts⟩ (hc_RiscHart_trap l hP hD 7 a2) (cwV 2 hts (mk_gV tw_139 tw_141 tw_1 tw_46 tw_142) rfl rfl rfl hdHart_trap ⟨Nat.le_of_ble_eq_true rfl, Nat.le_of_ble_eq_true rfl⟩) (mk_preVK hK (va_recv hK hP (ci := 0) (q0 := 0) rfl rfl)) rfl rfl hl.1 rfl (lv_room (Nat.le_of_ble_eq_true rfl)) dHart_store_31 ⟨Nat.zero_le _, Nat.zero_le _⟩) hS (fun H locs hP hS => ?_)
      exact W.iret hx hb hr (fun t ht hW => ⟨⟨_, (hf_RiscHart_trap st 7 a2).2, rfl, (by unfold hf_RiscHart_store; rw [if_pos c_1, if_pos c_2]), by show va_P D hcl _ t.heap; rw [ht]; exact hP⟩, hS.F ht⟩) hS.2.2 dHart_store_34
  · refine lv_aload_n hx hb dHart_store_8 rfl (lv_at hl 0 rfl) ?_
    refine lv_iconst (v := 5) hx hb dHart_store_9 (by decide) ?_
    refine lv_iload_n hx hb dHart_store_10 rfl (lv_at hl 2 rfl) ?_
    refine mk_callW (va_runV (As := [.int 5, .int a2]) (rest := []) ⟨hx, hb, hml, hown, hts⟩ (hc_RiscHart_trap l hP hD 5 a2) (cwV 2 hts (mk_gV tw_139 tw_141 tw_1 tw_46 tw_142) rfl rfl rfl hdHart_trap ⟨Nat.le_of_ble_eq_true rfl, Nat.le_of_ble_eq_true rfl⟩) (mk_preVK hK (va_recv hK hP (ci := 0) (q0 := 0) rfl rfl)) rfl rfl hl.1 rfl (lv_room (Nat.le_of_ble_eq_true rfl)) dHart_store_11 ⟨Nat.zero_le _, Nat.zero_le _⟩) hS (fun H locs hP hS => ?_)
    exact W.iret hx hb hr (fun t ht hW => ⟨⟨_, (hf_RiscHart_trap st 5 a2).2, rfl, (by unfold hf_RiscHart_store; rw [if_neg c_1]), by show va_P D hcl _ t.heap; rw [ht]; exact hP⟩, hS.F ht⟩) hS.2.2 dHart_store_14
