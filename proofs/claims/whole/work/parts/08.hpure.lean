set_option maxHeartbeats 4000000 in
set_option maxRecDepth 100000 in
theorem hc_Memory_holds (l : Launch) (G : Heap) (a1 : Int32)  : Met l yMem_holds (wq yMem_holds cMem_holds 1 (some .boolean)) ({ frames := 0, cells := 0, slots := 0, locals := 0 }) (mk_P G [.int a1]) (mk_Qi G (hf_Memory_holds a1)) 0 0 (fun _ => False) := by
  refine Met.ofW (cc := cMem_holds) (maxL := 1) (ret := (some .boolean)) (by decide) rfl ?_
  intro p e s m args below meth c s₁ B hml hv
  obtain ⟨rfl, hG⟩ := hv
  subst hG
  have hx := B.exec
  have hb := B.bytes
  have hr := B.returns
  have hts := atoms_spec (ws := (wq yMem_holds cMem_holds 1 (some .boolean))) B.pre
  have hown : s.vm.findClass RMem = some m.cls := findClass_of_methodNamed B.named
  have hlocks := B.notSynchronized
  have hg : ∀ w ∈ lw_g, w.before _ s = true := fun w h => hts w (List.mem_cons_of_mem _ h)
  have hl := lv_entry ([.int a1]) (n := 1) (Nat.le_of_ble_eq_true rfl)
  rw [lg_entry_eq]
  generalize (lg_sl ([.int a1]) ++ List.replicate (1 - (lg_sl ([.int a1])).length) Slot.unset).toArray = ls at hl ⊢
  have hl : lv_has ls 1 [(0, .int a1)] := hl
  refine lv_iload_n hx hb dMem_holds_0 rfl (lv_at hl 0 rfl) ?_
  refine lv_if_lt (tgt := 14) hx hb dMem_holds_1 (by decide) (fun c_1 => ?_) (fun c_1 => ?_)
  · refine lv_iconst (v := 0) hx hb dMem_holds_14 (by decide) ?_
    exact W.zret hx hb hr rfl (fun t ht hW => ⟨⟨_, (), rfl, (by unfold hf_Memory_holds; rw [if_pos c_1]), ht⟩, mk_F ht⟩) (fun q h => nomatch h) dMem_holds_15
  · refine lv_iload_n hx hb dMem_holds_4 rfl (lv_at hl 0 rfl) ?_
    refine lv_ldc (v := 65535) hx hb hown (hg _ tw_138) dMem_holds_5 ?_
    refine lv_icmp_gt (tgt := 14) hx hb dMem_holds_7 (by decide) (fun c_2 => ?_) (fun c_2 => ?_)
    · refine lv_iconst (v := 0) hx hb dMem_holds_14 (by decide) ?_
      exact W.zret hx hb hr rfl (fun t ht hW => ⟨⟨_, (), rfl, (by unfold hf_Memory_holds; rw [if_neg c_1, if_pos c_2]), ht⟩, mk_F ht⟩) (fun q h => nomatch h) dMem_holds_15
    · refine lv_iconst (v := 1) hx hb dMem_holds_10 (by decide) ?_
      refine lv_goto (tgt := 15) hx hb dMem_holds_11 (by decide) ?_
      exact W.zret hx hb hr rfl (fun t ht hW => ⟨⟨_, (), rfl, (by unfold hf_Memory_holds; rw [if_neg c_1, if_neg c_2]), ht⟩, mk_F ht⟩) (fun q h => nomatch h) dMem_holds_15
set_option maxHeartbeats 4000000 in
set_option maxRecDepth 100000 in
theorem hc_Memory_wordIndex (l : Launch) (G : Heap) (a1 : Int32)  : Met l yMem_wordIndex (wq yMem_wordIndex cMem_wordIndex 1 (some .int)) ({ frames := 0, cells := 0, slots := 0, locals := 0 }) (mk_P G [.int a1]) (mk_Qi G (hf_Memory_wordIndex a1)) 0 0 (fun _ => False) := by
  refine Met.ofW (cc := cMem_wordIndex) (maxL := 1) (ret := (some .int)) (by decide) rfl ?_
  intro p e s m args below meth c s₁ B hml hv
  obtain ⟨rfl, hG⟩ := hv
  subst hG
  have hx := B.exec
  have hb := B.bytes
  have hr := B.returns
  have hts := atoms_spec (ws := (wq yMem_wordIndex cMem_wordIndex 1 (some .int))) B.pre
  have hown : s.vm.findClass RMem = some m.cls := findClass_of_methodNamed B.named
  have hlocks := B.notSynchronized
  have hg : ∀ w ∈ lw_g, w.before _ s = true := fun w h => hts w (List.mem_cons_of_mem _ h)
  have hl := lv_entry ([.int a1]) (n := 1) (Nat.le_of_ble_eq_true rfl)
  rw [lg_entry_eq]
  generalize (lg_sl ([.int a1]) ++ List.replicate (1 - (lg_sl ([.int a1])).length) Slot.unset).toArray = ls at hl ⊢
  have hl : lv_has ls 1 [(0, .int a1)] := hl
  refine lv_iload_n hx hb dMem_wordIndex_0 rfl (lv_at hl 0 rfl) ?_
  refine lv_ldc (v := 65535) hx hb hown (hg _ tw_138) dMem_wordIndex_1 ?_
  refine lv_iand hx hb dMem_wordIndex_3 ?_
  refine lv_iconst (v := 2) hx hb dMem_wordIndex_4 (by decide) ?_
  refine lv_iushr (v := (ja_ushr (a1 &&& 65535) 2)) hx hb dMem_wordIndex_5 rfl ?_
  exact W.iret hx hb hr (fun t ht hW => ⟨⟨_, (), rfl, rfl, ht⟩, mk_F ht⟩) (fun q h => nomatch h) dMem_wordIndex_6
set_option maxHeartbeats 4000000 in
set_option maxRecDepth 100000 in
theorem hc_Memory_maskOf (l : Launch) (G : Heap) (a1 : Int32)  : Met l yMem_maskOf (wq yMem_maskOf cMem_maskOf 1 (some .int)) ({ frames := 0, cells := 0, slots := 0, locals := 0 }) (mk_P G [.int a1]) (mk_Qi G (hf_Memory_maskOf a1)) 0 0 (fun _ => False) := by
  refine Met.ofW (cc := cMem_maskOf) (maxL := 1) (ret := (some .int)) (by decide) rfl ?_
  intro p e s m args below meth c s₁ B hml hv
  obtain ⟨rfl, hG⟩ := hv
  subst hG
  have hx := B.exec
  have hb := B.bytes
  have hr := B.returns
  have hts := atoms_spec (ws := (wq yMem_maskOf cMem_maskOf 1 (some .int))) B.pre
  have hown : s.vm.findClass RMem = some m.cls := findClass_of_methodNamed B.named
  have hlocks := B.notSynchronized
  have hg : ∀ w ∈ lw_g, w.before _ s = true := fun w h => hts w (List.mem_cons_of_mem _ h)
  have hl := lv_entry ([.int a1]) (n := 1) (Nat.le_of_ble_eq_true rfl)
  rw [lg_entry_eq]
  generalize (lg_sl ([.int a1]) ++ List.replicate (1 - (lg_sl ([.int a1])).length) Slot.unset).toArray = ls at hl ⊢
  have hl : lv_has ls 1 [(0, .int a1)] := hl
  refine lv_iload_n hx hb dMem_maskOf_0 rfl (lv_at hl 0 rfl) ?_
  by_cases c_1 : a1 = 0
  · refine lv_lookup (off := 27) (tgt := 28) hx hb dMem_maskOf_1 (by decide) (by rw [c_1]; decide) (by decide) ?_
    refine lv_sipush (v := 255) hx hb dMem_maskOf_28 (by decide) ?_
    exact W.iret hx hb hr (fun t ht hW => ⟨⟨_, (), rfl, (by unfold hf_Memory_maskOf; rw [if_pos c_1]), ht⟩, mk_F ht⟩) (fun q h => nomatch h) dMem_maskOf_31
  by_cases c_2 : a1 = 1
  · refine lv_lookup (off := 31) (tgt := 32) hx hb dMem_maskOf_1 (by decide) (by rw [c_2]; decide) (by decide) ?_
    refine lv_ldc (v := 65535) hx hb hown (hg _ tw_138) dMem_maskOf_32 ?_
    exact W.iret hx hb hr (fun t ht hW => ⟨⟨_, (), rfl, (by unfold hf_Memory_maskOf; rw [if_neg c_1, if_pos c_2]), ht⟩, mk_F ht⟩) (fun q h => nomatch h) dMem_maskOf_34
  refine lv_lookup (off := 34) (tgt := 35) hx hb dMem_maskOf_1 (by decide) ((lv_osw (a := 0) c_1 rfl).trans ((lv_osw (a := 1) c_2 rfl).trans (rfl))) (by decide) ?_
  refine lv_iconst (v := (-1)) hx hb dMem_maskOf_35 (by decide) ?_
  exact W.iret hx hb hr (fun t ht hW => ⟨⟨_, (), rfl, (by unfold hf_Memory_maskOf; rw [if_neg c_1, if_neg c_2]), ht⟩, mk_F ht⟩) (fun q h => nomatch h) dMem_maskOf_36
set_option maxHeartbeats 4000000 in
set_option maxRecDepth 100000 in
theorem hc_Memory_shiftOf (l : Launch) (G : Heap) (a1 : Int32)  : Met l yMem_shiftOf (wq yMem_shiftOf cMem_shiftOf 1 (some .int)) ({ frames := 0, cells := 0, slots := 0, locals := 0 }) (mk_P G [.int a1]) (mk_Qi G (hf_Memory_shiftOf a1)) 0 0 (fun _ => False) := by
  refine Met.ofW (cc := cMem_shiftOf) (maxL := 1) (ret := (some .int)) (by decide) rfl ?_
  intro p e s m args below meth c s₁ B hml hv
  obtain ⟨rfl, hG⟩ := hv
  subst hG
  have hx := B.exec
  have hb := B.bytes
  have hr := B.returns
  have hts := atoms_spec (ws := (wq yMem_shiftOf cMem_shiftOf 1 (some .int))) B.pre
  have hown : s.vm.findClass RMem = some m.cls := findClass_of_methodNamed B.named
  have hlocks := B.notSynchronized
  have hg : ∀ w ∈ lw_g, w.before _ s = true := fun w h => hts w (List.mem_cons_of_mem _ h)
  have hl := lv_entry ([.int a1]) (n := 1) (Nat.le_of_ble_eq_true rfl)
  rw [lg_entry_eq]
  generalize (lg_sl ([.int a1]) ++ List.replicate (1 - (lg_sl ([.int a1])).length) Slot.unset).toArray = ls at hl ⊢
  have hl : lv_has ls 1 [(0, .int a1)] := hl
  refine lv_iload_n hx hb dMem_shiftOf_0 rfl (lv_at hl 0 rfl) ?_
  refine lv_iconst (v := 3) hx hb dMem_shiftOf_1 (by decide) ?_
  refine lv_iand hx hb dMem_shiftOf_2 ?_
  refine lv_iconst (v := 3) hx hb dMem_shiftOf_3 (by decide) ?_
  refine lv_ishl hx hb dMem_shiftOf_4 ?_
  exact W.iret hx hb hr (fun t ht hW => ⟨⟨_, (), rfl, rfl, ht⟩, mk_F ht⟩) (fun q h => nomatch h) dMem_shiftOf_5
set_option maxHeartbeats 4000000 in
set_option maxRecDepth 100000 in
theorem hc_Memory_isMisaligned (l : Launch) (G : Heap) (a1 : Int32) (a2 : Int32)  : Met l yMem_isMisaligned (wq yMem_isMisaligned cMem_isMisaligned 2 (some .boolean)) ({ frames := 0, cells := 0, slots := 0, locals := 0 }) (mk_P G [.int a1, .int a2]) (mk_Qi G (hf_Memory_isMisaligned a1 a2)) 0 0 (fun _ => False) := by
  refine Met.ofW (cc := cMem_isMisaligned) (maxL := 2) (ret := (some .boolean)) (by decide) rfl ?_
  intro p e s m args below meth c s₁ B hml hv
  obtain ⟨rfl, hG⟩ := hv
  subst hG
  have hx := B.exec
  have hb := B.bytes
  have hr := B.returns
  have hts := atoms_spec (ws := (wq yMem_isMisaligned cMem_isMisaligned 2 (some .boolean))) B.pre
  have hown : s.vm.findClass RMem = some m.cls := findClass_of_methodNamed B.named
  have hlocks := B.notSynchronized
  have hg : ∀ w ∈ lw_g, w.before _ s = true := fun w h => hts w (List.mem_cons_of_mem _ h)
  have hl := lv_entry ([.int a1, .int a2]) (n := 2) (Nat.le_of_ble_eq_true rfl)
  rw [lg_entry_eq]
  generalize (lg_sl ([.int a1, .int a2]) ++ List.replicate (2 - (lg_sl ([.int a1, .int a2])).length) Slot.unset).toArray = ls at hl ⊢
  have hl : lv_has ls 2 [(0, .int a1), (1, .int a2)] := hl
  refine lv_iload_n hx hb dMem_isMisaligned_0 rfl (lv_at hl 1 rfl) ?_
  refine lv_iconst (v := 1) hx hb dMem_isMisaligned_1 (by decide) ?_
  refine lv_iload_n hx hb dMem_isMisaligned_2 rfl (lv_at hl 0 rfl) ?_
  refine lv_iconst (v := 3) hx hb dMem_isMisaligned_3 (by decide) ?_
  refine lv_iand hx hb dMem_isMisaligned_4 ?_
  refine lv_ishl hx hb dMem_isMisaligned_5 ?_
  refine lv_iconst (v := 1) hx hb dMem_isMisaligned_6 (by decide) ?_
  refine lv_isub hx hb dMem_isMisaligned_7 ?_
  refine lv_iand hx hb dMem_isMisaligned_8 ?_
  refine lv_if_eq (tgt := 16) hx hb dMem_isMisaligned_9 (by decide) (fun c_1 => ?_) (fun c_1 => ?_)
  · refine lv_iconst (v := 0) hx hb dMem_isMisaligned_16 (by decide) ?_
    exact W.zret hx hb hr rfl (fun t ht hW => ⟨⟨_, (), rfl, (by unfold hf_Memory_isMisaligned; rw [if_pos c_1]), ht⟩, mk_F ht⟩) (fun q h => nomatch h) dMem_isMisaligned_17
  · refine lv_iconst (v := 1) hx hb dMem_isMisaligned_12 (by decide) ?_
    refine lv_goto (tgt := 17) hx hb dMem_isMisaligned_13 (by decide) ?_
    exact W.zret hx hb hr rfl (fun t ht hW => ⟨⟨_, (), rfl, (by unfold hf_Memory_isMisaligned; rw [if_neg c_1]), ht⟩, mk_F ht⟩) (fun q h => nomatch h) dMem_isMisaligned_17
set_option maxHeartbeats 4000000 in
set_option maxRecDepth 100000 in
theorem hc_Bits_part (l : Launch) (G : Heap) (a1 : Int32) (a2 : Int32) (a3 : Int32)  : Met l yBits_part (wq yBits_part cBits_part 3 (some .int)) ({ frames := 0, cells := 0, slots := 0, locals := 0 }) (mk_P G [.int a1, .int a2, .int a3]) (mk_Qi G (hf_Bits_part a1 a2 a3)) 0 0 (fun _ => False) := by
  refine Met.ofW (cc := cBits_part) (maxL := 3) (ret := (some .int)) (by decide) rfl ?_
  intro p e s m args below meth c s₁ B hml hv
  obtain ⟨rfl, hG⟩ := hv
  subst hG
  have hx := B.exec
  have hb := B.bytes
  have hr := B.returns
  have hts := atoms_spec (ws := (wq yBits_part cBits_part 3 (some .int))) B.pre
  have hown : s.vm.findClass RBits = some m.cls := findClass_of_methodNamed B.named
  have hlocks := B.notSynchronized
  have hg : ∀ w ∈ lw_g, w.before _ s = true := fun w h => hts w (List.mem_cons_of_mem _ h)
  have hl := lv_entry ([.int a1, .int a2, .int a3]) (n := 3) (Nat.le_of_ble_eq_true rfl)
  rw [lg_entry_eq]
  generalize (lg_sl ([.int a1, .int a2, .int a3]) ++ List.replicate (3 - (lg_sl ([.int a1, .int a2, .int a3])).length) Slot.unset).toArray = ls at hl ⊢
  have hl : lv_has ls 3 [(0, .int a1), (1, .int a2), (2, .int a3)] := hl
  refine lv_iload_n hx hb dBits_part_0 rfl (lv_at hl 0 rfl) ?_
  refine lv_iload_n hx hb dBits_part_1 rfl (lv_at hl 1 rfl) ?_
  refine lv_iushr (v := (ja_ushr a1 a2)) hx hb dBits_part_2 rfl ?_
  refine lv_iconst (v := 1) hx hb dBits_part_3 (by decide) ?_
  refine lv_iload_n hx hb dBits_part_4 rfl (lv_at hl 2 rfl) ?_
  refine lv_ishl hx hb dBits_part_5 ?_
  refine lv_iconst (v := 1) hx hb dBits_part_6 (by decide) ?_
  refine lv_isub hx hb dBits_part_7 ?_
  refine lv_iand hx hb dBits_part_8 ?_
  exact W.iret hx hb hr (fun t ht hW => ⟨⟨_, (), rfl, rfl, ht⟩, mk_F ht⟩) (fun q h => nomatch h) dBits_part_9
set_option maxHeartbeats 4000000 in
set_option maxRecDepth 100000 in
theorem hc_LongForm_d (l : Launch) (G : Heap) (a1 : Int32)  : Met l yLF_d (wq yLF_d cLF_d 1 (some .int)) ({ frames := 1, cells := 0, slots := 0, locals := 22 }) (mk_P G [.int a1]) (mk_Qi G (hf_LongForm_d a1)) 0 0 (fun _ => False) := by
  refine Met.ofW (cc := cLF_d) (maxL := 1) (ret := (some .int)) (by decide) rfl ?_
  intro p e s m args below meth c s₁ B hml hv
  obtain ⟨rfl, hG⟩ := hv
  subst hG
  have hx := B.exec
  have hb := B.bytes
  have hr := B.returns
  have hts := atoms_spec (ws := (wq yLF_d cLF_d 1 (some .int))) B.pre
  have hown : s.vm.findClass RLF = some m.cls := findClass_of_methodNamed B.named
  have hlocks := B.notSynchronized
  have hg : ∀ w ∈ lw_g, w.before _ s = true := fun w h => hts w (List.mem_cons_of_mem _ h)
  have hl := lv_entry ([.int a1]) (n := 1) (Nat.le_of_ble_eq_true rfl)
  rw [lg_entry_eq]
  generalize (lg_sl ([.int a1]) ++ List.replicate (1 - (lg_sl ([.int a1])).length) Slot.unset).toArray = ls at hl ⊢
  have hl : lv_has ls 1 [(0, .int a1)] := hl
  refine lv_iload_n hx hb dLF_d_0 rfl (lv_at hl 0 rfl) ?_
  refine lv_bipush (v := 7) hx hb dLF_d_1 (by decide) ?_
  refine lv_iconst (v := 5) hx hb dLF_d_3 (by decide) ?_
  refine mk_callR (va_runS (As := [.int a1, .int 7, .int 5]) (rest := []) ⟨hx, hb, hml, hown, hts⟩ (hc_Bits_part l s.heap a1 7 5) (va_cwS 3 hts (mk_gS tw_164 tw_165 tw_55 tw_166) rfl rfl rfl hdBits_part.2 ⟨Nat.le_of_ble_eq_true rfl, Nat.le_of_ble_eq_true rfl⟩) mk_preS rfl rfl hl.1 rfl (lv_room (Nat.le_of_ble_eq_true rfl)) dLF_d_4 ⟨Nat.zero_le _, Nat.zero_le _⟩) ?_
  exact W.iret hx hb hr (fun t ht hW => ⟨⟨_, (), rfl, rfl, ht⟩, mk_F ht⟩) (fun q h => nomatch h) dLF_d_7
set_option maxHeartbeats 4000000 in
set_option maxRecDepth 100000 in
theorem hc_LongForm_upperNumber (l : Launch) (G : Heap) (a1 : Int32)  : Met l yLF_upperNumber (wq yLF_upperNumber cLF_upperNumber 1 (some .int)) ({ frames := 0, cells := 0, slots := 0, locals := 0 }) (mk_P G [.int a1]) (mk_Qi G (hf_LongForm_upperNumber a1)) 0 0 (fun _ => False) := by
  refine Met.ofW (cc := cLF_upperNumber) (maxL := 1) (ret := (some .int)) (by decide) rfl ?_
  intro p e s m args below meth c s₁ B hml hv
  obtain ⟨rfl, hG⟩ := hv
  subst hG
  have hx := B.exec
  have hb := B.bytes
  have hr := B.returns
  have hts := atoms_spec (ws := (wq yLF_upperNumber cLF_upperNumber 1 (some .int))) B.pre
  have hown : s.vm.findClass RLF = some m.cls := findClass_of_methodNamed B.named
  have hlocks := B.notSynchronized
  have hg : ∀ w ∈ lw_g, w.before _ s = true := fun w h => hts w (List.mem_cons_of_mem _ h)
  have hl := lv_entry ([.int a1]) (n := 1) (Nat.le_of_ble_eq_true rfl)
  rw [lg_entry_eq]
  generalize (lg_sl ([.int a1]) ++ List.replicate (1 - (lg_sl ([.int a1])).length) Slot.unset).toArray = ls at hl ⊢
  have hl : lv_has ls 1 [(0, .int a1)] := hl
  refine lv_iload_n hx hb dLF_upperNumber_0 rfl (lv_at hl 0 rfl) ?_
  refine lv_sipush (v := (-4096)) hx hb dLF_upperNumber_1 (by decide) ?_
  refine lv_iand hx hb dLF_upperNumber_4 ?_
  exact W.iret hx hb hr (fun t ht hW => ⟨⟨_, (), rfl, rfl, ht⟩, mk_F ht⟩) (fun q h => nomatch h) dLF_upperNumber_5
set_option maxHeartbeats 4000000 in
set_option maxRecDepth 100000 in
theorem hc_Bits_signed (l : Launch) (G : Heap) (a1 : Int32) (a2 : Int32)  : Met l yBits_signed (wq yBits_signed cBits_signed 2 (some .int)) ({ frames := 0, cells := 0, slots := 0, locals := 0 }) (mk_P G [.int a1, .int a2]) (mk_Qi G (hf_Bits_signed a1 a2)) 0 0 (fun _ => False) := by
  refine Met.ofW (cc := cBits_signed) (maxL := 2) (ret := (some .int)) (by decide) rfl ?_
  intro p e s m args below meth c s₁ B hml hv
  obtain ⟨rfl, hG⟩ := hv
  subst hG
  have hx := B.exec
  have hb := B.bytes
  have hr := B.returns
  have hts := atoms_spec (ws := (wq yBits_signed cBits_signed 2 (some .int))) B.pre
  have hown : s.vm.findClass RBits = some m.cls := findClass_of_methodNamed B.named
  have hlocks := B.notSynchronized
  have hg : ∀ w ∈ lw_g, w.before _ s = true := fun w h => hts w (List.mem_cons_of_mem _ h)
  have hl := lv_entry ([.int a1, .int a2]) (n := 2) (Nat.le_of_ble_eq_true rfl)
  rw [lg_entry_eq]
  generalize (lg_sl ([.int a1, .int a2]) ++ List.replicate (2 - (lg_sl ([.int a1, .int a2])).length) Slot.unset).toArray = ls at hl ⊢
  have hl : lv_has ls 2 [(0, .int a1), (1, .int a2)] := hl
  refine lv_iload_n hx hb dBits_signed_0 rfl (lv_at hl 0 rfl) ?_
  refine lv_bipush (v := 32) hx hb dBits_signed_1 (by decide) ?_
  refine lv_iload_n hx hb dBits_signed_3 rfl (lv_at hl 1 rfl) ?_
  refine lv_isub hx hb dBits_signed_4 ?_
  refine lv_ishl hx hb dBits_signed_5 ?_
  refine lv_bipush (v := 32) hx hb dBits_signed_6 (by decide) ?_
  refine lv_iload_n hx hb dBits_signed_8 rfl (lv_at hl 1 rfl) ?_
  refine lv_isub hx hb dBits_signed_9 ?_
  refine lv_ishr hx hb dBits_signed_10 ?_
  exact W.iret hx hb hr (fun t ht hW => ⟨⟨_, (), rfl, rfl, ht⟩, mk_F ht⟩) (fun q h => nomatch h) dBits_signed_11
set_option maxHeartbeats 4000000 in
set_option maxRecDepth 100000 in
theorem hc_LongForm_offsetJ (l : Launch) (G : Heap) (a1 : Int32)  : Met l yLF_offsetJ (wq yLF_offsetJ cLF_offsetJ 2 (some .int)) ({ frames := 1, cells := 0, slots := 0, locals := 22 }) (mk_P G [.int a1]) (mk_Qi G (hf_LongForm_offsetJ a1)) 0 0 (fun _ => False) := by
  refine Met.ofW (cc := cLF_offsetJ) (maxL := 2) (ret := (some .int)) (by decide) rfl ?_
  intro p e s m args below meth c s₁ B hml hv
  obtain ⟨rfl, hG⟩ := hv
  subst hG
  have hx := B.exec
  have hb := B.bytes
  have hr := B.returns
  have hts := atoms_spec (ws := (wq yLF_offsetJ cLF_offsetJ 2 (some .int))) B.pre
  have hown : s.vm.findClass RLF = some m.cls := findClass_of_methodNamed B.named
  have hlocks := B.notSynchronized
  have hg : ∀ w ∈ lw_g, w.before _ s = true := fun w h => hts w (List.mem_cons_of_mem _ h)
  have hl := lv_entry ([.int a1]) (n := 2) (Nat.le_of_ble_eq_true rfl)
  rw [lg_entry_eq]
  generalize (lg_sl ([.int a1]) ++ List.replicate (2 - (lg_sl ([.int a1])).length) Slot.unset).toArray = ls at hl ⊢
  have hl : lv_has ls 2 [(0, .int a1)] := hl
  refine lv_iload_n hx hb dLF_offsetJ_0 rfl (lv_at hl 0 rfl) ?_
  refine lv_bipush (v := 31) hx hb dLF_offsetJ_1 (by decide) ?_
  refine lv_iconst (v := 1) hx hb dLF_offsetJ_3 (by decide) ?_
  refine mk_callR (va_runS (As := [.int a1, .int 31, .int 1]) (rest := []) ⟨hx, hb, hml, hown, hts⟩ (hc_Bits_part l s.heap a1 31 1) (va_cwS 3 hts (mk_gS tw_164 tw_165 tw_55 tw_166) rfl rfl rfl hdBits_part.2 ⟨Nat.le_of_ble_eq_true rfl, Nat.le_of_ble_eq_true rfl⟩) mk_preS rfl rfl hl.1 rfl (lv_room (Nat.le_of_ble_eq_true rfl)) dLF_offsetJ_4 ⟨Nat.zero_le _, Nat.zero_le _⟩) ?_
  refine lv_bipush (v := 20) hx hb dLF_offsetJ_7 (by decide) ?_
  refine lv_ishl hx hb dLF_offsetJ_9 ?_
  refine lv_iload_n hx hb dLF_offsetJ_10 rfl (lv_at hl 0 rfl) ?_
  refine lv_bipush (v := 12) hx hb dLF_offsetJ_11 (by decide) ?_
  refine lv_bipush (v := 8) hx hb dLF_offsetJ_13 (by decide) ?_
  refine mk_callR (va_runS (As := [.int a1, .int 12, .int 8]) (rest := [.int ((hf_Bits_part a1 31 1) <<< (20 &&& 31))]) ⟨hx, hb, hml, hown, hts⟩ (hc_Bits_part l s.heap a1 12 8) (va_cwS 3 hts (mk_gS tw_164 tw_165 tw_55 tw_166) rfl rfl rfl hdBits_part.2 ⟨Nat.le_of_ble_eq_true rfl, Nat.le_of_ble_eq_true rfl⟩) mk_preS rfl rfl hl.1 rfl (lv_room (Nat.le_of_ble_eq_true rfl)) dLF_offsetJ_15 ⟨Nat.zero_le _, Nat.zero_le _⟩) ?_
  refine lv_bipush (v := 12) hx hb dLF_offsetJ_18 (by decide) ?_
  refine lv_ishl hx hb dLF_offsetJ_20 ?_
  refine lv_ior hx hb dLF_offsetJ_21 ?_
  refine lv_iload_n hx hb dLF_offsetJ_22 rfl (lv_at hl 0 rfl) ?_
  refine lv_bipush (v := 20) hx hb dLF_offsetJ_23 (by decide) ?_
  refine lv_iconst (v := 1) hx hb dLF_offsetJ_25 (by decide) ?_
  refine mk_callR (va_runS (As := [.int a1, .int 20, .int 1]) (rest := [.int (((hf_Bits_part a1 31 1) <<< (20 &&& 31)) ||| ((hf_Bits_part a1 12 8) <<< (12 &&& 31)))]) ⟨hx, hb, hml, hown, hts⟩ (hc_Bits_part l s.heap a1 20 1) (va_cwS 3 hts (mk_gS tw_164 tw_165 tw_55 tw_166) rfl rfl rfl hdBits_part.2 ⟨Nat.le_of_ble_eq_true rfl, Nat.le_of_ble_eq_true rfl⟩) mk_preS rfl rfl hl.1 rfl (lv_room (Nat.le_of_ble_eq_true rfl)) dLF_offsetJ_26 ⟨Nat.zero_le _, Nat.zero_le _⟩) ?_
  refine lv_bipush (v := 11) hx hb dLF_offsetJ_29 (by decide) ?_
  refine lv_ishl hx hb dLF_offsetJ_31 ?_
  refine lv_ior hx hb dLF_offsetJ_32 ?_
  refine lv_iload_n hx hb dLF_offsetJ_33 rfl (lv_at hl 0 rfl) ?_
  refine lv_bipush (v := 21) hx hb dLF_offsetJ_34 (by decide) ?_
  refine lv_bipush (v := 10) hx hb dLF_offsetJ_36 (by decide) ?_
  refine mk_callR (va_runS (As := [.int a1, .int 21, .int 10]) (rest := [.int ((((hf_Bits_part a1 31 1) <<< (20 &&& 31)) ||| ((hf_Bits_part a1 12 8) <<< (12 &&& 31))) ||| ((hf_Bits_part a1 20 1) <<< (11 &&& 31)))]) ⟨hx, hb, hml, hown, hts⟩ (hc_Bits_part l s.heap a1 21 10) (va_cwS 3 hts (mk_gS tw_164 tw_165 tw_55 tw_166) rfl rfl rfl hdBits_part.2 ⟨Nat.le_of_ble_eq_true rfl, Nat.le_of_ble_eq_true rfl⟩) mk_preS rfl rfl hl.1 rfl (lv_room (Nat.le_of_ble_eq_true rfl)) dLF_offsetJ_38 ⟨Nat.zero_le _, Nat.zero_le _⟩) ?_
  refine lv_iconst (v := 1) hx hb dLF_offsetJ_41 (by decide) ?_
  refine lv_ishl hx hb dLF_offsetJ_42 ?_
  refine lv_ior hx hb dLF_offsetJ_43 ?_
  refine lv_istore_n (lv' := [(1, .int (((((hf_Bits_part a1 31 1) <<< (20 &&& 31)) ||| ((hf_Bits_part a1 12 8) <<< (12 &&& 31))) ||| ((hf_Bits_part a1 20 1) <<< (11 &&& 31))) ||| ((hf_Bits_part a1 21 10) <<< (1 &&& 31)))), (0, .int a1)]) hx hb dLF_offsetJ_44 rfl hl (by decide) rfl (fun ls hl => ?_)
  refine lv_iload_n hx hb dLF_offsetJ_45 rfl (lv_at hl 0 rfl) ?_
  refine lv_bipush (v := 21) hx hb dLF_offsetJ_46 (by decide) ?_
  refine mk_callR (va_runS (As := [.int (((((hf_Bits_part a1 31 1) <<< (20 &&& 31)) ||| ((hf_Bits_part a1 12 8) <<< (12 &&& 31))) ||| ((hf_Bits_part a1 20 1) <<< (11 &&& 31))) ||| ((hf_Bits_part a1 21 10) <<< (1 &&& 31))), .int 21]) (rest := []) ⟨hx, hb, hml, hown, hts⟩ (hc_Bits_signed l s.heap (((((hf_Bits_part a1 31 1) <<< (20 &&& 31)) ||| ((hf_Bits_part a1 12 8) <<< (12 &&& 31))) ||| ((hf_Bits_part a1 20 1) <<< (11 &&& 31))) ||| ((hf_Bits_part a1 21 10) <<< (1 &&& 31))) 21) (va_cwS 2 hts (mk_gS tw_177 tw_178 tw_55 tw_179) rfl rfl rfl hdBits_signed.2 ⟨Nat.le_of_ble_eq_true rfl, Nat.le_of_ble_eq_true rfl⟩) mk_preS rfl rfl hl.1 rfl (lv_room (Nat.le_of_ble_eq_true rfl)) dLF_offsetJ_48 ⟨Nat.zero_le _, Nat.zero_le _⟩) ?_
  exact W.iret hx hb hr (fun t ht hW => ⟨⟨_, (), rfl, rfl, ht⟩, mk_F ht⟩) (fun q h => nomatch h) dLF_offsetJ_51
set_option maxHeartbeats 4000000 in
set_option maxRecDepth 100000 in
theorem hc_LongForm_f (l : Launch) (G : Heap) (a1 : Int32)  : Met l yLF_f (wq yLF_f cLF_f 1 (some .int)) ({ frames := 1, cells := 0, slots := 0, locals := 22 }) (mk_P G [.int a1]) (mk_Qi G (hf_LongForm_f a1)) 0 0 (fun _ => False) := by
  refine Met.ofW (cc := cLF_f) (maxL := 1) (ret := (some .int)) (by decide) rfl ?_
  intro p e s m args below meth c s₁ B hml hv
  obtain ⟨rfl, hG⟩ := hv
  subst hG
  have hx := B.exec
  have hb := B.bytes
  have hr := B.returns
  have hts := atoms_spec (ws := (wq yLF_f cLF_f 1 (some .int))) B.pre
  have hown : s.vm.findClass RLF = some m.cls := findClass_of_methodNamed B.named
  have hlocks := B.notSynchronized
  have hg : ∀ w ∈ lw_g, w.before _ s = true := fun w h => hts w (List.mem_cons_of_mem _ h)
  have hl := lv_entry ([.int a1]) (n := 1) (Nat.le_of_ble_eq_true rfl)
  rw [lg_entry_eq]
  generalize (lg_sl ([.int a1]) ++ List.replicate (1 - (lg_sl ([.int a1])).length) Slot.unset).toArray = ls at hl ⊢
  have hl : lv_has ls 1 [(0, .int a1)] := hl
  refine lv_iload_n hx hb dLF_f_0 rfl (lv_at hl 0 rfl) ?_
  refine lv_bipush (v := 12) hx hb dLF_f_1 (by decide) ?_
  refine lv_iconst (v := 3) hx hb dLF_f_3 (by decide) ?_
  refine mk_callR (va_runS (As := [.int a1, .int 12, .int 3]) (rest := []) ⟨hx, hb, hml, hown, hts⟩ (hc_Bits_part l s.heap a1 12 3) (va_cwS 3 hts (mk_gS tw_164 tw_165 tw_55 tw_166) rfl rfl rfl hdBits_part.2 ⟨Nat.le_of_ble_eq_true rfl, Nat.le_of_ble_eq_true rfl⟩) mk_preS rfl rfl hl.1 rfl (lv_room (Nat.le_of_ble_eq_true rfl)) dLF_f_4 ⟨Nat.zero_le _, Nat.zero_le _⟩) ?_
  exact W.iret hx hb hr (fun t ht hW => ⟨⟨_, (), rfl, rfl, ht⟩, mk_F ht⟩) (fun q h => nomatch h) dLF_f_7
set_option maxHeartbeats 4000000 in
set_option maxRecDepth 100000 in
theorem hc_LongForm_a (l : Launch) (G : Heap) (a1 : Int32)  : Met l yLF_a (wq yLF_a cLF_a 1 (some .int)) ({ frames := 1, cells := 0, slots := 0, locals := 22 }) (mk_P G [.int a1]) (mk_Qi G (hf_LongForm_a a1)) 0 0 (fun _ => False) := by
  refine Met.ofW (cc := cLF_a) (maxL := 1) (ret := (some .int)) (by decide) rfl ?_
  intro p e s m args below meth c s₁ B hml hv
  obtain ⟨rfl, hG⟩ := hv
  subst hG
  have hx := B.exec
  have hb := B.bytes
  have hr := B.returns
  have hts := atoms_spec (ws := (wq yLF_a cLF_a 1 (some .int))) B.pre
  have hown : s.vm.findClass RLF = some m.cls := findClass_of_methodNamed B.named
  have hlocks := B.notSynchronized
  have hg : ∀ w ∈ lw_g, w.before _ s = true := fun w h => hts w (List.mem_cons_of_mem _ h)
  have hl := lv_entry ([.int a1]) (n := 1) (Nat.le_of_ble_eq_true rfl)
  rw [lg_entry_eq]
  generalize (lg_sl ([.int a1]) ++ List.replicate (1 - (lg_sl ([.int a1])).length) Slot.unset).toArray = ls at hl ⊢
  have hl : lv_has ls 1 [(0, .int a1)] := hl
  refine lv_iload_n hx hb dLF_a_0 rfl (lv_at hl 0 rfl) ?_
  refine lv_bipush (v := 15) hx hb dLF_a_1 (by decide) ?_
  refine lv_iconst (v := 5) hx hb dLF_a_3 (by decide) ?_
  refine mk_callR (va_runS (As := [.int a1, .int 15, .int 5]) (rest := []) ⟨hx, hb, hml, hown, hts⟩ (hc_Bits_part l s.heap a1 15 5) (va_cwS 3 hts (mk_gS tw_164 tw_165 tw_55 tw_166) rfl rfl rfl hdBits_part.2 ⟨Nat.le_of_ble_eq_true rfl, Nat.le_of_ble_eq_true rfl⟩) mk_preS rfl rfl hl.1 rfl (lv_room (Nat.le_of_ble_eq_true rfl)) dLF_a_4 ⟨Nat.zero_le _, Nat.zero_le _⟩) ?_
  exact W.iret hx hb hr (fun t ht hW => ⟨⟨_, (), rfl, rfl, ht⟩, mk_F ht⟩) (fun q h => nomatch h) dLF_a_7
set_option maxHeartbeats 4000000 in
set_option maxRecDepth 100000 in
theorem hc_LongForm_numberI (l : Launch) (G : Heap) (a1 : Int32)  : Met l yLF_numberI (wq yLF_numberI cLF_numberI 1 (some .int)) ({ frames := 0, cells := 0, slots := 0, locals := 0 }) (mk_P G [.int a1]) (mk_Qi G (hf_LongForm_numberI a1)) 0 0 (fun _ => False) := by
  refine Met.ofW (cc := cLF_numberI) (maxL := 1) (ret := (some .int)) (by decide) rfl ?_
  intro p e s m args below meth c s₁ B hml hv
  obtain ⟨rfl, hG⟩ := hv
  subst hG
  have hx := B.exec
  have hb := B.bytes
  have hr := B.returns
  have hts := atoms_spec (ws := (wq yLF_numberI cLF_numberI 1 (some .int))) B.pre
  have hown : s.vm.findClass RLF = some m.cls := findClass_of_methodNamed B.named
  have hlocks := B.notSynchronized
  have hg : ∀ w ∈ lw_g, w.before _ s = true := fun w h => hts w (List.mem_cons_of_mem _ h)
  have hl := lv_entry ([.int a1]) (n := 1) (Nat.le_of_ble_eq_true rfl)
  rw [lg_entry_eq]
  generalize (lg_sl ([.int a1]) ++ List.replicate (1 - (lg_sl ([.int a1])).length) Slot.unset).toArray = ls at hl ⊢
  have hl : lv_has ls 1 [(0, .int a1)] := hl
  refine lv_iload_n hx hb dLF_numberI_0 rfl (lv_at hl 0 rfl) ?_
  refine lv_bipush (v := 20) hx hb dLF_numberI_1 (by decide) ?_
  refine lv_ishr hx hb dLF_numberI_3 ?_
  exact W.iret hx hb hr (fun t ht hW => ⟨⟨_, (), rfl, rfl, ht⟩, mk_F ht⟩) (fun q h => nomatch h) dLF_numberI_4
set_option maxHeartbeats 4000000 in
set_option maxRecDepth 100000 in
theorem hc_LongForm_b (l : Launch) (G : Heap) (a1 : Int32)  : Met l yLF_b (wq yLF_b cLF_b 1 (some .int)) ({ frames := 1, cells := 0, slots := 0, locals := 22 }) (mk_P G [.int a1]) (mk_Qi G (hf_LongForm_b a1)) 0 0 (fun _ => False) := by
  refine Met.ofW (cc := cLF_b) (maxL := 1) (ret := (some .int)) (by decide) rfl ?_
  intro p e s m args below meth c s₁ B hml hv
  obtain ⟨rfl, hG⟩ := hv
  subst hG
  have hx := B.exec
  have hb := B.bytes
  have hr := B.returns
  have hts := atoms_spec (ws := (wq yLF_b cLF_b 1 (some .int))) B.pre
  have hown : s.vm.findClass RLF = some m.cls := findClass_of_methodNamed B.named
  have hlocks := B.notSynchronized
  have hg : ∀ w ∈ lw_g, w.before _ s = true := fun w h => hts w (List.mem_cons_of_mem _ h)
  have hl := lv_entry ([.int a1]) (n := 1) (Nat.le_of_ble_eq_true rfl)
  rw [lg_entry_eq]
  generalize (lg_sl ([.int a1]) ++ List.replicate (1 - (lg_sl ([.int a1])).length) Slot.unset).toArray = ls at hl ⊢
  have hl : lv_has ls 1 [(0, .int a1)] := hl
  refine lv_iload_n hx hb dLF_b_0 rfl (lv_at hl 0 rfl) ?_
  refine lv_bipush (v := 20) hx hb dLF_b_1 (by decide) ?_
  refine lv_iconst (v := 5) hx hb dLF_b_3 (by decide) ?_
  refine mk_callR (va_runS (As := [.int a1, .int 20, .int 5]) (rest := []) ⟨hx, hb, hml, hown, hts⟩ (hc_Bits_part l s.heap a1 20 5) (va_cwS 3 hts (mk_gS tw_164 tw_165 tw_55 tw_166) rfl rfl rfl hdBits_part.2 ⟨Nat.le_of_ble_eq_true rfl, Nat.le_of_ble_eq_true rfl⟩) mk_preS rfl rfl hl.1 rfl (lv_room (Nat.le_of_ble_eq_true rfl)) dLF_b_4 ⟨Nat.zero_le _, Nat.zero_le _⟩) ?_
  exact W.iret hx hb hr (fun t ht hW => ⟨⟨_, (), rfl, rfl, ht⟩, mk_F ht⟩) (fun q h => nomatch h) dLF_b_7
set_option maxHeartbeats 4000000 in
set_option maxRecDepth 100000 in
theorem hc_LongForm_offsetT (l : Launch) (G : Heap) (a1 : Int32)  : Met l yLF_offsetT (wq yLF_offsetT cLF_offsetT 2 (some .int)) ({ frames := 1, cells := 0, slots := 0, locals := 22 }) (mk_P G [.int a1]) (mk_Qi G (hf_LongForm_offsetT a1)) 0 0 (fun _ => False) := by
  refine Met.ofW (cc := cLF_offsetT) (maxL := 2) (ret := (some .int)) (by decide) rfl ?_
  intro p e s m args below meth c s₁ B hml hv
  obtain ⟨rfl, hG⟩ := hv
  subst hG
  have hx := B.exec
  have hb := B.bytes
  have hr := B.returns
  have hts := atoms_spec (ws := (wq yLF_offsetT cLF_offsetT 2 (some .int))) B.pre
  have hown : s.vm.findClass RLF = some m.cls := findClass_of_methodNamed B.named
  have hlocks := B.notSynchronized
  have hg : ∀ w ∈ lw_g, w.before _ s = true := fun w h => hts w (List.mem_cons_of_mem _ h)
  have hl := lv_entry ([.int a1]) (n := 2) (Nat.le_of_ble_eq_true rfl)
  rw [lg_entry_eq]
  generalize (lg_sl ([.int a1]) ++ List.replicate (2 - (lg_sl ([.int a1])).length) Slot.unset).toArray = ls at hl ⊢
  have hl : lv_has ls 2 [(0, .int a1)] := hl
  refine lv_iload_n hx hb dLF_offsetT_0 rfl (lv_at hl 0 rfl) ?_
  refine lv_bipush (v := 31) hx hb dLF_offsetT_1 (by decide) ?_
  refine lv_iconst (v := 1) hx hb dLF_offsetT_3 (by decide) ?_
  refine mk_callR (va_runS (As := [.int a1, .int 31, .int 1]) (rest := []) ⟨hx, hb, hml, hown, hts⟩ (hc_Bits_part l s.heap a1 31 1) (va_cwS 3 hts (mk_gS tw_164 tw_165 tw_55 tw_166) rfl rfl rfl hdBits_part.2 ⟨Nat.le_of_ble_eq_true rfl, Nat.le_of_ble_eq_true rfl⟩) mk_preS rfl rfl hl.1 rfl (lv_room (Nat.le_of_ble_eq_true rfl)) dLF_offsetT_4 ⟨Nat.zero_le _, Nat.zero_le _⟩) ?_
  refine lv_bipush (v := 12) hx hb dLF_offsetT_7 (by decide) ?_
  refine lv_ishl hx hb dLF_offsetT_9 ?_
  refine lv_iload_n hx hb dLF_offsetT_10 rfl (lv_at hl 0 rfl) ?_
  refine lv_bipush (v := 7) hx hb dLF_offsetT_11 (by decide) ?_
  refine lv_iconst (v := 1) hx hb dLF_offsetT_13 (by decide) ?_
  refine mk_callR (va_runS (As := [.int a1, .int 7, .int 1]) (rest := [.int ((hf_Bits_part a1 31 1) <<< (12 &&& 31))]) ⟨hx, hb, hml, hown, hts⟩ (hc_Bits_part l s.heap a1 7 1) (va_cwS 3 hts (mk_gS tw_164 tw_165 tw_55 tw_166) rfl rfl rfl hdBits_part.2 ⟨Nat.le_of_ble_eq_true rfl, Nat.le_of_ble_eq_true rfl⟩) mk_preS rfl rfl hl.1 rfl (lv_room (Nat.le_of_ble_eq_true rfl)) dLF_offsetT_14 ⟨Nat.zero_le _, Nat.zero_le _⟩) ?_
  refine lv_bipush (v := 11) hx hb dLF_offsetT_17 (by decide) ?_
  refine lv_ishl hx hb dLF_offsetT_19 ?_
  refine lv_ior hx hb dLF_offsetT_20 ?_
  refine lv_iload_n hx hb dLF_offsetT_21 rfl (lv_at hl 0 rfl) ?_
  refine lv_bipush (v := 25) hx hb dLF_offsetT_22 (by decide) ?_
  refine lv_bipush (v := 6) hx hb dLF_offsetT_24 (by decide) ?_
  refine mk_callR (va_runS (As := [.int a1, .int 25, .int 6]) (rest := [.int (((hf_Bits_part a1 31 1) <<< (12 &&& 31)) ||| ((hf_Bits_part a1 7 1) <<< (11 &&& 31)))]) ⟨hx, hb, hml, hown, hts⟩ (hc_Bits_part l s.heap a1 25 6) (va_cwS 3 hts (mk_gS tw_164 tw_165 tw_55 tw_166) rfl rfl rfl hdBits_part.2 ⟨Nat.le_of_ble_eq_true rfl, Nat.le_of_ble_eq_true rfl⟩) mk_preS rfl rfl hl.1 rfl (lv_room (Nat.le_of_ble_eq_true rfl)) dLF_offsetT_26 ⟨Nat.zero_le _, Nat.zero_le _⟩) ?_
  refine lv_iconst (v := 5) hx hb dLF_offsetT_29 (by decide) ?_
  refine lv_ishl hx hb dLF_offsetT_30 ?_
  refine lv_ior hx hb dLF_offsetT_31 ?_
  refine lv_iload_n hx hb dLF_offsetT_32 rfl (lv_at hl 0 rfl) ?_
  refine lv_bipush (v := 8) hx hb dLF_offsetT_33 (by decide) ?_
  refine lv_iconst (v := 4) hx hb dLF_offsetT_35 (by decide) ?_
  refine mk_callR (va_runS (As := [.int a1, .int 8, .int 4]) (rest := [.int ((((hf_Bits_part a1 31 1) <<< (12 &&& 31)) ||| ((hf_Bits_part a1 7 1) <<< (11 &&& 31))) ||| ((hf_Bits_part a1 25 6) <<< (5 &&& 31)))]) ⟨hx, hb, hml, hown, hts⟩ (hc_Bits_part l s.heap a1 8 4) (va_cwS 3 hts (mk_gS tw_164 tw_165 tw_55 tw_166) rfl rfl rfl hdBits_part.2 ⟨Nat.le_of_ble_eq_true rfl, Nat.le_of_ble_eq_true rfl⟩) mk_preS rfl rfl hl.1 rfl (lv_room (Nat.le_of_ble_eq_true rfl)) dLF_offsetT_36 ⟨Nat.zero_le _, Nat.zero_le _⟩) ?_
  refine lv_iconst (v := 1) hx hb dLF_offsetT_39 (by decide) ?_
  refine lv_ishl hx hb dLF_offsetT_40 ?_
  refine lv_ior hx hb dLF_offsetT_41 ?_
  refine lv_istore_n (lv' := [(1, .int (((((hf_Bits_part a1 31 1) <<< (12 &&& 31)) ||| ((hf_Bits_part a1 7 1) <<< (11 &&& 31))) ||| ((hf_Bits_part a1 25 6) <<< (5 &&& 31))) ||| ((hf_Bits_part a1 8 4) <<< (1 &&& 31)))), (0, .int a1)]) hx hb dLF_offsetT_42 rfl hl (by decide) rfl (fun ls hl => ?_)
  refine lv_iload_n hx hb dLF_offsetT_43 rfl (lv_at hl 0 rfl) ?_
  refine lv_bipush (v := 13) hx hb dLF_offsetT_44 (by decide) ?_
  refine mk_callR (va_runS (As := [.int (((((hf_Bits_part a1 31 1) <<< (12 &&& 31)) ||| ((hf_Bits_part a1 7 1) <<< (11 &&& 31))) ||| ((hf_Bits_part a1 25 6) <<< (5 &&& 31))) ||| ((hf_Bits_part a1 8 4) <<< (1 &&& 31))), .int 13]) (rest := []) ⟨hx, hb, hml, hown, hts⟩ (hc_Bits_signed l s.heap (((((hf_Bits_part a1 31 1) <<< (12 &&& 31)) ||| ((hf_Bits_part a1 7 1) <<< (11 &&& 31))) ||| ((hf_Bits_part a1 25 6) <<< (5 &&& 31))) ||| ((hf_Bits_part a1 8 4) <<< (1 &&& 31))) 13) (va_cwS 2 hts (mk_gS tw_177 tw_178 tw_55 tw_179) rfl rfl rfl hdBits_signed.2 ⟨Nat.le_of_ble_eq_true rfl, Nat.le_of_ble_eq_true rfl⟩) mk_preS rfl rfl hl.1 rfl (lv_room (Nat.le_of_ble_eq_true rfl)) dLF_offsetT_46 ⟨Nat.zero_le _, Nat.zero_le _⟩) ?_
  exact W.iret hx hb hr (fun t ht hW => ⟨⟨_, (), rfl, rfl, ht⟩, mk_F ht⟩) (fun q h => nomatch h) dLF_offsetT_49
set_option maxHeartbeats 4000000 in
set_option maxRecDepth 100000 in
theorem hc_Arithmetic_isBelow (l : Launch) (G : Heap) (a1 : Int32) (a2 : Int32)  : Met l yAr_isBelow (wq yAr_isBelow cAr_isBelow 2 (some .boolean)) ({ frames := 0, cells := 0, slots := 0, locals := 0 }) (mk_P G [.int a1, .int a2]) (mk_Qi G (hf_Arithmetic_isBelow a1 a2)) 0 0 (fun _ => False) := by
  refine Met.ofW (cc := cAr_isBelow) (maxL := 2) (ret := (some .boolean)) (by decide) rfl ?_
  intro p e s m args below meth c s₁ B hml hv
  obtain ⟨rfl, hG⟩ := hv
  subst hG
  have hx := B.exec
  have hb := B.bytes
  have hr := B.returns
  have hts := atoms_spec (ws := (wq yAr_isBelow cAr_isBelow 2 (some .boolean))) B.pre
  have hown : s.vm.findClass RAr = some m.cls := findClass_of_methodNamed B.named
  have hlocks := B.notSynchronized
  have hg : ∀ w ∈ lw_g, w.before _ s = true := fun w h => hts w (List.mem_cons_of_mem _ h)
  have hl := lv_entry ([.int a1, .int a2]) (n := 2) (Nat.le_of_ble_eq_true rfl)
  rw [lg_entry_eq]
  generalize (lg_sl ([.int a1, .int a2]) ++ List.replicate (2 - (lg_sl ([.int a1, .int a2])).length) Slot.unset).toArray = ls at hl ⊢
  have hl : lv_has ls 2 [(0, .int a1), (1, .int a2)] := hl
  refine lv_iload_n hx hb dAr_isBelow_0 rfl (lv_at hl 0 rfl) ?_
  refine lv_i2l (v := a1.toInt64) hx hb dAr_isBelow_1 rfl ?_
  refine lv_ldc2 (v := 4294967295) hx hb hown (hg _ tw_214) dAr_isBelow_2 ?_
  refine lv_land hx hb dAr_isBelow_5 ?_
  refine lv_iload_n hx hb dAr_isBelow_6 rfl (lv_at hl 1 rfl) ?_
  refine lv_i2l (v := a2.toInt64) hx hb dAr_isBelow_7 rfl ?_
  refine lv_ldc2 (v := 4294967295) hx hb hown (hg _ tw_214) dAr_isBelow_8 ?_
  refine lv_land hx hb dAr_isBelow_11 ?_
  refine W.lcmp hx hb dAr_isBelow_12 ?_
  refine lv_if_ge (tgt := 20) hx hb dAr_isBelow_13 (by decide) (fun c_1 => ?_) (fun c_1 => ?_)
  · refine lv_iconst (v := 0) hx hb dAr_isBelow_20 (by decide) ?_
    exact W.zret hx hb hr rfl (fun t ht hW => ⟨⟨_, (), rfl, (by unfold hf_Arithmetic_isBelow; rw [if_pos c_1]), ht⟩, mk_F ht⟩) (fun q h => nomatch h) dAr_isBelow_21
  · refine lv_iconst (v := 1) hx hb dAr_isBelow_16 (by decide) ?_
    refine lv_goto (tgt := 21) hx hb dAr_isBelow_17 (by decide) ?_
    exact W.zret hx hb hr rfl (fun t ht hW => ⟨⟨_, (), rfl, (by unfold hf_Arithmetic_isBelow; rw [if_neg c_1]), ht⟩, mk_F ht⟩) (fun q h => nomatch h) dAr_isBelow_21
set_option maxHeartbeats 4000000 in
set_option maxRecDepth 100000 in
theorem hc_LongForm_g (l : Launch) (G : Heap) (a1 : Int32)  : Met l yLF_g (wq yLF_g cLF_g 1 (some .int)) ({ frames := 1, cells := 0, slots := 0, locals := 22 }) (mk_P G [.int a1]) (mk_Qi G (hf_LongForm_g a1)) 0 0 (fun _ => False) := by
  refine Met.ofW (cc := cLF_g) (maxL := 1) (ret := (some .int)) (by decide) rfl ?_
  intro p e s m args below meth c s₁ B hml hv
  obtain ⟨rfl, hG⟩ := hv
  subst hG
  have hx := B.exec
  have hb := B.bytes
  have hr := B.returns
  have hts := atoms_spec (ws := (wq yLF_g cLF_g 1 (some .int))) B.pre
  have hown : s.vm.findClass RLF = some m.cls := findClass_of_methodNamed B.named
  have hlocks := B.notSynchronized
  have hg : ∀ w ∈ lw_g, w.before _ s = true := fun w h => hts w (List.mem_cons_of_mem _ h)
  have hl := lv_entry ([.int a1]) (n := 1) (Nat.le_of_ble_eq_true rfl)
  rw [lg_entry_eq]
  generalize (lg_sl ([.int a1]) ++ List.replicate (1 - (lg_sl ([.int a1])).length) Slot.unset).toArray = ls at hl ⊢
  have hl : lv_has ls 1 [(0, .int a1)] := hl
  refine lv_iload_n hx hb dLF_g_0 rfl (lv_at hl 0 rfl) ?_
  refine lv_bipush (v := 25) hx hb dLF_g_1 (by decide) ?_
  refine lv_bipush (v := 7) hx hb dLF_g_3 (by decide) ?_
  refine mk_callR (va_runS (As := [.int a1, .int 25, .int 7]) (rest := []) ⟨hx, hb, hml, hown, hts⟩ (hc_Bits_part l s.heap a1 25 7) (va_cwS 3 hts (mk_gS tw_164 tw_165 tw_55 tw_166) rfl rfl rfl hdBits_part.2 ⟨Nat.le_of_ble_eq_true rfl, Nat.le_of_ble_eq_true rfl⟩) mk_preS rfl rfl hl.1 rfl (lv_room (Nat.le_of_ble_eq_true rfl)) dLF_g_5 ⟨Nat.zero_le _, Nat.zero_le _⟩) ?_
  exact W.iret hx hb hr (fun t ht hW => ⟨⟨_, (), rfl, rfl, ht⟩, mk_F ht⟩) (fun q h => nomatch h) dLF_g_8
set_option maxHeartbeats 4000000 in
set_option maxRecDepth 100000 in
theorem hc_LongForm_numberS (l : Launch) (G : Heap) (a1 : Int32)  : Met l yLF_numberS (wq yLF_numberS cLF_numberS 1 (some .int)) ({ frames := 2, cells := 0, slots := 0, locals := 42 }) (mk_P G [.int a1]) (mk_Qi G (hf_LongForm_numberS a1)) 0 0 (fun _ => False) := by
  refine Met.ofW (cc := cLF_numberS) (maxL := 1) (ret := (some .int)) (by decide) rfl ?_
  intro p e s m args below meth c s₁ B hml hv
  obtain ⟨rfl, hG⟩ := hv
  subst hG
  have hx := B.exec
  have hb := B.bytes
  have hr := B.returns
  have hts := atoms_spec (ws := (wq yLF_numberS cLF_numberS 1 (some .int))) B.pre
  have hown : s.vm.findClass RLF = some m.cls := findClass_of_methodNamed B.named
  have hlocks := B.notSynchronized
  have hg : ∀ w ∈ lw_g, w.before _ s = true := fun w h => hts w (List.mem_cons_of_mem _ h)
  have hl := lv_entry ([.int a1]) (n := 1) (Nat.le_of_ble_eq_true rfl)
  rw [lg_entry_eq]
  generalize (lg_sl ([.int a1]) ++ List.replicate (1 - (lg_sl ([.int a1])).length) Slot.unset).toArray = ls at hl ⊢
  have hl : lv_has ls 1 [(0, .int a1)] := hl
  refine lv_iload_n hx hb dLF_numberS_0 rfl (lv_at hl 0 rfl) ?_
  refine mk_callR (va_runS (As := [.int a1]) (rest := []) ⟨hx, hb, hml, hown, hts⟩ (hc_LongForm_g l s.heap a1) (va_cwS 1 hts (mk_gS tw_232 tw_233 tw_54 tw_234) rfl rfl rfl hdLF_g.2 ⟨Nat.le_of_ble_eq_true rfl, Nat.le_of_ble_eq_true rfl⟩) mk_preS rfl rfl hl.1 rfl (lv_room (Nat.le_of_ble_eq_true rfl)) dLF_numberS_1 ⟨Nat.zero_le _, Nat.zero_le _⟩) ?_
  refine lv_iconst (v := 5) hx hb dLF_numberS_4 (by decide) ?_
  refine lv_ishl hx hb dLF_numberS_5 ?_
  refine lv_iload_n hx hb dLF_numberS_6 rfl (lv_at hl 0 rfl) ?_
  refine mk_callR (va_runS (As := [.int a1]) (rest := [.int ((hf_LongForm_g a1) <<< (5 &&& 31))]) ⟨hx, hb, hml, hown, hts⟩ (hc_LongForm_d l s.heap a1) (va_cwS 1 hts (mk_gS tw_235 tw_162 tw_54 tw_163) rfl rfl rfl hdLF_d.2 ⟨Nat.le_of_ble_eq_true rfl, Nat.le_of_ble_eq_true rfl⟩) mk_preS rfl rfl hl.1 rfl (lv_room (Nat.le_of_ble_eq_true rfl)) dLF_numberS_7 ⟨Nat.zero_le _, Nat.zero_le _⟩) ?_
  refine lv_ior hx hb dLF_numberS_10 ?_
  refine lv_bipush (v := 12) hx hb dLF_numberS_11 (by decide) ?_
  refine mk_callR (va_runS (As := [.int (((hf_LongForm_g a1) <<< (5 &&& 31)) ||| (hf_LongForm_d a1)), .int 12]) (rest := []) ⟨hx, hb, hml, hown, hts⟩ (hc_Bits_signed l s.heap (((hf_LongForm_g a1) <<< (5 &&& 31)) ||| (hf_LongForm_d a1)) 12) (va_cwS 2 hts (mk_gS tw_177 tw_178 tw_55 tw_179) rfl rfl rfl hdBits_signed.2 ⟨Nat.le_of_ble_eq_true rfl, Nat.le_of_ble_eq_true rfl⟩) mk_preS rfl rfl hl.1 rfl (lv_room (Nat.le_of_ble_eq_true rfl)) dLF_numberS_13 ⟨Nat.zero_le _, Nat.zero_le _⟩) ?_
  exact W.iret hx hb hr (fun t ht hW => ⟨⟨_, (), rfl, rfl, ht⟩, mk_F ht⟩) (fun q h => nomatch h) dLF_numberS_16
set_option maxHeartbeats 4000000 in
set_option maxRecDepth 100000 in
theorem hc_Arithmetic_plain (l : Launch) (G : Heap) (a1 : Int32) (a2 : Int32) (a3 : Int32)  : Met l yAr_plain (wq yAr_plain cAr_plain 3 (some .int)) ({ frames := 1, cells := 0, slots := 0, locals := 21 }) (mk_P G [.int a1, .int a2, .int a3]) (mk_Qi G (hf_Arithmetic_plain a1 a2 a3)) 0 0 (fun _ => False) := by
  refine Met.ofW (cc := cAr_plain) (maxL := 3) (ret := (some .int)) (by decide) rfl ?_
  intro p e s m args below meth c s₁ B hml hv
  obtain ⟨rfl, hG⟩ := hv
  subst hG
  have hx := B.exec
  have hb := B.bytes
  have hr := B.returns
  have hts := atoms_spec (ws := (wq yAr_plain cAr_plain 3 (some .int))) B.pre
  have hown : s.vm.findClass RAr = some m.cls := findClass_of_methodNamed B.named
  have hlocks := B.notSynchronized
  have hg : ∀ w ∈ lw_g, w.before _ s = true := fun w h => hts w (List.mem_cons_of_mem _ h)
  have hl := lv_entry ([.int a1, .int a2, .int a3]) (n := 3) (Nat.le_of_ble_eq_true rfl)
  rw [lg_entry_eq]
  generalize (lg_sl ([.int a1, .int a2, .int a3]) ++ List.replicate (3 - (lg_sl ([.int a1, .int a2, .int a3])).length) Slot.unset).toArray = ls at hl ⊢
  have hl : lv_has ls 3 [(0, .int a1), (1, .int a2), (2, .int a3)] := hl
  refine lv_iload_n hx hb dAr_plain_0 rfl (lv_at hl 0 rfl) ?_
  by_cases c_1 : a1 = 0
  · refine lv_tableIn (tgt := 44) hx hb dAr_plain_1 (by rw [c_1]; decide) (by rw [c_1]; decide) (by rw [c_1]; rfl) (by decide) ?_
    refine lv_iload_n hx hb dAr_plain_44 rfl (lv_at hl 1 rfl) ?_
    refine lv_iload_n hx hb dAr_plain_45 rfl (lv_at hl 2 rfl) ?_
    refine lv_iadd hx hb dAr_plain_46 ?_
    exact W.iret hx hb hr (fun t ht hW => ⟨⟨_, (), rfl, (by unfold hf_Arithmetic_plain; rw [if_pos c_1]), ht⟩, mk_F ht⟩) (fun q h => nomatch h) dAr_plain_47
  by_cases c_2 : a1 = 1
  · refine lv_tableIn (tgt := 48) hx hb dAr_plain_1 (by rw [c_2]; decide) (by rw [c_2]; decide) (by rw [c_2]; rfl) (by decide) ?_
    refine lv_iload_n hx hb dAr_plain_48 rfl (lv_at hl 1 rfl) ?_
    refine lv_iload_n hx hb dAr_plain_49 rfl (lv_at hl 2 rfl) ?_
    refine lv_bipush (v := 31) hx hb dAr_plain_50 (by decide) ?_
    refine lv_iand hx hb dAr_plain_52 ?_
    refine lv_ishl hx hb dAr_plain_53 ?_
    exact W.iret hx hb hr (fun t ht hW => ⟨⟨_, (), rfl, (by unfold hf_Arithmetic_plain; rw [if_neg c_1, if_pos c_2]), ht⟩, mk_F ht⟩) (fun q h => nomatch h) dAr_plain_54
  by_cases c_3 : a1 = 2
  · refine lv_tableIn (tgt := 55) hx hb dAr_plain_1 (by rw [c_3]; decide) (by rw [c_3]; decide) (by rw [c_3]; rfl) (by decide) ?_
    refine lv_iload_n hx hb dAr_plain_55 rfl (lv_at hl 1 rfl) ?_
    refine lv_iload_n hx hb dAr_plain_56 rfl (lv_at hl 2 rfl) ?_
    refine lv_icmp_ge (tgt := 64) hx hb dAr_plain_57 (by decide) (fun c_4 => ?_) (fun c_4 => ?_)
    · refine lv_iconst (v := 0) hx hb dAr_plain_64 (by decide) ?_
      exact W.iret hx hb hr (fun t ht hW => ⟨⟨_, (), rfl, (by unfold hf_Arithmetic_plain; rw [if_neg c_1, if_neg c_2, if_pos c_3, if_pos c_4]), ht⟩, mk_F ht⟩) (fun q h => nomatch h) dAr_plain_65
    · refine lv_iconst (v := 1) hx hb dAr_plain_60 (by decide) ?_
      refine lv_goto (tgt := 65) hx hb dAr_plain_61 (by decide) ?_
      exact W.iret hx hb hr (fun t ht hW => ⟨⟨_, (), rfl, (by unfold hf_Arithmetic_plain; rw [if_neg c_1, if_neg c_2, if_pos c_3, if_neg c_4]), ht⟩, mk_F ht⟩) (fun q h => nomatch h) dAr_plain_65
  by_cases c_5 : a1 = 3
  · refine lv_tableIn (tgt := 66) hx hb dAr_plain_1 (by rw [c_5]; decide) (by rw [c_5]; decide) (by rw [c_5]; rfl) (by decide) ?_
    refine lv_iload_n hx hb dAr_plain_66 rfl (lv_at hl 1 rfl) ?_
    refine lv_iload_n hx hb dAr_plain_67 rfl (lv_at hl 2 rfl) ?_
    refine mk_callR (va_runS (As := [.int a2, .int a3]) (rest := []) ⟨hx, hb, hml, hown, hts⟩ (hc_Arithmetic_isBelow l s.heap a2 a3) (va_cwS 2 hts (mk_gS tw_255 tw_212 tw_56 tw_213) rfl rfl rfl hdAr_isBelow.2 ⟨Nat.le_of_ble_eq_true rfl, Nat.le_of_ble_eq_true rfl⟩) mk_preS rfl rfl hl.1 rfl (lv_room (Nat.le_of_ble_eq_true rfl)) dAr_plain_68 ⟨Nat.zero_le _, Nat.zero_le _⟩) ?_
    refine lv_if_eq (tgt := 78) hx hb dAr_plain_71 (by decide) (fun c_6 => ?_) (fun c_6 => ?_)
    · refine lv_iconst (v := 0) hx hb dAr_plain_78 (by decide) ?_
      exact W.iret hx hb hr (fun t ht hW => ⟨⟨_, (), rfl, (by unfold hf_Arithmetic_plain; rw [if_neg c_1, if_neg c_2, if_neg c_3, if_pos c_5, if_pos c_6]), ht⟩, mk_F ht⟩) (fun q h => nomatch h) dAr_plain_79
    · refine lv_iconst (v := 1) hx hb dAr_plain_74 (by decide) ?_
      refine lv_goto (tgt := 79) hx hb dAr_plain_75 (by decide) ?_
      exact W.iret hx hb hr (fun t ht hW => ⟨⟨_, (), rfl, (by unfold hf_Arithmetic_plain; rw [if_neg c_1, if_neg c_2, if_neg c_3, if_pos c_5, if_neg c_6]), ht⟩, mk_F ht⟩) (fun q h => nomatch h) dAr_plain_79
  by_cases c_7 : a1 = 4
  · refine lv_tableIn (tgt := 80) hx hb dAr_plain_1 (by rw [c_7]; decide) (by rw [c_7]; decide) (by rw [c_7]; rfl) (by decide) ?_
    refine lv_iload_n hx hb dAr_plain_80 rfl (lv_at hl 1 rfl) ?_
    refine lv_iload_n hx hb dAr_plain_81 rfl (lv_at hl 2 rfl) ?_
    refine lv_ixor hx hb dAr_plain_82 ?_
    exact W.iret hx hb hr (fun t ht hW => ⟨⟨_, (), rfl, (by unfold hf_Arithmetic_plain; rw [if_neg c_1, if_neg c_2, if_neg c_3, if_neg c_5, if_pos c_7]), ht⟩, mk_F ht⟩) (fun q h => nomatch h) dAr_plain_83
  by_cases c_8 : a1 = 5
  · refine lv_tableIn (tgt := 84) hx hb dAr_plain_1 (by rw [c_8]; decide) (by rw [c_8]; decide) (by rw [c_8]; rfl) (by decide) ?_
    refine lv_iload_n hx hb dAr_plain_84 rfl (lv_at hl 1 rfl) ?_
    refine lv_iload_n hx hb dAr_plain_85 rfl (lv_at hl 2 rfl) ?_
    refine lv_bipush (v := 31) hx hb dAr_plain_86 (by decide) ?_
    refine lv_iand hx hb dAr_plain_88 ?_
    refine lv_iushr (v := (ja_ushr a2 (a3 &&& 31))) hx hb dAr_plain_89 rfl ?_
    exact W.iret hx hb hr (fun t ht hW => ⟨⟨_, (), rfl, (by unfold hf_Arithmetic_plain; rw [if_neg c_1, if_neg c_2, if_neg c_3, if_neg c_5, if_neg c_7, if_pos c_8]), ht⟩, mk_F ht⟩) (fun q h => nomatch h) dAr_plain_90
  by_cases c_9 : a1 = 6
  · refine lv_tableIn (tgt := 91) hx hb dAr_plain_1 (by rw [c_9]; decide) (by rw [c_9]; decide) (by rw [c_9]; rfl) (by decide) ?_
    refine lv_iload_n hx hb dAr_plain_91 rfl (lv_at hl 1 rfl) ?_
    refine lv_iload_n hx hb dAr_plain_92 rfl (lv_at hl 2 rfl) ?_
    refine lv_ior hx hb dAr_plain_93 ?_
    exact W.iret hx hb hr (fun t ht hW => ⟨⟨_, (), rfl, (by unfold hf_Arithmetic_plain; rw [if_neg c_1, if_neg c_2, if_neg c_3, if_neg c_5, if_neg c_7, if_neg c_8, if_pos c_9]), ht⟩, mk_F ht⟩) (fun q h => nomatch h) dAr_plain_94
  refine mk_table (tgt := 95) hx hb dAr_plain_1 (mk_gap (N := 7) [0, 1, 2, 3, 4, 5, 6] (by decide) (by decide) (by have q_1 := lv_neT (a := 0) c_1 rfl; have q_2 := lv_neT (a := 1) c_2 rfl; have q_3 := lv_neT (a := 2) c_3 rfl; have q_5 := lv_neT (a := 3) c_5 rfl; have q_7 := lv_neT (a := 4) c_7 rfl; have q_8 := lv_neT (a := 5) c_8 rfl; have q_9 := lv_neT (a := 6) c_9 rfl; intro n hn; simp only [List.mem_cons, List.not_mem_nil, or_false, not_or]; omega)) (by decide) ?_
  refine lv_iload_n hx hb dAr_plain_95 rfl (lv_at hl 1 rfl) ?_
  refine lv_iload_n hx hb dAr_plain_96 rfl (lv_at hl 2 rfl) ?_
  refine lv_iand hx hb dAr_plain_97 ?_
  exact W.iret hx hb hr (fun t ht hW => ⟨⟨_, (), rfl, (by unfold hf_Arithmetic_plain; rw [if_neg c_1, if_neg c_2, if_neg c_3, if_neg c_5, if_neg c_7, if_neg c_8, if_neg c_9]), ht⟩, mk_F ht⟩) (fun q h => nomatch h) dAr_plain_98
set_option maxHeartbeats 4000000 in
set_option maxRecDepth 100000 in
theorem hc_Arithmetic_quotient (l : Launch) (G : Heap) (a1 : Int64) (a2 : Int64)  : Met l yAr_quotient (wq yAr_quotient cAr_quotient 4 (some .long)) ({ frames := 0, cells := 0, slots := 0, locals := 0 }) (mk_P G [.long a1, .long a2]) (mk_Ql G (hf_Arithmetic_quotient a1 a2)) 0 0 (fun _ => False) := by
  refine Met.ofW (cc := cAr_quotient) (maxL := 4) (ret := (some .long)) (by decide) rfl ?_
  intro p e s m args below meth c s₁ B hml hv
  obtain ⟨rfl, hG⟩ := hv
  subst hG
  have hx := B.exec
  have hb := B.bytes
  have hr := B.returns
  have hts := atoms_spec (ws := (wq yAr_quotient cAr_quotient 4 (some .long))) B.pre
  have hown : s.vm.findClass RAr = some m.cls := findClass_of_methodNamed B.named
  have hlocks := B.notSynchronized
  have hg : ∀ w ∈ lw_g, w.before _ s = true := fun w h => hts w (List.mem_cons_of_mem _ h)
  have hl := lv_entry ([.long a1, .long a2]) (n := 4) (Nat.le_of_ble_eq_true rfl)
  rw [lg_entry_eq]
  generalize (lg_sl ([.long a1, .long a2]) ++ List.replicate (4 - (lg_sl ([.long a1, .long a2])).length) Slot.unset).toArray = ls at hl ⊢
  have hl : lv_has ls 4 [(0, .long a1), (2, .long a2)] := hl
  refine lv_lload_n hx hb dAr_quotient_0 rfl (lv_at hl 1 rfl) ?_
  refine lv_lconst (v := 0) hx hb dAr_quotient_1 (by decide) ?_
  refine W.lcmp hx hb dAr_quotient_2 ?_
  refine lv_if_ne (tgt := 12) hx hb dAr_quotient_3 (by decide) (fun c_1 => ?_) (fun c_1 => ?_)
  · refine lv_lload_n hx hb dAr_quotient_12 rfl (lv_at hl 0 rfl) ?_
    refine lv_lload_n hx hb dAr_quotient_13 rfl (lv_at hl 1 rfl) ?_
    refine lv_ldiv hx hb dAr_quotient_14 (lg_ne0 c_1) ?_
    exact W.lret hx hb hr (fun t ht hW => ⟨⟨_, (), rfl, (by unfold hf_Arithmetic_quotient; rw [if_neg c_1]), ht⟩, mk_F ht⟩) (fun q h => nomatch h) dAr_quotient_15
  · refine lv_ldc2 (v := (-1)) hx hb hown (hg _ tw_266) dAr_quotient_6 ?_
    refine lv_goto (tgt := 15) hx hb dAr_quotient_9 (by decide) ?_
    exact W.lret hx hb hr (fun t ht hW => ⟨⟨_, (), rfl, (by unfold hf_Arithmetic_quotient; rw [if_pos c_1]), ht⟩, mk_F ht⟩) (fun q h => nomatch h) dAr_quotient_15
set_option maxHeartbeats 4000000 in
set_option maxRecDepth 100000 in
theorem hc_Arithmetic_remainder (l : Launch) (G : Heap) (a1 : Int64) (a2 : Int64)  : Met l yAr_remainder (wq yAr_remainder cAr_remainder 4 (some .long)) ({ frames := 0, cells := 0, slots := 0, locals := 0 }) (mk_P G [.long a1, .long a2]) (mk_Ql G (hf_Arithmetic_remainder a1 a2)) 0 0 (fun _ => False) := by
  refine Met.ofW (cc := cAr_remainder) (maxL := 4) (ret := (some .long)) (by decide) rfl ?_
  intro p e s m args below meth c s₁ B hml hv
  obtain ⟨rfl, hG⟩ := hv
  subst hG
  have hx := B.exec
  have hb := B.bytes
  have hr := B.returns
  have hts := atoms_spec (ws := (wq yAr_remainder cAr_remainder 4 (some .long))) B.pre
  have hown : s.vm.findClass RAr = some m.cls := findClass_of_methodNamed B.named
  have hlocks := B.notSynchronized
  have hg : ∀ w ∈ lw_g, w.before _ s = true := fun w h => hts w (List.mem_cons_of_mem _ h)
  have hl := lv_entry ([.long a1, .long a2]) (n := 4) (Nat.le_of_ble_eq_true rfl)
  rw [lg_entry_eq]
  generalize (lg_sl ([.long a1, .long a2]) ++ List.replicate (4 - (lg_sl ([.long a1, .long a2])).length) Slot.unset).toArray = ls at hl ⊢
  have hl : lv_has ls 4 [(0, .long a1), (2, .long a2)] := hl
  refine lv_lload_n hx hb dAr_remainder_0 rfl (lv_at hl 1 rfl) ?_
  refine lv_lconst (v := 0) hx hb dAr_remainder_1 (by decide) ?_
  refine W.lcmp hx hb dAr_remainder_2 ?_
  refine lv_if_ne (tgt := 10) hx hb dAr_remainder_3 (by decide) (fun c_1 => ?_) (fun c_1 => ?_)
  · refine lv_lload_n hx hb dAr_remainder_10 rfl (lv_at hl 0 rfl) ?_
    refine lv_lload_n hx hb dAr_remainder_11 rfl (lv_at hl 1 rfl) ?_
    refine lv_lrem hx hb dAr_remainder_12 (lg_ne0 c_1) ?_
    exact W.lret hx hb hr (fun t ht hW => ⟨⟨_, (), rfl, (by unfold hf_Arithmetic_remainder; rw [if_neg c_1]), ht⟩, mk_F ht⟩) (fun q h => nomatch h) dAr_remainder_13
  · refine lv_lload_n hx hb dAr_remainder_6 rfl (lv_at hl 0 rfl) ?_
    refine lv_goto (tgt := 13) hx hb dAr_remainder_7 (by decide) ?_
    exact W.lret hx hb hr (fun t ht hW => ⟨⟨_, (), rfl, (by unfold hf_Arithmetic_remainder; rw [if_pos c_1]), ht⟩, mk_F ht⟩) (fun q h => nomatch h) dAr_remainder_13
set_option maxHeartbeats 4000000 in
set_option maxRecDepth 100000 in
theorem hc_Arithmetic_multipliedOrDivided (l : Launch) (G : Heap) (a1 : Int32) (a2 : Int32) (a3 : Int32)  : Met l yAr_multipliedOrDivided (wq yAr_multipliedOrDivided cAr_multipliedOrDivided 3 (some .int)) ({ frames := 1, cells := 0, slots := 0, locals := 23 }) (mk_P G [.int a1, .int a2, .int a3]) (mk_Qi G (hf_Arithmetic_multipliedOrDivided a1 a2 a3)) 0 0 (fun _ => False) := by
  refine Met.ofW (cc := cAr_multipliedOrDivided) (maxL := 3) (ret := (some .int)) (by decide) rfl ?_
  intro p e s m args below meth c s₁ B hml hv
  obtain ⟨rfl, hG⟩ := hv
  subst hG
  have hx := B.exec
  have hb := B.bytes
  have hr := B.returns
  have hts := atoms_spec (ws := (wq yAr_multipliedOrDivided cAr_multipliedOrDivided 3 (some .int))) B.pre
  have hown : s.vm.findClass RAr = some m.cls := findClass_of_methodNamed B.named
  have hlocks := B.notSynchronized
  have hg : ∀ w ∈ lw_g, w.before _ s = true := fun w h => hts w (List.mem_cons_of_mem _ h)
  have hl := lv_entry ([.int a1, .int a2, .int a3]) (n := 3) (Nat.le_of_ble_eq_true rfl)
  rw [lg_entry_eq]
  generalize (lg_sl ([.int a1, .int a2, .int a3]) ++ List.replicate (3 - (lg_sl ([.int a1, .int a2, .int a3])).length) Slot.unset).toArray = ls at hl ⊢
  have hl : lv_has ls 3 [(0, .int a1), (1, .int a2), (2, .int a3)] := hl
  refine lv_iload_n hx hb dAr_multipliedOrDivided_0 rfl (lv_at hl 0 rfl) ?_
  by_cases c_1 : a1 = 0
  · refine lv_tableIn (tgt := 44) hx hb dAr_multipliedOrDivided_1 (by rw [c_1]; decide) (by rw [c_1]; decide) (by rw [c_1]; rfl) (by decide) ?_
    refine lv_iload_n hx hb dAr_multipliedOrDivided_44 rfl (lv_at hl 1 rfl) ?_
    refine lv_iload_n hx hb dAr_multipliedOrDivided_45 rfl (lv_at hl 2 rfl) ?_
    refine lv_imul hx hb dAr_multipliedOrDivided_46 ?_
    exact W.iret hx hb hr (fun t ht hW => ⟨⟨_, (), rfl, (by unfold hf_Arithmetic_multipliedOrDivided; rw [if_pos c_1]), ht⟩, mk_F ht⟩) (fun q h => nomatch h) dAr_multipliedOrDivided_47
  by_cases c_2 : a1 = 1
  · refine lv_tableIn (tgt := 48) hx hb dAr_multipliedOrDivided_1 (by rw [c_2]; decide) (by rw [c_2]; decide) (by rw [c_2]; rfl) (by decide) ?_
    refine lv_iload_n hx hb dAr_multipliedOrDivided_48 rfl (lv_at hl 1 rfl) ?_
    refine lv_i2l (v := a2.toInt64) hx hb dAr_multipliedOrDivided_49 rfl ?_
    refine lv_iload_n hx hb dAr_multipliedOrDivided_50 rfl (lv_at hl 2 rfl) ?_
    refine lv_i2l (v := a3.toInt64) hx hb dAr_multipliedOrDivided_51 rfl ?_
    refine lv_lmul hx hb dAr_multipliedOrDivided_52 ?_
    refine lv_bipush (v := 32) hx hb dAr_multipliedOrDivided_53 (by decide) ?_
    refine lv_lushr (v := (ja_lushr (a2.toInt64 * a3.toInt64) 32)) hx hb dAr_multipliedOrDivided_55 rfl ?_
    refine lv_l2i (v := (ja_lushr (a2.toInt64 * a3.toInt64) 32).toInt32) hx hb dAr_multipliedOrDivided_56 rfl ?_
    exact W.iret hx hb hr (fun t ht hW => ⟨⟨_, (), rfl, (by unfold hf_Arithmetic_multipliedOrDivided; rw [if_neg c_1, if_pos c_2]), ht⟩, mk_F ht⟩) (fun q h => nomatch h) dAr_multipliedOrDivided_57
  by_cases c_3 : a1 = 2
  · refine lv_tableIn (tgt := 58) hx hb dAr_multipliedOrDivided_1 (by rw [c_3]; decide) (by rw [c_3]; decide) (by rw [c_3]; rfl) (by decide) ?_
    refine lv_iload_n hx hb dAr_multipliedOrDivided_58 rfl (lv_at hl 1 rfl) ?_
    refine lv_i2l (v := a2.toInt64) hx hb dAr_multipliedOrDivided_59 rfl ?_
    refine lv_iload_n hx hb dAr_multipliedOrDivided_60 rfl (lv_at hl 2 rfl) ?_
    refine lv_i2l (v := a3.toInt64) hx hb dAr_multipliedOrDivided_61 rfl ?_
    refine lv_ldc2 (v := 4294967295) hx hb hown (hg _ tw_214) dAr_multipliedOrDivided_62 ?_
    refine lv_land hx hb dAr_multipliedOrDivided_65 ?_
    refine lv_lmul hx hb dAr_multipliedOrDivided_66 ?_
    refine lv_bipush (v := 32) hx hb dAr_multipliedOrDivided_67 (by decide) ?_
    refine lv_lushr (v := (ja_lushr (a2.toInt64 * (a3.toInt64 &&& 4294967295)) 32)) hx hb dAr_multipliedOrDivided_69 rfl ?_
    refine lv_l2i (v := (ja_lushr (a2.toInt64 * (a3.toInt64 &&& 4294967295)) 32).toInt32) hx hb dAr_multipliedOrDivided_70 rfl ?_
    exact W.iret hx hb hr (fun t ht hW => ⟨⟨_, (), rfl, (by unfold hf_Arithmetic_multipliedOrDivided; rw [if_neg c_1, if_neg c_2, if_pos c_3]), ht⟩, mk_F ht⟩) (fun q h => nomatch h) dAr_multipliedOrDivided_71
  by_cases c_4 : a1 = 3
  · refine lv_tableIn (tgt := 72) hx hb dAr_multipliedOrDivided_1 (by rw [c_4]; decide) (by rw [c_4]; decide) (by rw [c_4]; rfl) (by decide) ?_
    refine lv_iload_n hx hb dAr_multipliedOrDivided_72 rfl (lv_at hl 1 rfl) ?_
    refine lv_i2l (v := a2.toInt64) hx hb dAr_multipliedOrDivided_73 rfl ?_
    refine lv_ldc2 (v := 4294967295) hx hb hown (hg _ tw_214) dAr_multipliedOrDivided_74 ?_
    refine lv_land hx hb dAr_multipliedOrDivided_77 ?_
    refine lv_iload_n hx hb dAr_multipliedOrDivided_78 rfl (lv_at hl 2 rfl) ?_
    refine lv_i2l (v := a3.toInt64) hx hb dAr_multipliedOrDivided_79 rfl ?_
    refine lv_ldc2 (v := 4294967295) hx hb hown (hg _ tw_214) dAr_multipliedOrDivided_80 ?_
    refine lv_land hx hb dAr_multipliedOrDivided_83 ?_
    refine lv_lmul hx hb dAr_multipliedOrDivided_84 ?_
    refine lv_bipush (v := 32) hx hb dAr_multipliedOrDivided_85 (by decide) ?_
    refine lv_lushr (v := (ja_lushr ((a2.toInt64 &&& 4294967295) * (a3.toInt64 &&& 4294967295)) 32)) hx hb dAr_multipliedOrDivided_87 rfl ?_
    refine lv_l2i (v := (ja_lushr ((a2.toInt64 &&& 4294967295) * (a3.toInt64 &&& 4294967295)) 32).toInt32) hx hb dAr_multipliedOrDivided_88 rfl ?_
    exact W.iret hx hb hr (fun t ht hW => ⟨⟨_, (), rfl, (by unfold hf_Arithmetic_multipliedOrDivided; rw [if_neg c_1, if_neg c_2, if_neg c_3, if_pos c_4]), ht⟩, mk_F ht⟩) (fun q h => nomatch h) dAr_multipliedOrDivided_89
  by_cases c_5 : a1 = 4
  · refine lv_tableIn (tgt := 90) hx hb dAr_multipliedOrDivided_1 (by rw [c_5]; decide) (by rw [c_5]; decide) (by rw [c_5]; rfl) (by decide) ?_
    refine lv_iload_n hx hb dAr_multipliedOrDivided_90 rfl (lv_at hl 1 rfl) ?_
    refine lv_i2l (v := a2.toInt64) hx hb dAr_multipliedOrDivided_91 rfl ?_
    refine lv_iload_n hx hb dAr_multipliedOrDivided_92 rfl (lv_at hl 2 rfl) ?_
    refine lv_i2l (v := a3.toInt64) hx hb dAr_multipliedOrDivided_93 rfl ?_
    refine mk_callRl (va_runS (As := [.long a2.toInt64, .long a3.toInt64]) (rest := []) ⟨hx, hb, hml, hown, hts⟩ (hc_Arithmetic_quotient l s.heap a2.toInt64 a3.toInt64) (va_cwS 2 hts (mk_gS tw_263 tw_264 tw_56 tw_265) rfl rfl rfl hdAr_quotient.2 ⟨Nat.le_of_ble_eq_true rfl, Nat.le_of_ble_eq_true rfl⟩) mk_preS rfl rfl hl.1 rfl (lv_room (Nat.le_of_ble_eq_true rfl)) dAr_multipliedOrDivided_94 ⟨Nat.zero_le _, Nat.zero_le _⟩) ?_
    refine lv_l2i (v := (hf_Arithmetic_quotient a2.toInt64 a3.toInt64).toInt32) hx hb dAr_multipliedOrDivided_97 rfl ?_
    exact W.iret hx hb hr (fun t ht hW => ⟨⟨_, (), rfl, (by unfold hf_Arithmetic_multipliedOrDivided; rw [if_neg c_1, if_neg c_2, if_neg c_3, if_neg c_4, if_pos c_5]), ht⟩, mk_F ht⟩) (fun q h => nomatch h) dAr_multipliedOrDivided_98
  by_cases c_6 : a1 = 5
  · refine lv_tableIn (tgt := 99) hx hb dAr_multipliedOrDivided_1 (by rw [c_6]; decide) (by rw [c_6]; decide) (by rw [c_6]; rfl) (by decide) ?_
    refine lv_iload_n hx hb dAr_multipliedOrDivided_99 rfl (lv_at hl 1 rfl) ?_
    refine lv_i2l (v := a2.toInt64) hx hb dAr_multipliedOrDivided_100 rfl ?_
    refine lv_ldc2 (v := 4294967295) hx hb hown (hg _ tw_214) dAr_multipliedOrDivided_101 ?_
    refine lv_land hx hb dAr_multipliedOrDivided_104 ?_
    refine lv_iload_n hx hb dAr_multipliedOrDivided_105 rfl (lv_at hl 2 rfl) ?_
    refine lv_i2l (v := a3.toInt64) hx hb dAr_multipliedOrDivided_106 rfl ?_
    refine lv_ldc2 (v := 4294967295) hx hb hown (hg _ tw_214) dAr_multipliedOrDivided_107 ?_
    refine lv_land hx hb dAr_multipliedOrDivided_110 ?_
    refine mk_callRl (va_runS (As := [.long (a2.toInt64 &&& 4294967295), .long (a3.toInt64 &&& 4294967295)]) (rest := []) ⟨hx, hb, hml, hown, hts⟩ (hc_Arithmetic_quotient l s.heap (a2.toInt64 &&& 4294967295) (a3.toInt64 &&& 4294967295)) (va_cwS 2 hts (mk_gS tw_263 tw_264 tw_56 tw_265) rfl rfl rfl hdAr_quotient.2 ⟨Nat.le_of_ble_eq_true rfl, Nat.le_of_ble_eq_true rfl⟩) mk_preS rfl rfl hl.1 rfl (lv_room (Nat.le_of_ble_eq_true rfl)) dAr_multipliedOrDivided_111 ⟨Nat.zero_le _, Nat.zero_le _⟩) ?_
    refine lv_l2i (v := (hf_Arithmetic_quotient (a2.toInt64 &&& 4294967295) (a3.toInt64 &&& 4294967295)).toInt32) hx hb dAr_multipliedOrDivided_114 rfl ?_
    exact W.iret hx hb hr (fun t ht hW => ⟨⟨_, (), rfl, (by unfold hf_Arithmetic_multipliedOrDivided; rw [if_neg c_1, if_neg c_2, if_neg c_3, if_neg c_4, if_neg c_5, if_pos c_6]), ht⟩, mk_F ht⟩) (fun q h => nomatch h) dAr_multipliedOrDivided_115
  by_cases c_7 : a1 = 6
  · refine lv_tableIn (tgt := 116) hx hb dAr_multipliedOrDivided_1 (by rw [c_7]; decide) (by rw [c_7]; decide) (by rw [c_7]; rfl) (by decide) ?_
    refine lv_iload_n hx hb dAr_multipliedOrDivided_116 rfl (lv_at hl 1 rfl) ?_
    refine lv_i2l (v := a2.toInt64) hx hb dAr_multipliedOrDivided_117 rfl ?_
    refine lv_iload_n hx hb dAr_multipliedOrDivided_118 rfl (lv_at hl 2 rfl) ?_
    refine lv_i2l (v := a3.toInt64) hx hb dAr_multipliedOrDivided_119 rfl ?_
    refine mk_callRl (va_runS (As := [.long a2.toInt64, .long a3.toInt64]) (rest := []) ⟨hx, hb, hml, hown, hts⟩ (hc_Arithmetic_remainder l s.heap a2.toInt64 a3.toInt64) (va_cwS 2 hts (mk_gS tw_267 tw_268 tw_56 tw_269) rfl rfl rfl hdAr_remainder.2 ⟨Nat.le_of_ble_eq_true rfl, Nat.le_of_ble_eq_true rfl⟩) mk_preS rfl rfl hl.1 rfl (lv_room (Nat.le_of_ble_eq_true rfl)) dAr_multipliedOrDivided_120 ⟨Nat.zero_le _, Nat.zero_le _⟩) ?_
    refine lv_l2i (v := (hf_Arithmetic_remainder a2.toInt64 a3.toInt64).toInt32) hx hb dAr_multipliedOrDivided_123 rfl ?_
    exact W.iret hx hb hr (fun t ht hW => ⟨⟨_, (), rfl, (by unfold hf_Arithmetic_multipliedOrDivided; rw [if_neg c_1, if_neg c_2, if_neg c_3, if_neg c_4, if_neg c_5, if_neg c_6, if_pos c_7]), ht⟩, mk_F ht⟩) (fun q h => nomatch h) dAr_multipliedOrDivided_124
  refine mk_table (tgt := 125) hx hb dAr_multipliedOrDivided_1 (mk_gap (N := 7) [0, 1, 2, 3, 4, 5, 6] (by decide) (by decide) (by have q_1 := lv_neT (a := 0) c_1 rfl; have q_2 := lv_neT (a := 1) c_2 rfl; have q_3 := lv_neT (a := 2) c_3 rfl; have q_4 := lv_neT (a := 3) c_4 rfl; have q_5 := lv_neT (a := 4) c_5 rfl; have q_6 := lv_neT (a := 5) c_6 rfl; have q_7 := lv_neT (a := 6) c_7 rfl; intro n hn; simp only [List.mem_cons, List.not_mem_nil, or_false, not_or]; omega)) (by decide) ?_
  refine lv_iload_n hx hb dAr_multipliedOrDivided_125 rfl (lv_at hl 1 rfl) ?_
  refine lv_i2l (v := a2.toInt64) hx hb dAr_multipliedOrDivided_126 rfl ?_
  refine lv_ldc2 (v := 4294967295) hx hb hown (hg _ tw_214) dAr_multipliedOrDivided_127 ?_
  refine lv_land hx hb dAr_multipliedOrDivided_130 ?_
  refine lv_iload_n hx hb dAr_multipliedOrDivided_131 rfl (lv_at hl 2 rfl) ?_
  refine lv_i2l (v := a3.toInt64) hx hb dAr_multipliedOrDivided_132 rfl ?_
  refine lv_ldc2 (v := 4294967295) hx hb hown (hg _ tw_214) dAr_multipliedOrDivided_133 ?_
  refine lv_land hx hb dAr_multipliedOrDivided_136 ?_
  refine mk_callRl (va_runS (As := [.long (a2.toInt64 &&& 4294967295), .long (a3.toInt64 &&& 4294967295)]) (rest := []) ⟨hx, hb, hml, hown, hts⟩ (hc_Arithmetic_remainder l s.heap (a2.toInt64 &&& 4294967295) (a3.toInt64 &&& 4294967295)) (va_cwS 2 hts (mk_gS tw_267 tw_268 tw_56 tw_269) rfl rfl rfl hdAr_remainder.2 ⟨Nat.le_of_ble_eq_true rfl, Nat.le_of_ble_eq_true rfl⟩) mk_preS rfl rfl hl.1 rfl (lv_room (Nat.le_of_ble_eq_true rfl)) dAr_multipliedOrDivided_137 ⟨Nat.zero_le _, Nat.zero_le _⟩) ?_
  refine lv_l2i (v := (hf_Arithmetic_remainder (a2.toInt64 &&& 4294967295) (a3.toInt64 &&& 4294967295)).toInt32) hx hb dAr_multipliedOrDivided_140 rfl ?_
  exact W.iret hx hb hr (fun t ht hW => ⟨⟨_, (), rfl, (by unfold hf_Arithmetic_multipliedOrDivided; rw [if_neg c_1, if_neg c_2, if_neg c_3, if_neg c_4, if_neg c_5, if_neg c_6, if_neg c_7]), ht⟩, mk_F ht⟩) (fun q h => nomatch h) dAr_multipliedOrDivided_141
set_option maxHeartbeats 4000000 in
set_option maxRecDepth 100000 in
theorem hc_LongForm_k (l : Launch) (G : Heap) (a1 : Int32)  : Met l yLF_k (wq yLF_k cLF_k 1 (some .int)) ({ frames := 1, cells := 0, slots := 0, locals := 22 }) (mk_P G [.int a1]) (mk_Qi G (hf_LongForm_k a1)) 0 0 (fun _ => False) := by
  refine Met.ofW (cc := cLF_k) (maxL := 1) (ret := (some .int)) (by decide) rfl ?_
  intro p e s m args below meth c s₁ B hml hv
  obtain ⟨rfl, hG⟩ := hv
  subst hG
  have hx := B.exec
  have hb := B.bytes
  have hr := B.returns
  have hts := atoms_spec (ws := (wq yLF_k cLF_k 1 (some .int))) B.pre
  have hown : s.vm.findClass RLF = some m.cls := findClass_of_methodNamed B.named
  have hlocks := B.notSynchronized
  have hg : ∀ w ∈ lw_g, w.before _ s = true := fun w h => hts w (List.mem_cons_of_mem _ h)
  have hl := lv_entry ([.int a1]) (n := 1) (Nat.le_of_ble_eq_true rfl)
  rw [lg_entry_eq]
  generalize (lg_sl ([.int a1]) ++ List.replicate (1 - (lg_sl ([.int a1])).length) Slot.unset).toArray = ls at hl ⊢
  have hl : lv_has ls 1 [(0, .int a1)] := hl
  refine lv_iload_n hx hb dLF_k_0 rfl (lv_at hl 0 rfl) ?_
  refine lv_bipush (v := 27) hx hb dLF_k_1 (by decide) ?_
  refine lv_iconst (v := 5) hx hb dLF_k_3 (by decide) ?_
  refine mk_callR (va_runS (As := [.int a1, .int 27, .int 5]) (rest := []) ⟨hx, hb, hml, hown, hts⟩ (hc_Bits_part l s.heap a1 27 5) (va_cwS 3 hts (mk_gS tw_164 tw_165 tw_55 tw_166) rfl rfl rfl hdBits_part.2 ⟨Nat.le_of_ble_eq_true rfl, Nat.le_of_ble_eq_true rfl⟩) mk_preS rfl rfl hl.1 rfl (lv_room (Nat.le_of_ble_eq_true rfl)) dLF_k_4 ⟨Nat.zero_le _, Nat.zero_le _⟩) ?_
  exact W.iret hx hb hr (fun t ht hW => ⟨⟨_, (), rfl, rfl, ht⟩, mk_F ht⟩) (fun q h => nomatch h) dLF_k_7
set_option maxHeartbeats 4000000 in
set_option maxRecDepth 100000 in
theorem hc_LongForm_isAtomic (l : Launch) (G : Heap) (a1 : Int32)  : Met l yLF_isAtomic (wq yLF_isAtomic cLF_isAtomic 1 (some .boolean)) ({ frames := 2, cells := 0, slots := 0, locals := 42 }) (mk_P G [.int a1]) (mk_Qi G (hf_LongForm_isAtomic a1)) 0 0 (fun _ => False) := by
  refine Met.ofW (cc := cLF_isAtomic) (maxL := 1) (ret := (some .boolean)) (by decide) rfl ?_
  intro p e s m args below meth c s₁ B hml hv
  obtain ⟨rfl, hG⟩ := hv
  subst hG
  have hx := B.exec
  have hb := B.bytes
  have hr := B.returns
  have hts := atoms_spec (ws := (wq yLF_isAtomic cLF_isAtomic 1 (some .boolean))) B.pre
  have hown : s.vm.findClass RLF = some m.cls := findClass_of_methodNamed B.named
  have hlocks := B.notSynchronized
  have hg : ∀ w ∈ lw_g, w.before _ s = true := fun w h => hts w (List.mem_cons_of_mem _ h)
  have hl := lv_entry ([.int a1]) (n := 1) (Nat.le_of_ble_eq_true rfl)
  rw [lg_entry_eq]
  generalize (lg_sl ([.int a1]) ++ List.replicate (1 - (lg_sl ([.int a1])).length) Slot.unset).toArray = ls at hl ⊢
  have hl : lv_has ls 1 [(0, .int a1)] := hl
  refine lv_iload_n hx hb dLF_isAtomic_0 rfl (lv_at hl 0 rfl) ?_
  refine mk_callR (va_runS (As := [.int a1]) (rest := []) ⟨hx, hb, hml, hown, hts⟩ (hc_LongForm_f l s.heap a1) (va_cwS 1 hts (mk_gS tw_277 tw_189 tw_54 tw_190) rfl rfl rfl hdLF_f.2 ⟨Nat.le_of_ble_eq_true rfl, Nat.le_of_ble_eq_true rfl⟩) mk_preS rfl rfl hl.1 rfl (lv_room (Nat.le_of_ble_eq_true rfl)) dLF_isAtomic_1 ⟨Nat.zero_le _, Nat.zero_le _⟩) ?_
  refine lv_iconst (v := 2) hx hb dLF_isAtomic_4 (by decide) ?_
  refine lv_icmp_eq (tgt := 10) hx hb dLF_isAtomic_5 (by decide) (fun c_1 => ?_) (fun c_1 => ?_)
  · refine lv_iload_n hx hb dLF_isAtomic_10 rfl (lv_at hl 0 rfl) ?_
    refine mk_callR (va_runS (As := [.int a1]) (rest := []) ⟨hx, hb, hml, hown, hts⟩ (hc_LongForm_k l s.heap a1) (va_cwS 1 hts (mk_gS tw_278 tw_279 tw_54 tw_280) rfl rfl rfl hdLF_k.2 ⟨Nat.le_of_ble_eq_true rfl, Nat.le_of_ble_eq_true rfl⟩) mk_preS rfl rfl hl.1 rfl (lv_room (Nat.le_of_ble_eq_true rfl)) dLF_isAtomic_11 ⟨Nat.zero_le _, Nat.zero_le _⟩) ?_
    by_cases c_2 : (hf_LongForm_k a1) = 0
    · refine lv_tableIn (tgt := 157) hx hb dLF_isAtomic_14 (by rw [c_2]; decide) (by rw [c_2]; decide) (by rw [c_2]; rfl) (by decide) ?_
      refine lv_iconst (v := 1) hx hb dLF_isAtomic_157 (by decide) ?_
      exact W.zret hx hb hr rfl (fun t ht hW => ⟨⟨_, (), rfl, (by unfold hf_LongForm_isAtomic; rw [if_pos c_1, if_pos c_2]), ht⟩, mk_F ht⟩) (fun q h => nomatch h) dLF_isAtomic_158
    by_cases c_3 : (hf_LongForm_k a1) = 1
    · refine lv_tableIn (tgt := 157) hx hb dLF_isAtomic_14 (by rw [c_3]; decide) (by rw [c_3]; decide) (by rw [c_3]; rfl) (by decide) ?_
      refine lv_iconst (v := 1) hx hb dLF_isAtomic_157 (by decide) ?_
      exact W.zret hx hb hr rfl (fun t ht hW => ⟨⟨_, (), rfl, (by unfold hf_LongForm_isAtomic; rw [if_pos c_1, if_neg c_2, if_pos c_3]), ht⟩, mk_F ht⟩) (fun q h => nomatch h) dLF_isAtomic_158
    by_cases c_4 : (hf_LongForm_k a1) = 2
    · refine lv_tableIn (tgt := 144) hx hb dLF_isAtomic_14 (by rw [c_4]; decide) (by rw [c_4]; decide) (by rw [c_4]; rfl) (by decide) ?_
      refine lv_iload_n hx hb dLF_isAtomic_144 rfl (lv_at hl 0 rfl) ?_
      refine mk_callR (va_runS (As := [.int a1]) (rest := []) ⟨hx, hb, hml, hown, hts⟩ (hc_LongForm_b l s.heap a1) (va_cwS 1 hts (mk_gS tw_281 tw_202 tw_54 tw_203) rfl rfl rfl hdLF_b.2 ⟨Nat.le_of_ble_eq_true rfl, Nat.le_of_ble_eq_true rfl⟩) mk_preS rfl rfl hl.1 rfl (lv_room (Nat.le_of_ble_eq_true rfl)) dLF_isAtomic_145 ⟨Nat.zero_le _, Nat.zero_le _⟩) ?_
      refine lv_if_ne (tgt := 155) hx hb dLF_isAtomic_148 (by decide) (fun c_5 => ?_) (fun c_5 => ?_)
      · refine lv_iconst (v := 0) hx hb dLF_isAtomic_155 (by decide) ?_
        exact W.zret hx hb hr rfl (fun t ht hW => ⟨⟨_, (), rfl, (by unfold hf_LongForm_isAtomic; rw [if_pos c_1, if_neg c_2, if_neg c_3, if_pos c_4, if_neg c_5]), ht⟩, mk_F ht⟩) (fun q h => nomatch h) dLF_isAtomic_156
      · refine lv_iconst (v := 1) hx hb dLF_isAtomic_151 (by decide) ?_
        refine lv_goto (tgt := 156) hx hb dLF_isAtomic_152 (by decide) ?_
        exact W.zret hx hb hr rfl (fun t ht hW => ⟨⟨_, (), rfl, (by unfold hf_LongForm_isAtomic; rw [if_pos c_1, if_neg c_2, if_neg c_3, if_pos c_4, if_pos c_5]), ht⟩, mk_F ht⟩) (fun q h => nomatch h) dLF_isAtomic_156
    by_cases c_6 : (hf_LongForm_k a1) = 3
    · refine lv_tableIn (tgt := 157) hx hb dLF_isAtomic_14 (by rw [c_6]; decide) (by rw [c_6]; decide) (by rw [c_6]; rfl) (by decide) ?_
      refine lv_iconst (v := 1) hx hb dLF_isAtomic_157 (by decide) ?_
      exact W.zret hx hb hr rfl (fun t ht hW => ⟨⟨_, (), rfl, (by unfold hf_LongForm_isAtomic; rw [if_pos c_1, if_neg c_2, if_neg c_3, if_neg c_4, if_pos c_6]), ht⟩, mk_F ht⟩) (fun q h => nomatch h) dLF_isAtomic_158
    by_cases c_7 : (hf_LongForm_k a1) = 4
    · refine lv_tableIn (tgt := 157) hx hb dLF_isAtomic_14 (by rw [c_7]; decide) (by rw [c_7]; decide) (by rw [c_7]; rfl) (by decide) ?_
      refine lv_iconst (v := 1) hx hb dLF_isAtomic_157 (by decide) ?_
      exact W.zret hx hb hr rfl (fun t ht hW => ⟨⟨_, (), rfl, (by unfold hf_LongForm_isAtomic; rw [if_pos c_1, if_neg c_2, if_neg c_3, if_neg c_4, if_neg c_6, if_pos c_7]), ht⟩, mk_F ht⟩) (fun q h => nomatch h) dLF_isAtomic_158
    by_cases c_8 : (hf_LongForm_k a1) = 8
    · refine lv_tableIn (tgt := 157) hx hb dLF_isAtomic_14 (by rw [c_8]; decide) (by rw [c_8]; decide) (by rw [c_8]; rfl) (by decide) ?_
      refine lv_iconst (v := 1) hx hb dLF_isAtomic_157 (by decide) ?_
      exact W.zret hx hb hr rfl (fun t ht hW => ⟨⟨_, (), rfl, (by unfold hf_LongForm_isAtomic; rw [if_pos c_1, if_neg c_2, if_neg c_3, if_neg c_4, if_neg c_6, if_neg c_7, if_pos c_8]), ht⟩, mk_F ht⟩) (fun q h => nomatch h) dLF_isAtomic_158
    by_cases c_9 : (hf_LongForm_k a1) = 12
    · refine lv_tableIn (tgt := 157) hx hb dLF_isAtomic_14 (by rw [c_9]; decide) (by rw [c_9]; decide) (by rw [c_9]; rfl) (by decide) ?_
      refine lv_iconst (v := 1) hx hb dLF_isAtomic_157 (by decide) ?_
      exact W.zret hx hb hr rfl (fun t ht hW => ⟨⟨_, (), rfl, (by unfold hf_LongForm_isAtomic; rw [if_pos c_1, if_neg c_2, if_neg c_3, if_neg c_4, if_neg c_6, if_neg c_7, if_neg c_8, if_pos c_9]), ht⟩, mk_F ht⟩) (fun q h => nomatch h) dLF_isAtomic_158
    by_cases c_10 : (hf_LongForm_k a1) = 16
    · refine lv_tableIn (tgt := 157) hx hb dLF_isAtomic_14 (by rw [c_10]; decide) (by rw [c_10]; decide) (by rw [c_10]; rfl) (by decide) ?_
      refine lv_iconst (v := 1) hx hb dLF_isAtomic_157 (by decide) ?_
      exact W.zret hx hb hr rfl (fun t ht hW => ⟨⟨_, (), rfl, (by unfold hf_LongForm_isAtomic; rw [if_pos c_1, if_neg c_2, if_neg c_3, if_neg c_4, if_neg c_6, if_neg c_7, if_neg c_8, if_neg c_9, if_pos c_10]), ht⟩, mk_F ht⟩) (fun q h => nomatch h) dLF_isAtomic_158
    by_cases c_11 : (hf_LongForm_k a1) = 20
    · refine lv_tableIn (tgt := 157) hx hb dLF_isAtomic_14 (by rw [c_11]; decide) (by rw [c_11]; decide) (by rw [c_11]; rfl) (by decide) ?_
      refine lv_iconst (v := 1) hx hb dLF_isAtomic_157 (by decide) ?_
      exact W.zret hx hb hr rfl (fun t ht hW => ⟨⟨_, (), rfl, (by unfold hf_LongForm_isAtomic; rw [if_pos c_1, if_neg c_2, if_neg c_3, if_neg c_4, if_neg c_6, if_neg c_7, if_neg c_8, if_neg c_9, if_neg c_10, if_pos c_11]), ht⟩, mk_F ht⟩) (fun q h => nomatch h) dLF_isAtomic_158
    by_cases c_12 : (hf_LongForm_k a1) = 24
    · refine lv_tableIn (tgt := 157) hx hb dLF_isAtomic_14 (by rw [c_12]; decide) (by rw [c_12]; decide) (by rw [c_12]; rfl) (by decide) ?_
      refine lv_iconst (v := 1) hx hb dLF_isAtomic_157 (by decide) ?_
      exact W.zret hx hb hr rfl (fun t ht hW => ⟨⟨_, (), rfl, (by unfold hf_LongForm_isAtomic; rw [if_pos c_1, if_neg c_2, if_neg c_3, if_neg c_4, if_neg c_6, if_neg c_7, if_neg c_8, if_neg c_9, if_neg c_10, if_neg c_11, if_pos c_12]), ht⟩, mk_F ht⟩) (fun q h => nomatch h) dLF_isAtomic_158
    by_cases c_13 : (hf_LongForm_k a1) = 28
    · refine lv_tableIn (tgt := 157) hx hb dLF_isAtomic_14 (by rw [c_13]; decide) (by rw [c_13]; decide) (by rw [c_13]; rfl) (by decide) ?_
      refine lv_iconst (v := 1) hx hb dLF_isAtomic_157 (by decide) ?_
      exact W.zret hx hb hr rfl (fun t ht hW => ⟨⟨_, (), rfl, (by unfold hf_LongForm_isAtomic; rw [if_pos c_1, if_neg c_2, if_neg c_3, if_neg c_4, if_neg c_6, if_neg c_7, if_neg c_8, if_neg c_9, if_neg c_10, if_neg c_11, if_neg c_12, if_pos c_13]), ht⟩, mk_F ht⟩) (fun q h => nomatch h) dLF_isAtomic_158
    refine mk_table (tgt := 159) hx hb dLF_isAtomic_14 (mk_gap (N := 29) [0, 1, 2, 3, 4, 8, 12, 16, 20, 24, 28] (by decide) (by decide) (by have q_2 := lv_neT (a := 0) c_2 rfl; have q_3 := lv_neT (a := 1) c_3 rfl; have q_4 := lv_neT (a := 2) c_4 rfl; have q_6 := lv_neT (a := 3) c_6 rfl; have q_7 := lv_neT (a := 4) c_7 rfl; have q_8 := lv_neT (a := 8) c_8 rfl; have q_9 := lv_neT (a := 12) c_9 rfl; have q_10 := lv_neT (a := 16) c_10 rfl; have q_11 := lv_neT (a := 20) c_11 rfl; have q_12 := lv_neT (a := 24) c_12 rfl; have q_13 := lv_neT (a := 28) c_13 rfl; intro n hn; simp only [List.mem_cons, List.not_mem_nil, or_false, not_or]; omega)) (by decide) ?_
    refine lv_iconst (v := 0) hx hb dLF_isAtomic_159 (by decide) ?_
    exact W.zret hx hb hr rfl (fun t ht hW => ⟨⟨_, (), rfl, (by unfold hf_LongForm_isAtomic; rw [if_pos c_1, if_neg c_2, if_neg c_3, if_neg c_4, if_neg c_6, if_neg c_7, if_neg c_8, if_neg c_9, if_neg c_10, if_neg c_11, if_neg c_12, if_neg c_13]), ht⟩, mk_F ht⟩) (fun q h => nomatch h) dLF_isAtomic_160
  · refine lv_iconst (v := 0) hx hb dLF_isAtomic_8 (by decide) ?_
    exact W.zret hx hb hr rfl (fun t ht hW => ⟨⟨_, (), rfl, (by unfold hf_LongForm_isAtomic; rw [if_neg c_1]), ht⟩, mk_F ht⟩) (fun q h => nomatch h) dLF_isAtomic_9
set_option maxHeartbeats 4000000 in
set_option maxRecDepth 100000 in
theorem hc_Arithmetic_changed (l : Launch) (G : Heap) (a1 : Int32) (a2 : Int32) (a3 : Int32)  : Met l yAr_changed (wq yAr_changed cAr_changed 3 (some .int)) ({ frames := 1, cells := 0, slots := 0, locals := 21 }) (mk_P G [.int a1, .int a2, .int a3]) (mk_Qi G (hf_Arithmetic_changed a1 a2 a3)) 0 0 (fun _ => False) := by
  refine Met.ofW (cc := cAr_changed) (maxL := 3) (ret := (some .int)) (by decide) rfl ?_
  intro p e s m args below meth c s₁ B hml hv
  obtain ⟨rfl, hG⟩ := hv
  subst hG
  have hx := B.exec
  have hb := B.bytes
  have hr := B.returns
  have hts := atoms_spec (ws := (wq yAr_changed cAr_changed 3 (some .int))) B.pre
  have hown : s.vm.findClass RAr = some m.cls := findClass_of_methodNamed B.named
  have hlocks := B.notSynchronized
  have hg : ∀ w ∈ lw_g, w.before _ s = true := fun w h => hts w (List.mem_cons_of_mem _ h)
  have hl := lv_entry ([.int a1, .int a2, .int a3]) (n := 3) (Nat.le_of_ble_eq_true rfl)
  rw [lg_entry_eq]
  generalize (lg_sl ([.int a1, .int a2, .int a3]) ++ List.replicate (3 - (lg_sl ([.int a1, .int a2, .int a3])).length) Slot.unset).toArray = ls at hl ⊢
  have hl : lv_has ls 3 [(0, .int a1), (1, .int a2), (2, .int a3)] := hl
  refine lv_iload_n hx hb dAr_changed_0 rfl (lv_at hl 0 rfl) ?_
  by_cases c_1 : a1 = 0
  · refine lv_tableIn (tgt := 116) hx hb dAr_changed_1 (by rw [c_1]; decide) (by rw [c_1]; decide) (by rw [c_1]; rfl) (by decide) ?_
    refine lv_iload_n hx hb dAr_changed_116 rfl (lv_at hl 1 rfl) ?_
    refine lv_iload_n hx hb dAr_changed_117 rfl (lv_at hl 2 rfl) ?_
    refine lv_iadd hx hb dAr_changed_118 ?_
    exact W.iret hx hb hr (fun t ht hW => ⟨⟨_, (), rfl, (by unfold hf_Arithmetic_changed; rw [if_pos c_1]), ht⟩, mk_F ht⟩) (fun q h => nomatch h) dAr_changed_119
  by_cases c_2 : a1 = 1
  · refine lv_tableIn (tgt := 120) hx hb dAr_changed_1 (by rw [c_2]; decide) (by rw [c_2]; decide) (by rw [c_2]; rfl) (by decide) ?_
    refine lv_iload_n hx hb dAr_changed_120 rfl (lv_at hl 2 rfl) ?_
    exact W.iret hx hb hr (fun t ht hW => ⟨⟨_, (), rfl, (by unfold hf_Arithmetic_changed; rw [if_neg c_1, if_pos c_2]), ht⟩, mk_F ht⟩) (fun q h => nomatch h) dAr_changed_121
  by_cases c_3 : a1 = 4
  · refine lv_tableIn (tgt := 122) hx hb dAr_changed_1 (by rw [c_3]; decide) (by rw [c_3]; decide) (by rw [c_3]; rfl) (by decide) ?_
    refine lv_iload_n hx hb dAr_changed_122 rfl (lv_at hl 1 rfl) ?_
    refine lv_iload_n hx hb dAr_changed_123 rfl (lv_at hl 2 rfl) ?_
    refine lv_ixor hx hb dAr_changed_124 ?_
    exact W.iret hx hb hr (fun t ht hW => ⟨⟨_, (), rfl, (by unfold hf_Arithmetic_changed; rw [if_neg c_1, if_neg c_2, if_pos c_3]), ht⟩, mk_F ht⟩) (fun q h => nomatch h) dAr_changed_125
  by_cases c_4 : a1 = 8
  · refine lv_tableIn (tgt := 126) hx hb dAr_changed_1 (by rw [c_4]; decide) (by rw [c_4]; decide) (by rw [c_4]; rfl) (by decide) ?_
    refine lv_iload_n hx hb dAr_changed_126 rfl (lv_at hl 1 rfl) ?_
    refine lv_iload_n hx hb dAr_changed_127 rfl (lv_at hl 2 rfl) ?_
    refine lv_ior hx hb dAr_changed_128 ?_
    exact W.iret hx hb hr (fun t ht hW => ⟨⟨_, (), rfl, (by unfold hf_Arithmetic_changed; rw [if_neg c_1, if_neg c_2, if_neg c_3, if_pos c_4]), ht⟩, mk_F ht⟩) (fun q h => nomatch h) dAr_changed_129
  by_cases c_5 : a1 = 12
  · refine lv_tableIn (tgt := 130) hx hb dAr_changed_1 (by rw [c_5]; decide) (by rw [c_5]; decide) (by rw [c_5]; rfl) (by decide) ?_
    refine lv_iload_n hx hb dAr_changed_130 rfl (lv_at hl 1 rfl) ?_
    refine lv_iload_n hx hb dAr_changed_131 rfl (lv_at hl 2 rfl) ?_
    refine lv_iand hx hb dAr_changed_132 ?_
    exact W.iret hx hb hr (fun t ht hW => ⟨⟨_, (), rfl, (by unfold hf_Arithmetic_changed; rw [if_neg c_1, if_neg c_2, if_neg c_3, if_neg c_4, if_pos c_5]), ht⟩, mk_F ht⟩) (fun q h => nomatch h) dAr_changed_133
  by_cases c_6 : a1 = 16
  · refine lv_tableIn (tgt := 134) hx hb dAr_changed_1 (by rw [c_6]; decide) (by rw [c_6]; decide) (by rw [c_6]; rfl) (by decide) ?_
    refine lv_iload_n hx hb dAr_changed_134 rfl (lv_at hl 1 rfl) ?_
    refine lv_iload_n hx hb dAr_changed_135 rfl (lv_at hl 2 rfl) ?_
    refine lv_icmp_ge (tgt := 143) hx hb dAr_changed_136 (by decide) (fun c_7 => ?_) (fun c_7 => ?_)
    · refine lv_iload_n hx hb dAr_changed_143 rfl (lv_at hl 2 rfl) ?_
      exact W.iret hx hb hr (fun t ht hW => ⟨⟨_, (), rfl, (by unfold hf_Arithmetic_changed; rw [if_neg c_1, if_neg c_2, if_neg c_3, if_neg c_4, if_neg c_5, if_pos c_6, if_pos c_7]), ht⟩, mk_F ht⟩) (fun q h => nomatch h) dAr_changed_144
    · refine lv_iload_n hx hb dAr_changed_139 rfl (lv_at hl 1 rfl) ?_
      refine lv_goto (tgt := 144) hx hb dAr_changed_140 (by decide) ?_
      exact W.iret hx hb hr (fun t ht hW => ⟨⟨_, (), rfl, (by unfold hf_Arithmetic_changed; rw [if_neg c_1, if_neg c_2, if_neg c_3, if_neg c_4, if_neg c_5, if_pos c_6, if_neg c_7]), ht⟩, mk_F ht⟩) (fun q h => nomatch h) dAr_changed_144
  by_cases c_8 : a1 = 20
  · refine lv_tableIn (tgt := 145) hx hb dAr_changed_1 (by rw [c_8]; decide) (by rw [c_8]; decide) (by rw [c_8]; rfl) (by decide) ?_
    refine lv_iload_n hx hb dAr_changed_145 rfl (lv_at hl 1 rfl) ?_
    refine lv_iload_n hx hb dAr_changed_146 rfl (lv_at hl 2 rfl) ?_
    refine lv_icmp_ge (tgt := 154) hx hb dAr_changed_147 (by decide) (fun c_9 => ?_) (fun c_9 => ?_)
    · refine lv_iload_n hx hb dAr_changed_154 rfl (lv_at hl 1 rfl) ?_
      exact W.iret hx hb hr (fun t ht hW => ⟨⟨_, (), rfl, (by unfold hf_Arithmetic_changed; rw [if_neg c_1, if_neg c_2, if_neg c_3, if_neg c_4, if_neg c_5, if_neg c_6, if_pos c_8, if_pos c_9]), ht⟩, mk_F ht⟩) (fun q h => nomatch h) dAr_changed_155
    · refine lv_iload_n hx hb dAr_changed_150 rfl (lv_at hl 2 rfl) ?_
      refine lv_goto (tgt := 155) hx hb dAr_changed_151 (by decide) ?_
      exact W.iret hx hb hr (fun t ht hW => ⟨⟨_, (), rfl, (by unfold hf_Arithmetic_changed; rw [if_neg c_1, if_neg c_2, if_neg c_3, if_neg c_4, if_neg c_5, if_neg c_6, if_pos c_8, if_neg c_9]), ht⟩, mk_F ht⟩) (fun q h => nomatch h) dAr_changed_155
  by_cases c_10 : a1 = 24
  · refine lv_tableIn (tgt := 156) hx hb dAr_changed_1 (by rw [c_10]; decide) (by rw [c_10]; decide) (by rw [c_10]; rfl) (by decide) ?_
    refine lv_iload_n hx hb dAr_changed_156 rfl (lv_at hl 1 rfl) ?_
    refine lv_iload_n hx hb dAr_changed_157 rfl (lv_at hl 2 rfl) ?_
    refine mk_callR (va_runS (As := [.int a2, .int a3]) (rest := []) ⟨hx, hb, hml, hown, hts⟩ (hc_Arithmetic_isBelow l s.heap a2 a3) (va_cwS 2 hts (mk_gS tw_255 tw_212 tw_56 tw_213) rfl rfl rfl hdAr_isBelow.2 ⟨Nat.le_of_ble_eq_true rfl, Nat.le_of_ble_eq_true rfl⟩) mk_preS rfl rfl hl.1 rfl (lv_room (Nat.le_of_ble_eq_true rfl)) dAr_changed_158 ⟨Nat.zero_le _, Nat.zero_le _⟩) ?_
    refine lv_if_eq (tgt := 168) hx hb dAr_changed_161 (by decide) (fun c_11 => ?_) (fun c_11 => ?_)
    · refine lv_iload_n hx hb dAr_changed_168 rfl (lv_at hl 2 rfl) ?_
      exact W.iret hx hb hr (fun t ht hW => ⟨⟨_, (), rfl, (by unfold hf_Arithmetic_changed; rw [if_neg c_1, if_neg c_2, if_neg c_3, if_neg c_4, if_neg c_5, if_neg c_6, if_neg c_8, if_pos c_10, if_pos c_11]), ht⟩, mk_F ht⟩) (fun q h => nomatch h) dAr_changed_169
    · refine lv_iload_n hx hb dAr_changed_164 rfl (lv_at hl 1 rfl) ?_
      refine lv_goto (tgt := 169) hx hb dAr_changed_165 (by decide) ?_
      exact W.iret hx hb hr (fun t ht hW => ⟨⟨_, (), rfl, (by unfold hf_Arithmetic_changed; rw [if_neg c_1, if_neg c_2, if_neg c_3, if_neg c_4, if_neg c_5, if_neg c_6, if_neg c_8, if_pos c_10, if_neg c_11]), ht⟩, mk_F ht⟩) (fun q h => nomatch h) dAr_changed_169
  refine mk_table (tgt := 170) hx hb dAr_changed_1 (mk_gap (N := 25) [0, 1, 4, 8, 12, 16, 20, 24] (by decide) (by decide) (by have q_1 := lv_neT (a := 0) c_1 rfl; have q_2 := lv_neT (a := 1) c_2 rfl; have q_3 := lv_neT (a := 4) c_3 rfl; have q_4 := lv_neT (a := 8) c_4 rfl; have q_5 := lv_neT (a := 12) c_5 rfl; have q_6 := lv_neT (a := 16) c_6 rfl; have q_8 := lv_neT (a := 20) c_8 rfl; have q_10 := lv_neT (a := 24) c_10 rfl; intro n hn; simp only [List.mem_cons, List.not_mem_nil, or_false, not_or]; omega)) (by decide) ?_
  refine lv_iload_n hx hb dAr_changed_170 rfl (lv_at hl 1 rfl) ?_
  refine lv_iload_n hx hb dAr_changed_171 rfl (lv_at hl 2 rfl) ?_
  refine mk_callR (va_runS (As := [.int a2, .int a3]) (rest := []) ⟨hx, hb, hml, hown, hts⟩ (hc_Arithmetic_isBelow l s.heap a2 a3) (va_cwS 2 hts (mk_gS tw_255 tw_212 tw_56 tw_213) rfl rfl rfl hdAr_isBelow.2 ⟨Nat.le_of_ble_eq_true rfl, Nat.le_of_ble_eq_true rfl⟩) mk_preS rfl rfl hl.1 rfl (lv_room (Nat.le_of_ble_eq_true rfl)) dAr_changed_172 ⟨Nat.zero_le _, Nat.zero_le _⟩) ?_
  refine lv_if_eq (tgt := 182) hx hb dAr_changed_175 (by decide) (fun c_12 => ?_) (fun c_12 => ?_)
  · refine lv_iload_n hx hb dAr_changed_182 rfl (lv_at hl 1 rfl) ?_
    exact W.iret hx hb hr (fun t ht hW => ⟨⟨_, (), rfl, (by unfold hf_Arithmetic_changed; rw [if_neg c_1, if_neg c_2, if_neg c_3, if_neg c_4, if_neg c_5, if_neg c_6, if_neg c_8, if_neg c_10, if_pos c_12]), ht⟩, mk_F ht⟩) (fun q h => nomatch h) dAr_changed_183
  · refine lv_iload_n hx hb dAr_changed_178 rfl (lv_at hl 2 rfl) ?_
    refine lv_goto (tgt := 183) hx hb dAr_changed_179 (by decide) ?_
    exact W.iret hx hb hr (fun t ht hW => ⟨⟨_, (), rfl, (by unfold hf_Arithmetic_changed; rw [if_neg c_1, if_neg c_2, if_neg c_3, if_neg c_4, if_neg c_5, if_neg c_6, if_neg c_8, if_neg c_10, if_neg c_12]), ht⟩, mk_F ht⟩) (fun q h => nomatch h) dAr_changed_183
set_option maxHeartbeats 4000000 in
set_option maxRecDepth 100000 in
theorem hc_ShortForm_lowNear (l : Launch) (G : Heap) (a1 : Int32)  : Met l ySF_lowNear (wq ySF_lowNear cSF_lowNear 1 (some .int)) ({ frames := 1, cells := 0, slots := 0, locals := 22 }) (mk_P G [.int a1]) (mk_Qi G (hf_ShortForm_lowNear a1)) 0 0 (fun _ => False) := by
  refine Met.ofW (cc := cSF_lowNear) (maxL := 1) (ret := (some .int)) (by decide) rfl ?_
  intro p e s m args below meth c s₁ B hml hv
  obtain ⟨rfl, hG⟩ := hv
  subst hG
  have hx := B.exec
  have hb := B.bytes
  have hr := B.returns
  have hts := atoms_spec (ws := (wq ySF_lowNear cSF_lowNear 1 (some .int))) B.pre
  have hown : s.vm.findClass RSF = some m.cls := findClass_of_methodNamed B.named
  have hlocks := B.notSynchronized
  have hg : ∀ w ∈ lw_g, w.before _ s = true := fun w h => hts w (List.mem_cons_of_mem _ h)
  have hl := lv_entry ([.int a1]) (n := 1) (Nat.le_of_ble_eq_true rfl)
  rw [lg_entry_eq]
  generalize (lg_sl ([.int a1]) ++ List.replicate (1 - (lg_sl ([.int a1])).length) Slot.unset).toArray = ls at hl ⊢
  have hl : lv_has ls 1 [(0, .int a1)] := hl
  refine lv_bipush (v := 8) hx hb dSF_lowNear_0 (by decide) ?_
  refine lv_iload_n hx hb dSF_lowNear_2 rfl (lv_at hl 0 rfl) ?_
  refine lv_iconst (v := 2) hx hb dSF_lowNear_3 (by decide) ?_
  refine lv_iconst (v := 3) hx hb dSF_lowNear_4 (by decide) ?_
  refine mk_callR (va_runS (As := [.int a1, .int 2, .int 3]) (rest := [.int 8]) ⟨hx, hb, hml, hown, hts⟩ (hc_Bits_part l s.heap a1 2 3) (va_cwS 3 hts (mk_gS tw_326 tw_165 tw_55 tw_166) rfl rfl rfl hdBits_part.2 ⟨Nat.le_of_ble_eq_true rfl, Nat.le_of_ble_eq_true rfl⟩) mk_preS rfl rfl hl.1 rfl (lv_room (Nat.le_of_ble_eq_true rfl)) dSF_lowNear_5 ⟨Nat.zero_le _, Nat.zero_le _⟩) ?_
  refine lv_iadd hx hb dSF_lowNear_8 ?_
  exact W.iret hx hb hr (fun t ht hW => ⟨⟨_, (), rfl, rfl, ht⟩, mk_F ht⟩) (fun q h => nomatch h) dSF_lowNear_9
set_option maxHeartbeats 4000000 in
set_option maxRecDepth 100000 in
theorem hc_ShortForm_highNear (l : Launch) (G : Heap) (a1 : Int32)  : Met l ySF_highNear (wq ySF_highNear cSF_highNear 1 (some .int)) ({ frames := 1, cells := 0, slots := 0, locals := 22 }) (mk_P G [.int a1]) (mk_Qi G (hf_ShortForm_highNear a1)) 0 0 (fun _ => False) := by
  refine Met.ofW (cc := cSF_highNear) (maxL := 1) (ret := (some .int)) (by decide) rfl ?_
  intro p e s m args below meth c s₁ B hml hv
  obtain ⟨rfl, hG⟩ := hv
  subst hG
  have hx := B.exec
  have hb := B.bytes
  have hr := B.returns
  have hts := atoms_spec (ws := (wq ySF_highNear cSF_highNear 1 (some .int))) B.pre
  have hown : s.vm.findClass RSF = some m.cls := findClass_of_methodNamed B.named
  have hlocks := B.notSynchronized
  have hg : ∀ w ∈ lw_g, w.before _ s = true := fun w h => hts w (List.mem_cons_of_mem _ h)
  have hl := lv_entry ([.int a1]) (n := 1) (Nat.le_of_ble_eq_true rfl)
  rw [lg_entry_eq]
  generalize (lg_sl ([.int a1]) ++ List.replicate (1 - (lg_sl ([.int a1])).length) Slot.unset).toArray = ls at hl ⊢
  have hl : lv_has ls 1 [(0, .int a1)] := hl
  refine lv_bipush (v := 8) hx hb dSF_highNear_0 (by decide) ?_
  refine lv_iload_n hx hb dSF_highNear_2 rfl (lv_at hl 0 rfl) ?_
  refine lv_bipush (v := 7) hx hb dSF_highNear_3 (by decide) ?_
  refine lv_iconst (v := 3) hx hb dSF_highNear_5 (by decide) ?_
  refine mk_callR (va_runS (As := [.int a1, .int 7, .int 3]) (rest := [.int 8]) ⟨hx, hb, hml, hown, hts⟩ (hc_Bits_part l s.heap a1 7 3) (va_cwS 3 hts (mk_gS tw_326 tw_165 tw_55 tw_166) rfl rfl rfl hdBits_part.2 ⟨Nat.le_of_ble_eq_true rfl, Nat.le_of_ble_eq_true rfl⟩) mk_preS rfl rfl hl.1 rfl (lv_room (Nat.le_of_ble_eq_true rfl)) dSF_highNear_6 ⟨Nat.zero_le _, Nat.zero_le _⟩) ?_
  refine lv_iadd hx hb dSF_highNear_9 ?_
  exact W.iret hx hb hr (fun t ht hW => ⟨⟨_, (), rfl, rfl, ht⟩, mk_F ht⟩) (fun q h => nomatch h) dSF_highNear_10
set_option maxHeartbeats 4000000 in
set_option maxRecDepth 100000 in
theorem hc_ShortForm_nearOffset (l : Launch) (G : Heap) (a1 : Int32)  : Met l ySF_nearOffset (wq ySF_nearOffset cSF_nearOffset 1 (some .int)) ({ frames := 1, cells := 0, slots := 0, locals := 22 }) (mk_P G [.int a1]) (mk_Qi G (hf_ShortForm_nearOffset a1)) 0 0 (fun _ => False) := by
  refine Met.ofW (cc := cSF_nearOffset) (maxL := 1) (ret := (some .int)) (by decide) rfl ?_
  intro p e s m args below meth c s₁ B hml hv
  obtain ⟨rfl, hG⟩ := hv
  subst hG
  have hx := B.exec
  have hb := B.bytes
  have hr := B.returns
  have hts := atoms_spec (ws := (wq ySF_nearOffset cSF_nearOffset 1 (some .int))) B.pre
  have hown : s.vm.findClass RSF = some m.cls := findClass_of_methodNamed B.named
  have hlocks := B.notSynchronized
  have hg : ∀ w ∈ lw_g, w.before _ s = true := fun w h => hts w (List.mem_cons_of_mem _ h)
  have hl := lv_entry ([.int a1]) (n := 1) (Nat.le_of_ble_eq_true rfl)
  rw [lg_entry_eq]
  generalize (lg_sl ([.int a1]) ++ List.replicate (1 - (lg_sl ([.int a1])).length) Slot.unset).toArray = ls at hl ⊢
  have hl : lv_has ls 1 [(0, .int a1)] := hl
  refine lv_iload_n hx hb dSF_nearOffset_0 rfl (lv_at hl 0 rfl) ?_
  refine lv_bipush (v := 10) hx hb dSF_nearOffset_1 (by decide) ?_
  refine lv_iconst (v := 3) hx hb dSF_nearOffset_3 (by decide) ?_
  refine mk_callR (va_runS (As := [.int a1, .int 10, .int 3]) (rest := []) ⟨hx, hb, hml, hown, hts⟩ (hc_Bits_part l s.heap a1 10 3) (va_cwS 3 hts (mk_gS tw_326 tw_165 tw_55 tw_166) rfl rfl rfl hdBits_part.2 ⟨Nat.le_of_ble_eq_true rfl, Nat.le_of_ble_eq_true rfl⟩) mk_preS rfl rfl hl.1 rfl (lv_room (Nat.le_of_ble_eq_true rfl)) dSF_nearOffset_4 ⟨Nat.zero_le _, Nat.zero_le _⟩) ?_
  refine lv_iconst (v := 3) hx hb dSF_nearOffset_7 (by decide) ?_
  refine lv_ishl hx hb dSF_nearOffset_8 ?_
  refine lv_iload_n hx hb dSF_nearOffset_9 rfl (lv_at hl 0 rfl) ?_
  refine lv_bipush (v := 6) hx hb dSF_nearOffset_10 (by decide) ?_
  refine lv_iconst (v := 1) hx hb dSF_nearOffset_12 (by decide) ?_
  refine mk_callR (va_runS (As := [.int a1, .int 6, .int 1]) (rest := [.int ((hf_Bits_part a1 10 3) <<< (3 &&& 31))]) ⟨hx, hb, hml, hown, hts⟩ (hc_Bits_part l s.heap a1 6 1) (va_cwS 3 hts (mk_gS tw_326 tw_165 tw_55 tw_166) rfl rfl rfl hdBits_part.2 ⟨Nat.le_of_ble_eq_true rfl, Nat.le_of_ble_eq_true rfl⟩) mk_preS rfl rfl hl.1 rfl (lv_room (Nat.le_of_ble_eq_true rfl)) dSF_nearOffset_13 ⟨Nat.zero_le _, Nat.zero_le _⟩) ?_
  refine lv_iconst (v := 2) hx hb dSF_nearOffset_16 (by decide) ?_
  refine lv_ishl hx hb dSF_nearOffset_17 ?_
  refine lv_ior hx hb dSF_nearOffset_18 ?_
  refine lv_iload_n hx hb dSF_nearOffset_19 rfl (lv_at hl 0 rfl) ?_
  refine lv_iconst (v := 5) hx hb dSF_nearOffset_20 (by decide) ?_
  refine lv_iconst (v := 1) hx hb dSF_nearOffset_21 (by decide) ?_
  refine mk_callR (va_runS (As := [.int a1, .int 5, .int 1]) (rest := [.int (((hf_Bits_part a1 10 3) <<< (3 &&& 31)) ||| ((hf_Bits_part a1 6 1) <<< (2 &&& 31)))]) ⟨hx, hb, hml, hown, hts⟩ (hc_Bits_part l s.heap a1 5 1) (va_cwS 3 hts (mk_gS tw_326 tw_165 tw_55 tw_166) rfl rfl rfl hdBits_part.2 ⟨Nat.le_of_ble_eq_true rfl, Nat.le_of_ble_eq_true rfl⟩) mk_preS rfl rfl hl.1 rfl (lv_room (Nat.le_of_ble_eq_true rfl)) dSF_nearOffset_22 ⟨Nat.zero_le _, Nat.zero_le _⟩) ?_
  refine lv_bipush (v := 6) hx hb dSF_nearOffset_25 (by decide) ?_
  refine lv_ishl hx hb dSF_nearOffset_27 ?_
  refine lv_ior hx hb dSF_nearOffset_28 ?_
  exact W.iret hx hb hr (fun t ht hW => ⟨⟨_, (), rfl, rfl, ht⟩, mk_F ht⟩) (fun q h => nomatch h) dSF_nearOffset_29
set_option maxHeartbeats 4000000 in
set_option maxRecDepth 100000 in
theorem hc_ShortForm_f (l : Launch) (G : Heap) (a1 : Int32)  : Met l ySF_f (wq ySF_f cSF_f 1 (some .int)) ({ frames := 1, cells := 0, slots := 0, locals := 22 }) (mk_P G [.int a1]) (mk_Qi G (hf_ShortForm_f a1)) 0 0 (fun _ => False) := by
  refine Met.ofW (cc := cSF_f) (maxL := 1) (ret := (some .int)) (by decide) rfl ?_
  intro p e s m args below meth c s₁ B hml hv
  obtain ⟨rfl, hG⟩ := hv
  subst hG
  have hx := B.exec
  have hb := B.bytes
  have hr := B.returns
  have hts := atoms_spec (ws := (wq ySF_f cSF_f 1 (some .int))) B.pre
  have hown : s.vm.findClass RSF = some m.cls := findClass_of_methodNamed B.named
  have hlocks := B.notSynchronized
  have hg : ∀ w ∈ lw_g, w.before _ s = true := fun w h => hts w (List.mem_cons_of_mem _ h)
  have hl := lv_entry ([.int a1]) (n := 1) (Nat.le_of_ble_eq_true rfl)
  rw [lg_entry_eq]
  generalize (lg_sl ([.int a1]) ++ List.replicate (1 - (lg_sl ([.int a1])).length) Slot.unset).toArray = ls at hl ⊢
  have hl : lv_has ls 1 [(0, .int a1)] := hl
  refine lv_iload_n hx hb dSF_f_0 rfl (lv_at hl 0 rfl) ?_
  refine lv_bipush (v := 13) hx hb dSF_f_1 (by decide) ?_
  refine lv_iconst (v := 3) hx hb dSF_f_3 (by decide) ?_
  refine mk_callR (va_runS (As := [.int a1, .int 13, .int 3]) (rest := []) ⟨hx, hb, hml, hown, hts⟩ (hc_Bits_part l s.heap a1 13 3) (va_cwS 3 hts (mk_gS tw_326 tw_165 tw_55 tw_166) rfl rfl rfl hdBits_part.2 ⟨Nat.le_of_ble_eq_true rfl, Nat.le_of_ble_eq_true rfl⟩) mk_preS rfl rfl hl.1 rfl (lv_room (Nat.le_of_ble_eq_true rfl)) dSF_f_4 ⟨Nat.zero_le _, Nat.zero_le _⟩) ?_
  exact W.iret hx hb hr (fun t ht hW => ⟨⟨_, (), rfl, rfl, ht⟩, mk_F ht⟩) (fun q h => nomatch h) dSF_f_7
set_option maxHeartbeats 4000000 in
set_option maxRecDepth 100000 in
theorem hc_ShortForm_stackNumber (l : Launch) (G : Heap) (a1 : Int32)  : Met l ySF_stackNumber (wq ySF_stackNumber cSF_stackNumber 1 (some .int)) ({ frames := 1, cells := 0, slots := 0, locals := 22 }) (mk_P G [.int a1]) (mk_Qi G (hf_ShortForm_stackNumber a1)) 0 0 (fun _ => False) := by
  refine Met.ofW (cc := cSF_stackNumber) (maxL := 1) (ret := (some .int)) (by decide) rfl ?_
  intro p e s m args below meth c s₁ B hml hv
  obtain ⟨rfl, hG⟩ := hv
  subst hG
  have hx := B.exec
  have hb := B.bytes
  have hr := B.returns
  have hts := atoms_spec (ws := (wq ySF_stackNumber cSF_stackNumber 1 (some .int))) B.pre
  have hown : s.vm.findClass RSF = some m.cls := findClass_of_methodNamed B.named
  have hlocks := B.notSynchronized
  have hg : ∀ w ∈ lw_g, w.before _ s = true := fun w h => hts w (List.mem_cons_of_mem _ h)
  have hl := lv_entry ([.int a1]) (n := 1) (Nat.le_of_ble_eq_true rfl)
  rw [lg_entry_eq]
  generalize (lg_sl ([.int a1]) ++ List.replicate (1 - (lg_sl ([.int a1])).length) Slot.unset).toArray = ls at hl ⊢
  have hl : lv_has ls 1 [(0, .int a1)] := hl
  refine lv_iload_n hx hb dSF_stackNumber_0 rfl (lv_at hl 0 rfl) ?_
  refine lv_bipush (v := 11) hx hb dSF_stackNumber_1 (by decide) ?_
  refine lv_iconst (v := 2) hx hb dSF_stackNumber_3 (by decide) ?_
  refine mk_callR (va_runS (As := [.int a1, .int 11, .int 2]) (rest := []) ⟨hx, hb, hml, hown, hts⟩ (hc_Bits_part l s.heap a1 11 2) (va_cwS 3 hts (mk_gS tw_326 tw_165 tw_55 tw_166) rfl rfl rfl hdBits_part.2 ⟨Nat.le_of_ble_eq_true rfl, Nat.le_of_ble_eq_true rfl⟩) mk_preS rfl rfl hl.1 rfl (lv_room (Nat.le_of_ble_eq_true rfl)) dSF_stackNumber_4 ⟨Nat.zero_le _, Nat.zero_le _⟩) ?_
  refine lv_iconst (v := 4) hx hb dSF_stackNumber_7 (by decide) ?_
  refine lv_ishl hx hb dSF_stackNumber_8 ?_
  refine lv_iload_n hx hb dSF_stackNumber_9 rfl (lv_at hl 0 rfl) ?_
  refine lv_bipush (v := 7) hx hb dSF_stackNumber_10 (by decide) ?_
  refine lv_iconst (v := 4) hx hb dSF_stackNumber_12 (by decide) ?_
  refine mk_callR (va_runS (As := [.int a1, .int 7, .int 4]) (rest := [.int ((hf_Bits_part a1 11 2) <<< (4 &&& 31))]) ⟨hx, hb, hml, hown, hts⟩ (hc_Bits_part l s.heap a1 7 4) (va_cwS 3 hts (mk_gS tw_326 tw_165 tw_55 tw_166) rfl rfl rfl hdBits_part.2 ⟨Nat.le_of_ble_eq_true rfl, Nat.le_of_ble_eq_true rfl⟩) mk_preS rfl rfl hl.1 rfl (lv_room (Nat.le_of_ble_eq_true rfl)) dSF_stackNumber_13 ⟨Nat.zero_le _, Nat.zero_le _⟩) ?_
  refine lv_bipush (v := 6) hx hb dSF_stackNumber_16 (by decide) ?_
  refine lv_ishl hx hb dSF_stackNumber_18 ?_
  refine lv_ior hx hb dSF_stackNumber_19 ?_
  refine lv_iload_n hx hb dSF_stackNumber_20 rfl (lv_at hl 0 rfl) ?_
  refine lv_bipush (v := 6) hx hb dSF_stackNumber_21 (by decide) ?_
  refine lv_iconst (v := 1) hx hb dSF_stackNumber_23 (by decide) ?_
  refine mk_callR (va_runS (As := [.int a1, .int 6, .int 1]) (rest := [.int (((hf_Bits_part a1 11 2) <<< (4 &&& 31)) ||| ((hf_Bits_part a1 7 4) <<< (6 &&& 31)))]) ⟨hx, hb, hml, hown, hts⟩ (hc_Bits_part l s.heap a1 6 1) (va_cwS 3 hts (mk_gS tw_326 tw_165 tw_55 tw_166) rfl rfl rfl hdBits_part.2 ⟨Nat.le_of_ble_eq_true rfl, Nat.le_of_ble_eq_true rfl⟩) mk_preS rfl rfl hl.1 rfl (lv_room (Nat.le_of_ble_eq_true rfl)) dSF_stackNumber_24 ⟨Nat.zero_le _, Nat.zero_le _⟩) ?_
  refine lv_iconst (v := 2) hx hb dSF_stackNumber_27 (by decide) ?_
  refine lv_ishl hx hb dSF_stackNumber_28 ?_
  refine lv_ior hx hb dSF_stackNumber_29 ?_
  refine lv_iload_n hx hb dSF_stackNumber_30 rfl (lv_at hl 0 rfl) ?_
  refine lv_iconst (v := 5) hx hb dSF_stackNumber_31 (by decide) ?_
  refine lv_iconst (v := 1) hx hb dSF_stackNumber_32 (by decide) ?_
  refine mk_callR (va_runS (As := [.int a1, .int 5, .int 1]) (rest := [.int ((((hf_Bits_part a1 11 2) <<< (4 &&& 31)) ||| ((hf_Bits_part a1 7 4) <<< (6 &&& 31))) ||| ((hf_Bits_part a1 6 1) <<< (2 &&& 31)))]) ⟨hx, hb, hml, hown, hts⟩ (hc_Bits_part l s.heap a1 5 1) (va_cwS 3 hts (mk_gS tw_326 tw_165 tw_55 tw_166) rfl rfl rfl hdBits_part.2 ⟨Nat.le_of_ble_eq_true rfl, Nat.le_of_ble_eq_true rfl⟩) mk_preS rfl rfl hl.1 rfl (lv_room (Nat.le_of_ble_eq_true rfl)) dSF_stackNumber_33 ⟨Nat.zero_le _, Nat.zero_le _⟩) ?_
  refine lv_iconst (v := 3) hx hb dSF_stackNumber_36 (by decide) ?_
  refine lv_ishl hx hb dSF_stackNumber_37 ?_
  refine lv_ior hx hb dSF_stackNumber_38 ?_
  exact W.iret hx hb hr (fun t ht hW => ⟨⟨_, (), rfl, rfl, ht⟩, mk_F ht⟩) (fun q h => nomatch h) dSF_stackNumber_39
set_option maxHeartbeats 4000000 in
set_option maxRecDepth 100000 in
theorem hc_ShortForm_d (l : Launch) (G : Heap) (a1 : Int32)  : Met l ySF_d (wq ySF_d cSF_d 1 (some .int)) ({ frames := 1, cells := 0, slots := 0, locals := 22 }) (mk_P G [.int a1]) (mk_Qi G (hf_ShortForm_d a1)) 0 0 (fun _ => False) := by
  refine Met.ofW (cc := cSF_d) (maxL := 1) (ret := (some .int)) (by decide) rfl ?_
  intro p e s m args below meth c s₁ B hml hv
  obtain ⟨rfl, hG⟩ := hv
  subst hG
  have hx := B.exec
  have hb := B.bytes
  have hr := B.returns
  have hts := atoms_spec (ws := (wq ySF_d cSF_d 1 (some .int))) B.pre
  have hown : s.vm.findClass RSF = some m.cls := findClass_of_methodNamed B.named
  have hlocks := B.notSynchronized
  have hg : ∀ w ∈ lw_g, w.before _ s = true := fun w h => hts w (List.mem_cons_of_mem _ h)
  have hl := lv_entry ([.int a1]) (n := 1) (Nat.le_of_ble_eq_true rfl)
  rw [lg_entry_eq]
  generalize (lg_sl ([.int a1]) ++ List.replicate (1 - (lg_sl ([.int a1])).length) Slot.unset).toArray = ls at hl ⊢
  have hl : lv_has ls 1 [(0, .int a1)] := hl
  refine lv_iload_n hx hb dSF_d_0 rfl (lv_at hl 0 rfl) ?_
  refine lv_bipush (v := 7) hx hb dSF_d_1 (by decide) ?_
  refine lv_iconst (v := 5) hx hb dSF_d_3 (by decide) ?_
  refine mk_callR (va_runS (As := [.int a1, .int 7, .int 5]) (rest := []) ⟨hx, hb, hml, hown, hts⟩ (hc_Bits_part l s.heap a1 7 5) (va_cwS 3 hts (mk_gS tw_326 tw_165 tw_55 tw_166) rfl rfl rfl hdBits_part.2 ⟨Nat.le_of_ble_eq_true rfl, Nat.le_of_ble_eq_true rfl⟩) mk_preS rfl rfl hl.1 rfl (lv_room (Nat.le_of_ble_eq_true rfl)) dSF_d_4 ⟨Nat.zero_le _, Nat.zero_le _⟩) ?_
  exact W.iret hx hb hr (fun t ht hW => ⟨⟨_, (), rfl, rfl, ht⟩, mk_F ht⟩) (fun q h => nomatch h) dSF_d_7
set_option maxHeartbeats 4000000 in
set_option maxRecDepth 100000 in
theorem hc_ShortForm_number (l : Launch) (G : Heap) (a1 : Int32)  : Met l ySF_number (wq ySF_number cSF_number 1 (some .int)) ({ frames := 1, cells := 0, slots := 0, locals := 22 }) (mk_P G [.int a1]) (mk_Qi G (hf_ShortForm_number a1)) 0 0 (fun _ => False) := by
  refine Met.ofW (cc := cSF_number) (maxL := 1) (ret := (some .int)) (by decide) rfl ?_
  intro p e s m args below meth c s₁ B hml hv
  obtain ⟨rfl, hG⟩ := hv
  subst hG
  have hx := B.exec
  have hb := B.bytes
  have hr := B.returns
  have hts := atoms_spec (ws := (wq ySF_number cSF_number 1 (some .int))) B.pre
  have hown : s.vm.findClass RSF = some m.cls := findClass_of_methodNamed B.named
  have hlocks := B.notSynchronized
  have hg : ∀ w ∈ lw_g, w.before _ s = true := fun w h => hts w (List.mem_cons_of_mem _ h)
  have hl := lv_entry ([.int a1]) (n := 1) (Nat.le_of_ble_eq_true rfl)
  rw [lg_entry_eq]
  generalize (lg_sl ([.int a1]) ++ List.replicate (1 - (lg_sl ([.int a1])).length) Slot.unset).toArray = ls at hl ⊢
  have hl : lv_has ls 1 [(0, .int a1)] := hl
  refine lv_iload_n hx hb dSF_number_0 rfl (lv_at hl 0 rfl) ?_
  refine lv_bipush (v := 12) hx hb dSF_number_1 (by decide) ?_
  refine lv_iconst (v := 1) hx hb dSF_number_3 (by decide) ?_
  refine mk_callR (va_runS (As := [.int a1, .int 12, .int 1]) (rest := []) ⟨hx, hb, hml, hown, hts⟩ (hc_Bits_part l s.heap a1 12 1) (va_cwS 3 hts (mk_gS tw_326 tw_165 tw_55 tw_166) rfl rfl rfl hdBits_part.2 ⟨Nat.le_of_ble_eq_true rfl, Nat.le_of_ble_eq_true rfl⟩) mk_preS rfl rfl hl.1 rfl (lv_room (Nat.le_of_ble_eq_true rfl)) dSF_number_4 ⟨Nat.zero_le _, Nat.zero_le _⟩) ?_
  refine lv_iconst (v := 5) hx hb dSF_number_7 (by decide) ?_
  refine lv_ishl hx hb dSF_number_8 ?_
  refine lv_iload_n hx hb dSF_number_9 rfl (lv_at hl 0 rfl) ?_
  refine lv_iconst (v := 2) hx hb dSF_number_10 (by decide) ?_
  refine lv_iconst (v := 5) hx hb dSF_number_11 (by decide) ?_
  refine mk_callR (va_runS (As := [.int a1, .int 2, .int 5]) (rest := [.int ((hf_Bits_part a1 12 1) <<< (5 &&& 31))]) ⟨hx, hb, hml, hown, hts⟩ (hc_Bits_part l s.heap a1 2 5) (va_cwS 3 hts (mk_gS tw_326 tw_165 tw_55 tw_166) rfl rfl rfl hdBits_part.2 ⟨Nat.le_of_ble_eq_true rfl, Nat.le_of_ble_eq_true rfl⟩) mk_preS rfl rfl hl.1 rfl (lv_room (Nat.le_of_ble_eq_true rfl)) dSF_number_12 ⟨Nat.zero_le _, Nat.zero_le _⟩) ?_
  refine lv_ior hx hb dSF_number_15 ?_
  refine lv_bipush (v := 6) hx hb dSF_number_16 (by decide) ?_
  refine mk_callR (va_runS (As := [.int (((hf_Bits_part a1 12 1) <<< (5 &&& 31)) ||| (hf_Bits_part a1 2 5)), .int 6]) (rest := []) ⟨hx, hb, hml, hown, hts⟩ (hc_Bits_signed l s.heap (((hf_Bits_part a1 12 1) <<< (5 &&& 31)) ||| (hf_Bits_part a1 2 5)) 6) (va_cwS 2 hts (mk_gS tw_349 tw_178 tw_55 tw_179) rfl rfl rfl hdBits_signed.2 ⟨Nat.le_of_ble_eq_true rfl, Nat.le_of_ble_eq_true rfl⟩) mk_preS rfl rfl hl.1 rfl (lv_room (Nat.le_of_ble_eq_true rfl)) dSF_number_18 ⟨Nat.zero_le _, Nat.zero_le _⟩) ?_
  exact W.iret hx hb hr (fun t ht hW => ⟨⟨_, (), rfl, rfl, ht⟩, mk_F ht⟩) (fun q h => nomatch h) dSF_number_21
set_option maxHeartbeats 4000000 in
set_option maxRecDepth 100000 in
theorem hc_ShortForm_offsetJ (l : Launch) (G : Heap) (a1 : Int32)  : Met l ySF_offsetJ (wq ySF_offsetJ cSF_offsetJ 2 (some .int)) ({ frames := 1, cells := 0, slots := 0, locals := 22 }) (mk_P G [.int a1]) (mk_Qi G (hf_ShortForm_offsetJ a1)) 0 0 (fun _ => False) := by
  refine Met.ofW (cc := cSF_offsetJ) (maxL := 2) (ret := (some .int)) (by decide) rfl ?_
  intro p e s m args below meth c s₁ B hml hv
  obtain ⟨rfl, hG⟩ := hv
  subst hG
  have hx := B.exec
  have hb := B.bytes
  have hr := B.returns
  have hts := atoms_spec (ws := (wq ySF_offsetJ cSF_offsetJ 2 (some .int))) B.pre
  have hown : s.vm.findClass RSF = some m.cls := findClass_of_methodNamed B.named
  have hlocks := B.notSynchronized
  have hg : ∀ w ∈ lw_g, w.before _ s = true := fun w h => hts w (List.mem_cons_of_mem _ h)
  have hl := lv_entry ([.int a1]) (n := 2) (Nat.le_of_ble_eq_true rfl)
  rw [lg_entry_eq]
  generalize (lg_sl ([.int a1]) ++ List.replicate (2 - (lg_sl ([.int a1])).length) Slot.unset).toArray = ls at hl ⊢
  have hl : lv_has ls 2 [(0, .int a1)] := hl
  refine lv_iload_n hx hb dSF_offsetJ_0 rfl (lv_at hl 0 rfl) ?_
  refine lv_bipush (v := 12) hx hb dSF_offsetJ_1 (by decide) ?_
  refine lv_iconst (v := 1) hx hb dSF_offsetJ_3 (by decide) ?_
  refine mk_callR (va_runS (As := [.int a1, .int 12, .int 1]) (rest := []) ⟨hx, hb, hml, hown, hts⟩ (hc_Bits_part l s.heap a1 12 1) (va_cwS 3 hts (mk_gS tw_326 tw_165 tw_55 tw_166) rfl rfl rfl hdBits_part.2 ⟨Nat.le_of_ble_eq_true rfl, Nat.le_of_ble_eq_true rfl⟩) mk_preS rfl rfl hl.1 rfl (lv_room (Nat.le_of_ble_eq_true rfl)) dSF_offsetJ_4 ⟨Nat.zero_le _, Nat.zero_le _⟩) ?_
  refine lv_bipush (v := 11) hx hb dSF_offsetJ_7 (by decide) ?_
  refine lv_ishl hx hb dSF_offsetJ_9 ?_
  refine lv_iload_n hx hb dSF_offsetJ_10 rfl (lv_at hl 0 rfl) ?_
  refine lv_bipush (v := 11) hx hb dSF_offsetJ_11 (by decide) ?_
  refine lv_iconst (v := 1) hx hb dSF_offsetJ_13 (by decide) ?_
  refine mk_callR (va_runS (As := [.int a1, .int 11, .int 1]) (rest := [.int ((hf_Bits_part a1 12 1) <<< (11 &&& 31))]) ⟨hx, hb, hml, hown, hts⟩ (hc_Bits_part l s.heap a1 11 1) (va_cwS 3 hts (mk_gS tw_326 tw_165 tw_55 tw_166) rfl rfl rfl hdBits_part.2 ⟨Nat.le_of_ble_eq_true rfl, Nat.le_of_ble_eq_true rfl⟩) mk_preS rfl rfl hl.1 rfl (lv_room (Nat.le_of_ble_eq_true rfl)) dSF_offsetJ_14 ⟨Nat.zero_le _, Nat.zero_le _⟩) ?_
  refine lv_iconst (v := 4) hx hb dSF_offsetJ_17 (by decide) ?_
  refine lv_ishl hx hb dSF_offsetJ_18 ?_
  refine lv_ior hx hb dSF_offsetJ_19 ?_
  refine lv_iload_n hx hb dSF_offsetJ_20 rfl (lv_at hl 0 rfl) ?_
  refine lv_bipush (v := 9) hx hb dSF_offsetJ_21 (by decide) ?_
  refine lv_iconst (v := 2) hx hb dSF_offsetJ_23 (by decide) ?_
  refine mk_callR (va_runS (As := [.int a1, .int 9, .int 2]) (rest := [.int (((hf_Bits_part a1 12 1) <<< (11 &&& 31)) ||| ((hf_Bits_part a1 11 1) <<< (4 &&& 31)))]) ⟨hx, hb, hml, hown, hts⟩ (hc_Bits_part l s.heap a1 9 2) (va_cwS 3 hts (mk_gS tw_326 tw_165 tw_55 tw_166) rfl rfl rfl hdBits_part.2 ⟨Nat.le_of_ble_eq_true rfl, Nat.le_of_ble_eq_true rfl⟩) mk_preS rfl rfl hl.1 rfl (lv_room (Nat.le_of_ble_eq_true rfl)) dSF_offsetJ_24 ⟨Nat.zero_le _, Nat.zero_le _⟩) ?_
  refine lv_bipush (v := 8) hx hb dSF_offsetJ_27 (by decide) ?_
  refine lv_ishl hx hb dSF_offsetJ_29 ?_
  refine lv_ior hx hb dSF_offsetJ_30 ?_
  refine lv_iload_n hx hb dSF_offsetJ_31 rfl (lv_at hl 0 rfl) ?_
  refine lv_bipush (v := 8) hx hb dSF_offsetJ_32 (by decide) ?_
  refine lv_iconst (v := 1) hx hb dSF_offsetJ_34 (by decide) ?_
  refine mk_callR (va_runS (As := [.int a1, .int 8, .int 1]) (rest := [.int ((((hf_Bits_part a1 12 1) <<< (11 &&& 31)) ||| ((hf_Bits_part a1 11 1) <<< (4 &&& 31))) ||| ((hf_Bits_part a1 9 2) <<< (8 &&& 31)))]) ⟨hx, hb, hml, hown, hts⟩ (hc_Bits_part l s.heap a1 8 1) (va_cwS 3 hts (mk_gS tw_326 tw_165 tw_55 tw_166) rfl rfl rfl hdBits_part.2 ⟨Nat.le_of_ble_eq_true rfl, Nat.le_of_ble_eq_true rfl⟩) mk_preS rfl rfl hl.1 rfl (lv_room (Nat.le_of_ble_eq_true rfl)) dSF_offsetJ_35 ⟨Nat.zero_le _, Nat.zero_le _⟩) ?_
  refine lv_bipush (v := 10) hx hb dSF_offsetJ_38 (by decide) ?_
  refine lv_ishl hx hb dSF_offsetJ_40 ?_
  refine lv_ior hx hb dSF_offsetJ_41 ?_
  refine lv_iload_n hx hb dSF_offsetJ_42 rfl (lv_at hl 0 rfl) ?_
  refine lv_bipush (v := 7) hx hb dSF_offsetJ_43 (by decide) ?_
  refine lv_iconst (v := 1) hx hb dSF_offsetJ_45 (by decide) ?_
  refine mk_callR (va_runS (As := [.int a1, .int 7, .int 1]) (rest := [.int (((((hf_Bits_part a1 12 1) <<< (11 &&& 31)) ||| ((hf_Bits_part a1 11 1) <<< (4 &&& 31))) ||| ((hf_Bits_part a1 9 2) <<< (8 &&& 31))) ||| ((hf_Bits_part a1 8 1) <<< (10 &&& 31)))]) ⟨hx, hb, hml, hown, hts⟩ (hc_Bits_part l s.heap a1 7 1) (va_cwS 3 hts (mk_gS tw_326 tw_165 tw_55 tw_166) rfl rfl rfl hdBits_part.2 ⟨Nat.le_of_ble_eq_true rfl, Nat.le_of_ble_eq_true rfl⟩) mk_preS rfl rfl hl.1 rfl (lv_room (Nat.le_of_ble_eq_true rfl)) dSF_offsetJ_46 ⟨Nat.zero_le _, Nat.zero_le _⟩) ?_
  refine lv_bipush (v := 6) hx hb dSF_offsetJ_49 (by decide) ?_
  refine lv_ishl hx hb dSF_offsetJ_51 ?_
  refine lv_ior hx hb dSF_offsetJ_52 ?_
  refine lv_iload_n hx hb dSF_offsetJ_53 rfl (lv_at hl 0 rfl) ?_
  refine lv_bipush (v := 6) hx hb dSF_offsetJ_54 (by decide) ?_
  refine lv_iconst (v := 1) hx hb dSF_offsetJ_56 (by decide) ?_
  refine mk_callR (va_runS (As := [.int a1, .int 6, .int 1]) (rest := [.int ((((((hf_Bits_part a1 12 1) <<< (11 &&& 31)) ||| ((hf_Bits_part a1 11 1) <<< (4 &&& 31))) ||| ((hf_Bits_part a1 9 2) <<< (8 &&& 31))) ||| ((hf_Bits_part a1 8 1) <<< (10 &&& 31))) ||| ((hf_Bits_part a1 7 1) <<< (6 &&& 31)))]) ⟨hx, hb, hml, hown, hts⟩ (hc_Bits_part l s.heap a1 6 1) (va_cwS 3 hts (mk_gS tw_326 tw_165 tw_55 tw_166) rfl rfl rfl hdBits_part.2 ⟨Nat.le_of_ble_eq_true rfl, Nat.le_of_ble_eq_true rfl⟩) mk_preS rfl rfl hl.1 rfl (lv_room (Nat.le_of_ble_eq_true rfl)) dSF_offsetJ_57 ⟨Nat.zero_le _, Nat.zero_le _⟩) ?_
  refine lv_bipush (v := 7) hx hb dSF_offsetJ_60 (by decide) ?_
  refine lv_ishl hx hb dSF_offsetJ_62 ?_
  refine lv_ior hx hb dSF_offsetJ_63 ?_
  refine lv_iload_n hx hb dSF_offsetJ_64 rfl (lv_at hl 0 rfl) ?_
  refine lv_iconst (v := 3) hx hb dSF_offsetJ_65 (by decide) ?_
  refine lv_iconst (v := 3) hx hb dSF_offsetJ_66 (by decide) ?_
  refine mk_callR (va_runS (As := [.int a1, .int 3, .int 3]) (rest := [.int (((((((hf_Bits_part a1 12 1) <<< (11 &&& 31)) ||| ((hf_Bits_part a1 11 1) <<< (4 &&& 31))) ||| ((hf_Bits_part a1 9 2) <<< (8 &&& 31))) ||| ((hf_Bits_part a1 8 1) <<< (10 &&& 31))) ||| ((hf_Bits_part a1 7 1) <<< (6 &&& 31))) ||| ((hf_Bits_part a1 6 1) <<< (7 &&& 31)))]) ⟨hx, hb, hml, hown, hts⟩ (hc_Bits_part l s.heap a1 3 3) (va_cwS 3 hts (mk_gS tw_326 tw_165 tw_55 tw_166) rfl rfl rfl hdBits_part.2 ⟨Nat.le_of_ble_eq_true rfl, Nat.le_of_ble_eq_true rfl⟩) mk_preS rfl rfl hl.1 rfl (lv_room (Nat.le_of_ble_eq_true rfl)) dSF_offsetJ_67 ⟨Nat.zero_le _, Nat.zero_le _⟩) ?_
  refine lv_iconst (v := 1) hx hb dSF_offsetJ_70 (by decide) ?_
  refine lv_ishl hx hb dSF_offsetJ_71 ?_
  refine lv_ior hx hb dSF_offsetJ_72 ?_
  refine lv_iload_n hx hb dSF_offsetJ_73 rfl (lv_at hl 0 rfl) ?_
  refine lv_iconst (v := 2) hx hb dSF_offsetJ_74 (by decide) ?_
  refine lv_iconst (v := 1) hx hb dSF_offsetJ_75 (by decide) ?_
  refine mk_callR (va_runS (As := [.int a1, .int 2, .int 1]) (rest := [.int ((((((((hf_Bits_part a1 12 1) <<< (11 &&& 31)) ||| ((hf_Bits_part a1 11 1) <<< (4 &&& 31))) ||| ((hf_Bits_part a1 9 2) <<< (8 &&& 31))) ||| ((hf_Bits_part a1 8 1) <<< (10 &&& 31))) ||| ((hf_Bits_part a1 7 1) <<< (6 &&& 31))) ||| ((hf_Bits_part a1 6 1) <<< (7 &&& 31))) ||| ((hf_Bits_part a1 3 3) <<< (1 &&& 31)))]) ⟨hx, hb, hml, hown, hts⟩ (hc_Bits_part l s.heap a1 2 1) (va_cwS 3 hts (mk_gS tw_326 tw_165 tw_55 tw_166) rfl rfl rfl hdBits_part.2 ⟨Nat.le_of_ble_eq_true rfl, Nat.le_of_ble_eq_true rfl⟩) mk_preS rfl rfl hl.1 rfl (lv_room (Nat.le_of_ble_eq_true rfl)) dSF_offsetJ_76 ⟨Nat.zero_le _, Nat.zero_le _⟩) ?_
  refine lv_iconst (v := 5) hx hb dSF_offsetJ_79 (by decide) ?_
  refine lv_ishl hx hb dSF_offsetJ_80 ?_
  refine lv_ior hx hb dSF_offsetJ_81 ?_
  refine lv_istore_n (lv' := [(1, .int (((((((((hf_Bits_part a1 12 1) <<< (11 &&& 31)) ||| ((hf_Bits_part a1 11 1) <<< (4 &&& 31))) ||| ((hf_Bits_part a1 9 2) <<< (8 &&& 31))) ||| ((hf_Bits_part a1 8 1) <<< (10 &&& 31))) ||| ((hf_Bits_part a1 7 1) <<< (6 &&& 31))) ||| ((hf_Bits_part a1 6 1) <<< (7 &&& 31))) ||| ((hf_Bits_part a1 3 3) <<< (1 &&& 31))) ||| ((hf_Bits_part a1 2 1) <<< (5 &&& 31)))), (0, .int a1)]) hx hb dSF_offsetJ_82 rfl hl (by decide) rfl (fun ls hl => ?_)
  refine lv_iload_n hx hb dSF_offsetJ_83 rfl (lv_at hl 0 rfl) ?_
  refine lv_bipush (v := 12) hx hb dSF_offsetJ_84 (by decide) ?_
  refine mk_callR (va_runS (As := [.int (((((((((hf_Bits_part a1 12 1) <<< (11 &&& 31)) ||| ((hf_Bits_part a1 11 1) <<< (4 &&& 31))) ||| ((hf_Bits_part a1 9 2) <<< (8 &&& 31))) ||| ((hf_Bits_part a1 8 1) <<< (10 &&& 31))) ||| ((hf_Bits_part a1 7 1) <<< (6 &&& 31))) ||| ((hf_Bits_part a1 6 1) <<< (7 &&& 31))) ||| ((hf_Bits_part a1 3 3) <<< (1 &&& 31))) ||| ((hf_Bits_part a1 2 1) <<< (5 &&& 31))), .int 12]) (rest := []) ⟨hx, hb, hml, hown, hts⟩ (hc_Bits_signed l s.heap (((((((((hf_Bits_part a1 12 1) <<< (11 &&& 31)) ||| ((hf_Bits_part a1 11 1) <<< (4 &&& 31))) ||| ((hf_Bits_part a1 9 2) <<< (8 &&& 31))) ||| ((hf_Bits_part a1 8 1) <<< (10 &&& 31))) ||| ((hf_Bits_part a1 7 1) <<< (6 &&& 31))) ||| ((hf_Bits_part a1 6 1) <<< (7 &&& 31))) ||| ((hf_Bits_part a1 3 3) <<< (1 &&& 31))) ||| ((hf_Bits_part a1 2 1) <<< (5 &&& 31))) 12) (va_cwS 2 hts (mk_gS tw_349 tw_178 tw_55 tw_179) rfl rfl rfl hdBits_signed.2 ⟨Nat.le_of_ble_eq_true rfl, Nat.le_of_ble_eq_true rfl⟩) mk_preS rfl rfl hl.1 rfl (lv_room (Nat.le_of_ble_eq_true rfl)) dSF_offsetJ_86 ⟨Nat.zero_le _, Nat.zero_le _⟩) ?_
  exact W.iret hx hb hr (fun t ht hW => ⟨⟨_, (), rfl, rfl, ht⟩, mk_F ht⟩) (fun q h => nomatch h) dSF_offsetJ_89
set_option maxHeartbeats 4000000 in
set_option maxRecDepth 100000 in
theorem hc_ShortForm_stackMove (l : Launch) (G : Heap) (a1 : Int32)  : Met l ySF_stackMove (wq ySF_stackMove cSF_stackMove 2 (some .int)) ({ frames := 1, cells := 0, slots := 0, locals := 22 }) (mk_P G [.int a1]) (mk_Qi G (hf_ShortForm_stackMove a1)) 0 0 (fun _ => False) := by
  refine Met.ofW (cc := cSF_stackMove) (maxL := 2) (ret := (some .int)) (by decide) rfl ?_
  intro p e s m args below meth c s₁ B hml hv
  obtain ⟨rfl, hG⟩ := hv
  subst hG
  have hx := B.exec
  have hb := B.bytes
  have hr := B.returns
  have hts := atoms_spec (ws := (wq ySF_stackMove cSF_stackMove 2 (some .int))) B.pre
  have hown : s.vm.findClass RSF = some m.cls := findClass_of_methodNamed B.named
  have hlocks := B.notSynchronized
  have hg : ∀ w ∈ lw_g, w.before _ s = true := fun w h => hts w (List.mem_cons_of_mem _ h)
  have hl := lv_entry ([.int a1]) (n := 2) (Nat.le_of_ble_eq_true rfl)
  rw [lg_entry_eq]
  generalize (lg_sl ([.int a1]) ++ List.replicate (2 - (lg_sl ([.int a1])).length) Slot.unset).toArray = ls at hl ⊢
  have hl : lv_has ls 2 [(0, .int a1)] := hl
  refine lv_iload_n hx hb dSF_stackMove_0 rfl (lv_at hl 0 rfl) ?_
  refine lv_bipush (v := 12) hx hb dSF_stackMove_1 (by decide) ?_
  refine lv_iconst (v := 1) hx hb dSF_stackMove_3 (by decide) ?_
  refine mk_callR (va_runS (As := [.int a1, .int 12, .int 1]) (rest := []) ⟨hx, hb, hml, hown, hts⟩ (hc_Bits_part l s.heap a1 12 1) (va_cwS 3 hts (mk_gS tw_326 tw_165 tw_55 tw_166) rfl rfl rfl hdBits_part.2 ⟨Nat.le_of_ble_eq_true rfl, Nat.le_of_ble_eq_true rfl⟩) mk_preS rfl rfl hl.1 rfl (lv_room (Nat.le_of_ble_eq_true rfl)) dSF_stackMove_4 ⟨Nat.zero_le _, Nat.zero_le _⟩) ?_
  refine lv_bipush (v := 9) hx hb dSF_stackMove_7 (by decide) ?_
  refine lv_ishl hx hb dSF_stackMove_9 ?_
  refine lv_iload_n hx hb dSF_stackMove_10 rfl (lv_at hl 0 rfl) ?_
  refine lv_bipush (v := 6) hx hb dSF_stackMove_11 (by decide) ?_
  refine lv_iconst (v := 1) hx hb dSF_stackMove_13 (by decide) ?_
  refine mk_callR (va_runS (As := [.int a1, .int 6, .int 1]) (rest := [.int ((hf_Bits_part a1 12 1) <<< (9 &&& 31))]) ⟨hx, hb, hml, hown, hts⟩ (hc_Bits_part l s.heap a1 6 1) (va_cwS 3 hts (mk_gS tw_326 tw_165 tw_55 tw_166) rfl rfl rfl hdBits_part.2 ⟨Nat.le_of_ble_eq_true rfl, Nat.le_of_ble_eq_true rfl⟩) mk_preS rfl rfl hl.1 rfl (lv_room (Nat.le_of_ble_eq_true rfl)) dSF_stackMove_14 ⟨Nat.zero_le _, Nat.zero_le _⟩) ?_
  refine lv_iconst (v := 4) hx hb dSF_stackMove_17 (by decide) ?_
  refine lv_ishl hx hb dSF_stackMove_18 ?_
  refine lv_ior hx hb dSF_stackMove_19 ?_
  refine lv_iload_n hx hb dSF_stackMove_20 rfl (lv_at hl 0 rfl) ?_
  refine lv_iconst (v := 5) hx hb dSF_stackMove_21 (by decide) ?_
  refine lv_iconst (v := 1) hx hb dSF_stackMove_22 (by decide) ?_
  refine mk_callR (va_runS (As := [.int a1, .int 5, .int 1]) (rest := [.int (((hf_Bits_part a1 12 1) <<< (9 &&& 31)) ||| ((hf_Bits_part a1 6 1) <<< (4 &&& 31)))]) ⟨hx, hb, hml, hown, hts⟩ (hc_Bits_part l s.heap a1 5 1) (va_cwS 3 hts (mk_gS tw_326 tw_165 tw_55 tw_166) rfl rfl rfl hdBits_part.2 ⟨Nat.le_of_ble_eq_true rfl, Nat.le_of_ble_eq_true rfl⟩) mk_preS rfl rfl hl.1 rfl (lv_room (Nat.le_of_ble_eq_true rfl)) dSF_stackMove_23 ⟨Nat.zero_le _, Nat.zero_le _⟩) ?_
  refine lv_bipush (v := 6) hx hb dSF_stackMove_26 (by decide) ?_
  refine lv_ishl hx hb dSF_stackMove_28 ?_
  refine lv_ior hx hb dSF_stackMove_29 ?_
  refine lv_iload_n hx hb dSF_stackMove_30 rfl (lv_at hl 0 rfl) ?_
  refine lv_iconst (v := 3) hx hb dSF_stackMove_31 (by decide) ?_
  refine lv_iconst (v := 2) hx hb dSF_stackMove_32 (by decide) ?_
  refine mk_callR (va_runS (As := [.int a1, .int 3, .int 2]) (rest := [.int ((((hf_Bits_part a1 12 1) <<< (9 &&& 31)) ||| ((hf_Bits_part a1 6 1) <<< (4 &&& 31))) ||| ((hf_Bits_part a1 5 1) <<< (6 &&& 31)))]) ⟨hx, hb, hml, hown, hts⟩ (hc_Bits_part l s.heap a1 3 2) (va_cwS 3 hts (mk_gS tw_326 tw_165 tw_55 tw_166) rfl rfl rfl hdBits_part.2 ⟨Nat.le_of_ble_eq_true rfl, Nat.le_of_ble_eq_true rfl⟩) mk_preS rfl rfl hl.1 rfl (lv_room (Nat.le_of_ble_eq_true rfl)) dSF_stackMove_33 ⟨Nat.zero_le _, Nat.zero_le _⟩) ?_
  refine lv_bipush (v := 7) hx hb dSF_stackMove_36 (by decide) ?_
  refine lv_ishl hx hb dSF_stackMove_38 ?_
  refine lv_ior hx hb dSF_stackMove_39 ?_
  refine lv_iload_n hx hb dSF_stackMove_40 rfl (lv_at hl 0 rfl) ?_
  refine lv_iconst (v := 2) hx hb dSF_stackMove_41 (by decide) ?_
  refine lv_iconst (v := 1) hx hb dSF_stackMove_42 (by decide) ?_
  refine mk_callR (va_runS (As := [.int a1, .int 2, .int 1]) (rest := [.int (((((hf_Bits_part a1 12 1) <<< (9 &&& 31)) ||| ((hf_Bits_part a1 6 1) <<< (4 &&& 31))) ||| ((hf_Bits_part a1 5 1) <<< (6 &&& 31))) ||| ((hf_Bits_part a1 3 2) <<< (7 &&& 31)))]) ⟨hx, hb, hml, hown, hts⟩ (hc_Bits_part l s.heap a1 2 1) (va_cwS 3 hts (mk_gS tw_326 tw_165 tw_55 tw_166) rfl rfl rfl hdBits_part.2 ⟨Nat.le_of_ble_eq_true rfl, Nat.le_of_ble_eq_true rfl⟩) mk_preS rfl rfl hl.1 rfl (lv_room (Nat.le_of_ble_eq_true rfl)) dSF_stackMove_43 ⟨Nat.zero_le _, Nat.zero_le _⟩) ?_
  refine lv_iconst (v := 5) hx hb dSF_stackMove_46 (by decide) ?_
  refine lv_ishl hx hb dSF_stackMove_47 ?_
  refine lv_ior hx hb dSF_stackMove_48 ?_
  refine lv_istore_n (lv' := [(1, .int ((((((hf_Bits_part a1 12 1) <<< (9 &&& 31)) ||| ((hf_Bits_part a1 6 1) <<< (4 &&& 31))) ||| ((hf_Bits_part a1 5 1) <<< (6 &&& 31))) ||| ((hf_Bits_part a1 3 2) <<< (7 &&& 31))) ||| ((hf_Bits_part a1 2 1) <<< (5 &&& 31)))), (0, .int a1)]) hx hb dSF_stackMove_49 rfl hl (by decide) rfl (fun ls hl => ?_)
  refine lv_iload_n hx hb dSF_stackMove_50 rfl (lv_at hl 0 rfl) ?_
  refine lv_bipush (v := 10) hx hb dSF_stackMove_51 (by decide) ?_
  refine mk_callR (va_runS (As := [.int ((((((hf_Bits_part a1 12 1) <<< (9 &&& 31)) ||| ((hf_Bits_part a1 6 1) <<< (4 &&& 31))) ||| ((hf_Bits_part a1 5 1) <<< (6 &&& 31))) ||| ((hf_Bits_part a1 3 2) <<< (7 &&& 31))) ||| ((hf_Bits_part a1 2 1) <<< (5 &&& 31))), .int 10]) (rest := []) ⟨hx, hb, hml, hown, hts⟩ (hc_Bits_signed l s.heap ((((((hf_Bits_part a1 12 1) <<< (9 &&& 31)) ||| ((hf_Bits_part a1 6 1) <<< (4 &&& 31))) ||| ((hf_Bits_part a1 5 1) <<< (6 &&& 31))) ||| ((hf_Bits_part a1 3 2) <<< (7 &&& 31))) ||| ((hf_Bits_part a1 2 1) <<< (5 &&& 31))) 10) (va_cwS 2 hts (mk_gS tw_349 tw_178 tw_55 tw_179) rfl rfl rfl hdBits_signed.2 ⟨Nat.le_of_ble_eq_true rfl, Nat.le_of_ble_eq_true rfl⟩) mk_preS rfl rfl hl.1 rfl (lv_room (Nat.le_of_ble_eq_true rfl)) dSF_stackMove_53 ⟨Nat.zero_le _, Nat.zero_le _⟩) ?_
  exact W.iret hx hb hr (fun t ht hW => ⟨⟨_, (), rfl, rfl, ht⟩, mk_F ht⟩) (fun q h => nomatch h) dSF_stackMove_56
set_option maxHeartbeats 4000000 in
set_option maxRecDepth 100000 in
theorem hc_ShortForm_bit12 (l : Launch) (G : Heap) (a1 : Int32)  : Met l ySF_bit12 (wq ySF_bit12 cSF_bit12 1 (some .boolean)) ({ frames := 1, cells := 0, slots := 0, locals := 22 }) (mk_P G [.int a1]) (mk_Qi G (hf_ShortForm_bit12 a1)) 0 0 (fun _ => False) := by
  refine Met.ofW (cc := cSF_bit12) (maxL := 1) (ret := (some .boolean)) (by decide) rfl ?_
  intro p e s m args below meth c s₁ B hml hv
  obtain ⟨rfl, hG⟩ := hv
  subst hG
  have hx := B.exec
  have hb := B.bytes
  have hr := B.returns
  have hts := atoms_spec (ws := (wq ySF_bit12 cSF_bit12 1 (some .boolean))) B.pre
  have hown : s.vm.findClass RSF = some m.cls := findClass_of_methodNamed B.named
  have hlocks := B.notSynchronized
  have hg : ∀ w ∈ lw_g, w.before _ s = true := fun w h => hts w (List.mem_cons_of_mem _ h)
  have hl := lv_entry ([.int a1]) (n := 1) (Nat.le_of_ble_eq_true rfl)
  rw [lg_entry_eq]
  generalize (lg_sl ([.int a1]) ++ List.replicate (1 - (lg_sl ([.int a1])).length) Slot.unset).toArray = ls at hl ⊢
  have hl : lv_has ls 1 [(0, .int a1)] := hl
  refine lv_iload_n hx hb dSF_bit12_0 rfl (lv_at hl 0 rfl) ?_
  refine lv_bipush (v := 12) hx hb dSF_bit12_1 (by decide) ?_
  refine lv_iconst (v := 1) hx hb dSF_bit12_3 (by decide) ?_
  refine mk_callR (va_runS (As := [.int a1, .int 12, .int 1]) (rest := []) ⟨hx, hb, hml, hown, hts⟩ (hc_Bits_part l s.heap a1 12 1) (va_cwS 3 hts (mk_gS tw_326 tw_165 tw_55 tw_166) rfl rfl rfl hdBits_part.2 ⟨Nat.le_of_ble_eq_true rfl, Nat.le_of_ble_eq_true rfl⟩) mk_preS rfl rfl hl.1 rfl (lv_room (Nat.le_of_ble_eq_true rfl)) dSF_bit12_4 ⟨Nat.zero_le _, Nat.zero_le _⟩) ?_
  refine lv_if_eq (tgt := 14) hx hb dSF_bit12_7 (by decide) (fun c_1 => ?_) (fun c_1 => ?_)
  · refine lv_iconst (v := 0) hx hb dSF_bit12_14 (by decide) ?_
    exact W.zret hx hb hr rfl (fun t ht hW => ⟨⟨_, (), rfl, (by unfold hf_ShortForm_bit12; rw [if_pos c_1]), ht⟩, mk_F ht⟩) (fun q h => nomatch h) dSF_bit12_15
  · refine lv_iconst (v := 1) hx hb dSF_bit12_10 (by decide) ?_
    refine lv_goto (tgt := 15) hx hb dSF_bit12_11 (by decide) ?_
    exact W.zret hx hb hr rfl (fun t ht hW => ⟨⟨_, (), rfl, (by unfold hf_ShortForm_bit12; rw [if_neg c_1]), ht⟩, mk_F ht⟩) (fun q h => nomatch h) dSF_bit12_15
set_option maxHeartbeats 4000000 in
set_option maxRecDepth 100000 in
theorem hc_ShortForm_b (l : Launch) (G : Heap) (a1 : Int32)  : Met l ySF_b (wq ySF_b cSF_b 1 (some .int)) ({ frames := 1, cells := 0, slots := 0, locals := 22 }) (mk_P G [.int a1]) (mk_Qi G (hf_ShortForm_b a1)) 0 0 (fun _ => False) := by
  refine Met.ofW (cc := cSF_b) (maxL := 1) (ret := (some .int)) (by decide) rfl ?_
  intro p e s m args below meth c s₁ B hml hv
  obtain ⟨rfl, hG⟩ := hv
  subst hG
  have hx := B.exec
  have hb := B.bytes
  have hr := B.returns
  have hts := atoms_spec (ws := (wq ySF_b cSF_b 1 (some .int))) B.pre
  have hown : s.vm.findClass RSF = some m.cls := findClass_of_methodNamed B.named
  have hlocks := B.notSynchronized
  have hg : ∀ w ∈ lw_g, w.before _ s = true := fun w h => hts w (List.mem_cons_of_mem _ h)
  have hl := lv_entry ([.int a1]) (n := 1) (Nat.le_of_ble_eq_true rfl)
  rw [lg_entry_eq]
  generalize (lg_sl ([.int a1]) ++ List.replicate (1 - (lg_sl ([.int a1])).length) Slot.unset).toArray = ls at hl ⊢
  have hl : lv_has ls 1 [(0, .int a1)] := hl
  refine lv_iload_n hx hb dSF_b_0 rfl (lv_at hl 0 rfl) ?_
  refine lv_iconst (v := 2) hx hb dSF_b_1 (by decide) ?_
  refine lv_iconst (v := 5) hx hb dSF_b_2 (by decide) ?_
  refine mk_callR (va_runS (As := [.int a1, .int 2, .int 5]) (rest := []) ⟨hx, hb, hml, hown, hts⟩ (hc_Bits_part l s.heap a1 2 5) (va_cwS 3 hts (mk_gS tw_326 tw_165 tw_55 tw_166) rfl rfl rfl hdBits_part.2 ⟨Nat.le_of_ble_eq_true rfl, Nat.le_of_ble_eq_true rfl⟩) mk_preS rfl rfl hl.1 rfl (lv_room (Nat.le_of_ble_eq_true rfl)) dSF_b_3 ⟨Nat.zero_le _, Nat.zero_le _⟩) ?_
  exact W.iret hx hb hr (fun t ht hW => ⟨⟨_, (), rfl, rfl, ht⟩, mk_F ht⟩) (fun q h => nomatch h) dSF_b_6
set_option maxHeartbeats 4000000 in
set_option maxRecDepth 100000 in
theorem hc_Arithmetic_ofTwoNear (l : Launch) (G : Heap) (a1 : Int32) (a2 : Int32) (a3 : Int32)  : Met l yAr_ofTwoNear (wq yAr_ofTwoNear cAr_ofTwoNear 3 (some .int)) ({ frames := 0, cells := 0, slots := 0, locals := 0 }) (mk_P G [.int a1, .int a2, .int a3]) (mk_Qi G (hf_Arithmetic_ofTwoNear a1 a2 a3)) 0 0 (fun _ => False) := by
  refine Met.ofW (cc := cAr_ofTwoNear) (maxL := 3) (ret := (some .int)) (by decide) rfl ?_
  intro p e s m args below meth c s₁ B hml hv
  obtain ⟨rfl, hG⟩ := hv
  subst hG
  have hx := B.exec
  have hb := B.bytes
  have hr := B.returns
  have hts := atoms_spec (ws := (wq yAr_ofTwoNear cAr_ofTwoNear 3 (some .int))) B.pre
  have hown : s.vm.findClass RAr = some m.cls := findClass_of_methodNamed B.named
  have hlocks := B.notSynchronized
  have hg : ∀ w ∈ lw_g, w.before _ s = true := fun w h => hts w (List.mem_cons_of_mem _ h)
  have hl := lv_entry ([.int a1, .int a2, .int a3]) (n := 3) (Nat.le_of_ble_eq_true rfl)
  rw [lg_entry_eq]
  generalize (lg_sl ([.int a1, .int a2, .int a3]) ++ List.replicate (3 - (lg_sl ([.int a1, .int a2, .int a3])).length) Slot.unset).toArray = ls at hl ⊢
  have hl : lv_has ls 3 [(0, .int a1), (1, .int a2), (2, .int a3)] := hl
  refine lv_iload_n hx hb dAr_ofTwoNear_0 rfl (lv_at hl 0 rfl) ?_
  by_cases c_1 : a1 = 0
  · refine lv_tableIn (tgt := 28) hx hb dAr_ofTwoNear_1 (by rw [c_1]; decide) (by rw [c_1]; decide) (by rw [c_1]; rfl) (by decide) ?_
    refine lv_iload_n hx hb dAr_ofTwoNear_28 rfl (lv_at hl 1 rfl) ?_
    refine lv_iload_n hx hb dAr_ofTwoNear_29 rfl (lv_at hl 2 rfl) ?_
    refine lv_isub hx hb dAr_ofTwoNear_30 ?_
    exact W.iret hx hb hr (fun t ht hW => ⟨⟨_, (), rfl, (by unfold hf_Arithmetic_ofTwoNear; rw [if_pos c_1]), ht⟩, mk_F ht⟩) (fun q h => nomatch h) dAr_ofTwoNear_31
  by_cases c_2 : a1 = 1
  · refine lv_tableIn (tgt := 32) hx hb dAr_ofTwoNear_1 (by rw [c_2]; decide) (by rw [c_2]; decide) (by rw [c_2]; rfl) (by decide) ?_
    refine lv_iload_n hx hb dAr_ofTwoNear_32 rfl (lv_at hl 1 rfl) ?_
    refine lv_iload_n hx hb dAr_ofTwoNear_33 rfl (lv_at hl 2 rfl) ?_
    refine lv_ixor hx hb dAr_ofTwoNear_34 ?_
    exact W.iret hx hb hr (fun t ht hW => ⟨⟨_, (), rfl, (by unfold hf_Arithmetic_ofTwoNear; rw [if_neg c_1, if_pos c_2]), ht⟩, mk_F ht⟩) (fun q h => nomatch h) dAr_ofTwoNear_35
  by_cases c_3 : a1 = 2
  · refine lv_tableIn (tgt := 36) hx hb dAr_ofTwoNear_1 (by rw [c_3]; decide) (by rw [c_3]; decide) (by rw [c_3]; rfl) (by decide) ?_
    refine lv_iload_n hx hb dAr_ofTwoNear_36 rfl (lv_at hl 1 rfl) ?_
    refine lv_iload_n hx hb dAr_ofTwoNear_37 rfl (lv_at hl 2 rfl) ?_
    refine lv_ior hx hb dAr_ofTwoNear_38 ?_
    exact W.iret hx hb hr (fun t ht hW => ⟨⟨_, (), rfl, (by unfold hf_Arithmetic_ofTwoNear; rw [if_neg c_1, if_neg c_2, if_pos c_3]), ht⟩, mk_F ht⟩) (fun q h => nomatch h) dAr_ofTwoNear_39
  refine mk_table (tgt := 40) hx hb dAr_ofTwoNear_1 (mk_gap (N := 3) [0, 1, 2] (by decide) (by decide) (by have q_1 := lv_neT (a := 0) c_1 rfl; have q_2 := lv_neT (a := 1) c_2 rfl; have q_3 := lv_neT (a := 2) c_3 rfl; intro n hn; simp only [List.mem_cons, List.not_mem_nil, or_false, not_or]; omega)) (by decide) ?_
  refine lv_iload_n hx hb dAr_ofTwoNear_40 rfl (lv_at hl 1 rfl) ?_
  refine lv_iload_n hx hb dAr_ofTwoNear_41 rfl (lv_at hl 2 rfl) ?_
  refine lv_iand hx hb dAr_ofTwoNear_42 ?_
  exact W.iret hx hb hr (fun t ht hW => ⟨⟨_, (), rfl, (by unfold hf_Arithmetic_ofTwoNear; rw [if_neg c_1, if_neg c_2, if_neg c_3]), ht⟩, mk_F ht⟩) (fun q h => nomatch h) dAr_ofTwoNear_43
set_option maxHeartbeats 4000000 in
set_option maxRecDepth 100000 in
theorem hc_ShortForm_offsetT (l : Launch) (G : Heap) (a1 : Int32)  : Met l ySF_offsetT (wq ySF_offsetT cSF_offsetT 2 (some .int)) ({ frames := 1, cells := 0, slots := 0, locals := 22 }) (mk_P G [.int a1]) (mk_Qi G (hf_ShortForm_offsetT a1)) 0 0 (fun _ => False) := by
  refine Met.ofW (cc := cSF_offsetT) (maxL := 2) (ret := (some .int)) (by decide) rfl ?_
  intro p e s m args below meth c s₁ B hml hv
  obtain ⟨rfl, hG⟩ := hv
  subst hG
  have hx := B.exec
  have hb := B.bytes
  have hr := B.returns
  have hts := atoms_spec (ws := (wq ySF_offsetT cSF_offsetT 2 (some .int))) B.pre
  have hown : s.vm.findClass RSF = some m.cls := findClass_of_methodNamed B.named
  have hlocks := B.notSynchronized
  have hg : ∀ w ∈ lw_g, w.before _ s = true := fun w h => hts w (List.mem_cons_of_mem _ h)
  have hl := lv_entry ([.int a1]) (n := 2) (Nat.le_of_ble_eq_true rfl)
  rw [lg_entry_eq]
  generalize (lg_sl ([.int a1]) ++ List.replicate (2 - (lg_sl ([.int a1])).length) Slot.unset).toArray = ls at hl ⊢
  have hl : lv_has ls 2 [(0, .int a1)] := hl
  refine lv_iload_n hx hb dSF_offsetT_0 rfl (lv_at hl 0 rfl) ?_
  refine lv_bipush (v := 12) hx hb dSF_offsetT_1 (by decide) ?_
  refine lv_iconst (v := 1) hx hb dSF_offsetT_3 (by decide) ?_
  refine mk_callR (va_runS (As := [.int a1, .int 12, .int 1]) (rest := []) ⟨hx, hb, hml, hown, hts⟩ (hc_Bits_part l s.heap a1 12 1) (va_cwS 3 hts (mk_gS tw_326 tw_165 tw_55 tw_166) rfl rfl rfl hdBits_part.2 ⟨Nat.le_of_ble_eq_true rfl, Nat.le_of_ble_eq_true rfl⟩) mk_preS rfl rfl hl.1 rfl (lv_room (Nat.le_of_ble_eq_true rfl)) dSF_offsetT_4 ⟨Nat.zero_le _, Nat.zero_le _⟩) ?_
  refine lv_bipush (v := 8) hx hb dSF_offsetT_7 (by decide) ?_
  refine lv_ishl hx hb dSF_offsetT_9 ?_
  refine lv_iload_n hx hb dSF_offsetT_10 rfl (lv_at hl 0 rfl) ?_
  refine lv_bipush (v := 10) hx hb dSF_offsetT_11 (by decide) ?_
  refine lv_iconst (v := 2) hx hb dSF_offsetT_13 (by decide) ?_
  refine mk_callR (va_runS (As := [.int a1, .int 10, .int 2]) (rest := [.int ((hf_Bits_part a1 12 1) <<< (8 &&& 31))]) ⟨hx, hb, hml, hown, hts⟩ (hc_Bits_part l s.heap a1 10 2) (va_cwS 3 hts (mk_gS tw_326 tw_165 tw_55 tw_166) rfl rfl rfl hdBits_part.2 ⟨Nat.le_of_ble_eq_true rfl, Nat.le_of_ble_eq_true rfl⟩) mk_preS rfl rfl hl.1 rfl (lv_room (Nat.le_of_ble_eq_true rfl)) dSF_offsetT_14 ⟨Nat.zero_le _, Nat.zero_le _⟩) ?_
  refine lv_iconst (v := 3) hx hb dSF_offsetT_17 (by decide) ?_
  refine lv_ishl hx hb dSF_offsetT_18 ?_
  refine lv_ior hx hb dSF_offsetT_19 ?_
  refine lv_iload_n hx hb dSF_offsetT_20 rfl (lv_at hl 0 rfl) ?_
  refine lv_iconst (v := 5) hx hb dSF_offsetT_21 (by decide) ?_
  refine lv_iconst (v := 2) hx hb dSF_offsetT_22 (by decide) ?_
  refine mk_callR (va_runS (As := [.int a1, .int 5, .int 2]) (rest := [.int (((hf_Bits_part a1 12 1) <<< (8 &&& 31)) ||| ((hf_Bits_part a1 10 2) <<< (3 &&& 31)))]) ⟨hx, hb, hml, hown, hts⟩ (hc_Bits_part l s.heap a1 5 2) (va_cwS 3 hts (mk_gS tw_326 tw_165 tw_55 tw_166) rfl rfl rfl hdBits_part.2 ⟨Nat.le_of_ble_eq_true rfl, Nat.le_of_ble_eq_true rfl⟩) mk_preS rfl rfl hl.1 rfl (lv_room (Nat.le_of_ble_eq_true rfl)) dSF_offsetT_23 ⟨Nat.zero_le _, Nat.zero_le _⟩) ?_
  refine lv_bipush (v := 6) hx hb dSF_offsetT_26 (by decide) ?_
  refine lv_ishl hx hb dSF_offsetT_28 ?_
  refine lv_ior hx hb dSF_offsetT_29 ?_
  refine lv_iload_n hx hb dSF_offsetT_30 rfl (lv_at hl 0 rfl) ?_
  refine lv_iconst (v := 3) hx hb dSF_offsetT_31 (by decide) ?_
  refine lv_iconst (v := 2) hx hb dSF_offsetT_32 (by decide) ?_
  refine mk_callR (va_runS (As := [.int a1, .int 3, .int 2]) (rest := [.int ((((hf_Bits_part a1 12 1) <<< (8 &&& 31)) ||| ((hf_Bits_part a1 10 2) <<< (3 &&& 31))) ||| ((hf_Bits_part a1 5 2) <<< (6 &&& 31)))]) ⟨hx, hb, hml, hown, hts⟩ (hc_Bits_part l s.heap a1 3 2) (va_cwS 3 hts (mk_gS tw_326 tw_165 tw_55 tw_166) rfl rfl rfl hdBits_part.2 ⟨Nat.le_of_ble_eq_true rfl, Nat.le_of_ble_eq_true rfl⟩) mk_preS rfl rfl hl.1 rfl (lv_room (Nat.le_of_ble_eq_true rfl)) dSF_offsetT_33 ⟨Nat.zero_le _, Nat.zero_le _⟩) ?_
  refine lv_iconst (v := 1) hx hb dSF_offsetT_36 (by decide) ?_
  refine lv_ishl hx hb dSF_offsetT_37 ?_
  refine lv_ior hx hb dSF_offsetT_38 ?_
  refine lv_iload_n hx hb dSF_offsetT_39 rfl (lv_at hl 0 rfl) ?_
  refine lv_iconst (v := 2) hx hb dSF_offsetT_40 (by decide) ?_
  refine lv_iconst (v := 1) hx hb dSF_offsetT_41 (by decide) ?_
  refine mk_callR (va_runS (As := [.int a1, .int 2, .int 1]) (rest := [.int (((((hf_Bits_part a1 12 1) <<< (8 &&& 31)) ||| ((hf_Bits_part a1 10 2) <<< (3 &&& 31))) ||| ((hf_Bits_part a1 5 2) <<< (6 &&& 31))) ||| ((hf_Bits_part a1 3 2) <<< (1 &&& 31)))]) ⟨hx, hb, hml, hown, hts⟩ (hc_Bits_part l s.heap a1 2 1) (va_cwS 3 hts (mk_gS tw_326 tw_165 tw_55 tw_166) rfl rfl rfl hdBits_part.2 ⟨Nat.le_of_ble_eq_true rfl, Nat.le_of_ble_eq_true rfl⟩) mk_preS rfl rfl hl.1 rfl (lv_room (Nat.le_of_ble_eq_true rfl)) dSF_offsetT_42 ⟨Nat.zero_le _, Nat.zero_le _⟩) ?_
  refine lv_iconst (v := 5) hx hb dSF_offsetT_45 (by decide) ?_
  refine lv_ishl hx hb dSF_offsetT_46 ?_
  refine lv_ior hx hb dSF_offsetT_47 ?_
  refine lv_istore_n (lv' := [(1, .int ((((((hf_Bits_part a1 12 1) <<< (8 &&& 31)) ||| ((hf_Bits_part a1 10 2) <<< (3 &&& 31))) ||| ((hf_Bits_part a1 5 2) <<< (6 &&& 31))) ||| ((hf_Bits_part a1 3 2) <<< (1 &&& 31))) ||| ((hf_Bits_part a1 2 1) <<< (5 &&& 31)))), (0, .int a1)]) hx hb dSF_offsetT_48 rfl hl (by decide) rfl (fun ls hl => ?_)
  refine lv_iload_n hx hb dSF_offsetT_49 rfl (lv_at hl 0 rfl) ?_
  refine lv_bipush (v := 9) hx hb dSF_offsetT_50 (by decide) ?_
  refine mk_callR (va_runS (As := [.int ((((((hf_Bits_part a1 12 1) <<< (8 &&& 31)) ||| ((hf_Bits_part a1 10 2) <<< (3 &&& 31))) ||| ((hf_Bits_part a1 5 2) <<< (6 &&& 31))) ||| ((hf_Bits_part a1 3 2) <<< (1 &&& 31))) ||| ((hf_Bits_part a1 2 1) <<< (5 &&& 31))), .int 9]) (rest := []) ⟨hx, hb, hml, hown, hts⟩ (hc_Bits_signed l s.heap ((((((hf_Bits_part a1 12 1) <<< (8 &&& 31)) ||| ((hf_Bits_part a1 10 2) <<< (3 &&& 31))) ||| ((hf_Bits_part a1 5 2) <<< (6 &&& 31))) ||| ((hf_Bits_part a1 3 2) <<< (1 &&& 31))) ||| ((hf_Bits_part a1 2 1) <<< (5 &&& 31))) 9) (va_cwS 2 hts (mk_gS tw_349 tw_178 tw_55 tw_179) rfl rfl rfl hdBits_signed.2 ⟨Nat.le_of_ble_eq_true rfl, Nat.le_of_ble_eq_true rfl⟩) mk_preS rfl rfl hl.1 rfl (lv_room (Nat.le_of_ble_eq_true rfl)) dSF_offsetT_52 ⟨Nat.zero_le _, Nat.zero_le _⟩) ?_
  exact W.iret hx hb hr (fun t ht hW => ⟨⟨_, (), rfl, rfl, ht⟩, mk_F ht⟩) (fun q h => nomatch h) dSF_offsetT_55
set_option maxHeartbeats 4000000 in
set_option maxRecDepth 100000 in
theorem hc_ShortForm_stackLoadOffset (l : Launch) (G : Heap) (a1 : Int32)  : Met l ySF_stackLoadOffset (wq ySF_stackLoadOffset cSF_stackLoadOffset 1 (some .int)) ({ frames := 1, cells := 0, slots := 0, locals := 22 }) (mk_P G [.int a1]) (mk_Qi G (hf_ShortForm_stackLoadOffset a1)) 0 0 (fun _ => False) := by
  refine Met.ofW (cc := cSF_stackLoadOffset) (maxL := 1) (ret := (some .int)) (by decide) rfl ?_
  intro p e s m args below meth c s₁ B hml hv
  obtain ⟨rfl, hG⟩ := hv
  subst hG
  have hx := B.exec
  have hb := B.bytes
  have hr := B.returns
  have hts := atoms_spec (ws := (wq ySF_stackLoadOffset cSF_stackLoadOffset 1 (some .int))) B.pre
  have hown : s.vm.findClass RSF = some m.cls := findClass_of_methodNamed B.named
  have hlocks := B.notSynchronized
  have hg : ∀ w ∈ lw_g, w.before _ s = true := fun w h => hts w (List.mem_cons_of_mem _ h)
  have hl := lv_entry ([.int a1]) (n := 1) (Nat.le_of_ble_eq_true rfl)
  rw [lg_entry_eq]
  generalize (lg_sl ([.int a1]) ++ List.replicate (1 - (lg_sl ([.int a1])).length) Slot.unset).toArray = ls at hl ⊢
  have hl : lv_has ls 1 [(0, .int a1)] := hl
  refine lv_iload_n hx hb dSF_stackLoadOffset_0 rfl (lv_at hl 0 rfl) ?_
  refine lv_bipush (v := 12) hx hb dSF_stackLoadOffset_1 (by decide) ?_
  refine lv_iconst (v := 1) hx hb dSF_stackLoadOffset_3 (by decide) ?_
  refine mk_callR (va_runS (As := [.int a1, .int 12, .int 1]) (rest := []) ⟨hx, hb, hml, hown, hts⟩ (hc_Bits_part l s.heap a1 12 1) (va_cwS 3 hts (mk_gS tw_326 tw_165 tw_55 tw_166) rfl rfl rfl hdBits_part.2 ⟨Nat.le_of_ble_eq_true rfl, Nat.le_of_ble_eq_true rfl⟩) mk_preS rfl rfl hl.1 rfl (lv_room (Nat.le_of_ble_eq_true rfl)) dSF_stackLoadOffset_4 ⟨Nat.zero_le _, Nat.zero_le _⟩) ?_
  refine lv_iconst (v := 5) hx hb dSF_stackLoadOffset_7 (by decide) ?_
  refine lv_ishl hx hb dSF_stackLoadOffset_8 ?_
  refine lv_iload_n hx hb dSF_stackLoadOffset_9 rfl (lv_at hl 0 rfl) ?_
  refine lv_iconst (v := 4) hx hb dSF_stackLoadOffset_10 (by decide) ?_
  refine lv_iconst (v := 3) hx hb dSF_stackLoadOffset_11 (by decide) ?_
  refine mk_callR (va_runS (As := [.int a1, .int 4, .int 3]) (rest := [.int ((hf_Bits_part a1 12 1) <<< (5 &&& 31))]) ⟨hx, hb, hml, hown, hts⟩ (hc_Bits_part l s.heap a1 4 3) (va_cwS 3 hts (mk_gS tw_326 tw_165 tw_55 tw_166) rfl rfl rfl hdBits_part.2 ⟨Nat.le_of_ble_eq_true rfl, Nat.le_of_ble_eq_true rfl⟩) mk_preS rfl rfl hl.1 rfl (lv_room (Nat.le_of_ble_eq_true rfl)) dSF_stackLoadOffset_12 ⟨Nat.zero_le _, Nat.zero_le _⟩) ?_
  refine lv_iconst (v := 2) hx hb dSF_stackLoadOffset_15 (by decide) ?_
  refine lv_ishl hx hb dSF_stackLoadOffset_16 ?_
  refine lv_ior hx hb dSF_stackLoadOffset_17 ?_
  refine lv_iload_n hx hb dSF_stackLoadOffset_18 rfl (lv_at hl 0 rfl) ?_
  refine lv_iconst (v := 2) hx hb dSF_stackLoadOffset_19 (by decide) ?_
  refine lv_iconst (v := 2) hx hb dSF_stackLoadOffset_20 (by decide) ?_
  refine mk_callR (va_runS (As := [.int a1, .int 2, .int 2]) (rest := [.int (((hf_Bits_part a1 12 1) <<< (5 &&& 31)) ||| ((hf_Bits_part a1 4 3) <<< (2 &&& 31)))]) ⟨hx, hb, hml, hown, hts⟩ (hc_Bits_part l s.heap a1 2 2) (va_cwS 3 hts (mk_gS tw_326 tw_165 tw_55 tw_166) rfl rfl rfl hdBits_part.2 ⟨Nat.le_of_ble_eq_true rfl, Nat.le_of_ble_eq_true rfl⟩) mk_preS rfl rfl hl.1 rfl (lv_room (Nat.le_of_ble_eq_true rfl)) dSF_stackLoadOffset_21 ⟨Nat.zero_le _, Nat.zero_le _⟩) ?_
  refine lv_bipush (v := 6) hx hb dSF_stackLoadOffset_24 (by decide) ?_
  refine lv_ishl hx hb dSF_stackLoadOffset_26 ?_
  refine lv_ior hx hb dSF_stackLoadOffset_27 ?_
  exact W.iret hx hb hr (fun t ht hW => ⟨⟨_, (), rfl, rfl, ht⟩, mk_F ht⟩) (fun q h => nomatch h) dSF_stackLoadOffset_28
set_option maxHeartbeats 4000000 in
set_option maxRecDepth 100000 in
theorem hc_ShortForm_stackStoreOffset (l : Launch) (G : Heap) (a1 : Int32)  : Met l ySF_stackStoreOffset (wq ySF_stackStoreOffset cSF_stackStoreOffset 1 (some .int)) ({ frames := 1, cells := 0, slots := 0, locals := 22 }) (mk_P G [.int a1]) (mk_Qi G (hf_ShortForm_stackStoreOffset a1)) 0 0 (fun _ => False) := by
  refine Met.ofW (cc := cSF_stackStoreOffset) (maxL := 1) (ret := (some .int)) (by decide) rfl ?_
  intro p e s m args below meth c s₁ B hml hv
  obtain ⟨rfl, hG⟩ := hv
  subst hG
  have hx := B.exec
  have hb := B.bytes
  have hr := B.returns
  have hts := atoms_spec (ws := (wq ySF_stackStoreOffset cSF_stackStoreOffset 1 (some .int))) B.pre
  have hown : s.vm.findClass RSF = some m.cls := findClass_of_methodNamed B.named
  have hlocks := B.notSynchronized
  have hg : ∀ w ∈ lw_g, w.before _ s = true := fun w h => hts w (List.mem_cons_of_mem _ h)
  have hl := lv_entry ([.int a1]) (n := 1) (Nat.le_of_ble_eq_true rfl)
  rw [lg_entry_eq]
  generalize (lg_sl ([.int a1]) ++ List.replicate (1 - (lg_sl ([.int a1])).length) Slot.unset).toArray = ls at hl ⊢
  have hl : lv_has ls 1 [(0, .int a1)] := hl
  refine lv_iload_n hx hb dSF_stackStoreOffset_0 rfl (lv_at hl 0 rfl) ?_
  refine lv_bipush (v := 9) hx hb dSF_stackStoreOffset_1 (by decide) ?_
  refine lv_iconst (v := 4) hx hb dSF_stackStoreOffset_3 (by decide) ?_
  refine mk_callR (va_runS (As := [.int a1, .int 9, .int 4]) (rest := []) ⟨hx, hb, hml, hown, hts⟩ (hc_Bits_part l s.heap a1 9 4) (va_cwS 3 hts (mk_gS tw_326 tw_165 tw_55 tw_166) rfl rfl rfl hdBits_part.2 ⟨Nat.le_of_ble_eq_true rfl, Nat.le_of_ble_eq_true rfl⟩) mk_preS rfl rfl hl.1 rfl (lv_room (Nat.le_of_ble_eq_true rfl)) dSF_stackStoreOffset_4 ⟨Nat.zero_le _, Nat.zero_le _⟩) ?_
  refine lv_iconst (v := 2) hx hb dSF_stackStoreOffset_7 (by decide) ?_
  refine lv_ishl hx hb dSF_stackStoreOffset_8 ?_
  refine lv_iload_n hx hb dSF_stackStoreOffset_9 rfl (lv_at hl 0 rfl) ?_
  refine lv_bipush (v := 7) hx hb dSF_stackStoreOffset_10 (by decide) ?_
  refine lv_iconst (v := 2) hx hb dSF_stackStoreOffset_12 (by decide) ?_
  refine mk_callR (va_runS (As := [.int a1, .int 7, .int 2]) (rest := [.int ((hf_Bits_part a1 9 4) <<< (2 &&& 31))]) ⟨hx, hb, hml, hown, hts⟩ (hc_Bits_part l s.heap a1 7 2) (va_cwS 3 hts (mk_gS tw_326 tw_165 tw_55 tw_166) rfl rfl rfl hdBits_part.2 ⟨Nat.le_of_ble_eq_true rfl, Nat.le_of_ble_eq_true rfl⟩) mk_preS rfl rfl hl.1 rfl (lv_room (Nat.le_of_ble_eq_true rfl)) dSF_stackStoreOffset_13 ⟨Nat.zero_le _, Nat.zero_le _⟩) ?_
  refine lv_bipush (v := 6) hx hb dSF_stackStoreOffset_16 (by decide) ?_
  refine lv_ishl hx hb dSF_stackStoreOffset_18 ?_
  refine lv_ior hx hb dSF_stackStoreOffset_19 ?_
  exact W.iret hx hb hr (fun t ht hW => ⟨⟨_, (), rfl, rfl, ht⟩, mk_F ht⟩) (fun q h => nomatch h) dSF_stackStoreOffset_20
