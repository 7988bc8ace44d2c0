set_option maxRecDepth 100000 in
theorem th_subI : ∀ w ∈ Bundle.ownAtoms RHart 28 eI eNames, w = th_r1 ∨ w = th_r2 ∨ w = th_r3 ∨ w = th_r4 ∨ w ∈ th_tw ∨ w ∈ lw_g := by decide +kernel
set_option maxRecDepth 100000 in
theorem th_subA : ∀ w ∈ Bundle.ownAtoms RHart 49 eA eNames, w = th_r1 ∨ w = th_r2 ∨ w = th_r3 ∨ w = th_r4 ∨ w ∈ th_tw ∨ w ∈ lw_g := by decide +kernel
set_option maxHeartbeats 4000000 in
set_option maxRecDepth 100000 in
theorem hx_RiscHart_poke (l : Launch) (htr : l.stackTraces = false) {D : va_G} {tys : List (ClassId × FieldType)} {G : Heap} (h0 : Nat) (a1 : Int32) (a2 : Int32) (hn : (((hf_Memory_holds a1) = 0))) : MetX l yHart_poke (wq yHart_poke cHart_poke 3 none) ({ frames := 6, cells := 1, slots := 6, locals := 82 }) (mk_PZ D hcl tys G [.ref h0, .int a1, .int a2]) eI 1 6 := by
  refine th_ofW (cc := cHart_poke) (maxL := 3) (ret := none) (by decide) rfl ?_
  intro p e s m args below meth c s₁ B hml htab hv
  obtain ⟨rfl, hG, hK, hZ⟩ := hv
  subst hG
  have hx := B.exec
  have hb := B.bytes
  have hts := atoms_spec (ws := (wq yHart_poke cHart_poke 3 none)) B.pre
  have hown : s.vm.findClass RHart = some m.cls := findClass_of_methodNamed B.named
  have hlocks := B.notSynchronized
  have hg : ∀ w ∈ lw_g, w.before _ s = true := fun w h => hts w (List.mem_cons_of_mem _ h)
  have hl := lv_entry ([.ref h0, .int a1, .int a2]) (n := 3) (Nat.le_of_ble_eq_true rfl)
  rw [lg_entry_eq]
  generalize (lg_sl ([.ref h0, .int a1, .int a2]) ++ List.replicate (3 - (lg_sl ([.ref h0, .int a1, .int a2])).length) Slot.unset).toArray = ls at hl ⊢
  have hl : lv_has ls 3 [(0, .ref h0), (1, .int a1), (2, .int a2)] := hl
  have hn1 := hn
  · refine lv_iload_n hx hb dHart_poke_0 rfl (lv_at hl 1 rfl) ?_
    refine mk_callR (va_runS (As := [.int a1]) (rest := []) ⟨hx, hb, hml, hown, hts⟩ (hc_Memory_holds l s.heap a1) (va_cwS 1 hts (mk_gS tw_407 tw_136 tw_47 tw_137) rfl rfl rfl hdMem_holds.2 ⟨Nat.le_of_ble_eq_true rfl, Nat.le_of_ble_eq_true rfl⟩) mk_preS rfl rfl hl.1 rfl (lv_room (Nat.le_of_ble_eq_true rfl)) dHart_poke_1 ⟨Nat.zero_le _, Nat.zero_le _⟩) ?_
    refine lv_if_ne (tgt := 17) hx hb dHart_poke_4 (by decide) (fun c_1 => ?_) (fun c_1 => ?_)
    · exact absurd hn1 c_1
    · exact th_site (own := RHart) (N := eI) (names := eNames) hx hb htr hown (by decide) (by decide) (hg _ tw_408) (hg _ tw_52) (th_own th_subI hg hZ) (hZ.2.2.2 26 (by decide)) (hl.1.trans hml.symm) htab dHart_poke_7 dHart_poke_10 dHart_poke_11 dHart_poke_13 dHart_poke_16 (Nat.le_of_ble_eq_true rfl) (Nat.le_of_ble_eq_true rfl) (Nat.le_of_ble_eq_true rfl) (Nat.le_of_ble_eq_true rfl) hlocks
set_option maxHeartbeats 4000000 in
set_option maxRecDepth 100000 in
theorem hx_RiscHart_plant (l : Launch) (htr : l.stackTraces = false) {D : va_G} {tys : List (ClassId × FieldType)} {G : Heap} (h0 : Nat) (a1 : Int32) (a2 : Int32) (hn : (((hf_Memory_holds a1) = 0)) ∨ ((¬ (hf_Memory_holds a1) = 0) ∧ (¬ (hf_Memory_isMisaligned 2 a1) = 0))) : MetX l yHart_plant (wq yHart_plant cHart_plant 3 none) ({ frames := 6, cells := 1, slots := 6, locals := 82 }) (mk_PZ D hcl tys G [.ref h0, .int a1, .int a2]) eI 1 6 := by
  refine th_ofW (cc := cHart_plant) (maxL := 3) (ret := none) (by decide) rfl ?_
  intro p e s m args below meth c s₁ B hml htab hv
  obtain ⟨rfl, hG, hK, hZ⟩ := hv
  subst hG
  have hx := B.exec
  have hb := B.bytes
  have hts := atoms_spec (ws := (wq yHart_plant cHart_plant 3 none)) B.pre
  have hown : s.vm.findClass RHart = some m.cls := findClass_of_methodNamed B.named
  have hlocks := B.notSynchronized
  have hg : ∀ w ∈ lw_g, w.before _ s = true := fun w h => hts w (List.mem_cons_of_mem _ h)
  have hl := lv_entry ([.ref h0, .int a1, .int a2]) (n := 3) (Nat.le_of_ble_eq_true rfl)
  rw [lg_entry_eq]
  generalize (lg_sl ([.ref h0, .int a1, .int a2]) ++ List.replicate (3 - (lg_sl ([.ref h0, .int a1, .int a2])).length) Slot.unset).toArray = ls at hl ⊢
  have hl : lv_has ls 3 [(0, .ref h0), (1, .int a1), (2, .int a2)] := hl
  rcases hn with hn1 | ⟨hn1, hn2⟩
  · refine lv_iload_n hx hb dHart_plant_0 rfl (lv_at hl 1 rfl) ?_
    refine mk_callR (va_runS (As := [.int a1]) (rest := []) ⟨hx, hb, hml, hown, hts⟩ (hc_Memory_holds l s.heap a1) (va_cwS 1 hts (mk_gS tw_407 tw_136 tw_47 tw_137) rfl rfl rfl hdMem_holds.2 ⟨Nat.le_of_ble_eq_true rfl, Nat.le_of_ble_eq_true rfl⟩) mk_preS rfl rfl hl.1 rfl (lv_room (Nat.le_of_ble_eq_true rfl)) dHart_plant_1 ⟨Nat.zero_le _, Nat.zero_le _⟩) ?_
    refine lv_if_eq (tgt := 15) hx hb dHart_plant_4 (by decide) (fun c_1 => ?_) (fun c_1 => ?_)
    · exact th_site (own := RHart) (N := eI) (names := eNames) hx hb htr hown (by decide) (by decide) (hg _ tw_408) (hg _ tw_52) (th_own th_subI hg hZ) (hZ.2.2.2 39 (by decide)) (hl.1.trans hml.symm) htab dHart_plant_15 dHart_plant_18 dHart_plant_19 dHart_plant_21 dHart_plant_24 (Nat.le_of_ble_eq_true rfl) (Nat.le_of_ble_eq_true rfl) (Nat.le_of_ble_eq_true rfl) (Nat.le_of_ble_eq_true rfl) hlocks
    · exact absurd hn1 c_1
  · refine lv_iload_n hx hb dHart_plant_0 rfl (lv_at hl 1 rfl) ?_
    refine mk_callR (va_runS (As := [.int a1]) (rest := []) ⟨hx, hb, hml, hown, hts⟩ (hc_Memory_holds l s.heap a1) (va_cwS 1 hts (mk_gS tw_407 tw_136 tw_47 tw_137) rfl rfl rfl hdMem_holds.2 ⟨Nat.le_of_ble_eq_true rfl, Nat.le_of_ble_eq_true rfl⟩) mk_preS rfl rfl hl.1 rfl (lv_room (Nat.le_of_ble_eq_true rfl)) dHart_plant_1 ⟨Nat.zero_le _, Nat.zero_le _⟩) ?_
    refine lv_if_eq (tgt := 15) hx hb dHart_plant_4 (by decide) (fun c_1 => ?_) (fun c_1 => ?_)
    · exact absurd c_1 hn1
    · refine lv_iconst (v := 2) hx hb dHart_plant_7 (by decide) ?_
      refine lv_iload_n hx hb dHart_plant_8 rfl (lv_at hl 1 rfl) ?_
      refine mk_callR (va_runS (As := [.int 2, .int a1]) (rest := []) ⟨hx, hb, hml, hown, hts⟩ (hc_Memory_isMisaligned l s.heap 2 a1) (va_cwS 2 hts (mk_gS tw_223 tw_129 tw_47 tw_130) rfl rfl rfl hdMem_isMisaligned.2 ⟨Nat.le_of_ble_eq_true rfl, Nat.le_of_ble_eq_true rfl⟩) mk_preS rfl rfl hl.1 rfl (lv_room (Nat.le_of_ble_eq_true rfl)) dHart_plant_9 ⟨Nat.zero_le _, Nat.zero_le _⟩) ?_
      refine lv_if_eq (tgt := 25) hx hb dHart_plant_12 (by decide) (fun c_2 => ?_) (fun c_2 => ?_)
      · exact absurd c_2 hn2
      · exact th_site (own := RHart) (N := eI) (names := eNames) hx hb htr hown (by decide) (by decide) (hg _ tw_408) (hg _ tw_52) (th_own th_subI hg hZ) (hZ.2.2.2 39 (by decide)) (hl.1.trans hml.symm) htab dHart_plant_15 dHart_plant_18 dHart_plant_19 dHart_plant_21 dHart_plant_24 (Nat.le_of_ble_eq_true rfl) (Nat.le_of_ble_eq_true rfl) (Nat.le_of_ble_eq_true rfl) (Nat.le_of_ble_eq_true rfl) hlocks
set_option maxHeartbeats 4000000 in
set_option maxRecDepth 100000 in
theorem hx_RiscHart_peek (l : Launch) (htr : l.stackTraces = false) {D : va_G} {tys : List (ClassId × FieldType)} {G : Heap} (h0 : Nat) (a1 : Int32) (hn : (((hf_Memory_holds a1) = 0))) : MetX l yHart_peek (wq yHart_peek cHart_peek 2 (some .int)) ({ frames := 6, cells := 1, slots := 6, locals := 82 }) (mk_PZ D hcl tys G [.ref h0, .int a1]) eI 1 6 := by
  refine th_ofW (cc := cHart_peek) (maxL := 2) (ret := (some .int)) (by decide) rfl ?_
  intro p e s m args below meth c s₁ B hml htab hv
  obtain ⟨rfl, hG, hK, hZ⟩ := hv
  subst hG
  have hx := B.exec
  have hb := B.bytes
  have hts := atoms_spec (ws := (wq yHart_peek cHart_peek 2 (some .int))) B.pre
  have hown : s.vm.findClass RHart = some m.cls := findClass_of_methodNamed B.named
  have hlocks := B.notSynchronized
  have hg : ∀ w ∈ lw_g, w.before _ s = true := fun w h => hts w (List.mem_cons_of_mem _ h)
  have hl := lv_entry ([.ref h0, .int a1]) (n := 2) (Nat.le_of_ble_eq_true rfl)
  rw [lg_entry_eq]
  generalize (lg_sl ([.ref h0, .int a1]) ++ List.replicate (2 - (lg_sl ([.ref h0, .int a1])).length) Slot.unset).toArray = ls at hl ⊢
  have hl : lv_has ls 2 [(0, .ref h0), (1, .int a1)] := hl
  have hn1 := hn
  · refine lv_iload_n hx hb dHart_peek_0 rfl (lv_at hl 1 rfl) ?_
    refine mk_callR (va_runS (As := [.int a1]) (rest := []) ⟨hx, hb, hml, hown, hts⟩ (hc_Memory_holds l s.heap a1) (va_cwS 1 hts (mk_gS tw_407 tw_136 tw_47 tw_137) rfl rfl rfl hdMem_holds.2 ⟨Nat.le_of_ble_eq_true rfl, Nat.le_of_ble_eq_true rfl⟩) mk_preS rfl rfl hl.1 rfl (lv_room (Nat.le_of_ble_eq_true rfl)) dHart_peek_1 ⟨Nat.zero_le _, Nat.zero_le _⟩) ?_
    refine lv_if_ne (tgt := 17) hx hb dHart_peek_4 (by decide) (fun c_1 => ?_) (fun c_1 => ?_)
    · exact absurd hn1 c_1
    · exact th_site (own := RHart) (N := eI) (names := eNames) hx hb htr hown (by decide) (by decide) (hg _ tw_408) (hg _ tw_52) (th_own th_subI hg hZ) (hZ.2.2.2 26 (by decide)) (hl.1.trans hml.symm) htab dHart_peek_7 dHart_peek_10 dHart_peek_11 dHart_peek_13 dHart_peek_16 (Nat.le_of_ble_eq_true rfl) (Nat.le_of_ble_eq_true rfl) (Nat.le_of_ble_eq_true rfl) (Nat.le_of_ble_eq_true rfl) hlocks
set_option maxHeartbeats 4000000 in
set_option maxRecDepth 100000 in
theorem hx_RiscHart_rights (l : Launch) (htr : l.stackTraces = false) {D : va_G} {tys : List (ClassId × FieldType)} {G : Heap} (h0 : Nat) (a1 : Int32) (a2 : Int32) (hn : ((a1 < 0)) ∨ ((¬ a1 < 0) ∧ (¬ a1 < 64)) ∨ ((¬ a1 < 0) ∧ (a1 < 64) ∧ (a2 < 0)) ∨ ((¬ a1 < 0) ∧ (a1 < 64) ∧ (¬ a2 < 0) ∧ (¬ a2 ≤ 7))) : MetX l yHart_rights (wq yHart_rights cHart_rights 3 (some .int)) ({ frames := 6, cells := 1, slots := 6, locals := 82 }) (mk_PZ D hcl tys G [.ref h0, .int a1, .int a2]) eA 1 6 := by
  refine th_ofW (cc := cHart_rights) (maxL := 3) (ret := (some .int)) (by decide) rfl ?_
  intro p e s m args below meth c s₁ B hml htab hv
  obtain ⟨rfl, hG, hK, hZ⟩ := hv
  subst hG
  have hx := B.exec
  have hb := B.bytes
  have hts := atoms_spec (ws := (wq yHart_rights cHart_rights 3 (some .int))) B.pre
  have hown : s.vm.findClass RHart = some m.cls := findClass_of_methodNamed B.named
  have hlocks := B.notSynchronized
  have hg : ∀ w ∈ lw_g, w.before _ s = true := fun w h => hts w (List.mem_cons_of_mem _ h)
  have hl := lv_entry ([.ref h0, .int a1, .int a2]) (n := 3) (Nat.le_of_ble_eq_true rfl)
  rw [lg_entry_eq]
  generalize (lg_sl ([.ref h0, .int a1, .int a2]) ++ List.replicate (3 - (lg_sl ([.ref h0, .int a1, .int a2])).length) Slot.unset).toArray = ls at hl ⊢
  have hl : lv_has ls 3 [(0, .ref h0), (1, .int a1), (2, .int a2)] := hl
  rcases hn with hn1 | ⟨hn1, hn2⟩ | ⟨hn1, hn2, hn3⟩ | ⟨hn1, hn2, hn3, hn4⟩
  · refine lv_iload_n hx hb dHart_rights_0 rfl (lv_at hl 1 rfl) ?_
    refine lv_if_lt (tgt := 10) hx hb dHart_rights_1 (by decide) (fun c_1 => ?_) (fun c_1 => ?_)
    · exact th_site (own := RHart) (N := eA) (names := eNames) hx hb htr hown (by decide) (by decide) (hg _ tw_498) (hg _ tw_53) (th_own th_subA hg hZ) (hZ.2.2.2 47 (by decide)) (hl.1.trans hml.symm) htab dHart_rights_10 dHart_rights_13 dHart_rights_14 dHart_rights_16 dHart_rights_19 (Nat.le_of_ble_eq_true rfl) (Nat.le_of_ble_eq_true rfl) (Nat.le_of_ble_eq_true rfl) (Nat.le_of_ble_eq_true rfl) hlocks
    · exact absurd hn1 c_1
  · refine lv_iload_n hx hb dHart_rights_0 rfl (lv_at hl 1 rfl) ?_
    refine lv_if_lt (tgt := 10) hx hb dHart_rights_1 (by decide) (fun c_1 => ?_) (fun c_1 => ?_)
    · exact absurd c_1 hn1
    · refine lv_iload_n hx hb dHart_rights_4 rfl (lv_at hl 1 rfl) ?_
      refine lv_bipush (v := 64) hx hb dHart_rights_5 (by decide) ?_
      refine lv_icmp_lt (tgt := 20) hx hb dHart_rights_7 (by decide) (fun c_2 => ?_) (fun c_2 => ?_)
      · exact absurd c_2 hn2
      · exact th_site (own := RHart) (N := eA) (names := eNames) hx hb htr hown (by decide) (by decide) (hg _ tw_498) (hg _ tw_53) (th_own th_subA hg hZ) (hZ.2.2.2 47 (by decide)) (hl.1.trans hml.symm) htab dHart_rights_10 dHart_rights_13 dHart_rights_14 dHart_rights_16 dHart_rights_19 (Nat.le_of_ble_eq_true rfl) (Nat.le_of_ble_eq_true rfl) (Nat.le_of_ble_eq_true rfl) (Nat.le_of_ble_eq_true rfl) hlocks
  · refine lv_iload_n hx hb dHart_rights_0 rfl (lv_at hl 1 rfl) ?_
    refine lv_if_lt (tgt := 10) hx hb dHart_rights_1 (by decide) (fun c_1 => ?_) (fun c_1 => ?_)
    · exact absurd c_1 hn1
    · refine lv_iload_n hx hb dHart_rights_4 rfl (lv_at hl 1 rfl) ?_
      refine lv_bipush (v := 64) hx hb dHart_rights_5 (by decide) ?_
      refine lv_icmp_lt (tgt := 20) hx hb dHart_rights_7 (by decide) (fun c_2 => ?_) (fun c_2 => ?_)
      · refine lv_iload_n hx hb dHart_rights_20 rfl (lv_at hl 2 rfl) ?_
        refine lv_if_lt (tgt := 30) hx hb dHart_rights_21 (by decide) (fun c_3 => ?_) (fun c_3 => ?_)
        · exact th_site (own := RHart) (N := eA) (names := eNames) hx hb htr hown (by decide) (by decide) (hg _ tw_498) (hg _ tw_53) (th_own th_subA hg hZ) (hZ.2.2.2 50 (by decide)) (hl.1.trans hml.symm) htab dHart_rights_30 dHart_rights_33 dHart_rights_34 dHart_rights_36 dHart_rights_39 (Nat.le_of_ble_eq_true rfl) (Nat.le_of_ble_eq_true rfl) (Nat.le_of_ble_eq_true rfl) (Nat.le_of_ble_eq_true rfl) hlocks
        · exact absurd hn3 c_3
      · exact absurd hn2 c_2
  · refine lv_iload_n hx hb dHart_rights_0 rfl (lv_at hl 1 rfl) ?_
    refine lv_if_lt (tgt := 10) hx hb dHart_rights_1 (by decide) (fun c_1 => ?_) (fun c_1 => ?_)
    · exact absurd c_1 hn1
    · refine lv_iload_n hx hb dHart_rights_4 rfl (lv_at hl 1 rfl) ?_
      refine lv_bipush (v := 64) hx hb dHart_rights_5 (by decide) ?_
      refine lv_icmp_lt (tgt := 20) hx hb dHart_rights_7 (by decide) (fun c_2 => ?_) (fun c_2 => ?_)
      · refine lv_iload_n hx hb dHart_rights_20 rfl (lv_at hl 2 rfl) ?_
        refine lv_if_lt (tgt := 30) hx hb dHart_rights_21 (by decide) (fun c_3 => ?_) (fun c_3 => ?_)
        · exact absurd c_3 hn3
        · refine lv_iload_n hx hb dHart_rights_24 rfl (lv_at hl 2 rfl) ?_
          refine lv_bipush (v := 7) hx hb dHart_rights_25 (by decide) ?_
          refine lv_icmp_le (tgt := 40) hx hb dHart_rights_27 (by decide) (fun c_4 => ?_) (fun c_4 => ?_)
          · exact absurd c_4 hn4
          · exact th_site (own := RHart) (N := eA) (names := eNames) hx hb htr hown (by decide) (by decide) (hg _ tw_498) (hg _ tw_53) (th_own th_subA hg hZ) (hZ.2.2.2 50 (by decide)) (hl.1.trans hml.symm) htab dHart_rights_30 dHart_rights_33 dHart_rights_34 dHart_rights_36 dHart_rights_39 (Nat.le_of_ble_eq_true rfl) (Nat.le_of_ble_eq_true rfl) (Nat.le_of_ble_eq_true rfl) (Nat.le_of_ble_eq_true rfl) hlocks
      · exact absurd hn2 c_2
set_option maxHeartbeats 4000000 in
set_option maxRecDepth 100000 in
theorem hx_RiscHart_set (l : Launch) (htr : l.stackTraces = false) {D : va_G} {tys : List (ClassId × FieldType)} {G : Heap} (h0 : Nat) (a1 : Int32) (a2 : Int32) (hn : ((a1 < 0)) ∨ ((¬ a1 < 0) ∧ (¬ a1 < 32))) : MetX l yHart_set (wq yHart_set cHart_set 3 (some .boolean)) ({ frames := 6, cells := 1, slots := 6, locals := 82 }) (mk_PZ D hcl tys G [.ref h0, .int a1, .int a2]) eI 1 6 := by
  refine th_ofW (cc := cHart_set) (maxL := 3) (ret := (some .boolean)) (by decide) rfl ?_
  intro p e s m args below meth c s₁ B hml htab hv
  obtain ⟨rfl, hG, hK, hZ⟩ := hv
  subst hG
  have hx := B.exec
  have hb := B.bytes
  have hts := atoms_spec (ws := (wq yHart_set cHart_set 3 (some .boolean))) B.pre
  have hown : s.vm.findClass RHart = some m.cls := findClass_of_methodNamed B.named
  have hlocks := B.notSynchronized
  have hg : ∀ w ∈ lw_g, w.before _ s = true := fun w h => hts w (List.mem_cons_of_mem _ h)
  have hl := lv_entry ([.ref h0, .int a1, .int a2]) (n := 3) (Nat.le_of_ble_eq_true rfl)
  rw [lg_entry_eq]
  generalize (lg_sl ([.ref h0, .int a1, .int a2]) ++ List.replicate (3 - (lg_sl ([.ref h0, .int a1, .int a2])).length) Slot.unset).toArray = ls at hl ⊢
  have hl : lv_has ls 3 [(0, .ref h0), (1, .int a1), (2, .int a2)] := hl
  rcases hn with hn1 | ⟨hn1, hn2⟩
  · refine lv_iload_n hx hb dHart_set_0 rfl (lv_at hl 1 rfl) ?_
    refine lv_if_lt (tgt := 10) hx hb dHart_set_1 (by decide) (fun c_1 => ?_) (fun c_1 => ?_)
    · exact th_site (own := RHart) (N := eI) (names := eNames) hx hb htr hown (by decide) (by decide) (hg _ tw_408) (hg _ tw_52) (th_own th_subI hg hZ) (hZ.2.2.2 55 (by decide)) (hl.1.trans hml.symm) htab dHart_set_10 dHart_set_13 dHart_set_14 dHart_set_16 dHart_set_19 (Nat.le_of_ble_eq_true rfl) (Nat.le_of_ble_eq_true rfl) (Nat.le_of_ble_eq_true rfl) (Nat.le_of_ble_eq_true rfl) hlocks
    · exact absurd hn1 c_1
  · refine lv_iload_n hx hb dHart_set_0 rfl (lv_at hl 1 rfl) ?_
    refine lv_if_lt (tgt := 10) hx hb dHart_set_1 (by decide) (fun c_1 => ?_) (fun c_1 => ?_)
    · exact absurd c_1 hn1
    · refine lv_iload_n hx hb dHart_set_4 rfl (lv_at hl 1 rfl) ?_
      refine lv_bipush (v := 32) hx hb dHart_set_5 (by decide) ?_
      refine lv_icmp_lt (tgt := 20) hx hb dHart_set_7 (by decide) (fun c_2 => ?_) (fun c_2 => ?_)
      · exact absurd c_2 hn2
      · exact th_site (own := RHart) (N := eI) (names := eNames) hx hb htr hown (by decide) (by decide) (hg _ tw_408) (hg _ tw_52) (th_own th_subI hg hZ) (hZ.2.2.2 55 (by decide)) (hl.1.trans hml.symm) htab dHart_set_10 dHart_set_13 dHart_set_14 dHart_set_16 dHart_set_19 (Nat.le_of_ble_eq_true rfl) (Nat.le_of_ble_eq_true rfl) (Nat.le_of_ble_eq_true rfl) (Nat.le_of_ble_eq_true rfl) hlocks
set_option maxHeartbeats 4000000 in
set_option maxRecDepth 100000 in
theorem hx_RiscHart_register (l : Launch) (htr : l.stackTraces = false) {D : va_G} {tys : List (ClassId × FieldType)} {G : Heap} (h0 : Nat) (a1 : Int32) (hn : ((a1 < 0)) ∨ ((¬ a1 < 0) ∧ (¬ a1 < 32))) : MetX l yHart_register (wq yHart_register cHart_register 2 (some .int)) ({ frames := 6, cells := 1, slots := 6, locals := 82 }) (mk_PZ D hcl tys G [.ref h0, .int a1]) eI 1 6 := by
  refine th_ofW (cc := cHart_register) (maxL := 2) (ret := (some .int)) (by decide) rfl ?_
  intro p e s m args below meth c s₁ B hml htab hv
  obtain ⟨rfl, hG, hK, hZ⟩ := hv
  subst hG
  have hx := B.exec
  have hb := B.bytes
  have hts := atoms_spec (ws := (wq yHart_register cHart_register 2 (some .int))) B.pre
  have hown : s.vm.findClass RHart = some m.cls := findClass_of_methodNamed B.named
  have hlocks := B.notSynchronized
  have hg : ∀ w ∈ lw_g, w.before _ s = true := fun w h => hts w (List.mem_cons_of_mem _ h)
  have hl := lv_entry ([.ref h0, .int a1]) (n := 2) (Nat.le_of_ble_eq_true rfl)
  rw [lg_entry_eq]
  generalize (lg_sl ([.ref h0, .int a1]) ++ List.replicate (2 - (lg_sl ([.ref h0, .int a1])).length) Slot.unset).toArray = ls at hl ⊢
  have hl : lv_has ls 2 [(0, .ref h0), (1, .int a1)] := hl
  rcases hn with hn1 | ⟨hn1, hn2⟩
  · refine lv_iload_n hx hb dHart_register_0 rfl (lv_at hl 1 rfl) ?_
    refine lv_if_lt (tgt := 10) hx hb dHart_register_1 (by decide) (fun c_1 => ?_) (fun c_1 => ?_)
    · exact th_site (own := RHart) (N := eI) (names := eNames) hx hb htr hown (by decide) (by decide) (hg _ tw_408) (hg _ tw_52) (th_own th_subI hg hZ) (hZ.2.2.2 55 (by decide)) (hl.1.trans hml.symm) htab dHart_register_10 dHart_register_13 dHart_register_14 dHart_register_16 dHart_register_19 (Nat.le_of_ble_eq_true rfl) (Nat.le_of_ble_eq_true rfl) (Nat.le_of_ble_eq_true rfl) (Nat.le_of_ble_eq_true rfl) hlocks
    · exact absurd hn1 c_1
  · refine lv_iload_n hx hb dHart_register_0 rfl (lv_at hl 1 rfl) ?_
    refine lv_if_lt (tgt := 10) hx hb dHart_register_1 (by decide) (fun c_1 => ?_) (fun c_1 => ?_)
    · exact absurd c_1 hn1
    · refine lv_iload_n hx hb dHart_register_4 rfl (lv_at hl 1 rfl) ?_
      refine lv_bipush (v := 32) hx hb dHart_register_5 (by decide) ?_
      refine lv_icmp_lt (tgt := 20) hx hb dHart_register_7 (by decide) (fun c_2 => ?_) (fun c_2 => ?_)
      · exact absurd c_2 hn2
      · exact th_site (own := RHart) (N := eI) (names := eNames) hx hb htr hown (by decide) (by decide) (hg _ tw_408) (hg _ tw_52) (th_own th_subI hg hZ) (hZ.2.2.2 55 (by decide)) (hl.1.trans hml.symm) htab dHart_register_10 dHart_register_13 dHart_register_14 dHart_register_16 dHart_register_19 (Nat.le_of_ble_eq_true rfl) (Nat.le_of_ble_eq_true rfl) (Nat.le_of_ble_eq_true rfl) (Nat.le_of_ble_eq_true rfl) hlocks
set_option maxHeartbeats 4000000 in
set_option maxRecDepth 100000 in
theorem hx_RiscHart_count (l : Launch) (htr : l.stackTraces = false) {D : va_G} {tys : List (ClassId × FieldType)} {G : Heap} (h0 : Nat) (a1 : Int32) (hn : ((¬ a1 = 0) ∧ (¬ a1 = 1) ∧ (¬ a1 = 2) ∧ (¬ a1 = 3) ∧ (¬ a1 = 4))) : MetX l yHart_count (wq yHart_count cHart_count 2 (some .long)) ({ frames := 6, cells := 1, slots := 6, locals := 82 }) (mk_PZ D hcl tys G [.ref h0, .int a1]) eA 1 6 := by
  refine th_ofW (cc := cHart_count) (maxL := 2) (ret := (some .long)) (by decide) rfl ?_
  intro p e s m args below meth c s₁ B hml htab hv
  obtain ⟨rfl, hG, hK, hZ⟩ := hv
  subst hG
  have hx := B.exec
  have hb := B.bytes
  have hts := atoms_spec (ws := (wq yHart_count cHart_count 2 (some .long))) B.pre
  have hown : s.vm.findClass RHart = some m.cls := findClass_of_methodNamed B.named
  have hlocks := B.notSynchronized
  have hg : ∀ w ∈ lw_g, w.before _ s = true := fun w h => hts w (List.mem_cons_of_mem _ h)
  have hl := lv_entry ([.ref h0, .int a1]) (n := 2) (Nat.le_of_ble_eq_true rfl)
  rw [lg_entry_eq]
  generalize (lg_sl ([.ref h0, .int a1]) ++ List.replicate (2 - (lg_sl ([.ref h0, .int a1])).length) Slot.unset).toArray = ls at hl ⊢
  have hl : lv_has ls 2 [(0, .ref h0), (1, .int a1)] := hl
  rcases hn with ⟨hn1, hn2, hn3, hn4, hn5⟩
  · refine lv_iload_n hx hb dHart_count_0 rfl (lv_at hl 1 rfl) ?_
    refine mk_table (tgt := 68) hx hb dHart_count_1 (mk_gap (N := 5) [0, 1, 2, 3, 4] (by decide) (by decide) (by have hn1 := lv_neT (a := 0) hn1 rfl; have hn2 := lv_neT (a := 1) hn2 rfl; have hn3 := lv_neT (a := 2) hn3 rfl; have hn4 := lv_neT (a := 3) hn4 rfl; have hn5 := lv_neT (a := 4) hn5 rfl; intro n hn; simp only [List.mem_cons, List.not_mem_nil, or_false, not_or]; omega)) (by decide) ?_
    exact th_site (own := RHart) (N := eA) (names := eNames) hx hb htr hown (by decide) (by decide) (hg _ tw_498) (hg _ tw_53) (th_own th_subA hg hZ) (hZ.2.2.2 86 (by decide)) (hl.1.trans hml.symm) htab dHart_count_68 dHart_count_71 dHart_count_72 dHart_count_74 dHart_count_77 (Nat.le_of_ble_eq_true rfl) (Nat.le_of_ble_eq_true rfl) (Nat.le_of_ble_eq_true rfl) (Nat.le_of_ble_eq_true rfl) hlocks
set_option maxHeartbeats 4000000 in
set_option maxRecDepth 100000 in
theorem hx_RiscHart_run (l : Launch) (htr : l.stackTraces = false) {D : va_G} {tys : List (ClassId × FieldType)} {G : Heap} (h0 : Nat) (a1 : Int32) (hn : ((a1 < 0)) ∨ ((¬ a1 < 0) ∧ (¬ a1 ≤ 2000))) : MetX l yHart_run (wq yHart_run cHart_run 3 (some .int)) ({ frames := 6, cells := 1, slots := 6, locals := 82 }) (mk_PZ D hcl tys G [.ref h0, .int a1]) eA 1 6 := by
  refine th_ofW (cc := cHart_run) (maxL := 3) (ret := (some .int)) (by decide) rfl ?_
  intro p e s m args below meth c s₁ B hml htab hv
  obtain ⟨rfl, hG, hK, hZ⟩ := hv
  subst hG
  have hx := B.exec
  have hb := B.bytes
  have hts := atoms_spec (ws := (wq yHart_run cHart_run 3 (some .int))) B.pre
  have hown : s.vm.findClass RHart = some m.cls := findClass_of_methodNamed B.named
  have hlocks := B.notSynchronized
  have hg : ∀ w ∈ lw_g, w.before _ s = true := fun w h => hts w (List.mem_cons_of_mem _ h)
  have hl := lv_entry ([.ref h0, .int a1]) (n := 3) (Nat.le_of_ble_eq_true rfl)
  rw [lg_entry_eq]
  generalize (lg_sl ([.ref h0, .int a1]) ++ List.replicate (3 - (lg_sl ([.ref h0, .int a1])).length) Slot.unset).toArray = ls at hl ⊢
  have hl : lv_has ls 3 [(0, .ref h0), (1, .int a1)] := hl
  rcases hn with hn1 | ⟨hn1, hn2⟩
  · refine lv_iload_n hx hb dHart_run_0 rfl (lv_at hl 1 rfl) ?_
    refine lv_if_lt (tgt := 11) hx hb dHart_run_1 (by decide) (fun c_1 => ?_) (fun c_1 => ?_)
    · exact th_site (own := RHart) (N := eA) (names := eNames) hx hb htr hown (by decide) (by decide) (hg _ tw_498) (hg _ tw_53) (th_own th_subA hg hZ) (hZ.2.2.2 72 (by decide)) (hl.1.trans hml.symm) htab dHart_run_11 dHart_run_14 dHart_run_15 dHart_run_17 dHart_run_20 (Nat.le_of_ble_eq_true rfl) (Nat.le_of_ble_eq_true rfl) (Nat.le_of_ble_eq_true rfl) (Nat.le_of_ble_eq_true rfl) hlocks
    · exact absurd hn1 c_1
  · refine lv_iload_n hx hb dHart_run_0 rfl (lv_at hl 1 rfl) ?_
    refine lv_if_lt (tgt := 11) hx hb dHart_run_1 (by decide) (fun c_1 => ?_) (fun c_1 => ?_)
    · exact absurd c_1 hn1
    · refine lv_iload_n hx hb dHart_run_4 rfl (lv_at hl 1 rfl) ?_
      refine lv_sipush (v := 2000) hx hb dHart_run_5 (by decide) ?_
      refine lv_icmp_le (tgt := 21) hx hb dHart_run_8 (by decide) (fun c_2 => ?_) (fun c_2 => ?_)
      · exact absurd c_2 hn2
      · exact th_site (own := RHart) (N := eA) (names := eNames) hx hb htr hown (by decide) (by decide) (hg _ tw_498) (hg _ tw_53) (th_own th_subA hg hZ) (hZ.2.2.2 72 (by decide)) (hl.1.trans hml.symm) htab dHart_run_11 dHart_run_14 dHart_run_15 dHart_run_17 dHart_run_20 (Nat.le_of_ble_eq_true rfl) (Nat.le_of_ble_eq_true rfl) (Nat.le_of_ble_eq_true rfl) (Nat.le_of_ble_eq_true rfl) hlocks
