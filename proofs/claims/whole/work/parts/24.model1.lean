set_option maxHeartbeats 4000000 in
set_option maxRecDepth 100000 in
theorem mc_RiscHartModel_thrown (l : Launch) {D : va_G} {cB cO cX : ClassId} {m0 m1 m2 m3 : Nat} {st : MS} {G : Heap} (hP : va_P D hcl (ms_W cB cO cX m0 m1 m2 m3 st) G)   : Met l yMod_thrown (wq yMod_thrown cMod_thrown 1 (some .int)) ({ frames := 0, cells := 0, slots := 0, locals := 0 }) (mk_PK D hcl [(cB, .int), (cO, .int), (cX, .int)] G [.ref m0]) (mk_Qi G (mf_RiscHartModel_thrown st)) 0 0 (fun _ => False) := by
  refine Met.ofW (cc := cMod_thrown) (maxL := 1) (ret := (some .int)) (by decide) rfl ?_
  intro p e s m args below meth c s₁ B hml hv
  obtain ⟨rfl, hG, hK⟩ := hv
  subst hG
  have hx := B.exec
  have hb := B.bytes
  have hr := B.returns
  have hts := atoms_spec (ws := (wq yMod_thrown cMod_thrown 1 (some .int))) B.pre
  have hown : s.vm.findClass RMod = some m.cls := findClass_of_methodNamed B.named
  have hlocks := B.notSynchronized
  have hg : ∀ w ∈ lw_g, w.before _ s = true := fun w h => hts w (List.mem_cons_of_mem _ h)
  have hl := lv_entry ([.ref m0]) (n := 1) (Nat.le_of_ble_eq_true rfl)
  rw [lg_entry_eq]
  generalize (lg_sl ([.ref m0]) ++ List.replicate (1 - (lg_sl ([.ref m0])).length) Slot.unset).toArray = ls at hl ⊢
  have hl : lv_has ls 1 [(0, .ref m0)] := hl
  refine lv_aload_n hx hb dMod_thrown_0 rfl (lv_at hl 0 rfl) ?_
  refine va_get (D := D) (ci := 2) (v := .int (ms_code st)) (C := RMod) (T := TMod) (N := 14) hx hb hg inMod hown hK hP 0 rfl rfl 0 (by decide) (hg _ tw_557) (fun _ h9 => h9) rfl dMod_thrown_1 ?_
  exact W.iret hx hb hr (fun t ht hW => ⟨⟨_, (), rfl, rfl, ht⟩, mk_F ht⟩) (fun q h => nomatch h) dMod_thrown_4
set_option maxHeartbeats 4000000 in
set_option maxRecDepth 100000 in
theorem mc_RiscHartModel_in (l : Launch) (G : Heap) (a1 : Int32) (a2 : Int32) (a3 : Int32)  : Met l yMod_in (wq yMod_in cMod_in 3 (some .boolean)) ({ frames := 0, cells := 0, slots := 0, locals := 0 }) (mk_P G [.int a1, .int a2, .int a3]) (mk_Qi G (mf_RiscHartModel_in a1 a2 a3)) 0 0 (fun _ => False) := by
  refine Met.ofW (cc := cMod_in) (maxL := 3) (ret := (some .boolean)) (by decide) rfl ?_
  intro p e s m args below meth c s₁ B hml hv
  obtain ⟨rfl, hG⟩ := hv
  subst hG
  have hx := B.exec
  have hb := B.bytes
  have hr := B.returns
  have hts := atoms_spec (ws := (wq yMod_in cMod_in 3 (some .boolean))) B.pre
  have hown : s.vm.findClass RMod = some m.cls := findClass_of_methodNamed B.named
  have hlocks := B.notSynchronized
  have hg : ∀ w ∈ lw_g, w.before _ s = true := fun w h => hts w (List.mem_cons_of_mem _ h)
  have hl := lv_entry ([.int a1, .int a2, .int a3]) (n := 3) (Nat.le_of_ble_eq_true rfl)
  rw [lg_entry_eq]
  generalize (lg_sl ([.int a1, .int a2, .int a3]) ++ List.replicate (3 - (lg_sl ([.int a1, .int a2, .int a3])).length) Slot.unset).toArray = ls at hl ⊢
  have hl : lv_has ls 3 [(0, .int a1), (1, .int a2), (2, .int a3)] := hl
  refine lv_iload_n hx hb dMod_in_0 rfl (lv_at hl 0 rfl) ?_
  refine lv_iload_n hx hb dMod_in_1 rfl (lv_at hl 1 rfl) ?_
  refine lv_icmp_lt (tgt := 14) hx hb dMod_in_2 (by decide) (fun c_1 => ?_) (fun c_1 => ?_)
  · refine lv_iconst (v := 0) hx hb dMod_in_14 (by decide) ?_
    exact W.zret hx hb hr rfl (fun t ht hW => ⟨⟨_, (), rfl, (by unfold mf_RiscHartModel_in; rw [if_pos c_1]), ht⟩, mk_F ht⟩) (fun q h => nomatch h) dMod_in_15
  · refine lv_iload_n hx hb dMod_in_5 rfl (lv_at hl 0 rfl) ?_
    refine lv_iload_n hx hb dMod_in_6 rfl (lv_at hl 2 rfl) ?_
    refine lv_icmp_gt (tgt := 14) hx hb dMod_in_7 (by decide) (fun c_2 => ?_) (fun c_2 => ?_)
    · refine lv_iconst (v := 0) hx hb dMod_in_14 (by decide) ?_
      exact W.zret hx hb hr rfl (fun t ht hW => ⟨⟨_, (), rfl, (by unfold mf_RiscHartModel_in; rw [if_neg c_1, if_pos c_2]), ht⟩, mk_F ht⟩) (fun q h => nomatch h) dMod_in_15
    · refine lv_iconst (v := 1) hx hb dMod_in_10 (by decide) ?_
      refine lv_goto (tgt := 15) hx hb dMod_in_11 (by decide) ?_
      exact W.zret hx hb hr rfl (fun t ht hW => ⟨⟨_, (), rfl, (by unfold mf_RiscHartModel_in; rw [if_neg c_1, if_neg c_2]), ht⟩, mk_F ht⟩) (fun q h => nomatch h) dMod_in_15
set_option maxHeartbeats 4000000 in
set_option maxRecDepth 100000 in
theorem mc_RiscHartModel_write (l : Launch) {D : va_G} {cB cO cX : ClassId} {m0 m1 m2 m3 : Nat} {A : Nat → Prop} {st : MS} {G : Heap} (hP : va_P D hcl (ms_W cB cO cX m0 m1 m2 m3 st) G) (hD : ∀ z, va_D A (ms_W cB cO cX m0 m1 m2 m3 z)) (a1 : Int32) (a2 : Int32) (hq1 : vp_in a1 65536) : Met l yMod_write (wq yMod_write cMod_write 3 none) ({ frames := 0, cells := 0, slots := 0, locals := 0 }) (mk_PK D hcl [(cB, .int), (cO, .int), (cX, .int)] G [.ref m0, .int a1, .int a2]) (mk_Wv (fun u t => va_P D hcl (ms_W cB cO cX m0 m1 m2 m3 u) t) A (mf_RiscHartModel_write st a1 a2)) 0 0 A := by
  refine Met.ofW (cc := cMod_write) (maxL := 3) (ret := none) (by decide) rfl ?_
  intro p e s m args below meth c s₁ B hml hv
  obtain ⟨rfl, hG, hK⟩ := hv
  subst hG
  have hx := B.exec
  have hb := B.bytes
  have hr := B.returns
  have hts := atoms_spec (ws := (wq yMod_write cMod_write 3 none)) B.pre
  have hown : s.vm.findClass RMod = some m.cls := findClass_of_methodNamed B.named
  have hlocks := B.notSynchronized
  have hg : ∀ w ∈ lw_g, w.before _ s = true := fun w h => hts w (List.mem_cons_of_mem _ h)
  have hS : va_S A s.heap s.heap [] := va_S.rf
  have hl := lv_entry ([.ref m0, .int a1, .int a2]) (n := 3) (Nat.le_of_ble_eq_true rfl)
  rw [lg_entry_eq]
  generalize (lg_sl ([.ref m0, .int a1, .int a2]) ++ List.replicate (3 - (lg_sl ([.ref m0, .int a1, .int a2])).length) Slot.unset).toArray = ls at hl ⊢
  have hl : lv_has ls 3 [(0, .ref m0), (1, .int a1), (2, .int a2)] := hl
  refine lv_aload_n hx hb dMod_write_0 rfl (lv_at hl 0 rfl) ?_
  refine va_get (D := D) (ci := 2) (v := .ref m1) (C := RMod) (T := TMod) (N := 14) hx hb hg inMod hown hK hP 0 rfl rfl 1 (by decide) (hg _ tw_558) (fun _ h9 => h9) rfl dMod_write_1 ?_
  refine lv_iload_n hx hb dMod_write_4 rfl (lv_at hl 1 rfl) ?_
  refine lv_iload_n hx hb dMod_write_5 rfl (lv_at hl 2 rfl) ?_
  refine lv_sipush (v := 255) hx hb dMod_write_6 (by decide) ?_
  refine lv_iand hx hb dMod_write_9 ?_
  refine lv_topi (fun y_1 ey_1 => ?_)
  refine va_iast (D := D) (f := ms_bytes st) hx hb hK hP (hD _) hS 1 0 rfl rfl hq1 dMod_write_10 (fun H locs hP _ hS => ?_)
  have hP : va_P D hcl (ms_W cB cO cX m0 m1 m2 m3 (ms_set_byte st a1 y_1)) H := hP
  subst ey_1
  refine lv_aload_n hx hb dMod_write_11 rfl (lv_at hl 0 rfl) ?_
  refine va_get (D := D) (ci := 2) (v := .int (ms_reserved st)) (C := RMod) (T := TMod) (N := 14) hx hb hg inMod hown hK hP 0 rfl rfl 7 (by decide) (hg _ tw_564) (fun _ h9 => h9) rfl dMod_write_12 ?_
  refine lv_iconst (v := (-1)) hx hb dMod_write_15 (by decide) ?_
  refine lv_icmp_eq (tgt := 36) hx hb dMod_write_16 (by decide) (fun c_2 => ?_) (fun c_2 => ?_)
  · exact W.vret hx hb hr (fun t ht hW => ⟨⟨(ms_set_byte st a1 (a2 &&& 255)), rfl, (by unfold mf_RiscHartModel_write; rw [if_pos c_2]), by show va_P D hcl _ t.heap; rw [ht]; exact hP⟩, hS.F ht⟩) hS.2.2 dMod_write_36
  · refine lv_iload_n hx hb dMod_write_19 rfl (lv_at hl 1 rfl) ?_
    refine lv_iconst (v := 4) hx hb dMod_write_20 (by decide) ?_
    refine lv_idiv hx hb dMod_write_21 (by decide) ?_
    refine lv_aload_n hx hb dMod_write_22 rfl (lv_at hl 0 rfl) ?_
    refine va_get (D := D) (ci := 2) (v := .int (ms_reserved st)) (C := RMod) (T := TMod) (N := 14) hx hb hg inMod hown hK hP 0 rfl rfl 7 (by decide) (hg _ tw_564) (fun _ h9 => h9) rfl dMod_write_23 ?_
    refine lv_iconst (v := 4) hx hb dMod_write_26 (by decide) ?_
    refine lv_idiv hx hb dMod_write_27 (by decide) ?_
    refine lv_icmp_ne (tgt := 36) hx hb dMod_write_28 (by decide) (fun c_3 => ?_) (fun c_3 => ?_)
    · exact W.vret hx hb hr (fun t ht hW => ⟨⟨(ms_set_byte st a1 (a2 &&& 255)), rfl, (by unfold mf_RiscHartModel_write; rw [if_neg c_2, if_neg c_3]), by show va_P D hcl _ t.heap; rw [ht]; exact hP⟩, hS.F ht⟩) hS.2.2 dMod_write_36
    · refine lv_aload_n hx hb dMod_write_31 rfl (lv_at hl 0 rfl) ?_
      refine lv_iconst (v := (-1)) hx hb dMod_write_32 (by decide) ?_
      refine va_put (D := D) (ci := 2) (v := .int (-1)) (ty := .int) (C := RMod) (T := TMod) (N := 14) hx hb hg inMod tyMod tyMod_ok nmMod hown hK hP (hD _) hS 0 rfl rfl 7 (by decide) (hg _ tw_564) (fun _ h9 => h9) rfl (by decide +kernel) rfl rfl (Nat.le_of_ble_eq_true rfl) dMod_write_33 (fun H locs hP _ hS => ?_)
      have hP : va_P D hcl (ms_W cB cO cX m0 m1 m2 m3 (ms_set_reserved (ms_set_byte st a1 (a2 &&& 255)) (-1))) H := hP
      exact W.vret hx hb hr (fun t ht hW => ⟨⟨(ms_set_reserved (ms_set_byte st a1 (a2 &&& 255)) (-1)), rfl, (by unfold mf_RiscHartModel_write; rw [if_neg c_2, if_pos c_3]), by show va_P D hcl _ t.heap; rw [ht]; exact hP⟩, hS.F ht⟩) hS.2.2 dMod_write_36
set_option maxHeartbeats 4000000 in
set_option maxRecDepth 100000 in
theorem mc_RiscHartModel_poke (l : Launch) {D : va_G} {cB cO cX : ClassId} {m0 m1 m2 m3 : Nat} {A : Nat → Prop} {st : MS} {G : Heap} (hP : va_P D hcl (ms_W cB cO cX m0 m1 m2 m3 st) G) (hD : ∀ z, va_D A (ms_W cB cO cX m0 m1 m2 m3 z)) (a1 : Int32) (a2 : Int32)  : Met l yMod_poke (wq yMod_poke cMod_poke 3 none) ({ frames := 1, cells := 0, slots := 0, locals := 22 }) (mk_PK D hcl [(cB, .int), (cO, .int), (cX, .int)] G [.ref m0, .int a1, .int a2]) (mk_Wv (fun u t => va_P D hcl (ms_W cB cO cX m0 m1 m2 m3 u) t) A (mf_RiscHartModel_poke st a1 a2)) 0 0 A := by
  refine Met.ofW (cc := cMod_poke) (maxL := 3) (ret := none) (by decide) rfl ?_
  intro p e s m args below meth c s₁ B hml hv
  obtain ⟨rfl, hG, hK⟩ := hv
  subst hG
  have hx := B.exec
  have hb := B.bytes
  have hr := B.returns
  have hts := atoms_spec (ws := (wq yMod_poke cMod_poke 3 none)) B.pre
  have hown : s.vm.findClass RMod = some m.cls := findClass_of_methodNamed B.named
  have hlocks := B.notSynchronized
  have hg : ∀ w ∈ lw_g, w.before _ s = true := fun w h => hts w (List.mem_cons_of_mem _ h)
  have hS : va_S A s.heap s.heap [] := va_S.rf
  have hl := lv_entry ([.ref m0, .int a1, .int a2]) (n := 3) (Nat.le_of_ble_eq_true rfl)
  rw [lg_entry_eq]
  generalize (lg_sl ([.ref m0, .int a1, .int a2]) ++ List.replicate (3 - (lg_sl ([.ref m0, .int a1, .int a2])).length) Slot.unset).toArray = ls at hl ⊢
  have hl : lv_has ls 3 [(0, .ref m0), (1, .int a1), (2, .int a2)] := hl
  refine lv_aload_n hx hb dMod_poke_0 rfl (lv_at hl 0 rfl) ?_
  refine lv_iload_n hx hb dMod_poke_1 rfl (lv_at hl 1 rfl) ?_
  refine lv_iconst (v := 0) hx hb dMod_poke_2 (by decide) ?_
  refine lv_ldc (v := 65535) hx hb hown (hg _ tw_608) dMod_poke_3 ?_
  refine mk_callR (va_runS (As := [.int a1, .int 0, .int 65535]) (rest := [.ref m0]) ⟨hx, hb, hml, hown, hts⟩ (mc_RiscHartModel_in l _ a1 0 65535) (va_cwS 3 hts (mk_gS tw_609 tw_610 tw_48 tw_611) rfl rfl rfl hdMod_in.2 ⟨Nat.le_of_ble_eq_true rfl, Nat.le_of_ble_eq_true rfl⟩) mk_preS rfl rfl hl.1 rfl (lv_room (Nat.le_of_ble_eq_true rfl)) dMod_poke_5 ⟨Nat.zero_le _, Nat.zero_le _⟩) ?_
  refine lv_if_eq (tgt := 15) hx hb dMod_poke_8 (by decide) (fun c_1 => ?_) (fun c_1 => ?_)
  · refine lv_iconst (v := 1) hx hb dMod_poke_15 (by decide) ?_
    refine va_put (D := D) (ci := 2) (v := .int 1) (ty := .int) (C := RMod) (T := TMod) (N := 14) hx hb hg inMod tyMod tyMod_ok nmMod hown hK hP (hD _) hS 0 rfl rfl 0 (by decide) (hg _ tw_557) (fun _ h9 => h9) rfl (by decide +kernel) rfl rfl (Nat.le_of_ble_eq_true rfl) dMod_poke_16 (fun H locs hP _ hS => ?_)
    have hP : va_P D hcl (ms_W cB cO cX m0 m1 m2 m3 (ms_set_code st 1)) H := hP
    refine lv_aload_n hx hb dMod_poke_19 rfl (lv_at hl 0 rfl) ?_
    refine va_get (D := D) (ci := 2) (v := .int 1) (C := RMod) (T := TMod) (N := 14) hx hb hg inMod hown hK hP 0 rfl rfl 0 (by decide) (hg _ tw_557) (fun _ h9 => h9) rfl dMod_poke_20 ?_
    refine lv_if_ne (tgt := 32) hx hb dMod_poke_23 (by decide) (fun c_2 => ?_) (fun c_2 => ?_)
    · exact W.vret hx hb hr (fun t ht hW => ⟨⟨(ms_set_code st 1), rfl, (by unfold mf_RiscHartModel_poke; rw [if_pos c_1]), by show va_P D hcl _ t.heap; rw [ht]; exact hP⟩, hS.F ht⟩) hS.2.2 dMod_poke_32
    · exact absurd c_2 (by decide)
  · refine lv_iconst (v := 0) hx hb dMod_poke_11 (by decide) ?_
    refine lv_goto (tgt := 16) hx hb dMod_poke_12 (by decide) ?_
    refine va_put (D := D) (ci := 2) (v := .int 0) (ty := .int) (C := RMod) (T := TMod) (N := 14) hx hb hg inMod tyMod tyMod_ok nmMod hown hK hP (hD _) hS 0 rfl rfl 0 (by decide) (hg _ tw_557) (fun _ h9 => h9) rfl (by decide +kernel) rfl rfl (Nat.le_of_ble_eq_true rfl) dMod_poke_16 (fun H locs hP _ hS => ?_)
    have hP : va_P D hcl (ms_W cB cO cX m0 m1 m2 m3 (ms_set_code st 0)) H := hP
    refine lv_aload_n hx hb dMod_poke_19 rfl (lv_at hl 0 rfl) ?_
    refine va_get (D := D) (ci := 2) (v := .int 0) (C := RMod) (T := TMod) (N := 14) hx hb hg inMod hown hK hP 0 rfl rfl 0 (by decide) (hg _ tw_557) (fun _ h9 => h9) rfl dMod_poke_20 ?_
    refine lv_if_ne (tgt := 32) hx hb dMod_poke_23 (by decide) (fun c_3 => ?_) (fun c_3 => ?_)
    · exact absurd c_3 (by decide)
    · refine lv_aload_n hx hb dMod_poke_26 rfl (lv_at hl 0 rfl) ?_
      refine lv_iload_n hx hb dMod_poke_27 rfl (lv_at hl 1 rfl) ?_
      refine lv_iload_n hx hb dMod_poke_28 rfl (lv_at hl 2 rfl) ?_
      refine mk_callWv (va_runV (As := [.int a1, .int a2]) (rest := []) ⟨hx, hb, hml, hown, hts⟩ (mc_RiscHartModel_write l hP hD a1 a2 (in_mbyte c_1)) (cwV 2 hts (mk_gV tw_612 tw_614 tw_31 tw_48 tw_615) rfl rfl rfl hdMod_write ⟨Nat.le_of_ble_eq_true rfl, Nat.le_of_ble_eq_true rfl⟩) (mk_preVK hK (va_recv hK hP (ci := 2) (q0 := 0) rfl rfl)) rfl rfl hl.1 rfl (lv_room (Nat.le_of_ble_eq_true rfl)) dMod_poke_29 ⟨Nat.zero_le _, Nat.zero_le _⟩) hS (fun H locs hP hS => ?_)
      exact W.vret hx hb hr (fun t ht hW => ⟨⟨(mf_RiscHartModel_write (ms_set_code st 0) a1 a2), rfl, (by unfold mf_RiscHartModel_poke; rw [if_neg c_1]), by show va_P D hcl _ t.heap; rw [ht]; exact hP⟩, hS.F ht⟩) hS.2.2 dMod_poke_32
set_option maxHeartbeats 4000000 in
set_option maxRecDepth 100000 in
theorem mc_RiscHartModel_plant (l : Launch) {D : va_G} {cB cO cX : ClassId} {m0 m1 m2 m3 : Nat} {A : Nat → Prop} {st : MS} {G : Heap} (hP : va_P D hcl (ms_W cB cO cX m0 m1 m2 m3 st) G) (hD : ∀ z, va_D A (ms_W cB cO cX m0 m1 m2 m3 z)) (a1 : Int32) (a2 : Int32)  : Met l yMod_plant (wq yMod_plant cMod_plant 4 none) ({ frames := 1, cells := 0, slots := 0, locals := 22 }) (mk_PK D hcl [(cB, .int), (cO, .int), (cX, .int)] G [.ref m0, .int a1, .int a2]) (mk_Wv (fun u t => va_P D hcl (ms_W cB cO cX m0 m1 m2 m3 u) t) A (mf_RiscHartModel_plant st a1 a2)) 0 0 A := by
  refine Met.ofW (cc := cMod_plant) (maxL := 4) (ret := none) (by decide) rfl ?_
  intro p e s m args below meth c s₁ B hml hv
  obtain ⟨rfl, hG, hK⟩ := hv
  subst hG
  have hx := B.exec
  have hb := B.bytes
  have hr := B.returns
  have hts := atoms_spec (ws := (wq yMod_plant cMod_plant 4 none)) B.pre
  have hown : s.vm.findClass RMod = some m.cls := findClass_of_methodNamed B.named
  have hlocks := B.notSynchronized
  have hg : ∀ w ∈ lw_g, w.before _ s = true := fun w h => hts w (List.mem_cons_of_mem _ h)
  have hS : va_S A s.heap s.heap [] := va_S.rf
  have hl := lv_entry ([.ref m0, .int a1, .int a2]) (n := 4) (Nat.le_of_ble_eq_true rfl)
  rw [lg_entry_eq]
  generalize (lg_sl ([.ref m0, .int a1, .int a2]) ++ List.replicate (4 - (lg_sl ([.ref m0, .int a1, .int a2])).length) Slot.unset).toArray = ls at hl ⊢
  have hl : lv_has ls 4 [(0, .ref m0), (1, .int a1), (2, .int a2)] := hl
  refine lv_aload_n hx hb dMod_plant_0 rfl (lv_at hl 0 rfl) ?_
  refine lv_iload_n hx hb dMod_plant_1 rfl (lv_at hl 1 rfl) ?_
  refine lv_iconst (v := 0) hx hb dMod_plant_2 (by decide) ?_
  refine lv_ldc (v := 65532) hx hb hown (hg _ tw_620) dMod_plant_3 ?_
  refine mk_callR (va_runS (As := [.int a1, .int 0, .int 65532]) (rest := [.ref m0]) ⟨hx, hb, hml, hown, hts⟩ (mc_RiscHartModel_in l _ a1 0 65532) (va_cwS 3 hts (mk_gS tw_609 tw_610 tw_48 tw_611) rfl rfl rfl hdMod_in.2 ⟨Nat.le_of_ble_eq_true rfl, Nat.le_of_ble_eq_true rfl⟩) mk_preS rfl rfl hl.1 rfl (lv_room (Nat.le_of_ble_eq_true rfl)) dMod_plant_5 ⟨Nat.zero_le _, Nat.zero_le _⟩) ?_
  refine lv_if_eq (tgt := 21) hx hb dMod_plant_8 (by decide) (fun c_1 => ?_) (fun c_1 => ?_)
  · refine lv_iconst (v := 1) hx hb dMod_plant_21 (by decide) ?_
    refine va_put (D := D) (ci := 2) (v := .int 1) (ty := .int) (C := RMod) (T := TMod) (N := 14) hx hb hg inMod tyMod tyMod_ok nmMod hown hK hP (hD _) hS 0 rfl rfl 0 (by decide) (hg _ tw_557) (fun _ h9 => h9) rfl (by decide +kernel) rfl rfl (Nat.le_of_ble_eq_true rfl) dMod_plant_22 (fun H locs hP _ hS => ?_)
    have hP : va_P D hcl (ms_W cB cO cX m0 m1 m2 m3 (ms_set_code st 1)) H := hP
    refine lv_iconst (v := 0) hx hb dMod_plant_25 (by decide) ?_
    refine lv_istore_n (lv' := [(3, .int 0), (0, .ref m0), (1, .int a1), (2, .int a2)]) hx hb dMod_plant_26 rfl hl (by decide) rfl (fun ls hl => ?_)
    refine lv_iload_n hx hb dMod_plant_27 rfl (lv_at hl 0 rfl) ?_
    refine lv_iconst (v := 4) hx hb dMod_plant_28 (by decide) ?_
    refine lv_icmp_ge (tgt := 58) hx hb dMod_plant_29 (by decide) (fun c_2 => ?_) (fun c_2 => ?_)
    · exact absurd c_2 (by decide)
    · refine lv_aload_n hx hb dMod_plant_32 rfl (lv_at hl 1 rfl) ?_
      refine va_get (D := D) (ci := 2) (v := .int 1) (C := RMod) (T := TMod) (N := 14) hx hb hg inMod hown hK hP 0 rfl rfl 0 (by decide) (hg _ tw_557) (fun _ h9 => h9) rfl dMod_plant_33 ?_
      refine lv_if_ne (tgt := 58) hx hb dMod_plant_36 (by decide) (fun c_3 => ?_) (fun c_3 => ?_)
      · exact W.vret hx hb hr (fun t ht hW => ⟨⟨(ms_set_code st 1), rfl, (by unfold mf_RiscHartModel_plant; rw [if_pos c_1]), by show va_P D hcl _ t.heap; rw [ht]; exact hP⟩, hS.F ht⟩) hS.2.2 dMod_plant_58
      · exact absurd c_3 (by decide)
  · refine lv_iload_n hx hb dMod_plant_11 rfl (lv_at hl 1 rfl) ?_
    refine lv_iconst (v := 4) hx hb dMod_plant_12 (by decide) ?_
    refine lv_irem hx hb dMod_plant_13 (by decide) ?_
    refine lv_if_ne (tgt := 21) hx hb dMod_plant_14 (by decide) (fun c_4 => ?_) (fun c_4 => ?_)
    · refine lv_iconst (v := 1) hx hb dMod_plant_21 (by decide) ?_
      refine va_put (D := D) (ci := 2) (v := .int 1) (ty := .int) (C := RMod) (T := TMod) (N := 14) hx hb hg inMod tyMod tyMod_ok nmMod hown hK hP (hD _) hS 0 rfl rfl 0 (by decide) (hg _ tw_557) (fun _ h9 => h9) rfl (by decide +kernel) rfl rfl (Nat.le_of_ble_eq_true rfl) dMod_plant_22 (fun H locs hP _ hS => ?_)
      have hP : va_P D hcl (ms_W cB cO cX m0 m1 m2 m3 (ms_set_code st 1)) H := hP
      refine lv_iconst (v := 0) hx hb dMod_plant_25 (by decide) ?_
      refine lv_istore_n (lv' := [(3, .int 0), (0, .ref m0), (1, .int a1), (2, .int a2)]) hx hb dMod_plant_26 rfl hl (by decide) rfl (fun ls hl => ?_)
      refine lv_iload_n hx hb dMod_plant_27 rfl (lv_at hl 0 rfl) ?_
      refine lv_iconst (v := 4) hx hb dMod_plant_28 (by decide) ?_
      refine lv_icmp_ge (tgt := 58) hx hb dMod_plant_29 (by decide) (fun c_5 => ?_) (fun c_5 => ?_)
      · exact absurd c_5 (by decide)
      · refine lv_aload_n hx hb dMod_plant_32 rfl (lv_at hl 1 rfl) ?_
        refine va_get (D := D) (ci := 2) (v := .int 1) (C := RMod) (T := TMod) (N := 14) hx hb hg inMod hown hK hP 0 rfl rfl 0 (by decide) (hg _ tw_557) (fun _ h9 => h9) rfl dMod_plant_33 ?_
        refine lv_if_ne (tgt := 58) hx hb dMod_plant_36 (by decide) (fun c_6 => ?_) (fun c_6 => ?_)
        · exact W.vret hx hb hr (fun t ht hW => ⟨⟨(ms_set_code st 1), rfl, (by unfold mf_RiscHartModel_plant; rw [if_neg c_1, if_neg c_4]), by show va_P D hcl _ t.heap; rw [ht]; exact hP⟩, hS.F ht⟩) hS.2.2 dMod_plant_58
        · exact absurd c_6 (by decide)
    · refine lv_iconst (v := 0) hx hb dMod_plant_17 (by decide) ?_
      refine lv_goto (tgt := 22) hx hb dMod_plant_18 (by decide) ?_
      refine va_put (D := D) (ci := 2) (v := .int 0) (ty := .int) (C := RMod) (T := TMod) (N := 14) hx hb hg inMod tyMod tyMod_ok nmMod hown hK hP (hD _) hS 0 rfl rfl 0 (by decide) (hg _ tw_557) (fun _ h9 => h9) rfl (by decide +kernel) rfl rfl (Nat.le_of_ble_eq_true rfl) dMod_plant_22 (fun H locs hP _ hS => ?_)
      have hP : va_P D hcl (ms_W cB cO cX m0 m1 m2 m3 (ms_set_code st 0)) H := hP
      refine lv_iconst (v := 0) hx hb dMod_plant_25 (by decide) ?_
      refine lv_istore_n (lv' := [(3, .int 0), (0, .ref m0), (1, .int a1), (2, .int a2)]) hx hb dMod_plant_26 rfl hl (by decide) rfl (fun ls hl => ?_)
      refine lv_iload_n hx hb dMod_plant_27 rfl (lv_at hl 0 rfl) ?_
      refine lv_iconst (v := 4) hx hb dMod_plant_28 (by decide) ?_
      refine lv_icmp_ge (tgt := 58) hx hb dMod_plant_29 (by decide) (fun c_7 => ?_) (fun c_7 => ?_)
      · exact absurd c_7 (by decide)
      · refine lv_aload_n hx hb dMod_plant_32 rfl (lv_at hl 1 rfl) ?_
        refine va_get (D := D) (ci := 2) (v := .int 0) (C := RMod) (T := TMod) (N := 14) hx hb hg inMod hown hK hP 0 rfl rfl 0 (by decide) (hg _ tw_557) (fun _ h9 => h9) rfl dMod_plant_33 ?_
        refine lv_if_ne (tgt := 58) hx hb dMod_plant_36 (by decide) (fun c_8 => ?_) (fun c_8 => ?_)
        · exact absurd c_8 (by decide)
        · refine lv_aload_n hx hb dMod_plant_39 rfl (lv_at hl 1 rfl) ?_
          refine lv_iload_n hx hb dMod_plant_40 rfl (lv_at hl 2 rfl) ?_
          refine lv_iload_n hx hb dMod_plant_41 rfl (lv_at hl 0 rfl) ?_
          refine lv_iadd hx hb dMod_plant_42 ?_
          refine lv_iload_n hx hb dMod_plant_43 rfl (lv_at hl 3 rfl) ?_
          refine lv_bipush (v := 8) hx hb dMod_plant_44 (by decide) ?_
          refine lv_iload_n hx hb dMod_plant_46 rfl (lv_at hl 0 rfl) ?_
          refine lv_imul hx hb dMod_plant_47 ?_
          refine lv_ishr hx hb dMod_plant_48 ?_
          refine mk_callWv (va_runV (As := [.int (a1 + 0), .int (a2 >>> (((8 : Int32) * 0) &&& 31))]) (rest := []) ⟨hx, hb, hml, hown, hts⟩ (mc_RiscHartModel_write l hP hD (a1 + 0) (a2 >>> (((8 : Int32) * 0) &&& 31)) (in_mplant 0 c_1  (by decide))) (cwV 2 hts (mk_gV tw_612 tw_614 tw_31 tw_48 tw_615) rfl rfl rfl hdMod_write ⟨Nat.le_of_ble_eq_true rfl, Nat.le_of_ble_eq_true rfl⟩) (mk_preVK hK (va_recv hK hP (ci := 2) (q0 := 0) rfl rfl)) rfl rfl hl.1 rfl (lv_room (Nat.le_of_ble_eq_true rfl)) dMod_plant_49 ⟨Nat.zero_le _, Nat.zero_le _⟩) hS (fun H locs hP hS => ?_)
          refine lv_iinc (v := 1) (lv' := [(3, .int 1), (0, .ref m0), (1, .int a1), (2, .int a2)]) hx hb dMod_plant_52 hl (k := 0) rfl (by decide) (by decide) rfl (fun ls hl => ?_)
          refine lv_goto (tgt := 27) hx hb dMod_plant_55 (by decide) ?_
          refine lv_iload_n hx hb dMod_plant_27 rfl (lv_at hl 0 rfl) ?_
          refine lv_iconst (v := 4) hx hb dMod_plant_28 (by decide) ?_
          refine lv_icmp_ge (tgt := 58) hx hb dMod_plant_29 (by decide) (fun c_9 => ?_) (fun c_9 => ?_)
          · exact absurd c_9 (by decide)
          · refine lv_aload_n hx hb dMod_plant_32 rfl (lv_at hl 1 rfl) ?_
            refine va_get (D := D) (ci := 2) (v := .int (ms_code (mf_RiscHartModel_write (ms_set_code st 0) (a1 + 0) (a2 >>> (((8 : Int32) * 0) &&& 31))))) (C := RMod) (T := TMod) (N := 14) hx hb hg inMod hown hK hP 0 rfl rfl 0 (by decide) (hg _ tw_557) (fun _ h9 => h9) rfl dMod_plant_33 ?_
            refine lv_if_ne (tgt := 58) hx hb dMod_plant_36 (by decide) (fun c_10 => ?_) (fun c_10 => ?_)
            · exact W.vret hx hb hr (fun t ht hW => ⟨⟨(mf_RiscHartModel_write (ms_set_code st 0) (a1 + 0) (a2 >>> (((8 : Int32) * 0) &&& 31))), rfl, (by unfold mf_RiscHartModel_plant; rw [if_neg c_1, if_pos c_4, if_neg c_10]), by show va_P D hcl _ t.heap; rw [ht]; exact hP⟩, hS.F ht⟩) hS.2.2 dMod_plant_58
            · refine lv_aload_n hx hb dMod_plant_39 rfl (lv_at hl 1 rfl) ?_
              refine lv_iload_n hx hb dMod_plant_40 rfl (lv_at hl 2 rfl) ?_
              refine lv_iload_n hx hb dMod_plant_41 rfl (lv_at hl 0 rfl) ?_
              refine lv_iadd hx hb dMod_plant_42 ?_
              refine lv_iload_n hx hb dMod_plant_43 rfl (lv_at hl 3 rfl) ?_
              refine lv_bipush (v := 8) hx hb dMod_plant_44 (by decide) ?_
              refine lv_iload_n hx hb dMod_plant_46 rfl (lv_at hl 0 rfl) ?_
              refine lv_imul hx hb dMod_plant_47 ?_
              refine lv_ishr hx hb dMod_plant_48 ?_
              refine mk_callWv (va_runV (As := [.int (a1 + 1), .int (a2 >>> (((8 : Int32) * 1) &&& 31))]) (rest := []) ⟨hx, hb, hml, hown, hts⟩ (mc_RiscHartModel_write l hP hD (a1 + 1) (a2 >>> (((8 : Int32) * 1) &&& 31)) (in_mplant 1 c_1  (by decide))) (cwV 2 hts (mk_gV tw_612 tw_614 tw_31 tw_48 tw_615) rfl rfl rfl hdMod_write ⟨Nat.le_of_ble_eq_true rfl, Nat.le_of_ble_eq_true rfl⟩) (mk_preVK hK (va_recv hK hP (ci := 2) (q0 := 0) rfl rfl)) rfl rfl hl.1 rfl (lv_room (Nat.le_of_ble_eq_true rfl)) dMod_plant_49 ⟨Nat.zero_le _, Nat.zero_le _⟩) hS (fun H locs hP hS => ?_)
              refine lv_iinc (v := 2) (lv' := [(3, .int 2), (0, .ref m0), (1, .int a1), (2, .int a2)]) hx hb dMod_plant_52 hl (k := 0) rfl (by decide) (by decide) rfl (fun ls hl => ?_)
              refine lv_goto (tgt := 27) hx hb dMod_plant_55 (by decide) ?_
              refine lv_iload_n hx hb dMod_plant_27 rfl (lv_at hl 0 rfl) ?_
              refine lv_iconst (v := 4) hx hb dMod_plant_28 (by decide) ?_
              refine lv_icmp_ge (tgt := 58) hx hb dMod_plant_29 (by decide) (fun c_11 => ?_) (fun c_11 => ?_)
              · exact absurd c_11 (by decide)
              · refine lv_aload_n hx hb dMod_plant_32 rfl (lv_at hl 1 rfl) ?_
                refine va_get (D := D) (ci := 2) (v := .int (ms_code (mf_RiscHartModel_write (mf_RiscHartModel_write (ms_set_code st 0) (a1 + 0) (a2 >>> (((8 : Int32) * 0) &&& 31))) (a1 + 1) (a2 >>> (((8 : Int32) * 1) &&& 31))))) (C := RMod) (T := TMod) (N := 14) hx hb hg inMod hown hK hP 0 rfl rfl 0 (by decide) (hg _ tw_557) (fun _ h9 => h9) rfl dMod_plant_33 ?_
                refine lv_if_ne (tgt := 58) hx hb dMod_plant_36 (by decide) (fun c_12 => ?_) (fun c_12 => ?_)
                · exact W.vret hx hb hr (fun t ht hW => ⟨⟨(mf_RiscHartModel_write (mf_RiscHartModel_write (ms_set_code st 0) (a1 + 0) (a2 >>> (((8 : Int32) * 0) &&& 31))) (a1 + 1) (a2 >>> (((8 : Int32) * 1) &&& 31))), rfl, (by unfold mf_RiscHartModel_plant; rw [if_neg c_1, if_pos c_4, if_pos c_10, if_neg c_12]), by show va_P D hcl _ t.heap; rw [ht]; exact hP⟩, hS.F ht⟩) hS.2.2 dMod_plant_58
                · refine lv_aload_n hx hb dMod_plant_39 rfl (lv_at hl 1 rfl) ?_
                  refine lv_iload_n hx hb dMod_plant_40 rfl (lv_at hl 2 rfl) ?_
                  refine lv_iload_n hx hb dMod_plant_41 rfl (lv_at hl 0 rfl) ?_
                  refine lv_iadd hx hb dMod_plant_42 ?_
                  refine lv_iload_n hx hb dMod_plant_43 rfl (lv_at hl 3 rfl) ?_
                  refine lv_bipush (v := 8) hx hb dMod_plant_44 (by decide) ?_
                  refine lv_iload_n hx hb dMod_plant_46 rfl (lv_at hl 0 rfl) ?_
                  refine lv_imul hx hb dMod_plant_47 ?_
                  refine lv_ishr hx hb dMod_plant_48 ?_
                  refine mk_callWv (va_runV (As := [.int (a1 + 2), .int (a2 >>> (((8 : Int32) * 2) &&& 31))]) (rest := []) ⟨hx, hb, hml, hown, hts⟩ (mc_RiscHartModel_write l hP hD (a1 + 2) (a2 >>> (((8 : Int32) * 2) &&& 31)) (in_mplant 2 c_1  (by decide))) (cwV 2 hts (mk_gV tw_612 tw_614 tw_31 tw_48 tw_615) rfl rfl rfl hdMod_write ⟨Nat.le_of_ble_eq_true rfl, Nat.le_of_ble_eq_true rfl⟩) (mk_preVK hK (va_recv hK hP (ci := 2) (q0 := 0) rfl rfl)) rfl rfl hl.1 rfl (lv_room (Nat.le_of_ble_eq_true rfl)) dMod_plant_49 ⟨Nat.zero_le _, Nat.zero_le _⟩) hS (fun H locs hP hS => ?_)
                  refine lv_iinc (v := 3) (lv' := [(3, .int 3), (0, .ref m0), (1, .int a1), (2, .int a2)]) hx hb dMod_plant_52 hl (k := 0) rfl (by decide) (by decide) rfl (fun ls hl => ?_)
                  refine lv_goto (tgt := 27) hx hb dMod_plant_55 (by decide) ?_
                  refine lv_iload_n hx hb dMod_plant_27 rfl (lv_at hl 0 rfl) ?_
                  refine lv_iconst (v := 4) hx hb dMod_plant_28 (by decide) ?_
                  refine lv_icmp_ge (tgt := 58) hx hb dMod_plant_29 (by decide) (fun c_13 => ?_) (fun c_13 => ?_)
                  · exact absurd c_13 (by decide)
                  · refine lv_aload_n hx hb dMod_plant_32 rfl (lv_at hl 1 rfl) ?_
                    refine va_get (D := D) (ci := 2) (v := .int (ms_code (mf_RiscHartModel_write (mf_RiscHartModel_write (mf_RiscHartModel_write (ms_set_code st 0) (a1 + 0) (a2 >>> (((8 : Int32) * 0) &&& 31))) (a1 + 1) (a2 >>> (((8 : Int32) * 1) &&& 31))) (a1 + 2) (a2 >>> (((8 : Int32) * 2) &&& 31))))) (C := RMod) (T := TMod) (N := 14) hx hb hg inMod hown hK hP 0 rfl rfl 0 (by decide) (hg _ tw_557) (fun _ h9 => h9) rfl dMod_plant_33 ?_
                    refine lv_if_ne (tgt := 58) hx hb dMod_plant_36 (by decide) (fun c_14 => ?_) (fun c_14 => ?_)
                    · exact W.vret hx hb hr (fun t ht hW => ⟨⟨(mf_RiscHartModel_write (mf_RiscHartModel_write (mf_RiscHartModel_write (ms_set_code st 0) (a1 + 0) (a2 >>> (((8 : Int32) * 0) &&& 31))) (a1 + 1) (a2 >>> (((8 : Int32) * 1) &&& 31))) (a1 + 2) (a2 >>> (((8 : Int32) * 2) &&& 31))), rfl, (by unfold mf_RiscHartModel_plant; rw [if_neg c_1, if_pos c_4, if_pos c_10, if_pos c_12, if_neg c_14]), by show va_P D hcl _ t.heap; rw [ht]; exact hP⟩, hS.F ht⟩) hS.2.2 dMod_plant_58
                    · refine lv_aload_n hx hb dMod_plant_39 rfl (lv_at hl 1 rfl) ?_
                      refine lv_iload_n hx hb dMod_plant_40 rfl (lv_at hl 2 rfl) ?_
                      refine lv_iload_n hx hb dMod_plant_41 rfl (lv_at hl 0 rfl) ?_
                      refine lv_iadd hx hb dMod_plant_42 ?_
                      refine lv_iload_n hx hb dMod_plant_43 rfl (lv_at hl 3 rfl) ?_
                      refine lv_bipush (v := 8) hx hb dMod_plant_44 (by decide) ?_
                      refine lv_iload_n hx hb dMod_plant_46 rfl (lv_at hl 0 rfl) ?_
                      refine lv_imul hx hb dMod_plant_47 ?_
                      refine lv_ishr hx hb dMod_plant_48 ?_
                      refine mk_callWv (va_runV (As := [.int (a1 + 3), .int (a2 >>> (((8 : Int32) * 3) &&& 31))]) (rest := []) ⟨hx, hb, hml, hown, hts⟩ (mc_RiscHartModel_write l hP hD (a1 + 3) (a2 >>> (((8 : Int32) * 3) &&& 31)) (in_mplant 3 c_1  (by decide))) (cwV 2 hts (mk_gV tw_612 tw_614 tw_31 tw_48 tw_615) rfl rfl rfl hdMod_write ⟨Nat.le_of_ble_eq_true rfl, Nat.le_of_ble_eq_true rfl⟩) (mk_preVK hK (va_recv hK hP (ci := 2) (q0 := 0) rfl rfl)) rfl rfl hl.1 rfl (lv_room (Nat.le_of_ble_eq_true rfl)) dMod_plant_49 ⟨Nat.zero_le _, Nat.zero_le _⟩) hS (fun H locs hP hS => ?_)
                      refine lv_iinc (v := 4) (lv' := [(3, .int 4), (0, .ref m0), (1, .int a1), (2, .int a2)]) hx hb dMod_plant_52 hl (k := 0) rfl (by decide) (by decide) rfl (fun ls hl => ?_)
                      refine lv_goto (tgt := 27) hx hb dMod_plant_55 (by decide) ?_
                      refine lv_iload_n hx hb dMod_plant_27 rfl (lv_at hl 0 rfl) ?_
                      refine lv_iconst (v := 4) hx hb dMod_plant_28 (by decide) ?_
                      refine lv_icmp_ge (tgt := 58) hx hb dMod_plant_29 (by decide) (fun c_15 => ?_) (fun c_15 => ?_)
                      · exact W.vret hx hb hr (fun t ht hW => ⟨⟨(mf_RiscHartModel_write (mf_RiscHartModel_write (mf_RiscHartModel_write (mf_RiscHartModel_write (ms_set_code st 0) (a1 + 0) (a2 >>> (((8 : Int32) * 0) &&& 31))) (a1 + 1) (a2 >>> (((8 : Int32) * 1) &&& 31))) (a1 + 2) (a2 >>> (((8 : Int32) * 2) &&& 31))) (a1 + 3) (a2 >>> (((8 : Int32) * 3) &&& 31))), rfl, (by unfold mf_RiscHartModel_plant; rw [if_neg c_1, if_pos c_4, if_pos c_10, if_pos c_12, if_pos c_14]), by show va_P D hcl _ t.heap; rw [ht]; exact hP⟩, hS.F ht⟩) hS.2.2 dMod_plant_58
                      · exact absurd c_15 (by decide)
set_option maxHeartbeats 4000000 in
set_option maxRecDepth 100000 in
theorem mc_RiscHartModel_peek (l : Launch) {D : va_G} {cB cO cX : ClassId} {m0 m1 m2 m3 : Nat} {A : Nat → Prop} {st : MS} {G : Heap} (hP : va_P D hcl (ms_W cB cO cX m0 m1 m2 m3 st) G) (hD : ∀ z, va_D A (ms_W cB cO cX m0 m1 m2 m3 z)) (a1 : Int32)  : Met l yMod_peek (wq yMod_peek cMod_peek 2 (some .int)) ({ frames := 1, cells := 0, slots := 0, locals := 22 }) (mk_PK D hcl [(cB, .int), (cO, .int), (cX, .int)] G [.ref m0, .int a1]) (mk_Wi (fun u t => va_P D hcl (ms_W cB cO cX m0 m1 m2 m3 u) t) A (mf_RiscHartModel_peek st a1)) 0 0 A := by
  refine Met.ofW (cc := cMod_peek) (maxL := 2) (ret := (some .int)) (by decide) rfl ?_
  intro p e s m args below meth c s₁ B hml hv
  obtain ⟨rfl, hG, hK⟩ := hv
  subst hG
  have hx := B.exec
  have hb := B.bytes
  have hr := B.returns
  have hts := atoms_spec (ws := (wq yMod_peek cMod_peek 2 (some .int))) B.pre
  have hown : s.vm.findClass RMod = some m.cls := findClass_of_methodNamed B.named
  have hlocks := B.notSynchronized
  have hg : ∀ w ∈ lw_g, w.before _ s = true := fun w h => hts w (List.mem_cons_of_mem _ h)
  have hS : va_S A s.heap s.heap [] := va_S.rf
  have hl := lv_entry ([.ref m0, .int a1]) (n := 2) (Nat.le_of_ble_eq_true rfl)
  rw [lg_entry_eq]
  generalize (lg_sl ([.ref m0, .int a1]) ++ List.replicate (2 - (lg_sl ([.ref m0, .int a1])).length) Slot.unset).toArray = ls at hl ⊢
  have hl : lv_has ls 2 [(0, .ref m0), (1, .int a1)] := hl
  refine lv_aload_n hx hb dMod_peek_0 rfl (lv_at hl 0 rfl) ?_
  refine lv_iload_n hx hb dMod_peek_1 rfl (lv_at hl 1 rfl) ?_
  refine lv_iconst (v := 0) hx hb dMod_peek_2 (by decide) ?_
  refine lv_ldc (v := 65535) hx hb hown (hg _ tw_608) dMod_peek_3 ?_
  refine mk_callR (va_runS (As := [.int a1, .int 0, .int 65535]) (rest := [.ref m0]) ⟨hx, hb, hml, hown, hts⟩ (mc_RiscHartModel_in l _ a1 0 65535) (va_cwS 3 hts (mk_gS tw_609 tw_610 tw_48 tw_611) rfl rfl rfl hdMod_in.2 ⟨Nat.le_of_ble_eq_true rfl, Nat.le_of_ble_eq_true rfl⟩) mk_preS rfl rfl hl.1 rfl (lv_room (Nat.le_of_ble_eq_true rfl)) dMod_peek_5 ⟨Nat.zero_le _, Nat.zero_le _⟩) ?_
  refine lv_if_eq (tgt := 15) hx hb dMod_peek_8 (by decide) (fun c_1 => ?_) (fun c_1 => ?_)
  · refine lv_iconst (v := 1) hx hb dMod_peek_15 (by decide) ?_
    refine va_put (D := D) (ci := 2) (v := .int 1) (ty := .int) (C := RMod) (T := TMod) (N := 14) hx hb hg inMod tyMod tyMod_ok nmMod hown hK hP (hD _) hS 0 rfl rfl 0 (by decide) (hg _ tw_557) (fun _ h9 => h9) rfl (by decide +kernel) rfl rfl (Nat.le_of_ble_eq_true rfl) dMod_peek_16 (fun H locs hP _ hS => ?_)
    have hP : va_P D hcl (ms_W cB cO cX m0 m1 m2 m3 (ms_set_code st 1)) H := hP
    refine lv_aload_n hx hb dMod_peek_19 rfl (lv_at hl 0 rfl) ?_
    refine va_get (D := D) (ci := 2) (v := .int 1) (C := RMod) (T := TMod) (N := 14) hx hb hg inMod hown hK hP 0 rfl rfl 0 (by decide) (hg _ tw_557) (fun _ h9 => h9) rfl dMod_peek_20 ?_
    refine lv_if_le (tgt := 30) hx hb dMod_peek_23 (by decide) (fun c_2 => ?_) (fun c_2 => ?_)
    · exact absurd c_2 (by decide)
    · refine lv_iconst (v := 0) hx hb dMod_peek_26 (by decide) ?_
      refine lv_goto (tgt := 36) hx hb dMod_peek_27 (by decide) ?_
      exact W.iret hx hb hr (fun t ht hW => ⟨⟨_, (ms_set_code st 1), rfl, (by unfold mf_RiscHartModel_peek; rw [if_pos c_1]), by show va_P D hcl _ t.heap; rw [ht]; exact hP⟩, hS.F ht⟩) hS.2.2 dMod_peek_36
  · refine lv_iconst (v := 0) hx hb dMod_peek_11 (by decide) ?_
    refine lv_goto (tgt := 16) hx hb dMod_peek_12 (by decide) ?_
    refine va_put (D := D) (ci := 2) (v := .int 0) (ty := .int) (C := RMod) (T := TMod) (N := 14) hx hb hg inMod tyMod tyMod_ok nmMod hown hK hP (hD _) hS 0 rfl rfl 0 (by decide) (hg _ tw_557) (fun _ h9 => h9) rfl (by decide +kernel) rfl rfl (Nat.le_of_ble_eq_true rfl) dMod_peek_16 (fun H locs hP _ hS => ?_)
    have hP : va_P D hcl (ms_W cB cO cX m0 m1 m2 m3 (ms_set_code st 0)) H := hP
    refine lv_aload_n hx hb dMod_peek_19 rfl (lv_at hl 0 rfl) ?_
    refine va_get (D := D) (ci := 2) (v := .int 0) (C := RMod) (T := TMod) (N := 14) hx hb hg inMod hown hK hP 0 rfl rfl 0 (by decide) (hg _ tw_557) (fun _ h9 => h9) rfl dMod_peek_20 ?_
    refine lv_if_le (tgt := 30) hx hb dMod_peek_23 (by decide) (fun c_3 => ?_) (fun c_3 => ?_)
    · refine lv_aload_n hx hb dMod_peek_30 rfl (lv_at hl 0 rfl) ?_
      refine va_get (D := D) (ci := 2) (v := .ref m1) (C := RMod) (T := TMod) (N := 14) hx hb hg inMod hown hK hP 0 rfl rfl 1 (by decide) (hg _ tw_558) (fun _ h9 => h9) rfl dMod_peek_31 ?_
      refine lv_iload_n hx hb dMod_peek_34 rfl (lv_at hl 1 rfl) ?_
      refine va_iald (D := D) (f := ms_bytes st) hx hb hK hP 1 0 rfl rfl (in_mbyte c_1) dMod_peek_35 ?_
      exact W.iret hx hb hr (fun t ht hW => ⟨⟨_, (ms_set_code st 0), rfl, (by unfold mf_RiscHartModel_peek; rw [if_neg c_1]), by show va_P D hcl _ t.heap; rw [ht]; exact hP⟩, hS.F ht⟩) hS.2.2 dMod_peek_36
    · exact absurd c_3 (by decide)
set_option maxHeartbeats 4000000 in
set_option maxRecDepth 100000 in
theorem mc_RiscHartModel_rights (l : Launch) {D : va_G} {cB cO cX : ClassId} {m0 m1 m2 m3 : Nat} {A : Nat → Prop} {st : MS} {G : Heap} (hP : va_P D hcl (ms_W cB cO cX m0 m1 m2 m3 st) G) (hD : ∀ z, va_D A (ms_W cB cO cX m0 m1 m2 m3 z)) (a1 : Int32) (a2 : Int32)  : Met l yMod_rights (wq yMod_rights cMod_rights 4 (some .int)) ({ frames := 1, cells := 0, slots := 0, locals := 22 }) (mk_PK D hcl [(cB, .int), (cO, .int), (cX, .int)] G [.ref m0, .int a1, .int a2]) (mk_Wi (fun u t => va_P D hcl (ms_W cB cO cX m0 m1 m2 m3 u) t) A (mf_RiscHartModel_rights st a1 a2)) 0 0 A := by
  refine Met.ofW (cc := cMod_rights) (maxL := 4) (ret := (some .int)) (by decide) rfl ?_
  intro p e s m args below meth c s₁ B hml hv
  obtain ⟨rfl, hG, hK⟩ := hv
  subst hG
  have hx := B.exec
  have hb := B.bytes
  have hr := B.returns
  have hts := atoms_spec (ws := (wq yMod_rights cMod_rights 4 (some .int))) B.pre
  have hown : s.vm.findClass RMod = some m.cls := findClass_of_methodNamed B.named
  have hlocks := B.notSynchronized
  have hg : ∀ w ∈ lw_g, w.before _ s = true := fun w h => hts w (List.mem_cons_of_mem _ h)
  have hS : va_S A s.heap s.heap [] := va_S.rf
  have hl := lv_entry ([.ref m0, .int a1, .int a2]) (n := 4) (Nat.le_of_ble_eq_true rfl)
  rw [lg_entry_eq]
  generalize (lg_sl ([.ref m0, .int a1, .int a2]) ++ List.replicate (4 - (lg_sl ([.ref m0, .int a1, .int a2])).length) Slot.unset).toArray = ls at hl ⊢
  have hl : lv_has ls 4 [(0, .ref m0), (1, .int a1), (2, .int a2)] := hl
  refine lv_aload_n hx hb dMod_rights_0 rfl (lv_at hl 0 rfl) ?_
  refine lv_iload_n hx hb dMod_rights_1 rfl (lv_at hl 1 rfl) ?_
  refine lv_iconst (v := 0) hx hb dMod_rights_2 (by decide) ?_
  refine lv_bipush (v := 63) hx hb dMod_rights_3 (by decide) ?_
  refine mk_callR (va_runS (As := [.int a1, .int 0, .int 63]) (rest := [.ref m0]) ⟨hx, hb, hml, hown, hts⟩ (mc_RiscHartModel_in l _ a1 0 63) (va_cwS 3 hts (mk_gS tw_609 tw_610 tw_48 tw_611) rfl rfl rfl hdMod_in.2 ⟨Nat.le_of_ble_eq_true rfl, Nat.le_of_ble_eq_true rfl⟩) mk_preS rfl rfl hl.1 rfl (lv_room (Nat.le_of_ble_eq_true rfl)) dMod_rights_5 ⟨Nat.zero_le _, Nat.zero_le _⟩) ?_
  refine lv_if_eq (tgt := 25) hx hb dMod_rights_8 (by decide) (fun c_1 => ?_) (fun c_1 => ?_)
  · refine lv_iconst (v := 1) hx hb dMod_rights_25 (by decide) ?_
    refine va_put (D := D) (ci := 2) (v := .int 1) (ty := .int) (C := RMod) (T := TMod) (N := 14) hx hb hg inMod tyMod tyMod_ok nmMod hown hK hP (hD _) hS 0 rfl rfl 0 (by decide) (hg _ tw_557) (fun _ h9 => h9) rfl (by decide +kernel) rfl rfl (Nat.le_of_ble_eq_true rfl) dMod_rights_26 (fun H locs hP _ hS => ?_)
    have hP : va_P D hcl (ms_W cB cO cX m0 m1 m2 m3 (ms_set_code st 1)) H := hP
    refine lv_aload_n hx hb dMod_rights_29 rfl (lv_at hl 0 rfl) ?_
    refine va_get (D := D) (ci := 2) (v := .int 1) (C := RMod) (T := TMod) (N := 14) hx hb hg inMod hown hK hP 0 rfl rfl 0 (by decide) (hg _ tw_557) (fun _ h9 => h9) rfl dMod_rights_30 ?_
    refine lv_if_le (tgt := 38) hx hb dMod_rights_33 (by decide) (fun c_2 => ?_) (fun c_2 => ?_)
    · exact absurd c_2 (by decide)
    · refine lv_iconst (v := 0) hx hb dMod_rights_36 (by decide) ?_
      exact W.iret hx hb hr (fun t ht hW => ⟨⟨_, (ms_set_code st 1), rfl, (by unfold mf_RiscHartModel_rights; rw [if_pos c_1]), by show va_P D hcl _ t.heap; rw [ht]; exact hP⟩, hS.F ht⟩) hS.2.2 dMod_rights_37
  · refine lv_iload_n hx hb dMod_rights_11 rfl (lv_at hl 2 rfl) ?_
    refine lv_iconst (v := 0) hx hb dMod_rights_12 (by decide) ?_
    refine lv_bipush (v := 7) hx hb dMod_rights_13 (by decide) ?_
    refine mk_callR (va_runS (As := [.int a2, .int 0, .int 7]) (rest := [.ref m0]) ⟨hx, hb, hml, hown, hts⟩ (mc_RiscHartModel_in l _ a2 0 7) (va_cwS 3 hts (mk_gS tw_609 tw_610 tw_48 tw_611) rfl rfl rfl hdMod_in.2 ⟨Nat.le_of_ble_eq_true rfl, Nat.le_of_ble_eq_true rfl⟩) mk_preS rfl rfl hl.1 rfl (lv_room (Nat.le_of_ble_eq_true rfl)) dMod_rights_15 ⟨Nat.zero_le _, Nat.zero_le _⟩) ?_
    refine lv_if_eq (tgt := 25) hx hb dMod_rights_18 (by decide) (fun c_3 => ?_) (fun c_3 => ?_)
    · refine lv_iconst (v := 1) hx hb dMod_rights_25 (by decide) ?_
      refine va_put (D := D) (ci := 2) (v := .int 1) (ty := .int) (C := RMod) (T := TMod) (N := 14) hx hb hg inMod tyMod tyMod_ok nmMod hown hK hP (hD _) hS 0 rfl rfl 0 (by decide) (hg _ tw_557) (fun _ h9 => h9) rfl (by decide +kernel) rfl rfl (Nat.le_of_ble_eq_true rfl) dMod_rights_26 (fun H locs hP _ hS => ?_)
      have hP : va_P D hcl (ms_W cB cO cX m0 m1 m2 m3 (ms_set_code st 1)) H := hP
      refine lv_aload_n hx hb dMod_rights_29 rfl (lv_at hl 0 rfl) ?_
      refine va_get (D := D) (ci := 2) (v := .int 1) (C := RMod) (T := TMod) (N := 14) hx hb hg inMod hown hK hP 0 rfl rfl 0 (by decide) (hg _ tw_557) (fun _ h9 => h9) rfl dMod_rights_30 ?_
      refine lv_if_le (tgt := 38) hx hb dMod_rights_33 (by decide) (fun c_4 => ?_) (fun c_4 => ?_)
      · exact absurd c_4 (by decide)
      · refine lv_iconst (v := 0) hx hb dMod_rights_36 (by decide) ?_
        exact W.iret hx hb hr (fun t ht hW => ⟨⟨_, (ms_set_code st 1), rfl, (by unfold mf_RiscHartModel_rights; rw [if_neg c_1, if_pos c_3]), by show va_P D hcl _ t.heap; rw [ht]; exact hP⟩, hS.F ht⟩) hS.2.2 dMod_rights_37
    · refine lv_iconst (v := 0) hx hb dMod_rights_21 (by decide) ?_
      refine lv_goto (tgt := 26) hx hb dMod_rights_22 (by decide) ?_
      refine va_put (D := D) (ci := 2) (v := .int 0) (ty := .int) (C := RMod) (T := TMod) (N := 14) hx hb hg inMod tyMod tyMod_ok nmMod hown hK hP (hD _) hS 0 rfl rfl 0 (by decide) (hg _ tw_557) (fun _ h9 => h9) rfl (by decide +kernel) rfl rfl (Nat.le_of_ble_eq_true rfl) dMod_rights_26 (fun H locs hP _ hS => ?_)
      have hP : va_P D hcl (ms_W cB cO cX m0 m1 m2 m3 (ms_set_code st 0)) H := hP
      refine lv_aload_n hx hb dMod_rights_29 rfl (lv_at hl 0 rfl) ?_
      refine va_get (D := D) (ci := 2) (v := .int 0) (C := RMod) (T := TMod) (N := 14) hx hb hg inMod hown hK hP 0 rfl rfl 0 (by decide) (hg _ tw_557) (fun _ h9 => h9) rfl dMod_rights_30 ?_
      refine lv_if_le (tgt := 38) hx hb dMod_rights_33 (by decide) (fun c_5 => ?_) (fun c_5 => ?_)
      · refine lv_aload_n hx hb dMod_rights_38 rfl (lv_at hl 0 rfl) ?_
        refine va_get (D := D) (ci := 2) (v := .ref m2) (C := RMod) (T := TMod) (N := 14) hx hb hg inMod hown hK hP 0 rfl rfl 2 (by decide) (hg _ tw_559) (fun _ h9 => h9) rfl dMod_rights_39 ?_
        refine lv_iload_n hx hb dMod_rights_42 rfl (lv_at hl 1 rfl) ?_
        refine va_iald (D := D) (f := ms_open st) hx hb hK hP 2 1 rfl rfl (in_mrights c_1) dMod_rights_43 ?_
        refine lv_istore_n (lv' := [(3, .int (ms_open st (a1).toNatClampNeg)), (0, .ref m0), (1, .int a1), (2, .int a2)]) hx hb dMod_rights_44 rfl hl (by decide) rfl (fun ls hl => ?_)
        refine lv_aload_n hx hb dMod_rights_45 rfl (lv_at hl 1 rfl) ?_
        refine va_get (D := D) (ci := 2) (v := .ref m2) (C := RMod) (T := TMod) (N := 14) hx hb hg inMod hown hK hP 0 rfl rfl 2 (by decide) (hg _ tw_559) (fun _ h9 => h9) rfl dMod_rights_46 ?_
        refine lv_iload_n hx hb dMod_rights_49 rfl (lv_at hl 2 rfl) ?_
        refine lv_iload_n hx hb dMod_rights_50 rfl (lv_at hl 3 rfl) ?_
        refine va_iast (D := D) (f := ms_open st) hx hb hK hP (hD _) hS 2 1 rfl rfl (in_mrights c_1) dMod_rights_51 (fun H locs hP _ hS => ?_)
        have hP : va_P D hcl (ms_W cB cO cX m0 m1 m2 m3 (ms_set_open (ms_set_code st 0) a1 a2)) H := hP
        refine lv_iload_n hx hb dMod_rights_52 rfl (lv_at hl 0 rfl) ?_
        exact W.iret hx hb hr (fun t ht hW => ⟨⟨_, (ms_set_open (ms_set_code st 0) a1 a2), rfl, (by unfold mf_RiscHartModel_rights; rw [if_neg c_1, if_neg c_3]), by show va_P D hcl _ t.heap; rw [ht]; exact hP⟩, hS.F ht⟩) hS.2.2 dMod_rights_53
      · exact absurd c_5 (by decide)
set_option maxHeartbeats 4000000 in
set_option maxRecDepth 100000 in
theorem mc_RiscHartModel_set (l : Launch) {D : va_G} {cB cO cX : ClassId} {m0 m1 m2 m3 : Nat} {A : Nat → Prop} {st : MS} {G : Heap} (hP : va_P D hcl (ms_W cB cO cX m0 m1 m2 m3 st) G) (hD : ∀ z, va_D A (ms_W cB cO cX m0 m1 m2 m3 z)) (a1 : Int32) (a2 : Int32)  : Met l yMod_set (wq yMod_set cMod_set 3 (some .boolean)) ({ frames := 1, cells := 0, slots := 0, locals := 22 }) (mk_PK D hcl [(cB, .int), (cO, .int), (cX, .int)] G [.ref m0, .int a1, .int a2]) (mk_Wi (fun u t => va_P D hcl (ms_W cB cO cX m0 m1 m2 m3 u) t) A (mf_RiscHartModel_set st a1 a2)) 0 0 A := by
  refine Met.ofW (cc := cMod_set) (maxL := 3) (ret := (some .boolean)) (by decide) rfl ?_
  intro p e s m args below meth c s₁ B hml hv
  obtain ⟨rfl, hG, hK⟩ := hv
  subst hG
  have hx := B.exec
  have hb := B.bytes
  have hr := B.returns
  have hts := atoms_spec (ws := (wq yMod_set cMod_set 3 (some .boolean))) B.pre
  have hown : s.vm.findClass RMod = some m.cls := findClass_of_methodNamed B.named
  have hlocks := B.notSynchronized
  have hg : ∀ w ∈ lw_g, w.before _ s = true := fun w h => hts w (List.mem_cons_of_mem _ h)
  have hS : va_S A s.heap s.heap [] := va_S.rf
  have hl := lv_entry ([.ref m0, .int a1, .int a2]) (n := 3) (Nat.le_of_ble_eq_true rfl)
  rw [lg_entry_eq]
  generalize (lg_sl ([.ref m0, .int a1, .int a2]) ++ List.replicate (3 - (lg_sl ([.ref m0, .int a1, .int a2])).length) Slot.unset).toArray = ls at hl ⊢
  have hl : lv_has ls 3 [(0, .ref m0), (1, .int a1), (2, .int a2)] := hl
  refine lv_aload_n hx hb dMod_set_0 rfl (lv_at hl 0 rfl) ?_
  refine lv_iload_n hx hb dMod_set_1 rfl (lv_at hl 1 rfl) ?_
  refine lv_iconst (v := 0) hx hb dMod_set_2 (by decide) ?_
  refine lv_bipush (v := 31) hx hb dMod_set_3 (by decide) ?_
  refine mk_callR (va_runS (As := [.int a1, .int 0, .int 31]) (rest := [.ref m0]) ⟨hx, hb, hml, hown, hts⟩ (mc_RiscHartModel_in l _ a1 0 31) (va_cwS 3 hts (mk_gS tw_609 tw_610 tw_48 tw_611) rfl rfl rfl hdMod_in.2 ⟨Nat.le_of_ble_eq_true rfl, Nat.le_of_ble_eq_true rfl⟩) mk_preS rfl rfl hl.1 rfl (lv_room (Nat.le_of_ble_eq_true rfl)) dMod_set_5 ⟨Nat.zero_le _, Nat.zero_le _⟩) ?_
  refine lv_if_eq (tgt := 15) hx hb dMod_set_8 (by decide) (fun c_1 => ?_) (fun c_1 => ?_)
  · refine lv_iconst (v := 1) hx hb dMod_set_15 (by decide) ?_
    refine va_put (D := D) (ci := 2) (v := .int 1) (ty := .int) (C := RMod) (T := TMod) (N := 14) hx hb hg inMod tyMod tyMod_ok nmMod hown hK hP (hD _) hS 0 rfl rfl 0 (by decide) (hg _ tw_557) (fun _ h9 => h9) rfl (by decide +kernel) rfl rfl (Nat.le_of_ble_eq_true rfl) dMod_set_16 (fun H locs hP _ hS => ?_)
    have hP : va_P D hcl (ms_W cB cO cX m0 m1 m2 m3 (ms_set_code st 1)) H := hP
    refine lv_aload_n hx hb dMod_set_19 rfl (lv_at hl 0 rfl) ?_
    refine va_get (D := D) (ci := 2) (v := .int 1) (C := RMod) (T := TMod) (N := 14) hx hb hg inMod hown hK hP 0 rfl rfl 0 (by decide) (hg _ tw_557) (fun _ h9 => h9) rfl dMod_set_20 ?_
    refine lv_if_gt (tgt := 30) hx hb dMod_set_23 (by decide) (fun c_2 => ?_) (fun c_2 => ?_)
    · refine lv_iconst (v := 0) hx hb dMod_set_30 (by decide) ?_
      exact W.zret hx hb hr rfl (fun t ht hW => ⟨⟨_, (ms_set_code st 1), rfl, (by unfold mf_RiscHartModel_set; rw [if_pos c_1]), by show va_P D hcl _ t.heap; rw [ht]; exact hP⟩, hS.F ht⟩) hS.2.2 dMod_set_31
    · exact absurd c_2 (by decide)
  · refine lv_iconst (v := 0) hx hb dMod_set_11 (by decide) ?_
    refine lv_goto (tgt := 16) hx hb dMod_set_12 (by decide) ?_
    refine va_put (D := D) (ci := 2) (v := .int 0) (ty := .int) (C := RMod) (T := TMod) (N := 14) hx hb hg inMod tyMod tyMod_ok nmMod hown hK hP (hD _) hS 0 rfl rfl 0 (by decide) (hg _ tw_557) (fun _ h9 => h9) rfl (by decide +kernel) rfl rfl (Nat.le_of_ble_eq_true rfl) dMod_set_16 (fun H locs hP _ hS => ?_)
    have hP : va_P D hcl (ms_W cB cO cX m0 m1 m2 m3 (ms_set_code st 0)) H := hP
    refine lv_aload_n hx hb dMod_set_19 rfl (lv_at hl 0 rfl) ?_
    refine va_get (D := D) (ci := 2) (v := .int 0) (C := RMod) (T := TMod) (N := 14) hx hb hg inMod hown hK hP 0 rfl rfl 0 (by decide) (hg _ tw_557) (fun _ h9 => h9) rfl dMod_set_20 ?_
    refine lv_if_gt (tgt := 30) hx hb dMod_set_23 (by decide) (fun c_3 => ?_) (fun c_3 => ?_)
    · exact absurd c_3 (by decide)
    · refine lv_iload_n hx hb dMod_set_26 rfl (lv_at hl 1 rfl) ?_
      refine lv_if_ne (tgt := 32) hx hb dMod_set_27 (by decide) (fun c_4 => ?_) (fun c_4 => ?_)
      · refine lv_aload_n hx hb dMod_set_32 rfl (lv_at hl 0 rfl) ?_
        refine va_get (D := D) (ci := 2) (v := .ref m3) (C := RMod) (T := TMod) (N := 14) hx hb hg inMod hown hK hP 0 rfl rfl 3 (by decide) (hg _ tw_560) (fun _ h9 => h9) rfl dMod_set_33 ?_
        refine lv_iload_n hx hb dMod_set_36 rfl (lv_at hl 1 rfl) ?_
        refine lv_iload_n hx hb dMod_set_37 rfl (lv_at hl 2 rfl) ?_
        refine va_iast (D := D) (f := ms_x st) hx hb hK hP (hD _) hS 3 2 rfl rfl (in_mreg c_1) dMod_set_38 (fun H locs hP _ hS => ?_)
        have hP : va_P D hcl (ms_W cB cO cX m0 m1 m2 m3 (ms_set_x (ms_set_code st 0) a1 a2)) H := hP
        refine lv_iconst (v := 1) hx hb dMod_set_39 (by decide) ?_
        exact W.zret hx hb hr rfl (fun t ht hW => ⟨⟨_, (ms_set_x (ms_set_code st 0) a1 a2), rfl, (by unfold mf_RiscHartModel_set; rw [if_neg c_1, if_neg c_4]), by show va_P D hcl _ t.heap; rw [ht]; exact hP⟩, hS.F ht⟩) hS.2.2 dMod_set_40
      · refine lv_iconst (v := 0) hx hb dMod_set_30 (by decide) ?_
        exact W.zret hx hb hr rfl (fun t ht hW => ⟨⟨_, (ms_set_code st 0), rfl, (by unfold mf_RiscHartModel_set; rw [if_neg c_1, if_pos c_4]), by show va_P D hcl _ t.heap; rw [ht]; exact hP⟩, hS.F ht⟩) hS.2.2 dMod_set_31
set_option maxHeartbeats 4000000 in
set_option maxRecDepth 100000 in
theorem mc_RiscHartModel_register (l : Launch) {D : va_G} {cB cO cX : ClassId} {m0 m1 m2 m3 : Nat} {A : Nat → Prop} {st : MS} {G : Heap} (hP : va_P D hcl (ms_W cB cO cX m0 m1 m2 m3 st) G) (hD : ∀ z, va_D A (ms_W cB cO cX m0 m1 m2 m3 z)) (a1 : Int32)  : Met l yMod_register (wq yMod_register cMod_register 2 (some .int)) ({ frames := 1, cells := 0, slots := 0, locals := 22 }) (mk_PK D hcl [(cB, .int), (cO, .int), (cX, .int)] G [.ref m0, .int a1]) (mk_Wi (fun u t => va_P D hcl (ms_W cB cO cX m0 m1 m2 m3 u) t) A (mf_RiscHartModel_register st a1)) 0 0 A := by
  refine Met.ofW (cc := cMod_register) (maxL := 2) (ret := (some .int)) (by decide) rfl ?_
  intro p e s m args below meth c s₁ B hml hv
  obtain ⟨rfl, hG, hK⟩ := hv
  subst hG
  have hx := B.exec
  have hb := B.bytes
  have hr := B.returns
  have hts := atoms_spec (ws := (wq yMod_register cMod_register 2 (some .int))) B.pre
  have hown : s.vm.findClass RMod = some m.cls := findClass_of_methodNamed B.named
  have hlocks := B.notSynchronized
  have hg : ∀ w ∈ lw_g, w.before _ s = true := fun w h => hts w (List.mem_cons_of_mem _ h)
  have hS : va_S A s.heap s.heap [] := va_S.rf
  have hl := lv_entry ([.ref m0, .int a1]) (n := 2) (Nat.le_of_ble_eq_true rfl)
  rw [lg_entry_eq]
  generalize (lg_sl ([.ref m0, .int a1]) ++ List.replicate (2 - (lg_sl ([.ref m0, .int a1])).length) Slot.unset).toArray = ls at hl ⊢
  have hl : lv_has ls 2 [(0, .ref m0), (1, .int a1)] := hl
  refine lv_aload_n hx hb dMod_register_0 rfl (lv_at hl 0 rfl) ?_
  refine lv_iload_n hx hb dMod_register_1 rfl (lv_at hl 1 rfl) ?_
  refine lv_iconst (v := 0) hx hb dMod_register_2 (by decide) ?_
  refine lv_bipush (v := 31) hx hb dMod_register_3 (by decide) ?_
  refine mk_callR (va_runS (As := [.int a1, .int 0, .int 31]) (rest := [.ref m0]) ⟨hx, hb, hml, hown, hts⟩ (mc_RiscHartModel_in l _ a1 0 31) (va_cwS 3 hts (mk_gS tw_609 tw_610 tw_48 tw_611) rfl rfl rfl hdMod_in.2 ⟨Nat.le_of_ble_eq_true rfl, Nat.le_of_ble_eq_true rfl⟩) mk_preS rfl rfl hl.1 rfl (lv_room (Nat.le_of_ble_eq_true rfl)) dMod_register_5 ⟨Nat.zero_le _, Nat.zero_le _⟩) ?_
  refine lv_if_eq (tgt := 15) hx hb dMod_register_8 (by decide) (fun c_1 => ?_) (fun c_1 => ?_)
  · refine lv_iconst (v := 1) hx hb dMod_register_15 (by decide) ?_
    refine va_put (D := D) (ci := 2) (v := .int 1) (ty := .int) (C := RMod) (T := TMod) (N := 14) hx hb hg inMod tyMod tyMod_ok nmMod hown hK hP (hD _) hS 0 rfl rfl 0 (by decide) (hg _ tw_557) (fun _ h9 => h9) rfl (by decide +kernel) rfl rfl (Nat.le_of_ble_eq_true rfl) dMod_register_16 (fun H locs hP _ hS => ?_)
    have hP : va_P D hcl (ms_W cB cO cX m0 m1 m2 m3 (ms_set_code st 1)) H := hP
    refine lv_aload_n hx hb dMod_register_19 rfl (lv_at hl 0 rfl) ?_
    refine va_get (D := D) (ci := 2) (v := .int 1) (C := RMod) (T := TMod) (N := 14) hx hb hg inMod hown hK hP 0 rfl rfl 0 (by decide) (hg _ tw_557) (fun _ h9 => h9) rfl dMod_register_20 ?_
    refine lv_if_le (tgt := 30) hx hb dMod_register_23 (by decide) (fun c_2 => ?_) (fun c_2 => ?_)
    · exact absurd c_2 (by decide)
    · refine lv_iconst (v := 0) hx hb dMod_register_26 (by decide) ?_
      refine lv_goto (tgt := 36) hx hb dMod_register_27 (by decide) ?_
      exact W.iret hx hb hr (fun t ht hW => ⟨⟨_, (ms_set_code st 1), rfl, (by unfold mf_RiscHartModel_register; rw [if_pos c_1]), by show va_P D hcl _ t.heap; rw [ht]; exact hP⟩, hS.F ht⟩) hS.2.2 dMod_register_36
  · refine lv_iconst (v := 0) hx hb dMod_register_11 (by decide) ?_
    refine lv_goto (tgt := 16) hx hb dMod_register_12 (by decide) ?_
    refine va_put (D := D) (ci := 2) (v := .int 0) (ty := .int) (C := RMod) (T := TMod) (N := 14) hx hb hg inMod tyMod tyMod_ok nmMod hown hK hP (hD _) hS 0 rfl rfl 0 (by decide) (hg _ tw_557) (fun _ h9 => h9) rfl (by decide +kernel) rfl rfl (Nat.le_of_ble_eq_true rfl) dMod_register_16 (fun H locs hP _ hS => ?_)
    have hP : va_P D hcl (ms_W cB cO cX m0 m1 m2 m3 (ms_set_code st 0)) H := hP
    refine lv_aload_n hx hb dMod_register_19 rfl (lv_at hl 0 rfl) ?_
    refine va_get (D := D) (ci := 2) (v := .int 0) (C := RMod) (T := TMod) (N := 14) hx hb hg inMod hown hK hP 0 rfl rfl 0 (by decide) (hg _ tw_557) (fun _ h9 => h9) rfl dMod_register_20 ?_
    refine lv_if_le (tgt := 30) hx hb dMod_register_23 (by decide) (fun c_3 => ?_) (fun c_3 => ?_)
    · refine lv_aload_n hx hb dMod_register_30 rfl (lv_at hl 0 rfl) ?_
      refine va_get (D := D) (ci := 2) (v := .ref m3) (C := RMod) (T := TMod) (N := 14) hx hb hg inMod hown hK hP 0 rfl rfl 3 (by decide) (hg _ tw_560) (fun _ h9 => h9) rfl dMod_register_31 ?_
      refine lv_iload_n hx hb dMod_register_34 rfl (lv_at hl 1 rfl) ?_
      refine va_iald (D := D) (f := ms_x st) hx hb hK hP 3 2 rfl rfl (in_mreg c_1) dMod_register_35 ?_
      exact W.iret hx hb hr (fun t ht hW => ⟨⟨_, (ms_set_code st 0), rfl, (by unfold mf_RiscHartModel_register; rw [if_neg c_1]), by show va_P D hcl _ t.heap; rw [ht]; exact hP⟩, hS.F ht⟩) hS.2.2 dMod_register_36
    · exact absurd c_3 (by decide)
set_option maxHeartbeats 4000000 in
set_option maxRecDepth 100000 in
theorem mc_RiscHartModel_jump (l : Launch) {D : va_G} {cB cO cX : ClassId} {m0 m1 m2 m3 : Nat} {A : Nat → Prop} {st : MS} {G : Heap} (hP : va_P D hcl (ms_W cB cO cX m0 m1 m2 m3 st) G) (hD : ∀ z, va_D A (ms_W cB cO cX m0 m1 m2 m3 z)) (a1 : Int32)  : Met l yMod_jump (wq yMod_jump cMod_jump 2 none) ({ frames := 0, cells := 0, slots := 0, locals := 0 }) (mk_PK D hcl [(cB, .int), (cO, .int), (cX, .int)] G [.ref m0, .int a1]) (mk_Wv (fun u t => va_P D hcl (ms_W cB cO cX m0 m1 m2 m3 u) t) A (mf_RiscHartModel_jump st a1)) 0 0 A := by
  refine Met.ofW (cc := cMod_jump) (maxL := 2) (ret := none) (by decide) rfl ?_
  intro p e s m args below meth c s₁ B hml hv
  obtain ⟨rfl, hG, hK⟩ := hv
  subst hG
  have hx := B.exec
  have hb := B.bytes
  have hr := B.returns
  have hts := atoms_spec (ws := (wq yMod_jump cMod_jump 2 none)) B.pre
  have hown : s.vm.findClass RMod = some m.cls := findClass_of_methodNamed B.named
  have hlocks := B.notSynchronized
  have hg : ∀ w ∈ lw_g, w.before _ s = true := fun w h => hts w (List.mem_cons_of_mem _ h)
  have hS : va_S A s.heap s.heap [] := va_S.rf
  have hl := lv_entry ([.ref m0, .int a1]) (n := 2) (Nat.le_of_ble_eq_true rfl)
  rw [lg_entry_eq]
  generalize (lg_sl ([.ref m0, .int a1]) ++ List.replicate (2 - (lg_sl ([.ref m0, .int a1])).length) Slot.unset).toArray = ls at hl ⊢
  have hl : lv_has ls 2 [(0, .ref m0), (1, .int a1)] := hl
  refine lv_aload_n hx hb dMod_jump_0 rfl (lv_at hl 0 rfl) ?_
  refine lv_iconst (v := 0) hx hb dMod_jump_1 (by decide) ?_
  refine va_put (D := D) (ci := 2) (v := .int 0) (ty := .int) (C := RMod) (T := TMod) (N := 14) hx hb hg inMod tyMod tyMod_ok nmMod hown hK hP (hD _) hS 0 rfl rfl 0 (by decide) (hg _ tw_557) (fun _ h9 => h9) rfl (by decide +kernel) rfl rfl (Nat.le_of_ble_eq_true rfl) dMod_jump_2 (fun H locs hP _ hS => ?_)
  have hP : va_P D hcl (ms_W cB cO cX m0 m1 m2 m3 (ms_set_code st 0)) H := hP
  refine lv_aload_n hx hb dMod_jump_5 rfl (lv_at hl 0 rfl) ?_
  refine lv_iload_n hx hb dMod_jump_6 rfl (lv_at hl 1 rfl) ?_
  refine va_put (D := D) (ci := 2) (v := .int a1) (ty := .int) (C := RMod) (T := TMod) (N := 14) hx hb hg inMod tyMod tyMod_ok nmMod hown hK hP (hD _) hS 0 rfl rfl 4 (by decide) (hg _ tw_561) (fun _ h9 => h9) rfl (by decide +kernel) rfl rfl (Nat.le_of_ble_eq_true rfl) dMod_jump_7 (fun H locs hP _ hS => ?_)
  have hP : va_P D hcl (ms_W cB cO cX m0 m1 m2 m3 (ms_set_place (ms_set_code st 0) a1)) H := hP
  exact W.vret hx hb hr (fun t ht hW => ⟨⟨(ms_set_place (ms_set_code st 0) a1), rfl, rfl, by show va_P D hcl _ t.heap; rw [ht]; exact hP⟩, hS.F ht⟩) hS.2.2 dMod_jump_10
set_option maxHeartbeats 4000000 in
set_option maxRecDepth 100000 in
theorem mc_RiscHartModel_clock (l : Launch) {D : va_G} {cB cO cX : ClassId} {m0 m1 m2 m3 : Nat} {A : Nat → Prop} {st : MS} {G : Heap} (hP : va_P D hcl (ms_W cB cO cX m0 m1 m2 m3 st) G) (hD : ∀ z, va_D A (ms_W cB cO cX m0 m1 m2 m3 z)) (a1 : Int64)  : Met l yMod_clock (wq yMod_clock cMod_clock 3 none) ({ frames := 0, cells := 0, slots := 0, locals := 0 }) (mk_PK D hcl [(cB, .int), (cO, .int), (cX, .int)] G [.ref m0, .long a1]) (mk_Wv (fun u t => va_P D hcl (ms_W cB cO cX m0 m1 m2 m3 u) t) A (mf_RiscHartModel_clock st a1)) 0 0 A := by
  refine Met.ofW (cc := cMod_clock) (maxL := 3) (ret := none) (by decide) rfl ?_
  intro p e s m args below meth c s₁ B hml hv
  obtain ⟨rfl, hG, hK⟩ := hv
  subst hG
  have hx := B.exec
  have hb := B.bytes
  have hr := B.returns
  have hts := atoms_spec (ws := (wq yMod_clock cMod_clock 3 none)) B.pre
  have hown : s.vm.findClass RMod = some m.cls := findClass_of_methodNamed B.named
  have hlocks := B.notSynchronized
  have hg : ∀ w ∈ lw_g, w.before _ s = true := fun w h => hts w (List.mem_cons_of_mem _ h)
  have hS : va_S A s.heap s.heap [] := va_S.rf
  have hl := lv_entry ([.ref m0, .long a1]) (n := 3) (Nat.le_of_ble_eq_true rfl)
  rw [lg_entry_eq]
  generalize (lg_sl ([.ref m0, .long a1]) ++ List.replicate (3 - (lg_sl ([.ref m0, .long a1])).length) Slot.unset).toArray = ls at hl ⊢
  have hl : lv_has ls 3 [(0, .ref m0), (1, .long a1)] := hl
  refine lv_aload_n hx hb dMod_clock_0 rfl (lv_at hl 0 rfl) ?_
  refine lv_iconst (v := 0) hx hb dMod_clock_1 (by decide) ?_
  refine va_put (D := D) (ci := 2) (v := .int 0) (ty := .int) (C := RMod) (T := TMod) (N := 14) hx hb hg inMod tyMod tyMod_ok nmMod hown hK hP (hD _) hS 0 rfl rfl 0 (by decide) (hg _ tw_557) (fun _ h9 => h9) rfl (by decide +kernel) rfl rfl (Nat.le_of_ble_eq_true rfl) dMod_clock_2 (fun H locs hP _ hS => ?_)
  have hP : va_P D hcl (ms_W cB cO cX m0 m1 m2 m3 (ms_set_code st 0)) H := hP
  refine lv_aload_n hx hb dMod_clock_5 rfl (lv_at hl 0 rfl) ?_
  refine lv_lload_n hx hb dMod_clock_6 rfl (lv_at hl 1 rfl) ?_
  refine va_put (D := D) (ci := 2) (v := .long a1) (ty := .long) (C := RMod) (T := TMod) (N := 14) hx hb hg inMod tyMod tyMod_ok nmMod hown hK hP (hD _) hS 0 rfl rfl 9 (by decide) (hg _ tw_566) (fun _ h9 => h9) rfl (by decide +kernel) rfl rfl (Nat.le_of_ble_eq_true rfl) dMod_clock_7 (fun H locs hP _ hS => ?_)
  have hP : va_P D hcl (ms_W cB cO cX m0 m1 m2 m3 (ms_set_clock (ms_set_code st 0) a1)) H := hP
  exact W.vret hx hb hr (fun t ht hW => ⟨⟨(ms_set_clock (ms_set_code st 0) a1), rfl, rfl, by show va_P D hcl _ t.heap; rw [ht]; exact hP⟩, hS.F ht⟩) hS.2.2 dMod_clock_10
set_option maxHeartbeats 4000000 in
set_option maxRecDepth 100000 in
theorem mc_RiscHartModel_part (l : Launch) (G : Heap) (a1 : Int32) (a2 : Int32) (a3 : Int32)  : Met l yMod_part (wq yMod_part cMod_part 3 (some .int)) ({ frames := 0, cells := 0, slots := 0, locals := 0 }) (mk_P G [.int a1, .int a2, .int a3]) (mk_Qi G (mf_RiscHartModel_part a1 a2 a3)) 0 0 (fun _ => False) := by
  refine Met.ofW (cc := cMod_part) (maxL := 3) (ret := (some .int)) (by decide) rfl ?_
  intro p e s m args below meth c s₁ B hml hv
  obtain ⟨rfl, hG⟩ := hv
  subst hG
  have hx := B.exec
  have hb := B.bytes
  have hr := B.returns
  have hts := atoms_spec (ws := (wq yMod_part cMod_part 3 (some .int))) B.pre
  have hown : s.vm.findClass RMod = some m.cls := findClass_of_methodNamed B.named
  have hlocks := B.notSynchronized
  have hg : ∀ w ∈ lw_g, w.before _ s = true := fun w h => hts w (List.mem_cons_of_mem _ h)
  have hl := lv_entry ([.int a1, .int a2, .int a3]) (n := 3) (Nat.le_of_ble_eq_true rfl)
  rw [lg_entry_eq]
  generalize (lg_sl ([.int a1, .int a2, .int a3]) ++ List.replicate (3 - (lg_sl ([.int a1, .int a2, .int a3])).length) Slot.unset).toArray = ls at hl ⊢
  have hl : lv_has ls 3 [(0, .int a1), (1, .int a2), (2, .int a3)] := hl
  refine lv_iload_n hx hb dMod_part_0 rfl (lv_at hl 0 rfl) ?_
  refine lv_iload_n hx hb dMod_part_1 rfl (lv_at hl 1 rfl) ?_
  refine lv_iushr (v := (ja_ushr a1 a2)) hx hb dMod_part_2 rfl ?_
  refine lv_iconst (v := 1) hx hb dMod_part_3 (by decide) ?_
  refine lv_iload_n hx hb dMod_part_4 rfl (lv_at hl 2 rfl) ?_
  refine lv_ishl hx hb dMod_part_5 ?_
  refine lv_iconst (v := 1) hx hb dMod_part_6 (by decide) ?_
  refine lv_isub hx hb dMod_part_7 ?_
  refine lv_iand hx hb dMod_part_8 ?_
  exact W.iret hx hb hr (fun t ht hW => ⟨⟨_, (), rfl, rfl, ht⟩, mk_F ht⟩) (fun q h => nomatch h) dMod_part_9
set_option maxHeartbeats 4000000 in
set_option maxRecDepth 100000 in
theorem mc_RiscHartModel_bit (l : Launch) (G : Heap) (a1 : Int32) (a2 : Int32) (a3 : Int32) (a4 : Int32)  : Met l yMod_bit (wq yMod_bit cMod_bit 4 (some .int)) ({ frames := 1, cells := 0, slots := 0, locals := 22 }) (mk_P G [.int a1, .int a2, .int a3, .int a4]) (mk_Qi G (mf_RiscHartModel_bit a1 a2 a3 a4)) 0 0 (fun _ => False) := by
  refine Met.ofW (cc := cMod_bit) (maxL := 4) (ret := (some .int)) (by decide) rfl ?_
  intro p e s m args below meth c s₁ B hml hv
  obtain ⟨rfl, hG⟩ := hv
  subst hG
  have hx := B.exec
  have hb := B.bytes
  have hr := B.returns
  have hts := atoms_spec (ws := (wq yMod_bit cMod_bit 4 (some .int))) B.pre
  have hown : s.vm.findClass RMod = some m.cls := findClass_of_methodNamed B.named
  have hlocks := B.notSynchronized
  have hg : ∀ w ∈ lw_g, w.before _ s = true := fun w h => hts w (List.mem_cons_of_mem _ h)
  have hl := lv_entry ([.int a1, .int a2, .int a3, .int a4]) (n := 4) (Nat.le_of_ble_eq_true rfl)
  rw [lg_entry_eq]
  generalize (lg_sl ([.int a1, .int a2, .int a3, .int a4]) ++ List.replicate (4 - (lg_sl ([.int a1, .int a2, .int a3, .int a4])).length) Slot.unset).toArray = ls at hl ⊢
  have hl : lv_has ls 4 [(0, .int a1), (1, .int a2), (2, .int a3), (3, .int a4)] := hl
  refine lv_iload_n hx hb dMod_bit_0 rfl (lv_at hl 0 rfl) ?_
  refine lv_iload_n hx hb dMod_bit_1 rfl (lv_at hl 1 rfl) ?_
  refine lv_iload_n hx hb dMod_bit_2 rfl (lv_at hl 2 rfl) ?_
  refine mk_callR (va_runS (As := [.int a1, .int a2, .int a3]) (rest := []) ⟨hx, hb, hml, hown, hts⟩ (mc_RiscHartModel_part l s.heap a1 a2 a3) (va_cwS 3 hts (mk_gS tw_668 tw_669 tw_48 tw_670) rfl rfl rfl hdMod_part.2 ⟨Nat.le_of_ble_eq_true rfl, Nat.le_of_ble_eq_true rfl⟩) mk_preS rfl rfl hl.1 rfl (lv_room (Nat.le_of_ble_eq_true rfl)) dMod_bit_3 ⟨Nat.zero_le _, Nat.zero_le _⟩) ?_
  refine lv_iload_n hx hb dMod_bit_6 rfl (lv_at hl 3 rfl) ?_
  refine lv_ishl hx hb dMod_bit_7 ?_
  exact W.iret hx hb hr (fun t ht hW => ⟨⟨_, (), rfl, rfl, ht⟩, mk_F ht⟩) (fun q h => nomatch h) dMod_bit_8
set_option maxHeartbeats 4000000 in
set_option maxRecDepth 100000 in
theorem mc_RiscHartModel_signed (l : Launch) (G : Heap) (a1 : Int32) (a2 : Int32)  : Met l yMod_signed (wq yMod_signed cMod_signed 2 (some .int)) ({ frames := 0, cells := 0, slots := 0, locals := 0 }) (mk_P G [.int a1, .int a2]) (mk_Qi G (mf_RiscHartModel_signed a1 a2)) 0 0 (fun _ => False) := by
  refine Met.ofW (cc := cMod_signed) (maxL := 2) (ret := (some .int)) (by decide) rfl ?_
  intro p e s m args below meth c s₁ B hml hv
  obtain ⟨rfl, hG⟩ := hv
  subst hG
  have hx := B.exec
  have hb := B.bytes
  have hr := B.returns
  have hts := atoms_spec (ws := (wq yMod_signed cMod_signed 2 (some .int))) B.pre
  have hown : s.vm.findClass RMod = some m.cls := findClass_of_methodNamed B.named
  have hlocks := B.notSynchronized
  have hg : ∀ w ∈ lw_g, w.before _ s = true := fun w h => hts w (List.mem_cons_of_mem _ h)
  have hl := lv_entry ([.int a1, .int a2]) (n := 2) (Nat.le_of_ble_eq_true rfl)
  rw [lg_entry_eq]
  generalize (lg_sl ([.int a1, .int a2]) ++ List.replicate (2 - (lg_sl ([.int a1, .int a2])).length) Slot.unset).toArray = ls at hl ⊢
  have hl : lv_has ls 2 [(0, .int a1), (1, .int a2)] := hl
  refine lv_iload_n hx hb dMod_signed_0 rfl (lv_at hl 0 rfl) ?_
  refine lv_bipush (v := 32) hx hb dMod_signed_1 (by decide) ?_
  refine lv_iload_n hx hb dMod_signed_3 rfl (lv_at hl 1 rfl) ?_
  refine lv_isub hx hb dMod_signed_4 ?_
  refine lv_ishl hx hb dMod_signed_5 ?_
  refine lv_bipush (v := 32) hx hb dMod_signed_6 (by decide) ?_
  refine lv_iload_n hx hb dMod_signed_8 rfl (lv_at hl 1 rfl) ?_
  refine lv_isub hx hb dMod_signed_9 ?_
  refine lv_ishr hx hb dMod_signed_10 ?_
  exact W.iret hx hb hr (fun t ht hW => ⟨⟨_, (), rfl, rfl, ht⟩, mk_F ht⟩) (fun q h => nomatch h) dMod_signed_11
set_option maxHeartbeats 4000000 in
set_option maxRecDepth 100000 in
theorem mc_RiscHartModel_immediate (l : Launch) (G : Heap) (a1 : Int32) (a2 : Int32) (a3 : Int32) (a4 : Int32) (a5 : Int32)  : Met l yMod_immediate (wq yMod_immediate cMod_immediate 5 (some .int)) ({ frames := 0, cells := 0, slots := 0, locals := 0 }) (mk_P G [.int a1, .int a2, .int a3, .int a4, .int a5]) (mk_Qi G (mf_RiscHartModel_immediate a1 a2 a3 a4 a5)) 0 0 (fun _ => False) := by
  refine Met.ofW (cc := cMod_immediate) (maxL := 5) (ret := (some .int)) (by decide) rfl ?_
  intro p e s m args below meth c s₁ B hml hv
  obtain ⟨rfl, hG⟩ := hv
  subst hG
  have hx := B.exec
  have hb := B.bytes
  have hr := B.returns
  have hts := atoms_spec (ws := (wq yMod_immediate cMod_immediate 5 (some .int))) B.pre
  have hown : s.vm.findClass RMod = some m.cls := findClass_of_methodNamed B.named
  have hlocks := B.notSynchronized
  have hg : ∀ w ∈ lw_g, w.before _ s = true := fun w h => hts w (List.mem_cons_of_mem _ h)
  have hl := lv_entry ([.int a1, .int a2, .int a3, .int a4, .int a5]) (n := 5) (Nat.le_of_ble_eq_true rfl)
  rw [lg_entry_eq]
  generalize (lg_sl ([.int a1, .int a2, .int a3, .int a4, .int a5]) ++ List.replicate (5 - (lg_sl ([.int a1, .int a2, .int a3, .int a4, .int a5])).length) Slot.unset).toArray = ls at hl ⊢
  have hl : lv_has ls 5 [(0, .int a1), (1, .int a2), (2, .int a3), (3, .int a4), (4, .int a5)] := hl
  refine lv_iload_n hx hb dMod_immediate_0 rfl (lv_at hl 0 rfl) ?_
  refine lv_iload_n hx hb dMod_immediate_1 rfl (lv_at hl 2 rfl) ?_
  refine lv_bipush (v := 7) hx hb dMod_immediate_2 (by decide) ?_
  refine lv_ishl hx hb dMod_immediate_4 ?_
  refine lv_ior hx hb dMod_immediate_5 ?_
  refine lv_iload_n hx hb dMod_immediate_6 rfl (lv_at hl 1 rfl) ?_
  refine lv_bipush (v := 12) hx hb dMod_immediate_7 (by decide) ?_
  refine lv_ishl hx hb dMod_immediate_9 ?_
  refine lv_ior hx hb dMod_immediate_10 ?_
  refine lv_iload_n hx hb dMod_immediate_11 rfl (lv_at hl 3 rfl) ?_
  refine lv_bipush (v := 15) hx hb dMod_immediate_12 (by decide) ?_
  refine lv_ishl hx hb dMod_immediate_14 ?_
  refine lv_ior hx hb dMod_immediate_15 ?_
  refine lv_iload hx hb dMod_immediate_16 (lv_at hl 4 rfl) ?_
  refine lv_bipush (v := 20) hx hb dMod_immediate_18 (by decide) ?_
  refine lv_ishl hx hb dMod_immediate_20 ?_
  refine lv_ior hx hb dMod_immediate_21 ?_
  exact W.iret hx hb hr (fun t ht hW => ⟨⟨_, (), rfl, rfl, ht⟩, mk_F ht⟩) (fun q h => nomatch h) dMod_immediate_22
set_option maxHeartbeats 4000000 in
set_option maxRecDepth 100000 in
theorem mc_RiscHartModel_registers (l : Launch) (G : Heap) (a1 : Int32) (a2 : Int32) (a3 : Int32) (a4 : Int32) (a5 : Int32)  : Met l yMod_registers (wq yMod_registers cMod_registers 5 (some .int)) ({ frames := 0, cells := 0, slots := 0, locals := 0 }) (mk_P G [.int a1, .int a2, .int a3, .int a4, .int a5]) (mk_Qi G (mf_RiscHartModel_registers a1 a2 a3 a4 a5)) 0 0 (fun _ => False) := by
  refine Met.ofW (cc := cMod_registers) (maxL := 5) (ret := (some .int)) (by decide) rfl ?_
  intro p e s m args below meth c s₁ B hml hv
  obtain ⟨rfl, hG⟩ := hv
  subst hG
  have hx := B.exec
  have hb := B.bytes
  have hr := B.returns
  have hts := atoms_spec (ws := (wq yMod_registers cMod_registers 5 (some .int))) B.pre
  have hown : s.vm.findClass RMod = some m.cls := findClass_of_methodNamed B.named
  have hlocks := B.notSynchronized
  have hg : ∀ w ∈ lw_g, w.before _ s = true := fun w h => hts w (List.mem_cons_of_mem _ h)
  have hl := lv_entry ([.int a1, .int a2, .int a3, .int a4, .int a5]) (n := 5) (Nat.le_of_ble_eq_true rfl)
  rw [lg_entry_eq]
  generalize (lg_sl ([.int a1, .int a2, .int a3, .int a4, .int a5]) ++ List.replicate (5 - (lg_sl ([.int a1, .int a2, .int a3, .int a4, .int a5])).length) Slot.unset).toArray = ls at hl ⊢
  have hl : lv_has ls 5 [(0, .int a1), (1, .int a2), (2, .int a3), (3, .int a4), (4, .int a5)] := hl
  refine lv_bipush (v := 51) hx hb dMod_registers_0 (by decide) ?_
  refine lv_iload_n hx hb dMod_registers_2 rfl (lv_at hl 2 rfl) ?_
  refine lv_bipush (v := 7) hx hb dMod_registers_3 (by decide) ?_
  refine lv_ishl hx hb dMod_registers_5 ?_
  refine lv_ior hx hb dMod_registers_6 ?_
  refine lv_iload_n hx hb dMod_registers_7 rfl (lv_at hl 0 rfl) ?_
  refine lv_bipush (v := 12) hx hb dMod_registers_8 (by decide) ?_
  refine lv_ishl hx hb dMod_registers_10 ?_
  refine lv_ior hx hb dMod_registers_11 ?_
  refine lv_iload_n hx hb dMod_registers_12 rfl (lv_at hl 3 rfl) ?_
  refine lv_bipush (v := 15) hx hb dMod_registers_13 (by decide) ?_
  refine lv_ishl hx hb dMod_registers_15 ?_
  refine lv_ior hx hb dMod_registers_16 ?_
  refine lv_iload hx hb dMod_registers_17 (lv_at hl 4 rfl) ?_
  refine lv_bipush (v := 20) hx hb dMod_registers_19 (by decide) ?_
  refine lv_ishl hx hb dMod_registers_21 ?_
  refine lv_ior hx hb dMod_registers_22 ?_
  refine lv_iload_n hx hb dMod_registers_23 rfl (lv_at hl 1 rfl) ?_
  refine lv_bipush (v := 25) hx hb dMod_registers_24 (by decide) ?_
  refine lv_ishl hx hb dMod_registers_26 ?_
  refine lv_ior hx hb dMod_registers_27 ?_
  exact W.iret hx hb hr (fun t ht hW => ⟨⟨_, (), rfl, rfl, ht⟩, mk_F ht⟩) (fun q h => nomatch h) dMod_registers_28
set_option maxHeartbeats 4000000 in
set_option maxRecDepth 100000 in
theorem mc_RiscHartModel_store (l : Launch) (G : Heap) (a1 : Int32) (a2 : Int32) (a3 : Int32)  : Met l yMod_store (wq yMod_store cMod_store 3 (some .int)) ({ frames := 2, cells := 0, slots := 0, locals := 45 }) (mk_P G [.int a1, .int a2, .int a3]) (mk_Qi G (mf_RiscHartModel_store a1 a2 a3)) 0 0 (fun _ => False) := by
  refine Met.ofW (cc := cMod_store) (maxL := 3) (ret := (some .int)) (by decide) rfl ?_
  intro p e s m args below meth c s₁ B hml hv
  obtain ⟨rfl, hG⟩ := hv
  subst hG
  have hx := B.exec
  have hb := B.bytes
  have hr := B.returns
  have hts := atoms_spec (ws := (wq yMod_store cMod_store 3 (some .int))) B.pre
  have hown : s.vm.findClass RMod = some m.cls := findClass_of_methodNamed B.named
  have hlocks := B.notSynchronized
  have hg : ∀ w ∈ lw_g, w.before _ s = true := fun w h => hts w (List.mem_cons_of_mem _ h)
  have hl := lv_entry ([.int a1, .int a2, .int a3]) (n := 3) (Nat.le_of_ble_eq_true rfl)
  rw [lg_entry_eq]
  generalize (lg_sl ([.int a1, .int a2, .int a3]) ++ List.replicate (3 - (lg_sl ([.int a1, .int a2, .int a3])).length) Slot.unset).toArray = ls at hl ⊢
  have hl : lv_has ls 3 [(0, .int a1), (1, .int a2), (2, .int a3)] := hl
  refine lv_bipush (v := 35) hx hb dMod_store_0 (by decide) ?_
  refine lv_iload_n hx hb dMod_store_2 rfl (lv_at hl 2 rfl) ?_
  refine lv_iconst (v := 0) hx hb dMod_store_3 (by decide) ?_
  refine lv_iconst (v := 5) hx hb dMod_store_4 (by decide) ?_
  refine lv_bipush (v := 7) hx hb dMod_store_5 (by decide) ?_
  refine mk_callR (va_runS (As := [.int a3, .int 0, .int 5, .int 7]) (rest := [.int 35]) ⟨hx, hb, hml, hown, hts⟩ (mc_RiscHartModel_bit l s.heap a3 0 5 7) (va_cwS 4 hts (mk_gS tw_674 tw_675 tw_48 tw_676) rfl rfl rfl hdMod_bit.2 ⟨Nat.le_of_ble_eq_true rfl, Nat.le_of_ble_eq_true rfl⟩) mk_preS rfl rfl hl.1 rfl (lv_room (Nat.le_of_ble_eq_true rfl)) dMod_store_7 ⟨Nat.zero_le _, Nat.zero_le _⟩) ?_
  refine lv_ior hx hb dMod_store_10 ?_
  refine lv_sipush (v := 8192) hx hb dMod_store_11 (by decide) ?_
  refine lv_ior hx hb dMod_store_14 ?_
  refine lv_iload_n hx hb dMod_store_15 rfl (lv_at hl 0 rfl) ?_
  refine lv_bipush (v := 15) hx hb dMod_store_16 (by decide) ?_
  refine lv_ishl hx hb dMod_store_18 ?_
  refine lv_ior hx hb dMod_store_19 ?_
  refine lv_iload_n hx hb dMod_store_20 rfl (lv_at hl 1 rfl) ?_
  refine lv_bipush (v := 20) hx hb dMod_store_21 (by decide) ?_
  refine lv_ishl hx hb dMod_store_23 ?_
  refine lv_ior hx hb dMod_store_24 ?_
  refine lv_iload_n hx hb dMod_store_25 rfl (lv_at hl 2 rfl) ?_
  refine lv_iconst (v := 5) hx hb dMod_store_26 (by decide) ?_
  refine lv_bipush (v := 7) hx hb dMod_store_27 (by decide) ?_
  refine lv_bipush (v := 25) hx hb dMod_store_29 (by decide) ?_
  refine mk_callR (va_runS (As := [.int a3, .int 5, .int 7, .int 25]) (rest := [.int (((((35 : Int32) ||| (mf_RiscHartModel_bit a3 0 5 7)) ||| (8192 : Int32)) ||| (a1 <<< (15 &&& 31))) ||| (a2 <<< (20 &&& 31)))]) ⟨hx, hb, hml, hown, hts⟩ (mc_RiscHartModel_bit l s.heap a3 5 7 25) (va_cwS 4 hts (mk_gS tw_674 tw_675 tw_48 tw_676) rfl rfl rfl hdMod_bit.2 ⟨Nat.le_of_ble_eq_true rfl, Nat.le_of_ble_eq_true rfl⟩) mk_preS rfl rfl hl.1 rfl (lv_room (Nat.le_of_ble_eq_true rfl)) dMod_store_31 ⟨Nat.zero_le _, Nat.zero_le _⟩) ?_
  refine lv_ior hx hb dMod_store_34 ?_
  exact W.iret hx hb hr (fun t ht hW => ⟨⟨_, (), rfl, rfl, ht⟩, mk_F ht⟩) (fun q h => nomatch h) dMod_store_35
set_option maxHeartbeats 4000000 in
set_option maxRecDepth 100000 in
theorem mc_RiscHartModel_link (l : Launch) (G : Heap) (a1 : Int32) (a2 : Int32)  : Met l yMod_link (wq yMod_link cMod_link 2 (some .int)) ({ frames := 2, cells := 0, slots := 0, locals := 45 }) (mk_P G [.int a1, .int a2]) (mk_Qi G (mf_RiscHartModel_link a1 a2)) 0 0 (fun _ => False) := by
  refine Met.ofW (cc := cMod_link) (maxL := 2) (ret := (some .int)) (by decide) rfl ?_
  intro p e s m args below meth c s₁ B hml hv
  obtain ⟨rfl, hG⟩ := hv
  subst hG
  have hx := B.exec
  have hb := B.bytes
  have hr := B.returns
  have hts := atoms_spec (ws := (wq yMod_link cMod_link 2 (some .int))) B.pre
  have hown : s.vm.findClass RMod = some m.cls := findClass_of_methodNamed B.named
  have hlocks := B.notSynchronized
  have hg : ∀ w ∈ lw_g, w.before _ s = true := fun w h => hts w (List.mem_cons_of_mem _ h)
  have hl := lv_entry ([.int a1, .int a2]) (n := 2) (Nat.le_of_ble_eq_true rfl)
  rw [lg_entry_eq]
  generalize (lg_sl ([.int a1, .int a2]) ++ List.replicate (2 - (lg_sl ([.int a1, .int a2])).length) Slot.unset).toArray = ls at hl ⊢
  have hl : lv_has ls 2 [(0, .int a1), (1, .int a2)] := hl
  refine lv_bipush (v := 111) hx hb dMod_link_0 (by decide) ?_
  refine lv_iload_n hx hb dMod_link_2 rfl (lv_at hl 0 rfl) ?_
  refine lv_bipush (v := 7) hx hb dMod_link_3 (by decide) ?_
  refine lv_ishl hx hb dMod_link_5 ?_
  refine lv_ior hx hb dMod_link_6 ?_
  refine lv_iload_n hx hb dMod_link_7 rfl (lv_at hl 1 rfl) ?_
  refine lv_bipush (v := 12) hx hb dMod_link_8 (by decide) ?_
  refine lv_bipush (v := 8) hx hb dMod_link_10 (by decide) ?_
  refine lv_bipush (v := 12) hx hb dMod_link_12 (by decide) ?_
  refine mk_callR (va_runS (As := [.int a2, .int 12, .int 8, .int 12]) (rest := [.int ((111 : Int32) ||| (a1 <<< (7 &&& 31)))]) ⟨hx, hb, hml, hown, hts⟩ (mc_RiscHartModel_bit l s.heap a2 12 8 12) (va_cwS 4 hts (mk_gS tw_674 tw_675 tw_48 tw_676) rfl rfl rfl hdMod_bit.2 ⟨Nat.le_of_ble_eq_true rfl, Nat.le_of_ble_eq_true rfl⟩) mk_preS rfl rfl hl.1 rfl (lv_room (Nat.le_of_ble_eq_true rfl)) dMod_link_14 ⟨Nat.zero_le _, Nat.zero_le _⟩) ?_
  refine lv_ior hx hb dMod_link_17 ?_
  refine lv_iload_n hx hb dMod_link_18 rfl (lv_at hl 1 rfl) ?_
  refine lv_bipush (v := 11) hx hb dMod_link_19 (by decide) ?_
  refine lv_iconst (v := 1) hx hb dMod_link_21 (by decide) ?_
  refine lv_bipush (v := 20) hx hb dMod_link_22 (by decide) ?_
  refine mk_callR (va_runS (As := [.int a2, .int 11, .int 1, .int 20]) (rest := [.int (((111 : Int32) ||| (a1 <<< (7 &&& 31))) ||| (mf_RiscHartModel_bit a2 12 8 12))]) ⟨hx, hb, hml, hown, hts⟩ (mc_RiscHartModel_bit l s.heap a2 11 1 20) (va_cwS 4 hts (mk_gS tw_674 tw_675 tw_48 tw_676) rfl rfl rfl hdMod_bit.2 ⟨Nat.le_of_ble_eq_true rfl, Nat.le_of_ble_eq_true rfl⟩) mk_preS rfl rfl hl.1 rfl (lv_room (Nat.le_of_ble_eq_true rfl)) dMod_link_24 ⟨Nat.zero_le _, Nat.zero_le _⟩) ?_
  refine lv_ior hx hb dMod_link_27 ?_
  refine lv_iload_n hx hb dMod_link_28 rfl (lv_at hl 1 rfl) ?_
  refine lv_iconst (v := 1) hx hb dMod_link_29 (by decide) ?_
  refine lv_bipush (v := 10) hx hb dMod_link_30 (by decide) ?_
  refine lv_bipush (v := 21) hx hb dMod_link_32 (by decide) ?_
  refine mk_callR (va_runS (As := [.int a2, .int 1, .int 10, .int 21]) (rest := [.int ((((111 : Int32) ||| (a1 <<< (7 &&& 31))) ||| (mf_RiscHartModel_bit a2 12 8 12)) ||| (mf_RiscHartModel_bit a2 11 1 20))]) ⟨hx, hb, hml, hown, hts⟩ (mc_RiscHartModel_bit l s.heap a2 1 10 21) (va_cwS 4 hts (mk_gS tw_674 tw_675 tw_48 tw_676) rfl rfl rfl hdMod_bit.2 ⟨Nat.le_of_ble_eq_true rfl, Nat.le_of_ble_eq_true rfl⟩) mk_preS rfl rfl hl.1 rfl (lv_room (Nat.le_of_ble_eq_true rfl)) dMod_link_34 ⟨Nat.zero_le _, Nat.zero_le _⟩) ?_
  refine lv_ior hx hb dMod_link_37 ?_
  refine lv_iload_n hx hb dMod_link_38 rfl (lv_at hl 1 rfl) ?_
  refine lv_bipush (v := 20) hx hb dMod_link_39 (by decide) ?_
  refine lv_iconst (v := 1) hx hb dMod_link_41 (by decide) ?_
  refine lv_bipush (v := 31) hx hb dMod_link_42 (by decide) ?_
  refine mk_callR (va_runS (As := [.int a2, .int 20, .int 1, .int 31]) (rest := [.int (((((111 : Int32) ||| (a1 <<< (7 &&& 31))) ||| (mf_RiscHartModel_bit a2 12 8 12)) ||| (mf_RiscHartModel_bit a2 11 1 20)) ||| (mf_RiscHartModel_bit a2 1 10 21))]) ⟨hx, hb, hml, hown, hts⟩ (mc_RiscHartModel_bit l s.heap a2 20 1 31) (va_cwS 4 hts (mk_gS tw_674 tw_675 tw_48 tw_676) rfl rfl rfl hdMod_bit.2 ⟨Nat.le_of_ble_eq_true rfl, Nat.le_of_ble_eq_true rfl⟩) mk_preS rfl rfl hl.1 rfl (lv_room (Nat.le_of_ble_eq_true rfl)) dMod_link_44 ⟨Nat.zero_le _, Nat.zero_le _⟩) ?_
  refine lv_ior hx hb dMod_link_47 ?_
  exact W.iret hx hb hr (fun t ht hW => ⟨⟨_, (), rfl, rfl, ht⟩, mk_F ht⟩) (fun q h => nomatch h) dMod_link_48
set_option maxHeartbeats 4000000 in
set_option maxRecDepth 100000 in
theorem mc_RiscHartModel_branch (l : Launch) (G : Heap) (a1 : Int32) (a2 : Int32) (a3 : Int32)  : Met l yMod_branch (wq yMod_branch cMod_branch 3 (some .int)) ({ frames := 2, cells := 0, slots := 0, locals := 45 }) (mk_P G [.int a1, .int a2, .int a3]) (mk_Qi G (mf_RiscHartModel_branch a1 a2 a3)) 0 0 (fun _ => False) := by
  refine Met.ofW (cc := cMod_branch) (maxL := 3) (ret := (some .int)) (by decide) rfl ?_
  intro p e s m args below meth c s₁ B hml hv
  obtain ⟨rfl, hG⟩ := hv
  subst hG
  have hx := B.exec
  have hb := B.bytes
  have hr := B.returns
  have hts := atoms_spec (ws := (wq yMod_branch cMod_branch 3 (some .int))) B.pre
  have hown : s.vm.findClass RMod = some m.cls := findClass_of_methodNamed B.named
  have hlocks := B.notSynchronized
  have hg : ∀ w ∈ lw_g, w.before _ s = true := fun w h => hts w (List.mem_cons_of_mem _ h)
  have hl := lv_entry ([.int a1, .int a2, .int a3]) (n := 3) (Nat.le_of_ble_eq_true rfl)
  rw [lg_entry_eq]
  generalize (lg_sl ([.int a1, .int a2, .int a3]) ++ List.replicate (3 - (lg_sl ([.int a1, .int a2, .int a3])).length) Slot.unset).toArray = ls at hl ⊢
  have hl : lv_has ls 3 [(0, .int a1), (1, .int a2), (2, .int a3)] := hl
  refine lv_bipush (v := 99) hx hb dMod_branch_0 (by decide) ?_
  refine lv_iload_n hx hb dMod_branch_2 rfl (lv_at hl 2 rfl) ?_
  refine lv_bipush (v := 11) hx hb dMod_branch_3 (by decide) ?_
  refine lv_iconst (v := 1) hx hb dMod_branch_5 (by decide) ?_
  refine lv_bipush (v := 7) hx hb dMod_branch_6 (by decide) ?_
  refine mk_callR (va_runS (As := [.int a3, .int 11, .int 1, .int 7]) (rest := [.int 99]) ⟨hx, hb, hml, hown, hts⟩ (mc_RiscHartModel_bit l s.heap a3 11 1 7) (va_cwS 4 hts (mk_gS tw_674 tw_675 tw_48 tw_676) rfl rfl rfl hdMod_bit.2 ⟨Nat.le_of_ble_eq_true rfl, Nat.le_of_ble_eq_true rfl⟩) mk_preS rfl rfl hl.1 rfl (lv_room (Nat.le_of_ble_eq_true rfl)) dMod_branch_8 ⟨Nat.zero_le _, Nat.zero_le _⟩) ?_
  refine lv_ior hx hb dMod_branch_11 ?_
  refine lv_iload_n hx hb dMod_branch_12 rfl (lv_at hl 2 rfl) ?_
  refine lv_iconst (v := 1) hx hb dMod_branch_13 (by decide) ?_
  refine lv_iconst (v := 4) hx hb dMod_branch_14 (by decide) ?_
  refine lv_bipush (v := 8) hx hb dMod_branch_15 (by decide) ?_
  refine mk_callR (va_runS (As := [.int a3, .int 1, .int 4, .int 8]) (rest := [.int ((99 : Int32) ||| (mf_RiscHartModel_bit a3 11 1 7))]) ⟨hx, hb, hml, hown, hts⟩ (mc_RiscHartModel_bit l s.heap a3 1 4 8) (va_cwS 4 hts (mk_gS tw_674 tw_675 tw_48 tw_676) rfl rfl rfl hdMod_bit.2 ⟨Nat.le_of_ble_eq_true rfl, Nat.le_of_ble_eq_true rfl⟩) mk_preS rfl rfl hl.1 rfl (lv_room (Nat.le_of_ble_eq_true rfl)) dMod_branch_17 ⟨Nat.zero_le _, Nat.zero_le _⟩) ?_
  refine lv_ior hx hb dMod_branch_20 ?_
  refine lv_iload_n hx hb dMod_branch_21 rfl (lv_at hl 0 rfl) ?_
  refine lv_bipush (v := 12) hx hb dMod_branch_22 (by decide) ?_
  refine lv_ishl hx hb dMod_branch_24 ?_
  refine lv_ior hx hb dMod_branch_25 ?_
  refine lv_iload_n hx hb dMod_branch_26 rfl (lv_at hl 1 rfl) ?_
  refine lv_bipush (v := 15) hx hb dMod_branch_27 (by decide) ?_
  refine lv_ishl hx hb dMod_branch_29 ?_
  refine lv_ior hx hb dMod_branch_30 ?_
  refine lv_iload_n hx hb dMod_branch_31 rfl (lv_at hl 2 rfl) ?_
  refine lv_iconst (v := 5) hx hb dMod_branch_32 (by decide) ?_
  refine lv_bipush (v := 6) hx hb dMod_branch_33 (by decide) ?_
  refine lv_bipush (v := 25) hx hb dMod_branch_35 (by decide) ?_
  refine mk_callR (va_runS (As := [.int a3, .int 5, .int 6, .int 25]) (rest := [.int (((((99 : Int32) ||| (mf_RiscHartModel_bit a3 11 1 7)) ||| (mf_RiscHartModel_bit a3 1 4 8)) ||| (a1 <<< (12 &&& 31))) ||| (a2 <<< (15 &&& 31)))]) ⟨hx, hb, hml, hown, hts⟩ (mc_RiscHartModel_bit l s.heap a3 5 6 25) (va_cwS 4 hts (mk_gS tw_674 tw_675 tw_48 tw_676) rfl rfl rfl hdMod_bit.2 ⟨Nat.le_of_ble_eq_true rfl, Nat.le_of_ble_eq_true rfl⟩) mk_preS rfl rfl hl.1 rfl (lv_room (Nat.le_of_ble_eq_true rfl)) dMod_branch_37 ⟨Nat.zero_le _, Nat.zero_le _⟩) ?_
  refine lv_ior hx hb dMod_branch_40 ?_
  refine lv_iload_n hx hb dMod_branch_41 rfl (lv_at hl 2 rfl) ?_
  refine lv_bipush (v := 12) hx hb dMod_branch_42 (by decide) ?_
  refine lv_iconst (v := 1) hx hb dMod_branch_44 (by decide) ?_
  refine lv_bipush (v := 31) hx hb dMod_branch_45 (by decide) ?_
  refine mk_callR (va_runS (As := [.int a3, .int 12, .int 1, .int 31]) (rest := [.int ((((((99 : Int32) ||| (mf_RiscHartModel_bit a3 11 1 7)) ||| (mf_RiscHartModel_bit a3 1 4 8)) ||| (a1 <<< (12 &&& 31))) ||| (a2 <<< (15 &&& 31))) ||| (mf_RiscHartModel_bit a3 5 6 25))]) ⟨hx, hb, hml, hown, hts⟩ (mc_RiscHartModel_bit l s.heap a3 12 1 31) (va_cwS 4 hts (mk_gS tw_674 tw_675 tw_48 tw_676) rfl rfl rfl hdMod_bit.2 ⟨Nat.le_of_ble_eq_true rfl, Nat.le_of_ble_eq_true rfl⟩) mk_preS rfl rfl hl.1 rfl (lv_room (Nat.le_of_ble_eq_true rfl)) dMod_branch_47 ⟨Nat.zero_le _, Nat.zero_le _⟩) ?_
  refine lv_ior hx hb dMod_branch_50 ?_
  exact W.iret hx hb hr (fun t ht hW => ⟨⟨_, (), rfl, rfl, ht⟩, mk_F ht⟩) (fun q h => nomatch h) dMod_branch_51
set_option maxHeartbeats 4000000 in
set_option maxRecDepth 100000 in
theorem mc_RiscHartModel_zero (l : Launch) (G : Heap) (a1 : Int32) (a2 : Int32)  : Met l yMod_zero (wq yMod_zero cMod_zero 6 (some .int)) ({ frames := 3, cells := 0, slots := 0, locals := 67 }) (mk_P G [.int a1, .int a2]) (mk_Qi G (mf_RiscHartModel_zero a1 a2)) 0 0 (fun _ => False) := by
  refine Met.ofW (cc := cMod_zero) (maxL := 6) (ret := (some .int)) (by decide) rfl ?_
  intro p e s m args below meth c s₁ B hml hv
  obtain ⟨rfl, hG⟩ := hv
  subst hG
  have hx := B.exec
  have hb := B.bytes
  have hr := B.returns
  have hts := atoms_spec (ws := (wq yMod_zero cMod_zero 6 (some .int))) B.pre
  have hown : s.vm.findClass RMod = some m.cls := findClass_of_methodNamed B.named
  have hlocks := B.notSynchronized
  have hg : ∀ w ∈ lw_g, w.before _ s = true := fun w h => hts w (List.mem_cons_of_mem _ h)
  have hl := lv_entry ([.int a1, .int a2]) (n := 6) (Nat.le_of_ble_eq_true rfl)
  rw [lg_entry_eq]
  generalize (lg_sl ([.int a1, .int a2]) ++ List.replicate (6 - (lg_sl ([.int a1, .int a2])).length) Slot.unset).toArray = ls at hl ⊢
  have hl : lv_has ls 6 [(0, .int a1), (1, .int a2)] := hl
  refine lv_bipush (v := 8) hx hb dMod_zero_0 (by decide) ?_
  refine lv_iload_n hx hb dMod_zero_2 rfl (lv_at hl 0 rfl) ?_
  refine lv_iconst (v := 2) hx hb dMod_zero_3 (by decide) ?_
  refine lv_iconst (v := 3) hx hb dMod_zero_4 (by decide) ?_
  refine mk_callR (va_runS (As := [.int a1, .int 2, .int 3]) (rest := [.int 8]) ⟨hx, hb, hml, hown, hts⟩ (mc_RiscHartModel_part l s.heap a1 2 3) (va_cwS 3 hts (mk_gS tw_668 tw_669 tw_48 tw_670) rfl rfl rfl hdMod_part.2 ⟨Nat.le_of_ble_eq_true rfl, Nat.le_of_ble_eq_true rfl⟩) mk_preS rfl rfl hl.1 rfl (lv_room (Nat.le_of_ble_eq_true rfl)) dMod_zero_5 ⟨Nat.zero_le _, Nat.zero_le _⟩) ?_
  refine lv_iadd hx hb dMod_zero_8 ?_
  refine lv_istore_n (lv' := [(2, .int (8 + (mf_RiscHartModel_part a1 2 3))), (0, .int a1), (1, .int a2)]) hx hb dMod_zero_9 rfl hl (by decide) rfl (fun ls hl => ?_)
  refine lv_bipush (v := 8) hx hb dMod_zero_10 (by decide) ?_
  refine lv_iload_n hx hb dMod_zero_12 rfl (lv_at hl 1 rfl) ?_
  refine lv_bipush (v := 7) hx hb dMod_zero_13 (by decide) ?_
  refine lv_iconst (v := 3) hx hb dMod_zero_15 (by decide) ?_
  refine mk_callR (va_runS (As := [.int a1, .int 7, .int 3]) (rest := [.int 8]) ⟨hx, hb, hml, hown, hts⟩ (mc_RiscHartModel_part l s.heap a1 7 3) (va_cwS 3 hts (mk_gS tw_668 tw_669 tw_48 tw_670) rfl rfl rfl hdMod_part.2 ⟨Nat.le_of_ble_eq_true rfl, Nat.le_of_ble_eq_true rfl⟩) mk_preS rfl rfl hl.1 rfl (lv_room (Nat.le_of_ble_eq_true rfl)) dMod_zero_16 ⟨Nat.zero_le _, Nat.zero_le _⟩) ?_
  refine lv_iadd hx hb dMod_zero_19 ?_
  refine lv_istore_n (lv' := [(3, .int (8 + (mf_RiscHartModel_part a1 7 3))), (2, .int (8 + (mf_RiscHartModel_part a1 2 3))), (0, .int a1), (1, .int a2)]) hx hb dMod_zero_20 rfl hl (by decide) rfl (fun ls hl => ?_)
  refine lv_iload_n hx hb dMod_zero_21 rfl (lv_at hl 2 rfl) ?_
  refine lv_bipush (v := 10) hx hb dMod_zero_22 (by decide) ?_
  refine lv_iconst (v := 3) hx hb dMod_zero_24 (by decide) ?_
  refine lv_iconst (v := 3) hx hb dMod_zero_25 (by decide) ?_
  refine mk_callR (va_runS (As := [.int a1, .int 10, .int 3, .int 3]) (rest := []) ⟨hx, hb, hml, hown, hts⟩ (mc_RiscHartModel_bit l s.heap a1 10 3 3) (va_cwS 4 hts (mk_gS tw_674 tw_675 tw_48 tw_676) rfl rfl rfl hdMod_bit.2 ⟨Nat.le_of_ble_eq_true rfl, Nat.le_of_ble_eq_true rfl⟩) mk_preS rfl rfl hl.1 rfl (lv_room (Nat.le_of_ble_eq_true rfl)) dMod_zero_26 ⟨Nat.zero_le _, Nat.zero_le _⟩) ?_
  refine lv_iload_n hx hb dMod_zero_29 rfl (lv_at hl 2 rfl) ?_
  refine lv_bipush (v := 6) hx hb dMod_zero_30 (by decide) ?_
  refine lv_iconst (v := 1) hx hb dMod_zero_32 (by decide) ?_
  refine lv_iconst (v := 2) hx hb dMod_zero_33 (by decide) ?_
  refine mk_callR (va_runS (As := [.int a1, .int 6, .int 1, .int 2]) (rest := [.int (mf_RiscHartModel_bit a1 10 3 3)]) ⟨hx, hb, hml, hown, hts⟩ (mc_RiscHartModel_bit l s.heap a1 6 1 2) (va_cwS 4 hts (mk_gS tw_674 tw_675 tw_48 tw_676) rfl rfl rfl hdMod_bit.2 ⟨Nat.le_of_ble_eq_true rfl, Nat.le_of_ble_eq_true rfl⟩) mk_preS rfl rfl hl.1 rfl (lv_room (Nat.le_of_ble_eq_true rfl)) dMod_zero_34 ⟨Nat.zero_le _, Nat.zero_le _⟩) ?_
  refine lv_ior hx hb dMod_zero_37 ?_
  refine lv_iload_n hx hb dMod_zero_38 rfl (lv_at hl 2 rfl) ?_
  refine lv_iconst (v := 5) hx hb dMod_zero_39 (by decide) ?_
  refine lv_iconst (v := 1) hx hb dMod_zero_40 (by decide) ?_
  refine lv_bipush (v := 6) hx hb dMod_zero_41 (by decide) ?_
  refine mk_callR (va_runS (As := [.int a1, .int 5, .int 1, .int 6]) (rest := [.int ((mf_RiscHartModel_bit a1 10 3 3) ||| (mf_RiscHartModel_bit a1 6 1 2))]) ⟨hx, hb, hml, hown, hts⟩ (mc_RiscHartModel_bit l s.heap a1 5 1 6) (va_cwS 4 hts (mk_gS tw_674 tw_675 tw_48 tw_676) rfl rfl rfl hdMod_bit.2 ⟨Nat.le_of_ble_eq_true rfl, Nat.le_of_ble_eq_true rfl⟩) mk_preS rfl rfl hl.1 rfl (lv_room (Nat.le_of_ble_eq_true rfl)) dMod_zero_43 ⟨Nat.zero_le _, Nat.zero_le _⟩) ?_
  refine lv_ior hx hb dMod_zero_46 ?_
  refine lv_istore (lv' := [(4, .int (((mf_RiscHartModel_bit a1 10 3 3) ||| (mf_RiscHartModel_bit a1 6 1 2)) ||| (mf_RiscHartModel_bit a1 5 1 6))), (3, .int (8 + (mf_RiscHartModel_part a1 7 3))), (2, .int (8 + (mf_RiscHartModel_part a1 2 3))), (0, .int a1), (1, .int a2)]) hx hb dMod_zero_47 hl (by decide) rfl (fun ls hl => ?_)
  refine lv_iload_n hx hb dMod_zero_49 rfl (lv_at hl 3 rfl) ?_
  refine lv_bipush (v := 11) hx hb dMod_zero_50 (by decide) ?_
  refine lv_iconst (v := 2) hx hb dMod_zero_52 (by decide) ?_
  refine lv_iconst (v := 4) hx hb dMod_zero_53 (by decide) ?_
  refine mk_callR (va_runS (As := [.int a1, .int 11, .int 2, .int 4]) (rest := []) ⟨hx, hb, hml, hown, hts⟩ (mc_RiscHartModel_bit l s.heap a1 11 2 4) (va_cwS 4 hts (mk_gS tw_674 tw_675 tw_48 tw_676) rfl rfl rfl hdMod_bit.2 ⟨Nat.le_of_ble_eq_true rfl, Nat.le_of_ble_eq_true rfl⟩) mk_preS rfl rfl hl.1 rfl (lv_room (Nat.le_of_ble_eq_true rfl)) dMod_zero_54 ⟨Nat.zero_le _, Nat.zero_le _⟩) ?_
  refine lv_iload_n hx hb dMod_zero_57 rfl (lv_at hl 3 rfl) ?_
  refine lv_bipush (v := 7) hx hb dMod_zero_58 (by decide) ?_
  refine lv_iconst (v := 4) hx hb dMod_zero_60 (by decide) ?_
  refine lv_bipush (v := 6) hx hb dMod_zero_61 (by decide) ?_
  refine mk_callR (va_runS (As := [.int a1, .int 7, .int 4, .int 6]) (rest := [.int (mf_RiscHartModel_bit a1 11 2 4)]) ⟨hx, hb, hml, hown, hts⟩ (mc_RiscHartModel_bit l s.heap a1 7 4 6) (va_cwS 4 hts (mk_gS tw_674 tw_675 tw_48 tw_676) rfl rfl rfl hdMod_bit.2 ⟨Nat.le_of_ble_eq_true rfl, Nat.le_of_ble_eq_true rfl⟩) mk_preS rfl rfl hl.1 rfl (lv_room (Nat.le_of_ble_eq_true rfl)) dMod_zero_63 ⟨Nat.zero_le _, Nat.zero_le _⟩) ?_
  refine lv_ior hx hb dMod_zero_66 ?_
  refine lv_iload_n hx hb dMod_zero_67 rfl (lv_at hl 3 rfl) ?_
  refine lv_bipush (v := 6) hx hb dMod_zero_68 (by decide) ?_
  refine lv_iconst (v := 1) hx hb dMod_zero_70 (by decide) ?_
  refine lv_iconst (v := 2) hx hb dMod_zero_71 (by decide) ?_
  refine mk_callR (va_runS (As := [.int a1, .int 6, .int 1, .int 2]) (rest := [.int ((mf_RiscHartModel_bit a1 11 2 4) ||| (mf_RiscHartModel_bit a1 7 4 6))]) ⟨hx, hb, hml, hown, hts⟩ (mc_RiscHartModel_bit l s.heap a1 6 1 2) (va_cwS 4 hts (mk_gS tw_674 tw_675 tw_48 tw_676) rfl rfl rfl hdMod_bit.2 ⟨Nat.le_of_ble_eq_true rfl, Nat.le_of_ble_eq_true rfl⟩) mk_preS rfl rfl hl.1 rfl (lv_room (Nat.le_of_ble_eq_true rfl)) dMod_zero_72 ⟨Nat.zero_le _, Nat.zero_le _⟩) ?_
  refine lv_ior hx hb dMod_zero_75 ?_
  refine lv_iload_n hx hb dMod_zero_76 rfl (lv_at hl 3 rfl) ?_
  refine lv_iconst (v := 5) hx hb dMod_zero_77 (by decide) ?_
  refine lv_iconst (v := 1) hx hb dMod_zero_78 (by decide) ?_
  refine lv_iconst (v := 3) hx hb dMod_zero_79 (by decide) ?_
  refine mk_callR (va_runS (As := [.int a1, .int 5, .int 1, .int 3]) (rest := [.int (((mf_RiscHartModel_bit a1 11 2 4) ||| (mf_RiscHartModel_bit a1 7 4 6)) ||| (mf_RiscHartModel_bit a1 6 1 2))]) ⟨hx, hb, hml, hown, hts⟩ (mc_RiscHartModel_bit l s.heap a1 5 1 3) (va_cwS 4 hts (mk_gS tw_674 tw_675 tw_48 tw_676) rfl rfl rfl hdMod_bit.2 ⟨Nat.le_of_ble_eq_true rfl, Nat.le_of_ble_eq_true rfl⟩) mk_preS rfl rfl hl.1 rfl (lv_room (Nat.le_of_ble_eq_true rfl)) dMod_zero_80 ⟨Nat.zero_le _, Nat.zero_le _⟩) ?_
  refine lv_ior hx hb dMod_zero_83 ?_
  refine lv_istore (lv' := [(5, .int ((((mf_RiscHartModel_bit a1 11 2 4) ||| (mf_RiscHartModel_bit a1 7 4 6)) ||| (mf_RiscHartModel_bit a1 6 1 2)) ||| (mf_RiscHartModel_bit a1 5 1 3))), (4, .int (((mf_RiscHartModel_bit a1 10 3 3) ||| (mf_RiscHartModel_bit a1 6 1 2)) ||| (mf_RiscHartModel_bit a1 5 1 6))), (3, .int (8 + (mf_RiscHartModel_part a1 7 3))), (2, .int (8 + (mf_RiscHartModel_part a1 2 3))), (0, .int a1), (1, .int a2)]) hx hb dMod_zero_84 hl (by decide) rfl (fun ls hl => ?_)
  refine lv_iload_n hx hb dMod_zero_86 rfl (lv_at hl 5 rfl) ?_
  refine lv_if_ne (tgt := 110) hx hb dMod_zero_87 (by decide) (fun c_1 => ?_) (fun c_1 => ?_)
  · refine lv_iload_n hx hb dMod_zero_110 rfl (lv_at hl 5 rfl) ?_
    refine lv_iconst (v := 2) hx hb dMod_zero_111 (by decide) ?_
    refine lv_icmp_ne (tgt := 127) hx hb dMod_zero_112 (by decide) (fun c_2 => ?_) (fun c_2 => ?_)
    · refine lv_iload_n hx hb dMod_zero_127 rfl (lv_at hl 5 rfl) ?_
      refine lv_bipush (v := 6) hx hb dMod_zero_128 (by decide) ?_
      refine lv_icmp_ne (tgt := 143) hx hb dMod_zero_130 (by decide) (fun c_3 => ?_) (fun c_3 => ?_)
      · refine lv_iconst (v := 0) hx hb dMod_zero_143 (by decide) ?_
        exact W.iret hx hb hr (fun t ht hW => ⟨⟨_, (), rfl, (by unfold mf_RiscHartModel_zero; rw [if_neg c_1, if_neg c_2, if_neg c_3]), ht⟩, mk_F ht⟩) (fun q h => nomatch h) dMod_zero_144
      · refine lv_iload_n hx hb dMod_zero_133 rfl (lv_at hl 2 rfl) ?_
        refine lv_iload_n hx hb dMod_zero_134 rfl (lv_at hl 3 rfl) ?_
        refine lv_iload hx hb dMod_zero_135 (lv_at hl 1 rfl) ?_
        refine mk_callR (va_runS (As := [.int (8 + (mf_RiscHartModel_part a1 7 3)), .int (8 + (mf_RiscHartModel_part a1 2 3)), .int (((mf_RiscHartModel_bit a1 10 3 3) ||| (mf_RiscHartModel_bit a1 6 1 2)) ||| (mf_RiscHartModel_bit a1 5 1 6))]) (rest := []) ⟨hx, hb, hml, hown, hts⟩ (mc_RiscHartModel_store l s.heap (8 + (mf_RiscHartModel_part a1 7 3)) (8 + (mf_RiscHartModel_part a1 2 3)) (((mf_RiscHartModel_bit a1 10 3 3) ||| (mf_RiscHartModel_bit a1 6 1 2)) ||| (mf_RiscHartModel_bit a1 5 1 6))) (va_cwS 3 hts (mk_gS tw_680 tw_681 tw_48 tw_682) rfl rfl rfl hdMod_store.2 ⟨Nat.le_of_ble_eq_true rfl, Nat.le_of_ble_eq_true rfl⟩) mk_preS rfl rfl hl.1 rfl (lv_room (Nat.le_of_ble_eq_true rfl)) dMod_zero_137 ⟨Nat.zero_le _, Nat.zero_le _⟩) ?_
        refine lv_goto (tgt := 144) hx hb dMod_zero_140 (by decide) ?_
        exact W.iret hx hb hr (fun t ht hW => ⟨⟨_, (), rfl, (by unfold mf_RiscHartModel_zero; rw [if_neg c_1, if_neg c_2, if_pos c_3]), ht⟩, mk_F ht⟩) (fun q h => nomatch h) dMod_zero_144
    · refine lv_iconst (v := 3) hx hb dMod_zero_115 (by decide) ?_
      refine lv_iconst (v := 2) hx hb dMod_zero_116 (by decide) ?_
      refine lv_iload_n hx hb dMod_zero_117 rfl (lv_at hl 3 rfl) ?_
      refine lv_iload_n hx hb dMod_zero_118 rfl (lv_at hl 2 rfl) ?_
      refine lv_iload hx hb dMod_zero_119 (lv_at hl 1 rfl) ?_
      refine mk_callR (va_runS (As := [.int 3, .int 2, .int (8 + (mf_RiscHartModel_part a1 2 3)), .int (8 + (mf_RiscHartModel_part a1 7 3)), .int (((mf_RiscHartModel_bit a1 10 3 3) ||| (mf_RiscHartModel_bit a1 6 1 2)) ||| (mf_RiscHartModel_bit a1 5 1 6))]) (rest := []) ⟨hx, hb, hml, hown, hts⟩ (mc_RiscHartModel_immediate l s.heap 3 2 (8 + (mf_RiscHartModel_part a1 2 3)) (8 + (mf_RiscHartModel_part a1 7 3)) (((mf_RiscHartModel_bit a1 10 3 3) ||| (mf_RiscHartModel_bit a1 6 1 2)) ||| (mf_RiscHartModel_bit a1 5 1 6))) (va_cwS 5 hts (mk_gS tw_677 tw_678 tw_48 tw_679) rfl rfl rfl hdMod_immediate.2 ⟨Nat.le_of_ble_eq_true rfl, Nat.le_of_ble_eq_true rfl⟩) mk_preS rfl rfl hl.1 rfl (lv_room (Nat.le_of_ble_eq_true rfl)) dMod_zero_121 ⟨Nat.zero_le _, Nat.zero_le _⟩) ?_
      refine lv_goto (tgt := 144) hx hb dMod_zero_124 (by decide) ?_
      exact W.iret hx hb hr (fun t ht hW => ⟨⟨_, (), rfl, (by unfold mf_RiscHartModel_zero; rw [if_neg c_1, if_pos c_2]), ht⟩, mk_F ht⟩) (fun q h => nomatch h) dMod_zero_144
  · refine lv_iload hx hb dMod_zero_90 (lv_at hl 0 rfl) ?_
    refine lv_if_ne (tgt := 99) hx hb dMod_zero_92 (by decide) (fun c_4 => ?_) (fun c_4 => ?_)
    · refine lv_bipush (v := 19) hx hb dMod_zero_99 (by decide) ?_
      refine lv_iconst (v := 0) hx hb dMod_zero_101 (by decide) ?_
      refine lv_iload_n hx hb dMod_zero_102 rfl (lv_at hl 3 rfl) ?_
      refine lv_iconst (v := 2) hx hb dMod_zero_103 (by decide) ?_
      refine lv_iload hx hb dMod_zero_104 (lv_at hl 0 rfl) ?_
      refine mk_callR (va_runS (As := [.int 19, .int 0, .int (8 + (mf_RiscHartModel_part a1 2 3)), .int 2, .int ((((mf_RiscHartModel_bit a1 11 2 4) ||| (mf_RiscHartModel_bit a1 7 4 6)) ||| (mf_RiscHartModel_bit a1 6 1 2)) ||| (mf_RiscHartModel_bit a1 5 1 3))]) (rest := []) ⟨hx, hb, hml, hown, hts⟩ (mc_RiscHartModel_immediate l s.heap 19 0 (8 + (mf_RiscHartModel_part a1 2 3)) 2 ((((mf_RiscHartModel_bit a1 11 2 4) ||| (mf_RiscHartModel_bit a1 7 4 6)) ||| (mf_RiscHartModel_bit a1 6 1 2)) ||| (mf_RiscHartModel_bit a1 5 1 3))) (va_cwS 5 hts (mk_gS tw_677 tw_678 tw_48 tw_679) rfl rfl rfl hdMod_immediate.2 ⟨Nat.le_of_ble_eq_true rfl, Nat.le_of_ble_eq_true rfl⟩) mk_preS rfl rfl hl.1 rfl (lv_room (Nat.le_of_ble_eq_true rfl)) dMod_zero_106 ⟨Nat.zero_le _, Nat.zero_le _⟩) ?_
      exact W.iret hx hb hr (fun t ht hW => ⟨⟨_, (), rfl, (by unfold mf_RiscHartModel_zero; rw [if_pos c_1, if_neg c_4]), ht⟩, mk_F ht⟩) (fun q h => nomatch h) dMod_zero_109
    · refine lv_iconst (v := 0) hx hb dMod_zero_95 (by decide) ?_
      refine lv_goto (tgt := 109) hx hb dMod_zero_96 (by decide) ?_
      exact W.iret hx hb hr (fun t ht hW => ⟨⟨_, (), rfl, (by unfold mf_RiscHartModel_zero; rw [if_pos c_1, if_pos c_4]), ht⟩, mk_F ht⟩) (fun q h => nomatch h) dMod_zero_109
