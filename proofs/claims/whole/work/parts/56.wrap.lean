set_option maxHeartbeats 4000000 in
set_option maxRecDepth 100000 in
theorem lc_poke (l : Launch) (htr : l.stackTraces = false) {D : va_G} {cR cW cP : ClassId} {h0 h1 h2 h3 h4 : Nat} {A : Nat → Prop} {st : HS} {G : Heap} (hP : va_P D hcl (hs_W cR cW cP h0 h1 h2 h3 h4 st) G) (hD : ∀ z, va_D A (hs_W cR cW cP h0 h1 h2 h3 h4 z)) (a1 : Int32) (a2 : Int32) : Met l yLaw_poke (wh yLaw_poke cLaw_poke 4 (some .int) [(0, 6, 9, 13)]) ({ frames := 7, cells := 1, slots := 6, locals := 104 }) (mk_PZ D hcl [(cR, .int), (cW, .int), (cP, .int)] G [.ref h0, .int a1, .int a2]) (mk_Wi (S := HS) (fun u t => va_P D hcl (hs_W cR cW cP h0 h1 h2 h3 h4 u) t) A (lf_poke st a1 a2)) 1 6 A := by
  refine va_MetW (cc := cLaw_poke) (maxL := 4) (ret := some .int) (hh := [(0, 6, 9, 13)]) (by decide) rfl ?_
  intro p e s m args below meth c s₁ B hml hv
  obtain ⟨rfl, hG, hK, hZ⟩ := hv
  subst hG
  have hx := B.exec
  have hb := B.bytes
  have hr := B.returns
  have hts := atoms_spec (ws := wh yLaw_poke cLaw_poke 4 (some .int) [(0, 6, 9, 13)]) B.pre
  have hown : s.vm.findClass RLaw = some m.cls := findClass_of_methodNamed B.named
  have hlocks := B.notSynchronized
  have hg : ∀ w ∈ lw_g, w.before _ s = true := fun w h => hts w (List.mem_cons_of_mem _ h)
  have hS : va_S A s.heap s.heap [] := va_S.rf
  have htab : c.exceptionTable.toList = [⟨0, 6, 9, 13⟩] := th_tab (ws := wh yLaw_poke cLaw_poke 4 (some .int) [(0, 6, 9, 13)]) rfl B
  have hl := lv_entry ([.ref h0, .int a1, .int a2]) (n := 4) (Nat.le_of_ble_eq_true rfl)
  rw [lg_entry_eq]
  generalize (lg_sl ([.ref h0, .int a1, .int a2]) ++ List.replicate (4 - (lg_sl ([.ref h0, .int a1, .int a2])).length) Slot.unset).toArray = ls at hl ⊢
  have hl : lv_has ls 4 [(0, .ref h0), (1, .int a1), (2, .int a2)] := hl
  refine lv_aload_n hx hb dLaw_poke_0 rfl (lv_at hl 0 rfl) ?_
  refine lv_iload_n hx hb dLaw_poke_1 rfl (lv_at hl 1 rfl) ?_
  refine lv_iload_n hx hb dLaw_poke_2 rfl (lv_at hl 2 rfl) ?_
  by_cases hok : (¬ (hf_Memory_holds a1) = 0)
  · have hn1 := hok
    refine mk_callWv (va_runV (As := [.int a1, .int a2]) (rest := []) ⟨hx, hb, hml, hown, hts⟩ (hc_RiscHart_poke l hP hD a1 a2 hn1) (cwV 2 hts (mk_gV tw_403 tw_404 tw_405 tw_46 tw_406) rfl rfl rfl hdHart_poke ⟨Nat.le_of_ble_eq_true rfl, Nat.le_of_ble_eq_true rfl⟩) (mk_preVK hK (va_recv hK hP (ci := 0) (q0 := 0) rfl rfl)) rfl rfl hl.1 rfl (lv_room (Nat.le_of_ble_eq_true rfl)) dLaw_poke_3 ⟨Nat.zero_le _, Nat.zero_le _⟩) hS (fun H locs hP hS => ?_)
    refine lv_goto (tgt := 12) hx hb dLaw_poke_6 (by decide) ?_
    refine lv_iconst (v := 0) hx hb dLaw_poke_12 (by decide) ?_
    refine W.widen (k := 1) (n := 6) (by decide) (by decide) ?_
    exact W.iret hx hb hr (fun t ht hW => ⟨⟨_, (hf_RiscHart_poke st a1 a2), rfl, (by unfold lf_poke; rw [if_pos hok]; rfl), by show va_P D hcl _ t.heap; rw [ht]; exact hP⟩, hS.F ht⟩) hS.2.2 dLaw_poke_13
  · refine th_catchV (As := [.int a1, .int a2]) (b := h0) (rest := []) ⟨hx, hb, hml, hown, hts⟩ (hx_RiscHart_poke l htr h0 a1 a2 (sp_poke hok)) (cwV 2 hts (mk_gV tw_403 tw_404 tw_405 tw_46 tw_406) rfl rfl rfl hdHart_poke ⟨Nat.le_of_ble_eq_true rfl, Nat.le_of_ble_eq_true rfl⟩) (mk_preVZ hK hZ (va_recv hK hP (ci := 0) (q0 := 0) rfl rfl)) rfl hl.1 (Nat.le_of_ble_eq_true rfl) dLaw_poke_3 ⟨Nat.le_of_ble_eq_true rfl, Nat.le_of_ble_eq_true rfl⟩ (hg _ tw_402) (th_cast hZ (w := .castable eI eI) (by decide)) htab (by decide) (by decide) (by decide) (fun a H1 hz hk => ?_)
    have hP1 : va_P D hcl (hs_W cR cW cP h0 h1 h2 h3 h4 st) H1 := hP.kept (fun k q hq => hk q.1 (hP k q hq).lt)
    have hS1 : va_S A s.heap H1 [] := ⟨hz, fun q h1 _ => hk q h1, fun _ h => nomatch h⟩
    refine lv_astore_n (lv' := [(3, .ref a), (0, .ref h0), (1, .int a1), (2, .int a2)]) hx hb dLaw_poke_9 rfl hl (by decide) rfl (fun ls hl => ?_)
    refine lv_iconst (v := 1) hx hb dLaw_poke_10 (by decide) ?_
    exact W.iret hx hb hr (fun t ht hW => ⟨⟨_, st, rfl, (by unfold lf_poke; rw [if_neg hok]), by show va_P D hcl _ t.heap; rw [ht]; exact hP1⟩, hS1.F ht⟩) hS1.2.2 dLaw_poke_11
set_option maxHeartbeats 4000000 in
set_option maxRecDepth 100000 in
theorem lc_plant (l : Launch) (htr : l.stackTraces = false) {D : va_G} {cR cW cP : ClassId} {h0 h1 h2 h3 h4 : Nat} {A : Nat → Prop} {st : HS} {G : Heap} (hP : va_P D hcl (hs_W cR cW cP h0 h1 h2 h3 h4 st) G) (hD : ∀ z, va_D A (hs_W cR cW cP h0 h1 h2 h3 h4 z)) (a1 : Int32) (a2 : Int32) : Met l yLaw_plant (wh yLaw_plant cLaw_plant 4 (some .int) [(0, 6, 9, 13)]) ({ frames := 7, cells := 1, slots := 6, locals := 104 }) (mk_PZ D hcl [(cR, .int), (cW, .int), (cP, .int)] G [.ref h0, .int a1, .int a2]) (mk_Wi (S := HS) (fun u t => va_P D hcl (hs_W cR cW cP h0 h1 h2 h3 h4 u) t) A (lf_plant st a1 a2)) 1 6 A := by
  refine va_MetW (cc := cLaw_plant) (maxL := 4) (ret := some .int) (hh := [(0, 6, 9, 13)]) (by decide) rfl ?_
  intro p e s m args below meth c s₁ B hml hv
  obtain ⟨rfl, hG, hK, hZ⟩ := hv
  subst hG
  have hx := B.exec
  have hb := B.bytes
  have hr := B.returns
  have hts := atoms_spec (ws := wh yLaw_plant cLaw_plant 4 (some .int) [(0, 6, 9, 13)]) B.pre
  have hown : s.vm.findClass RLaw = some m.cls := findClass_of_methodNamed B.named
  have hlocks := B.notSynchronized
  have hg : ∀ w ∈ lw_g, w.before _ s = true := fun w h => hts w (List.mem_cons_of_mem _ h)
  have hS : va_S A s.heap s.heap [] := va_S.rf
  have htab : c.exceptionTable.toList = [⟨0, 6, 9, 13⟩] := th_tab (ws := wh yLaw_plant cLaw_plant 4 (some .int) [(0, 6, 9, 13)]) rfl B
  have hl := lv_entry ([.ref h0, .int a1, .int a2]) (n := 4) (Nat.le_of_ble_eq_true rfl)
  rw [lg_entry_eq]
  generalize (lg_sl ([.ref h0, .int a1, .int a2]) ++ List.replicate (4 - (lg_sl ([.ref h0, .int a1, .int a2])).length) Slot.unset).toArray = ls at hl ⊢
  have hl : lv_has ls 4 [(0, .ref h0), (1, .int a1), (2, .int a2)] := hl
  refine lv_aload_n hx hb dLaw_plant_0 rfl (lv_at hl 0 rfl) ?_
  refine lv_iload_n hx hb dLaw_plant_1 rfl (lv_at hl 1 rfl) ?_
  refine lv_iload_n hx hb dLaw_plant_2 rfl (lv_at hl 2 rfl) ?_
  by_cases hok : (¬ (hf_Memory_holds a1) = 0) ∧ ((hf_Memory_isMisaligned 2 a1) = 0)
  · obtain ⟨hn1, hn2⟩ := id hok
    refine mk_callWv (va_runV (As := [.int a1, .int a2]) (rest := []) ⟨hx, hb, hml, hown, hts⟩ (hc_RiscHart_plant l hP hD a1 a2 hn1 hn2) (cwV 2 hts (mk_gV tw_478 tw_479 tw_480 tw_46 tw_481) rfl rfl rfl hdHart_plant ⟨Nat.le_of_ble_eq_true rfl, Nat.le_of_ble_eq_true rfl⟩) (mk_preVK hK (va_recv hK hP (ci := 0) (q0 := 0) rfl rfl)) rfl rfl hl.1 rfl (lv_room (Nat.le_of_ble_eq_true rfl)) dLaw_plant_3 ⟨Nat.zero_le _, Nat.zero_le _⟩) hS (fun H locs hP hS => ?_)
    refine lv_goto (tgt := 12) hx hb dLaw_plant_6 (by decide) ?_
    refine lv_iconst (v := 0) hx hb dLaw_plant_12 (by decide) ?_
    refine W.widen (k := 1) (n := 6) (by decide) (by decide) ?_
    exact W.iret hx hb hr (fun t ht hW => ⟨⟨_, (hf_RiscHart_plant st a1 a2), rfl, (by unfold lf_plant; rw [if_pos hok]; rfl), by show va_P D hcl _ t.heap; rw [ht]; exact hP⟩, hS.F ht⟩) hS.2.2 dLaw_plant_13
  · refine th_catchV (As := [.int a1, .int a2]) (b := h0) (rest := []) ⟨hx, hb, hml, hown, hts⟩ (hx_RiscHart_plant l htr h0 a1 a2 (sp_plant hok)) (cwV 2 hts (mk_gV tw_478 tw_479 tw_480 tw_46 tw_481) rfl rfl rfl hdHart_plant ⟨Nat.le_of_ble_eq_true rfl, Nat.le_of_ble_eq_true rfl⟩) (mk_preVZ hK hZ (va_recv hK hP (ci := 0) (q0 := 0) rfl rfl)) rfl hl.1 (Nat.le_of_ble_eq_true rfl) dLaw_plant_3 ⟨Nat.le_of_ble_eq_true rfl, Nat.le_of_ble_eq_true rfl⟩ (hg _ tw_402) (th_cast hZ (w := .castable eI eI) (by decide)) htab (by decide) (by decide) (by decide) (fun a H1 hz hk => ?_)
    have hP1 : va_P D hcl (hs_W cR cW cP h0 h1 h2 h3 h4 st) H1 := hP.kept (fun k q hq => hk q.1 (hP k q hq).lt)
    have hS1 : va_S A s.heap H1 [] := ⟨hz, fun q h1 _ => hk q h1, fun _ h => nomatch h⟩
    refine lv_astore_n (lv' := [(3, .ref a), (0, .ref h0), (1, .int a1), (2, .int a2)]) hx hb dLaw_plant_9 rfl hl (by decide) rfl (fun ls hl => ?_)
    refine lv_iconst (v := 1) hx hb dLaw_plant_10 (by decide) ?_
    exact W.iret hx hb hr (fun t ht hW => ⟨⟨_, st, rfl, (by unfold lf_plant; rw [if_neg hok]), by show va_P D hcl _ t.heap; rw [ht]; exact hP1⟩, hS1.F ht⟩) hS1.2.2 dLaw_plant_11
set_option maxHeartbeats 4000000 in
set_option maxRecDepth 100000 in
theorem lc_peek (l : Launch) (htr : l.stackTraces = false) {D : va_G} {cR cW cP cO : ClassId} {h0 h1 h2 h3 h4 o0 : Nat} {A : Nat → Prop} {st : HS} {f : Nat → Int64} {G : Heap} (hP : va_P D hcl (wo_W cR cW cP cO h0 h1 h2 h3 h4 o0 st f) G) (hD : ∀ z f, va_D A (wo_W cR cW cP cO h0 h1 h2 h3 h4 o0 z f)) (a1 : Int32) : Met l yLaw_peek (wh yLaw_peek cLaw_peek 4 (some .int) [(0, 9, 12, 13)]) ({ frames := 7, cells := 1, slots := 6, locals := 103 }) (mk_PZ D hcl [(cR, .int), (cW, .int), (cP, .int), (cO, .long)] G [.ref h0, .int a1, .ref o0]) (mk_Wi (S := HS × (Nat → Int64)) (fun u t => va_P D hcl (wo_W cR cW cP cO h0 h1 h2 h3 h4 o0 u.1 u.2) t) A (lf_peek st f a1)) 1 6 A := by
  refine va_MetW (cc := cLaw_peek) (maxL := 4) (ret := some .int) (hh := [(0, 9, 12, 13)]) (by decide) rfl ?_
  intro p e s m args below meth c s₁ B hml hv
  obtain ⟨rfl, hG, hK4, hZ⟩ := hv
  subst hG
  have hx := B.exec
  have hb := B.bytes
  have hr := B.returns
  have hts := atoms_spec (ws := wh yLaw_peek cLaw_peek 4 (some .int) [(0, 9, 12, 13)]) B.pre
  have hown : s.vm.findClass RLaw = some m.cls := findClass_of_methodNamed B.named
  have hlocks := B.notSynchronized
  have hg : ∀ w ∈ lw_g, w.before _ s = true := fun w h => hts w (List.mem_cons_of_mem _ h)
  have hS : va_S A s.heap s.heap [] := va_S.rf
  have htab : c.exceptionTable.toList = [⟨0, 9, 12, 13⟩] := th_tab (ws := wh yLaw_peek cLaw_peek 4 (some .int) [(0, 9, 12, 13)]) rfl B
  have hK : va_K D hcl [(cR, .int), (cW, .int), (cP, .int)] s := hK4.sub [0, 1, 2] rfl
  have hPh : va_P D hcl (hs_W cR cW cP h0 h1 h2 h3 h4 st) s.heap := hP.sub [0, 1, 2, 3, 4] rfl
  have hDh := AH_of (wo_hs (hD st f))
  have hl := lv_entry ([.ref h0, .int a1, .ref o0]) (n := 4) (Nat.le_of_ble_eq_true rfl)
  rw [lg_entry_eq]
  generalize (lg_sl ([.ref h0, .int a1, .ref o0]) ++ List.replicate (4 - (lg_sl ([.ref h0, .int a1, .ref o0])).length) Slot.unset).toArray = ls at hl ⊢
  have hl : lv_has ls 4 [(0, .ref h0), (1, .int a1), (2, .ref o0)] := hl
  refine lv_aload_n hx hb dLaw_peek_0 rfl (lv_at hl 2 rfl) ?_
  refine lv_iconst (v := 0) hx hb dLaw_peek_1 (by decide) ?_
  refine lv_aload_n hx hb dLaw_peek_2 rfl (lv_at hl 0 rfl) ?_
  refine lv_iload_n hx hb dLaw_peek_3 rfl (lv_at hl 1 rfl) ?_
  by_cases hok : (¬ (hf_Memory_holds a1) = 0)
  · have hn1 := hok
    refine mk_callR (va_runV (As := [.int a1]) (rest := [.int 0, .ref o0]) ⟨hx, hb, hml, hown, hts⟩ (hc_RiscHart_peek l hPh a1 hn1) (cwV 1 hts (mk_gV tw_486 tw_487 tw_488 tw_46 tw_489) rfl rfl rfl hdHart_peek ⟨Nat.le_of_ble_eq_true rfl, Nat.le_of_ble_eq_true rfl⟩) (mk_preVK hK (va_recv hK hPh (ci := 0) (q0 := 0) rfl rfl)) rfl rfl hl.1 rfl (lv_room (Nat.le_of_ble_eq_true rfl)) dLaw_peek_4 ⟨Nat.zero_le _, Nat.zero_le _⟩) ?_
    refine lv_i2l (v := (hf_RiscHart_peek st a1).toInt64) hx hb dLaw_peek_7 rfl ?_
    refine va_last (D := D) (f := f) (x := (hf_RiscHart_peek st a1).toInt64) hx hb hK4 hP (hD _ _) hS 5 3 rfl rfl (in_k (by decide)) dLaw_peek_8 (fun H locs hP _ hS => ?_)
    have hP : va_P D hcl (wo_W cR cW cP cO h0 h1 h2 h3 h4 o0 st (vp_updL f 0 ((hf_RiscHart_peek st a1).toInt64))) H := hP
    refine lv_goto (tgt := 15) hx hb dLaw_peek_9 (by decide) ?_
    refine lv_iconst (v := 0) hx hb dLaw_peek_15 (by decide) ?_
    refine W.widen (k := 1) (n := 6) (by decide) (by decide) ?_
    exact W.iret hx hb hr (fun t ht hW => ⟨⟨_, (st, vp_updL f 0 ((hf_RiscHart_peek st a1).toInt64)), rfl, (by unfold lf_peek; rw [if_pos hok]; rfl), by show va_P D hcl _ t.heap; rw [ht]; exact hP⟩, hS.F ht⟩) hS.2.2 dLaw_peek_16
  · refine th_catchV (As := [.int a1]) (b := h0) (rest := [.int 0, .ref o0]) ⟨hx, hb, hml, hown, hts⟩ (hx_RiscHart_peek l htr h0 a1 (sp_peek hok)) (cwV 1 hts (mk_gV tw_486 tw_487 tw_488 tw_46 tw_489) rfl rfl rfl hdHart_peek ⟨Nat.le_of_ble_eq_true rfl, Nat.le_of_ble_eq_true rfl⟩) (mk_preVZ hK hZ (va_recv hK hPh (ci := 0) (q0 := 0) rfl rfl)) rfl hl.1 (Nat.le_of_ble_eq_true rfl) dLaw_peek_4 ⟨Nat.le_of_ble_eq_true rfl, Nat.le_of_ble_eq_true rfl⟩ (hg _ tw_402) (th_cast hZ (w := .castable eI eI) (by decide)) htab (by decide) (by decide) (by decide) (fun a H1 hz hk => ?_)
    have hP1 : va_P D hcl (wo_W cR cW cP cO h0 h1 h2 h3 h4 o0 st f) H1 := hP.kept (fun k q hq => hk q.1 (hP k q hq).lt)
    have hS1 : va_S A s.heap H1 [] := ⟨hz, fun q h1 _ => hk q h1, fun _ h => nomatch h⟩
    refine lv_astore_n (lv' := [(3, .ref a), (0, .ref h0), (1, .int a1), (2, .ref o0)]) hx hb dLaw_peek_12 rfl hl (by decide) rfl (fun ls hl => ?_)
    refine lv_iconst (v := 1) hx hb dLaw_peek_13 (by decide) ?_
    exact W.iret hx hb hr (fun t ht hW => ⟨⟨_, (st, f), rfl, (by unfold lf_peek; rw [if_neg hok]), by show va_P D hcl _ t.heap; rw [ht]; exact hP1⟩, hS1.F ht⟩) hS1.2.2 dLaw_peek_14
set_option maxHeartbeats 4000000 in
set_option maxRecDepth 100000 in
theorem lc_rights (l : Launch) (htr : l.stackTraces = false) {D : va_G} {cR cW cP cO : ClassId} {h0 h1 h2 h3 h4 o0 : Nat} {A : Nat → Prop} {st : HS} {f : Nat → Int64} {G : Heap} (hP : va_P D hcl (wo_W cR cW cP cO h0 h1 h2 h3 h4 o0 st f) G) (hD : ∀ z f, va_D A (wo_W cR cW cP cO h0 h1 h2 h3 h4 o0 z f)) (a1 : Int32) (a2 : Int32) : Met l yLaw_rights (wh yLaw_rights cLaw_rights 5 (some .int) [(0, 10, 13, 26)]) ({ frames := 7, cells := 1, slots := 6, locals := 104 }) (mk_PZ D hcl [(cR, .int), (cW, .int), (cP, .int), (cO, .long)] G [.ref h0, .int a1, .int a2, .ref o0]) (mk_Wi (S := HS × (Nat → Int64)) (fun u t => va_P D hcl (wo_W cR cW cP cO h0 h1 h2 h3 h4 o0 u.1 u.2) t) A (lf_rights st f a1 a2)) 1 6 A := by
  refine va_MetW (cc := cLaw_rights) (maxL := 5) (ret := some .int) (hh := [(0, 10, 13, 26)]) (by decide) rfl ?_
  intro p e s m args below meth c s₁ B hml hv
  obtain ⟨rfl, hG, hK4, hZ⟩ := hv
  subst hG
  have hx := B.exec
  have hb := B.bytes
  have hr := B.returns
  have hts := atoms_spec (ws := wh yLaw_rights cLaw_rights 5 (some .int) [(0, 10, 13, 26)]) B.pre
  have hown : s.vm.findClass RLaw = some m.cls := findClass_of_methodNamed B.named
  have hlocks := B.notSynchronized
  have hg : ∀ w ∈ lw_g, w.before _ s = true := fun w h => hts w (List.mem_cons_of_mem _ h)
  have hS : va_S A s.heap s.heap [] := va_S.rf
  have htab : c.exceptionTable.toList = [⟨0, 10, 13, 26⟩] := th_tab (ws := wh yLaw_rights cLaw_rights 5 (some .int) [(0, 10, 13, 26)]) rfl B
  have hK : va_K D hcl [(cR, .int), (cW, .int), (cP, .int)] s := hK4.sub [0, 1, 2] rfl
  have hPh : va_P D hcl (hs_W cR cW cP h0 h1 h2 h3 h4 st) s.heap := hP.sub [0, 1, 2, 3, 4] rfl
  have hDh := AH_of (wo_hs (hD st f))
  have hl := lv_entry ([.ref h0, .int a1, .int a2, .ref o0]) (n := 5) (Nat.le_of_ble_eq_true rfl)
  rw [lg_entry_eq]
  generalize (lg_sl ([.ref h0, .int a1, .int a2, .ref o0]) ++ List.replicate (5 - (lg_sl ([.ref h0, .int a1, .int a2, .ref o0])).length) Slot.unset).toArray = ls at hl ⊢
  have hl : lv_has ls 5 [(0, .ref h0), (1, .int a1), (2, .int a2), (3, .ref o0)] := hl
  refine lv_aload_n hx hb dLaw_rights_0 rfl (lv_at hl 3 rfl) ?_
  refine lv_iconst (v := 0) hx hb dLaw_rights_1 (by decide) ?_
  refine lv_aload_n hx hb dLaw_rights_2 rfl (lv_at hl 0 rfl) ?_
  refine lv_iload_n hx hb dLaw_rights_3 rfl (lv_at hl 1 rfl) ?_
  refine lv_iload_n hx hb dLaw_rights_4 rfl (lv_at hl 2 rfl) ?_
  by_cases hok : (¬ a1 < 0) ∧ (a1 < 64) ∧ (¬ a2 < 0) ∧ (a2 ≤ 7)
  · obtain ⟨hn1, hn2, hn3, hn4⟩ := id hok
    refine va_calli (post := fun r u => (r, u) = (hf_RiscHart_rights st a1 a2)) (B := fun u t => va_P D hcl (hs_W cR cW cP h0 h1 h2 h3 h4 u) t.heap) (va_runV (As := [.int a1, .int a2]) (rest := [.int 0, .ref o0]) ⟨hx, hb, hml, hown, hts⟩ (hc_RiscHart_rights l hPh hDh a1 a2 hn1 hn2 hn3 hn4) (cwV 2 hts (mk_gV tw_494 tw_495 tw_496 tw_46 tw_497) rfl rfl rfl hdHart_rights ⟨Nat.le_of_ble_eq_true rfl, Nat.le_of_ble_eq_true rfl⟩) (mk_preVK hK (va_recv hK hPh (ci := 0) (q0 := 0) rfl rfl)) rfl rfl hl.1 rfl (lv_room (Nat.le_of_ble_eq_true rfl)) dLaw_rights_5 ⟨Nat.zero_le _, Nat.zero_le _⟩) hS (fun q _ h => wo_A (hD st f) h) (fun q h => wo_A (hD st f) h) (fun r u t H1 locs1 ht _ hw hB _ hk hS => ?_)
    have hw : (r, u) = (hf_RiscHart_rights st a1 a2) := hw
    have er : r = (hf_RiscHart_rights st a1 a2).1 := congrArg Prod.fst hw
    have eu : u = (hf_RiscHart_rights st a1 a2).2 := congrArg Prod.snd hw
    have hB : va_P D hcl (hs_W cR cW cP h0 h1 h2 h3 h4 u) t.heap := hB
    rw [ht] at hB
    have hP := wo_join hP (hD st f) hB hk
    clear hPh hB
    subst er
    subst eu
    refine lv_i2l (v := (hf_RiscHart_rights st a1 a2).1.toInt64) hx hb dLaw_rights_8 rfl ?_
    refine va_last (D := D) (f := f) (x := (hf_RiscHart_rights st a1 a2).1.toInt64) hx hb hK4 hP (hD _ _) hS 5 3 rfl rfl (in_k (by decide)) dLaw_rights_9 (fun H locs hP _ hS => ?_)
    have hP : va_P D hcl (wo_W cR cW cP cO h0 h1 h2 h3 h4 o0 (hf_RiscHart_rights st a1 a2).2 (vp_updL f 0 ((hf_RiscHart_rights st a1 a2).1.toInt64))) H := hP
    refine lv_goto (tgt := 17) hx hb dLaw_rights_10 (by decide) ?_
    refine lv_iconst (v := 0) hx hb dLaw_rights_17 (by decide) ?_
    refine W.widen (k := 1) (n := 6) (by decide) (by decide) ?_
    exact W.iret hx hb hr (fun t ht hW => ⟨⟨_, ((hf_RiscHart_rights st a1 a2).2, vp_updL f 0 ((hf_RiscHart_rights st a1 a2).1.toInt64)), rfl, (by unfold lf_rights; rw [if_pos hok]; rfl), by show va_P D hcl _ t.heap; rw [ht]; exact hP⟩, hS.F ht⟩) hS.2.2 dLaw_rights_18
  · refine th_catchV (As := [.int a1, .int a2]) (b := h0) (rest := [.int 0, .ref o0]) ⟨hx, hb, hml, hown, hts⟩ (hx_RiscHart_rights l htr h0 a1 a2 (sp_rights hok)) (cwV 2 hts (mk_gV tw_494 tw_495 tw_496 tw_46 tw_497) rfl rfl rfl hdHart_rights ⟨Nat.le_of_ble_eq_true rfl, Nat.le_of_ble_eq_true rfl⟩) (mk_preVZ hK hZ (va_recv hK hPh (ci := 0) (q0 := 0) rfl rfl)) rfl hl.1 (Nat.le_of_ble_eq_true rfl) dLaw_rights_5 ⟨Nat.le_of_ble_eq_true rfl, Nat.le_of_ble_eq_true rfl⟩ (hg _ tw_493) (th_cast hZ (w := .castable eA eA) (by decide)) htab (by decide) (by decide) (by decide) (fun a H1 hz hk => ?_)
    have hP1 : va_P D hcl (wo_W cR cW cP cO h0 h1 h2 h3 h4 o0 st f) H1 := hP.kept (fun k q hq => hk q.1 (hP k q hq).lt)
    have hS1 : va_S A s.heap H1 [] := ⟨hz, fun q h1 _ => hk q h1, fun _ h => nomatch h⟩
    refine lv_astore (lv' := [(4, .ref a), (0, .ref h0), (1, .int a1), (2, .int a2), (3, .ref o0)]) hx hb dLaw_rights_13 hl (by decide) rfl (fun ls hl => ?_)
    refine lv_iconst (v := 1) hx hb dLaw_rights_15 (by decide) ?_
    exact W.iret hx hb hr (fun t ht hW => ⟨⟨_, (st, f), rfl, (by unfold lf_rights; rw [if_neg hok]), by show va_P D hcl _ t.heap; rw [ht]; exact hP1⟩, hS1.F ht⟩) hS1.2.2 dLaw_rights_16
set_option maxHeartbeats 4000000 in
set_option maxRecDepth 100000 in
theorem lc_set (l : Launch) (htr : l.stackTraces = false) {D : va_G} {cR cW cP cO : ClassId} {h0 h1 h2 h3 h4 o0 : Nat} {A : Nat → Prop} {st : HS} {f : Nat → Int64} {G : Heap} (hP : va_P D hcl (wo_W cR cW cP cO h0 h1 h2 h3 h4 o0 st f) G) (hD : ∀ z f, va_D A (wo_W cR cW cP cO h0 h1 h2 h3 h4 o0 z f)) (a1 : Int32) (a2 : Int32) : Met l yLaw_set (wh yLaw_set cLaw_set 5 (some .int) [(0, 17, 20, 13)]) ({ frames := 7, cells := 1, slots := 6, locals := 104 }) (mk_PZ D hcl [(cR, .int), (cW, .int), (cP, .int), (cO, .long)] G [.ref h0, .int a1, .int a2, .ref o0]) (mk_Wi (S := HS × (Nat → Int64)) (fun u t => va_P D hcl (wo_W cR cW cP cO h0 h1 h2 h3 h4 o0 u.1 u.2) t) A (lf_set st f a1 a2)) 1 6 A := by
  refine va_MetW (cc := cLaw_set) (maxL := 5) (ret := some .int) (hh := [(0, 17, 20, 13)]) (by decide) rfl ?_
  intro p e s m args below meth c s₁ B hml hv
  obtain ⟨rfl, hG, hK4, hZ⟩ := hv
  subst hG
  have hx := B.exec
  have hb := B.bytes
  have hr := B.returns
  have hts := atoms_spec (ws := wh yLaw_set cLaw_set 5 (some .int) [(0, 17, 20, 13)]) B.pre
  have hown : s.vm.findClass RLaw = some m.cls := findClass_of_methodNamed B.named
  have hlocks := B.notSynchronized
  have hg : ∀ w ∈ lw_g, w.before _ s = true := fun w h => hts w (List.mem_cons_of_mem _ h)
  have hS : va_S A s.heap s.heap [] := va_S.rf
  have htab : c.exceptionTable.toList = [⟨0, 17, 20, 13⟩] := th_tab (ws := wh yLaw_set cLaw_set 5 (some .int) [(0, 17, 20, 13)]) rfl B
  have hK : va_K D hcl [(cR, .int), (cW, .int), (cP, .int)] s := hK4.sub [0, 1, 2] rfl
  have hPh : va_P D hcl (hs_W cR cW cP h0 h1 h2 h3 h4 st) s.heap := hP.sub [0, 1, 2, 3, 4] rfl
  have hDh := AH_of (wo_hs (hD st f))
  have hl := lv_entry ([.ref h0, .int a1, .int a2, .ref o0]) (n := 5) (Nat.le_of_ble_eq_true rfl)
  rw [lg_entry_eq]
  generalize (lg_sl ([.ref h0, .int a1, .int a2, .ref o0]) ++ List.replicate (5 - (lg_sl ([.ref h0, .int a1, .int a2, .ref o0])).length) Slot.unset).toArray = ls at hl ⊢
  have hl : lv_has ls 5 [(0, .ref h0), (1, .int a1), (2, .int a2), (3, .ref o0)] := hl
  refine lv_aload_n hx hb dLaw_set_0 rfl (lv_at hl 3 rfl) ?_
  refine lv_iconst (v := 0) hx hb dLaw_set_1 (by decide) ?_
  refine lv_aload_n hx hb dLaw_set_2 rfl (lv_at hl 0 rfl) ?_
  refine lv_iload_n hx hb dLaw_set_3 rfl (lv_at hl 1 rfl) ?_
  refine lv_iload_n hx hb dLaw_set_4 rfl (lv_at hl 2 rfl) ?_
  by_cases hok : (¬ a1 < 0) ∧ (a1 < 32)
  · obtain ⟨hn1, hn2⟩ := id hok
    refine va_calli (post := fun r u => (r, u) = (hf_RiscHart_set st a1 a2)) (B := fun u t => va_P D hcl (hs_W cR cW cP h0 h1 h2 h3 h4 u) t.heap) (va_runV (As := [.int a1, .int a2]) (rest := [.int 0, .ref o0]) ⟨hx, hb, hml, hown, hts⟩ (hc_RiscHart_set l hPh hDh a1 a2 hn1 hn2) (cwV 2 hts (mk_gV tw_522 tw_523 tw_524 tw_46 tw_525) rfl rfl rfl hdHart_set ⟨Nat.le_of_ble_eq_true rfl, Nat.le_of_ble_eq_true rfl⟩) (mk_preVK hK (va_recv hK hPh (ci := 0) (q0 := 0) rfl rfl)) rfl rfl hl.1 rfl (lv_room (Nat.le_of_ble_eq_true rfl)) dLaw_set_5 ⟨Nat.zero_le _, Nat.zero_le _⟩) hS (fun q _ h => wo_A (hD st f) h) (fun q h => wo_A (hD st f) h) (fun r u t H1 locs1 ht _ hw hB _ hk hS => ?_)
    have hw : (r, u) = (hf_RiscHart_set st a1 a2) := hw
    have er : r = (hf_RiscHart_set st a1 a2).1 := congrArg Prod.fst hw
    have eu : u = (hf_RiscHart_set st a1 a2).2 := congrArg Prod.snd hw
    have hB : va_P D hcl (hs_W cR cW cP h0 h1 h2 h3 h4 u) t.heap := hB
    rw [ht] at hB
    have hP := wo_join hP (hD st f) hB hk
    clear hPh hB
    subst er
    subst eu
    refine lv_if_eq (tgt := 15) hx hb dLaw_set_8 (by decide) (fun c_1 => ?_) (fun c_1 => ?_)
    · refine lv_lconst (v := 0) hx hb dLaw_set_15 (by decide) ?_
      refine va_last (D := D) (f := f) (x := 0) hx hb hK4 hP (hD _ _) hS 5 3 rfl rfl (in_k (by decide)) dLaw_set_16 (fun H locs hP _ hS => ?_)
      have hP : va_P D hcl (wo_W cR cW cP cO h0 h1 h2 h3 h4 o0 (hf_RiscHart_set st a1 a2).2 (vp_updL f 0 0)) H := hP
      refine lv_goto (tgt := 24) hx hb dLaw_set_17 (by decide) ?_
      refine lv_iconst (v := 0) hx hb dLaw_set_24 (by decide) ?_
      refine W.widen (k := 1) (n := 6) (by decide) (by decide) ?_
      exact W.iret hx hb hr (fun t ht hW => ⟨⟨_, ((hf_RiscHart_set st a1 a2).2, vp_updL f 0 0), rfl, (by unfold lf_set; rw [if_pos hok, if_pos (set_0 c_1), set_s]), by show va_P D hcl _ t.heap; rw [ht]; exact hP⟩, hS.F ht⟩) hS.2.2 dLaw_set_25
    · refine lv_lconst (v := 1) hx hb dLaw_set_11 (by decide) ?_
      refine lv_goto (tgt := 16) hx hb dLaw_set_12 (by decide) ?_
      refine va_last (D := D) (f := f) (x := 1) hx hb hK4 hP (hD _ _) hS 5 3 rfl rfl (in_k (by decide)) dLaw_set_16 (fun H locs hP _ hS => ?_)
      have hP : va_P D hcl (wo_W cR cW cP cO h0 h1 h2 h3 h4 o0 (hf_RiscHart_set st a1 a2).2 (vp_updL f 0 1)) H := hP
      refine lv_goto (tgt := 24) hx hb dLaw_set_17 (by decide) ?_
      refine lv_iconst (v := 0) hx hb dLaw_set_24 (by decide) ?_
      refine W.widen (k := 1) (n := 6) (by decide) (by decide) ?_
      exact W.iret hx hb hr (fun t ht hW => ⟨⟨_, ((hf_RiscHart_set st a1 a2).2, vp_updL f 0 1), rfl, (by unfold lf_set; rw [if_pos hok, if_neg (set_1 c_1), set_s]), by show va_P D hcl _ t.heap; rw [ht]; exact hP⟩, hS.F ht⟩) hS.2.2 dLaw_set_25
  · refine th_catchV (As := [.int a1, .int a2]) (b := h0) (rest := [.int 0, .ref o0]) ⟨hx, hb, hml, hown, hts⟩ (hx_RiscHart_set l htr h0 a1 a2 (sp_set hok)) (cwV 2 hts (mk_gV tw_522 tw_523 tw_524 tw_46 tw_525) rfl rfl rfl hdHart_set ⟨Nat.le_of_ble_eq_true rfl, Nat.le_of_ble_eq_true rfl⟩) (mk_preVZ hK hZ (va_recv hK hPh (ci := 0) (q0 := 0) rfl rfl)) rfl hl.1 (Nat.le_of_ble_eq_true rfl) dLaw_set_5 ⟨Nat.le_of_ble_eq_true rfl, Nat.le_of_ble_eq_true rfl⟩ (hg _ tw_402) (th_cast hZ (w := .castable eI eI) (by decide)) htab (by decide) (by decide) (by decide) (fun a H1 hz hk => ?_)
    have hP1 : va_P D hcl (wo_W cR cW cP cO h0 h1 h2 h3 h4 o0 st f) H1 := hP.kept (fun k q hq => hk q.1 (hP k q hq).lt)
    have hS1 : va_S A s.heap H1 [] := ⟨hz, fun q h1 _ => hk q h1, fun _ h => nomatch h⟩
    refine lv_astore (lv' := [(4, .ref a), (0, .ref h0), (1, .int a1), (2, .int a2), (3, .ref o0)]) hx hb dLaw_set_20 hl (by decide) rfl (fun ls hl => ?_)
    refine lv_iconst (v := 1) hx hb dLaw_set_22 (by decide) ?_
    exact W.iret hx hb hr (fun t ht hW => ⟨⟨_, (st, f), rfl, (by unfold lf_set; rw [if_neg hok]), by show va_P D hcl _ t.heap; rw [ht]; exact hP1⟩, hS1.F ht⟩) hS1.2.2 dLaw_set_23
set_option maxHeartbeats 4000000 in
set_option maxRecDepth 100000 in
theorem lc_register (l : Launch) (htr : l.stackTraces = false) {D : va_G} {cR cW cP cO : ClassId} {h0 h1 h2 h3 h4 o0 : Nat} {A : Nat → Prop} {st : HS} {f : Nat → Int64} {G : Heap} (hP : va_P D hcl (wo_W cR cW cP cO h0 h1 h2 h3 h4 o0 st f) G) (hD : ∀ z f, va_D A (wo_W cR cW cP cO h0 h1 h2 h3 h4 o0 z f)) (a1 : Int32) : Met l yLaw_register (wh yLaw_register cLaw_register 4 (some .int) [(0, 9, 12, 13)]) ({ frames := 7, cells := 1, slots := 6, locals := 103 }) (mk_PZ D hcl [(cR, .int), (cW, .int), (cP, .int), (cO, .long)] G [.ref h0, .int a1, .ref o0]) (mk_Wi (S := HS × (Nat → Int64)) (fun u t => va_P D hcl (wo_W cR cW cP cO h0 h1 h2 h3 h4 o0 u.1 u.2) t) A (lf_register st f a1)) 1 6 A := by
  refine va_MetW (cc := cLaw_register) (maxL := 4) (ret := some .int) (hh := [(0, 9, 12, 13)]) (by decide) rfl ?_
  intro p e s m args below meth c s₁ B hml hv
  obtain ⟨rfl, hG, hK4, hZ⟩ := hv
  subst hG
  have hx := B.exec
  have hb := B.bytes
  have hr := B.returns
  have hts := atoms_spec (ws := wh yLaw_register cLaw_register 4 (some .int) [(0, 9, 12, 13)]) B.pre
  have hown : s.vm.findClass RLaw = some m.cls := findClass_of_methodNamed B.named
  have hlocks := B.notSynchronized
  have hg : ∀ w ∈ lw_g, w.before _ s = true := fun w h => hts w (List.mem_cons_of_mem _ h)
  have hS : va_S A s.heap s.heap [] := va_S.rf
  have htab : c.exceptionTable.toList = [⟨0, 9, 12, 13⟩] := th_tab (ws := wh yLaw_register cLaw_register 4 (some .int) [(0, 9, 12, 13)]) rfl B
  have hK : va_K D hcl [(cR, .int), (cW, .int), (cP, .int)] s := hK4.sub [0, 1, 2] rfl
  have hPh : va_P D hcl (hs_W cR cW cP h0 h1 h2 h3 h4 st) s.heap := hP.sub [0, 1, 2, 3, 4] rfl
  have hDh := AH_of (wo_hs (hD st f))
  have hl := lv_entry ([.ref h0, .int a1, .ref o0]) (n := 4) (Nat.le_of_ble_eq_true rfl)
  rw [lg_entry_eq]
  generalize (lg_sl ([.ref h0, .int a1, .ref o0]) ++ List.replicate (4 - (lg_sl ([.ref h0, .int a1, .ref o0])).length) Slot.unset).toArray = ls at hl ⊢
  have hl : lv_has ls 4 [(0, .ref h0), (1, .int a1), (2, .ref o0)] := hl
  refine lv_aload_n hx hb dLaw_register_0 rfl (lv_at hl 2 rfl) ?_
  refine lv_iconst (v := 0) hx hb dLaw_register_1 (by decide) ?_
  refine lv_aload_n hx hb dLaw_register_2 rfl (lv_at hl 0 rfl) ?_
  refine lv_iload_n hx hb dLaw_register_3 rfl (lv_at hl 1 rfl) ?_
  by_cases hok : (¬ a1 < 0) ∧ (a1 < 32)
  · obtain ⟨hn1, hn2⟩ := id hok
    refine mk_callR (va_runV (As := [.int a1]) (rest := [.int 0, .ref o0]) ⟨hx, hb, hml, hown, hts⟩ (hc_RiscHart_register l hPh a1 hn1 hn2) (cwV 1 hts (mk_gV tw_530 tw_531 tw_532 tw_46 tw_533) rfl rfl rfl hdHart_register ⟨Nat.le_of_ble_eq_true rfl, Nat.le_of_ble_eq_true rfl⟩) (mk_preVK hK (va_recv hK hPh (ci := 0) (q0 := 0) rfl rfl)) rfl rfl hl.1 rfl (lv_room (Nat.le_of_ble_eq_true rfl)) dLaw_register_4 ⟨Nat.zero_le _, Nat.zero_le _⟩) ?_
    refine lv_i2l (v := (hf_RiscHart_register st a1).toInt64) hx hb dLaw_register_7 rfl ?_
    refine va_last (D := D) (f := f) (x := (hf_RiscHart_register st a1).toInt64) hx hb hK4 hP (hD _ _) hS 5 3 rfl rfl (in_k (by decide)) dLaw_register_8 (fun H locs hP _ hS => ?_)
    have hP : va_P D hcl (wo_W cR cW cP cO h0 h1 h2 h3 h4 o0 st (vp_updL f 0 ((hf_RiscHart_register st a1).toInt64))) H := hP
    refine lv_goto (tgt := 15) hx hb dLaw_register_9 (by decide) ?_
    refine lv_iconst (v := 0) hx hb dLaw_register_15 (by decide) ?_
    refine W.widen (k := 1) (n := 6) (by decide) (by decide) ?_
    exact W.iret hx hb hr (fun t ht hW => ⟨⟨_, (st, vp_updL f 0 ((hf_RiscHart_register st a1).toInt64)), rfl, (by unfold lf_register; rw [if_pos hok]; rfl), by show va_P D hcl _ t.heap; rw [ht]; exact hP⟩, hS.F ht⟩) hS.2.2 dLaw_register_16
  · refine th_catchV (As := [.int a1]) (b := h0) (rest := [.int 0, .ref o0]) ⟨hx, hb, hml, hown, hts⟩ (hx_RiscHart_register l htr h0 a1 (sp_register hok)) (cwV 1 hts (mk_gV tw_530 tw_531 tw_532 tw_46 tw_533) rfl rfl rfl hdHart_register ⟨Nat.le_of_ble_eq_true rfl, Nat.le_of_ble_eq_true rfl⟩) (mk_preVZ hK hZ (va_recv hK hPh (ci := 0) (q0 := 0) rfl rfl)) rfl hl.1 (Nat.le_of_ble_eq_true rfl) dLaw_register_4 ⟨Nat.le_of_ble_eq_true rfl, Nat.le_of_ble_eq_true rfl⟩ (hg _ tw_402) (th_cast hZ (w := .castable eI eI) (by decide)) htab (by decide) (by decide) (by decide) (fun a H1 hz hk => ?_)
    have hP1 : va_P D hcl (wo_W cR cW cP cO h0 h1 h2 h3 h4 o0 st f) H1 := hP.kept (fun k q hq => hk q.1 (hP k q hq).lt)
    have hS1 : va_S A s.heap H1 [] := ⟨hz, fun q h1 _ => hk q h1, fun _ h => nomatch h⟩
    refine lv_astore_n (lv' := [(3, .ref a), (0, .ref h0), (1, .int a1), (2, .ref o0)]) hx hb dLaw_register_12 rfl hl (by decide) rfl (fun ls hl => ?_)
    refine lv_iconst (v := 1) hx hb dLaw_register_13 (by decide) ?_
    exact W.iret hx hb hr (fun t ht hW => ⟨⟨_, (st, f), rfl, (by unfold lf_register; rw [if_neg hok]), by show va_P D hcl _ t.heap; rw [ht]; exact hP1⟩, hS1.F ht⟩) hS1.2.2 dLaw_register_14
set_option maxHeartbeats 4000000 in
set_option maxRecDepth 100000 in
theorem lc_count (l : Launch) (htr : l.stackTraces = false) {D : va_G} {cR cW cP cO : ClassId} {h0 h1 h2 h3 h4 o0 : Nat} {A : Nat → Prop} {st : HS} {f : Nat → Int64} {G : Heap} (hP : va_P D hcl (wo_W cR cW cP cO h0 h1 h2 h3 h4 o0 st f) G) (hD : ∀ z f, va_D A (wo_W cR cW cP cO h0 h1 h2 h3 h4 o0 z f)) (a1 : Int32) : Met l yLaw_count (wh yLaw_count cLaw_count 4 (some .int) [(0, 8, 11, 26)]) ({ frames := 7, cells := 1, slots := 6, locals := 103 }) (mk_PZ D hcl [(cR, .int), (cW, .int), (cP, .int), (cO, .long)] G [.ref h0, .int a1, .ref o0]) (mk_Wi (S := HS × (Nat → Int64)) (fun u t => va_P D hcl (wo_W cR cW cP cO h0 h1 h2 h3 h4 o0 u.1 u.2) t) A (lf_count st f a1)) 1 6 A := by
  refine va_MetW (cc := cLaw_count) (maxL := 4) (ret := some .int) (hh := [(0, 8, 11, 26)]) (by decide) rfl ?_
  intro p e s m args below meth c s₁ B hml hv
  obtain ⟨rfl, hG, hK4, hZ⟩ := hv
  subst hG
  have hx := B.exec
  have hb := B.bytes
  have hr := B.returns
  have hts := atoms_spec (ws := wh yLaw_count cLaw_count 4 (some .int) [(0, 8, 11, 26)]) B.pre
  have hown : s.vm.findClass RLaw = some m.cls := findClass_of_methodNamed B.named
  have hlocks := B.notSynchronized
  have hg : ∀ w ∈ lw_g, w.before _ s = true := fun w h => hts w (List.mem_cons_of_mem _ h)
  have hS : va_S A s.heap s.heap [] := va_S.rf
  have htab : c.exceptionTable.toList = [⟨0, 8, 11, 26⟩] := th_tab (ws := wh yLaw_count cLaw_count 4 (some .int) [(0, 8, 11, 26)]) rfl B
  have hK : va_K D hcl [(cR, .int), (cW, .int), (cP, .int)] s := hK4.sub [0, 1, 2] rfl
  have hPh : va_P D hcl (hs_W cR cW cP h0 h1 h2 h3 h4 st) s.heap := hP.sub [0, 1, 2, 3, 4] rfl
  have hDh := AH_of (wo_hs (hD st f))
  have hl := lv_entry ([.ref h0, .int a1, .ref o0]) (n := 4) (Nat.le_of_ble_eq_true rfl)
  rw [lg_entry_eq]
  generalize (lg_sl ([.ref h0, .int a1, .ref o0]) ++ List.replicate (4 - (lg_sl ([.ref h0, .int a1, .ref o0])).length) Slot.unset).toArray = ls at hl ⊢
  have hl : lv_has ls 4 [(0, .ref h0), (1, .int a1), (2, .ref o0)] := hl
  refine lv_aload_n hx hb dLaw_count_0 rfl (lv_at hl 2 rfl) ?_
  refine lv_iconst (v := 0) hx hb dLaw_count_1 (by decide) ?_
  refine lv_aload_n hx hb dLaw_count_2 rfl (lv_at hl 0 rfl) ?_
  refine lv_iload_n hx hb dLaw_count_3 rfl (lv_at hl 1 rfl) ?_
  by_cases hok : five a1
  · have hn := hok
    refine mk_callRl (va_runV (As := [.int a1]) (rest := [.int 0, .ref o0]) ⟨hx, hb, hml, hown, hts⟩ (hc_RiscHart_count l hPh a1 hn) (cwV 1 hts (mk_gV tw_545 tw_546 tw_547 tw_46 tw_548) rfl rfl rfl hdHart_count ⟨Nat.le_of_ble_eq_true rfl, Nat.le_of_ble_eq_true rfl⟩) (mk_preVK hK (va_recv hK hPh (ci := 0) (q0 := 0) rfl rfl)) rfl rfl hl.1 rfl (lv_room (Nat.le_of_ble_eq_true rfl)) dLaw_count_4 ⟨Nat.zero_le _, Nat.zero_le _⟩) ?_
    refine va_last (D := D) (f := f) (x := (hf_RiscHart_count st a1)) hx hb hK4 hP (hD _ _) hS 5 3 rfl rfl (in_k (by decide)) dLaw_count_7 (fun H locs hP _ hS => ?_)
    have hP : va_P D hcl (wo_W cR cW cP cO h0 h1 h2 h3 h4 o0 st (vp_updL f 0 ((hf_RiscHart_count st a1)))) H := hP
    refine lv_goto (tgt := 14) hx hb dLaw_count_8 (by decide) ?_
    refine lv_iconst (v := 0) hx hb dLaw_count_14 (by decide) ?_
    refine W.widen (k := 1) (n := 6) (by decide) (by decide) ?_
    exact W.iret hx hb hr (fun t ht hW => ⟨⟨_, (st, vp_updL f 0 ((hf_RiscHart_count st a1))), rfl, (by unfold lf_count; rw [if_pos hok, count_f hok]), by show va_P D hcl _ t.heap; rw [ht]; exact hP⟩, hS.F ht⟩) hS.2.2 dLaw_count_15
  · refine th_catchV (As := [.int a1]) (b := h0) (rest := [.int 0, .ref o0]) ⟨hx, hb, hml, hown, hts⟩ (hx_RiscHart_count l htr h0 a1 (sp_count hok)) (cwV 1 hts (mk_gV tw_545 tw_546 tw_547 tw_46 tw_548) rfl rfl rfl hdHart_count ⟨Nat.le_of_ble_eq_true rfl, Nat.le_of_ble_eq_true rfl⟩) (mk_preVZ hK hZ (va_recv hK hPh (ci := 0) (q0 := 0) rfl rfl)) rfl hl.1 (Nat.le_of_ble_eq_true rfl) dLaw_count_4 ⟨Nat.le_of_ble_eq_true rfl, Nat.le_of_ble_eq_true rfl⟩ (hg _ tw_493) (th_cast hZ (w := .castable eA eA) (by decide)) htab (by decide) (by decide) (by decide) (fun a H1 hz hk => ?_)
    have hP1 : va_P D hcl (wo_W cR cW cP cO h0 h1 h2 h3 h4 o0 st f) H1 := hP.kept (fun k q hq => hk q.1 (hP k q hq).lt)
    have hS1 : va_S A s.heap H1 [] := ⟨hz, fun q h1 _ => hk q h1, fun _ h => nomatch h⟩
    refine lv_astore_n (lv' := [(3, .ref a), (0, .ref h0), (1, .int a1), (2, .ref o0)]) hx hb dLaw_count_11 rfl hl (by decide) rfl (fun ls hl => ?_)
    refine lv_iconst (v := 1) hx hb dLaw_count_12 (by decide) ?_
    exact W.iret hx hb hr (fun t ht hW => ⟨⟨_, (st, f), rfl, (by unfold lf_count; rw [if_neg hok]), by show va_P D hcl _ t.heap; rw [ht]; exact hP1⟩, hS1.F ht⟩) hS1.2.2 dLaw_count_13
set_option maxHeartbeats 4000000 in
set_option maxRecDepth 100000 in
theorem lc_run (l : Launch) (htr : l.stackTraces = false) {D : va_G} {cR cW cP cO : ClassId} {h0 h1 h2 h3 h4 o0 : Nat} {A : Nat → Prop} {st : HS} {f : Nat → Int64} {G : Heap} (hP : va_P D hcl (wo_W cR cW cP cO h0 h1 h2 h3 h4 o0 st f) G) (hD : ∀ z f, va_D A (wo_W cR cW cP cO h0 h1 h2 h3 h4 o0 z f)) (a1 : Int32) : Met l yLaw_run (wh yLaw_run cLaw_run 4 (some .int) [(0, 9, 12, 26)]) ({ frames := 7, cells := 1, slots := 6, locals := 162 }) (mk_PZ D hcl [(cR, .int), (cW, .int), (cP, .int), (cO, .long)] G [.ref h0, .int a1, .ref o0]) (mk_Wi (S := HS × (Nat → Int64)) (fun u t => va_P D hcl (wo_W cR cW cP cO h0 h1 h2 h3 h4 o0 u.1 u.2) t) A (lf_run st f a1)) 1 6 A := by
  refine va_MetW (cc := cLaw_run) (maxL := 4) (ret := some .int) (hh := [(0, 9, 12, 26)]) (by decide) rfl ?_
  intro p e s m args below meth c s₁ B hml hv
  obtain ⟨rfl, hG, hK4, hZ⟩ := hv
  subst hG
  have hx := B.exec
  have hb := B.bytes
  have hr := B.returns
  have hts := atoms_spec (ws := wh yLaw_run cLaw_run 4 (some .int) [(0, 9, 12, 26)]) B.pre
  have hown : s.vm.findClass RLaw = some m.cls := findClass_of_methodNamed B.named
  have hlocks := B.notSynchronized
  have hg : ∀ w ∈ lw_g, w.before _ s = true := fun w h => hts w (List.mem_cons_of_mem _ h)
  have hS : va_S A s.heap s.heap [] := va_S.rf
  have htab : c.exceptionTable.toList = [⟨0, 9, 12, 26⟩] := th_tab (ws := wh yLaw_run cLaw_run 4 (some .int) [(0, 9, 12, 26)]) rfl B
  have hK : va_K D hcl [(cR, .int), (cW, .int), (cP, .int)] s := hK4.sub [0, 1, 2] rfl
  have hPh : va_P D hcl (hs_W cR cW cP h0 h1 h2 h3 h4 st) s.heap := hP.sub [0, 1, 2, 3, 4] rfl
  have hDh := AH_of (wo_hs (hD st f))
  have hl := lv_entry ([.ref h0, .int a1, .ref o0]) (n := 4) (Nat.le_of_ble_eq_true rfl)
  rw [lg_entry_eq]
  generalize (lg_sl ([.ref h0, .int a1, .ref o0]) ++ List.replicate (4 - (lg_sl ([.ref h0, .int a1, .ref o0])).length) Slot.unset).toArray = ls at hl ⊢
  have hl : lv_has ls 4 [(0, .ref h0), (1, .int a1), (2, .ref o0)] := hl
  refine lv_aload_n hx hb dLaw_run_0 rfl (lv_at hl 2 rfl) ?_
  refine lv_iconst (v := 0) hx hb dLaw_run_1 (by decide) ?_
  refine lv_aload_n hx hb dLaw_run_2 rfl (lv_at hl 0 rfl) ?_
  refine lv_iload_n hx hb dLaw_run_3 rfl (lv_at hl 1 rfl) ?_
  by_cases hok : (¬ a1 < 0) ∧ (a1 ≤ 2000)
  · obtain ⟨hn1, hn2⟩ := id hok
    refine va_calli (post := fun r u => (r, u) = (hf_run st a1)) (B := fun u t => va_P D hcl (hs_W cR cW cP h0 h1 h2 h3 h4 u) t.heap) (va_runV (As := [.int a1]) (rest := [.int 0, .ref o0]) ⟨hx, hb, hml, hown, hts⟩ (hc_RiscHart_run l hPh hDh a1 hn1 hn2) (cwV 1 hts (mk_gV tw_537 tw_538 tw_539 tw_46 tw_540) rfl rfl rfl hdHart_run ⟨Nat.le_of_ble_eq_true rfl, Nat.le_of_ble_eq_true rfl⟩) (mk_preVK hK (va_recv hK hPh (ci := 0) (q0 := 0) rfl rfl)) rfl rfl hl.1 rfl (lv_room (Nat.le_of_ble_eq_true rfl)) dLaw_run_4 ⟨Nat.zero_le _, Nat.zero_le _⟩) hS (fun q _ h => wo_A (hD st f) h) (fun q h => wo_A (hD st f) h) (fun r u t H1 locs1 ht _ hw hB _ hk hS => ?_)
    have hw : (r, u) = (hf_run st a1) := hw
    have er : r = (hf_run st a1).1 := congrArg Prod.fst hw
    have eu : u = (hf_run st a1).2 := congrArg Prod.snd hw
    have hB : va_P D hcl (hs_W cR cW cP h0 h1 h2 h3 h4 u) t.heap := hB
    rw [ht] at hB
    have hP := wo_join hP (hD st f) hB hk
    clear hPh hB
    subst er
    subst eu
    refine lv_i2l (v := (hf_run st a1).1.toInt64) hx hb dLaw_run_7 rfl ?_
    refine va_last (D := D) (f := f) (x := (hf_run st a1).1.toInt64) hx hb hK4 hP (hD _ _) hS 5 3 rfl rfl (in_k (by decide)) dLaw_run_8 (fun H locs hP _ hS => ?_)
    have hP : va_P D hcl (wo_W cR cW cP cO h0 h1 h2 h3 h4 o0 (hf_run st a1).2 (vp_updL f 0 ((hf_run st a1).1.toInt64))) H := hP
    refine lv_goto (tgt := 15) hx hb dLaw_run_9 (by decide) ?_
    refine lv_iconst (v := 0) hx hb dLaw_run_15 (by decide) ?_
    refine W.widen (k := 1) (n := 6) (by decide) (by decide) ?_
    exact W.iret hx hb hr (fun t ht hW => ⟨⟨_, ((hf_run st a1).2, vp_updL f 0 ((hf_run st a1).1.toInt64)), rfl, (by unfold lf_run; rw [if_pos hok]), by show va_P D hcl _ t.heap; rw [ht]; exact hP⟩, hS.F ht⟩) hS.2.2 dLaw_run_16
  · refine th_catchV (As := [.int a1]) (b := h0) (rest := [.int 0, .ref o0]) ⟨hx, hb, hml, hown, hts⟩ (hx_RiscHart_run l htr h0 a1 (sp_run hok)) (cwV 1 hts (mk_gV tw_537 tw_538 tw_539 tw_46 tw_540) rfl rfl rfl hdHart_run ⟨Nat.le_of_ble_eq_true rfl, Nat.le_of_ble_eq_true rfl⟩) (mk_preVZ hK hZ (va_recv hK hPh (ci := 0) (q0 := 0) rfl rfl)) rfl hl.1 (Nat.le_of_ble_eq_true rfl) dLaw_run_4 ⟨Nat.le_of_ble_eq_true rfl, Nat.le_of_ble_eq_true rfl⟩ (hg _ tw_493) (th_cast hZ (w := .castable eA eA) (by decide)) htab (by decide) (by decide) (by decide) (fun a H1 hz hk => ?_)
    have hP1 : va_P D hcl (wo_W cR cW cP cO h0 h1 h2 h3 h4 o0 st f) H1 := hP.kept (fun k q hq => hk q.1 (hP k q hq).lt)
    have hS1 : va_S A s.heap H1 [] := ⟨hz, fun q h1 _ => hk q h1, fun _ h => nomatch h⟩
    refine lv_astore_n (lv' := [(3, .ref a), (0, .ref h0), (1, .int a1), (2, .ref o0)]) hx hb dLaw_run_12 rfl hl (by decide) rfl (fun ls hl => ?_)
    refine lv_iconst (v := 1) hx hb dLaw_run_13 (by decide) ?_
    exact W.iret hx hb hr (fun t ht hW => ⟨⟨_, (st, f), rfl, (by unfold lf_run; rw [if_neg hok]), by show va_P D hcl _ t.heap; rw [ht]; exact hP1⟩, hS1.F ht⟩) hS1.2.2 dLaw_run_14
