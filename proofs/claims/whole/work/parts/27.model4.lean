set_option maxHeartbeats 4000000 in
set_option maxRecDepth 100000 in
theorem mc_RiscHartModel_count (l : Launch) {D : va_G} {cB cO cX : ClassId} {m0 m1 m2 m3 : Nat} {A : Nat → Prop} {st : MS} {G : Heap} (hP : va_P D hcl (ms_W cB cO cX m0 m1 m2 m3 st) G) (hD : ∀ z, va_D A (ms_W cB cO cX m0 m1 m2 m3 z)) (a1 : Int32)  : Met l yMod_count (wq yMod_count cMod_count 2 (some .long)) ({ frames := 1, cells := 0, slots := 0, locals := 22 }) (mk_PK D hcl [(cB, .int), (cO, .int), (cX, .int)] G [.ref m0, .int a1]) (mk_Wl (fun u t => va_P D hcl (ms_W cB cO cX m0 m1 m2 m3 u) t) A (mf_RiscHartModel_count st a1)) 0 0 A := by
  refine Met.ofW (cc := cMod_count) (maxL := 2) (ret := (some .long)) (by decide) rfl ?_
  intro p e s m args below meth c s₁ B hml hv
  obtain ⟨rfl, hG, hK⟩ := hv
  subst hG
  have hx := B.exec
  have hb := B.bytes
  have hr := B.returns
  have hts := atoms_spec (ws := (wq yMod_count cMod_count 2 (some .long))) B.pre
  have hown : s.vm.findClass RMod = some m.cls := findClass_of_methodNamed B.named
  have hlocks := B.notSynchronized
  have hg : ∀ w ∈ lw_g, w.before _ s = true := fun w h => hts w (List.mem_cons_of_mem _ h)
  have hS : va_S A s.heap s.heap [] := va_S.rf
  have hl := lv_entry ([.ref m0, .int a1]) (n := 2) (Nat.le_of_ble_eq_true rfl)
  rw [lg_entry_eq]
  generalize (lg_sl ([.ref m0, .int a1]) ++ List.replicate (2 - (lg_sl ([.ref m0, .int a1])).length) Slot.unset).toArray = ls at hl ⊢
  have hl : lv_has ls 2 [(0, .ref m0), (1, .int a1)] := hl
  refine lv_aload_n hx hb dMod_count_0 rfl (lv_at hl 0 rfl) ?_
  refine lv_iload_n hx hb dMod_count_1 rfl (lv_at hl 1 rfl) ?_
  refine lv_iconst (v := 0) hx hb dMod_count_2 (by decide) ?_
  refine lv_iconst (v := 4) hx hb dMod_count_3 (by decide) ?_
  refine mk_callR (va_runS (As := [.int a1, .int 0, .int 4]) (rest := [.ref m0]) ⟨hx, hb, hml, hown, hts⟩ (mc_RiscHartModel_in l _ a1 0 4) (va_cwS 3 hts (mk_gS tw_609 tw_610 tw_48 tw_611) rfl rfl rfl hdMod_in.2 ⟨Nat.le_of_ble_eq_true rfl, Nat.le_of_ble_eq_true rfl⟩) mk_preS rfl rfl hl.1 rfl (lv_room (Nat.le_of_ble_eq_true rfl)) dMod_count_4 ⟨Nat.zero_le _, Nat.zero_le _⟩) ?_
  refine lv_if_eq (tgt := 14) hx hb dMod_count_7 (by decide) (fun c_1 => ?_) (fun c_1 => ?_)
  · refine lv_iconst (v := 1) hx hb dMod_count_14 (by decide) ?_
    refine va_put (D := D) (ci := 2) (v := .int 1) (ty := .int) (C := RMod) (T := TMod) (N := 14) hx hb hg inMod tyMod tyMod_ok nmMod hown hK hP (hD _) hS 0 rfl rfl 0 (by decide) (hg _ tw_557) (fun _ h9 => h9) rfl (by decide +kernel) rfl rfl (Nat.le_of_ble_eq_true rfl) dMod_count_15 (fun H locs hP _ hS => ?_)
    have hP : va_P D hcl (ms_W cB cO cX m0 m1 m2 m3 (ms_set_code st 1)) H := hP
    refine lv_iload_n hx hb dMod_count_18 rfl (lv_at hl 1 rfl) ?_
    by_cases c_2 : a1 = 0
    · refine lv_tableIn (tgt := 52) hx hb dMod_count_19 (by rw [c_2]; decide) (by rw [c_2]; decide) (by rw [c_2]; rfl) (by decide) ?_
      refine lv_aload_n hx hb dMod_count_52 rfl (lv_at hl 0 rfl) ?_
      refine va_get (D := D) (ci := 2) (v := .int (ms_place st)) (C := RMod) (T := TMod) (N := 14) hx hb hg inMod hown hK hP 0 rfl rfl 4 (by decide) (hg _ tw_561) (fun _ h9 => h9) rfl dMod_count_53 ?_
      refine lv_i2l (v := (ms_place st).toInt64) hx hb dMod_count_56 rfl ?_
      exact W.lret hx hb hr (fun t ht hW => ⟨⟨_, (ms_set_code st 1), rfl, (by unfold mf_RiscHartModel_count; rw [if_pos c_1, if_pos c_2]), by show va_P D hcl _ t.heap; rw [ht]; exact hP⟩, hS.F ht⟩) hS.2.2 dMod_count_57
    by_cases c_3 : a1 = 1
    · refine lv_tableIn (tgt := 58) hx hb dMod_count_19 (by rw [c_3]; decide) (by rw [c_3]; decide) (by rw [c_3]; rfl) (by decide) ?_
      refine lv_aload_n hx hb dMod_count_58 rfl (lv_at hl 0 rfl) ?_
      refine va_get (D := D) (ci := 2) (v := .int (ms_cause st)) (C := RMod) (T := TMod) (N := 14) hx hb hg inMod hown hK hP 0 rfl rfl 5 (by decide) (hg _ tw_562) (fun _ h9 => h9) rfl dMod_count_59 ?_
      refine lv_i2l (v := (ms_cause st).toInt64) hx hb dMod_count_62 rfl ?_
      exact W.lret hx hb hr (fun t ht hW => ⟨⟨_, (ms_set_code st 1), rfl, (by unfold mf_RiscHartModel_count; rw [if_pos c_1, if_neg c_2, if_pos c_3]), by show va_P D hcl _ t.heap; rw [ht]; exact hP⟩, hS.F ht⟩) hS.2.2 dMod_count_63
    by_cases c_4 : a1 = 2
    · refine lv_tableIn (tgt := 64) hx hb dMod_count_19 (by rw [c_4]; decide) (by rw [c_4]; decide) (by rw [c_4]; rfl) (by decide) ?_
      refine lv_aload_n hx hb dMod_count_64 rfl (lv_at hl 0 rfl) ?_
      refine va_get (D := D) (ci := 2) (v := .int (ms_value st)) (C := RMod) (T := TMod) (N := 14) hx hb hg inMod hown hK hP 0 rfl rfl 6 (by decide) (hg _ tw_563) (fun _ h9 => h9) rfl dMod_count_65 ?_
      refine lv_i2l (v := (ms_value st).toInt64) hx hb dMod_count_68 rfl ?_
      exact W.lret hx hb hr (fun t ht hW => ⟨⟨_, (ms_set_code st 1), rfl, (by unfold mf_RiscHartModel_count; rw [if_pos c_1, if_neg c_2, if_neg c_3, if_pos c_4]), by show va_P D hcl _ t.heap; rw [ht]; exact hP⟩, hS.F ht⟩) hS.2.2 dMod_count_69
    by_cases c_5 : a1 = 3
    · refine lv_tableIn (tgt := 70) hx hb dMod_count_19 (by rw [c_5]; decide) (by rw [c_5]; decide) (by rw [c_5]; rfl) (by decide) ?_
      refine lv_aload_n hx hb dMod_count_70 rfl (lv_at hl 0 rfl) ?_
      refine va_get (D := D) (ci := 2) (v := .long (ms_retired st)) (C := RMod) (T := TMod) (N := 14) hx hb hg inMod hown hK hP 0 rfl rfl 8 (by decide) (hg _ tw_565) (fun _ h9 => h9) rfl dMod_count_71 ?_
      exact W.lret hx hb hr (fun t ht hW => ⟨⟨_, (ms_set_code st 1), rfl, (by unfold mf_RiscHartModel_count; rw [if_pos c_1, if_neg c_2, if_neg c_3, if_neg c_4, if_pos c_5]), by show va_P D hcl _ t.heap; rw [ht]; exact hP⟩, hS.F ht⟩) hS.2.2 dMod_count_74
    by_cases c_6 : a1 = 4
    · refine lv_tableIn (tgt := 75) hx hb dMod_count_19 (by rw [c_6]; decide) (by rw [c_6]; decide) (by rw [c_6]; rfl) (by decide) ?_
      refine lv_aload_n hx hb dMod_count_75 rfl (lv_at hl 0 rfl) ?_
      refine va_get (D := D) (ci := 2) (v := .int (ms_reserved st)) (C := RMod) (T := TMod) (N := 14) hx hb hg inMod hown hK hP 0 rfl rfl 7 (by decide) (hg _ tw_564) (fun _ h9 => h9) rfl dMod_count_76 ?_
      refine lv_i2l (v := (ms_reserved st).toInt64) hx hb dMod_count_79 rfl ?_
      exact W.lret hx hb hr (fun t ht hW => ⟨⟨_, (ms_set_code st 1), rfl, (by unfold mf_RiscHartModel_count; rw [if_pos c_1, if_neg c_2, if_neg c_3, if_neg c_4, if_neg c_5, if_pos c_6]), by show va_P D hcl _ t.heap; rw [ht]; exact hP⟩, hS.F ht⟩) hS.2.2 dMod_count_80
    refine mk_table (tgt := 81) hx hb dMod_count_19 (mk_gap (N := 5) [0, 1, 2, 3, 4] (by decide) (by decide) (by have q_2 := lv_neT (a := 0) c_2 rfl; have q_3 := lv_neT (a := 1) c_3 rfl; have q_4 := lv_neT (a := 2) c_4 rfl; have q_5 := lv_neT (a := 3) c_5 rfl; have q_6 := lv_neT (a := 4) c_6 rfl; intro n hn; simp only [List.mem_cons, List.not_mem_nil, or_false, not_or]; omega)) (by decide) ?_
    refine lv_lconst (v := 0) hx hb dMod_count_81 (by decide) ?_
    exact W.lret hx hb hr (fun t ht hW => ⟨⟨_, (ms_set_code st 1), rfl, (by unfold mf_RiscHartModel_count; rw [if_pos c_1, if_neg c_2, if_neg c_3, if_neg c_4, if_neg c_5, if_neg c_6]), by show va_P D hcl _ t.heap; rw [ht]; exact hP⟩, hS.F ht⟩) hS.2.2 dMod_count_82
  · refine lv_iconst (v := 0) hx hb dMod_count_10 (by decide) ?_
    refine lv_goto (tgt := 15) hx hb dMod_count_11 (by decide) ?_
    refine va_put (D := D) (ci := 2) (v := .int 0) (ty := .int) (C := RMod) (T := TMod) (N := 14) hx hb hg inMod tyMod tyMod_ok nmMod hown hK hP (hD _) hS 0 rfl rfl 0 (by decide) (hg _ tw_557) (fun _ h9 => h9) rfl (by decide +kernel) rfl rfl (Nat.le_of_ble_eq_true rfl) dMod_count_15 (fun H locs hP _ hS => ?_)
    have hP : va_P D hcl (ms_W cB cO cX m0 m1 m2 m3 (ms_set_code st 0)) H := hP
    refine lv_iload_n hx hb dMod_count_18 rfl (lv_at hl 1 rfl) ?_
    by_cases c_7 : a1 = 0
    · refine lv_tableIn (tgt := 52) hx hb dMod_count_19 (by rw [c_7]; decide) (by rw [c_7]; decide) (by rw [c_7]; rfl) (by decide) ?_
      refine lv_aload_n hx hb dMod_count_52 rfl (lv_at hl 0 rfl) ?_
      refine va_get (D := D) (ci := 2) (v := .int (ms_place st)) (C := RMod) (T := TMod) (N := 14) hx hb hg inMod hown hK hP 0 rfl rfl 4 (by decide) (hg _ tw_561) (fun _ h9 => h9) rfl dMod_count_53 ?_
      refine lv_i2l (v := (ms_place st).toInt64) hx hb dMod_count_56 rfl ?_
      exact W.lret hx hb hr (fun t ht hW => ⟨⟨_, (ms_set_code st 0), rfl, (by unfold mf_RiscHartModel_count; rw [if_neg c_1, if_pos c_7]), by show va_P D hcl _ t.heap; rw [ht]; exact hP⟩, hS.F ht⟩) hS.2.2 dMod_count_57
    by_cases c_8 : a1 = 1
    · refine lv_tableIn (tgt := 58) hx hb dMod_count_19 (by rw [c_8]; decide) (by rw [c_8]; decide) (by rw [c_8]; rfl) (by decide) ?_
      refine lv_aload_n hx hb dMod_count_58 rfl (lv_at hl 0 rfl) ?_
      refine va_get (D := D) (ci := 2) (v := .int (ms_cause st)) (C := RMod) (T := TMod) (N := 14) hx hb hg inMod hown hK hP 0 rfl rfl 5 (by decide) (hg _ tw_562) (fun _ h9 => h9) rfl dMod_count_59 ?_
      refine lv_i2l (v := (ms_cause st).toInt64) hx hb dMod_count_62 rfl ?_
      exact W.lret hx hb hr (fun t ht hW => ⟨⟨_, (ms_set_code st 0), rfl, (by unfold mf_RiscHartModel_count; rw [if_neg c_1, if_neg c_7, if_pos c_8]), by show va_P D hcl _ t.heap; rw [ht]; exact hP⟩, hS.F ht⟩) hS.2.2 dMod_count_63
    by_cases c_9 : a1 = 2
    · refine lv_tableIn (tgt := 64) hx hb dMod_count_19 (by rw [c_9]; decide) (by rw [c_9]; decide) (by rw [c_9]; rfl) (by decide) ?_
      refine lv_aload_n hx hb dMod_count_64 rfl (lv_at hl 0 rfl) ?_
      refine va_get (D := D) (ci := 2) (v := .int (ms_value st)) (C := RMod) (T := TMod) (N := 14) hx hb hg inMod hown hK hP 0 rfl rfl 6 (by decide) (hg _ tw_563) (fun _ h9 => h9) rfl dMod_count_65 ?_
      refine lv_i2l (v := (ms_value st).toInt64) hx hb dMod_count_68 rfl ?_
      exact W.lret hx hb hr (fun t ht hW => ⟨⟨_, (ms_set_code st 0), rfl, (by unfold mf_RiscHartModel_count; rw [if_neg c_1, if_neg c_7, if_neg c_8, if_pos c_9]), by show va_P D hcl _ t.heap; rw [ht]; exact hP⟩, hS.F ht⟩) hS.2.2 dMod_count_69
    by_cases c_10 : a1 = 3
    · refine lv_tableIn (tgt := 70) hx hb dMod_count_19 (by rw [c_10]; decide) (by rw [c_10]; decide) (by rw [c_10]; rfl) (by decide) ?_
      refine lv_aload_n hx hb dMod_count_70 rfl (lv_at hl 0 rfl) ?_
      refine va_get (D := D) (ci := 2) (v := .long (ms_retired st)) (C := RMod) (T := TMod) (N := 14) hx hb hg inMod hown hK hP 0 rfl rfl 8 (by decide) (hg _ tw_565) (fun _ h9 => h9) rfl dMod_count_71 ?_
      exact W.lret hx hb hr (fun t ht hW => ⟨⟨_, (ms_set_code st 0), rfl, (by unfold mf_RiscHartModel_count; rw [if_neg c_1, if_neg c_7, if_neg c_8, if_neg c_9, if_pos c_10]), by show va_P D hcl _ t.heap; rw [ht]; exact hP⟩, hS.F ht⟩) hS.2.2 dMod_count_74
    by_cases c_11 : a1 = 4
    · refine lv_tableIn (tgt := 75) hx hb dMod_count_19 (by rw [c_11]; decide) (by rw [c_11]; decide) (by rw [c_11]; rfl) (by decide) ?_
      refine lv_aload_n hx hb dMod_count_75 rfl (lv_at hl 0 rfl) ?_
      refine va_get (D := D) (ci := 2) (v := .int (ms_reserved st)) (C := RMod) (T := TMod) (N := 14) hx hb hg inMod hown hK hP 0 rfl rfl 7 (by decide) (hg _ tw_564) (fun _ h9 => h9) rfl dMod_count_76 ?_
      refine lv_i2l (v := (ms_reserved st).toInt64) hx hb dMod_count_79 rfl ?_
      exact W.lret hx hb hr (fun t ht hW => ⟨⟨_, (ms_set_code st 0), rfl, (by unfold mf_RiscHartModel_count; rw [if_neg c_1, if_neg c_7, if_neg c_8, if_neg c_9, if_neg c_10, if_pos c_11]), by show va_P D hcl _ t.heap; rw [ht]; exact hP⟩, hS.F ht⟩) hS.2.2 dMod_count_80
    refine mk_table (tgt := 81) hx hb dMod_count_19 (mk_gap (N := 5) [0, 1, 2, 3, 4] (by decide) (by decide) (by have q_7 := lv_neT (a := 0) c_7 rfl; have q_8 := lv_neT (a := 1) c_8 rfl; have q_9 := lv_neT (a := 2) c_9 rfl; have q_10 := lv_neT (a := 3) c_10 rfl; have q_11 := lv_neT (a := 4) c_11 rfl; intro n hn; simp only [List.mem_cons, List.not_mem_nil, or_false, not_or]; omega)) (by decide) ?_
    refine lv_lconst (v := 0) hx hb dMod_count_81 (by decide) ?_
    exact W.lret hx hb hr (fun t ht hW => ⟨⟨_, (ms_set_code st 0), rfl, (by unfold mf_RiscHartModel_count; rw [if_neg c_1, if_neg c_7, if_neg c_8, if_neg c_9, if_neg c_10, if_neg c_11]), by show va_P D hcl _ t.heap; rw [ht]; exact hP⟩, hS.F ht⟩) hS.2.2 dMod_count_82
