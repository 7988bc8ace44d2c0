set_option maxHeartbeats 4000000 in
set_option maxRecDepth 100000 in
theorem hc_RiscHart_carryOutShort (l : Launch) {D : va_G} {cR cW cP : ClassId} {h0 h1 h2 h3 h4 : Nat} {A : Nat → Prop} {st : HS} {G : Heap} (hP : va_P D hcl (hs_W cR cW cP h0 h1 h2 h3 h4 st) G) (hD : ∀ z, va_D A (hs_W cR cW cP h0 h1 h2 h3 h4 z)) (a1 : Int32)  : Met l yHart_carryOutShort (wq yHart_carryOutShort cHart_carryOutShort 2 (some .int)) ({ frames := 4, cells := 0, slots := 0, locals := 92 }) (mk_PK D hcl [(cR, .int), (cW, .int), (cP, .int)] G [.ref h0, .int a1]) (mk_Wi (fun u t => va_P D hcl (hs_W cR cW cP h0 h1 h2 h3 h4 u) t) A (hf_RiscHart_carryOutShort st a1)) 0 0 A := by
  refine Met.ofW (cc := cHart_carryOutShort) (maxL := 2) (ret := (some .int)) (by decide) rfl ?_
  intro p e s m args below meth c s₁ B hml hv
  obtain ⟨rfl, hG, hK⟩ := hv
  subst hG
  have hx := B.exec
  have hb := B.bytes
  have hr := B.returns
  have hts := atoms_spec (ws := (wq yHart_carryOutShort cHart_carryOutShort 2 (some .int))) B.pre
  have hown : s.vm.findClass RHart = some m.cls := findClass_of_methodNamed B.named
  have hlocks := B.notSynchronized
  have hg : ∀ w ∈ lw_g, w.before _ s = true := fun w h => hts w (List.mem_cons_of_mem _ h)
  have hS : va_S A s.heap s.heap [] := va_S.rf
  have hl := lv_entry ([.ref h0, .int a1]) (n := 2) (Nat.le_of_ble_eq_true rfl)
  rw [lg_entry_eq]
  generalize (lg_sl ([.ref h0, .int a1]) ++ List.replicate (2 - (lg_sl ([.ref h0, .int a1])).length) Slot.unset).toArray = ls at hl ⊢
  have hl : lv_has ls 2 [(0, .ref h0), (1, .int a1)] := hl
  refine lv_iload_n hx hb dHart_carryOutShort_0 rfl (lv_at hl 1 rfl) ?_
  refine lv_iconst (v := 3) hx hb dHart_carryOutShort_1 (by decide) ?_
  refine lv_iand hx hb dHart_carryOutShort_2 ?_
  by_cases c_1 : (a1 &&& 3) = 0
  · refine lv_lookup (off := 25) (tgt := 28) hx hb dHart_carryOutShort_3 (by decide) (by rw [c_1]; decide) (by decide) ?_
    refine lv_aload_n hx hb dHart_carryOutShort_28 rfl (lv_at hl 0 rfl) ?_
    refine lv_iload_n hx hb dHart_carryOutShort_29 rfl (lv_at hl 1 rfl) ?_
    refine mk_callW (va_runV (As := [.int a1]) (rest := []) ⟨hx, hb, hml, hown, hts⟩ (hc_RiscHart_shortOfQ0 l hP hD a1) (cwV 1 hts (mk_gV tw_319 tw_321 tw_22 tw_46 tw_322) rfl rfl rfl hdHart_shortOfQ0 ⟨Nat.le_of_ble_eq_true rfl, Nat.le_of_ble_eq_true rfl⟩) (mk_preVK hK (va_recv hK hP (ci := 0) (q0 := 0) rfl rfl)) rfl rfl hl.1 rfl (lv_room (Nat.le_of_ble_eq_true rfl)) dHart_carryOutShort_30 ⟨Nat.zero_le _, Nat.zero_le _⟩) hS (fun H locs hP hS => ?_)
    exact W.iret hx hb hr (fun t ht hW => ⟨⟨_, (hf_RiscHart_shortOfQ0 st a1).2, rfl, (by unfold hf_RiscHart_carryOutShort; rw [if_pos c_1]), by show va_P D hcl _ t.heap; rw [ht]; exact hP⟩, hS.F ht⟩) hS.2.2 dHart_carryOutShort_33
  by_cases c_2 : (a1 &&& 3) = 1
  · refine lv_lookup (off := 31) (tgt := 34) hx hb dHart_carryOutShort_3 (by decide) (by rw [c_2]; decide) (by decide) ?_
    refine lv_aload_n hx hb dHart_carryOutShort_34 rfl (lv_at hl 0 rfl) ?_
    refine lv_iload_n hx hb dHart_carryOutShort_35 rfl (lv_at hl 1 rfl) ?_
    refine mk_callW (va_runV (As := [.int a1]) (rest := []) ⟨hx, hb, hml, hown, hts⟩ (hc_RiscHart_shortOfQ1 l hP hD a1) (cwV 1 hts (mk_gV tw_339 tw_341 tw_23 tw_46 tw_342) rfl rfl rfl hdHart_shortOfQ1 ⟨Nat.le_of_ble_eq_true rfl, Nat.le_of_ble_eq_true rfl⟩) (mk_preVK hK (va_recv hK hP (ci := 0) (q0 := 0) rfl rfl)) rfl rfl hl.1 rfl (lv_room (Nat.le_of_ble_eq_true rfl)) dHart_carryOutShort_36 ⟨Nat.zero_le _, Nat.zero_le _⟩) hS (fun H locs hP hS => ?_)
    exact W.iret hx hb hr (fun t ht hW => ⟨⟨_, (hf_RiscHart_shortOfQ1 st a1).2, rfl, (by unfold hf_RiscHart_carryOutShort; rw [if_neg c_1, if_pos c_2]), by show va_P D hcl _ t.heap; rw [ht]; exact hP⟩, hS.F ht⟩) hS.2.2 dHart_carryOutShort_39
  refine lv_lookup (off := 37) (tgt := 40) hx hb dHart_carryOutShort_3 (by decide) ((lv_osw (a := 0) c_1 rfl).trans ((lv_osw (a := 1) c_2 rfl).trans (rfl))) (by decide) ?_
  refine lv_aload_n hx hb dHart_carryOutShort_40 rfl (lv_at hl 0 rfl) ?_
  refine lv_iload_n hx hb dHart_carryOutShort_41 rfl (lv_at hl 1 rfl) ?_
  refine mk_callW (va_runV (As := [.int a1]) (rest := []) ⟨hx, hb, hml, hown, hts⟩ (hc_RiscHart_shortOfQ2 l hP hD a1) (cwV 1 hts (mk_gV tw_381 tw_383 tw_27 tw_46 tw_384) rfl rfl rfl hdHart_shortOfQ2 ⟨Nat.le_of_ble_eq_true rfl, Nat.le_of_ble_eq_true rfl⟩) (mk_preVK hK (va_recv hK hP (ci := 0) (q0 := 0) rfl rfl)) rfl rfl hl.1 rfl (lv_room (Nat.le_of_ble_eq_true rfl)) dHart_carryOutShort_42 ⟨Nat.zero_le _, Nat.zero_le _⟩) hS (fun H locs hP hS => ?_)
  exact W.iret hx hb hr (fun t ht hW => ⟨⟨_, (hf_RiscHart_shortOfQ2 st a1).2, rfl, (by unfold hf_RiscHart_carryOutShort; rw [if_neg c_1, if_neg c_2]), by show va_P D hcl _ t.heap; rw [ht]; exact hP⟩, hS.F ht⟩) hS.2.2 dHart_carryOutShort_45
set_option maxHeartbeats 4000000 in
set_option maxRecDepth 100000 in
theorem hc_RiscHart_carryOutNext (l : Launch) {D : va_G} {cR cW cP : ClassId} {h0 h1 h2 h3 h4 : Nat} {A : Nat → Prop} {st : HS} {G : Heap} (hP : va_P D hcl (hs_W cR cW cP h0 h1 h2 h3 h4 st) G) (hD : ∀ z, va_D A (hs_W cR cW cP h0 h1 h2 h3 h4 z))   : Met l yHart_carryOutNext (wq yHart_carryOutNext cHart_carryOutNext 4 (some .int)) ({ frames := 5, cells := 0, slots := 0, locals := 117 }) (mk_PK D hcl [(cR, .int), (cW, .int), (cP, .int)] G [.ref h0]) (mk_Wi (fun u t => va_P D hcl (hs_W cR cW cP h0 h1 h2 h3 h4 u) t) A (hf_RiscHart_carryOutNext st)) 0 0 A := by
  refine Met.ofW (cc := cHart_carryOutNext) (maxL := 4) (ret := (some .int)) (by decide) rfl ?_
  intro p e s m args below meth c s₁ B hml hv
  obtain ⟨rfl, hG, hK⟩ := hv
  subst hG
  have hx := B.exec
  have hb := B.bytes
  have hr := B.returns
  have hts := atoms_spec (ws := (wq yHart_carryOutNext cHart_carryOutNext 4 (some .int))) B.pre
  have hown : s.vm.findClass RHart = some m.cls := findClass_of_methodNamed B.named
  have hlocks := B.notSynchronized
  have hg : ∀ w ∈ lw_g, w.before _ s = true := fun w h => hts w (List.mem_cons_of_mem _ h)
  have hS : va_S A s.heap s.heap [] := va_S.rf
  have hl := lv_entry ([.ref h0]) (n := 4) (Nat.le_of_ble_eq_true rfl)
  rw [lg_entry_eq]
  generalize (lg_sl ([.ref h0]) ++ List.replicate (4 - (lg_sl ([.ref h0])).length) Slot.unset).toArray = ls at hl ⊢
  have hl : lv_has ls 4 [(0, .ref h0)] := hl
  refine lv_aload_n hx hb dHart_carryOutNext_0 rfl (lv_at hl 0 rfl) ?_
  refine va_get (D := D) (ci := 0) (v := .ref h1) (C := RHart) (T := THart) (N := 8) hx hb hg inHart hown hK hP 0 rfl rfl 0 (by decide) (hg _ tw_83) (fun _ h9 => h9) rfl dHart_carryOutNext_1 ?_
  refine lv_aload_n hx hb dHart_carryOutNext_4 rfl (lv_at hl 0 rfl) ?_
  refine va_get (D := D) (ci := 0) (v := .int (hs_place st)) (C := RHart) (T := THart) (N := 8) hx hb hg inHart hown hK hP 0 rfl rfl 2 (by decide) (hg _ tw_85) (fun _ h9 => h9) rfl dHart_carryOutNext_5 ?_
  refine mk_callR (va_runV (As := [.int (hs_place st)]) (rest := []) ⟨hx, hb, hml, hown, hts⟩ (hc_Memory_mayCarryOut l hP (hs_place st)) (cwV 1 hts (mk_gV tw_124 tw_125 tw_126 tw_47 tw_127) rfl rfl rfl hdMem_mayCarryOut ⟨Nat.le_of_ble_eq_true rfl, Nat.le_of_ble_eq_true rfl⟩) (mk_preVK hK (va_recv hK hP (ci := 1) (q0 := 1) rfl rfl)) rfl rfl hl.1 rfl (lv_room (Nat.le_of_ble_eq_true rfl)) dHart_carryOutNext_8 ⟨Nat.zero_le _, Nat.zero_le _⟩) ?_
  refine lv_if_ne (tgt := 24) hx hb dHart_carryOutNext_11 (by decide) (fun c_1 => ?_) (fun c_1 => ?_)
  · refine lv_aload_n hx hb dHart_carryOutNext_24 rfl (lv_at hl 0 rfl) ?_
    refine va_get (D := D) (ci := 0) (v := .ref h1) (C := RHart) (T := THart) (N := 8) hx hb hg inHart hown hK hP 0 rfl rfl 0 (by decide) (hg _ tw_83) (fun _ h9 => h9) rfl dHart_carryOutNext_25 ?_
    refine lv_iconst (v := 5) hx hb dHart_carryOutNext_28 (by decide) ?_
    refine lv_aload_n hx hb dHart_carryOutNext_29 rfl (lv_at hl 0 rfl) ?_
    refine va_get (D := D) (ci := 0) (v := .int (hs_place st)) (C := RHart) (T := THart) (N := 8) hx hb hg inHart hown hK hP 0 rfl rfl 2 (by decide) (hg _ tw_85) (fun _ h9 => h9) rfl dHart_carryOutNext_30 ?_
    refine mk_callR (va_runV (As := [.int 5, .int (hs_place st)]) (rest := []) ⟨hx, hb, hml, hown, hts⟩ (hc_Memory_read l hP 5 (hs_place st)) (cwV 2 hts (mk_gV tw_143 tw_144 tw_145 tw_47 tw_146) rfl rfl rfl hdMem_read ⟨Nat.le_of_ble_eq_true rfl, Nat.le_of_ble_eq_true rfl⟩) (mk_preVK hK (va_recv hK hP (ci := 1) (q0 := 1) rfl rfl)) rfl rfl hl.1 rfl (lv_room (Nat.le_of_ble_eq_true rfl)) dHart_carryOutNext_33 ⟨Nat.zero_le _, Nat.zero_le _⟩) ?_
    refine lv_istore_n (lv' := [(1, .int (hf_Memory_read st 5 (hs_place st))), (0, .ref h0)]) hx hb dHart_carryOutNext_36 rfl hl (by decide) rfl (fun ls hl => ?_)
    refine lv_iload_n hx hb dHart_carryOutNext_37 rfl (lv_at hl 0 rfl) ?_
    refine lv_iconst (v := 3) hx hb dHart_carryOutNext_38 (by decide) ?_
    refine lv_iand hx hb dHart_carryOutNext_39 ?_
    refine lv_iconst (v := 3) hx hb dHart_carryOutNext_40 (by decide) ?_
    refine lv_icmp_ne (tgt := 48) hx hb dHart_carryOutNext_41 (by decide) (fun c_2 => ?_) (fun c_2 => ?_)
    · refine lv_iconst (v := 0) hx hb dHart_carryOutNext_48 (by decide) ?_
      refine lv_istore_n (lv' := [(2, .int 0), (1, .int (hf_Memory_read st 5 (hs_place st))), (0, .ref h0)]) hx hb dHart_carryOutNext_49 rfl hl (by decide) rfl (fun ls hl => ?_)
      refine lv_iload_n hx hb dHart_carryOutNext_50 rfl (lv_at hl 0 rfl) ?_
      refine lv_if_eq (tgt := 80) hx hb dHart_carryOutNext_51 (by decide) (fun c_3 => ?_) (fun c_3 => ?_)
      · refine lv_aload_n hx hb dHart_carryOutNext_80 rfl (lv_at hl 2 rfl) ?_
        refine lv_aload_n hx hb dHart_carryOutNext_81 rfl (lv_at hl 2 rfl) ?_
        refine va_get (D := D) (ci := 0) (v := .int (hs_place st)) (C := RHart) (T := THart) (N := 8) hx hb hg inHart hown hK hP 0 rfl rfl 2 (by decide) (hg _ tw_85) (fun _ h9 => h9) rfl dHart_carryOutNext_82 ?_
        refine lv_iload_n hx hb dHart_carryOutNext_85 rfl (lv_at hl 0 rfl) ?_
        refine lv_if_eq (tgt := 93) hx hb dHart_carryOutNext_86 (by decide) (fun c_4 => ?_) (fun c_4 => ?_)
        · refine lv_iconst (v := 2) hx hb dHart_carryOutNext_93 (by decide) ?_
          refine lv_iadd hx hb dHart_carryOutNext_94 ?_
          refine lv_topi (fun y_5 ey_5 => ?_)
          refine va_put (D := D) (ci := 0) (v := .int y_5) (ty := .int) (C := RHart) (T := THart) (N := 8) hx hb hg inHart tyHart tyHart_ok nmHart hown hK hP (hD _) hS 0 rfl rfl 3 (by decide) (hg _ tw_86) (fun _ h9 => h9) rfl (by decide +kernel) rfl rfl (Nat.le_of_ble_eq_true rfl) dHart_carryOutNext_95 (fun H locs hP _ hS => ?_)
          have hP : va_P D hcl (hs_W cR cW cP h0 h1 h2 h3 h4 (hs_set_behind st y_5)) H := hP
          subst ey_5
          refine lv_iload_n hx hb dHart_carryOutNext_98 rfl (lv_at hl 0 rfl) ?_
          refine lv_if_eq (tgt := 114) hx hb dHart_carryOutNext_99 (by decide) (fun c_6 => ?_) (fun c_6 => ?_)
          · refine lv_aload_n hx hb dHart_carryOutNext_114 rfl (lv_at hl 2 rfl) ?_
            refine lv_iload_n hx hb dHart_carryOutNext_115 rfl (lv_at hl 1 rfl) ?_
            refine mk_callW (va_runV (As := [.int (hf_Memory_read st 5 (hs_place st))]) (rest := []) ⟨hx, hb, hml, hown, hts⟩ (hc_RiscHart_carryOutShort l hP hD (hf_Memory_read st 5 (hs_place st))) (cwV 1 hts (mk_gV tw_315 tw_317 tw_21 tw_46 tw_318) rfl rfl rfl hdHart_carryOutShort ⟨Nat.le_of_ble_eq_true rfl, Nat.le_of_ble_eq_true rfl⟩) (mk_preVK hK (va_recv hK hP (ci := 0) (q0 := 0) rfl rfl)) rfl rfl hl.1 rfl (lv_room (Nat.le_of_ble_eq_true rfl)) dHart_carryOutNext_116 ⟨Nat.zero_le _, Nat.zero_le _⟩) hS (fun H locs hP hS => ?_)
            refine lv_istore_n (lv' := [(3, .int ((hf_RiscHart_carryOutShort (hs_set_behind st ((hs_place st) + 2)) (hf_Memory_read st 5 (hs_place st))).1)), (2, .int 0), (1, .int (hf_Memory_read st 5 (hs_place st))), (0, .ref h0)]) hx hb dHart_carryOutNext_119 rfl hl (by decide) rfl (fun ls hl => ?_)
            refine lv_iload_n hx hb dHart_carryOutNext_120 rfl (lv_at hl 0 rfl) ?_
            refine lv_if_ne (tgt := 142) hx hb dHart_carryOutNext_121 (by decide) (fun c_7 => ?_) (fun c_7 => ?_)
            · refine lv_iload_n hx hb dHart_carryOutNext_142 rfl (lv_at hl 0 rfl) ?_
              exact W.iret hx hb hr (fun t ht hW => ⟨⟨_, (hf_RiscHart_carryOutShort (hs_set_behind st ((hs_place st) + 2)) (hf_Memory_read st 5 (hs_place st))).2, rfl, (by unfold hf_RiscHart_carryOutNext; rw [if_neg c_1, if_neg c_2, if_neg c_7]), by show va_P D hcl _ t.heap; rw [ht]; exact hP⟩, hS.F ht⟩) hS.2.2 dHart_carryOutNext_143
            · refine lv_aload_n hx hb dHart_carryOutNext_124 rfl (lv_at hl 3 rfl) ?_
              refine lv_dup hx hb dHart_carryOutNext_125 rfl ?_
              refine va_get (D := D) (ci := 0) (v := .long (hs_retired ((hf_RiscHart_carryOutShort (hs_set_behind st ((hs_place st) + 2)) (hf_Memory_read st 5 (hs_place st))).2))) (C := RHart) (T := THart) (N := 8) hx hb hg inHart hown hK hP 0 rfl rfl 6 (by decide) (hg _ tw_89) (fun _ h9 => h9) rfl dHart_carryOutNext_126 ?_
              refine lv_lconst (v := 1) hx hb dHart_carryOutNext_129 (by decide) ?_
              refine lv_ladd hx hb dHart_carryOutNext_130 ?_
              refine lv_topl (fun y_8 ey_8 => ?_)
              obtain ⟨z_9, ez_9⟩ : ∃ z, z = (hf_RiscHart_carryOutShort (hs_set_behind st ((hs_place st) + 2)) (hf_Memory_read st 5 (hs_place st))).2 := ⟨_, rfl⟩
              rw [← ez_9] at hP
              refine va_put (D := D) (ci := 0) (v := .long y_8) (ty := .long) (C := RHart) (T := THart) (N := 8) hx hb hg inHart tyHart tyHart_ok nmHart hown hK hP (hD _) hS 0 rfl rfl 6 (by decide) (hg _ tw_89) (fun _ h9 => h9) rfl (by decide +kernel) rfl rfl (Nat.le_of_ble_eq_true rfl) dHart_carryOutNext_131 (fun H locs hP _ hS => ?_)
              have hP : va_P D hcl (hs_W cR cW cP h0 h1 h2 h3 h4 (hs_set_retired z_9 y_8)) H := hP
              subst ey_8
              subst ez_9
              refine lv_aload_n hx hb dHart_carryOutNext_134 rfl (lv_at hl 3 rfl) ?_
              refine lv_aload_n hx hb dHart_carryOutNext_135 rfl (lv_at hl 3 rfl) ?_
              refine va_get (D := D) (ci := 0) (v := .int (hs_behind ((hf_RiscHart_carryOutShort (hs_set_behind st ((hs_place st) + 2)) (hf_Memory_read st 5 (hs_place st))).2))) (C := RHart) (T := THart) (N := 8) hx hb hg inHart hown hK hP 0 rfl rfl 3 (by decide) (hg _ tw_86) (fun _ h9 => h9) rfl dHart_carryOutNext_136 ?_
              refine lv_topi (fun y_10 ey_10 => ?_)
              obtain ⟨z_11, ez_11⟩ : ∃ z, z = (hs_set_retired ((hf_RiscHart_carryOutShort (hs_set_behind st ((hs_place st) + 2)) (hf_Memory_read st 5 (hs_place st))).2) ((hs_retired ((hf_RiscHart_carryOutShort (hs_set_behind st ((hs_place st) + 2)) (hf_Memory_read st 5 (hs_place st))).2)) + 1)) := ⟨_, rfl⟩
              rw [← ez_11] at hP
              refine va_put (D := D) (ci := 0) (v := .int y_10) (ty := .int) (C := RHart) (T := THart) (N := 8) hx hb hg inHart tyHart tyHart_ok nmHart hown hK hP (hD _) hS 0 rfl rfl 2 (by decide) (hg _ tw_85) (fun _ h9 => h9) rfl (by decide +kernel) rfl rfl (Nat.le_of_ble_eq_true rfl) dHart_carryOutNext_139 (fun H locs hP _ hS => ?_)
              have hP : va_P D hcl (hs_W cR cW cP h0 h1 h2 h3 h4 (hs_set_place z_11 y_10)) H := hP
              subst ey_10
              subst ez_11
              refine lv_iload_n hx hb dHart_carryOutNext_142 rfl (lv_at hl 0 rfl) ?_
              exact W.iret hx hb hr (fun t ht hW => ⟨⟨_, (hs_set_place (hs_set_retired ((hf_RiscHart_carryOutShort (hs_set_behind st ((hs_place st) + 2)) (hf_Memory_read st 5 (hs_place st))).2) ((hs_retired ((hf_RiscHart_carryOutShort (hs_set_behind st ((hs_place st) + 2)) (hf_Memory_read st 5 (hs_place st))).2)) + 1)) (hs_behind ((hf_RiscHart_carryOutShort (hs_set_behind st ((hs_place st) + 2)) (hf_Memory_read st 5 (hs_place st))).2))), rfl, (by unfold hf_RiscHart_carryOutNext; rw [if_neg c_1, if_neg c_2, if_pos c_7]), by show va_P D hcl _ t.heap; rw [ht]; exact hP⟩, hS.F ht⟩) hS.2.2 dHart_carryOutNext_143
          · exact absurd c_6 (by decide)
        · exact absurd c_4 (by decide)
      · exact absurd c_3 (by decide)
    · refine lv_iconst (v := 1) hx hb dHart_carryOutNext_44 (by decide) ?_
      refine lv_goto (tgt := 49) hx hb dHart_carryOutNext_45 (by decide) ?_
      refine lv_istore_n (lv' := [(2, .int 1), (1, .int (hf_Memory_read st 5 (hs_place st))), (0, .ref h0)]) hx hb dHart_carryOutNext_49 rfl hl (by decide) rfl (fun ls hl => ?_)
      refine lv_iload_n hx hb dHart_carryOutNext_50 rfl (lv_at hl 0 rfl) ?_
      refine lv_if_eq (tgt := 80) hx hb dHart_carryOutNext_51 (by decide) (fun c_12 => ?_) (fun c_12 => ?_)
      · exact absurd c_12 (by decide)
      · refine lv_aload_n hx hb dHart_carryOutNext_54 rfl (lv_at hl 2 rfl) ?_
        refine va_get (D := D) (ci := 0) (v := .ref h1) (C := RHart) (T := THart) (N := 8) hx hb hg inHart hown hK hP 0 rfl rfl 0 (by decide) (hg _ tw_83) (fun _ h9 => h9) rfl dHart_carryOutNext_55 ?_
        refine lv_aload_n hx hb dHart_carryOutNext_58 rfl (lv_at hl 2 rfl) ?_
        refine va_get (D := D) (ci := 0) (v := .int (hs_place st)) (C := RHart) (T := THart) (N := 8) hx hb hg inHart hown hK hP 0 rfl rfl 2 (by decide) (hg _ tw_85) (fun _ h9 => h9) rfl dHart_carryOutNext_59 ?_
        refine lv_iconst (v := 2) hx hb dHart_carryOutNext_62 (by decide) ?_
        refine lv_iadd hx hb dHart_carryOutNext_63 ?_
        refine mk_callR (va_runV (As := [.int ((hs_place st) + 2)]) (rest := []) ⟨hx, hb, hml, hown, hts⟩ (hc_Memory_mayCarryOut l hP ((hs_place st) + 2)) (cwV 1 hts (mk_gV tw_124 tw_125 tw_126 tw_47 tw_127) rfl rfl rfl hdMem_mayCarryOut ⟨Nat.le_of_ble_eq_true rfl, Nat.le_of_ble_eq_true rfl⟩) (mk_preVK hK (va_recv hK hP (ci := 1) (q0 := 1) rfl rfl)) rfl rfl hl.1 rfl (lv_room (Nat.le_of_ble_eq_true rfl)) dHart_carryOutNext_64 ⟨Nat.zero_le _, Nat.zero_le _⟩) ?_
        refine lv_if_ne (tgt := 80) hx hb dHart_carryOutNext_67 (by decide) (fun c_13 => ?_) (fun c_13 => ?_)
        · refine lv_aload_n hx hb dHart_carryOutNext_80 rfl (lv_at hl 2 rfl) ?_
          refine lv_aload_n hx hb dHart_carryOutNext_81 rfl (lv_at hl 2 rfl) ?_
          refine va_get (D := D) (ci := 0) (v := .int (hs_place st)) (C := RHart) (T := THart) (N := 8) hx hb hg inHart hown hK hP 0 rfl rfl 2 (by decide) (hg _ tw_85) (fun _ h9 => h9) rfl dHart_carryOutNext_82 ?_
          refine lv_iload_n hx hb dHart_carryOutNext_85 rfl (lv_at hl 0 rfl) ?_
          refine lv_if_eq (tgt := 93) hx hb dHart_carryOutNext_86 (by decide) (fun c_14 => ?_) (fun c_14 => ?_)
          · exact absurd c_14 (by decide)
          · refine lv_iconst (v := 4) hx hb dHart_carryOutNext_89 (by decide) ?_
            refine lv_goto (tgt := 94) hx hb dHart_carryOutNext_90 (by decide) ?_
            refine lv_iadd hx hb dHart_carryOutNext_94 ?_
            refine lv_topi (fun y_15 ey_15 => ?_)
            refine va_put (D := D) (ci := 0) (v := .int y_15) (ty := .int) (C := RHart) (T := THart) (N := 8) hx hb hg inHart tyHart tyHart_ok nmHart hown hK hP (hD _) hS 0 rfl rfl 3 (by decide) (hg _ tw_86) (fun _ h9 => h9) rfl (by decide +kernel) rfl rfl (Nat.le_of_ble_eq_true rfl) dHart_carryOutNext_95 (fun H locs hP _ hS => ?_)
            have hP : va_P D hcl (hs_W cR cW cP h0 h1 h2 h3 h4 (hs_set_behind st y_15)) H := hP
            subst ey_15
            refine lv_iload_n hx hb dHart_carryOutNext_98 rfl (lv_at hl 0 rfl) ?_
            refine lv_if_eq (tgt := 114) hx hb dHart_carryOutNext_99 (by decide) (fun c_16 => ?_) (fun c_16 => ?_)
            · exact absurd c_16 (by decide)
            · refine lv_aload_n hx hb dHart_carryOutNext_102 rfl (lv_at hl 2 rfl) ?_
              refine lv_aload_n hx hb dHart_carryOutNext_103 rfl (lv_at hl 2 rfl) ?_
              refine lv_iload_n hx hb dHart_carryOutNext_104 rfl (lv_at hl 1 rfl) ?_
              refine mk_callR (va_runV (As := [.int (hf_Memory_read st 5 (hs_place st))]) (rest := [.ref h0]) ⟨hx, hb, hml, hown, hts⟩ (hc_RiscHart_longFrom l hP (hf_Memory_read st 5 (hs_place st))) (cwV 1 hts (mk_gV tw_153 tw_155 tw_2 tw_46 tw_156) rfl rfl rfl hdHart_longFrom ⟨Nat.le_of_ble_eq_true rfl, Nat.le_of_ble_eq_true rfl⟩) (mk_preVK hK (va_recv hK hP (ci := 0) (q0 := 0) rfl rfl)) rfl rfl hl.1 rfl (lv_room (Nat.le_of_ble_eq_true rfl)) dHart_carryOutNext_105 ⟨Nat.zero_le _, Nat.zero_le _⟩) ?_
              refine mk_callW (va_runV (As := [.int (hf_RiscHart_longFrom (hs_set_behind st ((hs_place st) + 4)) (hf_Memory_read st 5 (hs_place st)))]) (rest := []) ⟨hx, hb, hml, hown, hts⟩ (hc_RiscHart_carryOutLong l hP hD (hf_RiscHart_longFrom (hs_set_behind st ((hs_place st) + 4)) (hf_Memory_read st 5 (hs_place st)))) (cwV 1 hts (mk_gV tw_157 tw_159 tw_3 tw_46 tw_160) rfl rfl rfl hdHart_carryOutLong ⟨Nat.le_of_ble_eq_true rfl, Nat.le_of_ble_eq_true rfl⟩) (mk_preVK hK (va_recv hK hP (ci := 0) (q0 := 0) rfl rfl)) rfl rfl hl.1 rfl (lv_room (Nat.le_of_ble_eq_true rfl)) dHart_carryOutNext_108 ⟨Nat.zero_le _, Nat.zero_le _⟩) hS (fun H locs hP hS => ?_)
              refine lv_goto (tgt := 119) hx hb dHart_carryOutNext_111 (by decide) ?_
              refine lv_istore_n (lv' := [(3, .int ((hf_RiscHart_carryOutLong (hs_set_behind st ((hs_place st) + 4)) (hf_RiscHart_longFrom (hs_set_behind st ((hs_place st) + 4)) (hf_Memory_read st 5 (hs_place st)))).1)), (2, .int 1), (1, .int (hf_Memory_read st 5 (hs_place st))), (0, .ref h0)]) hx hb dHart_carryOutNext_119 rfl hl (by decide) rfl (fun ls hl => ?_)
              refine lv_iload_n hx hb dHart_carryOutNext_120 rfl (lv_at hl 0 rfl) ?_
              refine lv_if_ne (tgt := 142) hx hb dHart_carryOutNext_121 (by decide) (fun c_17 => ?_) (fun c_17 => ?_)
              · refine lv_iload_n hx hb dHart_carryOutNext_142 rfl (lv_at hl 0 rfl) ?_
                exact W.iret hx hb hr (fun t ht hW => ⟨⟨_, (hf_RiscHart_carryOutLong (hs_set_behind st ((hs_place st) + 4)) (hf_RiscHart_longFrom (hs_set_behind st ((hs_place st) + 4)) (hf_Memory_read st 5 (hs_place st)))).2, rfl, (by unfold hf_RiscHart_carryOutNext; rw [if_neg c_1, if_pos c_2, if_neg c_13, if_neg c_17]), by show va_P D hcl _ t.heap; rw [ht]; exact hP⟩, hS.F ht⟩) hS.2.2 dHart_carryOutNext_143
              · refine lv_aload_n hx hb dHart_carryOutNext_124 rfl (lv_at hl 3 rfl) ?_
                refine lv_dup hx hb dHart_carryOutNext_125 rfl ?_
                refine va_get (D := D) (ci := 0) (v := .long (hs_retired ((hf_RiscHart_carryOutLong (hs_set_behind st ((hs_place st) + 4)) (hf_RiscHart_longFrom (hs_set_behind st ((hs_place st) + 4)) (hf_Memory_read st 5 (hs_place st)))).2))) (C := RHart) (T := THart) (N := 8) hx hb hg inHart hown hK hP 0 rfl rfl 6 (by decide) (hg _ tw_89) (fun _ h9 => h9) rfl dHart_carryOutNext_126 ?_
                refine lv_lconst (v := 1) hx hb dHart_carryOutNext_129 (by decide) ?_
                refine lv_ladd hx hb dHart_carryOutNext_130 ?_
                refine lv_topl (fun y_18 ey_18 => ?_)
                obtain ⟨z_19, ez_19⟩ : ∃ z, z = (hf_RiscHart_carryOutLong (hs_set_behind st ((hs_place st) + 4)) (hf_RiscHart_longFrom (hs_set_behind st ((hs_place st) + 4)) (hf_Memory_read st 5 (hs_place st)))).2 := ⟨_, rfl⟩
                rw [← ez_19] at hP
                refine va_put (D := D) (ci := 0) (v := .long y_18) (ty := .long) (C := RHart) (T := THart) (N := 8) hx hb hg inHart tyHart tyHart_ok nmHart hown hK hP (hD _) hS 0 rfl rfl 6 (by decide) (hg _ tw_89) (fun _ h9 => h9) rfl (by decide +kernel) rfl rfl (Nat.le_of_ble_eq_true rfl) dHart_carryOutNext_131 (fun H locs hP _ hS => ?_)
                have hP : va_P D hcl (hs_W cR cW cP h0 h1 h2 h3 h4 (hs_set_retired z_19 y_18)) H := hP
                subst ey_18
                subst ez_19
                refine lv_aload_n hx hb dHart_carryOutNext_134 rfl (lv_at hl 3 rfl) ?_
                refine lv_aload_n hx hb dHart_carryOutNext_135 rfl (lv_at hl 3 rfl) ?_
                refine va_get (D := D) (ci := 0) (v := .int (hs_behind ((hf_RiscHart_carryOutLong (hs_set_behind st ((hs_place st) + 4)) (hf_RiscHart_longFrom (hs_set_behind st ((hs_place st) + 4)) (hf_Memory_read st 5 (hs_place st)))).2))) (C := RHart) (T := THart) (N := 8) hx hb hg inHart hown hK hP 0 rfl rfl 3 (by decide) (hg _ tw_86) (fun _ h9 => h9) rfl dHart_carryOutNext_136 ?_
                refine lv_topi (fun y_20 ey_20 => ?_)
                obtain ⟨z_21, ez_21⟩ : ∃ z, z = (hs_set_retired ((hf_RiscHart_carryOutLong (hs_set_behind st ((hs_place st) + 4)) (hf_RiscHart_longFrom (hs_set_behind st ((hs_place st) + 4)) (hf_Memory_read st 5 (hs_place st)))).2) ((hs_retired ((hf_RiscHart_carryOutLong (hs_set_behind st ((hs_place st) + 4)) (hf_RiscHart_longFrom (hs_set_behind st ((hs_place st) + 4)) (hf_Memory_read st 5 (hs_place st)))).2)) + 1)) := ⟨_, rfl⟩
                rw [← ez_21] at hP
                refine va_put (D := D) (ci := 0) (v := .int y_20) (ty := .int) (C := RHart) (T := THart) (N := 8) hx hb hg inHart tyHart tyHart_ok nmHart hown hK hP (hD _) hS 0 rfl rfl 2 (by decide) (hg _ tw_85) (fun _ h9 => h9) rfl (by decide +kernel) rfl rfl (Nat.le_of_ble_eq_true rfl) dHart_carryOutNext_139 (fun H locs hP _ hS => ?_)
                have hP : va_P D hcl (hs_W cR cW cP h0 h1 h2 h3 h4 (hs_set_place z_21 y_20)) H := hP
                subst ey_20
                subst ez_21
                refine lv_iload_n hx hb dHart_carryOutNext_142 rfl (lv_at hl 0 rfl) ?_
                exact W.iret hx hb hr (fun t ht hW => ⟨⟨_, (hs_set_place (hs_set_retired ((hf_RiscHart_carryOutLong (hs_set_behind st ((hs_place st) + 4)) (hf_RiscHart_longFrom (hs_set_behind st ((hs_place st) + 4)) (hf_Memory_read st 5 (hs_place st)))).2) ((hs_retired ((hf_RiscHart_carryOutLong (hs_set_behind st ((hs_place st) + 4)) (hf_RiscHart_longFrom (hs_set_behind st ((hs_place st) + 4)) (hf_Memory_read st 5 (hs_place st)))).2)) + 1)) (hs_behind ((hf_RiscHart_carryOutLong (hs_set_behind st ((hs_place st) + 4)) (hf_RiscHart_longFrom (hs_set_behind st ((hs_place st) + 4)) (hf_Memory_read st 5 (hs_place st)))).2))), rfl, (by unfold hf_RiscHart_carryOutNext; rw [if_neg c_1, if_pos c_2, if_neg c_13, if_pos c_17]), by show va_P D hcl _ t.heap; rw [ht]; exact hP⟩, hS.F ht⟩) hS.2.2 dHart_carryOutNext_143
        · refine lv_aload_n hx hb dHart_carryOutNext_70 rfl (lv_at hl 2 rfl) ?_
          refine lv_iconst (v := 1) hx hb dHart_carryOutNext_71 (by decide) ?_
          refine lv_aload_n hx hb dHart_carryOutNext_72 rfl (lv_at hl 2 rfl) ?_
          refine va_get (D := D) (ci := 0) (v := .int (hs_place st)) (C := RHart) (T := THart) (N := 8) hx hb hg inHart hown hK hP 0 rfl rfl 2 (by decide) (hg _ tw_85) (fun _ h9 => h9) rfl dHart_carryOutNext_73 ?_
          refine mk_callW (va_runV (As := [.int 1, .int (hs_place st)]) (rest := []) ⟨hx, hb, hml, hown, hts⟩ (hc_RiscHart_trap l hP hD 1 (hs_place st)) (cwV 2 hts (mk_gV tw_139 tw_141 tw_1 tw_46 tw_142) rfl rfl rfl hdHart_trap ⟨Nat.le_of_ble_eq_true rfl, Nat.le_of_ble_eq_true rfl⟩) (mk_preVK hK (va_recv hK hP (ci := 0) (q0 := 0) rfl rfl)) rfl rfl hl.1 rfl (lv_room (Nat.le_of_ble_eq_true rfl)) dHart_carryOutNext_76 ⟨Nat.zero_le _, Nat.zero_le _⟩) hS (fun H locs hP hS => ?_)
          exact W.iret hx hb hr (fun t ht hW => ⟨⟨_, (hf_RiscHart_trap st 1 (hs_place st)).2, rfl, (by unfold hf_RiscHart_carryOutNext; rw [if_neg c_1, if_pos c_2, if_pos c_13]), by show va_P D hcl _ t.heap; rw [ht]; exact hP⟩, hS.F ht⟩) hS.2.2 dHart_carryOutNext_79
  · refine lv_aload_n hx hb dHart_carryOutNext_14 rfl (lv_at hl 0 rfl) ?_
    refine lv_iconst (v := 1) hx hb dHart_carryOutNext_15 (by decide) ?_
    refine lv_aload_n hx hb dHart_carryOutNext_16 rfl (lv_at hl 0 rfl) ?_
    refine va_get (D := D) (ci := 0) (v := .int (hs_place st)) (C := RHart) (T := THart) (N := 8) hx hb hg inHart hown hK hP 0 rfl rfl 2 (by decide) (hg _ tw_85) (fun _ h9 => h9) rfl dHart_carryOutNext_17 ?_
    refine mk_callW (va_runV (As := [.int 1, .int (hs_place st)]) (rest := []) ⟨hx, hb, hml, hown, hts⟩ (hc_RiscHart_trap l hP hD 1 (hs_place st)) (cwV 2 hts (mk_gV tw_139 tw_141 tw_1 tw_46 tw_142) rfl rfl rfl hdHart_trap ⟨Nat.le_of_ble_eq_true rfl, Nat.le_of_ble_eq_true rfl⟩) (mk_preVK hK (va_recv hK hP (ci := 0) (q0 := 0) rfl rfl)) rfl rfl hl.1 rfl (lv_room (Nat.le_of_ble_eq_true rfl)) dHart_carryOutNext_20 ⟨Nat.zero_le _, Nat.zero_le _⟩) hS (fun H locs hP hS => ?_)
    exact W.iret hx hb hr (fun t ht hW => ⟨⟨_, (hf_RiscHart_trap st 1 (hs_place st)).2, rfl, (by unfold hf_RiscHart_carryOutNext; rw [if_pos c_1]), by show va_P D hcl _ t.heap; rw [ht]; exact hP⟩, hS.F ht⟩) hS.2.2 dHart_carryOutNext_23
set_option maxHeartbeats 4000000 in
set_option maxRecDepth 100000 in
theorem hc_RiscHart_step (l : Launch) {D : va_G} {cR cW cP : ClassId} {h0 h1 h2 h3 h4 : Nat} {A : Nat → Prop} {st : HS} {G : Heap} (hP : va_P D hcl (hs_W cR cW cP h0 h1 h2 h3 h4 st) G) (hD : ∀ z, va_D A (hs_W cR cW cP h0 h1 h2 h3 h4 z))   : Met l yHart_step (wq yHart_step cHart_step 1 (some .int)) ({ frames := 6, cells := 0, slots := 0, locals := 140 }) (mk_PK D hcl [(cR, .int), (cW, .int), (cP, .int)] G [.ref h0]) (mk_Wi (fun u t => va_P D hcl (hs_W cR cW cP h0 h1 h2 h3 h4 u) t) A (hf_RiscHart_step st)) 0 0 A := by
  refine Met.ofW (cc := cHart_step) (maxL := 1) (ret := (some .int)) (by decide) rfl ?_
  intro p e s m args below meth c s₁ B hml hv
  obtain ⟨rfl, hG, hK⟩ := hv
  subst hG
  have hx := B.exec
  have hb := B.bytes
  have hr := B.returns
  have hts := atoms_spec (ws := (wq yHart_step cHart_step 1 (some .int))) B.pre
  have hown : s.vm.findClass RHart = some m.cls := findClass_of_methodNamed B.named
  have hlocks := B.notSynchronized
  have hg : ∀ w ∈ lw_g, w.before _ s = true := fun w h => hts w (List.mem_cons_of_mem _ h)
  have hS : va_S A s.heap s.heap [] := va_S.rf
  have hl := lv_entry ([.ref h0]) (n := 1) (Nat.le_of_ble_eq_true rfl)
  rw [lg_entry_eq]
  generalize (lg_sl ([.ref h0]) ++ List.replicate (1 - (lg_sl ([.ref h0])).length) Slot.unset).toArray = ls at hl ⊢
  have hl : lv_has ls 1 [(0, .ref h0)] := hl
  refine lv_aload_n hx hb dHart_step_0 rfl (lv_at hl 0 rfl) ?_
  refine mk_callW (va_runV (As := []) (rest := []) ⟨hx, hb, hml, hown, hts⟩ (hc_RiscHart_carryOutNext l hP hD) (cwV 0 hts (mk_gV tw_120 tw_122 tw_0 tw_46 tw_123) rfl rfl rfl hdHart_carryOutNext ⟨Nat.le_of_ble_eq_true rfl, Nat.le_of_ble_eq_true rfl⟩) (mk_preVK hK (va_recv hK hP (ci := 0) (q0 := 0) rfl rfl)) rfl rfl hl.1 rfl (lv_room (Nat.le_of_ble_eq_true rfl)) dHart_step_1 ⟨Nat.zero_le _, Nat.zero_le _⟩) hS (fun H locs hP hS => ?_)
  exact W.iret hx hb hr (fun t ht hW => ⟨⟨_, (hf_RiscHart_carryOutNext st).2, rfl, rfl, by show va_P D hcl _ t.heap; rw [ht]; exact hP⟩, hS.F ht⟩) hS.2.2 dHart_step_4
