set_option maxHeartbeats 4000000 in
set_option maxRecDepth 100000 in
theorem mc_RiscHartModel_carry (l : Launch) {D : va_G} {cB cO cX : ClassId} {m0 m1 m2 m3 : Nat} {A : Nat → Prop} {st : MS} {G : Heap} (hP : va_P D hcl (ms_W cB cO cX m0 m1 m2 m3 st) G) (hD : ∀ z, va_D A (ms_W cB cO cX m0 m1 m2 m3 z)) (a1 : Int32)  : Met l yMod_carry (wq yMod_carry cMod_carry 8 none) ({ frames := 4, cells := 0, slots := 0, locals := 97 }) (mk_PK D hcl [(cB, .int), (cO, .int), (cX, .int)] G [.ref m0, .int a1]) (mk_Wv (fun u t => va_P D hcl (ms_W cB cO cX m0 m1 m2 m3 u) t) A (mf_RiscHartModel_carry st a1)) 0 0 A := by
  refine Met.ofW (cc := cMod_carry) (maxL := 8) (ret := none) (by decide) rfl ?_
  intro p e s m args below meth c s₁ B hml hv
  obtain ⟨rfl, hG, hK⟩ := hv
  subst hG
  have hx := B.exec
  have hb := B.bytes
  have hr := B.returns
  have hts := atoms_spec (ws := (wq yMod_carry cMod_carry 8 none)) B.pre
  have hown : s.vm.findClass RMod = some m.cls := findClass_of_methodNamed B.named
  have hlocks := B.notSynchronized
  have hg : ∀ w ∈ lw_g, w.before _ s = true := fun w h => hts w (List.mem_cons_of_mem _ h)
  have hS : va_S A s.heap s.heap [] := va_S.rf
  have hl := lv_entry ([.ref m0, .int a1]) (n := 8) (Nat.le_of_ble_eq_true rfl)
  rw [lg_entry_eq]
  generalize (lg_sl ([.ref m0, .int a1]) ++ List.replicate (8 - (lg_sl ([.ref m0, .int a1])).length) Slot.unset).toArray = ls at hl ⊢
  have hl : lv_has ls 8 [(0, .ref m0), (1, .int a1)] := hl
  refine lv_iload_n hx hb dMod_carry_0 rfl (lv_at hl 1 rfl) ?_
  refine lv_bipush (v := 7) hx hb dMod_carry_1 (by decide) ?_
  refine lv_iconst (v := 5) hx hb dMod_carry_3 (by decide) ?_
  refine mk_callR (va_runS (As := [.int a1, .int 7, .int 5]) (rest := []) ⟨hx, hb, hml, hown, hts⟩ (mc_RiscHartModel_part l _ a1 7 5) (va_cwS 3 hts (mk_gS tw_668 tw_669 tw_48 tw_670) rfl rfl rfl hdMod_part.2 ⟨Nat.le_of_ble_eq_true rfl, Nat.le_of_ble_eq_true rfl⟩) mk_preS rfl rfl hl.1 rfl (lv_room (Nat.le_of_ble_eq_true rfl)) dMod_carry_4 ⟨Nat.zero_le _, Nat.zero_le _⟩) ?_
  refine lv_istore_n (lv' := [(2, .int (mf_RiscHartModel_part a1 7 5)), (0, .ref m0), (1, .int a1)]) hx hb dMod_carry_7 rfl hl (by decide) rfl (fun ls hl => ?_)
  refine lv_iload_n hx hb dMod_carry_8 rfl (lv_at hl 2 rfl) ?_
  refine lv_bipush (v := 12) hx hb dMod_carry_9 (by decide) ?_
  refine lv_iconst (v := 3) hx hb dMod_carry_11 (by decide) ?_
  refine mk_callR (va_runS (As := [.int a1, .int 12, .int 3]) (rest := []) ⟨hx, hb, hml, hown, hts⟩ (mc_RiscHartModel_part l _ a1 12 3) (va_cwS 3 hts (mk_gS tw_668 tw_669 tw_48 tw_670) rfl rfl rfl hdMod_part.2 ⟨Nat.le_of_ble_eq_true rfl, Nat.le_of_ble_eq_true rfl⟩) mk_preS rfl rfl hl.1 rfl (lv_room (Nat.le_of_ble_eq_true rfl)) dMod_carry_12 ⟨Nat.zero_le _, Nat.zero_le _⟩) ?_
  refine lv_istore_n (lv' := [(3, .int (mf_RiscHartModel_part a1 12 3)), (2, .int (mf_RiscHartModel_part a1 7 5)), (0, .ref m0), (1, .int a1)]) hx hb dMod_carry_15 rfl hl (by decide) rfl (fun ls hl => ?_)
  refine lv_aload_n hx hb dMod_carry_16 rfl (lv_at hl 2 rfl) ?_
  refine va_get (D := D) (ci := 2) (v := .ref m3) (C := RMod) (T := TMod) (N := 14) hx hb hg inMod hown hK hP 0 rfl rfl 3 (by decide) (hg _ tw_560) (fun _ h9 => h9) rfl dMod_carry_17 ?_
  refine lv_iload_n hx hb dMod_carry_20 rfl (lv_at hl 3 rfl) ?_
  refine lv_bipush (v := 15) hx hb dMod_carry_21 (by decide) ?_
  refine lv_iconst (v := 5) hx hb dMod_carry_23 (by decide) ?_
  refine mk_callR (va_runS (As := [.int a1, .int 15, .int 5]) (rest := [.ref m3]) ⟨hx, hb, hml, hown, hts⟩ (mc_RiscHartModel_part l _ a1 15 5) (va_cwS 3 hts (mk_gS tw_668 tw_669 tw_48 tw_670) rfl rfl rfl hdMod_part.2 ⟨Nat.le_of_ble_eq_true rfl, Nat.le_of_ble_eq_true rfl⟩) mk_preS rfl rfl hl.1 rfl (lv_room (Nat.le_of_ble_eq_true rfl)) dMod_carry_24 ⟨Nat.zero_le _, Nat.zero_le _⟩) ?_
  refine va_iald (D := D) (f := ms_x st) hx hb hK hP 3 2 rfl rfl (in_mpart5 _ _) dMod_carry_27 ?_
  refine lv_istore (lv' := [(4, .int (ms_x st ((mf_RiscHartModel_part a1 15 5)).toNatClampNeg)), (3, .int (mf_RiscHartModel_part a1 12 3)), (2, .int (mf_RiscHartModel_part a1 7 5)), (0, .ref m0), (1, .int a1)]) hx hb dMod_carry_28 hl (by decide) rfl (fun ls hl => ?_)
  refine lv_aload_n hx hb dMod_carry_30 rfl (lv_at hl 3 rfl) ?_
  refine va_get (D := D) (ci := 2) (v := .ref m3) (C := RMod) (T := TMod) (N := 14) hx hb hg inMod hown hK hP 0 rfl rfl 3 (by decide) (hg _ tw_560) (fun _ h9 => h9) rfl dMod_carry_31 ?_
  refine lv_iload_n hx hb dMod_carry_34 rfl (lv_at hl 4 rfl) ?_
  refine lv_bipush (v := 20) hx hb dMod_carry_35 (by decide) ?_
  refine lv_iconst (v := 5) hx hb dMod_carry_37 (by decide) ?_
  refine mk_callR (va_runS (As := [.int a1, .int 20, .int 5]) (rest := [.ref m3]) ⟨hx, hb, hml, hown, hts⟩ (mc_RiscHartModel_part l _ a1 20 5) (va_cwS 3 hts (mk_gS tw_668 tw_669 tw_48 tw_670) rfl rfl rfl hdMod_part.2 ⟨Nat.le_of_ble_eq_true rfl, Nat.le_of_ble_eq_true rfl⟩) mk_preS rfl rfl hl.1 rfl (lv_room (Nat.le_of_ble_eq_true rfl)) dMod_carry_38 ⟨Nat.zero_le _, Nat.zero_le _⟩) ?_
  refine va_iald (D := D) (f := ms_x st) hx hb hK hP 3 2 rfl rfl (in_mpart5 _ _) dMod_carry_41 ?_
  refine lv_istore (lv' := [(5, .int (ms_x st ((mf_RiscHartModel_part a1 20 5)).toNatClampNeg)), (4, .int (ms_x st ((mf_RiscHartModel_part a1 15 5)).toNatClampNeg)), (3, .int (mf_RiscHartModel_part a1 12 3)), (2, .int (mf_RiscHartModel_part a1 7 5)), (0, .ref m0), (1, .int a1)]) hx hb dMod_carry_42 hl (by decide) rfl (fun ls hl => ?_)
  refine lv_iload_n hx hb dMod_carry_44 rfl (lv_at hl 5 rfl) ?_
  refine lv_bipush (v := 25) hx hb dMod_carry_45 (by decide) ?_
  refine lv_bipush (v := 7) hx hb dMod_carry_47 (by decide) ?_
  refine mk_callR (va_runS (As := [.int a1, .int 25, .int 7]) (rest := []) ⟨hx, hb, hml, hown, hts⟩ (mc_RiscHartModel_part l _ a1 25 7) (va_cwS 3 hts (mk_gS tw_668 tw_669 tw_48 tw_670) rfl rfl rfl hdMod_part.2 ⟨Nat.le_of_ble_eq_true rfl, Nat.le_of_ble_eq_true rfl⟩) mk_preS rfl rfl hl.1 rfl (lv_room (Nat.le_of_ble_eq_true rfl)) dMod_carry_49 ⟨Nat.zero_le _, Nat.zero_le _⟩) ?_
  refine lv_istore (lv' := [(6, .int (mf_RiscHartModel_part a1 25 7)), (5, .int (ms_x st ((mf_RiscHartModel_part a1 20 5)).toNatClampNeg)), (4, .int (ms_x st ((mf_RiscHartModel_part a1 15 5)).toNatClampNeg)), (3, .int (mf_RiscHartModel_part a1 12 3)), (2, .int (mf_RiscHartModel_part a1 7 5)), (0, .ref m0), (1, .int a1)]) hx hb dMod_carry_52 hl (by decide) rfl (fun ls hl => ?_)
  refine lv_iload_n hx hb dMod_carry_54 rfl (lv_at hl 6 rfl) ?_
  refine lv_bipush (v := 20) hx hb dMod_carry_55 (by decide) ?_
  refine lv_ishr hx hb dMod_carry_57 ?_
  refine lv_istore (lv' := [(7, .int (a1 >>> (20 &&& 31))), (6, .int (mf_RiscHartModel_part a1 25 7)), (5, .int (ms_x st ((mf_RiscHartModel_part a1 20 5)).toNatClampNeg)), (4, .int (ms_x st ((mf_RiscHartModel_part a1 15 5)).toNatClampNeg)), (3, .int (mf_RiscHartModel_part a1 12 3)), (2, .int (mf_RiscHartModel_part a1 7 5)), (0, .ref m0), (1, .int a1)]) hx hb dMod_carry_58 hl (by decide) rfl (fun ls hl => ?_)
  refine lv_iload_n hx hb dMod_carry_60 rfl (lv_at hl 7 rfl) ?_
  refine lv_iconst (v := 0) hx hb dMod_carry_61 (by decide) ?_
  refine lv_bipush (v := 7) hx hb dMod_carry_62 (by decide) ?_
  refine mk_callR (va_runS (As := [.int a1, .int 0, .int 7]) (rest := []) ⟨hx, hb, hml, hown, hts⟩ (mc_RiscHartModel_part l _ a1 0 7) (va_cwS 3 hts (mk_gS tw_668 tw_669 tw_48 tw_670) rfl rfl rfl hdMod_part.2 ⟨Nat.le_of_ble_eq_true rfl, Nat.le_of_ble_eq_true rfl⟩) mk_preS rfl rfl hl.1 rfl (lv_room (Nat.le_of_ble_eq_true rfl)) dMod_carry_64 ⟨Nat.zero_le _, Nat.zero_le _⟩) ?_
  by_cases c_1 : (mf_RiscHartModel_part a1 0 7) = 3
  · refine lv_lookup (off := 248) (tgt := 315) hx hb dMod_carry_67 (by decide) (by rw [c_1]; decide) (by decide) ?_
    refine lv_aload_n hx hb dMod_carry_315 rfl (lv_at hl 6 rfl) ?_
    refine lv_iload_n hx hb dMod_carry_316 rfl (lv_at hl 5 rfl) ?_
    refine lv_aload_n hx hb dMod_carry_317 rfl (lv_at hl 6 rfl) ?_
    refine lv_iload_n hx hb dMod_carry_318 rfl (lv_at hl 4 rfl) ?_
    refine lv_iload hx hb dMod_carry_319 (lv_at hl 3 rfl) ?_
    refine lv_iload hx hb dMod_carry_321 (lv_at hl 0 rfl) ?_
    refine lv_iadd hx hb dMod_carry_323 ?_
    refine mk_callW (va_runV (As := [.int (mf_RiscHartModel_part a1 12 3), .int ((ms_x st ((mf_RiscHartModel_part a1 15 5)).toNatClampNeg) + (a1 >>> (20 &&& 31)))]) (rest := [.int (mf_RiscHartModel_part a1 7 5), .ref m0]) ⟨hx, hb, hml, hown, hts⟩ (mc_RiscHartModel_load l hP hD (mf_RiscHartModel_part a1 12 3) ((ms_x st ((mf_RiscHartModel_part a1 15 5)).toNatClampNeg) + (a1 >>> (20 &&& 31)))) (cwV 2 hts (mk_gV tw_722 tw_724 tw_40 tw_48 tw_725) rfl rfl rfl hdMod_load ⟨Nat.le_of_ble_eq_true rfl, Nat.le_of_ble_eq_true rfl⟩) (mk_preVK hK (va_recv hK hP (ci := 2) (q0 := 0) rfl rfl)) rfl rfl hl.1 rfl (lv_room (Nat.le_of_ble_eq_true rfl)) dMod_carry_324 ⟨Nat.zero_le _, Nat.zero_le _⟩) hS (fun H locs hP hS => ?_)
    refine mk_callWv (va_runV (As := [.int (mf_RiscHartModel_part a1 7 5), .int ((mf_RiscHartModel_load st (mf_RiscHartModel_part a1 12 3) ((ms_x st ((mf_RiscHartModel_part a1 15 5)).toNatClampNeg) + (a1 >>> (20 &&& 31)))).1)]) (rest := []) ⟨hx, hb, hml, hown, hts⟩ (mc_RiscHartModel_give l hP hD (mf_RiscHartModel_part a1 7 5) ((mf_RiscHartModel_load st (mf_RiscHartModel_part a1 12 3) ((ms_x st ((mf_RiscHartModel_part a1 15 5)).toNatClampNeg) + (a1 >>> (20 &&& 31)))).1) (in_mpart5 _ _)) (cwV 2 hts (mk_gV tw_713 tw_715 tw_38 tw_48 tw_716) rfl rfl rfl hdMod_give ⟨Nat.le_of_ble_eq_true rfl, Nat.le_of_ble_eq_true rfl⟩) (mk_preVK hK (va_recv hK hP (ci := 2) (q0 := 0) rfl rfl)) rfl rfl hl.1 rfl (lv_room (Nat.le_of_ble_eq_true rfl)) dMod_carry_327 ⟨Nat.zero_le _, Nat.zero_le _⟩) hS (fun H locs hP hS => ?_)
    refine lv_goto (tgt := 536) hx hb dMod_carry_330 (by decide) ?_
    exact W.vret hx hb hr (fun t ht hW => ⟨⟨(mf_RiscHartModel_give ((mf_RiscHartModel_load st (mf_RiscHartModel_part a1 12 3) ((ms_x st ((mf_RiscHartModel_part a1 15 5)).toNatClampNeg) + (a1 >>> (20 &&& 31)))).2) (mf_RiscHartModel_part a1 7 5) ((mf_RiscHartModel_load st (mf_RiscHartModel_part a1 12 3) ((ms_x st ((mf_RiscHartModel_part a1 15 5)).toNatClampNeg) + (a1 >>> (20 &&& 31)))).1)), rfl, (by unfold mf_RiscHartModel_carry; rw [if_pos c_1]), by show va_P D hcl _ t.heap; rw [ht]; exact hP⟩, hS.F ht⟩) hS.2.2 dMod_carry_536
  by_cases c_2 : (mf_RiscHartModel_part a1 0 7) = 15
  · refine lv_lookup (off := 437) (tgt := 504) hx hb dMod_carry_67 (by decide) (by rw [c_2]; decide) (by decide) ?_
    refine lv_iload_n hx hb dMod_carry_504 rfl (lv_at hl 4 rfl) ?_
    refine lv_iconst (v := 1) hx hb dMod_carry_505 (by decide) ?_
    refine lv_icmp_le (tgt := 536) hx hb dMod_carry_506 (by decide) (fun c_3 => ?_) (fun c_3 => ?_)
    · exact W.vret hx hb hr (fun t ht hW => ⟨⟨st, rfl, (by unfold mf_RiscHartModel_carry; rw [if_neg c_1, if_pos c_2, if_pos c_3]), by show va_P D hcl _ t.heap; rw [ht]; exact hP⟩, hS.F ht⟩) hS.2.2 dMod_carry_536
    · refine lv_aload_n hx hb dMod_carry_509 rfl (lv_at hl 6 rfl) ?_
      refine mk_callW (va_runV (As := []) (rest := []) ⟨hx, hb, hml, hown, hts⟩ (mc_RiscHartModel_illegal l hP hD) (cwV 0 hts (mk_gV tw_705 tw_707 tw_36 tw_48 tw_708) rfl rfl rfl hdMod_illegal ⟨Nat.le_of_ble_eq_true rfl, Nat.le_of_ble_eq_true rfl⟩) (mk_preVK hK (va_recv hK hP (ci := 2) (q0 := 0) rfl rfl)) rfl rfl hl.1 rfl (lv_room (Nat.le_of_ble_eq_true rfl)) dMod_carry_510 ⟨Nat.zero_le _, Nat.zero_le _⟩) hS (fun H locs hP hS => ?_)
      refine lv_pop hx hb dMod_carry_513 rfl ?_
      refine lv_goto (tgt := 536) hx hb dMod_carry_514 (by decide) ?_
      exact W.vret hx hb hr (fun t ht hW => ⟨⟨(mf_RiscHartModel_illegal st).2, rfl, (by unfold mf_RiscHartModel_carry; rw [if_neg c_1, if_pos c_2, if_neg c_3]), by show va_P D hcl _ t.heap; rw [ht]; exact hP⟩, hS.F ht⟩) hS.2.2 dMod_carry_536
  by_cases c_4 : (mf_RiscHartModel_part a1 0 7) = 19
  · refine lv_lookup (off := 286) (tgt := 353) hx hb dMod_carry_67 (by decide) (by rw [c_4]; decide) (by decide) ?_
    refine lv_aload_n hx hb dMod_carry_353 rfl (lv_at hl 6 rfl) ?_
    refine lv_iload_n hx hb dMod_carry_354 rfl (lv_at hl 5 rfl) ?_
    refine lv_iload_n hx hb dMod_carry_355 rfl (lv_at hl 4 rfl) ?_
    refine lv_iconst (v := 1) hx hb dMod_carry_356 (by decide) ?_
    refine lv_icmp_eq (tgt := 365) hx hb dMod_carry_357 (by decide) (fun c_5 => ?_) (fun c_5 => ?_)
    · refine lv_aload_n hx hb dMod_carry_365 rfl (lv_at hl 6 rfl) ?_
      refine lv_iload_n hx hb dMod_carry_366 rfl (lv_at hl 4 rfl) ?_
      refine lv_iload hx hb dMod_carry_367 (lv_at hl 1 rfl) ?_
      refine lv_iload hx hb dMod_carry_369 (lv_at hl 3 rfl) ?_
      refine lv_iload_n hx hb dMod_carry_371 rfl (lv_at hl 7 rfl) ?_
      refine lv_bipush (v := 20) hx hb dMod_carry_372 (by decide) ?_
      refine lv_iconst (v := 5) hx hb dMod_carry_374 (by decide) ?_
      refine mk_callR (va_runS (As := [.int a1, .int 20, .int 5]) (rest := [.int (ms_x st ((mf_RiscHartModel_part a1 15 5)).toNatClampNeg), .int (mf_RiscHartModel_part a1 25 7), .int (mf_RiscHartModel_part a1 12 3), .ref m0, .int (mf_RiscHartModel_part a1 7 5), .ref m0]) ⟨hx, hb, hml, hown, hts⟩ (mc_RiscHartModel_part l _ a1 20 5) (va_cwS 3 hts (mk_gS tw_668 tw_669 tw_48 tw_670) rfl rfl rfl hdMod_part.2 ⟨Nat.le_of_ble_eq_true rfl, Nat.le_of_ble_eq_true rfl⟩) mk_preS rfl rfl hl.1 rfl (lv_room (Nat.le_of_ble_eq_true rfl)) dMod_carry_375 ⟨Nat.zero_le _, Nat.zero_le _⟩) ?_
      refine mk_callW (va_runV (As := [.int (mf_RiscHartModel_part a1 12 3), .int (mf_RiscHartModel_part a1 25 7), .int (ms_x st ((mf_RiscHartModel_part a1 15 5)).toNatClampNeg), .int (mf_RiscHartModel_part a1 20 5)]) (rest := [.int (mf_RiscHartModel_part a1 7 5), .ref m0]) ⟨hx, hb, hml, hown, hts⟩ (mc_RiscHartModel_shifted l hP hD (mf_RiscHartModel_part a1 12 3) (mf_RiscHartModel_part a1 25 7) (ms_x st ((mf_RiscHartModel_part a1 15 5)).toNatClampNeg) (mf_RiscHartModel_part a1 20 5)) (cwV 4 hts (mk_gV tw_730 tw_732 tw_42 tw_48 tw_733) rfl rfl rfl hdMod_shifted ⟨Nat.le_of_ble_eq_true rfl, Nat.le_of_ble_eq_true rfl⟩) (mk_preVK hK (va_recv hK hP (ci := 2) (q0 := 0) rfl rfl)) rfl rfl hl.1 rfl (lv_room (Nat.le_of_ble_eq_true rfl)) dMod_carry_378 ⟨Nat.zero_le _, Nat.zero_le _⟩) hS (fun H locs hP hS => ?_)
      refine lv_goto (tgt := 392) hx hb dMod_carry_381 (by decide) ?_
      refine mk_callWv (va_runV (As := [.int (mf_RiscHartModel_part a1 7 5), .int ((mf_RiscHartModel_shifted st (mf_RiscHartModel_part a1 12 3) (mf_RiscHartModel_part a1 25 7) (ms_x st ((mf_RiscHartModel_part a1 15 5)).toNatClampNeg) (mf_RiscHartModel_part a1 20 5)).1)]) (rest := []) ⟨hx, hb, hml, hown, hts⟩ (mc_RiscHartModel_give l hP hD (mf_RiscHartModel_part a1 7 5) ((mf_RiscHartModel_shifted st (mf_RiscHartModel_part a1 12 3) (mf_RiscHartModel_part a1 25 7) (ms_x st ((mf_RiscHartModel_part a1 15 5)).toNatClampNeg) (mf_RiscHartModel_part a1 20 5)).1) (in_mpart5 _ _)) (cwV 2 hts (mk_gV tw_713 tw_715 tw_38 tw_48 tw_716) rfl rfl rfl hdMod_give ⟨Nat.le_of_ble_eq_true rfl, Nat.le_of_ble_eq_true rfl⟩) (mk_preVK hK (va_recv hK hP (ci := 2) (q0 := 0) rfl rfl)) rfl rfl hl.1 rfl (lv_room (Nat.le_of_ble_eq_true rfl)) dMod_carry_392 ⟨Nat.zero_le _, Nat.zero_le _⟩) hS (fun H locs hP hS => ?_)
      refine lv_goto (tgt := 536) hx hb dMod_carry_395 (by decide) ?_
      exact W.vret hx hb hr (fun t ht hW => ⟨⟨(mf_RiscHartModel_give ((mf_RiscHartModel_shifted st (mf_RiscHartModel_part a1 12 3) (mf_RiscHartModel_part a1 25 7) (ms_x st ((mf_RiscHartModel_part a1 15 5)).toNatClampNeg) (mf_RiscHartModel_part a1 20 5)).2) (mf_RiscHartModel_part a1 7 5) ((mf_RiscHartModel_shifted st (mf_RiscHartModel_part a1 12 3) (mf_RiscHartModel_part a1 25 7) (ms_x st ((mf_RiscHartModel_part a1 15 5)).toNatClampNeg) (mf_RiscHartModel_part a1 20 5)).1)), rfl, (by unfold mf_RiscHartModel_carry; rw [if_neg c_1, if_neg c_2, if_pos c_4, if_pos c_5]), by show va_P D hcl _ t.heap; rw [ht]; exact hP⟩, hS.F ht⟩) hS.2.2 dMod_carry_536
    · refine lv_iload_n hx hb dMod_carry_360 rfl (lv_at hl 4 rfl) ?_
      refine lv_iconst (v := 5) hx hb dMod_carry_361 (by decide) ?_
      refine lv_icmp_ne (tgt := 384) hx hb dMod_carry_362 (by decide) (fun c_6 => ?_) (fun c_6 => ?_)
      · refine lv_iload_n hx hb dMod_carry_384 rfl (lv_at hl 4 rfl) ?_
        refine lv_iload hx hb dMod_carry_385 (lv_at hl 3 rfl) ?_
        refine lv_iload hx hb dMod_carry_387 (lv_at hl 0 rfl) ?_
        refine mk_callR (va_runS (As := [.int (mf_RiscHartModel_part a1 12 3), .int (ms_x st ((mf_RiscHartModel_part a1 15 5)).toNatClampNeg), .int (a1 >>> (20 &&& 31))]) (rest := [.int (mf_RiscHartModel_part a1 7 5), .ref m0]) ⟨hx, hb, hml, hown, hts⟩ (mc_RiscHartModel_reckoned l _ (mf_RiscHartModel_part a1 12 3) (ms_x st ((mf_RiscHartModel_part a1 15 5)).toNatClampNeg) (a1 >>> (20 &&& 31))) (va_cwS 3 hts (mk_gS tw_734 tw_735 tw_48 tw_736) rfl rfl rfl hdMod_reckoned.2 ⟨Nat.le_of_ble_eq_true rfl, Nat.le_of_ble_eq_true rfl⟩) mk_preS rfl rfl hl.1 rfl (lv_room (Nat.le_of_ble_eq_true rfl)) dMod_carry_389 ⟨Nat.zero_le _, Nat.zero_le _⟩) ?_
        refine mk_callWv (va_runV (As := [.int (mf_RiscHartModel_part a1 7 5), .int (mf_RiscHartModel_reckoned (mf_RiscHartModel_part a1 12 3) (ms_x st ((mf_RiscHartModel_part a1 15 5)).toNatClampNeg) (a1 >>> (20 &&& 31)))]) (rest := []) ⟨hx, hb, hml, hown, hts⟩ (mc_RiscHartModel_give l hP hD (mf_RiscHartModel_part a1 7 5) (mf_RiscHartModel_reckoned (mf_RiscHartModel_part a1 12 3) (ms_x st ((mf_RiscHartModel_part a1 15 5)).toNatClampNeg) (a1 >>> (20 &&& 31))) (in_mpart5 _ _)) (cwV 2 hts (mk_gV tw_713 tw_715 tw_38 tw_48 tw_716) rfl rfl rfl hdMod_give ⟨Nat.le_of_ble_eq_true rfl, Nat.le_of_ble_eq_true rfl⟩) (mk_preVK hK (va_recv hK hP (ci := 2) (q0 := 0) rfl rfl)) rfl rfl hl.1 rfl (lv_room (Nat.le_of_ble_eq_true rfl)) dMod_carry_392 ⟨Nat.zero_le _, Nat.zero_le _⟩) hS (fun H locs hP hS => ?_)
        refine lv_goto (tgt := 536) hx hb dMod_carry_395 (by decide) ?_
        exact W.vret hx hb hr (fun t ht hW => ⟨⟨(mf_RiscHartModel_give st (mf_RiscHartModel_part a1 7 5) (mf_RiscHartModel_reckoned (mf_RiscHartModel_part a1 12 3) (ms_x st ((mf_RiscHartModel_part a1 15 5)).toNatClampNeg) (a1 >>> (20 &&& 31)))), rfl, (by unfold mf_RiscHartModel_carry; rw [if_neg c_1, if_neg c_2, if_pos c_4, if_neg c_5, if_neg c_6]), by show va_P D hcl _ t.heap; rw [ht]; exact hP⟩, hS.F ht⟩) hS.2.2 dMod_carry_536
      · refine lv_aload_n hx hb dMod_carry_365 rfl (lv_at hl 6 rfl) ?_
        refine lv_iload_n hx hb dMod_carry_366 rfl (lv_at hl 4 rfl) ?_
        refine lv_iload hx hb dMod_carry_367 (lv_at hl 1 rfl) ?_
        refine lv_iload hx hb dMod_carry_369 (lv_at hl 3 rfl) ?_
        refine lv_iload_n hx hb dMod_carry_371 rfl (lv_at hl 7 rfl) ?_
        refine lv_bipush (v := 20) hx hb dMod_carry_372 (by decide) ?_
        refine lv_iconst (v := 5) hx hb dMod_carry_374 (by decide) ?_
        refine mk_callR (va_runS (As := [.int a1, .int 20, .int 5]) (rest := [.int (ms_x st ((mf_RiscHartModel_part a1 15 5)).toNatClampNeg), .int (mf_RiscHartModel_part a1 25 7), .int (mf_RiscHartModel_part a1 12 3), .ref m0, .int (mf_RiscHartModel_part a1 7 5), .ref m0]) ⟨hx, hb, hml, hown, hts⟩ (mc_RiscHartModel_part l _ a1 20 5) (va_cwS 3 hts (mk_gS tw_668 tw_669 tw_48 tw_670) rfl rfl rfl hdMod_part.2 ⟨Nat.le_of_ble_eq_true rfl, Nat.le_of_ble_eq_true rfl⟩) mk_preS rfl rfl hl.1 rfl (lv_room (Nat.le_of_ble_eq_true rfl)) dMod_carry_375 ⟨Nat.zero_le _, Nat.zero_le _⟩) ?_
        refine mk_callW (va_runV (As := [.int (mf_RiscHartModel_part a1 12 3), .int (mf_RiscHartModel_part a1 25 7), .int (ms_x st ((mf_RiscHartModel_part a1 15 5)).toNatClampNeg), .int (mf_RiscHartModel_part a1 20 5)]) (rest := [.int (mf_RiscHartModel_part a1 7 5), .ref m0]) ⟨hx, hb, hml, hown, hts⟩ (mc_RiscHartModel_shifted l hP hD (mf_RiscHartModel_part a1 12 3) (mf_RiscHartModel_part a1 25 7) (ms_x st ((mf_RiscHartModel_part a1 15 5)).toNatClampNeg) (mf_RiscHartModel_part a1 20 5)) (cwV 4 hts (mk_gV tw_730 tw_732 tw_42 tw_48 tw_733) rfl rfl rfl hdMod_shifted ⟨Nat.le_of_ble_eq_true rfl, Nat.le_of_ble_eq_true rfl⟩) (mk_preVK hK (va_recv hK hP (ci := 2) (q0 := 0) rfl rfl)) rfl rfl hl.1 rfl (lv_room (Nat.le_of_ble_eq_true rfl)) dMod_carry_378 ⟨Nat.zero_le _, Nat.zero_le _⟩) hS (fun H locs hP hS => ?_)
        refine lv_goto (tgt := 392) hx hb dMod_carry_381 (by decide) ?_
        refine mk_callWv (va_runV (As := [.int (mf_RiscHartModel_part a1 7 5), .int ((mf_RiscHartModel_shifted st (mf_RiscHartModel_part a1 12 3) (mf_RiscHartModel_part a1 25 7) (ms_x st ((mf_RiscHartModel_part a1 15 5)).toNatClampNeg) (mf_RiscHartModel_part a1 20 5)).1)]) (rest := []) ⟨hx, hb, hml, hown, hts⟩ (mc_RiscHartModel_give l hP hD (mf_RiscHartModel_part a1 7 5) ((mf_RiscHartModel_shifted st (mf_RiscHartModel_part a1 12 3) (mf_RiscHartModel_part a1 25 7) (ms_x st ((mf_RiscHartModel_part a1 15 5)).toNatClampNeg) (mf_RiscHartModel_part a1 20 5)).1) (in_mpart5 _ _)) (cwV 2 hts (mk_gV tw_713 tw_715 tw_38 tw_48 tw_716) rfl rfl rfl hdMod_give ⟨Nat.le_of_ble_eq_true rfl, Nat.le_of_ble_eq_true rfl⟩) (mk_preVK hK (va_recv hK hP (ci := 2) (q0 := 0) rfl rfl)) rfl rfl hl.1 rfl (lv_room (Nat.le_of_ble_eq_true rfl)) dMod_carry_392 ⟨Nat.zero_le _, Nat.zero_le _⟩) hS (fun H locs hP hS => ?_)
        refine lv_goto (tgt := 536) hx hb dMod_carry_395 (by decide) ?_
        exact W.vret hx hb hr (fun t ht hW => ⟨⟨(mf_RiscHartModel_give ((mf_RiscHartModel_shifted st (mf_RiscHartModel_part a1 12 3) (mf_RiscHartModel_part a1 25 7) (ms_x st ((mf_RiscHartModel_part a1 15 5)).toNatClampNeg) (mf_RiscHartModel_part a1 20 5)).2) (mf_RiscHartModel_part a1 7 5) ((mf_RiscHartModel_shifted st (mf_RiscHartModel_part a1 12 3) (mf_RiscHartModel_part a1 25 7) (ms_x st ((mf_RiscHartModel_part a1 15 5)).toNatClampNeg) (mf_RiscHartModel_part a1 20 5)).1)), rfl, (by unfold mf_RiscHartModel_carry; rw [if_neg c_1, if_neg c_2, if_pos c_4, if_neg c_5, if_pos c_6]), by show va_P D hcl _ t.heap; rw [ht]; exact hP⟩, hS.F ht⟩) hS.2.2 dMod_carry_536
  by_cases c_7 : (mf_RiscHartModel_part a1 0 7) = 23
  · refine lv_lookup (off := 118) (tgt := 185) hx hb dMod_carry_67 (by decide) (by rw [c_7]; decide) (by decide) ?_
    refine lv_aload_n hx hb dMod_carry_185 rfl (lv_at hl 6 rfl) ?_
    refine lv_iload_n hx hb dMod_carry_186 rfl (lv_at hl 5 rfl) ?_
    refine lv_aload_n hx hb dMod_carry_187 rfl (lv_at hl 6 rfl) ?_
    refine va_get (D := D) (ci := 2) (v := .int (ms_place st)) (C := RMod) (T := TMod) (N := 14) hx hb hg inMod hown hK hP 0 rfl rfl 4 (by decide) (hg _ tw_561) (fun _ h9 => h9) rfl dMod_carry_188 ?_
    refine lv_iload_n hx hb dMod_carry_191 rfl (lv_at hl 7 rfl) ?_
    refine lv_sipush (v := (-4096)) hx hb dMod_carry_192 (by decide) ?_
    refine lv_iand hx hb dMod_carry_195 ?_
    refine lv_iadd hx hb dMod_carry_196 ?_
    refine mk_callWv (va_runV (As := [.int (mf_RiscHartModel_part a1 7 5), .int ((ms_place st) + (a1 &&& (-4096)))]) (rest := []) ⟨hx, hb, hml, hown, hts⟩ (mc_RiscHartModel_give l hP hD (mf_RiscHartModel_part a1 7 5) ((ms_place st) + (a1 &&& (-4096))) (in_mpart5 _ _)) (cwV 2 hts (mk_gV tw_713 tw_715 tw_38 tw_48 tw_716) rfl rfl rfl hdMod_give ⟨Nat.le_of_ble_eq_true rfl, Nat.le_of_ble_eq_true rfl⟩) (mk_preVK hK (va_recv hK hP (ci := 2) (q0 := 0) rfl rfl)) rfl rfl hl.1 rfl (lv_room (Nat.le_of_ble_eq_true rfl)) dMod_carry_197 ⟨Nat.zero_le _, Nat.zero_le _⟩) hS (fun H locs hP hS => ?_)
    refine lv_goto (tgt := 536) hx hb dMod_carry_200 (by decide) ?_
    exact W.vret hx hb hr (fun t ht hW => ⟨⟨(mf_RiscHartModel_give st (mf_RiscHartModel_part a1 7 5) ((ms_place st) + (a1 &&& (-4096)))), rfl, (by unfold mf_RiscHartModel_carry; rw [if_neg c_1, if_neg c_2, if_neg c_4, if_pos c_7]), by show va_P D hcl _ t.heap; rw [ht]; exact hP⟩, hS.F ht⟩) hS.2.2 dMod_carry_536
  by_cases c_8 : (mf_RiscHartModel_part a1 0 7) = 35
  · refine lv_lookup (off := 266) (tgt := 333) hx hb dMod_carry_67 (by decide) (by rw [c_8]; decide) (by decide) ?_
    refine lv_aload_n hx hb dMod_carry_333 rfl (lv_at hl 6 rfl) ?_
    refine lv_iload_n hx hb dMod_carry_334 rfl (lv_at hl 4 rfl) ?_
    refine lv_iload hx hb dMod_carry_335 (lv_at hl 3 rfl) ?_
    refine lv_iload hx hb dMod_carry_337 (lv_at hl 0 rfl) ?_
    refine lv_bipush (v := (-32)) hx hb dMod_carry_339 (by decide) ?_
    refine lv_iand hx hb dMod_carry_341 ?_
    refine lv_iload_n hx hb dMod_carry_342 rfl (lv_at hl 5 rfl) ?_
    refine lv_ior hx hb dMod_carry_343 ?_
    refine lv_iadd hx hb dMod_carry_344 ?_
    refine lv_iload hx hb dMod_carry_345 (lv_at hl 2 rfl) ?_
    refine mk_callWv (va_runV (As := [.int (mf_RiscHartModel_part a1 12 3), .int ((ms_x st ((mf_RiscHartModel_part a1 15 5)).toNatClampNeg) + (((a1 >>> (20 &&& 31)) &&& (-32)) ||| (mf_RiscHartModel_part a1 7 5))), .int (ms_x st ((mf_RiscHartModel_part a1 20 5)).toNatClampNeg)]) (rest := []) ⟨hx, hb, hml, hown, hts⟩ (mc_RiscHartModel_put l hP hD (mf_RiscHartModel_part a1 12 3) ((ms_x st ((mf_RiscHartModel_part a1 15 5)).toNatClampNeg) + (((a1 >>> (20 &&& 31)) &&& (-32)) ||| (mf_RiscHartModel_part a1 7 5))) (ms_x st ((mf_RiscHartModel_part a1 20 5)).toNatClampNeg)) (cwV 3 hts (mk_gV tw_726 tw_728 tw_41 tw_48 tw_729) rfl rfl rfl hdMod_put ⟨Nat.le_of_ble_eq_true rfl, Nat.le_of_ble_eq_true rfl⟩) (mk_preVK hK (va_recv hK hP (ci := 2) (q0 := 0) rfl rfl)) rfl rfl hl.1 rfl (lv_room (Nat.le_of_ble_eq_true rfl)) dMod_carry_347 ⟨Nat.zero_le _, Nat.zero_le _⟩) hS (fun H locs hP hS => ?_)
    refine lv_goto (tgt := 536) hx hb dMod_carry_350 (by decide) ?_
    exact W.vret hx hb hr (fun t ht hW => ⟨⟨(mf_RiscHartModel_put st (mf_RiscHartModel_part a1 12 3) ((ms_x st ((mf_RiscHartModel_part a1 15 5)).toNatClampNeg) + (((a1 >>> (20 &&& 31)) &&& (-32)) ||| (mf_RiscHartModel_part a1 7 5))) (ms_x st ((mf_RiscHartModel_part a1 20 5)).toNatClampNeg)), rfl, (by unfold mf_RiscHartModel_carry; rw [if_neg c_1, if_neg c_2, if_neg c_4, if_neg c_7, if_pos c_8]), by show va_P D hcl _ t.heap; rw [ht]; exact hP⟩, hS.F ht⟩) hS.2.2 dMod_carry_536
  by_cases c_9 : (mf_RiscHartModel_part a1 0 7) = 47
  · refine lv_lookup (off := 415) (tgt := 482) hx hb dMod_carry_67 (by decide) (by rw [c_9]; decide) (by decide) ?_
    refine lv_aload_n hx hb dMod_carry_482 rfl (lv_at hl 6 rfl) ?_
    refine lv_iload_n hx hb dMod_carry_483 rfl (lv_at hl 5 rfl) ?_
    refine lv_aload_n hx hb dMod_carry_484 rfl (lv_at hl 6 rfl) ?_
    refine lv_iload_n hx hb dMod_carry_485 rfl (lv_at hl 7 rfl) ?_
    refine lv_iload_n hx hb dMod_carry_486 rfl (lv_at hl 4 rfl) ?_
    refine lv_iload hx hb dMod_carry_487 (lv_at hl 1 rfl) ?_
    refine lv_iconst (v := 2) hx hb dMod_carry_489 (by decide) ?_
    refine lv_ishr hx hb dMod_carry_490 ?_
    refine lv_iload hx hb dMod_carry_491 (lv_at hl 3 rfl) ?_
    refine lv_iload hx hb dMod_carry_493 (lv_at hl 2 rfl) ?_
    refine mk_callW (va_runV (As := [.int a1, .int (mf_RiscHartModel_part a1 12 3), .int ((mf_RiscHartModel_part a1 25 7) >>> (2 &&& 31)), .int (ms_x st ((mf_RiscHartModel_part a1 15 5)).toNatClampNeg), .int (ms_x st ((mf_RiscHartModel_part a1 20 5)).toNatClampNeg)]) (rest := [.int (mf_RiscHartModel_part a1 7 5), .ref m0]) ⟨hx, hb, hml, hown, hts⟩ (mc_RiscHartModel_atomic l hP hD a1 (mf_RiscHartModel_part a1 12 3) ((mf_RiscHartModel_part a1 25 7) >>> (2 &&& 31)) (ms_x st ((mf_RiscHartModel_part a1 15 5)).toNatClampNeg) (ms_x st ((mf_RiscHartModel_part a1 20 5)).toNatClampNeg)) (cwV 5 hts (mk_gV tw_740 tw_742 tw_43 tw_48 tw_743) rfl rfl rfl hdMod_atomic ⟨Nat.le_of_ble_eq_true rfl, Nat.le_of_ble_eq_true rfl⟩) (mk_preVK hK (va_recv hK hP (ci := 2) (q0 := 0) rfl rfl)) rfl rfl hl.1 rfl (lv_room (Nat.le_of_ble_eq_true rfl)) dMod_carry_495 ⟨Nat.zero_le _, Nat.zero_le _⟩) hS (fun H locs hP hS => ?_)
    refine mk_callWv (va_runV (As := [.int (mf_RiscHartModel_part a1 7 5), .int ((mf_RiscHartModel_atomic st a1 (mf_RiscHartModel_part a1 12 3) ((mf_RiscHartModel_part a1 25 7) >>> (2 &&& 31)) (ms_x st ((mf_RiscHartModel_part a1 15 5)).toNatClampNeg) (ms_x st ((mf_RiscHartModel_part a1 20 5)).toNatClampNeg)).1)]) (rest := []) ⟨hx, hb, hml, hown, hts⟩ (mc_RiscHartModel_give l hP hD (mf_RiscHartModel_part a1 7 5) ((mf_RiscHartModel_atomic st a1 (mf_RiscHartModel_part a1 12 3) ((mf_RiscHartModel_part a1 25 7) >>> (2 &&& 31)) (ms_x st ((mf_RiscHartModel_part a1 15 5)).toNatClampNeg) (ms_x st ((mf_RiscHartModel_part a1 20 5)).toNatClampNeg)).1) (in_mpart5 _ _)) (cwV 2 hts (mk_gV tw_713 tw_715 tw_38 tw_48 tw_716) rfl rfl rfl hdMod_give ⟨Nat.le_of_ble_eq_true rfl, Nat.le_of_ble_eq_true rfl⟩) (mk_preVK hK (va_recv hK hP (ci := 2) (q0 := 0) rfl rfl)) rfl rfl hl.1 rfl (lv_room (Nat.le_of_ble_eq_true rfl)) dMod_carry_498 ⟨Nat.zero_le _, Nat.zero_le _⟩) hS (fun H locs hP hS => ?_)
    refine lv_goto (tgt := 536) hx hb dMod_carry_501 (by decide) ?_
    exact W.vret hx hb hr (fun t ht hW => ⟨⟨(mf_RiscHartModel_give ((mf_RiscHartModel_atomic st a1 (mf_RiscHartModel_part a1 12 3) ((mf_RiscHartModel_part a1 25 7) >>> (2 &&& 31)) (ms_x st ((mf_RiscHartModel_part a1 15 5)).toNatClampNeg) (ms_x st ((mf_RiscHartModel_part a1 20 5)).toNatClampNeg)).2) (mf_RiscHartModel_part a1 7 5) ((mf_RiscHartModel_atomic st a1 (mf_RiscHartModel_part a1 12 3) ((mf_RiscHartModel_part a1 25 7) >>> (2 &&& 31)) (ms_x st ((mf_RiscHartModel_part a1 15 5)).toNatClampNeg) (ms_x st ((mf_RiscHartModel_part a1 20 5)).toNatClampNeg)).1)), rfl, (by unfold mf_RiscHartModel_carry; rw [if_neg c_1, if_neg c_2, if_neg c_4, if_neg c_7, if_neg c_8, if_pos c_9]), by show va_P D hcl _ t.heap; rw [ht]; exact hP⟩, hS.F ht⟩) hS.2.2 dMod_carry_536
  by_cases c_10 : (mf_RiscHartModel_part a1 0 7) = 51
  · refine lv_lookup (off := 331) (tgt := 398) hx hb dMod_carry_67 (by decide) (by rw [c_10]; decide) (by decide) ?_
    refine lv_aload_n hx hb dMod_carry_398 rfl (lv_at hl 6 rfl) ?_
    refine lv_iload_n hx hb dMod_carry_399 rfl (lv_at hl 5 rfl) ?_
    refine lv_iload hx hb dMod_carry_400 (lv_at hl 1 rfl) ?_
    refine lv_iconst (v := 1) hx hb dMod_carry_402 (by decide) ?_
    refine lv_icmp_ne (tgt := 417) hx hb dMod_carry_403 (by decide) (fun c_11 => ?_) (fun c_11 => ?_)
    · refine lv_iload hx hb dMod_carry_417 (lv_at hl 1 rfl) ?_
      refine lv_if_ne (tgt := 443) hx hb dMod_carry_419 (by decide) (fun c_12 => ?_) (fun c_12 => ?_)
      · refine lv_iload hx hb dMod_carry_443 (lv_at hl 1 rfl) ?_
        refine lv_bipush (v := 32) hx hb dMod_carry_445 (by decide) ?_
        refine lv_icmp_ne (tgt := 462) hx hb dMod_carry_447 (by decide) (fun c_13 => ?_) (fun c_13 => ?_)
        · refine lv_aload_n hx hb dMod_carry_462 rfl (lv_at hl 6 rfl) ?_
          refine lv_iload_n hx hb dMod_carry_463 rfl (lv_at hl 4 rfl) ?_
          refine lv_iload hx hb dMod_carry_464 (lv_at hl 1 rfl) ?_
          refine lv_iload hx hb dMod_carry_466 (lv_at hl 3 rfl) ?_
          refine lv_iload hx hb dMod_carry_468 (lv_at hl 2 rfl) ?_
          refine lv_bipush (v := 31) hx hb dMod_carry_470 (by decide) ?_
          refine lv_iand hx hb dMod_carry_472 ?_
          refine mk_callW (va_runV (As := [.int (mf_RiscHartModel_part a1 12 3), .int (mf_RiscHartModel_part a1 25 7), .int (ms_x st ((mf_RiscHartModel_part a1 15 5)).toNatClampNeg), .int ((ms_x st ((mf_RiscHartModel_part a1 20 5)).toNatClampNeg) &&& 31)]) (rest := [.int (mf_RiscHartModel_part a1 7 5), .ref m0]) ⟨hx, hb, hml, hown, hts⟩ (mc_RiscHartModel_shifted l hP hD (mf_RiscHartModel_part a1 12 3) (mf_RiscHartModel_part a1 25 7) (ms_x st ((mf_RiscHartModel_part a1 15 5)).toNatClampNeg) ((ms_x st ((mf_RiscHartModel_part a1 20 5)).toNatClampNeg) &&& 31)) (cwV 4 hts (mk_gV tw_730 tw_732 tw_42 tw_48 tw_733) rfl rfl rfl hdMod_shifted ⟨Nat.le_of_ble_eq_true rfl, Nat.le_of_ble_eq_true rfl⟩) (mk_preVK hK (va_recv hK hP (ci := 2) (q0 := 0) rfl rfl)) rfl rfl hl.1 rfl (lv_room (Nat.le_of_ble_eq_true rfl)) dMod_carry_473 ⟨Nat.zero_le _, Nat.zero_le _⟩) hS (fun H locs hP hS => ?_)
          refine mk_callWv (va_runV (As := [.int (mf_RiscHartModel_part a1 7 5), .int ((mf_RiscHartModel_shifted st (mf_RiscHartModel_part a1 12 3) (mf_RiscHartModel_part a1 25 7) (ms_x st ((mf_RiscHartModel_part a1 15 5)).toNatClampNeg) ((ms_x st ((mf_RiscHartModel_part a1 20 5)).toNatClampNeg) &&& 31)).1)]) (rest := []) ⟨hx, hb, hml, hown, hts⟩ (mc_RiscHartModel_give l hP hD (mf_RiscHartModel_part a1 7 5) ((mf_RiscHartModel_shifted st (mf_RiscHartModel_part a1 12 3) (mf_RiscHartModel_part a1 25 7) (ms_x st ((mf_RiscHartModel_part a1 15 5)).toNatClampNeg) ((ms_x st ((mf_RiscHartModel_part a1 20 5)).toNatClampNeg) &&& 31)).1) (in_mpart5 _ _)) (cwV 2 hts (mk_gV tw_713 tw_715 tw_38 tw_48 tw_716) rfl rfl rfl hdMod_give ⟨Nat.le_of_ble_eq_true rfl, Nat.le_of_ble_eq_true rfl⟩) (mk_preVK hK (va_recv hK hP (ci := 2) (q0 := 0) rfl rfl)) rfl rfl hl.1 rfl (lv_room (Nat.le_of_ble_eq_true rfl)) dMod_carry_476 ⟨Nat.zero_le _, Nat.zero_le _⟩) hS (fun H locs hP hS => ?_)
          refine lv_goto (tgt := 536) hx hb dMod_carry_479 (by decide) ?_
          exact W.vret hx hb hr (fun t ht hW => ⟨⟨(mf_RiscHartModel_give ((mf_RiscHartModel_shifted st (mf_RiscHartModel_part a1 12 3) (mf_RiscHartModel_part a1 25 7) (ms_x st ((mf_RiscHartModel_part a1 15 5)).toNatClampNeg) ((ms_x st ((mf_RiscHartModel_part a1 20 5)).toNatClampNeg) &&& 31)).2) (mf_RiscHartModel_part a1 7 5) ((mf_RiscHartModel_shifted st (mf_RiscHartModel_part a1 12 3) (mf_RiscHartModel_part a1 25 7) (ms_x st ((mf_RiscHartModel_part a1 15 5)).toNatClampNeg) ((ms_x st ((mf_RiscHartModel_part a1 20 5)).toNatClampNeg) &&& 31)).1)), rfl, (by unfold mf_RiscHartModel_carry; rw [if_neg c_1, if_neg c_2, if_neg c_4, if_neg c_7, if_neg c_8, if_neg c_9, if_pos c_10, if_neg c_11, if_neg c_12, if_neg c_13]), by show va_P D hcl _ t.heap; rw [ht]; exact hP⟩, hS.F ht⟩) hS.2.2 dMod_carry_536
        · refine lv_iload_n hx hb dMod_carry_450 rfl (lv_at hl 4 rfl) ?_
          refine lv_if_ne (tgt := 462) hx hb dMod_carry_451 (by decide) (fun c_14 => ?_) (fun c_14 => ?_)
          · refine lv_aload_n hx hb dMod_carry_462 rfl (lv_at hl 6 rfl) ?_
            refine lv_iload_n hx hb dMod_carry_463 rfl (lv_at hl 4 rfl) ?_
            refine lv_iload hx hb dMod_carry_464 (lv_at hl 1 rfl) ?_
            refine lv_iload hx hb dMod_carry_466 (lv_at hl 3 rfl) ?_
            refine lv_iload hx hb dMod_carry_468 (lv_at hl 2 rfl) ?_
            refine lv_bipush (v := 31) hx hb dMod_carry_470 (by decide) ?_
            refine lv_iand hx hb dMod_carry_472 ?_
            refine mk_callW (va_runV (As := [.int (mf_RiscHartModel_part a1 12 3), .int (mf_RiscHartModel_part a1 25 7), .int (ms_x st ((mf_RiscHartModel_part a1 15 5)).toNatClampNeg), .int ((ms_x st ((mf_RiscHartModel_part a1 20 5)).toNatClampNeg) &&& 31)]) (rest := [.int (mf_RiscHartModel_part a1 7 5), .ref m0]) ⟨hx, hb, hml, hown, hts⟩ (mc_RiscHartModel_shifted l hP hD (mf_RiscHartModel_part a1 12 3) (mf_RiscHartModel_part a1 25 7) (ms_x st ((mf_RiscHartModel_part a1 15 5)).toNatClampNeg) ((ms_x st ((mf_RiscHartModel_part a1 20 5)).toNatClampNeg) &&& 31)) (cwV 4 hts (mk_gV tw_730 tw_732 tw_42 tw_48 tw_733) rfl rfl rfl hdMod_shifted ⟨Nat.le_of_ble_eq_true rfl, Nat.le_of_ble_eq_true rfl⟩) (mk_preVK hK (va_recv hK hP (ci := 2) (q0 := 0) rfl rfl)) rfl rfl hl.1 rfl (lv_room (Nat.le_of_ble_eq_true rfl)) dMod_carry_473 ⟨Nat.zero_le _, Nat.zero_le _⟩) hS (fun H locs hP hS => ?_)
            refine mk_callWv (va_runV (As := [.int (mf_RiscHartModel_part a1 7 5), .int ((mf_RiscHartModel_shifted st (mf_RiscHartModel_part a1 12 3) (mf_RiscHartModel_part a1 25 7) (ms_x st ((mf_RiscHartModel_part a1 15 5)).toNatClampNeg) ((ms_x st ((mf_RiscHartModel_part a1 20 5)).toNatClampNeg) &&& 31)).1)]) (rest := []) ⟨hx, hb, hml, hown, hts⟩ (mc_RiscHartModel_give l hP hD (mf_RiscHartModel_part a1 7 5) ((mf_RiscHartModel_shifted st (mf_RiscHartModel_part a1 12 3) (mf_RiscHartModel_part a1 25 7) (ms_x st ((mf_RiscHartModel_part a1 15 5)).toNatClampNeg) ((ms_x st ((mf_RiscHartModel_part a1 20 5)).toNatClampNeg) &&& 31)).1) (in_mpart5 _ _)) (cwV 2 hts (mk_gV tw_713 tw_715 tw_38 tw_48 tw_716) rfl rfl rfl hdMod_give ⟨Nat.le_of_ble_eq_true rfl, Nat.le_of_ble_eq_true rfl⟩) (mk_preVK hK (va_recv hK hP (ci := 2) (q0 := 0) rfl rfl)) rfl rfl hl.1 rfl (lv_room (Nat.le_of_ble_eq_true rfl)) dMod_carry_476 ⟨Nat.zero_le _, Nat.zero_le _⟩) hS (fun H locs hP hS => ?_)
            refine lv_goto (tgt := 536) hx hb dMod_carry_479 (by decide) ?_
            exact W.vret hx hb hr (fun t ht hW => ⟨⟨(mf_RiscHartModel_give ((mf_RiscHartModel_shifted st (mf_RiscHartModel_part a1 12 3) (mf_RiscHartModel_part a1 25 7) (ms_x st ((mf_RiscHartModel_part a1 15 5)).toNatClampNeg) ((ms_x st ((mf_RiscHartModel_part a1 20 5)).toNatClampNeg) &&& 31)).2) (mf_RiscHartModel_part a1 7 5) ((mf_RiscHartModel_shifted st (mf_RiscHartModel_part a1 12 3) (mf_RiscHartModel_part a1 25 7) (ms_x st ((mf_RiscHartModel_part a1 15 5)).toNatClampNeg) ((ms_x st ((mf_RiscHartModel_part a1 20 5)).toNatClampNeg) &&& 31)).1)), rfl, (by unfold mf_RiscHartModel_carry; rw [if_neg c_1, if_neg c_2, if_neg c_4, if_neg c_7, if_neg c_8, if_neg c_9, if_pos c_10, if_neg c_11, if_neg c_12, if_pos c_13, if_neg c_14]), by show va_P D hcl _ t.heap; rw [ht]; exact hP⟩, hS.F ht⟩) hS.2.2 dMod_carry_536
          · refine lv_iload hx hb dMod_carry_454 (lv_at hl 3 rfl) ?_
            refine lv_iload hx hb dMod_carry_456 (lv_at hl 2 rfl) ?_
            refine lv_isub hx hb dMod_carry_458 ?_
            refine lv_goto (tgt := 476) hx hb dMod_carry_459 (by decide) ?_
            refine mk_callWv (va_runV (As := [.int (mf_RiscHartModel_part a1 7 5), .int ((ms_x st ((mf_RiscHartModel_part a1 15 5)).toNatClampNeg) - (ms_x st ((mf_RiscHartModel_part a1 20 5)).toNatClampNeg))]) (rest := []) ⟨hx, hb, hml, hown, hts⟩ (mc_RiscHartModel_give l hP hD (mf_RiscHartModel_part a1 7 5) ((ms_x st ((mf_RiscHartModel_part a1 15 5)).toNatClampNeg) - (ms_x st ((mf_RiscHartModel_part a1 20 5)).toNatClampNeg)) (in_mpart5 _ _)) (cwV 2 hts (mk_gV tw_713 tw_715 tw_38 tw_48 tw_716) rfl rfl rfl hdMod_give ⟨Nat.le_of_ble_eq_true rfl, Nat.le_of_ble_eq_true rfl⟩) (mk_preVK hK (va_recv hK hP (ci := 2) (q0 := 0) rfl rfl)) rfl rfl hl.1 rfl (lv_room (Nat.le_of_ble_eq_true rfl)) dMod_carry_476 ⟨Nat.zero_le _, Nat.zero_le _⟩) hS (fun H locs hP hS => ?_)
            refine lv_goto (tgt := 536) hx hb dMod_carry_479 (by decide) ?_
            exact W.vret hx hb hr (fun t ht hW => ⟨⟨(mf_RiscHartModel_give st (mf_RiscHartModel_part a1 7 5) ((ms_x st ((mf_RiscHartModel_part a1 15 5)).toNatClampNeg) - (ms_x st ((mf_RiscHartModel_part a1 20 5)).toNatClampNeg))), rfl, (by unfold mf_RiscHartModel_carry; rw [if_neg c_1, if_neg c_2, if_neg c_4, if_neg c_7, if_neg c_8, if_neg c_9, if_pos c_10, if_neg c_11, if_neg c_12, if_pos c_13, if_pos c_14]), by show va_P D hcl _ t.heap; rw [ht]; exact hP⟩, hS.F ht⟩) hS.2.2 dMod_carry_536
      · refine lv_iload_n hx hb dMod_carry_422 rfl (lv_at hl 4 rfl) ?_
        refine lv_iconst (v := 1) hx hb dMod_carry_423 (by decide) ?_
        refine lv_icmp_eq (tgt := 443) hx hb dMod_carry_424 (by decide) (fun c_15 => ?_) (fun c_15 => ?_)
        · refine lv_iload hx hb dMod_carry_443 (lv_at hl 1 rfl) ?_
          refine lv_bipush (v := 32) hx hb dMod_carry_445 (by decide) ?_
          refine lv_icmp_ne (tgt := 462) hx hb dMod_carry_447 (by decide) (fun c_16 => ?_) (fun c_16 => ?_)
          · refine lv_aload_n hx hb dMod_carry_462 rfl (lv_at hl 6 rfl) ?_
            refine lv_iload_n hx hb dMod_carry_463 rfl (lv_at hl 4 rfl) ?_
            refine lv_iload hx hb dMod_carry_464 (lv_at hl 1 rfl) ?_
            refine lv_iload hx hb dMod_carry_466 (lv_at hl 3 rfl) ?_
            refine lv_iload hx hb dMod_carry_468 (lv_at hl 2 rfl) ?_
            refine lv_bipush (v := 31) hx hb dMod_carry_470 (by decide) ?_
            refine lv_iand hx hb dMod_carry_472 ?_
            refine mk_callW (va_runV (As := [.int (mf_RiscHartModel_part a1 12 3), .int (mf_RiscHartModel_part a1 25 7), .int (ms_x st ((mf_RiscHartModel_part a1 15 5)).toNatClampNeg), .int ((ms_x st ((mf_RiscHartModel_part a1 20 5)).toNatClampNeg) &&& 31)]) (rest := [.int (mf_RiscHartModel_part a1 7 5), .ref m0]) ⟨hx, hb, hml, hown, hts⟩ (mc_RiscHartModel_shifted l hP hD (mf_RiscHartModel_part a1 12 3) (mf_RiscHartModel_part a1 25 7) (ms_x st ((mf_RiscHartModel_part a1 15 5)).toNatClampNeg) ((ms_x st ((mf_RiscHartModel_part a1 20 5)).toNatClampNeg) &&& 31)) (cwV 4 hts (mk_gV tw_730 tw_732 tw_42 tw_48 tw_733) rfl rfl rfl hdMod_shifted ⟨Nat.le_of_ble_eq_true rfl, Nat.le_of_ble_eq_true rfl⟩) (mk_preVK hK (va_recv hK hP (ci := 2) (q0 := 0) rfl rfl)) rfl rfl hl.1 rfl (lv_room (Nat.le_of_ble_eq_true rfl)) dMod_carry_473 ⟨Nat.zero_le _, Nat.zero_le _⟩) hS (fun H locs hP hS => ?_)
            refine mk_callWv (va_runV (As := [.int (mf_RiscHartModel_part a1 7 5), .int ((mf_RiscHartModel_shifted st (mf_RiscHartModel_part a1 12 3) (mf_RiscHartModel_part a1 25 7) (ms_x st ((mf_RiscHartModel_part a1 15 5)).toNatClampNeg) ((ms_x st ((mf_RiscHartModel_part a1 20 5)).toNatClampNeg) &&& 31)).1)]) (rest := []) ⟨hx, hb, hml, hown, hts⟩ (mc_RiscHartModel_give l hP hD (mf_RiscHartModel_part a1 7 5) ((mf_RiscHartModel_shifted st (mf_RiscHartModel_part a1 12 3) (mf_RiscHartModel_part a1 25 7) (ms_x st ((mf_RiscHartModel_part a1 15 5)).toNatClampNeg) ((ms_x st ((mf_RiscHartModel_part a1 20 5)).toNatClampNeg) &&& 31)).1) (in_mpart5 _ _)) (cwV 2 hts (mk_gV tw_713 tw_715 tw_38 tw_48 tw_716) rfl rfl rfl hdMod_give ⟨Nat.le_of_ble_eq_true rfl, Nat.le_of_ble_eq_true rfl⟩) (mk_preVK hK (va_recv hK hP (ci := 2) (q0 := 0) rfl rfl)) rfl rfl hl.1 rfl (lv_room (Nat.le_of_ble_eq_true rfl)) dMod_carry_476 ⟨Nat.zero_le _, Nat.zero_le _⟩) hS (fun H locs hP hS => ?_)
            refine lv_goto (tgt := 536) hx hb dMod_carry_479 (by decide) ?_
            exact W.vret hx hb hr (fun t ht hW => ⟨⟨(mf_RiscHartModel_give ((mf_RiscHartModel_shifted st (mf_RiscHartModel_part a1 12 3) (mf_RiscHartModel_part a1 25 7) (ms_x st ((mf_RiscHartModel_part a1 15 5)).toNatClampNeg) ((ms_x st ((mf_RiscHartModel_part a1 20 5)).toNatClampNeg) &&& 31)).2) (mf_RiscHartModel_part a1 7 5) ((mf_RiscHartModel_shifted st (mf_RiscHartModel_part a1 12 3) (mf_RiscHartModel_part a1 25 7) (ms_x st ((mf_RiscHartModel_part a1 15 5)).toNatClampNeg) ((ms_x st ((mf_RiscHartModel_part a1 20 5)).toNatClampNeg) &&& 31)).1)), rfl, (by unfold mf_RiscHartModel_carry; rw [if_neg c_1, if_neg c_2, if_neg c_4, if_neg c_7, if_neg c_8, if_neg c_9, if_pos c_10, if_neg c_11, if_pos c_12, if_pos c_15]), by show va_P D hcl _ t.heap; rw [ht]; exact hP⟩, hS.F ht⟩) hS.2.2 dMod_carry_536
          · exact absurd (c_12.symm.trans c_16) (by decide)
        · refine lv_iload_n hx hb dMod_carry_427 rfl (lv_at hl 4 rfl) ?_
          refine lv_iconst (v := 5) hx hb dMod_carry_428 (by decide) ?_
          refine lv_icmp_eq (tgt := 443) hx hb dMod_carry_429 (by decide) (fun c_17 => ?_) (fun c_17 => ?_)
          · refine lv_iload hx hb dMod_carry_443 (lv_at hl 1 rfl) ?_
            refine lv_bipush (v := 32) hx hb dMod_carry_445 (by decide) ?_
            refine lv_icmp_ne (tgt := 462) hx hb dMod_carry_447 (by decide) (fun c_18 => ?_) (fun c_18 => ?_)
            · refine lv_aload_n hx hb dMod_carry_462 rfl (lv_at hl 6 rfl) ?_
              refine lv_iload_n hx hb dMod_carry_463 rfl (lv_at hl 4 rfl) ?_
              refine lv_iload hx hb dMod_carry_464 (lv_at hl 1 rfl) ?_
              refine lv_iload hx hb dMod_carry_466 (lv_at hl 3 rfl) ?_
              refine lv_iload hx hb dMod_carry_468 (lv_at hl 2 rfl) ?_
              refine lv_bipush (v := 31) hx hb dMod_carry_470 (by decide) ?_
              refine lv_iand hx hb dMod_carry_472 ?_
              refine mk_callW (va_runV (As := [.int (mf_RiscHartModel_part a1 12 3), .int (mf_RiscHartModel_part a1 25 7), .int (ms_x st ((mf_RiscHartModel_part a1 15 5)).toNatClampNeg), .int ((ms_x st ((mf_RiscHartModel_part a1 20 5)).toNatClampNeg) &&& 31)]) (rest := [.int (mf_RiscHartModel_part a1 7 5), .ref m0]) ⟨hx, hb, hml, hown, hts⟩ (mc_RiscHartModel_shifted l hP hD (mf_RiscHartModel_part a1 12 3) (mf_RiscHartModel_part a1 25 7) (ms_x st ((mf_RiscHartModel_part a1 15 5)).toNatClampNeg) ((ms_x st ((mf_RiscHartModel_part a1 20 5)).toNatClampNeg) &&& 31)) (cwV 4 hts (mk_gV tw_730 tw_732 tw_42 tw_48 tw_733) rfl rfl rfl hdMod_shifted ⟨Nat.le_of_ble_eq_true rfl, Nat.le_of_ble_eq_true rfl⟩) (mk_preVK hK (va_recv hK hP (ci := 2) (q0 := 0) rfl rfl)) rfl rfl hl.1 rfl (lv_room (Nat.le_of_ble_eq_true rfl)) dMod_carry_473 ⟨Nat.zero_le _, Nat.zero_le _⟩) hS (fun H locs hP hS => ?_)
              refine mk_callWv (va_runV (As := [.int (mf_RiscHartModel_part a1 7 5), .int ((mf_RiscHartModel_shifted st (mf_RiscHartModel_part a1 12 3) (mf_RiscHartModel_part a1 25 7) (ms_x st ((mf_RiscHartModel_part a1 15 5)).toNatClampNeg) ((ms_x st ((mf_RiscHartModel_part a1 20 5)).toNatClampNeg) &&& 31)).1)]) (rest := []) ⟨hx, hb, hml, hown, hts⟩ (mc_RiscHartModel_give l hP hD (mf_RiscHartModel_part a1 7 5) ((mf_RiscHartModel_shifted st (mf_RiscHartModel_part a1 12 3) (mf_RiscHartModel_part a1 25 7) (ms_x st ((mf_RiscHartModel_part a1 15 5)).toNatClampNeg) ((ms_x st ((mf_RiscHartModel_part a1 20 5)).toNatClampNeg) &&& 31)).1) (in_mpart5 _ _)) (cwV 2 hts (mk_gV tw_713 tw_715 tw_38 tw_48 tw_716) rfl rfl rfl hdMod_give ⟨Nat.le_of_ble_eq_true rfl, Nat.le_of_ble_eq_true rfl⟩) (mk_preVK hK (va_recv hK hP (ci := 2) (q0 := 0) rfl rfl)) rfl rfl hl.1 rfl (lv_room (Nat.le_of_ble_eq_true rfl)) dMod_carry_476 ⟨Nat.zero_le _, Nat.zero_le _⟩) hS (fun H locs hP hS => ?_)
              refine lv_goto (tgt := 536) hx hb dMod_carry_479 (by decide) ?_
              exact W.vret hx hb hr (fun t ht hW => ⟨⟨(mf_RiscHartModel_give ((mf_RiscHartModel_shifted st (mf_RiscHartModel_part a1 12 3) (mf_RiscHartModel_part a1 25 7) (ms_x st ((mf_RiscHartModel_part a1 15 5)).toNatClampNeg) ((ms_x st ((mf_RiscHartModel_part a1 20 5)).toNatClampNeg) &&& 31)).2) (mf_RiscHartModel_part a1 7 5) ((mf_RiscHartModel_shifted st (mf_RiscHartModel_part a1 12 3) (mf_RiscHartModel_part a1 25 7) (ms_x st ((mf_RiscHartModel_part a1 15 5)).toNatClampNeg) ((ms_x st ((mf_RiscHartModel_part a1 20 5)).toNatClampNeg) &&& 31)).1)), rfl, (by unfold mf_RiscHartModel_carry; rw [if_neg c_1, if_neg c_2, if_neg c_4, if_neg c_7, if_neg c_8, if_neg c_9, if_pos c_10, if_neg c_11, if_pos c_12, if_neg c_15, if_pos c_17]), by show va_P D hcl _ t.heap; rw [ht]; exact hP⟩, hS.F ht⟩) hS.2.2 dMod_carry_536
            · exact absurd (c_12.symm.trans c_18) (by decide)
          · refine lv_iload_n hx hb dMod_carry_432 rfl (lv_at hl 4 rfl) ?_
            refine lv_iload hx hb dMod_carry_433 (lv_at hl 3 rfl) ?_
            refine lv_iload hx hb dMod_carry_435 (lv_at hl 2 rfl) ?_
            refine mk_callR (va_runS (As := [.int (mf_RiscHartModel_part a1 12 3), .int (ms_x st ((mf_RiscHartModel_part a1 15 5)).toNatClampNeg), .int (ms_x st ((mf_RiscHartModel_part a1 20 5)).toNatClampNeg)]) (rest := [.int (mf_RiscHartModel_part a1 7 5), .ref m0]) ⟨hx, hb, hml, hown, hts⟩ (mc_RiscHartModel_reckoned l _ (mf_RiscHartModel_part a1 12 3) (ms_x st ((mf_RiscHartModel_part a1 15 5)).toNatClampNeg) (ms_x st ((mf_RiscHartModel_part a1 20 5)).toNatClampNeg)) (va_cwS 3 hts (mk_gS tw_734 tw_735 tw_48 tw_736) rfl rfl rfl hdMod_reckoned.2 ⟨Nat.le_of_ble_eq_true rfl, Nat.le_of_ble_eq_true rfl⟩) mk_preS rfl rfl hl.1 rfl (lv_room (Nat.le_of_ble_eq_true rfl)) dMod_carry_437 ⟨Nat.zero_le _, Nat.zero_le _⟩) ?_
            refine lv_goto (tgt := 476) hx hb dMod_carry_440 (by decide) ?_
            refine mk_callWv (va_runV (As := [.int (mf_RiscHartModel_part a1 7 5), .int (mf_RiscHartModel_reckoned (mf_RiscHartModel_part a1 12 3) (ms_x st ((mf_RiscHartModel_part a1 15 5)).toNatClampNeg) (ms_x st ((mf_RiscHartModel_part a1 20 5)).toNatClampNeg))]) (rest := []) ⟨hx, hb, hml, hown, hts⟩ (mc_RiscHartModel_give l hP hD (mf_RiscHartModel_part a1 7 5) (mf_RiscHartModel_reckoned (mf_RiscHartModel_part a1 12 3) (ms_x st ((mf_RiscHartModel_part a1 15 5)).toNatClampNeg) (ms_x st ((mf_RiscHartModel_part a1 20 5)).toNatClampNeg)) (in_mpart5 _ _)) (cwV 2 hts (mk_gV tw_713 tw_715 tw_38 tw_48 tw_716) rfl rfl rfl hdMod_give ⟨Nat.le_of_ble_eq_true rfl, Nat.le_of_ble_eq_true rfl⟩) (mk_preVK hK (va_recv hK hP (ci := 2) (q0 := 0) rfl rfl)) rfl rfl hl.1 rfl (lv_room (Nat.le_of_ble_eq_true rfl)) dMod_carry_476 ⟨Nat.zero_le _, Nat.zero_le _⟩) hS (fun H locs hP hS => ?_)
            refine lv_goto (tgt := 536) hx hb dMod_carry_479 (by decide) ?_
            exact W.vret hx hb hr (fun t ht hW => ⟨⟨(mf_RiscHartModel_give st (mf_RiscHartModel_part a1 7 5) (mf_RiscHartModel_reckoned (mf_RiscHartModel_part a1 12 3) (ms_x st ((mf_RiscHartModel_part a1 15 5)).toNatClampNeg) (ms_x st ((mf_RiscHartModel_part a1 20 5)).toNatClampNeg))), rfl, (by unfold mf_RiscHartModel_carry; rw [if_neg c_1, if_neg c_2, if_neg c_4, if_neg c_7, if_neg c_8, if_neg c_9, if_pos c_10, if_neg c_11, if_pos c_12, if_neg c_15, if_neg c_17]), by show va_P D hcl _ t.heap; rw [ht]; exact hP⟩, hS.F ht⟩) hS.2.2 dMod_carry_536
    · refine lv_iload_n hx hb dMod_carry_406 rfl (lv_at hl 4 rfl) ?_
      refine lv_iload hx hb dMod_carry_407 (lv_at hl 3 rfl) ?_
      refine lv_iload hx hb dMod_carry_409 (lv_at hl 2 rfl) ?_
      refine mk_callR (va_runS (As := [.int (mf_RiscHartModel_part a1 12 3), .int (ms_x st ((mf_RiscHartModel_part a1 15 5)).toNatClampNeg), .int (ms_x st ((mf_RiscHartModel_part a1 20 5)).toNatClampNeg)]) (rest := [.int (mf_RiscHartModel_part a1 7 5), .ref m0]) ⟨hx, hb, hml, hown, hts⟩ (mc_RiscHartModel_multiplied l _ (mf_RiscHartModel_part a1 12 3) (ms_x st ((mf_RiscHartModel_part a1 15 5)).toNatClampNeg) (ms_x st ((mf_RiscHartModel_part a1 20 5)).toNatClampNeg)) (va_cwS 3 hts (mk_gS tw_737 tw_738 tw_48 tw_739) rfl rfl rfl hdMod_multiplied.2 ⟨Nat.le_of_ble_eq_true rfl, Nat.le_of_ble_eq_true rfl⟩) mk_preS rfl rfl hl.1 rfl (lv_room (Nat.le_of_ble_eq_true rfl)) dMod_carry_411 ⟨Nat.zero_le _, Nat.zero_le _⟩) ?_
      refine lv_goto (tgt := 476) hx hb dMod_carry_414 (by decide) ?_
      refine mk_callWv (va_runV (As := [.int (mf_RiscHartModel_part a1 7 5), .int (mf_RiscHartModel_multiplied (mf_RiscHartModel_part a1 12 3) (ms_x st ((mf_RiscHartModel_part a1 15 5)).toNatClampNeg) (ms_x st ((mf_RiscHartModel_part a1 20 5)).toNatClampNeg))]) (rest := []) ⟨hx, hb, hml, hown, hts⟩ (mc_RiscHartModel_give l hP hD (mf_RiscHartModel_part a1 7 5) (mf_RiscHartModel_multiplied (mf_RiscHartModel_part a1 12 3) (ms_x st ((mf_RiscHartModel_part a1 15 5)).toNatClampNeg) (ms_x st ((mf_RiscHartModel_part a1 20 5)).toNatClampNeg)) (in_mpart5 _ _)) (cwV 2 hts (mk_gV tw_713 tw_715 tw_38 tw_48 tw_716) rfl rfl rfl hdMod_give ⟨Nat.le_of_ble_eq_true rfl, Nat.le_of_ble_eq_true rfl⟩) (mk_preVK hK (va_recv hK hP (ci := 2) (q0 := 0) rfl rfl)) rfl rfl hl.1 rfl (lv_room (Nat.le_of_ble_eq_true rfl)) dMod_carry_476 ⟨Nat.zero_le _, Nat.zero_le _⟩) hS (fun H locs hP hS => ?_)
      refine lv_goto (tgt := 536) hx hb dMod_carry_479 (by decide) ?_
      exact W.vret hx hb hr (fun t ht hW => ⟨⟨(mf_RiscHartModel_give st (mf_RiscHartModel_part a1 7 5) (mf_RiscHartModel_multiplied (mf_RiscHartModel_part a1 12 3) (ms_x st ((mf_RiscHartModel_part a1 15 5)).toNatClampNeg) (ms_x st ((mf_RiscHartModel_part a1 20 5)).toNatClampNeg))), rfl, (by unfold mf_RiscHartModel_carry; rw [if_neg c_1, if_neg c_2, if_neg c_4, if_neg c_7, if_neg c_8, if_neg c_9, if_pos c_10, if_pos c_11]), by show va_P D hcl _ t.heap; rw [ht]; exact hP⟩, hS.F ht⟩) hS.2.2 dMod_carry_536
  by_cases c_19 : (mf_RiscHartModel_part a1 0 7) = 55
  · refine lv_lookup (off := 105) (tgt := 172) hx hb dMod_carry_67 (by decide) (by rw [c_19]; decide) (by decide) ?_
    refine lv_aload_n hx hb dMod_carry_172 rfl (lv_at hl 6 rfl) ?_
    refine lv_iload_n hx hb dMod_carry_173 rfl (lv_at hl 5 rfl) ?_
    refine lv_iload_n hx hb dMod_carry_174 rfl (lv_at hl 7 rfl) ?_
    refine lv_sipush (v := (-4096)) hx hb dMod_carry_175 (by decide) ?_
    refine lv_iand hx hb dMod_carry_178 ?_
    refine mk_callWv (va_runV (As := [.int (mf_RiscHartModel_part a1 7 5), .int (a1 &&& (-4096))]) (rest := []) ⟨hx, hb, hml, hown, hts⟩ (mc_RiscHartModel_give l hP hD (mf_RiscHartModel_part a1 7 5) (a1 &&& (-4096)) (in_mpart5 _ _)) (cwV 2 hts (mk_gV tw_713 tw_715 tw_38 tw_48 tw_716) rfl rfl rfl hdMod_give ⟨Nat.le_of_ble_eq_true rfl, Nat.le_of_ble_eq_true rfl⟩) (mk_preVK hK (va_recv hK hP (ci := 2) (q0 := 0) rfl rfl)) rfl rfl hl.1 rfl (lv_room (Nat.le_of_ble_eq_true rfl)) dMod_carry_179 ⟨Nat.zero_le _, Nat.zero_le _⟩) hS (fun H locs hP hS => ?_)
    refine lv_goto (tgt := 536) hx hb dMod_carry_182 (by decide) ?_
    exact W.vret hx hb hr (fun t ht hW => ⟨⟨(mf_RiscHartModel_give st (mf_RiscHartModel_part a1 7 5) (a1 &&& (-4096))), rfl, (by unfold mf_RiscHartModel_carry; rw [if_neg c_1, if_neg c_2, if_neg c_4, if_neg c_7, if_neg c_8, if_neg c_9, if_neg c_10, if_pos c_19]), by show va_P D hcl _ t.heap; rw [ht]; exact hP⟩, hS.F ht⟩) hS.2.2 dMod_carry_536
  by_cases c_20 : (mf_RiscHartModel_part a1 0 7) = 99
  · refine lv_lookup (off := 235) (tgt := 302) hx hb dMod_carry_67 (by decide) (by rw [c_20]; decide) (by decide) ?_
    refine lv_aload_n hx hb dMod_carry_302 rfl (lv_at hl 6 rfl) ?_
    refine lv_iload_n hx hb dMod_carry_303 rfl (lv_at hl 7 rfl) ?_
    refine lv_iload_n hx hb dMod_carry_304 rfl (lv_at hl 4 rfl) ?_
    refine lv_iload hx hb dMod_carry_305 (lv_at hl 3 rfl) ?_
    refine lv_iload hx hb dMod_carry_307 (lv_at hl 2 rfl) ?_
    refine mk_callWv (va_runV (As := [.int a1, .int (mf_RiscHartModel_part a1 12 3), .int (ms_x st ((mf_RiscHartModel_part a1 15 5)).toNatClampNeg), .int (ms_x st ((mf_RiscHartModel_part a1 20 5)).toNatClampNeg)]) (rest := []) ⟨hx, hb, hml, hown, hts⟩ (mc_RiscHartModel_decide l hP hD a1 (mf_RiscHartModel_part a1 12 3) (ms_x st ((mf_RiscHartModel_part a1 15 5)).toNatClampNeg) (ms_x st ((mf_RiscHartModel_part a1 20 5)).toNatClampNeg)) (cwV 4 hts (mk_gV tw_717 tw_719 tw_39 tw_48 tw_720) rfl rfl rfl hdMod_decide ⟨Nat.le_of_ble_eq_true rfl, Nat.le_of_ble_eq_true rfl⟩) (mk_preVK hK (va_recv hK hP (ci := 2) (q0 := 0) rfl rfl)) rfl rfl hl.1 rfl (lv_room (Nat.le_of_ble_eq_true rfl)) dMod_carry_309 ⟨Nat.zero_le _, Nat.zero_le _⟩) hS (fun H locs hP hS => ?_)
    refine lv_goto (tgt := 536) hx hb dMod_carry_312 (by decide) ?_
    exact W.vret hx hb hr (fun t ht hW => ⟨⟨(mf_RiscHartModel_decide st a1 (mf_RiscHartModel_part a1 12 3) (ms_x st ((mf_RiscHartModel_part a1 15 5)).toNatClampNeg) (ms_x st ((mf_RiscHartModel_part a1 20 5)).toNatClampNeg)), rfl, (by unfold mf_RiscHartModel_carry; rw [if_neg c_1, if_neg c_2, if_neg c_4, if_neg c_7, if_neg c_8, if_neg c_9, if_neg c_10, if_neg c_19, if_pos c_20]), by show va_P D hcl _ t.heap; rw [ht]; exact hP⟩, hS.F ht⟩) hS.2.2 dMod_carry_536
  by_cases c_21 : (mf_RiscHartModel_part a1 0 7) = 103
  · refine lv_lookup (off := 202) (tgt := 269) hx hb dMod_carry_67 (by decide) (by rw [c_21]; decide) (by decide) ?_
    refine lv_iload_n hx hb dMod_carry_269 rfl (lv_at hl 4 rfl) ?_
    refine lv_if_eq (tgt := 278) hx hb dMod_carry_270 (by decide) (fun c_22 => ?_) (fun c_22 => ?_)
    · refine lv_aload_n hx hb dMod_carry_278 rfl (lv_at hl 6 rfl) ?_
      refine lv_iload_n hx hb dMod_carry_279 rfl (lv_at hl 5 rfl) ?_
      refine lv_aload_n hx hb dMod_carry_280 rfl (lv_at hl 6 rfl) ?_
      refine va_get (D := D) (ci := 2) (v := .int (ms_next st)) (C := RMod) (T := TMod) (N := 14) hx hb hg inMod hown hK hP 0 rfl rfl 12 (by decide) (hg _ tw_569) (fun _ h9 => h9) rfl dMod_carry_281 ?_
      refine mk_callWv (va_runV (As := [.int (mf_RiscHartModel_part a1 7 5), .int (ms_next st)]) (rest := []) ⟨hx, hb, hml, hown, hts⟩ (mc_RiscHartModel_give l hP hD (mf_RiscHartModel_part a1 7 5) (ms_next st) (in_mpart5 _ _)) (cwV 2 hts (mk_gV tw_713 tw_715 tw_38 tw_48 tw_716) rfl rfl rfl hdMod_give ⟨Nat.le_of_ble_eq_true rfl, Nat.le_of_ble_eq_true rfl⟩) (mk_preVK hK (va_recv hK hP (ci := 2) (q0 := 0) rfl rfl)) rfl rfl hl.1 rfl (lv_room (Nat.le_of_ble_eq_true rfl)) dMod_carry_284 ⟨Nat.zero_le _, Nat.zero_le _⟩) hS (fun H locs hP hS => ?_)
      refine lv_aload_n hx hb dMod_carry_287 rfl (lv_at hl 6 rfl) ?_
      refine lv_iload hx hb dMod_carry_288 (lv_at hl 3 rfl) ?_
      refine lv_iload hx hb dMod_carry_290 (lv_at hl 0 rfl) ?_
      refine lv_iadd hx hb dMod_carry_292 ?_
      refine lv_bipush (v := (-2)) hx hb dMod_carry_293 (by decide) ?_
      refine lv_iand hx hb dMod_carry_295 ?_
      refine lv_topi (fun y_23 ey_23 => ?_)
      refine va_put (D := D) (ci := 2) (v := .int y_23) (ty := .int) (C := RMod) (T := TMod) (N := 14) hx hb hg inMod tyMod tyMod_ok nmMod hown hK hP (hD _) hS 0 rfl rfl 12 (by decide) (hg _ tw_569) (fun _ h9 => h9) rfl (by decide +kernel) rfl rfl (Nat.le_of_ble_eq_true rfl) dMod_carry_296 (fun H locs hP _ hS => ?_)
      have hP : va_P D hcl (ms_W cB cO cX m0 m1 m2 m3 (ms_set_next (mf_RiscHartModel_give st (mf_RiscHartModel_part a1 7 5) (ms_next st)) y_23)) H := hP
      subst ey_23
      refine lv_goto (tgt := 536) hx hb dMod_carry_299 (by decide) ?_
      exact W.vret hx hb hr (fun t ht hW => ⟨⟨(ms_set_next (mf_RiscHartModel_give st (mf_RiscHartModel_part a1 7 5) (ms_next st)) (((ms_x st ((mf_RiscHartModel_part a1 15 5)).toNatClampNeg) + (a1 >>> (20 &&& 31))) &&& (-2))), rfl, (by unfold mf_RiscHartModel_carry; rw [if_neg c_1, if_neg c_2, if_neg c_4, if_neg c_7, if_neg c_8, if_neg c_9, if_neg c_10, if_neg c_19, if_neg c_20, if_pos c_21, if_pos c_22]), by show va_P D hcl _ t.heap; rw [ht]; exact hP⟩, hS.F ht⟩) hS.2.2 dMod_carry_536
    · refine lv_aload_n hx hb dMod_carry_273 rfl (lv_at hl 6 rfl) ?_
      refine mk_callW (va_runV (As := []) (rest := []) ⟨hx, hb, hml, hown, hts⟩ (mc_RiscHartModel_illegal l hP hD) (cwV 0 hts (mk_gV tw_705 tw_707 tw_36 tw_48 tw_708) rfl rfl rfl hdMod_illegal ⟨Nat.le_of_ble_eq_true rfl, Nat.le_of_ble_eq_true rfl⟩) (mk_preVK hK (va_recv hK hP (ci := 2) (q0 := 0) rfl rfl)) rfl rfl hl.1 rfl (lv_room (Nat.le_of_ble_eq_true rfl)) dMod_carry_274 ⟨Nat.zero_le _, Nat.zero_le _⟩) hS (fun H locs hP hS => ?_)
      refine lv_pop hx hb dMod_carry_277 rfl ?_
      refine lv_aload_n hx hb dMod_carry_278 rfl (lv_at hl 6 rfl) ?_
      refine lv_iload_n hx hb dMod_carry_279 rfl (lv_at hl 5 rfl) ?_
      refine lv_aload_n hx hb dMod_carry_280 rfl (lv_at hl 6 rfl) ?_
      refine va_get (D := D) (ci := 2) (v := .int (ms_next ((mf_RiscHartModel_illegal st).2))) (C := RMod) (T := TMod) (N := 14) hx hb hg inMod hown hK hP 0 rfl rfl 12 (by decide) (hg _ tw_569) (fun _ h9 => h9) rfl dMod_carry_281 ?_
      refine mk_callWv (va_runV (As := [.int (mf_RiscHartModel_part a1 7 5), .int (ms_next ((mf_RiscHartModel_illegal st).2))]) (rest := []) ⟨hx, hb, hml, hown, hts⟩ (mc_RiscHartModel_give l hP hD (mf_RiscHartModel_part a1 7 5) (ms_next ((mf_RiscHartModel_illegal st).2)) (in_mpart5 _ _)) (cwV 2 hts (mk_gV tw_713 tw_715 tw_38 tw_48 tw_716) rfl rfl rfl hdMod_give ⟨Nat.le_of_ble_eq_true rfl, Nat.le_of_ble_eq_true rfl⟩) (mk_preVK hK (va_recv hK hP (ci := 2) (q0 := 0) rfl rfl)) rfl rfl hl.1 rfl (lv_room (Nat.le_of_ble_eq_true rfl)) dMod_carry_284 ⟨Nat.zero_le _, Nat.zero_le _⟩) hS (fun H locs hP hS => ?_)
      refine lv_aload_n hx hb dMod_carry_287 rfl (lv_at hl 6 rfl) ?_
      refine lv_iload hx hb dMod_carry_288 (lv_at hl 3 rfl) ?_
      refine lv_iload hx hb dMod_carry_290 (lv_at hl 0 rfl) ?_
      refine lv_iadd hx hb dMod_carry_292 ?_
      refine lv_bipush (v := (-2)) hx hb dMod_carry_293 (by decide) ?_
      refine lv_iand hx hb dMod_carry_295 ?_
      refine lv_topi (fun y_24 ey_24 => ?_)
      refine va_put (D := D) (ci := 2) (v := .int y_24) (ty := .int) (C := RMod) (T := TMod) (N := 14) hx hb hg inMod tyMod tyMod_ok nmMod hown hK hP (hD _) hS 0 rfl rfl 12 (by decide) (hg _ tw_569) (fun _ h9 => h9) rfl (by decide +kernel) rfl rfl (Nat.le_of_ble_eq_true rfl) dMod_carry_296 (fun H locs hP _ hS => ?_)
      have hP : va_P D hcl (ms_W cB cO cX m0 m1 m2 m3 (ms_set_next (mf_RiscHartModel_give ((mf_RiscHartModel_illegal st).2) (mf_RiscHartModel_part a1 7 5) (ms_next ((mf_RiscHartModel_illegal st).2))) y_24)) H := hP
      subst ey_24
      refine lv_goto (tgt := 536) hx hb dMod_carry_299 (by decide) ?_
      exact W.vret hx hb hr (fun t ht hW => ⟨⟨(ms_set_next (mf_RiscHartModel_give ((mf_RiscHartModel_illegal st).2) (mf_RiscHartModel_part a1 7 5) (ms_next ((mf_RiscHartModel_illegal st).2))) (((ms_x st ((mf_RiscHartModel_part a1 15 5)).toNatClampNeg) + (a1 >>> (20 &&& 31))) &&& (-2))), rfl, (by unfold mf_RiscHartModel_carry; rw [if_neg c_1, if_neg c_2, if_neg c_4, if_neg c_7, if_neg c_8, if_neg c_9, if_neg c_10, if_neg c_19, if_neg c_20, if_pos c_21, if_neg c_22]), by show va_P D hcl _ t.heap; rw [ht]; exact hP⟩, hS.F ht⟩) hS.2.2 dMod_carry_536
  by_cases c_25 : (mf_RiscHartModel_part a1 0 7) = 111
  · refine lv_lookup (off := 136) (tgt := 203) hx hb dMod_carry_67 (by decide) (by rw [c_25]; decide) (by decide) ?_
    refine lv_aload_n hx hb dMod_carry_203 rfl (lv_at hl 6 rfl) ?_
    refine lv_iload_n hx hb dMod_carry_204 rfl (lv_at hl 5 rfl) ?_
    refine lv_aload_n hx hb dMod_carry_205 rfl (lv_at hl 6 rfl) ?_
    refine va_get (D := D) (ci := 2) (v := .int (ms_next st)) (C := RMod) (T := TMod) (N := 14) hx hb hg inMod hown hK hP 0 rfl rfl 12 (by decide) (hg _ tw_569) (fun _ h9 => h9) rfl dMod_carry_206 ?_
    refine mk_callWv (va_runV (As := [.int (mf_RiscHartModel_part a1 7 5), .int (ms_next st)]) (rest := []) ⟨hx, hb, hml, hown, hts⟩ (mc_RiscHartModel_give l hP hD (mf_RiscHartModel_part a1 7 5) (ms_next st) (in_mpart5 _ _)) (cwV 2 hts (mk_gV tw_713 tw_715 tw_38 tw_48 tw_716) rfl rfl rfl hdMod_give ⟨Nat.le_of_ble_eq_true rfl, Nat.le_of_ble_eq_true rfl⟩) (mk_preVK hK (va_recv hK hP (ci := 2) (q0 := 0) rfl rfl)) rfl rfl hl.1 rfl (lv_room (Nat.le_of_ble_eq_true rfl)) dMod_carry_209 ⟨Nat.zero_le _, Nat.zero_le _⟩) hS (fun H locs hP hS => ?_)
    refine lv_aload_n hx hb dMod_carry_212 rfl (lv_at hl 6 rfl) ?_
    refine lv_aload_n hx hb dMod_carry_213 rfl (lv_at hl 6 rfl) ?_
    refine va_get (D := D) (ci := 2) (v := .int (ms_place (mf_RiscHartModel_give st (mf_RiscHartModel_part a1 7 5) (ms_next st)))) (C := RMod) (T := TMod) (N := 14) hx hb hg inMod hown hK hP 0 rfl rfl 4 (by decide) (hg _ tw_561) (fun _ h9 => h9) rfl dMod_carry_214 ?_
    refine lv_iload_n hx hb dMod_carry_217 rfl (lv_at hl 7 rfl) ?_
    refine lv_bipush (v := 31) hx hb dMod_carry_218 (by decide) ?_
    refine lv_iconst (v := 1) hx hb dMod_carry_220 (by decide) ?_
    refine lv_bipush (v := 20) hx hb dMod_carry_221 (by decide) ?_
    refine mk_callR (va_runS (As := [.int a1, .int 31, .int 1, .int 20]) (rest := [.int (ms_place (mf_RiscHartModel_give st (mf_RiscHartModel_part a1 7 5) (ms_next st))), .ref m0]) ⟨hx, hb, hml, hown, hts⟩ (mc_RiscHartModel_bit l _ a1 31 1 20) (va_cwS 4 hts (mk_gS tw_674 tw_675 tw_48 tw_676) rfl rfl rfl hdMod_bit.2 ⟨Nat.le_of_ble_eq_true rfl, Nat.le_of_ble_eq_true rfl⟩) mk_preS rfl rfl hl.1 rfl (lv_room (Nat.le_of_ble_eq_true rfl)) dMod_carry_223 ⟨Nat.zero_le _, Nat.zero_le _⟩) ?_
    refine lv_iload_n hx hb dMod_carry_226 rfl (lv_at hl 7 rfl) ?_
    refine lv_bipush (v := 12) hx hb dMod_carry_227 (by decide) ?_
    refine lv_bipush (v := 8) hx hb dMod_carry_229 (by decide) ?_
    refine lv_bipush (v := 12) hx hb dMod_carry_231 (by decide) ?_
    refine mk_callR (va_runS (As := [.int a1, .int 12, .int 8, .int 12]) (rest := [.int (mf_RiscHartModel_bit a1 31 1 20), .int (ms_place (mf_RiscHartModel_give st (mf_RiscHartModel_part a1 7 5) (ms_next st))), .ref m0]) ⟨hx, hb, hml, hown, hts⟩ (mc_RiscHartModel_bit l _ a1 12 8 12) (va_cwS 4 hts (mk_gS tw_674 tw_675 tw_48 tw_676) rfl rfl rfl hdMod_bit.2 ⟨Nat.le_of_ble_eq_true rfl, Nat.le_of_ble_eq_true rfl⟩) mk_preS rfl rfl hl.1 rfl (lv_room (Nat.le_of_ble_eq_true rfl)) dMod_carry_233 ⟨Nat.zero_le _, Nat.zero_le _⟩) ?_
    refine lv_ior hx hb dMod_carry_236 ?_
    refine lv_iload_n hx hb dMod_carry_237 rfl (lv_at hl 7 rfl) ?_
    refine lv_bipush (v := 20) hx hb dMod_carry_238 (by decide) ?_
    refine lv_iconst (v := 1) hx hb dMod_carry_240 (by decide) ?_
    refine lv_bipush (v := 11) hx hb dMod_carry_241 (by decide) ?_
    refine mk_callR (va_runS (As := [.int a1, .int 20, .int 1, .int 11]) (rest := [.int ((mf_RiscHartModel_bit a1 31 1 20) ||| (mf_RiscHartModel_bit a1 12 8 12)), .int (ms_place (mf_RiscHartModel_give st (mf_RiscHartModel_part a1 7 5) (ms_next st))), .ref m0]) ⟨hx, hb, hml, hown, hts⟩ (mc_RiscHartModel_bit l _ a1 20 1 11) (va_cwS 4 hts (mk_gS tw_674 tw_675 tw_48 tw_676) rfl rfl rfl hdMod_bit.2 ⟨Nat.le_of_ble_eq_true rfl, Nat.le_of_ble_eq_true rfl⟩) mk_preS rfl rfl hl.1 rfl (lv_room (Nat.le_of_ble_eq_true rfl)) dMod_carry_243 ⟨Nat.zero_le _, Nat.zero_le _⟩) ?_
    refine lv_ior hx hb dMod_carry_246 ?_
    refine lv_iload_n hx hb dMod_carry_247 rfl (lv_at hl 7 rfl) ?_
    refine lv_bipush (v := 21) hx hb dMod_carry_248 (by decide) ?_
    refine lv_bipush (v := 10) hx hb dMod_carry_250 (by decide) ?_
    refine lv_iconst (v := 1) hx hb dMod_carry_252 (by decide) ?_
    refine mk_callR (va_runS (As := [.int a1, .int 21, .int 10, .int 1]) (rest := [.int (((mf_RiscHartModel_bit a1 31 1 20) ||| (mf_RiscHartModel_bit a1 12 8 12)) ||| (mf_RiscHartModel_bit a1 20 1 11)), .int (ms_place (mf_RiscHartModel_give st (mf_RiscHartModel_part a1 7 5) (ms_next st))), .ref m0]) ⟨hx, hb, hml, hown, hts⟩ (mc_RiscHartModel_bit l _ a1 21 10 1) (va_cwS 4 hts (mk_gS tw_674 tw_675 tw_48 tw_676) rfl rfl rfl hdMod_bit.2 ⟨Nat.le_of_ble_eq_true rfl, Nat.le_of_ble_eq_true rfl⟩) mk_preS rfl rfl hl.1 rfl (lv_room (Nat.le_of_ble_eq_true rfl)) dMod_carry_253 ⟨Nat.zero_le _, Nat.zero_le _⟩) ?_
    refine lv_ior hx hb dMod_carry_256 ?_
    refine lv_bipush (v := 21) hx hb dMod_carry_257 (by decide) ?_
    refine mk_callR (va_runS (As := [.int ((((mf_RiscHartModel_bit a1 31 1 20) ||| (mf_RiscHartModel_bit a1 12 8 12)) ||| (mf_RiscHartModel_bit a1 20 1 11)) ||| (mf_RiscHartModel_bit a1 21 10 1)), .int 21]) (rest := [.int (ms_place (mf_RiscHartModel_give st (mf_RiscHartModel_part a1 7 5) (ms_next st))), .ref m0]) ⟨hx, hb, hml, hown, hts⟩ (mc_RiscHartModel_signed l _ ((((mf_RiscHartModel_bit a1 31 1 20) ||| (mf_RiscHartModel_bit a1 12 8 12)) ||| (mf_RiscHartModel_bit a1 20 1 11)) ||| (mf_RiscHartModel_bit a1 21 10 1)) 21) (va_cwS 2 hts (mk_gS tw_686 tw_687 tw_48 tw_688) rfl rfl rfl hdMod_signed.2 ⟨Nat.le_of_ble_eq_true rfl, Nat.le_of_ble_eq_true rfl⟩) mk_preS rfl rfl hl.1 rfl (lv_room (Nat.le_of_ble_eq_true rfl)) dMod_carry_259 ⟨Nat.zero_le _, Nat.zero_le _⟩) ?_
    refine lv_iadd hx hb dMod_carry_262 ?_
    refine lv_topi (fun y_26 ey_26 => ?_)
    refine va_put (D := D) (ci := 2) (v := .int y_26) (ty := .int) (C := RMod) (T := TMod) (N := 14) hx hb hg inMod tyMod tyMod_ok nmMod hown hK hP (hD _) hS 0 rfl rfl 12 (by decide) (hg _ tw_569) (fun _ h9 => h9) rfl (by decide +kernel) rfl rfl (Nat.le_of_ble_eq_true rfl) dMod_carry_263 (fun H locs hP _ hS => ?_)
    have hP : va_P D hcl (ms_W cB cO cX m0 m1 m2 m3 (ms_set_next (mf_RiscHartModel_give st (mf_RiscHartModel_part a1 7 5) (ms_next st)) y_26)) H := hP
    subst ey_26
    refine lv_goto (tgt := 536) hx hb dMod_carry_266 (by decide) ?_
    exact W.vret hx hb hr (fun t ht hW => ⟨⟨(ms_set_next (mf_RiscHartModel_give st (mf_RiscHartModel_part a1 7 5) (ms_next st)) ((ms_place (mf_RiscHartModel_give st (mf_RiscHartModel_part a1 7 5) (ms_next st))) + (mf_RiscHartModel_signed ((((mf_RiscHartModel_bit a1 31 1 20) ||| (mf_RiscHartModel_bit a1 12 8 12)) ||| (mf_RiscHartModel_bit a1 20 1 11)) ||| (mf_RiscHartModel_bit a1 21 10 1)) 21))), rfl, (by unfold mf_RiscHartModel_carry; rw [if_neg c_1, if_neg c_2, if_neg c_4, if_neg c_7, if_neg c_8, if_neg c_9, if_neg c_10, if_neg c_19, if_neg c_20, if_neg c_21, if_pos c_25]), by show va_P D hcl _ t.heap; rw [ht]; exact hP⟩, hS.F ht⟩) hS.2.2 dMod_carry_536
  by_cases c_27 : (mf_RiscHartModel_part a1 0 7) = 115
  · refine lv_lookup (off := 450) (tgt := 517) hx hb dMod_carry_67 (by decide) (by rw [c_27]; decide) (by decide) ?_
    refine lv_aload_n hx hb dMod_carry_517 rfl (lv_at hl 6 rfl) ?_
    refine lv_iload_n hx hb dMod_carry_518 rfl (lv_at hl 5 rfl) ?_
    refine lv_aload_n hx hb dMod_carry_519 rfl (lv_at hl 6 rfl) ?_
    refine lv_iload_n hx hb dMod_carry_520 rfl (lv_at hl 7 rfl) ?_
    refine lv_iload_n hx hb dMod_carry_521 rfl (lv_at hl 4 rfl) ?_
    refine mk_callW (va_runV (As := [.int a1, .int (mf_RiscHartModel_part a1 12 3)]) (rest := [.int (mf_RiscHartModel_part a1 7 5), .ref m0]) ⟨hx, hb, hml, hown, hts⟩ (mc_RiscHartModel_system l hP hD a1 (mf_RiscHartModel_part a1 12 3)) (cwV 2 hts (mk_gV tw_747 tw_749 tw_44 tw_48 tw_750) rfl rfl rfl hdMod_system ⟨Nat.le_of_ble_eq_true rfl, Nat.le_of_ble_eq_true rfl⟩) (mk_preVK hK (va_recv hK hP (ci := 2) (q0 := 0) rfl rfl)) rfl rfl hl.1 rfl (lv_room (Nat.le_of_ble_eq_true rfl)) dMod_carry_522 ⟨Nat.zero_le _, Nat.zero_le _⟩) hS (fun H locs hP hS => ?_)
    refine mk_callWv (va_runV (As := [.int (mf_RiscHartModel_part a1 7 5), .int ((mf_RiscHartModel_system st a1 (mf_RiscHartModel_part a1 12 3)).1)]) (rest := []) ⟨hx, hb, hml, hown, hts⟩ (mc_RiscHartModel_give l hP hD (mf_RiscHartModel_part a1 7 5) ((mf_RiscHartModel_system st a1 (mf_RiscHartModel_part a1 12 3)).1) (in_mpart5 _ _)) (cwV 2 hts (mk_gV tw_713 tw_715 tw_38 tw_48 tw_716) rfl rfl rfl hdMod_give ⟨Nat.le_of_ble_eq_true rfl, Nat.le_of_ble_eq_true rfl⟩) (mk_preVK hK (va_recv hK hP (ci := 2) (q0 := 0) rfl rfl)) rfl rfl hl.1 rfl (lv_room (Nat.le_of_ble_eq_true rfl)) dMod_carry_525 ⟨Nat.zero_le _, Nat.zero_le _⟩) hS (fun H locs hP hS => ?_)
    refine lv_goto (tgt := 536) hx hb dMod_carry_528 (by decide) ?_
    exact W.vret hx hb hr (fun t ht hW => ⟨⟨(mf_RiscHartModel_give ((mf_RiscHartModel_system st a1 (mf_RiscHartModel_part a1 12 3)).2) (mf_RiscHartModel_part a1 7 5) ((mf_RiscHartModel_system st a1 (mf_RiscHartModel_part a1 12 3)).1)), rfl, (by unfold mf_RiscHartModel_carry; rw [if_neg c_1, if_neg c_2, if_neg c_4, if_neg c_7, if_neg c_8, if_neg c_9, if_neg c_10, if_neg c_19, if_neg c_20, if_neg c_21, if_neg c_25, if_pos c_27]), by show va_P D hcl _ t.heap; rw [ht]; exact hP⟩, hS.F ht⟩) hS.2.2 dMod_carry_536
  refine lv_lookup (off := 464) (tgt := 531) hx hb dMod_carry_67 (by decide) ((lv_osw (a := 3) c_1 rfl).trans ((lv_osw (a := 15) c_2 rfl).trans ((lv_osw (a := 19) c_4 rfl).trans ((lv_osw (a := 23) c_7 rfl).trans ((lv_osw (a := 35) c_8 rfl).trans ((lv_osw (a := 47) c_9 rfl).trans ((lv_osw (a := 51) c_10 rfl).trans ((lv_osw (a := 55) c_19 rfl).trans ((lv_osw (a := 99) c_20 rfl).trans ((lv_osw (a := 103) c_21 rfl).trans ((lv_osw (a := 111) c_25 rfl).trans ((lv_osw (a := 115) c_27 rfl).trans (rfl))))))))))))) (by decide) ?_
  refine lv_aload_n hx hb dMod_carry_531 rfl (lv_at hl 6 rfl) ?_
  refine mk_callW (va_runV (As := []) (rest := []) ⟨hx, hb, hml, hown, hts⟩ (mc_RiscHartModel_illegal l hP hD) (cwV 0 hts (mk_gV tw_705 tw_707 tw_36 tw_48 tw_708) rfl rfl rfl hdMod_illegal ⟨Nat.le_of_ble_eq_true rfl, Nat.le_of_ble_eq_true rfl⟩) (mk_preVK hK (va_recv hK hP (ci := 2) (q0 := 0) rfl rfl)) rfl rfl hl.1 rfl (lv_room (Nat.le_of_ble_eq_true rfl)) dMod_carry_532 ⟨Nat.zero_le _, Nat.zero_le _⟩) hS (fun H locs hP hS => ?_)
  refine lv_pop hx hb dMod_carry_535 rfl ?_
  exact W.vret hx hb hr (fun t ht hW => ⟨⟨(mf_RiscHartModel_illegal st).2, rfl, (by unfold mf_RiscHartModel_carry; rw [if_neg c_1, if_neg c_2, if_neg c_4, if_neg c_7, if_neg c_8, if_neg c_9, if_neg c_10, if_neg c_19, if_neg c_20, if_neg c_21, if_neg c_25, if_neg c_27]), by show va_P D hcl _ t.heap; rw [ht]; exact hP⟩, hS.F ht⟩) hS.2.2 dMod_carry_536
set_option maxHeartbeats 4000000 in
set_option maxRecDepth 100000 in
theorem mc_RiscHartModel_step (l : Launch) {D : va_G} {cB cO cX : ClassId} {m0 m1 m2 m3 : Nat} {A : Nat → Prop} {st : MS} {G : Heap} (hP : va_P D hcl (ms_W cB cO cX m0 m1 m2 m3 st) G) (hD : ∀ z, va_D A (ms_W cB cO cX m0 m1 m2 m3 z))   : Met l yMod_step (wq yMod_step cMod_step 2 (some .int)) ({ frames := 5, cells := 0, slots := 0, locals := 124 }) (mk_PK D hcl [(cB, .int), (cO, .int), (cX, .int)] G [.ref m0]) (mk_Wi (fun u t => va_P D hcl (ms_W cB cO cX m0 m1 m2 m3 u) t) A (mf_RiscHartModel_step st)) 0 0 A := by
  refine Met.ofW (cc := cMod_step) (maxL := 2) (ret := (some .int)) (by decide) rfl ?_
  intro p e s m args below meth c s₁ B hml hv
  obtain ⟨rfl, hG, hK⟩ := hv
  subst hG
  have hx := B.exec
  have hb := B.bytes
  have hr := B.returns
  have hts := atoms_spec (ws := (wq yMod_step cMod_step 2 (some .int))) B.pre
  have hown : s.vm.findClass RMod = some m.cls := findClass_of_methodNamed B.named
  have hlocks := B.notSynchronized
  have hg : ∀ w ∈ lw_g, w.before _ s = true := fun w h => hts w (List.mem_cons_of_mem _ h)
  have hS : va_S A s.heap s.heap [] := va_S.rf
  have hl := lv_entry ([.ref m0]) (n := 2) (Nat.le_of_ble_eq_true rfl)
  rw [lg_entry_eq]
  generalize (lg_sl ([.ref m0]) ++ List.replicate (2 - (lg_sl ([.ref m0])).length) Slot.unset).toArray = ls at hl ⊢
  have hl : lv_has ls 2 [(0, .ref m0)] := hl
  refine lv_aload_n hx hb dMod_step_0 rfl (lv_at hl 0 rfl) ?_
  refine lv_iconst (v := 0) hx hb dMod_step_1 (by decide) ?_
  refine va_put (D := D) (ci := 2) (v := .int 0) (ty := .int) (C := RMod) (T := TMod) (N := 14) hx hb hg inMod tyMod tyMod_ok nmMod hown hK hP (hD _) hS 0 rfl rfl 0 (by decide) (hg _ tw_557) (fun _ h9 => h9) rfl (by decide +kernel) rfl rfl (Nat.le_of_ble_eq_true rfl) dMod_step_2 (fun H locs hP _ hS => ?_)
  have hP : va_P D hcl (ms_W cB cO cX m0 m1 m2 m3 (ms_set_code st 0)) H := hP
  refine lv_aload_n hx hb dMod_step_5 rfl (lv_at hl 0 rfl) ?_
  refine lv_iconst (v := 0) hx hb dMod_step_6 (by decide) ?_
  refine va_put (D := D) (ci := 2) (v := .int 0) (ty := .int) (C := RMod) (T := TMod) (N := 14) hx hb hg inMod tyMod tyMod_ok nmMod hown hK hP (hD _) hS 0 rfl rfl 13 (by decide) (hg _ tw_570) (fun _ h9 => h9) rfl (by decide +kernel) rfl rfl (Nat.le_of_ble_eq_true rfl) dMod_step_7 (fun H locs hP _ hS => ?_)
  have hP : va_P D hcl (ms_W cB cO cX m0 m1 m2 m3 (ms_set_met (ms_set_code st 0) 0)) H := hP
  refine lv_aload_n hx hb dMod_step_10 rfl (lv_at hl 0 rfl) ?_
  refine va_get (D := D) (ci := 2) (v := .int (ms_place st)) (C := RMod) (T := TMod) (N := 14) hx hb hg inMod hown hK hP 0 rfl rfl 4 (by decide) (hg _ tw_561) (fun _ h9 => h9) rfl dMod_step_11 ?_
  refine lv_iconst (v := 1) hx hb dMod_step_14 (by decide) ?_
  refine lv_iand hx hb dMod_step_15 ?_
  refine lv_iconst (v := 1) hx hb dMod_step_16 (by decide) ?_
  refine lv_icmp_eq (tgt := 31) hx hb dMod_step_17 (by decide) (fun c_1 => ?_) (fun c_1 => ?_)
  · refine lv_aload_n hx hb dMod_step_31 rfl (lv_at hl 0 rfl) ?_
    refine lv_iconst (v := 1) hx hb dMod_step_32 (by decide) ?_
    refine lv_aload_n hx hb dMod_step_33 rfl (lv_at hl 0 rfl) ?_
    refine va_get (D := D) (ci := 2) (v := .int (ms_place st)) (C := RMod) (T := TMod) (N := 14) hx hb hg inMod hown hK hP 0 rfl rfl 4 (by decide) (hg _ tw_561) (fun _ h9 => h9) rfl dMod_step_34 ?_
    refine mk_callW (va_runV (As := [.int 1, .int (ms_place st)]) (rest := []) ⟨hx, hb, hml, hown, hts⟩ (mc_RiscHartModel_trap l hP hD 1 (ms_place st)) (cwV 2 hts (mk_gV tw_657 tw_659 tw_34 tw_48 tw_660) rfl rfl rfl hdMod_trap ⟨Nat.le_of_ble_eq_true rfl, Nat.le_of_ble_eq_true rfl⟩) (mk_preVK hK (va_recv hK hP (ci := 2) (q0 := 0) rfl rfl)) rfl rfl hl.1 rfl (lv_room (Nat.le_of_ble_eq_true rfl)) dMod_step_37 ⟨Nat.zero_le _, Nat.zero_le _⟩) hS (fun H locs hP hS => ?_)
    refine lv_pop hx hb dMod_step_40 rfl ?_
    refine lv_aload_n hx hb dMod_step_41 rfl (lv_at hl 0 rfl) ?_
    refine va_get (D := D) (ci := 2) (v := .int (ms_met ((mf_RiscHartModel_trap (ms_set_met (ms_set_code st 0) 0) 1 (ms_place st)).2))) (C := RMod) (T := TMod) (N := 14) hx hb hg inMod hown hK hP 0 rfl rfl 13 (by decide) (hg _ tw_570) (fun _ h9 => h9) rfl dMod_step_42 ?_
    exact W.iret hx hb hr (fun t ht hW => ⟨⟨_, (mf_RiscHartModel_trap (ms_set_met (ms_set_code st 0) 0) 1 (ms_place st)).2, rfl, (by unfold mf_RiscHartModel_step; rw [if_pos c_1]), by show va_P D hcl _ t.heap; rw [ht]; exact hP⟩, hS.F ht⟩) hS.2.2 dMod_step_45
  · refine lv_aload_n hx hb dMod_step_20 rfl (lv_at hl 0 rfl) ?_
    refine lv_aload_n hx hb dMod_step_21 rfl (lv_at hl 0 rfl) ?_
    refine va_get (D := D) (ci := 2) (v := .int (ms_place st)) (C := RMod) (T := TMod) (N := 14) hx hb hg inMod hown hK hP 0 rfl rfl 4 (by decide) (hg _ tw_561) (fun _ h9 => h9) rfl dMod_step_22 ?_
    refine mk_callR (va_runV (As := [.int (ms_place st)]) (rest := []) ⟨hx, hb, hml, hown, hts⟩ (mc_RiscHartModel_fetches l hP (ms_place st)) (cwV 1 hts (mk_gV tw_649 tw_651 tw_32 tw_48 tw_652) rfl rfl rfl hdMod_fetches ⟨Nat.le_of_ble_eq_true rfl, Nat.le_of_ble_eq_true rfl⟩) (mk_preVK hK (va_recv hK hP (ci := 2) (q0 := 0) rfl rfl)) rfl rfl hl.1 rfl (lv_room (Nat.le_of_ble_eq_true rfl)) dMod_step_25 ⟨Nat.zero_le _, Nat.zero_le _⟩) ?_
    refine lv_if_ne (tgt := 46) hx hb dMod_step_28 (by decide) (fun c_2 => ?_) (fun c_2 => ?_)
    · refine lv_aload_n hx hb dMod_step_46 rfl (lv_at hl 0 rfl) ?_
      refine lv_aload_n hx hb dMod_step_47 rfl (lv_at hl 0 rfl) ?_
      refine lv_aload_n hx hb dMod_step_48 rfl (lv_at hl 0 rfl) ?_
      refine va_get (D := D) (ci := 2) (v := .int (ms_place st)) (C := RMod) (T := TMod) (N := 14) hx hb hg inMod hown hK hP 0 rfl rfl 4 (by decide) (hg _ tw_561) (fun _ h9 => h9) rfl dMod_step_49 ?_
      refine mk_callR (va_runV (As := [.int (ms_place st)]) (rest := [.ref m0]) ⟨hx, hb, hml, hown, hts⟩ (mc_RiscHartModel_half l hP (ms_place st) (in_fet1 c_2) (in_fet2 c_2)) (cwV 1 hts (mk_gV tw_661 tw_663 tw_35 tw_48 tw_664) rfl rfl rfl hdMod_half ⟨Nat.le_of_ble_eq_true rfl, Nat.le_of_ble_eq_true rfl⟩) (mk_preVK hK (va_recv hK hP (ci := 2) (q0 := 0) rfl rfl)) rfl rfl hl.1 rfl (lv_room (Nat.le_of_ble_eq_true rfl)) dMod_step_52 ⟨Nat.zero_le _, Nat.zero_le _⟩) ?_
      refine lv_topi (fun y_3 ey_3 => ?_)
      refine va_put (D := D) (ci := 2) (v := .int y_3) (ty := .int) (C := RMod) (T := TMod) (N := 14) hx hb hg inMod tyMod tyMod_ok nmMod hown hK hP (hD _) hS 0 rfl rfl 10 (by decide) (hg _ tw_567) (fun _ h9 => h9) rfl (by decide +kernel) rfl rfl (Nat.le_of_ble_eq_true rfl) dMod_step_55 (fun H locs hP _ hS => ?_)
      have hP : va_P D hcl (ms_W cB cO cX m0 m1 m2 m3 (ms_set_bits (ms_set_met (ms_set_code st 0) 0) y_3)) H := hP
      subst ey_3
      refine lv_aload_n hx hb dMod_step_58 rfl (lv_at hl 0 rfl) ?_
      refine lv_aload_n hx hb dMod_step_59 rfl (lv_at hl 0 rfl) ?_
      refine va_get (D := D) (ci := 2) (v := .int (mf_RiscHartModel_half (ms_set_met (ms_set_code st 0) 0) (ms_place st))) (C := RMod) (T := TMod) (N := 14) hx hb hg inMod hown hK hP 0 rfl rfl 10 (by decide) (hg _ tw_567) (fun _ h9 => h9) rfl dMod_step_60 ?_
      refine lv_iconst (v := 3) hx hb dMod_step_63 (by decide) ?_
      refine lv_iand hx hb dMod_step_64 ?_
      refine lv_iconst (v := 3) hx hb dMod_step_65 (by decide) ?_
      refine lv_icmp_ne (tgt := 73) hx hb dMod_step_66 (by decide) (fun c_4 => ?_) (fun c_4 => ?_)
      · refine lv_iconst (v := 2) hx hb dMod_step_73 (by decide) ?_
        refine va_put (D := D) (ci := 2) (v := .int 2) (ty := .int) (C := RMod) (T := TMod) (N := 14) hx hb hg inMod tyMod tyMod_ok nmMod hown hK hP (hD _) hS 0 rfl rfl 11 (by decide) (hg _ tw_568) (fun _ h9 => h9) rfl (by decide +kernel) rfl rfl (Nat.le_of_ble_eq_true rfl) dMod_step_74 (fun H locs hP _ hS => ?_)
        have hP : va_P D hcl (ms_W cB cO cX m0 m1 m2 m3 (ms_set_length (ms_set_bits (ms_set_met (ms_set_code st 0) 0) (mf_RiscHartModel_half (ms_set_met (ms_set_code st 0) 0) (ms_place st))) 2)) H := hP
        refine lv_aload_n hx hb dMod_step_77 rfl (lv_at hl 0 rfl) ?_
        refine va_get (D := D) (ci := 2) (v := .int 2) (C := RMod) (T := TMod) (N := 14) hx hb hg inMod hown hK hP 0 rfl rfl 11 (by decide) (hg _ tw_568) (fun _ h9 => h9) rfl dMod_step_78 ?_
        refine lv_iconst (v := 4) hx hb dMod_step_81 (by decide) ?_
        refine lv_icmp_ne (tgt := 113) hx hb dMod_step_82 (by decide) (fun c_5 => ?_) (fun c_5 => ?_)
        · refine lv_aload_n hx hb dMod_step_113 rfl (lv_at hl 0 rfl) ?_
          refine lv_aload_n hx hb dMod_step_114 rfl (lv_at hl 0 rfl) ?_
          refine va_get (D := D) (ci := 2) (v := .int 2) (C := RMod) (T := TMod) (N := 14) hx hb hg inMod hown hK hP 0 rfl rfl 11 (by decide) (hg _ tw_568) (fun _ h9 => h9) rfl dMod_step_115 ?_
          refine lv_iconst (v := 4) hx hb dMod_step_118 (by decide) ?_
          refine lv_icmp_ne (tgt := 143) hx hb dMod_step_119 (by decide) (fun c_6 => ?_) (fun c_6 => ?_)
          · refine lv_aload_n hx hb dMod_step_143 rfl (lv_at hl 0 rfl) ?_
            refine va_get (D := D) (ci := 2) (v := .int (mf_RiscHartModel_half (ms_set_met (ms_set_code st 0) 0) (ms_place st))) (C := RMod) (T := TMod) (N := 14) hx hb hg inMod hown hK hP 0 rfl rfl 10 (by decide) (hg _ tw_567) (fun _ h9 => h9) rfl dMod_step_144 ?_
            refine lv_topi (fun y_7 ey_7 => ?_)
            refine va_put (D := D) (ci := 2) (v := .int y_7) (ty := .int) (C := RMod) (T := TMod) (N := 14) hx hb hg inMod tyMod tyMod_ok nmMod hown hK hP (hD _) hS 0 rfl rfl 10 (by decide) (hg _ tw_567) (fun _ h9 => h9) rfl (by decide +kernel) rfl rfl (Nat.le_of_ble_eq_true rfl) dMod_step_147 (fun H locs hP _ hS => ?_)
            have hP : va_P D hcl (ms_W cB cO cX m0 m1 m2 m3 (ms_set_bits (ms_set_length (ms_set_bits (ms_set_met (ms_set_code st 0) 0) (mf_RiscHartModel_half (ms_set_met (ms_set_code st 0) 0) (ms_place st))) 2) y_7)) H := hP
            subst ey_7
            refine lv_aload_n hx hb dMod_step_150 rfl (lv_at hl 0 rfl) ?_
            refine lv_aload_n hx hb dMod_step_151 rfl (lv_at hl 0 rfl) ?_
            refine va_get (D := D) (ci := 2) (v := .int (ms_place st)) (C := RMod) (T := TMod) (N := 14) hx hb hg inMod hown hK hP 0 rfl rfl 4 (by decide) (hg _ tw_561) (fun _ h9 => h9) rfl dMod_step_152 ?_
            refine lv_aload_n hx hb dMod_step_155 rfl (lv_at hl 0 rfl) ?_
            refine va_get (D := D) (ci := 2) (v := .int 2) (C := RMod) (T := TMod) (N := 14) hx hb hg inMod hown hK hP 0 rfl rfl 11 (by decide) (hg _ tw_568) (fun _ h9 => h9) rfl dMod_step_156 ?_
            refine lv_iadd hx hb dMod_step_159 ?_
            refine lv_topi (fun y_8 ey_8 => ?_)
            refine va_put (D := D) (ci := 2) (v := .int y_8) (ty := .int) (C := RMod) (T := TMod) (N := 14) hx hb hg inMod tyMod tyMod_ok nmMod hown hK hP (hD _) hS 0 rfl rfl 12 (by decide) (hg _ tw_569) (fun _ h9 => h9) rfl (by decide +kernel) rfl rfl (Nat.le_of_ble_eq_true rfl) dMod_step_160 (fun H locs hP _ hS => ?_)
            have hP : va_P D hcl (ms_W cB cO cX m0 m1 m2 m3 (ms_set_next (ms_set_bits (ms_set_length (ms_set_bits (ms_set_met (ms_set_code st 0) 0) (mf_RiscHartModel_half (ms_set_met (ms_set_code st 0) 0) (ms_place st))) 2) (mf_RiscHartModel_half (ms_set_met (ms_set_code st 0) 0) (ms_place st))) y_8)) H := hP
            subst ey_8
            refine lv_aload_n hx hb dMod_step_163 rfl (lv_at hl 0 rfl) ?_
            refine va_get (D := D) (ci := 2) (v := .int 2) (C := RMod) (T := TMod) (N := 14) hx hb hg inMod hown hK hP 0 rfl rfl 11 (by decide) (hg _ tw_568) (fun _ h9 => h9) rfl dMod_step_164 ?_
            refine lv_iconst (v := 4) hx hb dMod_step_167 (by decide) ?_
            refine lv_icmp_ne (tgt := 178) hx hb dMod_step_168 (by decide) (fun c_9 => ?_) (fun c_9 => ?_)
            · refine lv_aload_n hx hb dMod_step_178 rfl (lv_at hl 0 rfl) ?_
              refine va_get (D := D) (ci := 2) (v := .int (mf_RiscHartModel_half (ms_set_met (ms_set_code st 0) 0) (ms_place st))) (C := RMod) (T := TMod) (N := 14) hx hb hg inMod hown hK hP 0 rfl rfl 10 (by decide) (hg _ tw_567) (fun _ h9 => h9) rfl dMod_step_179 ?_
              refine mk_callR (va_runS (As := [.int (mf_RiscHartModel_half (ms_set_met (ms_set_code st 0) 0) (ms_place st))]) (rest := []) ⟨hx, hb, hml, hown, hts⟩ (mc_RiscHartModel_expand l _ (mf_RiscHartModel_half (ms_set_met (ms_set_code st 0) 0) (ms_place st))) (va_cwS 1 hts (mk_gS tw_665 tw_666 tw_48 tw_667) rfl rfl rfl hdMod_expand.2 ⟨Nat.le_of_ble_eq_true rfl, Nat.le_of_ble_eq_true rfl⟩) mk_preS rfl rfl hl.1 rfl (lv_room (Nat.le_of_ble_eq_true rfl)) dMod_step_182 ⟨Nat.zero_le _, Nat.zero_le _⟩) ?_
              refine lv_istore_n (lv' := [(1, .int (mf_RiscHartModel_expand (mf_RiscHartModel_half (ms_set_met (ms_set_code st 0) 0) (ms_place st)))), (0, .ref m0)]) hx hb dMod_step_185 rfl hl (by decide) rfl (fun ls hl => ?_)
              refine lv_iload_n hx hb dMod_step_186 rfl (lv_at hl 0 rfl) ?_
              refine lv_if_ne (tgt := 198) hx hb dMod_step_187 (by decide) (fun c_10 => ?_) (fun c_10 => ?_)
              · refine lv_aload_n hx hb dMod_step_198 rfl (lv_at hl 1 rfl) ?_
                refine lv_iload_n hx hb dMod_step_199 rfl (lv_at hl 0 rfl) ?_
                refine mk_callWv (va_runV (As := [.int (mf_RiscHartModel_expand (mf_RiscHartModel_half (ms_set_met (ms_set_code st 0) 0) (ms_place st)))]) (rest := []) ⟨hx, hb, hml, hown, hts⟩ (mc_RiscHartModel_carry l hP hD (mf_RiscHartModel_expand (mf_RiscHartModel_half (ms_set_met (ms_set_code st 0) 0) (ms_place st)))) (cwV 1 hts (mk_gV tw_709 tw_711 tw_37 tw_48 tw_712) rfl rfl rfl hdMod_carry ⟨Nat.le_of_ble_eq_true rfl, Nat.le_of_ble_eq_true rfl⟩) (mk_preVK hK (va_recv hK hP (ci := 2) (q0 := 0) rfl rfl)) rfl rfl hl.1 rfl (lv_room (Nat.le_of_ble_eq_true rfl)) dMod_step_200 ⟨Nat.zero_le _, Nat.zero_le _⟩) hS (fun H locs hP hS => ?_)
                refine lv_aload_n hx hb dMod_step_203 rfl (lv_at hl 1 rfl) ?_
                refine va_get (D := D) (ci := 2) (v := .int (ms_met (mf_RiscHartModel_carry (ms_set_next (ms_set_bits (ms_set_length (ms_set_bits (ms_set_met (ms_set_code st 0) 0) (mf_RiscHartModel_half (ms_set_met (ms_set_code st 0) 0) (ms_place st))) 2) (mf_RiscHartModel_half (ms_set_met (ms_set_code st 0) 0) (ms_place st))) ((ms_place st) + 2)) (mf_RiscHartModel_expand (mf_RiscHartModel_half (ms_set_met (ms_set_code st 0) 0) (ms_place st)))))) (C := RMod) (T := TMod) (N := 14) hx hb hg inMod hown hK hP 0 rfl rfl 13 (by decide) (hg _ tw_570) (fun _ h9 => h9) rfl dMod_step_204 ?_
                refine lv_if_le (tgt := 215) hx hb dMod_step_207 (by decide) (fun c_11 => ?_) (fun c_11 => ?_)
                · refine lv_aload_n hx hb dMod_step_215 rfl (lv_at hl 1 rfl) ?_
                  refine lv_aload_n hx hb dMod_step_216 rfl (lv_at hl 1 rfl) ?_
                  refine va_get (D := D) (ci := 2) (v := .int (ms_next (mf_RiscHartModel_carry (ms_set_next (ms_set_bits (ms_set_length (ms_set_bits (ms_set_met (ms_set_code st 0) 0) (mf_RiscHartModel_half (ms_set_met (ms_set_code st 0) 0) (ms_place st))) 2) (mf_RiscHartModel_half (ms_set_met (ms_set_code st 0) 0) (ms_place st))) ((ms_place st) + 2)) (mf_RiscHartModel_expand (mf_RiscHartModel_half (ms_set_met (ms_set_code st 0) 0) (ms_place st)))))) (C := RMod) (T := TMod) (N := 14) hx hb hg inMod hown hK hP 0 rfl rfl 12 (by decide) (hg _ tw_569) (fun _ h9 => h9) rfl dMod_step_217 ?_
                  refine lv_topi (fun y_12 ey_12 => ?_)
                  refine va_put (D := D) (ci := 2) (v := .int y_12) (ty := .int) (C := RMod) (T := TMod) (N := 14) hx hb hg inMod tyMod tyMod_ok nmMod hown hK hP (hD _) hS 0 rfl rfl 4 (by decide) (hg _ tw_561) (fun _ h9 => h9) rfl (by decide +kernel) rfl rfl (Nat.le_of_ble_eq_true rfl) dMod_step_220 (fun H locs hP _ hS => ?_)
                  have hP : va_P D hcl (ms_W cB cO cX m0 m1 m2 m3 (ms_set_place (mf_RiscHartModel_carry (ms_set_next (ms_set_bits (ms_set_length (ms_set_bits (ms_set_met (ms_set_code st 0) 0) (mf_RiscHartModel_half (ms_set_met (ms_set_code st 0) 0) (ms_place st))) 2) (mf_RiscHartModel_half (ms_set_met (ms_set_code st 0) 0) (ms_place st))) ((ms_place st) + 2)) (mf_RiscHartModel_expand (mf_RiscHartModel_half (ms_set_met (ms_set_code st 0) 0) (ms_place st)))) y_12)) H := hP
                  subst ey_12
                  refine lv_aload_n hx hb dMod_step_223 rfl (lv_at hl 1 rfl) ?_
                  refine lv_dup hx hb dMod_step_224 rfl ?_
                  refine va_get (D := D) (ci := 2) (v := .long (ms_retired (mf_RiscHartModel_carry (ms_set_next (ms_set_bits (ms_set_length (ms_set_bits (ms_set_met (ms_set_code st 0) 0) (mf_RiscHartModel_half (ms_set_met (ms_set_code st 0) 0) (ms_place st))) 2) (mf_RiscHartModel_half (ms_set_met (ms_set_code st 0) 0) (ms_place st))) ((ms_place st) + 2)) (mf_RiscHartModel_expand (mf_RiscHartModel_half (ms_set_met (ms_set_code st 0) 0) (ms_place st)))))) (C := RMod) (T := TMod) (N := 14) hx hb hg inMod hown hK hP 0 rfl rfl 8 (by decide) (hg _ tw_565) (fun _ h9 => h9) rfl dMod_step_225 ?_
                  refine lv_lconst (v := 1) hx hb dMod_step_228 (by decide) ?_
                  refine lv_ladd hx hb dMod_step_229 ?_
                  refine lv_topl (fun y_13 ey_13 => ?_)
                  refine va_put (D := D) (ci := 2) (v := .long y_13) (ty := .long) (C := RMod) (T := TMod) (N := 14) hx hb hg inMod tyMod tyMod_ok nmMod hown hK hP (hD _) hS 0 rfl rfl 8 (by decide) (hg _ tw_565) (fun _ h9 => h9) rfl (by decide +kernel) rfl rfl (Nat.le_of_ble_eq_true rfl) dMod_step_230 (fun H locs hP _ hS => ?_)
                  have hP : va_P D hcl (ms_W cB cO cX m0 m1 m2 m3 (ms_set_retired (ms_set_place (mf_RiscHartModel_carry (ms_set_next (ms_set_bits (ms_set_length (ms_set_bits (ms_set_met (ms_set_code st 0) 0) (mf_RiscHartModel_half (ms_set_met (ms_set_code st 0) 0) (ms_place st))) 2) (mf_RiscHartModel_half (ms_set_met (ms_set_code st 0) 0) (ms_place st))) ((ms_place st) + 2)) (mf_RiscHartModel_expand (mf_RiscHartModel_half (ms_set_met (ms_set_code st 0) 0) (ms_place st)))) (ms_next (mf_RiscHartModel_carry (ms_set_next (ms_set_bits (ms_set_length (ms_set_bits (ms_set_met (ms_set_code st 0) 0) (mf_RiscHartModel_half (ms_set_met (ms_set_code st 0) 0) (ms_place st))) 2) (mf_RiscHartModel_half (ms_set_met (ms_set_code st 0) 0) (ms_place st))) ((ms_place st) + 2)) (mf_RiscHartModel_expand (mf_RiscHartModel_half (ms_set_met (ms_set_code st 0) 0) (ms_place st)))))) y_13)) H := hP
                  subst ey_13
                  refine lv_iconst (v := 0) hx hb dMod_step_233 (by decide) ?_
                  exact W.iret hx hb hr (fun t ht hW => ⟨⟨_, (ms_set_retired (ms_set_place (mf_RiscHartModel_carry (ms_set_next (ms_set_bits (ms_set_length (ms_set_bits (ms_set_met (ms_set_code st 0) 0) (mf_RiscHartModel_half (ms_set_met (ms_set_code st 0) 0) (ms_place st))) 2) (mf_RiscHartModel_half (ms_set_met (ms_set_code st 0) 0) (ms_place st))) ((ms_place st) + 2)) (mf_RiscHartModel_expand (mf_RiscHartModel_half (ms_set_met (ms_set_code st 0) 0) (ms_place st)))) (ms_next (mf_RiscHartModel_carry (ms_set_next (ms_set_bits (ms_set_length (ms_set_bits (ms_set_met (ms_set_code st 0) 0) (mf_RiscHartModel_half (ms_set_met (ms_set_code st 0) 0) (ms_place st))) 2) (mf_RiscHartModel_half (ms_set_met (ms_set_code st 0) 0) (ms_place st))) ((ms_place st) + 2)) (mf_RiscHartModel_expand (mf_RiscHartModel_half (ms_set_met (ms_set_code st 0) 0) (ms_place st)))))) ((ms_retired (mf_RiscHartModel_carry (ms_set_next (ms_set_bits (ms_set_length (ms_set_bits (ms_set_met (ms_set_code st 0) 0) (mf_RiscHartModel_half (ms_set_met (ms_set_code st 0) 0) (ms_place st))) 2) (mf_RiscHartModel_half (ms_set_met (ms_set_code st 0) 0) (ms_place st))) ((ms_place st) + 2)) (mf_RiscHartModel_expand (mf_RiscHartModel_half (ms_set_met (ms_set_code st 0) 0) (ms_place st))))) + 1)), rfl, (by unfold mf_RiscHartModel_step; rw [if_neg c_1, if_neg c_2, if_neg c_4, if_neg c_10, if_pos c_11]), by show va_P D hcl _ t.heap; rw [ht]; exact hP⟩, hS.F ht⟩) hS.2.2 dMod_step_234
                · refine lv_aload_n hx hb dMod_step_210 rfl (lv_at hl 1 rfl) ?_
                  refine va_get (D := D) (ci := 2) (v := .int (ms_met (mf_RiscHartModel_carry (ms_set_next (ms_set_bits (ms_set_length (ms_set_bits (ms_set_met (ms_set_code st 0) 0) (mf_RiscHartModel_half (ms_set_met (ms_set_code st 0) 0) (ms_place st))) 2) (mf_RiscHartModel_half (ms_set_met (ms_set_code st 0) 0) (ms_place st))) ((ms_place st) + 2)) (mf_RiscHartModel_expand (mf_RiscHartModel_half (ms_set_met (ms_set_code st 0) 0) (ms_place st)))))) (C := RMod) (T := TMod) (N := 14) hx hb hg inMod hown hK hP 0 rfl rfl 13 (by decide) (hg _ tw_570) (fun _ h9 => h9) rfl dMod_step_211 ?_
                  exact W.iret hx hb hr (fun t ht hW => ⟨⟨_, (mf_RiscHartModel_carry (ms_set_next (ms_set_bits (ms_set_length (ms_set_bits (ms_set_met (ms_set_code st 0) 0) (mf_RiscHartModel_half (ms_set_met (ms_set_code st 0) 0) (ms_place st))) 2) (mf_RiscHartModel_half (ms_set_met (ms_set_code st 0) 0) (ms_place st))) ((ms_place st) + 2)) (mf_RiscHartModel_expand (mf_RiscHartModel_half (ms_set_met (ms_set_code st 0) 0) (ms_place st)))), rfl, (by unfold mf_RiscHartModel_step; rw [if_neg c_1, if_neg c_2, if_neg c_4, if_neg c_10, if_neg c_11]), by show va_P D hcl _ t.heap; rw [ht]; exact hP⟩, hS.F ht⟩) hS.2.2 dMod_step_214
              · refine lv_aload_n hx hb dMod_step_190 rfl (lv_at hl 1 rfl) ?_
                refine mk_callW (va_runV (As := []) (rest := []) ⟨hx, hb, hml, hown, hts⟩ (mc_RiscHartModel_illegal l hP hD) (cwV 0 hts (mk_gV tw_705 tw_707 tw_36 tw_48 tw_708) rfl rfl rfl hdMod_illegal ⟨Nat.le_of_ble_eq_true rfl, Nat.le_of_ble_eq_true rfl⟩) (mk_preVK hK (va_recv hK hP (ci := 2) (q0 := 0) rfl rfl)) rfl rfl hl.1 rfl (lv_room (Nat.le_of_ble_eq_true rfl)) dMod_step_191 ⟨Nat.zero_le _, Nat.zero_le _⟩) hS (fun H locs hP hS => ?_)
                refine lv_pop hx hb dMod_step_194 rfl ?_
                refine lv_goto (tgt := 203) hx hb dMod_step_195 (by decide) ?_
                refine lv_aload_n hx hb dMod_step_203 rfl (lv_at hl 1 rfl) ?_
                refine va_get (D := D) (ci := 2) (v := .int (ms_met ((mf_RiscHartModel_illegal (ms_set_next (ms_set_bits (ms_set_length (ms_set_bits (ms_set_met (ms_set_code st 0) 0) (mf_RiscHartModel_half (ms_set_met (ms_set_code st 0) 0) (ms_place st))) 2) (mf_RiscHartModel_half (ms_set_met (ms_set_code st 0) 0) (ms_place st))) ((ms_place st) + 2))).2))) (C := RMod) (T := TMod) (N := 14) hx hb hg inMod hown hK hP 0 rfl rfl 13 (by decide) (hg _ tw_570) (fun _ h9 => h9) rfl dMod_step_204 ?_
                refine lv_if_le (tgt := 215) hx hb dMod_step_207 (by decide) (fun c_14 => ?_) (fun c_14 => ?_)
                · refine lv_aload_n hx hb dMod_step_215 rfl (lv_at hl 1 rfl) ?_
                  refine lv_aload_n hx hb dMod_step_216 rfl (lv_at hl 1 rfl) ?_
                  refine va_get (D := D) (ci := 2) (v := .int (ms_next ((mf_RiscHartModel_illegal (ms_set_next (ms_set_bits (ms_set_length (ms_set_bits (ms_set_met (ms_set_code st 0) 0) (mf_RiscHartModel_half (ms_set_met (ms_set_code st 0) 0) (ms_place st))) 2) (mf_RiscHartModel_half (ms_set_met (ms_set_code st 0) 0) (ms_place st))) ((ms_place st) + 2))).2))) (C := RMod) (T := TMod) (N := 14) hx hb hg inMod hown hK hP 0 rfl rfl 12 (by decide) (hg _ tw_569) (fun _ h9 => h9) rfl dMod_step_217 ?_
                  refine lv_topi (fun y_15 ey_15 => ?_)
                  refine va_put (D := D) (ci := 2) (v := .int y_15) (ty := .int) (C := RMod) (T := TMod) (N := 14) hx hb hg inMod tyMod tyMod_ok nmMod hown hK hP (hD _) hS 0 rfl rfl 4 (by decide) (hg _ tw_561) (fun _ h9 => h9) rfl (by decide +kernel) rfl rfl (Nat.le_of_ble_eq_true rfl) dMod_step_220 (fun H locs hP _ hS => ?_)
                  have hP : va_P D hcl (ms_W cB cO cX m0 m1 m2 m3 (ms_set_place ((mf_RiscHartModel_illegal (ms_set_next (ms_set_bits (ms_set_length (ms_set_bits (ms_set_met (ms_set_code st 0) 0) (mf_RiscHartModel_half (ms_set_met (ms_set_code st 0) 0) (ms_place st))) 2) (mf_RiscHartModel_half (ms_set_met (ms_set_code st 0) 0) (ms_place st))) ((ms_place st) + 2))).2) y_15)) H := hP
                  subst ey_15
                  refine lv_aload_n hx hb dMod_step_223 rfl (lv_at hl 1 rfl) ?_
                  refine lv_dup hx hb dMod_step_224 rfl ?_
                  refine va_get (D := D) (ci := 2) (v := .long (ms_retired ((mf_RiscHartModel_illegal (ms_set_next (ms_set_bits (ms_set_length (ms_set_bits (ms_set_met (ms_set_code st 0) 0) (mf_RiscHartModel_half (ms_set_met (ms_set_code st 0) 0) (ms_place st))) 2) (mf_RiscHartModel_half (ms_set_met (ms_set_code st 0) 0) (ms_place st))) ((ms_place st) + 2))).2))) (C := RMod) (T := TMod) (N := 14) hx hb hg inMod hown hK hP 0 rfl rfl 8 (by decide) (hg _ tw_565) (fun _ h9 => h9) rfl dMod_step_225 ?_
                  refine lv_lconst (v := 1) hx hb dMod_step_228 (by decide) ?_
                  refine lv_ladd hx hb dMod_step_229 ?_
                  refine lv_topl (fun y_16 ey_16 => ?_)
                  refine va_put (D := D) (ci := 2) (v := .long y_16) (ty := .long) (C := RMod) (T := TMod) (N := 14) hx hb hg inMod tyMod tyMod_ok nmMod hown hK hP (hD _) hS 0 rfl rfl 8 (by decide) (hg _ tw_565) (fun _ h9 => h9) rfl (by decide +kernel) rfl rfl (Nat.le_of_ble_eq_true rfl) dMod_step_230 (fun H locs hP _ hS => ?_)
                  have hP : va_P D hcl (ms_W cB cO cX m0 m1 m2 m3 (ms_set_retired (ms_set_place ((mf_RiscHartModel_illegal (ms_set_next (ms_set_bits (ms_set_length (ms_set_bits (ms_set_met (ms_set_code st 0) 0) (mf_RiscHartModel_half (ms_set_met (ms_set_code st 0) 0) (ms_place st))) 2) (mf_RiscHartModel_half (ms_set_met (ms_set_code st 0) 0) (ms_place st))) ((ms_place st) + 2))).2) (ms_next ((mf_RiscHartModel_illegal (ms_set_next (ms_set_bits (ms_set_length (ms_set_bits (ms_set_met (ms_set_code st 0) 0) (mf_RiscHartModel_half (ms_set_met (ms_set_code st 0) 0) (ms_place st))) 2) (mf_RiscHartModel_half (ms_set_met (ms_set_code st 0) 0) (ms_place st))) ((ms_place st) + 2))).2))) y_16)) H := hP
                  subst ey_16
                  refine lv_iconst (v := 0) hx hb dMod_step_233 (by decide) ?_
                  exact W.iret hx hb hr (fun t ht hW => ⟨⟨_, (ms_set_retired (ms_set_place ((mf_RiscHartModel_illegal (ms_set_next (ms_set_bits (ms_set_length (ms_set_bits (ms_set_met (ms_set_code st 0) 0) (mf_RiscHartModel_half (ms_set_met (ms_set_code st 0) 0) (ms_place st))) 2) (mf_RiscHartModel_half (ms_set_met (ms_set_code st 0) 0) (ms_place st))) ((ms_place st) + 2))).2) (ms_next ((mf_RiscHartModel_illegal (ms_set_next (ms_set_bits (ms_set_length (ms_set_bits (ms_set_met (ms_set_code st 0) 0) (mf_RiscHartModel_half (ms_set_met (ms_set_code st 0) 0) (ms_place st))) 2) (mf_RiscHartModel_half (ms_set_met (ms_set_code st 0) 0) (ms_place st))) ((ms_place st) + 2))).2))) ((ms_retired ((mf_RiscHartModel_illegal (ms_set_next (ms_set_bits (ms_set_length (ms_set_bits (ms_set_met (ms_set_code st 0) 0) (mf_RiscHartModel_half (ms_set_met (ms_set_code st 0) 0) (ms_place st))) 2) (mf_RiscHartModel_half (ms_set_met (ms_set_code st 0) 0) (ms_place st))) ((ms_place st) + 2))).2)) + 1)), rfl, (by unfold mf_RiscHartModel_step; rw [if_neg c_1, if_neg c_2, if_neg c_4, if_pos c_10, if_pos c_14]), by show va_P D hcl _ t.heap; rw [ht]; exact hP⟩, hS.F ht⟩) hS.2.2 dMod_step_234
                · refine lv_aload_n hx hb dMod_step_210 rfl (lv_at hl 1 rfl) ?_
                  refine va_get (D := D) (ci := 2) (v := .int (ms_met ((mf_RiscHartModel_illegal (ms_set_next (ms_set_bits (ms_set_length (ms_set_bits (ms_set_met (ms_set_code st 0) 0) (mf_RiscHartModel_half (ms_set_met (ms_set_code st 0) 0) (ms_place st))) 2) (mf_RiscHartModel_half (ms_set_met (ms_set_code st 0) 0) (ms_place st))) ((ms_place st) + 2))).2))) (C := RMod) (T := TMod) (N := 14) hx hb hg inMod hown hK hP 0 rfl rfl 13 (by decide) (hg _ tw_570) (fun _ h9 => h9) rfl dMod_step_211 ?_
                  exact W.iret hx hb hr (fun t ht hW => ⟨⟨_, (mf_RiscHartModel_illegal (ms_set_next (ms_set_bits (ms_set_length (ms_set_bits (ms_set_met (ms_set_code st 0) 0) (mf_RiscHartModel_half (ms_set_met (ms_set_code st 0) 0) (ms_place st))) 2) (mf_RiscHartModel_half (ms_set_met (ms_set_code st 0) 0) (ms_place st))) ((ms_place st) + 2))).2, rfl, (by unfold mf_RiscHartModel_step; rw [if_neg c_1, if_neg c_2, if_neg c_4, if_pos c_10, if_neg c_14]), by show va_P D hcl _ t.heap; rw [ht]; exact hP⟩, hS.F ht⟩) hS.2.2 dMod_step_214
            · exact absurd c_9 (by decide)
          · exact absurd c_6 (by decide)
        · exact absurd c_5 (by decide)
      · refine lv_iconst (v := 4) hx hb dMod_step_69 (by decide) ?_
        refine lv_goto (tgt := 74) hx hb dMod_step_70 (by decide) ?_
        refine va_put (D := D) (ci := 2) (v := .int 4) (ty := .int) (C := RMod) (T := TMod) (N := 14) hx hb hg inMod tyMod tyMod_ok nmMod hown hK hP (hD _) hS 0 rfl rfl 11 (by decide) (hg _ tw_568) (fun _ h9 => h9) rfl (by decide +kernel) rfl rfl (Nat.le_of_ble_eq_true rfl) dMod_step_74 (fun H locs hP _ hS => ?_)
        have hP : va_P D hcl (ms_W cB cO cX m0 m1 m2 m3 (ms_set_length (ms_set_bits (ms_set_met (ms_set_code st 0) 0) (mf_RiscHartModel_half (ms_set_met (ms_set_code st 0) 0) (ms_place st))) 4)) H := hP
        refine lv_aload_n hx hb dMod_step_77 rfl (lv_at hl 0 rfl) ?_
        refine va_get (D := D) (ci := 2) (v := .int 4) (C := RMod) (T := TMod) (N := 14) hx hb hg inMod hown hK hP 0 rfl rfl 11 (by decide) (hg _ tw_568) (fun _ h9 => h9) rfl dMod_step_78 ?_
        refine lv_iconst (v := 4) hx hb dMod_step_81 (by decide) ?_
        refine lv_icmp_ne (tgt := 113) hx hb dMod_step_82 (by decide) (fun c_17 => ?_) (fun c_17 => ?_)
        · exact absurd c_17 (by decide)
        · refine lv_aload_n hx hb dMod_step_85 rfl (lv_at hl 0 rfl) ?_
          refine lv_aload_n hx hb dMod_step_86 rfl (lv_at hl 0 rfl) ?_
          refine va_get (D := D) (ci := 2) (v := .int (ms_place st)) (C := RMod) (T := TMod) (N := 14) hx hb hg inMod hown hK hP 0 rfl rfl 4 (by decide) (hg _ tw_561) (fun _ h9 => h9) rfl dMod_step_87 ?_
          refine lv_iconst (v := 2) hx hb dMod_step_90 (by decide) ?_
          refine lv_iadd hx hb dMod_step_91 ?_
          refine mk_callR (va_runV (As := [.int ((ms_place st) + 2)]) (rest := []) ⟨hx, hb, hml, hown, hts⟩ (mc_RiscHartModel_fetches l hP ((ms_place st) + 2)) (cwV 1 hts (mk_gV tw_649 tw_651 tw_32 tw_48 tw_652) rfl rfl rfl hdMod_fetches ⟨Nat.le_of_ble_eq_true rfl, Nat.le_of_ble_eq_true rfl⟩) (mk_preVK hK (va_recv hK hP (ci := 2) (q0 := 0) rfl rfl)) rfl rfl hl.1 rfl (lv_room (Nat.le_of_ble_eq_true rfl)) dMod_step_92 ⟨Nat.zero_le _, Nat.zero_le _⟩) ?_
          refine lv_if_ne (tgt := 113) hx hb dMod_step_95 (by decide) (fun c_18 => ?_) (fun c_18 => ?_)
          · refine lv_aload_n hx hb dMod_step_113 rfl (lv_at hl 0 rfl) ?_
            refine lv_aload_n hx hb dMod_step_114 rfl (lv_at hl 0 rfl) ?_
            refine va_get (D := D) (ci := 2) (v := .int 4) (C := RMod) (T := TMod) (N := 14) hx hb hg inMod hown hK hP 0 rfl rfl 11 (by decide) (hg _ tw_568) (fun _ h9 => h9) rfl dMod_step_115 ?_
            refine lv_iconst (v := 4) hx hb dMod_step_118 (by decide) ?_
            refine lv_icmp_ne (tgt := 143) hx hb dMod_step_119 (by decide) (fun c_19 => ?_) (fun c_19 => ?_)
            · exact absurd c_19 (by decide)
            · refine lv_aload_n hx hb dMod_step_122 rfl (lv_at hl 0 rfl) ?_
              refine va_get (D := D) (ci := 2) (v := .int (mf_RiscHartModel_half (ms_set_met (ms_set_code st 0) 0) (ms_place st))) (C := RMod) (T := TMod) (N := 14) hx hb hg inMod hown hK hP 0 rfl rfl 10 (by decide) (hg _ tw_567) (fun _ h9 => h9) rfl dMod_step_123 ?_
              refine lv_aload_n hx hb dMod_step_126 rfl (lv_at hl 0 rfl) ?_
              refine lv_aload_n hx hb dMod_step_127 rfl (lv_at hl 0 rfl) ?_
              refine va_get (D := D) (ci := 2) (v := .int (ms_place st)) (C := RMod) (T := TMod) (N := 14) hx hb hg inMod hown hK hP 0 rfl rfl 4 (by decide) (hg _ tw_561) (fun _ h9 => h9) rfl dMod_step_128 ?_
              refine lv_iconst (v := 2) hx hb dMod_step_131 (by decide) ?_
              refine lv_iadd hx hb dMod_step_132 ?_
              refine mk_callR (va_runV (As := [.int ((ms_place st) + 2)]) (rest := [.int (mf_RiscHartModel_half (ms_set_met (ms_set_code st 0) 0) (ms_place st)), .ref m0]) ⟨hx, hb, hml, hown, hts⟩ (mc_RiscHartModel_half l hP ((ms_place st) + 2) (in_fet1 c_18) (in_fet2 c_18)) (cwV 1 hts (mk_gV tw_661 tw_663 tw_35 tw_48 tw_664) rfl rfl rfl hdMod_half ⟨Nat.le_of_ble_eq_true rfl, Nat.le_of_ble_eq_true rfl⟩) (mk_preVK hK (va_recv hK hP (ci := 2) (q0 := 0) rfl rfl)) rfl rfl hl.1 rfl (lv_room (Nat.le_of_ble_eq_true rfl)) dMod_step_133 ⟨Nat.zero_le _, Nat.zero_le _⟩) ?_
              refine lv_bipush (v := 16) hx hb dMod_step_136 (by decide) ?_
              refine lv_ishl hx hb dMod_step_138 ?_
              refine lv_ior hx hb dMod_step_139 ?_
              refine lv_goto (tgt := 147) hx hb dMod_step_140 (by decide) ?_
              refine lv_topi (fun y_20 ey_20 => ?_)
              refine va_put (D := D) (ci := 2) (v := .int y_20) (ty := .int) (C := RMod) (T := TMod) (N := 14) hx hb hg inMod tyMod tyMod_ok nmMod hown hK hP (hD _) hS 0 rfl rfl 10 (by decide) (hg _ tw_567) (fun _ h9 => h9) rfl (by decide +kernel) rfl rfl (Nat.le_of_ble_eq_true rfl) dMod_step_147 (fun H locs hP _ hS => ?_)
              have hP : va_P D hcl (ms_W cB cO cX m0 m1 m2 m3 (ms_set_bits (ms_set_length (ms_set_bits (ms_set_met (ms_set_code st 0) 0) (mf_RiscHartModel_half (ms_set_met (ms_set_code st 0) 0) (ms_place st))) 4) y_20)) H := hP
              subst ey_20
              refine lv_aload_n hx hb dMod_step_150 rfl (lv_at hl 0 rfl) ?_
              refine lv_aload_n hx hb dMod_step_151 rfl (lv_at hl 0 rfl) ?_
              refine va_get (D := D) (ci := 2) (v := .int (ms_place st)) (C := RMod) (T := TMod) (N := 14) hx hb hg inMod hown hK hP 0 rfl rfl 4 (by decide) (hg _ tw_561) (fun _ h9 => h9) rfl dMod_step_152 ?_
              refine lv_aload_n hx hb dMod_step_155 rfl (lv_at hl 0 rfl) ?_
              refine va_get (D := D) (ci := 2) (v := .int 4) (C := RMod) (T := TMod) (N := 14) hx hb hg inMod hown hK hP 0 rfl rfl 11 (by decide) (hg _ tw_568) (fun _ h9 => h9) rfl dMod_step_156 ?_
              refine lv_iadd hx hb dMod_step_159 ?_
              refine lv_topi (fun y_21 ey_21 => ?_)
              refine va_put (D := D) (ci := 2) (v := .int y_21) (ty := .int) (C := RMod) (T := TMod) (N := 14) hx hb hg inMod tyMod tyMod_ok nmMod hown hK hP (hD _) hS 0 rfl rfl 12 (by decide) (hg _ tw_569) (fun _ h9 => h9) rfl (by decide +kernel) rfl rfl (Nat.le_of_ble_eq_true rfl) dMod_step_160 (fun H locs hP _ hS => ?_)
              have hP : va_P D hcl (ms_W cB cO cX m0 m1 m2 m3 (ms_set_next (ms_set_bits (ms_set_length (ms_set_bits (ms_set_met (ms_set_code st 0) 0) (mf_RiscHartModel_half (ms_set_met (ms_set_code st 0) 0) (ms_place st))) 4) ((mf_RiscHartModel_half (ms_set_met (ms_set_code st 0) 0) (ms_place st)) ||| ((mf_RiscHartModel_half (ms_set_length (ms_set_bits (ms_set_met (ms_set_code st 0) 0) (mf_RiscHartModel_half (ms_set_met (ms_set_code st 0) 0) (ms_place st))) 4) ((ms_place st) + 2)) <<< (16 &&& 31)))) y_21)) H := hP
              subst ey_21
              refine lv_aload_n hx hb dMod_step_163 rfl (lv_at hl 0 rfl) ?_
              refine va_get (D := D) (ci := 2) (v := .int 4) (C := RMod) (T := TMod) (N := 14) hx hb hg inMod hown hK hP 0 rfl rfl 11 (by decide) (hg _ tw_568) (fun _ h9 => h9) rfl dMod_step_164 ?_
              refine lv_iconst (v := 4) hx hb dMod_step_167 (by decide) ?_
              refine lv_icmp_ne (tgt := 178) hx hb dMod_step_168 (by decide) (fun c_22 => ?_) (fun c_22 => ?_)
              · exact absurd c_22 (by decide)
              · refine lv_aload_n hx hb dMod_step_171 rfl (lv_at hl 0 rfl) ?_
                refine va_get (D := D) (ci := 2) (v := .int ((mf_RiscHartModel_half (ms_set_met (ms_set_code st 0) 0) (ms_place st)) ||| ((mf_RiscHartModel_half (ms_set_length (ms_set_bits (ms_set_met (ms_set_code st 0) 0) (mf_RiscHartModel_half (ms_set_met (ms_set_code st 0) 0) (ms_place st))) 4) ((ms_place st) + 2)) <<< (16 &&& 31)))) (C := RMod) (T := TMod) (N := 14) hx hb hg inMod hown hK hP 0 rfl rfl 10 (by decide) (hg _ tw_567) (fun _ h9 => h9) rfl dMod_step_172 ?_
                refine lv_goto (tgt := 185) hx hb dMod_step_175 (by decide) ?_
                refine lv_istore_n (lv' := [(1, .int ((mf_RiscHartModel_half (ms_set_met (ms_set_code st 0) 0) (ms_place st)) ||| ((mf_RiscHartModel_half (ms_set_length (ms_set_bits (ms_set_met (ms_set_code st 0) 0) (mf_RiscHartModel_half (ms_set_met (ms_set_code st 0) 0) (ms_place st))) 4) ((ms_place st) + 2)) <<< (16 &&& 31)))), (0, .ref m0)]) hx hb dMod_step_185 rfl hl (by decide) rfl (fun ls hl => ?_)
                refine lv_iload_n hx hb dMod_step_186 rfl (lv_at hl 0 rfl) ?_
                refine lv_if_ne (tgt := 198) hx hb dMod_step_187 (by decide) (fun c_23 => ?_) (fun c_23 => ?_)
                · refine lv_aload_n hx hb dMod_step_198 rfl (lv_at hl 1 rfl) ?_
                  refine lv_iload_n hx hb dMod_step_199 rfl (lv_at hl 0 rfl) ?_
                  refine mk_callWv (va_runV (As := [.int ((mf_RiscHartModel_half (ms_set_met (ms_set_code st 0) 0) (ms_place st)) ||| ((mf_RiscHartModel_half (ms_set_length (ms_set_bits (ms_set_met (ms_set_code st 0) 0) (mf_RiscHartModel_half (ms_set_met (ms_set_code st 0) 0) (ms_place st))) 4) ((ms_place st) + 2)) <<< (16 &&& 31)))]) (rest := []) ⟨hx, hb, hml, hown, hts⟩ (mc_RiscHartModel_carry l hP hD ((mf_RiscHartModel_half (ms_set_met (ms_set_code st 0) 0) (ms_place st)) ||| ((mf_RiscHartModel_half (ms_set_length (ms_set_bits (ms_set_met (ms_set_code st 0) 0) (mf_RiscHartModel_half (ms_set_met (ms_set_code st 0) 0) (ms_place st))) 4) ((ms_place st) + 2)) <<< (16 &&& 31)))) (cwV 1 hts (mk_gV tw_709 tw_711 tw_37 tw_48 tw_712) rfl rfl rfl hdMod_carry ⟨Nat.le_of_ble_eq_true rfl, Nat.le_of_ble_eq_true rfl⟩) (mk_preVK hK (va_recv hK hP (ci := 2) (q0 := 0) rfl rfl)) rfl rfl hl.1 rfl (lv_room (Nat.le_of_ble_eq_true rfl)) dMod_step_200 ⟨Nat.zero_le _, Nat.zero_le _⟩) hS (fun H locs hP hS => ?_)
                  refine lv_aload_n hx hb dMod_step_203 rfl (lv_at hl 1 rfl) ?_
                  refine va_get (D := D) (ci := 2) (v := .int (ms_met (mf_RiscHartModel_carry (ms_set_next (ms_set_bits (ms_set_length (ms_set_bits (ms_set_met (ms_set_code st 0) 0) (mf_RiscHartModel_half (ms_set_met (ms_set_code st 0) 0) (ms_place st))) 4) ((mf_RiscHartModel_half (ms_set_met (ms_set_code st 0) 0) (ms_place st)) ||| ((mf_RiscHartModel_half (ms_set_length (ms_set_bits (ms_set_met (ms_set_code st 0) 0) (mf_RiscHartModel_half (ms_set_met (ms_set_code st 0) 0) (ms_place st))) 4) ((ms_place st) + 2)) <<< (16 &&& 31)))) ((ms_place st) + 4)) ((mf_RiscHartModel_half (ms_set_met (ms_set_code st 0) 0) (ms_place st)) ||| ((mf_RiscHartModel_half (ms_set_length (ms_set_bits (ms_set_met (ms_set_code st 0) 0) (mf_RiscHartModel_half (ms_set_met (ms_set_code st 0) 0) (ms_place st))) 4) ((ms_place st) + 2)) <<< (16 &&& 31)))))) (C := RMod) (T := TMod) (N := 14) hx hb hg inMod hown hK hP 0 rfl rfl 13 (by decide) (hg _ tw_570) (fun _ h9 => h9) rfl dMod_step_204 ?_
                  refine lv_if_le (tgt := 215) hx hb dMod_step_207 (by decide) (fun c_24 => ?_) (fun c_24 => ?_)
                  · refine lv_aload_n hx hb dMod_step_215 rfl (lv_at hl 1 rfl) ?_
                    refine lv_aload_n hx hb dMod_step_216 rfl (lv_at hl 1 rfl) ?_
                    refine va_get (D := D) (ci := 2) (v := .int (ms_next (mf_RiscHartModel_carry (ms_set_next (ms_set_bits (ms_set_length (ms_set_bits (ms_set_met (ms_set_code st 0) 0) (mf_RiscHartModel_half (ms_set_met (ms_set_code st 0) 0) (ms_place st))) 4) ((mf_RiscHartModel_half (ms_set_met (ms_set_code st 0) 0) (ms_place st)) ||| ((mf_RiscHartModel_half (ms_set_length (ms_set_bits (ms_set_met (ms_set_code st 0) 0) (mf_RiscHartModel_half (ms_set_met (ms_set_code st 0) 0) (ms_place st))) 4) ((ms_place st) + 2)) <<< (16 &&& 31)))) ((ms_place st) + 4)) ((mf_RiscHartModel_half (ms_set_met (ms_set_code st 0) 0) (ms_place st)) ||| ((mf_RiscHartModel_half (ms_set_length (ms_set_bits (ms_set_met (ms_set_code st 0) 0) (mf_RiscHartModel_half (ms_set_met (ms_set_code st 0) 0) (ms_place st))) 4) ((ms_place st) + 2)) <<< (16 &&& 31)))))) (C := RMod) (T := TMod) (N := 14) hx hb hg inMod hown hK hP 0 rfl rfl 12 (by decide) (hg _ tw_569) (fun _ h9 => h9) rfl dMod_step_217 ?_
                    refine lv_topi (fun y_25 ey_25 => ?_)
                    refine va_put (D := D) (ci := 2) (v := .int y_25) (ty := .int) (C := RMod) (T := TMod) (N := 14) hx hb hg inMod tyMod tyMod_ok nmMod hown hK hP (hD _) hS 0 rfl rfl 4 (by decide) (hg _ tw_561) (fun _ h9 => h9) rfl (by decide +kernel) rfl rfl (Nat.le_of_ble_eq_true rfl) dMod_step_220 (fun H locs hP _ hS => ?_)
                    have hP : va_P D hcl (ms_W cB cO cX m0 m1 m2 m3 (ms_set_place (mf_RiscHartModel_carry (ms_set_next (ms_set_bits (ms_set_length (ms_set_bits (ms_set_met (ms_set_code st 0) 0) (mf_RiscHartModel_half (ms_set_met (ms_set_code st 0) 0) (ms_place st))) 4) ((mf_RiscHartModel_half (ms_set_met (ms_set_code st 0) 0) (ms_place st)) ||| ((mf_RiscHartModel_half (ms_set_length (ms_set_bits (ms_set_met (ms_set_code st 0) 0) (mf_RiscHartModel_half (ms_set_met (ms_set_code st 0) 0) (ms_place st))) 4) ((ms_place st) + 2)) <<< (16 &&& 31)))) ((ms_place st) + 4)) ((mf_RiscHartModel_half (ms_set_met (ms_set_code st 0) 0) (ms_place st)) ||| ((mf_RiscHartModel_half (ms_set_length (ms_set_bits (ms_set_met (ms_set_code st 0) 0) (mf_RiscHartModel_half (ms_set_met (ms_set_code st 0) 0) (ms_place st))) 4) ((ms_place st) + 2)) <<< (16 &&& 31)))) y_25)) H := hP
                    subst ey_25
                    refine lv_aload_n hx hb dMod_step_223 rfl (lv_at hl 1 rfl) ?_
                    refine lv_dup hx hb dMod_step_224 rfl ?_
                    refine va_get (D := D) (ci := 2) (v := .long (ms_retired (mf_RiscHartModel_carry (ms_set_next (ms_set_bits (ms_set_length (ms_set_bits (ms_set_met (ms_set_code st 0) 0) (mf_RiscHartModel_half (ms_set_met (ms_set_code st 0) 0) (ms_place st))) 4) ((mf_RiscHartModel_half (ms_set_met (ms_set_code st 0) 0) (ms_place st)) ||| ((mf_RiscHartModel_half (ms_set_length (ms_set_bits (ms_set_met (ms_set_code st 0) 0) (mf_RiscHartModel_half (ms_set_met (ms_set_code st 0) 0) (ms_place st))) 4) ((ms_place st) + 2)) <<< (16 &&& 31)))) ((ms_place st) + 4)) ((mf_RiscHartModel_half (ms_set_met (ms_set_code st 0) 0) (ms_place st)) ||| ((mf_RiscHartModel_half (ms_set_length (ms_set_bits (ms_set_met (ms_set_code st 0) 0) (mf_RiscHartModel_half (ms_set_met (ms_set_code st 0) 0) (ms_place st))) 4) ((ms_place st) + 2)) <<< (16 &&& 31)))))) (C := RMod) (T := TMod) (N := 14) hx hb hg inMod hown hK hP 0 rfl rfl 8 (by decide) (hg _ tw_565) (fun _ h9 => h9) rfl dMod_step_225 ?_
                    refine lv_lconst (v := 1) hx hb dMod_step_228 (by decide) ?_
                    refine lv_ladd hx hb dMod_step_229 ?_
                    refine lv_topl (fun y_26 ey_26 => ?_)
                    refine va_put (D := D) (ci := 2) (v := .long y_26) (ty := .long) (C := RMod) (T := TMod) (N := 14) hx hb hg inMod tyMod tyMod_ok nmMod hown hK hP (hD _) hS 0 rfl rfl 8 (by decide) (hg _ tw_565) (fun _ h9 => h9) rfl (by decide +kernel) rfl rfl (Nat.le_of_ble_eq_true rfl) dMod_step_230 (fun H locs hP _ hS => ?_)
                    have hP : va_P D hcl (ms_W cB cO cX m0 m1 m2 m3 (ms_set_retired (ms_set_place (mf_RiscHartModel_carry (ms_set_next (ms_set_bits (ms_set_length (ms_set_bits (ms_set_met (ms_set_code st 0) 0) (mf_RiscHartModel_half (ms_set_met (ms_set_code st 0) 0) (ms_place st))) 4) ((mf_RiscHartModel_half (ms_set_met (ms_set_code st 0) 0) (ms_place st)) ||| ((mf_RiscHartModel_half (ms_set_length (ms_set_bits (ms_set_met (ms_set_code st 0) 0) (mf_RiscHartModel_half (ms_set_met (ms_set_code st 0) 0) (ms_place st))) 4) ((ms_place st) + 2)) <<< (16 &&& 31)))) ((ms_place st) + 4)) ((mf_RiscHartModel_half (ms_set_met (ms_set_code st 0) 0) (ms_place st)) ||| ((mf_RiscHartModel_half (ms_set_length (ms_set_bits (ms_set_met (ms_set_code st 0) 0) (mf_RiscHartModel_half (ms_set_met (ms_set_code st 0) 0) (ms_place st))) 4) ((ms_place st) + 2)) <<< (16 &&& 31)))) (ms_next (mf_RiscHartModel_carry (ms_set_next (ms_set_bits (ms_set_length (ms_set_bits (ms_set_met (ms_set_code st 0) 0) (mf_RiscHartModel_half (ms_set_met (ms_set_code st 0) 0) (ms_place st))) 4) ((mf_RiscHartModel_half (ms_set_met (ms_set_code st 0) 0) (ms_place st)) ||| ((mf_RiscHartModel_half (ms_set_length (ms_set_bits (ms_set_met (ms_set_code st 0) 0) (mf_RiscHartModel_half (ms_set_met (ms_set_code st 0) 0) (ms_place st))) 4) ((ms_place st) + 2)) <<< (16 &&& 31)))) ((ms_place st) + 4)) ((mf_RiscHartModel_half (ms_set_met (ms_set_code st 0) 0) (ms_place st)) ||| ((mf_RiscHartModel_half (ms_set_length (ms_set_bits (ms_set_met (ms_set_code st 0) 0) (mf_RiscHartModel_half (ms_set_met (ms_set_code st 0) 0) (ms_place st))) 4) ((ms_place st) + 2)) <<< (16 &&& 31)))))) y_26)) H := hP
                    subst ey_26
                    refine lv_iconst (v := 0) hx hb dMod_step_233 (by decide) ?_
                    exact W.iret hx hb hr (fun t ht hW => ⟨⟨_, (ms_set_retired (ms_set_place (mf_RiscHartModel_carry (ms_set_next (ms_set_bits (ms_set_length (ms_set_bits (ms_set_met (ms_set_code st 0) 0) (mf_RiscHartModel_half (ms_set_met (ms_set_code st 0) 0) (ms_place st))) 4) ((mf_RiscHartModel_half (ms_set_met (ms_set_code st 0) 0) (ms_place st)) ||| ((mf_RiscHartModel_half (ms_set_length (ms_set_bits (ms_set_met (ms_set_code st 0) 0) (mf_RiscHartModel_half (ms_set_met (ms_set_code st 0) 0) (ms_place st))) 4) ((ms_place st) + 2)) <<< (16 &&& 31)))) ((ms_place st) + 4)) ((mf_RiscHartModel_half (ms_set_met (ms_set_code st 0) 0) (ms_place st)) ||| ((mf_RiscHartModel_half (ms_set_length (ms_set_bits (ms_set_met (ms_set_code st 0) 0) (mf_RiscHartModel_half (ms_set_met (ms_set_code st 0) 0) (ms_place st))) 4) ((ms_place st) + 2)) <<< (16 &&& 31)))) (ms_next (mf_RiscHartModel_carry (ms_set_next (ms_set_bits (ms_set_length (ms_set_bits (ms_set_met (ms_set_code st 0) 0) (mf_RiscHartModel_half (ms_set_met (ms_set_code st 0) 0) (ms_place st))) 4) ((mf_RiscHartModel_half (ms_set_met (ms_set_code st 0) 0) (ms_place st)) ||| ((mf_RiscHartModel_half (ms_set_length (ms_set_bits (ms_set_met (ms_set_code st 0) 0) (mf_RiscHartModel_half (ms_set_met (ms_set_code st 0) 0) (ms_place st))) 4) ((ms_place st) + 2)) <<< (16 &&& 31)))) ((ms_place st) + 4)) ((mf_RiscHartModel_half (ms_set_met (ms_set_code st 0) 0) (ms_place st)) ||| ((mf_RiscHartModel_half (ms_set_length (ms_set_bits (ms_set_met (ms_set_code st 0) 0) (mf_RiscHartModel_half (ms_set_met (ms_set_code st 0) 0) (ms_place st))) 4) ((ms_place st) + 2)) <<< (16 &&& 31)))))) ((ms_retired (mf_RiscHartModel_carry (ms_set_next (ms_set_bits (ms_set_length (ms_set_bits (ms_set_met (ms_set_code st 0) 0) (mf_RiscHartModel_half (ms_set_met (ms_set_code st 0) 0) (ms_place st))) 4) ((mf_RiscHartModel_half (ms_set_met (ms_set_code st 0) 0) (ms_place st)) ||| ((mf_RiscHartModel_half (ms_set_length (ms_set_bits (ms_set_met (ms_set_code st 0) 0) (mf_RiscHartModel_half (ms_set_met (ms_set_code st 0) 0) (ms_place st))) 4) ((ms_place st) + 2)) <<< (16 &&& 31)))) ((ms_place st) + 4)) ((mf_RiscHartModel_half (ms_set_met (ms_set_code st 0) 0) (ms_place st)) ||| ((mf_RiscHartModel_half (ms_set_length (ms_set_bits (ms_set_met (ms_set_code st 0) 0) (mf_RiscHartModel_half (ms_set_met (ms_set_code st 0) 0) (ms_place st))) 4) ((ms_place st) + 2)) <<< (16 &&& 31))))) + 1)), rfl, (by unfold mf_RiscHartModel_step; rw [if_neg c_1, if_neg c_2, if_pos c_4, if_neg c_18, if_neg c_23, if_pos c_24]), by show va_P D hcl _ t.heap; rw [ht]; exact hP⟩, hS.F ht⟩) hS.2.2 dMod_step_234
                  · refine lv_aload_n hx hb dMod_step_210 rfl (lv_at hl 1 rfl) ?_
                    refine va_get (D := D) (ci := 2) (v := .int (ms_met (mf_RiscHartModel_carry (ms_set_next (ms_set_bits (ms_set_length (ms_set_bits (ms_set_met (ms_set_code st 0) 0) (mf_RiscHartModel_half (ms_set_met (ms_set_code st 0) 0) (ms_place st))) 4) ((mf_RiscHartModel_half (ms_set_met (ms_set_code st 0) 0) (ms_place st)) ||| ((mf_RiscHartModel_half (ms_set_length (ms_set_bits (ms_set_met (ms_set_code st 0) 0) (mf_RiscHartModel_half (ms_set_met (ms_set_code st 0) 0) (ms_place st))) 4) ((ms_place st) + 2)) <<< (16 &&& 31)))) ((ms_place st) + 4)) ((mf_RiscHartModel_half (ms_set_met (ms_set_code st 0) 0) (ms_place st)) ||| ((mf_RiscHartModel_half (ms_set_length (ms_set_bits (ms_set_met (ms_set_code st 0) 0) (mf_RiscHartModel_half (ms_set_met (ms_set_code st 0) 0) (ms_place st))) 4) ((ms_place st) + 2)) <<< (16 &&& 31)))))) (C := RMod) (T := TMod) (N := 14) hx hb hg inMod hown hK hP 0 rfl rfl 13 (by decide) (hg _ tw_570) (fun _ h9 => h9) rfl dMod_step_211 ?_
                    exact W.iret hx hb hr (fun t ht hW => ⟨⟨_, (mf_RiscHartModel_carry (ms_set_next (ms_set_bits (ms_set_length (ms_set_bits (ms_set_met (ms_set_code st 0) 0) (mf_RiscHartModel_half (ms_set_met (ms_set_code st 0) 0) (ms_place st))) 4) ((mf_RiscHartModel_half (ms_set_met (ms_set_code st 0) 0) (ms_place st)) ||| ((mf_RiscHartModel_half (ms_set_length (ms_set_bits (ms_set_met (ms_set_code st 0) 0) (mf_RiscHartModel_half (ms_set_met (ms_set_code st 0) 0) (ms_place st))) 4) ((ms_place st) + 2)) <<< (16 &&& 31)))) ((ms_place st) + 4)) ((mf_RiscHartModel_half (ms_set_met (ms_set_code st 0) 0) (ms_place st)) ||| ((mf_RiscHartModel_half (ms_set_length (ms_set_bits (ms_set_met (ms_set_code st 0) 0) (mf_RiscHartModel_half (ms_set_met (ms_set_code st 0) 0) (ms_place st))) 4) ((ms_place st) + 2)) <<< (16 &&& 31)))), rfl, (by unfold mf_RiscHartModel_step; rw [if_neg c_1, if_neg c_2, if_pos c_4, if_neg c_18, if_neg c_23, if_neg c_24]), by show va_P D hcl _ t.heap; rw [ht]; exact hP⟩, hS.F ht⟩) hS.2.2 dMod_step_214
                · refine lv_aload_n hx hb dMod_step_190 rfl (lv_at hl 1 rfl) ?_
                  refine mk_callW (va_runV (As := []) (rest := []) ⟨hx, hb, hml, hown, hts⟩ (mc_RiscHartModel_illegal l hP hD) (cwV 0 hts (mk_gV tw_705 tw_707 tw_36 tw_48 tw_708) rfl rfl rfl hdMod_illegal ⟨Nat.le_of_ble_eq_true rfl, Nat.le_of_ble_eq_true rfl⟩) (mk_preVK hK (va_recv hK hP (ci := 2) (q0 := 0) rfl rfl)) rfl rfl hl.1 rfl (lv_room (Nat.le_of_ble_eq_true rfl)) dMod_step_191 ⟨Nat.zero_le _, Nat.zero_le _⟩) hS (fun H locs hP hS => ?_)
                  refine lv_pop hx hb dMod_step_194 rfl ?_
                  refine lv_goto (tgt := 203) hx hb dMod_step_195 (by decide) ?_
                  refine lv_aload_n hx hb dMod_step_203 rfl (lv_at hl 1 rfl) ?_
                  refine va_get (D := D) (ci := 2) (v := .int (ms_met ((mf_RiscHartModel_illegal (ms_set_next (ms_set_bits (ms_set_length (ms_set_bits (ms_set_met (ms_set_code st 0) 0) (mf_RiscHartModel_half (ms_set_met (ms_set_code st 0) 0) (ms_place st))) 4) ((mf_RiscHartModel_half (ms_set_met (ms_set_code st 0) 0) (ms_place st)) ||| ((mf_RiscHartModel_half (ms_set_length (ms_set_bits (ms_set_met (ms_set_code st 0) 0) (mf_RiscHartModel_half (ms_set_met (ms_set_code st 0) 0) (ms_place st))) 4) ((ms_place st) + 2)) <<< (16 &&& 31)))) ((ms_place st) + 4))).2))) (C := RMod) (T := TMod) (N := 14) hx hb hg inMod hown hK hP 0 rfl rfl 13 (by decide) (hg _ tw_570) (fun _ h9 => h9) rfl dMod_step_204 ?_
                  refine lv_if_le (tgt := 215) hx hb dMod_step_207 (by decide) (fun c_27 => ?_) (fun c_27 => ?_)
                  · refine lv_aload_n hx hb dMod_step_215 rfl (lv_at hl 1 rfl) ?_
                    refine lv_aload_n hx hb dMod_step_216 rfl (lv_at hl 1 rfl) ?_
                    refine va_get (D := D) (ci := 2) (v := .int (ms_next ((mf_RiscHartModel_illegal (ms_set_next (ms_set_bits (ms_set_length (ms_set_bits (ms_set_met (ms_set_code st 0) 0) (mf_RiscHartModel_half (ms_set_met (ms_set_code st 0) 0) (ms_place st))) 4) ((mf_RiscHartModel_half (ms_set_met (ms_set_code st 0) 0) (ms_place st)) ||| ((mf_RiscHartModel_half (ms_set_length (ms_set_bits (ms_set_met (ms_set_code st 0) 0) (mf_RiscHartModel_half (ms_set_met (ms_set_code st 0) 0) (ms_place st))) 4) ((ms_place st) + 2)) <<< (16 &&& 31)))) ((ms_place st) + 4))).2))) (C := RMod) (T := TMod) (N := 14) hx hb hg inMod hown hK hP 0 rfl rfl 12 (by decide) (hg _ tw_569) (fun _ h9 => h9) rfl dMod_step_217 ?_
                    refine lv_topi (fun y_28 ey_28 => ?_)
                    refine va_put (D := D) (ci := 2) (v := .int y_28) (ty := .int) (C := RMod) (T := TMod) (N := 14) hx hb hg inMod tyMod tyMod_ok nmMod hown hK hP (hD _) hS 0 rfl rfl 4 (by decide) (hg _ tw_561) (fun _ h9 => h9) rfl (by decide +kernel) rfl rfl (Nat.le_of_ble_eq_true rfl) dMod_step_220 (fun H locs hP _ hS => ?_)
                    have hP : va_P D hcl (ms_W cB cO cX m0 m1 m2 m3 (ms_set_place ((mf_RiscHartModel_illegal (ms_set_next (ms_set_bits (ms_set_length (ms_set_bits (ms_set_met (ms_set_code st 0) 0) (mf_RiscHartModel_half (ms_set_met (ms_set_code st 0) 0) (ms_place st))) 4) ((mf_RiscHartModel_half (ms_set_met (ms_set_code st 0) 0) (ms_place st)) ||| ((mf_RiscHartModel_half (ms_set_length (ms_set_bits (ms_set_met (ms_set_code st 0) 0) (mf_RiscHartModel_half (ms_set_met (ms_set_code st 0) 0) (ms_place st))) 4) ((ms_place st) + 2)) <<< (16 &&& 31)))) ((ms_place st) + 4))).2) y_28)) H := hP
                    subst ey_28
                    refine lv_aload_n hx hb dMod_step_223 rfl (lv_at hl 1 rfl) ?_
                    refine lv_dup hx hb dMod_step_224 rfl ?_
                    refine va_get (D := D) (ci := 2) (v := .long (ms_retired ((mf_RiscHartModel_illegal (ms_set_next (ms_set_bits (ms_set_length (ms_set_bits (ms_set_met (ms_set_code st 0) 0) (mf_RiscHartModel_half (ms_set_met (ms_set_code st 0) 0) (ms_place st))) 4) ((mf_RiscHartModel_half (ms_set_met (ms_set_code st 0) 0) (ms_place st)) ||| ((mf_RiscHartModel_half (ms_set_length (ms_set_bits (ms_set_met (ms_set_code st 0) 0) (mf_RiscHartModel_half (ms_set_met (ms_set_code st 0) 0) (ms_place st))) 4) ((ms_place st) + 2)) <<< (16 &&& 31)))) ((ms_place st) + 4))).2))) (C := RMod) (T := TMod) (N := 14) hx hb hg inMod hown hK hP 0 rfl rfl 8 (by decide) (hg _ tw_565) (fun _ h9 => h9) rfl dMod_step_225 ?_
                    refine lv_lconst (v := 1) hx hb dMod_step_228 (by decide) ?_
                    refine lv_ladd hx hb dMod_step_229 ?_
                    refine lv_topl (fun y_29 ey_29 => ?_)
                    refine va_put (D := D) (ci := 2) (v := .long y_29) (ty := .long) (C := RMod) (T := TMod) (N := 14) hx hb hg inMod tyMod tyMod_ok nmMod hown hK hP (hD _) hS 0 rfl rfl 8 (by decide) (hg _ tw_565) (fun _ h9 => h9) rfl (by decide +kernel) rfl rfl (Nat.le_of_ble_eq_true rfl) dMod_step_230 (fun H locs hP _ hS => ?_)
                    have hP : va_P D hcl (ms_W cB cO cX m0 m1 m2 m3 (ms_set_retired (ms_set_place ((mf_RiscHartModel_illegal (ms_set_next (ms_set_bits (ms_set_length (ms_set_bits (ms_set_met (ms_set_code st 0) 0) (mf_RiscHartModel_half (ms_set_met (ms_set_code st 0) 0) (ms_place st))) 4) ((mf_RiscHartModel_half (ms_set_met (ms_set_code st 0) 0) (ms_place st)) ||| ((mf_RiscHartModel_half (ms_set_length (ms_set_bits (ms_set_met (ms_set_code st 0) 0) (mf_RiscHartModel_half (ms_set_met (ms_set_code st 0) 0) (ms_place st))) 4) ((ms_place st) + 2)) <<< (16 &&& 31)))) ((ms_place st) + 4))).2) (ms_next ((mf_RiscHartModel_illegal (ms_set_next (ms_set_bits (ms_set_length (ms_set_bits (ms_set_met (ms_set_code st 0) 0) (mf_RiscHartModel_half (ms_set_met (ms_set_code st 0) 0) (ms_place st))) 4) ((mf_RiscHartModel_half (ms_set_met (ms_set_code st 0) 0) (ms_place st)) ||| ((mf_RiscHartModel_half (ms_set_length (ms_set_bits (ms_set_met (ms_set_code st 0) 0) (mf_RiscHartModel_half (ms_set_met (ms_set_code st 0) 0) (ms_place st))) 4) ((ms_place st) + 2)) <<< (16 &&& 31)))) ((ms_place st) + 4))).2))) y_29)) H := hP
                    subst ey_29
                    refine lv_iconst (v := 0) hx hb dMod_step_233 (by decide) ?_
                    exact W.iret hx hb hr (fun t ht hW => ⟨⟨_, (ms_set_retired (ms_set_place ((mf_RiscHartModel_illegal (ms_set_next (ms_set_bits (ms_set_length (ms_set_bits (ms_set_met (ms_set_code st 0) 0) (mf_RiscHartModel_half (ms_set_met (ms_set_code st 0) 0) (ms_place st))) 4) ((mf_RiscHartModel_half (ms_set_met (ms_set_code st 0) 0) (ms_place st)) ||| ((mf_RiscHartModel_half (ms_set_length (ms_set_bits (ms_set_met (ms_set_code st 0) 0) (mf_RiscHartModel_half (ms_set_met (ms_set_code st 0) 0) (ms_place st))) 4) ((ms_place st) + 2)) <<< (16 &&& 31)))) ((ms_place st) + 4))).2) (ms_next ((mf_RiscHartModel_illegal (ms_set_next (ms_set_bits (ms_set_length (ms_set_bits (ms_set_met (ms_set_code st 0) 0) (mf_RiscHartModel_half (ms_set_met (ms_set_code st 0) 0) (ms_place st))) 4) ((mf_RiscHartModel_half (ms_set_met (ms_set_code st 0) 0) (ms_place st)) ||| ((mf_RiscHartModel_half (ms_set_length (ms_set_bits (ms_set_met (ms_set_code st 0) 0) (mf_RiscHartModel_half (ms_set_met (ms_set_code st 0) 0) (ms_place st))) 4) ((ms_place st) + 2)) <<< (16 &&& 31)))) ((ms_place st) + 4))).2))) ((ms_retired ((mf_RiscHartModel_illegal (ms_set_next (ms_set_bits (ms_set_length (ms_set_bits (ms_set_met (ms_set_code st 0) 0) (mf_RiscHartModel_half (ms_set_met (ms_set_code st 0) 0) (ms_place st))) 4) ((mf_RiscHartModel_half (ms_set_met (ms_set_code st 0) 0) (ms_place st)) ||| ((mf_RiscHartModel_half (ms_set_length (ms_set_bits (ms_set_met (ms_set_code st 0) 0) (mf_RiscHartModel_half (ms_set_met (ms_set_code st 0) 0) (ms_place st))) 4) ((ms_place st) + 2)) <<< (16 &&& 31)))) ((ms_place st) + 4))).2)) + 1)), rfl, (by unfold mf_RiscHartModel_step; rw [if_neg c_1, if_neg c_2, if_pos c_4, if_neg c_18, if_pos c_23, if_pos c_27]), by show va_P D hcl _ t.heap; rw [ht]; exact hP⟩, hS.F ht⟩) hS.2.2 dMod_step_234
                  · refine lv_aload_n hx hb dMod_step_210 rfl (lv_at hl 1 rfl) ?_
                    refine va_get (D := D) (ci := 2) (v := .int (ms_met ((mf_RiscHartModel_illegal (ms_set_next (ms_set_bits (ms_set_length (ms_set_bits (ms_set_met (ms_set_code st 0) 0) (mf_RiscHartModel_half (ms_set_met (ms_set_code st 0) 0) (ms_place st))) 4) ((mf_RiscHartModel_half (ms_set_met (ms_set_code st 0) 0) (ms_place st)) ||| ((mf_RiscHartModel_half (ms_set_length (ms_set_bits (ms_set_met (ms_set_code st 0) 0) (mf_RiscHartModel_half (ms_set_met (ms_set_code st 0) 0) (ms_place st))) 4) ((ms_place st) + 2)) <<< (16 &&& 31)))) ((ms_place st) + 4))).2))) (C := RMod) (T := TMod) (N := 14) hx hb hg inMod hown hK hP 0 rfl rfl 13 (by decide) (hg _ tw_570) (fun _ h9 => h9) rfl dMod_step_211 ?_
                    exact W.iret hx hb hr (fun t ht hW => ⟨⟨_, (mf_RiscHartModel_illegal (ms_set_next (ms_set_bits (ms_set_length (ms_set_bits (ms_set_met (ms_set_code st 0) 0) (mf_RiscHartModel_half (ms_set_met (ms_set_code st 0) 0) (ms_place st))) 4) ((mf_RiscHartModel_half (ms_set_met (ms_set_code st 0) 0) (ms_place st)) ||| ((mf_RiscHartModel_half (ms_set_length (ms_set_bits (ms_set_met (ms_set_code st 0) 0) (mf_RiscHartModel_half (ms_set_met (ms_set_code st 0) 0) (ms_place st))) 4) ((ms_place st) + 2)) <<< (16 &&& 31)))) ((ms_place st) + 4))).2, rfl, (by unfold mf_RiscHartModel_step; rw [if_neg c_1, if_neg c_2, if_pos c_4, if_neg c_18, if_pos c_23, if_neg c_27]), by show va_P D hcl _ t.heap; rw [ht]; exact hP⟩, hS.F ht⟩) hS.2.2 dMod_step_214
          · refine lv_aload_n hx hb dMod_step_98 rfl (lv_at hl 0 rfl) ?_
            refine lv_iconst (v := 1) hx hb dMod_step_99 (by decide) ?_
            refine lv_aload_n hx hb dMod_step_100 rfl (lv_at hl 0 rfl) ?_
            refine va_get (D := D) (ci := 2) (v := .int (ms_place st)) (C := RMod) (T := TMod) (N := 14) hx hb hg inMod hown hK hP 0 rfl rfl 4 (by decide) (hg _ tw_561) (fun _ h9 => h9) rfl dMod_step_101 ?_
            refine mk_callW (va_runV (As := [.int 1, .int (ms_place st)]) (rest := []) ⟨hx, hb, hml, hown, hts⟩ (mc_RiscHartModel_trap l hP hD 1 (ms_place st)) (cwV 2 hts (mk_gV tw_657 tw_659 tw_34 tw_48 tw_660) rfl rfl rfl hdMod_trap ⟨Nat.le_of_ble_eq_true rfl, Nat.le_of_ble_eq_true rfl⟩) (mk_preVK hK (va_recv hK hP (ci := 2) (q0 := 0) rfl rfl)) rfl rfl hl.1 rfl (lv_room (Nat.le_of_ble_eq_true rfl)) dMod_step_104 ⟨Nat.zero_le _, Nat.zero_le _⟩) hS (fun H locs hP hS => ?_)
            refine lv_pop hx hb dMod_step_107 rfl ?_
            refine lv_aload_n hx hb dMod_step_108 rfl (lv_at hl 0 rfl) ?_
            refine va_get (D := D) (ci := 2) (v := .int (ms_met ((mf_RiscHartModel_trap (ms_set_length (ms_set_bits (ms_set_met (ms_set_code st 0) 0) (mf_RiscHartModel_half (ms_set_met (ms_set_code st 0) 0) (ms_place st))) 4) 1 (ms_place st)).2))) (C := RMod) (T := TMod) (N := 14) hx hb hg inMod hown hK hP 0 rfl rfl 13 (by decide) (hg _ tw_570) (fun _ h9 => h9) rfl dMod_step_109 ?_
            exact W.iret hx hb hr (fun t ht hW => ⟨⟨_, (mf_RiscHartModel_trap (ms_set_length (ms_set_bits (ms_set_met (ms_set_code st 0) 0) (mf_RiscHartModel_half (ms_set_met (ms_set_code st 0) 0) (ms_place st))) 4) 1 (ms_place st)).2, rfl, (by unfold mf_RiscHartModel_step; rw [if_neg c_1, if_neg c_2, if_pos c_4, if_pos c_18]), by show va_P D hcl _ t.heap; rw [ht]; exact hP⟩, hS.F ht⟩) hS.2.2 dMod_step_112
    · refine lv_aload_n hx hb dMod_step_31 rfl (lv_at hl 0 rfl) ?_
      refine lv_iconst (v := 1) hx hb dMod_step_32 (by decide) ?_
      refine lv_aload_n hx hb dMod_step_33 rfl (lv_at hl 0 rfl) ?_
      refine va_get (D := D) (ci := 2) (v := .int (ms_place st)) (C := RMod) (T := TMod) (N := 14) hx hb hg inMod hown hK hP 0 rfl rfl 4 (by decide) (hg _ tw_561) (fun _ h9 => h9) rfl dMod_step_34 ?_
      refine mk_callW (va_runV (As := [.int 1, .int (ms_place st)]) (rest := []) ⟨hx, hb, hml, hown, hts⟩ (mc_RiscHartModel_trap l hP hD 1 (ms_place st)) (cwV 2 hts (mk_gV tw_657 tw_659 tw_34 tw_48 tw_660) rfl rfl rfl hdMod_trap ⟨Nat.le_of_ble_eq_true rfl, Nat.le_of_ble_eq_true rfl⟩) (mk_preVK hK (va_recv hK hP (ci := 2) (q0 := 0) rfl rfl)) rfl rfl hl.1 rfl (lv_room (Nat.le_of_ble_eq_true rfl)) dMod_step_37 ⟨Nat.zero_le _, Nat.zero_le _⟩) hS (fun H locs hP hS => ?_)
      refine lv_pop hx hb dMod_step_40 rfl ?_
      refine lv_aload_n hx hb dMod_step_41 rfl (lv_at hl 0 rfl) ?_
      refine va_get (D := D) (ci := 2) (v := .int (ms_met ((mf_RiscHartModel_trap (ms_set_met (ms_set_code st 0) 0) 1 (ms_place st)).2))) (C := RMod) (T := TMod) (N := 14) hx hb hg inMod hown hK hP 0 rfl rfl 13 (by decide) (hg _ tw_570) (fun _ h9 => h9) rfl dMod_step_42 ?_
      exact W.iret hx hb hr (fun t ht hW => ⟨⟨_, (mf_RiscHartModel_trap (ms_set_met (ms_set_code st 0) 0) 1 (ms_place st)).2, rfl, (by unfold mf_RiscHartModel_step; rw [if_neg c_1, if_pos c_2]), by show va_P D hcl _ t.heap; rw [ht]; exact hP⟩, hS.F ht⟩) hS.2.2 dMod_step_45
set_option maxHeartbeats 4000000 in
set_option maxRecDepth 100000 in
theorem mc_RiscHartModel_count (l : Launch) {D : va_G} {cB cO cX : ClassId} {m0 m1 m2 m3 : Nat} {A : Nat → Prop} {st : MS} {G : Heap} (hP : va_P D hcl (ms_W cB cO cX m0 m1 m2 m3 st) G) (hD : ∀ z, va_D A (ms_W cB cO cX m0 m1 m2 m3 z)) (a1 : Int32)  : Met l yMod_count (wq yMod_count cMod_count 2 (some .long)) ({ frames := 1, cells := 0, slots := 0, locals := 22 }) (mk_PK D hcl [(cB, .int), (cO, .int), (cX, .int)] G [.ref m0, .int a1]) (mk_Wl (fun u t => va_P D hcl (ms_W cB cO cX m0 m1 m2 m3 u) t) A (mf_RiscHartModel_count st a1)) 0 0 A := by
  refine Met.ofW (cc := cMod_count) (maxL := 2) (ret := (some .long)) (by decide) rfl ?_
  intro p e s m args below meth c s₁ B hml hv
  obtain ⟨rfl, hG, hK⟩ := hv
  subst hG
  have hx := B.exec
  have hb := B.bytes
  have hr := B.returns
  have hts := atoms_spec (ws := (wq yMod_count cMod_count 2 (some .long))) B.pre
  have hown : s.vm.findClass RMod = some m.cls := findClass_of_methodNamed B.named
  have hlocks := B.notSynchronized
  have hg : ∀ w ∈ lw_g, w.before _ s = true := fun w h => hts w (List.mem_cons_of_mem _ h)
  have hS : va_S A s.heap s.heap [] := va_S.rf
  have hl := lv_entry ([.ref m0, .int a1]) (n := 2) (Nat.le_of_ble_eq_true rfl)
  rw [lg_entry_eq]
  generalize (lg_sl ([.ref m0, .int a1]) ++ List.replicate (2 - (lg_sl ([.ref m0, .int a1])).length) Slot.unset).toArray = ls at hl ⊢
  have hl : lv_has ls 2 [(0, .ref m0), (1, .int a1)] := hl
  refine lv_aload_n hx hb dMod_count_0 rfl (lv_at hl 0 rfl) ?_
  refine lv_iload_n hx hb dMod_count_1 rfl (lv_at hl 1 rfl) ?_
  refine lv_iconst (v := 0) hx hb dMod_count_2 (by decide) ?_
  refine lv_iconst (v := 4) hx hb dMod_count_3 (by decide) ?_
  refine mk_callR (va_runS (As := [.int a1, .int 0, .int 4]) (rest := [.ref m0]) ⟨hx, hb, hml, hown, hts⟩ (mc_RiscHartModel_in l _ a1 0 4) (va_cwS 3 hts (mk_gS tw_609 tw_610 tw_48 tw_611) rfl rfl rfl hdMod_in.2 ⟨Nat.le_of_ble_eq_true rfl, Nat.le_of_ble_eq_true rfl⟩) mk_preS rfl rfl hl.1 rfl (lv_room (Nat.le_of_ble_eq_true rfl)) dMod_count_4 ⟨Nat.zero_le _, Nat.zero_le _⟩) ?_
  refine lv_if_eq (tgt := 14) hx hb dMod_count_7 (by decide) (fun c_1 => ?_) (fun c_1 => ?_)
  · refine lv_iconst (v := 1) hx hb dMod_count_14 (by decide) ?_
    refine va_put (D := D) (ci := 2) (v := .int 1) (ty := .int) (C := RMod) (T := TMod) (N := 14) hx hb hg inMod tyMod tyMod_ok nmMod hown hK hP (hD _) hS 0 rfl rfl 0 (by decide) (hg _ tw_557) (fun _ h9 => h9) rfl (by decide +kernel) rfl rfl (Nat.le_of_ble_eq_true rfl) dMod_count_15 (fun H locs hP _ hS => ?_)
    have hP : va_P D hcl (ms_W cB cO cX m0 m1 m2 m3 (ms_set_code st 1)) H := hP
    refine lv_iload_n hx hb dMod_count_18 rfl (lv_at hl 1 rfl) ?_
    by_cases c_2 : a1 = 0
    · refine lv_tableIn (tgt := 52) hx hb dMod_count_19 (by rw [c_2]; decide) (by rw [c_2]; decide) (by rw [c_2]; rfl) (by decide) ?_
      refine lv_aload_n hx hb dMod_count_52 rfl (lv_at hl 0 rfl) ?_
      refine va_get (D := D) (ci := 2) (v := .int (ms_place st)) (C := RMod) (T := TMod) (N := 14) hx hb hg inMod hown hK hP 0 rfl rfl 4 (by decide) (hg _ tw_561) (fun _ h9 => h9) rfl dMod_count_53 ?_
      refine lv_i2l (v := (ms_place st).toInt64) hx hb dMod_count_56 rfl ?_
      exact W.lret hx hb hr (fun t ht hW => ⟨⟨_, (ms_set_code st 1), rfl, (by unfold mf_RiscHartModel_count; rw [if_pos c_1, if_pos c_2]), by show va_P D hcl _ t.heap; rw [ht]; exact hP⟩, hS.F ht⟩) hS.2.2 dMod_count_57
    by_cases c_3 : a1 = 1
    · refine lv_tableIn (tgt := 58) hx hb dMod_count_19 (by rw [c_3]; decide) (by rw [c_3]; decide) (by rw [c_3]; rfl) (by decide) ?_
      refine lv_aload_n hx hb dMod_count_58 rfl (lv_at hl 0 rfl) ?_
      refine va_get (D := D) (ci := 2) (v := .int (ms_cause st)) (C := RMod) (T := TMod) (N := 14) hx hb hg inMod hown hK hP 0 rfl rfl 5 (by decide) (hg _ tw_562) (fun _ h9 => h9) rfl dMod_count_59 ?_
      refine lv_i2l (v := (ms_cause st).toInt64) hx hb dMod_count_62 rfl ?_
      exact W.lret hx hb hr (fun t ht hW => ⟨⟨_, (ms_set_code st 1), rfl, (by unfold mf_RiscHartModel_count; rw [if_pos c_1, if_neg c_2, if_pos c_3]), by show va_P D hcl _ t.heap; rw [ht]; exact hP⟩, hS.F ht⟩) hS.2.2 dMod_count_63
    by_cases c_4 : a1 = 2
    · refine lv_tableIn (tgt := 64) hx hb dMod_count_19 (by rw [c_4]; decide) (by rw [c_4]; decide) (by rw [c_4]; rfl) (by decide) ?_
      refine lv_aload_n hx hb dMod_count_64 rfl (lv_at hl 0 rfl) ?_
      refine va_get (D := D) (ci := 2) (v := .int (ms_value st)) (C := RMod) (T := TMod) (N := 14) hx hb hg inMod hown hK hP 0 rfl rfl 6 (by decide) (hg _ tw_563) (fun _ h9 => h9) rfl dMod_count_65 ?_
      refine lv_i2l (v := (ms_value st).toInt64) hx hb dMod_count_68 rfl ?_
      exact W.lret hx hb hr (fun t ht hW => ⟨⟨_, (ms_set_code st 1), rfl, (by unfold mf_RiscHartModel_count; rw [if_pos c_1, if_neg c_2, if_neg c_3, if_pos c_4]), by show va_P D hcl _ t.heap; rw [ht]; exact hP⟩, hS.F ht⟩) hS.2.2 dMod_count_69
    by_cases c_5 : a1 = 3
    · refine lv_tableIn (tgt := 70) hx hb dMod_count_19 (by rw [c_5]; decide) (by rw [c_5]; decide) (by rw [c_5]; rfl) (by decide) ?_
      refine lv_aload_n hx hb dMod_count_70 rfl (lv_at hl 0 rfl) ?_
      refine va_get (D := D) (ci := 2) (v := .long (ms_retired st)) (C := RMod) (T := TMod) (N := 14) hx hb hg inMod hown hK hP 0 rfl rfl 8 (by decide) (hg _ tw_565) (fun _ h9 => h9) rfl dMod_count_71 ?_
      exact W.lret hx hb hr (fun t ht hW => ⟨⟨_, (ms_set_code st 1), rfl, (by unfold mf_RiscHartModel_count; rw [if_pos c_1, if_neg c_2, if_neg c_3, if_neg c_4, if_pos c_5]), by show va_P D hcl _ t.heap; rw [ht]; exact hP⟩, hS.F ht⟩) hS.2.2 dMod_count_74
    by_cases c_6 : a1 = 4
    · refine lv_tableIn (tgt := 75) hx hb dMod_count_19 (by rw [c_6]; decide) (by rw [c_6]; decide) (by rw [c_6]; rfl) (by decide) ?_
      refine lv_aload_n hx hb dMod_count_75 rfl (lv_at hl 0 rfl) ?_
      refine va_get (D := D) (ci := 2) (v := .int (ms_reserved st)) (C := RMod) (T := TMod) (N := 14) hx hb hg inMod hown hK hP 0 rfl rfl 7 (by decide) (hg _ tw_564) (fun _ h9 => h9) rfl dMod_count_76 ?_
      refine lv_i2l (v := (ms_reserved st).toInt64) hx hb dMod_count_79 rfl ?_
      exact W.lret hx hb hr (fun t ht hW => ⟨⟨_, (ms_set_code st 1), rfl, (by unfold mf_RiscHartModel_count; rw [if_pos c_1, if_neg c_2, if_neg c_3, if_neg c_4, if_neg c_5, if_pos c_6]), by show va_P D hcl _ t.heap; rw [ht]; exact hP⟩, hS.F ht⟩) hS.2.2 dMod_count_80
    refine mk_table (tgt := 81) hx hb dMod_count_19 (mk_gap (N := 5) [0, 1, 2, 3, 4] (by decide) (by decide) (by have q_2 := lv_neT (a := 0) c_2 rfl; have q_3 := lv_neT (a := 1) c_3 rfl; have q_4 := lv_neT (a := 2) c_4 rfl; have q_5 := lv_neT (a := 3) c_5 rfl; have q_6 := lv_neT (a := 4) c_6 rfl; intro n hn; simp only [List.mem_cons, List.not_mem_nil, or_false, not_or]; omega)) (by decide) ?_
    refine lv_lconst (v := 0) hx hb dMod_count_81 (by decide) ?_
    exact W.lret hx hb hr (fun t ht hW => ⟨⟨_, (ms_set_code st 1), rfl, (by unfold mf_RiscHartModel_count; rw [if_pos c_1, if_neg c_2, if_neg c_3, if_neg c_4, if_neg c_5, if_neg c_6]), by show va_P D hcl _ t.heap; rw [ht]; exact hP⟩, hS.F ht⟩) hS.2.2 dMod_count_82
  · refine lv_iconst (v := 0) hx hb dMod_count_10 (by decide) ?_
    refine lv_goto (tgt := 15) hx hb dMod_count_11 (by decide) ?_
    refine va_put (D := D) (ci := 2) (v := .int 0) (ty := .int) (C := RMod) (T := TMod) (N := 14) hx hb hg inMod tyMod tyMod_ok nmMod hown hK hP (hD _) hS 0 rfl rfl 0 (by decide) (hg _ tw_557) (fun _ h9 => h9) rfl (by decide +kernel) rfl rfl (Nat.le_of_ble_eq_true rfl) dMod_count_15 (fun H locs hP _ hS => ?_)
    have hP : va_P D hcl (ms_W cB cO cX m0 m1 m2 m3 (ms_set_code st 0)) H := hP
    refine lv_iload_n hx hb dMod_count_18 rfl (lv_at hl 1 rfl) ?_
    by_cases c_7 : a1 = 0
    · refine lv_tableIn (tgt := 52) hx hb dMod_count_19 (by rw [c_7]; decide) (by rw [c_7]; decide) (by rw [c_7]; rfl) (by decide) ?_
      refine lv_aload_n hx hb dMod_count_52 rfl (lv_at hl 0 rfl) ?_
      refine va_get (D := D) (ci := 2) (v := .int (ms_place st)) (C := RMod) (T := TMod) (N := 14) hx hb hg inMod hown hK hP 0 rfl rfl 4 (by decide) (hg _ tw_561) (fun _ h9 => h9) rfl dMod_count_53 ?_
      refine lv_i2l (v := (ms_place st).toInt64) hx hb dMod_count_56 rfl ?_
      exact W.lret hx hb hr (fun t ht hW => ⟨⟨_, (ms_set_code st 0), rfl, (by unfold mf_RiscHartModel_count; rw [if_neg c_1, if_pos c_7]), by show va_P D hcl _ t.heap; rw [ht]; exact hP⟩, hS.F ht⟩) hS.2.2 dMod_count_57
    by_cases c_8 : a1 = 1
    · refine lv_tableIn (tgt := 58) hx hb dMod_count_19 (by rw [c_8]; decide) (by rw [c_8]; decide) (by rw [c_8]; rfl) (by decide) ?_
      refine lv_aload_n hx hb dMod_count_58 rfl (lv_at hl 0 rfl) ?_
      refine va_get (D := D) (ci := 2) (v := .int (ms_cause st)) (C := RMod) (T := TMod) (N := 14) hx hb hg inMod hown hK hP 0 rfl rfl 5 (by decide) (hg _ tw_562) (fun _ h9 => h9) rfl dMod_count_59 ?_
      refine lv_i2l (v := (ms_cause st).toInt64) hx hb dMod_count_62 rfl ?_
      exact W.lret hx hb hr (fun t ht hW => ⟨⟨_, (ms_set_code st 0), rfl, (by unfold mf_RiscHartModel_count; rw [if_neg c_1, if_neg c_7, if_pos c_8]), by show va_P D hcl _ t.heap; rw [ht]; exact hP⟩, hS.F ht⟩) hS.2.2 dMod_count_63
    by_cases c_9 : a1 = 2
    · refine lv_tableIn (tgt := 64) hx hb dMod_count_19 (by rw [c_9]; decide) (by rw [c_9]; decide) (by rw [c_9]; rfl) (by decide) ?_
      refine lv_aload_n hx hb dMod_count_64 rfl (lv_at hl 0 rfl) ?_
      refine va_get (D := D) (ci := 2) (v := .int (ms_value st)) (C := RMod) (T := TMod) (N := 14) hx hb hg inMod hown hK hP 0 rfl rfl 6 (by decide) (hg _ tw_563) (fun _ h9 => h9) rfl dMod_count_65 ?_
      refine lv_i2l (v := (ms_value st).toInt64) hx hb dMod_count_68 rfl ?_
      exact W.lret hx hb hr (fun t ht hW => ⟨⟨_, (ms_set_code st 0), rfl, (by unfold mf_RiscHartModel_count; rw [if_neg c_1, if_neg c_7, if_neg c_8, if_pos c_9]), by show va_P D hcl _ t.heap; rw [ht]; exact hP⟩, hS.F ht⟩) hS.2.2 dMod_count_69
    by_cases c_10 : a1 = 3
    · refine lv_tableIn (tgt := 70) hx hb dMod_count_19 (by rw [c_10]; decide) (by rw [c_10]; decide) (by rw [c_10]; rfl) (by decide) ?_
      refine lv_aload_n hx hb dMod_count_70 rfl (lv_at hl 0 rfl) ?_
      refine va_get (D := D) (ci := 2) (v := .long (ms_retired st)) (C := RMod) (T := TMod) (N := 14) hx hb hg inMod hown hK hP 0 rfl rfl 8 (by decide) (hg _ tw_565) (fun _ h9 => h9) rfl dMod_count_71 ?_
      exact W.lret hx hb hr (fun t ht hW => ⟨⟨_, (ms_set_code st 0), rfl, (by unfold mf_RiscHartModel_count; rw [if_neg c_1, if_neg c_7, if_neg c_8, if_neg c_9, if_pos c_10]), by show va_P D hcl _ t.heap; rw [ht]; exact hP⟩, hS.F ht⟩) hS.2.2 dMod_count_74
    by_cases c_11 : a1 = 4
    · refine lv_tableIn (tgt := 75) hx hb dMod_count_19 (by rw [c_11]; decide) (by rw [c_11]; decide) (by rw [c_11]; rfl) (by decide) ?_
      refine lv_aload_n hx hb dMod_count_75 rfl (lv_at hl 0 rfl) ?_
      refine va_get (D := D) (ci := 2) (v := .int (ms_reserved st)) (C := RMod) (T := TMod) (N := 14) hx hb hg inMod hown hK hP 0 rfl rfl 7 (by decide) (hg _ tw_564) (fun _ h9 => h9) rfl dMod_count_76 ?_
      refine lv_i2l (v := (ms_reserved st).toInt64) hx hb dMod_count_79 rfl ?_
      exact W.lret hx hb hr (fun t ht hW => ⟨⟨_, (ms_set_code st 0), rfl, (by unfold mf_RiscHartModel_count; rw [if_neg c_1, if_neg c_7, if_neg c_8, if_neg c_9, if_neg c_10, if_pos c_11]), by show va_P D hcl _ t.heap; rw [ht]; exact hP⟩, hS.F ht⟩) hS.2.2 dMod_count_80
    refine mk_table (tgt := 81) hx hb dMod_count_19 (mk_gap (N := 5) [0, 1, 2, 3, 4] (by decide) (by decide) (by have q_7 := lv_neT (a := 0) c_7 rfl; have q_8 := lv_neT (a := 1) c_8 rfl; have q_9 := lv_neT (a := 2) c_9 rfl; have q_10 := lv_neT (a := 3) c_10 rfl; have q_11 := lv_neT (a := 4) c_11 rfl; intro n hn; simp only [List.mem_cons, List.not_mem_nil, or_false, not_or]; omega)) (by decide) ?_
    refine lv_lconst (v := 0) hx hb dMod_count_81 (by decide) ?_
    exact W.lret hx hb hr (fun t ht hW => ⟨⟨_, (ms_set_code st 0), rfl, (by unfold mf_RiscHartModel_count; rw [if_neg c_1, if_neg c_7, if_neg c_8, if_neg c_9, if_neg c_10, if_neg c_11]), by show va_P D hcl _ t.heap; rw [ht]; exact hP⟩, hS.F ht⟩) hS.2.2 dMod_count_82
