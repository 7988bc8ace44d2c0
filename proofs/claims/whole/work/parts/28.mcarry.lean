set_option maxHeartbeats 4000000 in
set_option maxRecDepth 100000 in
theorem mc_RiscHartModel_carry (l : Launch) {D : va_G} {cB cO cX : ClassId} {m0 m1 m2 m3 : Nat} {A : Nat → Prop} {st : MS} {G : Heap} (hP : va_P D hcl (ms_W cB cO cX m0 m1 m2 m3 st) G) (hD : ∀ z, va_D A (ms_W cB cO cX m0 m1 m2 m3 z)) (a1 : Int32)  : Met l yMod_carry (wq yMod_carry cMod_carry 8 none) ({ frames := 4, cells := 0, slots := 0, locals := 97 }) (mk_PK D hcl [(cB, .int), (cO, .int), (cX, .int)] G [.ref m0, .int a1]) (mk_Wv (fun u t => va_P D hcl (ms_W cB cO cX m0 m1 m2 m3 u) t) A (mf_RiscHartModel_carry st a1)) 0 0 A := by
  refine Met.ofW (cc := cMod_carry) (maxL := 8) (ret := none) (by decide) rfl ?_
  intro p e s m args below meth c s₁ B hml hv
  obtain ⟨rfl, hG, hK⟩ := hv
  subst hG
  have hx := B.exec
  have hb := B.bytes
  have hr := B.returns
  have hts := atoms_spec (ws := (wq yMod_carry cMod_carry 8 none)) B.pre
  have hown : s.vm.findClass RMod = some m.cls := findClass_of_methodNamed B.named
  have hlocks := B.notSynchronized
  have hg : ∀ w ∈ lw_g, w.before _ s = true := fun w h => hts w (List.mem_cons_of_mem _ h)
  have hS : va_S A s.heap s.heap [] := va_S.rf
  have hl := lv_entry ([.ref m0, .int a1]) (n := 8) (Nat.le_of_ble_eq_true rfl)
  rw [lg_entry_eq]
  generalize (lg_sl ([.ref m0, .int a1]) ++ List.replicate (8 - (lg_sl ([.ref m0, .int a1])).length) Slot.unset).toArray = ls at hl ⊢
  have hl : lv_has ls 8 [(0, .ref m0), (1, .int a1)] := hl
  refine lv_iload_n hx hb dMod_carry_0 rfl (lv_at hl 1 rfl) ?_
  refine lv_bipush (v := 7) hx hb dMod_carry_1 (by decide) ?_
  refine lv_iconst (v := 5) hx hb dMod_carry_3 (by decide) ?_
  refine mk_callR (va_runS (As := [.int a1, .int 7, .int 5]) (rest := []) ⟨hx, hb, hml, hown, hts⟩ (mc_RiscHartModel_part l _ a1 7 5) (va_cwS 3 hts (mk_gS tw_668 tw_669 tw_48 tw_670) rfl rfl rfl hdMod_part.2 ⟨Nat.le_of_ble_eq_true rfl, Nat.le_of_ble_eq_true rfl⟩) mk_preS rfl rfl hl.1 rfl (lv_room (Nat.le_of_ble_eq_true rfl)) dMod_carry_4 ⟨Nat.zero_le _, Nat.zero_le _⟩) ?_
  refine lv_istore_n (lv' := [(2, .int (mf_RiscHartModel_part a1 7 5)), (0, .ref m0), (1, .int a1)]) hx hb dMod_carry_7 rfl hl (by decide) rfl (fun ls hl => ?_)
  refine lv_iload_n hx hb dMod_carry_8 rfl (lv_at hl 2 rfl) ?_
  refine lv_bipush (v := 12) hx hb dMod_carry_9 (by decide) ?_
  refine lv_iconst (v := 3) hx hb dMod_carry_11 (by decide) ?_
  refine mk_callR (va_runS (As := [.int a1, .int 12, .int 3]) (rest := []) ⟨hx, hb, hml, hown, hts⟩ (mc_RiscHartModel_part l _ a1 12 3) (va_cwS 3 hts (mk_gS tw_668 tw_669 tw_48 tw_670) rfl rfl rfl hdMod_part.2 ⟨Nat.le_of_ble_eq_true rfl, Nat.le_of_ble_eq_true rfl⟩) mk_preS rfl rfl hl.1 rfl (lv_room (Nat.le_of_ble_eq_true rfl)) dMod_carry_12 ⟨Nat.zero_le _, Nat.zero_le _⟩) ?_
  refine lv_istore_n (lv' := [(3, .int (mf_RiscHartModel_part a1 12 3)), (2, .int (mf_RiscHartModel_part a1 7 5)), (0, .ref m0), (1, .int a1)]) hx hb dMod_carry_15 rfl hl (by decide) rfl (fun ls hl => ?_)
  refine lv_aload_n hx hb dMod_carry_16 rfl (lv_at hl 2 rfl) ?_
  refine va_get (D := D) (ci := 2) (v := .ref m3) (C := RMod) (T := TMod) (N := 14) hx hb hg inMod hown hK hP 0 rfl rfl 3 (by decide) (hg _ tw_560) (fun _ h9 => h9) rfl dMod_carry_17 ?_
  refine lv_iload_n hx hb dMod_carry_20 rfl (lv_at hl 3 rfl) ?_
  refine lv_bipush (v := 15) hx hb dMod_carry_21 (by decide) ?_
  refine lv_iconst (v := 5) hx hb dMod_carry_23 (by decide) ?_
  refine mk_callR (va_runS (As := [.int a1, .int 15, .int 5]) (rest := [.ref m3]) ⟨hx, hb, hml, hown, hts⟩ (mc_RiscHartModel_part l _ a1 15 5) (va_cwS 3 hts (mk_gS tw_668 tw_669 tw_48 tw_670) rfl rfl rfl hdMod_part.2 ⟨Nat.le_of_ble_eq_true rfl, Nat.le_of_ble_eq_true rfl⟩) mk_preS rfl rfl hl.1 rfl (lv_room (Nat.le_of_ble_eq_true rfl)) dMod_carry_24 ⟨Nat.zero_le _, Nat.zero_le _⟩) ?_
  refine va_iald (D := D) (f := ms_x st) hx hb hK hP 3 2 rfl rfl (in_mpart5 _ _) dMod_carry_27 ?_
  refine lv_istore (lv' := [(4, .int (ms_x st ((mf_RiscHartModel_part a1 15 5)).toNatClampNeg)), (3, .int (mf_RiscHartModel_part a1 12 3)), (2, .int (mf_RiscHartModel_part a1 7 5)), (0, .ref m0), (1, .int a1)]) hx hb dMod_carry_28 hl (by decide) rfl (fun ls hl => ?_)
  refine lv_aload_n hx hb dMod_carry_30 rfl (lv_at hl 3 rfl) ?_
  refine va_get (D := D) (ci := 2) (v := .ref m3) (C := RMod) (T := TMod) (N := 14) hx hb hg inMod hown hK hP 0 rfl rfl 3 (by decide) (hg _ tw_560) (fun _ h9 => h9) rfl dMod_carry_31 ?_
  refine lv_iload_n hx hb dMod_carry_34 rfl (lv_at hl 4 rfl) ?_
  refine lv_bipush (v := 20) hx hb dMod_carry_35 (by decide) ?_
  refine lv_iconst (v := 5) hx hb dMod_carry_37 (by decide) ?_
  refine mk_callR (va_runS (As := [.int a1, .int 20, .int 5]) (rest := [.ref m3]) ⟨hx, hb, hml, hown, hts⟩ (mc_RiscHartModel_part l _ a1 20 5) (va_cwS 3 hts (mk_gS tw_668 tw_669 tw_48 tw_670) rfl rfl rfl hdMod_part.2 ⟨Nat.le_of_ble_eq_true rfl, Nat.le_of_ble_eq_true rfl⟩) mk_preS rfl rfl hl.1 rfl (lv_room (Nat.le_of_ble_eq_true rfl)) dMod_carry_38 ⟨Nat.zero_le _, Nat.zero_le _⟩) ?_
  refine va_iald (D := D) (f := ms_x st) hx hb hK hP 3 2 rfl rfl (in_mpart5 _ _) dMod_carry_41 ?_
  refine lv_istore (lv' := [(5, .int (ms_x st ((mf_RiscHartModel_part a1 20 5)).toNatClampNeg)), (4, .int (ms_x st ((mf_RiscHartModel_part a1 15 5)).toNatClampNeg)), (3, .int (mf_RiscHartModel_part a1 12 3)), (2, .int (mf_RiscHartModel_part a1 7 5)), (0, .ref m0), (1, .int a1)]) hx hb dMod_carry_42 hl (by decide) rfl (fun ls hl => ?_)
  refine lv_iload_n hx hb dMod_carry_44 rfl (lv_at hl 5 rfl) ?_
  refine lv_bipush (v := 25) hx hb dMod_carry_45 (by decide) ?_
  refine lv_bipush (v := 7) hx hb dMod_carry_47 (by decide) ?_
  refine mk_callR (va_runS (As := [.int a1, .int 25, .int 7]) (rest := []) ⟨hx, hb, hml, hown, hts⟩ (mc_RiscHartModel_part l _ a1 25 7) (va_cwS 3 hts (mk_gS tw_668 tw_669 tw_48 tw_670) rfl rfl rfl hdMod_part.2 ⟨Nat.le_of_ble_eq_true rfl, Nat.le_of_ble_eq_true rfl⟩) mk_preS rfl rfl hl.1 rfl (lv_room (Nat.le_of_ble_eq_true rfl)) dMod_carry_49 ⟨Nat.zero_le _, Nat.zero_le _⟩) ?_
  refine lv_istore (lv' := [(6, .int (mf_RiscHartModel_part a1 25 7)), (5, .int (ms_x st ((mf_RiscHartModel_part a1 20 5)).toNatClampNeg)), (4, .int (ms_x st ((mf_RiscHartModel_part a1 15 5)).toNatClampNeg)), (3, .int (mf_RiscHartModel_part a1 12 3)), (2, .int (mf_RiscHartModel_part a1 7 5)), (0, .ref m0), (1, .int a1)]) hx hb dMod_carry_52 hl (by decide) rfl (fun ls hl => ?_)
  refine lv_iload_n hx hb dMod_carry_54 rfl (lv_at hl 6 rfl) ?_
  refine lv_bipush (v := 20) hx hb dMod_carry_55 (by decide) ?_
  refine lv_ishr hx hb dMod_carry_57 ?_
  refine lv_istore (lv' := [(7, .int (a1 >>> (20 &&& 31))), (6, .int (mf_RiscHartModel_part a1 25 7)), (5, .int (ms_x st ((mf_RiscHartModel_part a1 20 5)).toNatClampNeg)), (4, .int (ms_x st ((mf_RiscHartModel_part a1 15 5)).toNatClampNeg)), (3, .int (mf_RiscHartModel_part a1 12 3)), (2, .int (mf_RiscHartModel_part a1 7 5)), (0, .ref m0), (1, .int a1)]) hx hb dMod_carry_58 hl (by decide) rfl (fun ls hl => ?_)
  refine lv_iload_n hx hb dMod_carry_60 rfl (lv_at hl 7 rfl) ?_
  refine lv_iconst (v := 0) hx hb dMod_carry_61 (by decide) ?_
  refine lv_bipush (v := 7) hx hb dMod_carry_62 (by decide) ?_
  refine mk_callR (va_runS (As := [.int a1, .int 0, .int 7]) (rest := []) ⟨hx, hb, hml, hown, hts⟩ (mc_RiscHartModel_part l _ a1 0 7) (va_cwS 3 hts (mk_gS tw_668 tw_669 tw_48 tw_670) rfl rfl rfl hdMod_part.2 ⟨Nat.le_of_ble_eq_true rfl, Nat.le_of_ble_eq_true rfl⟩) mk_preS rfl rfl hl.1 rfl (lv_room (Nat.le_of_ble_eq_true rfl)) dMod_carry_64 ⟨Nat.zero_le _, Nat.zero_le _⟩) ?_
  by_cases c_1 : (mf_RiscHartModel_part a1 0 7) = 3
  · refine lv_lookup (off := 248) (tgt := 315) hx hb dMod_carry_67 (by decide) (by rw [c_1]; decide) (by decide) ?_
    refine lv_aload_n hx hb dMod_carry_315 rfl (lv_at hl 6 rfl) ?_
    refine lv_iload_n hx hb dMod_carry_316 rfl (lv_at hl 5 rfl) ?_
    refine lv_aload_n hx hb dMod_carry_317 rfl (lv_at hl 6 rfl) ?_
    refine lv_iload_n hx hb dMod_carry_318 rfl (lv_at hl 4 rfl) ?_
    refine lv_iload hx hb dMod_carry_319 (lv_at hl 3 rfl) ?_
    refine lv_iload hx hb dMod_carry_321 (lv_at hl 0 rfl) ?_
    refine lv_iadd hx hb dMod_carry_323 ?_
    refine mk_callW (va_runV (As := [.int (mf_RiscHartModel_part a1 12 3), .int ((ms_x st ((mf_RiscHartModel_part a1 15 5)).toNatClampNeg) + (a1 >>> (20 &&& 31)))]) (rest := [.int (mf_RiscHartModel_part a1 7 5), .ref m0]) ⟨hx, hb, hml, hown, hts⟩ (mc_RiscHartModel_load l hP hD (mf_RiscHartModel_part a1 12 3) ((ms_x st ((mf_RiscHartModel_part a1 15 5)).toNatClampNeg) + (a1 >>> (20 &&& 31)))) (cwV 2 hts (mk_gV tw_722 tw_724 tw_40 tw_48 tw_725) rfl rfl rfl hdMod_load ⟨Nat.le_of_ble_eq_true rfl, Nat.le_of_ble_eq_true rfl⟩) (mk_preVK hK (va_recv hK hP (ci := 2) (q0 := 0) rfl rfl)) rfl rfl hl.1 rfl (lv_room (Nat.le_of_ble_eq_true rfl)) dMod_carry_324 ⟨Nat.zero_le _, Nat.zero_le _⟩) hS (fun H locs hP hS => ?_)
    refine mk_callWv (va_runV (As := [.int (mf_RiscHartModel_part a1 7 5), .int ((mf_RiscHartModel_load st (mf_RiscHartModel_part a1 12 3) ((ms_x st ((mf_RiscHartModel_part a1 15 5)).toNatClampNeg) + (a1 >>> (20 &&& 31)))).1)]) (rest := []) ⟨hx, hb, hml, hown, hts⟩ (mc_RiscHartModel_give l hP hD (mf_RiscHartModel_part a1 7 5) ((mf_RiscHartModel_load st (mf_RiscHartModel_part a1 12 3) ((ms_x st ((mf_RiscHartModel_part a1 15 5)).toNatClampNeg) + (a1 >>> (20 &&& 31)))).1) (in_mpart5 _ _)) (cwV 2 hts (mk_gV tw_713 tw_715 tw_38 tw_48 tw_716) rfl rfl rfl hdMod_give ⟨Nat.le_of_ble_eq_true rfl, Nat.le_of_ble_eq_true rfl⟩) (mk_preVK hK (va_recv hK hP (ci := 2) (q0 := 0) rfl rfl)) rfl rfl hl.1 rfl (lv_room (Nat.le_of_ble_eq_true rfl)) dMod_carry_327 ⟨Nat.zero_le _, Nat.zero_le _⟩) hS (fun H locs hP hS => ?_)
    refine lv_goto (tgt := 536) hx hb dMod_carry_330 (by decide) ?_
    exact W.vret hx hb hr (fun t ht hW => ⟨⟨(mf_RiscHartModel_give ((mf_RiscHartModel_load st (mf_RiscHartModel_part a1 12 3) ((ms_x st ((mf_RiscHartModel_part a1 15 5)).toNatClampNeg) + (a1 >>> (20 &&& 31)))).2) (mf_RiscHartModel_part a1 7 5) ((mf_RiscHartModel_load st (mf_RiscHartModel_part a1 12 3) ((ms_x st ((mf_RiscHartModel_part a1 15 5)).toNatClampNeg) + (a1 >>> (20 &&& 31)))).1)), rfl, (by unfold mf_RiscHartModel_carry; rw [if_pos c_1]), by show va_P D hcl _ t.heap; rw [ht]; exact hP⟩, hS.F ht⟩) hS.2.2 dMod_carry_536
  by_cases c_2 : (mf_RiscHartModel_part a1 0 7) = 15
  · refine lv_lookup (off := 437) (tgt := 504) hx hb dMod_carry_67 (by decide) (by rw [c_2]; decide) (by decide) ?_
    refine lv_iload_n hx hb dMod_carry_504 rfl (lv_at hl 4 rfl) ?_
    refine lv_iconst (v := 1) hx hb dMod_carry_505 (by decide) ?_
    refine lv_icmp_le (tgt := 536) hx hb dMod_carry_506 (by decide) (fun c_3 => ?_) (fun c_3 => ?_)
    · exact W.vret hx hb hr (fun t ht hW => ⟨⟨st, rfl, (by unfold mf_RiscHartModel_carry; rw [if_neg c_1, if_pos c_2, if_pos c_3]), by show va_P D hcl _ t.heap; rw [ht]; exact hP⟩, hS.F ht⟩) hS.2.2 dMod_carry_536
    · refine lv_aload_n hx hb dMod_carry_509 rfl (lv_at hl 6 rfl) ?_
      refine mk_callW (va_runV (As := []) (rest := []) ⟨hx, hb, hml, hown, hts⟩ (mc_RiscHartModel_illegal l hP hD) (cwV 0 hts (mk_gV tw_705 tw_707 tw_36 tw_48 tw_708) rfl rfl rfl hdMod_illegal ⟨Nat.le_of_ble_eq_true rfl, Nat.le_of_ble_eq_true rfl⟩) (mk_preVK hK (va_recv hK hP (ci := 2) (q0 := 0) rfl rfl)) rfl rfl hl.1 rfl (lv_room (Nat.le_of_ble_eq_true rfl)) dMod_carry_510 ⟨Nat.zero_le _, Nat.zero_le _⟩) hS (fun H locs hP hS => ?_)
      refine lv_pop hx hb dMod_carry_513 rfl ?_
      refine lv_goto (tgt := 536) hx hb dMod_carry_514 (by decide) ?_
      exact W.vret hx hb hr (fun t ht hW => ⟨⟨(mf_RiscHartModel_illegal st).2, rfl, (by unfold mf_RiscHartModel_carry; rw [if_neg c_1, if_pos c_2, if_neg c_3]), by show va_P D hcl _ t.heap; rw [ht]; exact hP⟩, hS.F ht⟩) hS.2.2 dMod_carry_536
  by_cases c_4 : (mf_RiscHartModel_part a1 0 7) = 19
  · refine lv_lookup (off := 286) (tgt := 353) hx hb dMod_carry_67 (by decide) (by rw [c_4]; decide) (by decide) ?_
    refine lv_aload_n hx hb dMod_carry_353 rfl (lv_at hl 6 rfl) ?_
    refine lv_iload_n hx hb dMod_carry_354 rfl (lv_at hl 5 rfl) ?_
    refine lv_iload_n hx hb dMod_carry_355 rfl (lv_at hl 4 rfl) ?_
    refine lv_iconst (v := 1) hx hb dMod_carry_356 (by decide) ?_
    refine lv_icmp_eq (tgt := 365) hx hb dMod_carry_357 (by decide) (fun c_5 => ?_) (fun c_5 => ?_)
    · refine lv_aload_n hx hb dMod_carry_365 rfl (lv_at hl 6 rfl) ?_
      refine lv_iload_n hx hb dMod_carry_366 rfl (lv_at hl 4 rfl) ?_
      refine lv_iload hx hb dMod_carry_367 (lv_at hl 1 rfl) ?_
      refine lv_iload hx hb dMod_carry_369 (lv_at hl 3 rfl) ?_
      refine lv_iload_n hx hb dMod_carry_371 rfl (lv_at hl 7 rfl) ?_
      refine lv_bipush (v := 20) hx hb dMod_carry_372 (by decide) ?_
      refine lv_iconst (v := 5) hx hb dMod_carry_374 (by decide) ?_
      refine mk_callR (va_runS (As := [.int a1, .int 20, .int 5]) (rest := [.int (ms_x st ((mf_RiscHartModel_part a1 15 5)).toNatClampNeg), .int (mf_RiscHartModel_part a1 25 7), .int (mf_RiscHartModel_part a1 12 3), .ref m0, .int (mf_RiscHartModel_part a1 7 5), .ref m0]) ⟨hx, hb, hml, hown, hts⟩ (mc_RiscHartModel_part l _ a1 20 5) (va_cwS 3 hts (mk_gS tw_668 tw_669 tw_48 tw_670) rfl rfl rfl hdMod_part.2 ⟨Nat.le_of_ble_eq_true rfl, Nat.le_of_ble_eq_true rfl⟩) mk_preS rfl rfl hl.1 rfl (lv_room (Nat.le_of_ble_eq_true rfl)) dMod_carry_375 ⟨Nat.zero_le _, Nat.zero_le _⟩) ?_
      refine mk_callW (va_runV (As := [.int (mf_RiscHartModel_part a1 12 3), .int (mf_RiscHartModel_part a1 25 7), .int (ms_x st ((mf_RiscHartModel_part a1 15 5)).toNatClampNeg), .int (mf_RiscHartModel_part a1 20 5)]) (rest := [.int (mf_RiscHartModel_part a1 7 5), .ref m0]) ⟨hx, hb, hml, hown, hts⟩ (mc_RiscHartModel_shifted l hP hD (mf_RiscHartModel_part a1 12 3) (mf_RiscHartModel_part a1 25 7) (ms_x st ((mf_RiscHartModel_part a1 15 5)).toNatClampNeg) (mf_RiscHartModel_part a1 20 5)) (cwV 4 hts (mk_gV tw_730 tw_732 tw_42 tw_48 tw_733) rfl rfl rfl hdMod_shifted ⟨Nat.le_of_ble_eq_true rfl, Nat.le_of_ble_eq_true rfl⟩) (mk_preVK hK (va_recv hK hP (ci := 2) (q0 := 0) rfl rfl)) rfl rfl hl.1 rfl (lv_room (Nat.le_of_ble_eq_true rfl)) dMod_carry_378 ⟨Nat.zero_le _, Nat.zero_le _⟩) hS (fun H locs hP hS => ?_)
      refine lv_goto (tgt := 392) hx hb dMod_carry_381 (by decide) ?_
      refine mk_callWv (va_runV (As := [.int (mf_RiscHartModel_part a1 7 5), .int ((mf_RiscHartModel_shifted st (mf_RiscHartModel_part a1 12 3) (mf_RiscHartModel_part a1 25 7) (ms_x st ((mf_RiscHartModel_part a1 15 5)).toNatClampNeg) (mf_RiscHartModel_part a1 20 5)).1)]) (rest := []) ⟨hx, hb, hml, hown, hts⟩ (mc_RiscHartModel_give l hP hD (mf_RiscHartModel_part a1 7 5) ((mf_RiscHartModel_shifted st (mf_RiscHartModel_part a1 12 3) (mf_RiscHartModel_part a1 25 7) (ms_x st ((mf_RiscHartModel_part a1 15 5)).toNatClampNeg) (mf_RiscHartModel_part a1 20 5)).1) (in_mpart5 _ _)) (cwV 2 hts (mk_gV tw_713 tw_715 tw_38 tw_48 tw_716) rfl rfl rfl hdMod_give ⟨Nat.le_of_ble_eq_true rfl, Nat.le_of_ble_eq_true rfl⟩) (mk_preVK hK (va_recv hK hP (ci := 2) (q0 := 0) rfl rfl)) rfl rfl hl.1 rfl (lv_room (Nat.le_of_ble_eq_true rfl)) dMod_carry_392 ⟨Nat.zero_le _, Nat.zero_le _⟩) hS (fun H locs hP hS => ?_)
      refine lv_goto (tgt := 536) hx hb dMod_carry_395 (by decide) ?_
      exact W.vret hx hb hr (fun t ht hW => ⟨⟨(mf_RiscHartModel_give ((mf_RiscHartModel_shifted st (mf_RiscHartModel_part a1 12 3) (mf_RiscHartModel_part a1 25 7) (ms_x st ((mf_RiscHartModel_part a1 15 5)).toNatClampNeg) (mf_RiscHartModel_part a1 20 5)).2) (mf_RiscHartModel_part a1 7 5) ((mf_RiscHartModel_shifted st (mf_RiscHartModel_part a1 12 3) (mf_RiscHartModel_part a1 25 7) (ms_x st ((mf_RiscHartModel_part a1 15 5)).toNatClampNeg) (mf_RiscHartModel_part a1 20 5)).1)), rfl, (by unfold mf_RiscHartModel_carry; rw [if_neg c_1, if_neg c_2, if_pos c_4, if_pos c_5]), by show va_P D hcl _ t.heap; rw [ht]; exact hP⟩, hS.F ht⟩) hS.2.2 dMod_carry_536
    · refine lv_iload_n hx hb dMod_carry_360 rfl (lv_at hl 4 rfl) ?_
      refine lv_iconst (v := 5) hx hb dMod_carry_361 (by decide) ?_
      refine lv_icmp_ne (tgt := 384) hx hb dMod_carry_362 (by decide) (fun c_6 => ?_) (fun c_6 => ?_)
      · refine lv_iload_n hx hb dMod_carry_384 rfl (lv_at hl 4 rfl) ?_
        refine lv_iload hx hb dMod_carry_385 (lv_at hl 3 rfl) ?_
        refine lv_iload hx hb dMod_carry_387 (lv_at hl 0 rfl) ?_
        refine mk_callR (va_runS (As := [.int (mf_RiscHartModel_part a1 12 3), .int (ms_x st ((mf_RiscHartModel_part a1 15 5)).toNatClampNeg), .int (a1 >>> (20 &&& 31))]) (rest := [.int (mf_RiscHartModel_part a1 7 5), .ref m0]) ⟨hx, hb, hml, hown, hts⟩ (mc_RiscHartModel_reckoned l _ (mf_RiscHartModel_part a1 12 3) (ms_x st ((mf_RiscHartModel_part a1 15 5)).toNatClampNeg) (a1 >>> (20 &&& 31))) (va_cwS 3 hts (mk_gS tw_734 tw_735 tw_48 tw_736) rfl rfl rfl hdMod_reckoned.2 ⟨Nat.le_of_ble_eq_true rfl, Nat.le_of_ble_eq_true rfl⟩) mk_preS rfl rfl hl.1 rfl (lv_room (Nat.le_of_ble_eq_true rfl)) dMod_carry_389 ⟨Nat.zero_le _, Nat.zero_le _⟩) ?_
        refine mk_callWv (va_runV (As := [.int (mf_RiscHartModel_part a1 7 5), .int (mf_RiscHartModel_reckoned (mf_RiscHartModel_part a1 12 3) (ms_x st ((mf_RiscHartModel_part a1 15 5)).toNatClampNeg) (a1 >>> (20 &&& 31)))]) (rest := []) ⟨hx, hb, hml, hown, hts⟩ (mc_RiscHartModel_give l hP hD (mf_RiscHartModel_part a1 7 5) (mf_RiscHartModel_reckoned (mf_RiscHartModel_part a1 12 3) (ms_x st ((mf_RiscHartModel_part a1 15 5)).toNatClampNeg) (a1 >>> (20 &&& 31))) (in_mpart5 _ _)) (cwV 2 hts (mk_gV tw_713 tw_715 tw_38 tw_48 tw_716) rfl rfl rfl hdMod_give ⟨Nat.le_of_ble_eq_true rfl, Nat.le_of_ble_eq_true rfl⟩) (mk_preVK hK (va_recv hK hP (ci := 2) (q0 := 0) rfl rfl)) rfl rfl hl.1 rfl (lv_room (Nat.le_of_ble_eq_true rfl)) dMod_carry_392 ⟨Nat.zero_le _, Nat.zero_le _⟩) hS (fun H locs hP hS => ?_)
        refine lv_goto (tgt := 536) hx hb dMod_carry_395 (by decide) ?_
        exact W.vret hx hb hr (fun t ht hW => ⟨⟨(mf_RiscHartModel_give st (mf_RiscHartModel_part a1 7 5) (mf_RiscHartModel_reckoned (mf_RiscHartModel_part a1 12 3) (ms_x st ((mf_RiscHartModel_part a1 15 5)).toNatClampNeg) (a1 >>> (20 &&& 31)))), rfl, (by unfold mf_RiscHartModel_carry; rw [if_neg c_1, if_neg c_2, if_pos c_4, if_neg c_5, if_neg c_6]), by show va_P D hcl _ t.heap; rw [ht]; exact hP⟩, hS.F ht⟩) hS.2.2 dMod_carry_536
      · refine lv_aload_n hx hb dMod_carry_365 rfl (lv_at hl 6 rfl) ?_
        refine lv_iload_n hx hb dMod_carry_366 rfl (lv_at hl 4 rfl) ?_
        refine lv_iload hx hb dMod_carry_367 (lv_at hl 1 rfl) ?_
        refine lv_iload hx hb dMod_carry_369 (lv_at hl 3 rfl) ?_
        refine lv_iload_n hx hb dMod_carry_371 rfl (lv_at hl 7 rfl) ?_
        refine lv_bipush (v := 20) hx hb dMod_carry_372 (by decide) ?_
        refine lv_iconst (v := 5) hx hb dMod_carry_374 (by decide) ?_
        refine mk_callR (va_runS (As := [.int a1, .int 20, .int 5]) (rest := [.int (ms_x st ((mf_RiscHartModel_part a1 15 5)).toNatClampNeg), .int (mf_RiscHartModel_part a1 25 7), .int (mf_RiscHartModel_part a1 12 3), .ref m0, .int (mf_RiscHartModel_part a1 7 5), .ref m0]) ⟨hx, hb, hml, hown, hts⟩ (mc_RiscHartModel_part l _ a1 20 5) (va_cwS 3 hts (mk_gS tw_668 tw_669 tw_48 tw_670) rfl rfl rfl hdMod_part.2 ⟨Nat.le_of_ble_eq_true rfl, Nat.le_of_ble_eq_true rfl⟩) mk_preS rfl rfl hl.1 rfl (lv_room (Nat.le_of_ble_eq_true rfl)) dMod_carry_375 ⟨Nat.zero_le _, Nat.zero_le _⟩) ?_
        refine mk_callW (va_runV (As := [.int (mf_RiscHartModel_part a1 12 3), .int (mf_RiscHartModel_part a1 25 7), .int (ms_x st ((mf_RiscHartModel_part a1 15 5)).toNatClampNeg), .int (mf_RiscHartModel_part a1 20 5)]) (rest := [.int (mf_RiscHartModel_part a1 7 5), .ref m0]) ⟨hx, hb, hml, hown, hts⟩ (mc_RiscHartModel_shifted l hP hD (mf_RiscHartModel_part a1 12 3) (mf_RiscHartModel_part a1 25 7) (ms_x st ((mf_RiscHartModel_part a1 15 5)).toNatClampNeg) (mf_RiscHartModel_part a1 20 5)) (cwV 4 hts (mk_gV tw_730 tw_732 tw_42 tw_48 tw_733) rfl rfl rfl hdMod_shifted ⟨Nat.le_of_ble_eq_true rfl, Nat.le_of_ble_eq_true rfl⟩) (mk_preVK hK (va_recv hK hP (ci := 2) (q0 := 0) rfl rfl)) rfl rfl hl.1 rfl (lv_room (Nat.le_of_ble_eq_true rfl)) dMod_carry_378 ⟨Nat.zero_le _, Nat.zero_le _⟩) hS (fun H locs hP hS => ?_)
        refine lv_goto (tgt := 392) hx hb dMod_carry_381 (by decide) ?_
        refine mk_callWv (va_runV (As := [.int (mf_RiscHartModel_part a1 7 5), .int ((mf_RiscHartModel_shifted st (mf_RiscHartModel_part a1 12 3) (mf_RiscHartModel_part a1 25 7) (ms_x st ((mf_RiscHartModel_part a1 15 5)).toNatClampNeg) (mf_RiscHartModel_part a1 20 5)).1)]) (rest := []) ⟨hx, hb, hml, hown, hts⟩ (mc_RiscHartModel_give l hP hD (mf_RiscHartModel_part a1 7 5) ((mf_RiscHartModel_shifted st (mf_RiscHartModel_part a1 12 3) (mf_RiscHartModel_part a1 25 7) (ms_x st ((mf_RiscHartModel_part a1 15 5)).toNatClampNeg) (mf_RiscHartModel_part a1 20 5)).1) (in_mpart5 _ _)) (cwV 2 hts (mk_gV tw_713 tw_715 tw_38 tw_48 tw_716) rfl rfl rfl hdMod_give ⟨Nat.le_of_ble_eq_true rfl, Nat.le_of_ble_eq_true rfl⟩) (mk_preVK hK (va_recv hK hP (ci := 2) (q0 := 0) rfl rfl)) rfl rfl hl.1 rfl (lv_room (Nat.le_of_ble_eq_true rfl)) dMod_carry_392 ⟨Nat.zero_le _, Nat.zero_le _⟩) hS (fun H locs hP hS => ?_)
        refine lv_goto (tgt := 536) hx hb dMod_carry_395 (by decide) ?_
        exact W.vret hx hb hr (fun t ht hW => ⟨⟨(mf_RiscHartModel_give ((mf_RiscHartModel_shifted st (mf_RiscHartModel_part a1 12 3) (mf_RiscHartModel_part a1 25 7) (ms_x st ((mf_RiscHartModel_part a1 15 5)).toNatClampNeg) (mf_RiscHartModel_part a1 20 5)).2) (mf_RiscHartModel_part a1 7 5) ((mf_RiscHartModel_shifted st (mf_RiscHartModel_part a1 12 3) (mf_RiscHartModel_part a1 25 7) (ms_x st ((mf_RiscHartModel_part a1 15 5)).toNatClampNeg) (mf_RiscHartModel_part a1 20 5)).1)), rfl, (by unfold mf_RiscHartModel_carry; rw [if_neg c_1, if_neg c_2, if_pos c_4, if_neg c_5, if_pos c_6]), by show va_P D hcl _ t.heap; rw [ht]; exact hP⟩, hS.F ht⟩) hS.2.2 dMod_carry_536
  by_cases c_7 : (mf_RiscHartModel_part a1 0 7) = 23
  · refine lv_lookup (off := 118) (tgt := 185) hx hb dMod_carry_67 (by decide) (by rw [c_7]; decide) (by decide) ?_
    refine lv_aload_n hx hb dMod_carry_185 rfl (lv_at hl 6 rfl) ?_
    refine lv_iload_n hx hb dMod_carry_186 rfl (lv_at hl 5 rfl) ?_
    refine lv_aload_n hx hb dMod_carry_187 rfl (lv_at hl 6 rfl) ?_
    refine va_get (D := D) (ci := 2) (v := .int (ms_place st)) (C := RMod) (T := TMod) (N := 14) hx hb hg inMod hown hK hP 0 rfl rfl 4 (by decide) (hg _ tw_561) (fun _ h9 => h9) rfl dMod_carry_188 ?_
    refine lv_iload_n hx hb dMod_carry_191 rfl (lv_at hl 7 rfl) ?_
    refine lv_sipush (v := (-4096)) hx hb dMod_carry_192 (by decide) ?_
    refine lv_iand hx hb dMod_carry_195 ?_
    refine lv_iadd hx hb dMod_carry_196 ?_
    refine mk_callWv (va_runV (As := [.int (mf_RiscHartModel_part a1 7 5), .int ((ms_place st) + (a1 &&& (-4096)))]) (rest := []) ⟨hx, hb, hml, hown, hts⟩ (mc_RiscHartModel_give l hP hD (mf_RiscHartModel_part a1 7 5) ((ms_place st) + (a1 &&& (-4096))) (in_mpart5 _ _)) (cwV 2 hts (mk_gV tw_713 tw_715 tw_38 tw_48 tw_716) rfl rfl rfl hdMod_give ⟨Nat.le_of_ble_eq_true rfl, Nat.le_of_ble_eq_true rfl⟩) (mk_preVK hK (va_recv hK hP (ci := 2) (q0 := 0) rfl rfl)) rfl rfl hl.1 rfl (lv_room (Nat.le_of_ble_eq_true rfl)) dMod_carry_197 ⟨Nat.zero_le _, Nat.zero_le _⟩) hS (fun H locs hP hS => ?_)
    refine lv_goto (tgt := 536) hx hb dMod_carry_200 (by decide) ?_
    exact W.vret hx hb hr (fun t ht hW => ⟨⟨(mf_RiscHartModel_give st (mf_RiscHartModel_part a1 7 5) ((ms_place st) + (a1 &&& (-4096)))), rfl, (by unfold mf_RiscHartModel_carry; rw [if_neg c_1, if_neg c_2, if_neg c_4, if_pos c_7]), by show va_P D hcl _ t.heap; rw [ht]; exact hP⟩, hS.F ht⟩) hS.2.2 dMod_carry_536
  by_cases c_8 : (mf_RiscHartModel_part a1 0 7) = 35
  · refine lv_lookup (off := 266) (tgt := 333) hx hb dMod_carry_67 (by decide) (by rw [c_8]; decide) (by decide) ?_
    refine lv_aload_n hx hb dMod_carry_333 rfl (lv_at hl 6 rfl) ?_
    refine lv_iload_n hx hb dMod_carry_334 rfl (lv_at hl 4 rfl) ?_
    refine lv_iload hx hb dMod_carry_335 (lv_at hl 3 rfl) ?_
    refine lv_iload hx hb dMod_carry_337 (lv_at hl 0 rfl) ?_
    refine lv_bipush (v := (-32)) hx hb dMod_carry_339 (by decide) ?_
    refine lv_iand hx hb dMod_carry_341 ?_
    refine lv_iload_n hx hb dMod_carry_342 rfl (lv_at hl 5 rfl) ?_
    refine lv_ior hx hb dMod_carry_343 ?_
    refine lv_iadd hx hb dMod_carry_344 ?_
    refine lv_iload hx hb dMod_carry_345 (lv_at hl 2 rfl) ?_
    refine mk_callWv (va_runV (As := [.int (mf_RiscHartModel_part a1 12 3), .int ((ms_x st ((mf_RiscHartModel_part a1 15 5)).toNatClampNeg) + (((a1 >>> (20 &&& 31)) &&& (-32)) ||| (mf_RiscHartModel_part a1 7 5))), .int (ms_x st ((mf_RiscHartModel_part a1 20 5)).toNatClampNeg)]) (rest := []) ⟨hx, hb, hml, hown, hts⟩ (mc_RiscHartModel_put l hP hD (mf_RiscHartModel_part a1 12 3) ((ms_x st ((mf_RiscHartModel_part a1 15 5)).toNatClampNeg) + (((a1 >>> (20 &&& 31)) &&& (-32)) ||| (mf_RiscHartModel_part a1 7 5))) (ms_x st ((mf_RiscHartModel_part a1 20 5)).toNatClampNeg)) (cwV 3 hts (mk_gV tw_726 tw_728 tw_41 tw_48 tw_729) rfl rfl rfl hdMod_put ⟨Nat.le_of_ble_eq_true rfl, Nat.le_of_ble_eq_true rfl⟩) (mk_preVK hK (va_recv hK hP (ci := 2) (q0 := 0) rfl rfl)) rfl rfl hl.1 rfl (lv_room (Nat.le_of_ble_eq_true rfl)) dMod_carry_347 ⟨Nat.zero_le _, Nat.zero_le _⟩) hS (fun H locs hP hS => ?_)
    refine lv_goto (tgt := 536) hx hb dMod_carry_350 (by decide) ?_
    exact W.vret hx hb hr (fun t ht hW => ⟨⟨(mf_RiscHartModel_put st (mf_RiscHartModel_part a1 12 3) ((ms_x st ((mf_RiscHartModel_part a1 15 5)).toNatClampNeg) + (((a1 >>> (20 &&& 31)) &&& (-32)) ||| (mf_RiscHartModel_part a1 7 5))) (ms_x st ((mf_RiscHartModel_part a1 20 5)).toNatClampNeg)), rfl, (by unfold mf_RiscHartModel_carry; rw [if_neg c_1, if_neg c_2, if_neg c_4, if_neg c_7, if_pos c_8]), by show va_P D hcl _ t.heap; rw [ht]; exact hP⟩, hS.F ht⟩) hS.2.2 dMod_carry_536
  by_cases c_9 : (mf_RiscHartModel_part a1 0 7) = 47
  · refine lv_lookup (off := 415) (tgt := 482) hx hb dMod_carry_67 (by decide) (by rw [c_9]; decide) (by decide) ?_
    refine lv_aload_n hx hb dMod_carry_482 rfl (lv_at hl 6 rfl) ?_
    refine lv_iload_n hx hb dMod_carry_483 rfl (lv_at hl 5 rfl) ?_
    refine lv_aload_n hx hb dMod_carry_484 rfl (lv_at hl 6 rfl) ?_
    refine lv_iload_n hx hb dMod_carry_485 rfl (lv_at hl 7 rfl) ?_
    refine lv_iload_n hx hb dMod_carry_486 rfl (lv_at hl 4 rfl) ?_
    refine lv_iload hx hb dMod_carry_487 (lv_at hl 1 rfl) ?_
    refine lv_iconst (v := 2) hx hb dMod_carry_489 (by decide) ?_
    refine lv_ishr hx hb dMod_carry_490 ?_
    refine lv_iload hx hb dMod_carry_491 (lv_at hl 3 rfl) ?_
    refine lv_iload hx hb dMod_carry_493 (lv_at hl 2 rfl) ?_
    refine mk_callW (va_runV (As := [.int a1, .int (mf_RiscHartModel_part a1 12 3), .int ((mf_RiscHartModel_part a1 25 7) >>> (2 &&& 31)), .int (ms_x st ((mf_RiscHartModel_part a1 15 5)).toNatClampNeg), .int (ms_x st ((mf_RiscHartModel_part a1 20 5)).toNatClampNeg)]) (rest := [.int (mf_RiscHartModel_part a1 7 5), .ref m0]) ⟨hx, hb, hml, hown, hts⟩ (mc_RiscHartModel_atomic l hP hD a1 (mf_RiscHartModel_part a1 12 3) ((mf_RiscHartModel_part a1 25 7) >>> (2 &&& 31)) (ms_x st ((mf_RiscHartModel_part a1 15 5)).toNatClampNeg) (ms_x st ((mf_RiscHartModel_part a1 20 5)).toNatClampNeg)) (cwV 5 hts (mk_gV tw_740 tw_742 tw_43 tw_48 tw_743) rfl rfl rfl hdMod_atomic ⟨Nat.le_of_ble_eq_true rfl, Nat.le_of_ble_eq_true rfl⟩) (mk_preVK hK (va_recv hK hP (ci := 2) (q0 := 0) rfl rfl)) rfl rfl hl.1 rfl (lv_room (Nat.le_of_ble_eq_true rfl)) dMod_carry_495 ⟨Nat.zero_le _, Nat.zero_le _⟩) hS (fun H locs hP hS => ?_)
    refine mk_callWv (va_runV (As := [.int (mf_RiscHartModel_part a1 7 5), .int ((mf_RiscHartModel_atomic st a1 (mf_RiscHartModel_part a1 12 3) ((mf_RiscHartModel_part a1 25 7) >>> (2 &&& 31)) (ms_x st ((mf_RiscHartModel_part a1 15 5)).toNatClampNeg) (ms_x st ((mf_RiscHartModel_part a1 20 5)).toNatClampNeg)).1)]) (rest := []) ⟨hx, hb, hml, hown, hts⟩ (mc_RiscHartModel_give l hP hD (mf_RiscHartModel_part a1 7 5) ((mf_RiscHartModel_atomic st a1 (mf_RiscHartModel_part a1 12 3) ((mf_RiscHartModel_part a1 25 7) >>> (2 &&& 31)) (ms_x st ((mf_RiscHartModel_part a1 15 5)).toNatClampNeg) (ms_x st ((mf_RiscHartModel_part a1 20 5)).toNatClampNeg)).1) (in_mpart5 _ _)) (cwV 2 hts (mk_gV tw_713 tw_715 tw_38 tw_48 tw_716) rfl rfl rfl hdMod_give ⟨Nat.le_of_ble_eq_true rfl, Nat.le_of_ble_eq_true rfl⟩) (mk_preVK hK (va_recv hK hP (ci := 2) (q0 := 0) rfl rfl)) rfl rfl hl.1 rfl (lv_room (Nat.le_of_ble_eq_true rfl)) dMod_carry_498 ⟨Nat.zero_le _, Nat.zero_le _⟩) hS (fun H locs hP hS => ?_)
    refine lv_goto (tgt := 536) hx hb dMod_carry_501 (by decide) ?_
    exact W.vret hx hb hr (fun t ht hW => ⟨⟨(mf_RiscHartModel_give ((mf_RiscHartModel_atomic st a1 (mf_RiscHartModel_part a1 12 3) ((mf_RiscHartModel_part a1 25 7) >>> (2 &&& 31)) (ms_x st ((mf_RiscHartModel_part a1 15 5)).toNatClampNeg) (ms_x st ((mf_RiscHartModel_part a1 20 5)).toNatClampNeg)).2) (mf_RiscHartModel_part a1 7 5) ((mf_RiscHartModel_atomic st a1 (mf_RiscHartModel_part a1 12 3) ((mf_RiscHartModel_part a1 25 7) >>> (2 &&& 31)) (ms_x st ((mf_RiscHartModel_part a1 15 5)).toNatClampNeg) (ms_x st ((mf_RiscHartModel_part a1 20 5)).toNatClampNeg)).1)), rfl, (by unfold mf_RiscHartModel_carry; rw [if_neg c_1, if_neg c_2, if_neg c_4, if_neg c_7, if_neg c_8, if_pos c_9]), by show va_P D hcl _ t.heap; rw [ht]; exact hP⟩, hS.F ht⟩) hS.2.2 dMod_carry_536
  by_cases c_10 : (mf_RiscHartModel_part a1 0 7) = 51
  · refine lv_lookup (off := 331) (tgt := 398) hx hb dMod_carry_67 (by decide) (by rw [c_10]; decide) (by decide) ?_
    refine lv_aload_n hx hb dMod_carry_398 rfl (lv_at hl 6 rfl) ?_
    refine lv_iload_n hx hb dMod_carry_399 rfl (lv_at hl 5 rfl) ?_
    refine lv_iload hx hb dMod_carry_400 (lv_at hl 1 rfl) ?_
    refine lv_iconst (v := 1) hx hb dMod_carry_402 (by decide) ?_
    refine lv_icmp_ne (tgt := 417) hx hb dMod_carry_403 (by decide) (fun c_11 => ?_) (fun c_11 => ?_)
    · refine lv_iload hx hb dMod_carry_417 (lv_at hl 1 rfl) ?_
      refine lv_if_ne (tgt := 443) hx hb dMod_carry_419 (by decide) (fun c_12 => ?_) (fun c_12 => ?_)
      · refine lv_iload hx hb dMod_carry_443 (lv_at hl 1 rfl) ?_
        refine lv_bipush (v := 32) hx hb dMod_carry_445 (by decide) ?_
        refine lv_icmp_ne (tgt := 462) hx hb dMod_carry_447 (by decide) (fun c_13 => ?_) (fun c_13 => ?_)
        · refine lv_aload_n hx hb dMod_carry_462 rfl (lv_at hl 6 rfl) ?_
          refine lv_iload_n hx hb dMod_carry_463 rfl (lv_at hl 4 rfl) ?_
          refine lv_iload hx hb dMod_carry_464 (lv_at hl 1 rfl) ?_
          refine lv_iload hx hb dMod_carry_466 (lv_at hl 3 rfl) ?_
          refine lv_iload hx hb dMod_carry_468 (lv_at hl 2 rfl) ?_
          refine lv_bipush (v := 31) hx hb dMod_carry_470 (by decide) ?_
          refine lv_iand hx hb dMod_carry_472 ?_
          refine mk_callW (va_runV (As := [.int (mf_RiscHartModel_part a1 12 3), .int (mf_RiscHartModel_part a1 25 7), .int (ms_x st ((mf_RiscHartModel_part a1 15 5)).toNatClampNeg), .int ((ms_x st ((mf_RiscHartModel_part a1 20 5)).toNatClampNeg) &&& 31)]) (rest := [.int (mf_RiscHartModel_part a1 7 5), .ref m0]) ⟨hx, hb, hml, hown, hts⟩ (mc_RiscHartModel_shifted l hP hD (mf_RiscHartModel_part a1 12 3) (mf_RiscHartModel_part a1 25 7) (ms_x st ((mf_RiscHartModel_part a1 15 5)).toNatClampNeg) ((ms_x st ((mf_RiscHartModel_part a1 20 5)).toNatClampNeg) &&& 31)) (cwV 4 hts (mk_gV tw_730 tw_732 tw_42 tw_48 tw_733) rfl rfl rfl hdMod_shifted ⟨Nat.le_of_ble_eq_true rfl, Nat.le_of_ble_eq_true rfl⟩) (mk_preVK hK (va_recv hK hP (ci := 2) (q0 := 0) rfl rfl)) rfl rfl hl.1 rfl (lv_room (Nat.le_of_ble_eq_true rfl)) dMod_carry_473 ⟨Nat.zero_le _, Nat.zero_le _⟩) hS (fun H locs hP hS => ?_)
          refine mk_callWv (va_runV (As := [.int (mf_RiscHartModel_part a1 7 5), .int ((mf_RiscHartModel_shifted st (mf_RiscHartModel_part a1 12 3) (mf_RiscHartModel_part a1 25 7) (ms_x st ((mf_RiscHartModel_part a1 15 5)).toNatClampNeg) ((ms_x st ((mf_RiscHartModel_part a1 20 5)).toNatClampNeg) &&& 31)).1)]) (rest := []) ⟨hx, hb, hml, hown, hts⟩ (mc_RiscHartModel_give l hP hD (mf_RiscHartModel_part a1 7 5) ((mf_RiscHartModel_shifted st (mf_RiscHartModel_part a1 12 3) (mf_RiscHartModel_part a1 25 7) (ms_x st ((mf_RiscHartModel_part a1 15 5)).toNatClampNeg) ((ms_x st ((mf_RiscHartModel_part a1 20 5)).toNatClampNeg) &&& 31)).1) (in_mpart5 _ _)) (cwV 2 hts (mk_gV tw_713 tw_715 tw_38 tw_48 tw_716) rfl rfl rfl hdMod_give ⟨Nat.le_of_ble_eq_true rfl, Nat.le_of_ble_eq_true rfl⟩) (mk_preVK hK (va_recv hK hP (ci := 2) (q0 := 0) rfl rfl)) rfl rfl hl.1 rfl (lv_room (Nat.le_of_ble_eq_true rfl)) dMod_carry_476 ⟨Nat.zero_le _, Nat.zero_le _⟩) hS (fun H locs hP hS => ?_)
          refine lv_goto (tgt := 536) hx hb dMod_carry_479 (by decide) ?_
          exact W.vret hx hb hr (fun t ht hW => ⟨⟨(mf_RiscHartModel_give ((mf_RiscHartModel_shifted st (mf_RiscHartModel_part a1 12 3) (mf_RiscHartModel_part a1 25 7) (ms_x st ((mf_RiscHartModel_part a1 15 5)).toNatClampNeg) ((ms_x st ((mf_RiscHartModel_part a1 20 5)).toNatClampNeg) &&& 31)).2) (mf_RiscHartModel_part a1 7 5) ((mf_RiscHartModel_shifted st (mf_RiscHartModel_part a1 12 3) (mf_RiscHartModel_part a1 25 7) (ms_x st ((mf_RiscHartModel_part a1 15 5)).toNatClampNeg) ((ms_x st ((mf_RiscHartModel_part a1 20 5)).toNatClampNeg) &&& 31)).1)), rfl, (by unfold mf_RiscHartModel_carry; rw [if_neg c_1, if_neg c_2, if_neg c_4, if_neg c_7, if_neg c_8, if_neg c_9, if_pos c_10, if_neg c_11, if_neg c_12, if_neg c_13]), by show va_P D hcl _ t.heap; rw [ht]; exact hP⟩, hS.F ht⟩) hS.2.2 dMod_carry_536
        · refine lv_iload_n hx hb dMod_carry_450 rfl (lv_at hl 4 rfl) ?_
          refine lv_if_ne (tgt := 462) hx hb dMod_carry_451 (by decide) (fun c_14 => ?_) (fun c_14 => ?_)
          · refine lv_aload_n hx hb dMod_carry_462 rfl (lv_at hl 6 rfl) ?_
            refine lv_iload_n hx hb dMod_carry_463 rfl (lv_at hl 4 rfl) ?_
            refine lv_iload hx hb dMod_carry_464 (lv_at hl 1 rfl) ?_
            refine lv_iload hx hb dMod_carry_466 (lv_at hl 3 rfl) ?_
            refine lv_iload hx hb dMod_carry_468 (lv_at hl 2 rfl) ?_
            refine lv_bipush (v := 31) hx hb dMod_carry_470 (by decide) ?_
            refine lv_iand hx hb dMod_carry_472 ?_
            refine mk_callW (va_runV (As := [.int (mf_RiscHartModel_part a1 12 3), .int (mf_RiscHartModel_part a1 25 7), .int (ms_x st ((mf_RiscHartModel_part a1 15 5)).toNatClampNeg), .int ((ms_x st ((mf_RiscHartModel_part a1 20 5)).toNatClampNeg) &&& 31)]) (rest := [.int (mf_RiscHartModel_part a1 7 5), .ref m0]) ⟨hx, hb, hml, hown, hts⟩ (mc_RiscHartModel_shifted l hP hD (mf_RiscHartModel_part a1 12 3) (mf_RiscHartModel_part a1 25 7) (ms_x st ((mf_RiscHartModel_part a1 15 5)).toNatClampNeg) ((ms_x st ((mf_RiscHartModel_part a1 20 5)).toNatClampNeg) &&& 31)) (cwV 4 hts (mk_gV tw_730 tw_732 tw_42 tw_48 tw_733) rfl rfl rfl hdMod_shifted ⟨Nat.le_of_ble_eq_true rfl, Nat.le_of_ble_eq_true rfl⟩) (mk_preVK hK (va_recv hK hP (ci := 2) (q0 := 0) rfl rfl)) rfl rfl hl.1 rfl (lv_room (Nat.le_of_ble_eq_true rfl)) dMod_carry_473 ⟨Nat.zero_le _, Nat.zero_le _⟩) hS (fun H locs hP hS => ?_)
            refine mk_callWv (va_runV (As := [.int (mf_RiscHartModel_part a1 7 5), .int ((mf_RiscHartModel_shifted st (mf_RiscHartModel_part a1 12 3) (mf_RiscHartModel_part a1 25 7) (ms_x st ((mf_RiscHartModel_part a1 15 5)).toNatClampNeg) ((ms_x st ((mf_RiscHartModel_part a1 20 5)).toNatClampNeg) &&& 31)).1)]) (rest := []) ⟨hx, hb, hml, hown, hts⟩ (mc_RiscHartModel_give l hP hD (mf_RiscHartModel_part a1 7 5) ((mf_RiscHartModel_shifted st (mf_RiscHartModel_part a1 12 3) (mf_RiscHartModel_part a1 25 7) (ms_x st ((mf_RiscHartModel_part a1 15 5)).toNatClampNeg) ((ms_x st ((mf_RiscHartModel_part a1 20 5)).toNatClampNeg) &&& 31)).1) (in_mpart5 _ _)) (cwV 2 hts (mk_gV tw_713 tw_715 tw_38 tw_48 tw_716) rfl rfl rfl hdMod_give ⟨Nat.le_of_ble_eq_true rfl, Nat.le_of_ble_eq_true rfl⟩) (mk_preVK hK (va_recv hK hP (ci := 2) (q0 := 0) rfl rfl)) rfl rfl hl.1 rfl (lv_room (Nat.le_of_ble_eq_true rfl)) dMod_carry_476 ⟨Nat.zero_le _, Nat.zero_le _⟩) hS (fun H locs hP hS => ?_)
            refine lv_goto (tgt := 536) hx hb dMod_carry_479 (by decide) ?_
            exact W.vret hx hb hr (fun t ht hW => ⟨⟨(mf_RiscHartModel_give ((mf_RiscHartModel_shifted st (mf_RiscHartModel_part a1 12 3) (mf_RiscHartModel_part a1 25 7) (ms_x st ((mf_RiscHartModel_part a1 15 5)).toNatClampNeg) ((ms_x st ((mf_RiscHartModel_part a1 20 5)).toNatClampNeg) &&& 31)).2) (mf_RiscHartModel_part a1 7 5) ((mf_RiscHartModel_shifted st (mf_RiscHartModel_part a1 12 3) (mf_RiscHartModel_part a1 25 7) (ms_x st ((mf_RiscHartModel_part a1 15 5)).toNatClampNeg) ((ms_x st ((mf_RiscHartModel_part a1 20 5)).toNatClampNeg) &&& 31)).1)), rfl, (by unfold mf_RiscHartModel_carry; rw [if_neg c_1, if_neg c_2, if_neg c_4, if_neg c_7, if_neg c_8, if_neg c_9, if_pos c_10, if_neg c_11, if_neg c_12, if_pos c_13, if_neg c_14]), by show va_P D hcl _ t.heap; rw [ht]; exact hP⟩, hS.F ht⟩) hS.2.2 dMod_carry_536
          · refine lv_iload hx hb dMod_carry_454 (lv_at hl 3 rfl) ?_
            refine lv_iload hx hb dMod_carry_456 (lv_at hl 2 rfl) ?_
            refine lv_isub hx hb dMod_carry_458 ?_
            refine lv_goto (tgt := 476) hx hb dMod_carry_459 (by decide) ?_
            refine mk_callWv (va_runV (As := [.int (mf_RiscHartModel_part a1 7 5), .int ((ms_x st ((mf_RiscHartModel_part a1 15 5)).toNatClampNeg) - (ms_x st ((mf_RiscHartModel_part a1 20 5)).toNatClampNeg))]) (rest := []) ⟨hx, hb, hml, hown, hts⟩ (mc_RiscHartModel_give l hP hD (mf_RiscHartModel_part a1 7 5) ((ms_x st ((mf_RiscHartModel_part a1 15 5)).toNatClampNeg) - (ms_x st ((mf_RiscHartModel_part a1 20 5)).toNatClampNeg)) (in_mpart5 _ _)) (cwV 2 hts (mk_gV tw_713 tw_715 tw_38 tw_48 tw_716) rfl rfl rfl hdMod_give ⟨Nat.le_of_ble_eq_true rfl, Nat.le_of_ble_eq_true rfl⟩) (mk_preVK hK (va_recv hK hP (ci := 2) (q0 := 0) rfl rfl)) rfl rfl hl.1 rfl (lv_room (Nat.le_of_ble_eq_true rfl)) dMod_carry_476 ⟨Nat.zero_le _, Nat.zero_le _⟩) hS (fun H locs hP hS => ?_)
            refine lv_goto (tgt := 536) hx hb dMod_carry_479 (by decide) ?_
            exact W.vret hx hb hr (fun t ht hW => ⟨⟨(mf_RiscHartModel_give st (mf_RiscHartModel_part a1 7 5) ((ms_x st ((mf_RiscHartModel_part a1 15 5)).toNatClampNeg) - (ms_x st ((mf_RiscHartModel_part a1 20 5)).toNatClampNeg))), rfl, (by unfold mf_RiscHartModel_carry; rw [if_neg c_1, if_neg c_2, if_neg c_4, if_neg c_7, if_neg c_8, if_neg c_9, if_pos c_10, if_neg c_11, if_neg c_12, if_pos c_13, if_pos c_14]), by show va_P D hcl _ t.heap; rw [ht]; exact hP⟩, hS.F ht⟩) hS.2.2 dMod_carry_536
      · refine lv_iload_n hx hb dMod_carry_422 rfl (lv_at hl 4 rfl) ?_
        refine lv_iconst (v := 1) hx hb dMod_carry_423 (by decide) ?_
        refine lv_icmp_eq (tgt := 443) hx hb dMod_carry_424 (by decide) (fun c_15 => ?_) (fun c_15 => ?_)
        · refine lv_iload hx hb dMod_carry_443 (lv_at hl 1 rfl) ?_
          refine lv_bipush (v := 32) hx hb dMod_carry_445 (by decide) ?_
          refine lv_icmp_ne (tgt := 462) hx hb dMod_carry_447 (by decide) (fun c_16 => ?_) (fun c_16 => ?_)
          · refine lv_aload_n hx hb dMod_carry_462 rfl (lv_at hl 6 rfl) ?_
            refine lv_iload_n hx hb dMod_carry_463 rfl (lv_at hl 4 rfl) ?_
            refine lv_iload hx hb dMod_carry_464 (lv_at hl 1 rfl) ?_
            refine lv_iload hx hb dMod_carry_466 (lv_at hl 3 rfl) ?_
            refine lv_iload hx hb dMod_carry_468 (lv_at hl 2 rfl) ?_
            refine lv_bipush (v := 31) hx hb dMod_carry_470 (by decide) ?_
            refine lv_iand hx hb dMod_carry_472 ?_
            refine mk_callW (va_runV (As := [.int (mf_RiscHartModel_part a1 12 3), .int (mf_RiscHartModel_part a1 25 7), .int (ms_x st ((mf_RiscHartModel_part a1 15 5)).toNatClampNeg), .int ((ms_x st ((mf_RiscHartModel_part a1 20 5)).toNatClampNeg) &&& 31)]) (rest := [.int (mf_RiscHartModel_part a1 7 5), .ref m0]) ⟨hx, hb, hml, hown, hts⟩ (mc_RiscHartModel_shifted l hP hD (mf_RiscHartModel_part a1 12 3) (mf_RiscHartModel_part a1 25 7) (ms_x st ((mf_RiscHartModel_part a1 15 5)).toNatClampNeg) ((ms_x st ((mf_RiscHartModel_part a1 20 5)).toNatClampNeg) &&& 31)) (cwV 4 hts (mk_gV tw_730 tw_732 tw_42 tw_48 tw_733) rfl rfl rfl hdMod_shifted ⟨Nat.le_of_ble_eq_true rfl, Nat.le_of_ble_eq_true rfl⟩) (mk_preVK hK (va_recv hK hP (ci := 2) (q0 := 0) rfl rfl)) rfl rfl hl.1 rfl (lv_room (Nat.le_of_ble_eq_true rfl)) dMod_carry_473 ⟨Nat.zero_le _, Nat.zero_le _⟩) hS (fun H locs hP hS => ?_)
            refine mk_callWv (va_runV (As := [.int (mf_RiscHartModel_part a1 7 5), .int ((mf_RiscHartModel_shifted st (mf_RiscHartModel_part a1 12 3) (mf_RiscHartModel_part a1 25 7) (ms_x st ((mf_RiscHartModel_part a1 15 5)).toNatClampNeg) ((ms_x st ((mf_RiscHartModel_part a1 20 5)).toNatClampNeg) &&& 31)).1)]) (rest := []) ⟨hx, hb, hml, hown, hts⟩ (mc_RiscHartModel_give l hP hD (mf_RiscHartModel_part a1 7 5) ((mf_RiscHartModel_shifted st (mf_RiscHartModel_part a1 12 3) (mf_RiscHartModel_part a1 25 7) (ms_x st ((mf_RiscHartModel_part a1 15 5)).toNatClampNeg) ((ms_x st ((mf_RiscHartModel_part a1 20 5)).toNatClampNeg) &&& 31)).1) (in_mpart5 _ _)) (cwV 2 hts (mk_gV tw_713 tw_715 tw_38 tw_48 tw_716) rfl rfl rfl hdMod_give ⟨Nat.le_of_ble_eq_true rfl, Nat.le_of_ble_eq_true rfl⟩) (mk_preVK hK (va_recv hK hP (ci := 2) (q0 := 0) rfl rfl)) rfl rfl hl.1 rfl (lv_room (Nat.le_of_ble_eq_true rfl)) dMod_carry_476 ⟨Nat.zero_le _, Nat.zero_le _⟩) hS (fun H locs hP hS => ?_)
            refine lv_goto (tgt := 536) hx hb dMod_carry_479 (by decide) ?_
            exact W.vret hx hb hr (fun t ht hW => ⟨⟨(mf_RiscHartModel_give ((mf_RiscHartModel_shifted st (mf_RiscHartModel_part a1 12 3) (mf_RiscHartModel_part a1 25 7) (ms_x st ((mf_RiscHartModel_part a1 15 5)).toNatClampNeg) ((ms_x st ((mf_RiscHartModel_part a1 20 5)).toNatClampNeg) &&& 31)).2) (mf_RiscHartModel_part a1 7 5) ((mf_RiscHartModel_shifted st (mf_RiscHartModel_part a1 12 3) (mf_RiscHartModel_part a1 25 7) (ms_x st ((mf_RiscHartModel_part a1 15 5)).toNatClampNeg) ((ms_x st ((mf_RiscHartModel_part a1 20 5)).toNatClampNeg) &&& 31)).1)), rfl, (by unfold mf_RiscHartModel_carry; rw [if_neg c_1, if_neg c_2, if_neg c_4, if_neg c_7, if_neg c_8, if_neg c_9, if_pos c_10, if_neg c_11, if_pos c_12, if_pos c_15]), by show va_P D hcl _ t.heap; rw [ht]; exact hP⟩, hS.F ht⟩) hS.2.2 dMod_carry_536
          · exact absurd (c_12.symm.trans c_16) (by decide)
        · refine lv_iload_n hx hb dMod_carry_427 rfl (lv_at hl 4 rfl) ?_
          refine lv_iconst (v := 5) hx hb dMod_carry_428 (by decide) ?_
          refine lv_icmp_eq (tgt := 443) hx hb dMod_carry_429 (by decide) (fun c_17 => ?_) (fun c_17 => ?_)
          · refine lv_iload hx hb dMod_carry_443 (lv_at hl 1 rfl) ?_
            refine lv_bipush (v := 32) hx hb dMod_carry_445 (by decide) ?_
            refine lv_icmp_ne (tgt := 462) hx hb dMod_carry_447 (by decide) (fun c_18 => ?_) (fun c_18 => ?_)
            · refine lv_aload_n hx hb dMod_carry_462 rfl (lv_at hl 6 rfl) ?_
              refine lv_iload_n hx hb dMod_carry_463 rfl (lv_at hl 4 rfl) ?_
              refine lv_iload hx hb dMod_carry_464 (lv_at hl 1 rfl) ?_
              refine lv_iload hx hb dMod_carry_466 (lv_at hl 3 rfl) ?_
              refine lv_iload hx hb dMod_carry_468 (lv_at hl 2 rfl) ?_
              refine lv_bipush (v := 31) hx hb dMod_carry_470 (by decide) ?_
              refine lv_iand hx hb dMod_carry_472 ?_
              refine mk_callW (va_runV (As := [.int (mf_RiscHartModel_part a1 12 3), .int (mf_RiscHartModel_part a1 25 7), .int (ms_x st ((mf_RiscHartModel_part a1 15 5)).toNatClampNeg), .int ((ms_x st ((mf_RiscHartModel_part a1 20 5)).toNatClampNeg) &&& 31)]) (rest := [.int (mf_RiscHartModel_part a1 7 5), .ref m0]) ⟨hx, hb, hml, hown, hts⟩ (mc_RiscHartModel_shifted l hP hD (mf_RiscHartModel_part a1 12 3) (mf_RiscHartModel_part a1 25 7) (ms_x st ((mf_RiscHartModel_part a1 15 5)).toNatClampNeg) ((ms_x st ((mf_RiscHartModel_part a1 20 5)).toNatClampNeg) &&& 31)) (cwV 4 hts (mk_gV tw_730 tw_732 tw_42 tw_48 tw_733) rfl rfl rfl hdMod_shifted ⟨Nat.le_of_ble_eq_true rfl, Nat.le_of_ble_eq_true rfl⟩) (mk_preVK hK (va_recv hK hP (ci := 2) (q0 := 0) rfl rfl)) rfl rfl hl.1 rfl (lv_room (Nat.le_of_ble_eq_true rfl)) dMod_carry_473 ⟨Nat.zero_le _, Nat.zero_le _⟩) hS (fun H locs hP hS => ?_)
              refine mk_callWv (va_runV (As := [.int (mf_RiscHartModel_part a1 7 5), .int ((mf_RiscHartModel_shifted st (mf_RiscHartModel_part a1 12 3) (mf_RiscHartModel_part a1 25 7) (ms_x st ((mf_RiscHartModel_part a1 15 5)).toNatClampNeg) ((ms_x st ((mf_RiscHartModel_part a1 20 5)).toNatClampNeg) &&& 31)).1)]) (rest := []) ⟨hx, hb, hml, hown, hts⟩ (mc_RiscHartModel_give l hP hD (mf_RiscHartModel_part a1 7 5) ((mf_RiscHartModel_shifted st (mf_RiscHartModel_part a1 12 3) (mf_RiscHartModel_part a1 25 7) (ms_x st ((mf_RiscHartModel_part a1 15 5)).toNatClampNeg) ((ms_x st ((mf_RiscHartModel_part a1 20 5)).toNatClampNeg) &&& 31)).1) (in_mpart5 _ _)) (cwV 2 hts (mk_gV tw_713 tw_715 tw_38 tw_48 tw_716) rfl rfl rfl hdMod_give ⟨Nat.le_of_ble_eq_true rfl, Nat.le_of_ble_eq_true rfl⟩) (mk_preVK hK (va_recv hK hP (ci := 2) (q0 := 0) rfl rfl)) rfl rfl hl.1 rfl (lv_room (Nat.le_of_ble_eq_true rfl)) dMod_carry_476 ⟨Nat.zero_le _, Nat.zero_le _⟩) hS (fun H locs hP hS => ?_)
              refine lv_goto (tgt := 536) hx hb dMod_carry_479 (by decide) ?_
              exact W.vret hx hb hr (fun t ht hW => ⟨⟨(mf_RiscHartModel_give ((mf_RiscHartModel_shifted st (mf_RiscHartModel_part a1 12 3) (mf_RiscHartModel_part a1 25 7) (ms_x st ((mf_RiscHartModel_part a1 15 5)).toNatClampNeg) ((ms_x st ((mf_RiscHartModel_part a1 20 5)).toNatClampNeg) &&& 31)).2) (mf_RiscHartModel_part a1 7 5) ((mf_RiscHartModel_shifted st (mf_RiscHartModel_part a1 12 3) (mf_RiscHartModel_part a1 25 7) (ms_x st ((mf_RiscHartModel_part a1 15 5)).toNatClampNeg) ((ms_x st ((mf_RiscHartModel_part a1 20 5)).toNatClampNeg) &&& 31)).1)), rfl, (by unfold mf_RiscHartModel_carry; rw [if_neg c_1, if_neg c_2, if_neg c_4, if_neg c_7, if_neg c_8, if_neg c_9, if_pos c_10, if_neg c_11, if_pos c_12, if_neg c_15, if_pos c_17]), by show va_P D hcl _ t.heap; rw [ht]; exact hP⟩, hS.F ht⟩) hS.2.2 dMod_carry_536
            · exact absurd (c_12.symm.trans c_18) (by decide)
          · refine lv_iload_n hx hb dMod_carry_432 rfl (lv_at hl 4 rfl) ?_
            refine lv_iload hx hb dMod_carry_433 (lv_at hl 3 rfl) ?_
            refine lv_iload hx hb dMod_carry_435 (lv_at hl 2 rfl) ?_
            refine mk_callR (va_runS (As := [.int (mf_RiscHartModel_part a1 12 3), .int (ms_x st ((mf_RiscHartModel_part a1 15 5)).toNatClampNeg), .int (ms_x st ((mf_RiscHartModel_part a1 20 5)).toNatClampNeg)]) (rest := [.int (mf_RiscHartModel_part a1 7 5), .ref m0]) ⟨hx, hb, hml, hown, hts⟩ (mc_RiscHartModel_reckoned l _ (mf_RiscHartModel_part a1 12 3) (ms_x st ((mf_RiscHartModel_part a1 15 5)).toNatClampNeg) (ms_x st ((mf_RiscHartModel_part a1 20 5)).toNatClampNeg)) (va_cwS 3 hts (mk_gS tw_734 tw_735 tw_48 tw_736) rfl rfl rfl hdMod_reckoned.2 ⟨Nat.le_of_ble_eq_true rfl, Nat.le_of_ble_eq_true rfl⟩) mk_preS rfl rfl hl.1 rfl (lv_room (Nat.le_of_ble_eq_true rfl)) dMod_carry_437 ⟨Nat.zero_le _, Nat.zero_le _⟩) ?_
            refine lv_goto (tgt := 476) hx hb dMod_carry_440 (by decide) ?_
            refine mk_callWv (va_runV (As := [.int (mf_RiscHartModel_part a1 7 5), .int (mf_RiscHartModel_reckoned (mf_RiscHartModel_part a1 12 3) (ms_x st ((mf_RiscHartModel_part a1 15 5)).toNatClampNeg) (ms_x st ((mf_RiscHartModel_part a1 20 5)).toNatClampNeg))]) (rest := []) ⟨hx, hb, hml, hown, hts⟩ (mc_RiscHartModel_give l hP hD (mf_RiscHartModel_part a1 7 5) (mf_RiscHartModel_reckoned (mf_RiscHartModel_part a1 12 3) (ms_x st ((mf_RiscHartModel_part a1 15 5)).toNatClampNeg) (ms_x st ((mf_RiscHartModel_part a1 20 5)).toNatClampNeg)) (in_mpart5 _ _)) (cwV 2 hts (mk_gV tw_713 tw_715 tw_38 tw_48 tw_716) rfl rfl rfl hdMod_give ⟨Nat.le_of_ble_eq_true rfl, Nat.le_of_ble_eq_true rfl⟩) (mk_preVK hK (va_recv hK hP (ci := 2) (q0 := 0) rfl rfl)) rfl rfl hl.1 rfl (lv_room (Nat.le_of_ble_eq_true rfl)) dMod_carry_476 ⟨Nat.zero_le _, Nat.zero_le _⟩) hS (fun H locs hP hS => ?_)
            refine lv_goto (tgt := 536) hx hb dMod_carry_479 (by decide) ?_
            exact W.vret hx hb hr (fun t ht hW => ⟨⟨(mf_RiscHartModel_give st (mf_RiscHartModel_part a1 7 5) (mf_RiscHartModel_reckoned (mf_RiscHartModel_part a1 12 3) (ms_x st ((mf_RiscHartModel_part a1 15 5)).toNatClampNeg) (ms_x st ((mf_RiscHartModel_part a1 20 5)).toNatClampNeg))), rfl, (by unfold mf_RiscHartModel_carry; rw [if_neg c_1, if_neg c_2, if_neg c_4, if_neg c_7, if_neg c_8, if_neg c_9, if_pos c_10, if_neg c_11, if_pos c_12, if_neg c_15, if_neg c_17]), by show va_P D hcl _ t.heap; rw [ht]; exact hP⟩, hS.F ht⟩) hS.2.2 dMod_carry_536
    · refine lv_iload_n hx hb dMod_carry_406 rfl (lv_at hl 4 rfl) ?_
      refine lv_iload hx hb dMod_carry_407 (lv_at hl 3 rfl) ?_
      refine lv_iload hx hb dMod_carry_409 (lv_at hl 2 rfl) ?_
      refine mk_callR (va_runS (As := [.int (mf_RiscHartModel_part a1 12 3), .int (ms_x st ((mf_RiscHartModel_part a1 15 5)).toNatClampNeg), .int (ms_x st ((mf_RiscHartModel_part a1 20 5)).toNatClampNeg)]) (rest := [.int (mf_RiscHartModel_part a1 7 5), .ref m0]) ⟨hx, hb, hml, hown, hts⟩ (mc_RiscHartModel_multiplied l _ (mf_RiscHartModel_part a1 12 3) (ms_x st ((mf_RiscHartModel_part a1 15 5)).toNatClampNeg) (ms_x st ((mf_RiscHartModel_part a1 20 5)).toNatClampNeg)) (va_cwS 3 hts (mk_gS tw_737 tw_738 tw_48 tw_739) rfl rfl rfl hdMod_multiplied.2 ⟨Nat.le_of_ble_eq_true rfl, Nat.le_of_ble_eq_true rfl⟩) mk_preS rfl rfl hl.1 rfl (lv_room (Nat.le_of_ble_eq_true rfl)) dMod_carry_411 ⟨Nat.zero_le _, Nat.zero_le _⟩) ?_
      refine lv_goto (tgt := 476) hx hb dMod_carry_414 (by decide) ?_
      refine mk_callWv (va_runV (As := [.int (mf_RiscHartModel_part a1 7 5), .int (mf_RiscHartModel_multiplied (mf_RiscHartModel_part a1 12 3) (ms_x st ((mf_RiscHartModel_part a1 15 5)).toNatClampNeg) (ms_x st ((mf_RiscHartModel_part a1 20 5)).toNatClampNeg))]) (rest := []) ⟨hx, hb, hml, hown, hts⟩ (mc_RiscHartModel_give l hP hD (mf_RiscHartModel_part a1 7 5) (mf_RiscHartModel_multiplied (mf_RiscHartModel_part a1 12 3) (ms_x st ((mf_RiscHartModel_part a1 15 5)).toNatClampNeg) (ms_x st ((mf_RiscHartModel_part a1 20 5)).toNatClampNeg)) (in_mpart5 _ _)) (cwV 2 hts (mk_gV tw_713 tw_715 tw_38 tw_48 tw_716) rfl rfl rfl hdMod_give ⟨Nat.le_of_ble_eq_true rfl, Nat.le_of_ble_eq_true rfl⟩) (mk_preVK hK (va_recv hK hP (ci := 2) (q0 := 0) rfl rfl)) rfl rfl hl.1 rfl (lv_room (Nat.le_of_ble_eq_true rfl)) dMod_carry_476 ⟨Nat.zero_le _, Nat.zero_le _⟩) hS (fun H locs hP hS => ?_)
      refine lv_goto (tgt := 536) hx hb dMod_carry_479 (by decide) ?_
      exact W.vret hx hb hr (fun t ht hW => ⟨⟨(mf_RiscHartModel_give st (mf_RiscHartModel_part a1 7 5) (mf_RiscHartModel_multiplied (mf_RiscHartModel_part a1 12 3) (ms_x st ((mf_RiscHartModel_part a1 15 5)).toNatClampNeg) (ms_x st ((mf_RiscHartModel_part a1 20 5)).toNatClampNeg))), rfl, (by unfold mf_RiscHartModel_carry; rw [if_neg c_1, if_neg c_2, if_neg c_4, if_neg c_7, if_neg c_8, if_neg c_9, if_pos c_10, if_pos c_11]), by show va_P D hcl _ t.heap; rw [ht]; exact hP⟩, hS.F ht⟩) hS.2.2 dMod_carry_536
  by_cases c_19 : (mf_RiscHartModel_part a1 0 7) = 55
  · refine lv_lookup (off := 105) (tgt := 172) hx hb dMod_carry_67 (by decide) (by rw [c_19]; decide) (by decide) ?_
    refine lv_aload_n hx hb dMod_carry_172 rfl (lv_at hl 6 rfl) ?_
    refine lv_iload_n hx hb dMod_carry_173 rfl (lv_at hl 5 rfl) ?_
    refine lv_iload_n hx hb dMod_carry_174 rfl (lv_at hl 7 rfl) ?_
    refine lv_sipush (v := (-4096)) hx hb dMod_carry_175 (by decide) ?_
    refine lv_iand hx hb dMod_carry_178 ?_
    refine mk_callWv (va_runV (As := [.int (mf_RiscHartModel_part a1 7 5), .int (a1 &&& (-4096))]) (rest := []) ⟨hx, hb, hml, hown, hts⟩ (mc_RiscHartModel_give l hP hD (mf_RiscHartModel_part a1 7 5) (a1 &&& (-4096)) (in_mpart5 _ _)) (cwV 2 hts (mk_gV tw_713 tw_715 tw_38 tw_48 tw_716) rfl rfl rfl hdMod_give ⟨Nat.le_of_ble_eq_true rfl, Nat.le_of_ble_eq_true rfl⟩) (mk_preVK hK (va_recv hK hP (ci := 2) (q0 := 0) rfl rfl)) rfl rfl hl.1 rfl (lv_room (Nat.le_of_ble_eq_true rfl)) dMod_carry_179 ⟨Nat.zero_le _, Nat.zero_le _⟩) hS (fun H locs hP hS => ?_)
    refine lv_goto (tgt := 536) hx hb dMod_carry_182 (by decide) ?_
    exact W.vret hx hb hr (fun t ht hW => ⟨⟨(mf_RiscHartModel_give st (mf_RiscHartModel_part a1 7 5) (a1 &&& (-4096))), rfl, (by unfold mf_RiscHartModel_carry; rw [if_neg c_1, if_neg c_2, if_neg c_4, if_neg c_7, if_neg c_8, if_neg c_9, if_neg c_10, if_pos c_19]), by show va_P D hcl _ t.heap; rw [ht]; exact hP⟩, hS.F ht⟩) hS.2.2 dMod_carry_536
  by_cases c_20 : (mf_RiscHartModel_part a1 0 7) = 99
  · refine lv_lookup (off := 235) (tgt := 302) hx hb dMod_carry_67 (by decide) (by rw [c_20]; decide) (by decide) ?_
    refine lv_aload_n hx hb dMod_carry_302 rfl (lv_at hl 6 rfl) ?_
    refine lv_iload_n hx hb dMod_carry_303 rfl (lv_at hl 7 rfl) ?_
    refine lv_iload_n hx hb dMod_carry_304 rfl (lv_at hl 4 rfl) ?_
    refine lv_iload hx hb dMod_carry_305 (lv_at hl 3 rfl) ?_
    refine lv_iload hx hb dMod_carry_307 (lv_at hl 2 rfl) ?_
    refine mk_callWv (va_runV (As := [.int a1, .int (mf_RiscHartModel_part a1 12 3), .int (ms_x st ((mf_RiscHartModel_part a1 15 5)).toNatClampNeg), .int (ms_x st ((mf_RiscHartModel_part a1 20 5)).toNatClampNeg)]) (rest := []) ⟨hx, hb, hml, hown, hts⟩ (mc_RiscHartModel_decide l hP hD a1 (mf_RiscHartModel_part a1 12 3) (ms_x st ((mf_RiscHartModel_part a1 15 5)).toNatClampNeg) (ms_x st ((mf_RiscHartModel_part a1 20 5)).toNatClampNeg)) (cwV 4 hts (mk_gV tw_717 tw_719 tw_39 tw_48 tw_720) rfl rfl rfl hdMod_decide ⟨Nat.le_of_ble_eq_true rfl, Nat.le_of_ble_eq_true rfl⟩) (mk_preVK hK (va_recv hK hP (ci := 2) (q0 := 0) rfl rfl)) rfl rfl hl.1 rfl (lv_room (Nat.le_of_ble_eq_true rfl)) dMod_carry_309 ⟨Nat.zero_le _, Nat.zero_le _⟩) hS (fun H locs hP hS => ?_)
    refine lv_goto (tgt := 536) hx hb dMod_carry_312 (by decide) ?_
    exact W.vret hx hb hr (fun t ht hW => ⟨⟨(mf_RiscHartModel_decide st a1 (mf_RiscHartModel_part a1 12 3) (ms_x st ((mf_RiscHartModel_part a1 15 5)).toNatClampNeg) (ms_x st ((mf_RiscHartModel_part a1 20 5)).toNatClampNeg)), rfl, (by unfold mf_RiscHartModel_carry; rw [if_neg c_1, if_neg c_2, if_neg c_4, if_neg c_7, if_neg c_8, if_neg c_9, if_neg c_10, if_neg c_19, if_pos c_20]), by show va_P D hcl _ t.heap; rw [ht]; exact hP⟩, hS.F ht⟩) hS.2.2 dMod_carry_536
  by_cases c_21 : (mf_RiscHartModel_part a1 0 7) = 103
  · refine lv_lookup (off := 202) (tgt := 269) hx hb dMod_carry_67 (by decide) (by rw [c_21]; decide) (by decide) ?_
    refine lv_iload_n hx hb dMod_carry_269 rfl (lv_at hl 4 rfl) ?_
    refine lv_if_eq (tgt := 278) hx hb dMod_carry_270 (by decide) (fun c_22 => ?_) (fun c_22 => ?_)
    · refine lv_aload_n hx hb dMod_carry_278 rfl (lv_at hl 6 rfl) ?_
      refine lv_iload_n hx hb dMod_carry_279 rfl (lv_at hl 5 rfl) ?_
      refine lv_aload_n hx hb dMod_carry_280 rfl (lv_at hl 6 rfl) ?_
      refine va_get (D := D) (ci := 2) (v := .int (ms_next st)) (C := RMod) (T := TMod) (N := 14) hx hb hg inMod hown hK hP 0 rfl rfl 12 (by decide) (hg _ tw_569) (fun _ h9 => h9) rfl dMod_carry_281 ?_
      refine mk_callWv (va_runV (As := [.int (mf_RiscHartModel_part a1 7 5), .int (ms_next st)]) (rest := []) ⟨hx, hb, hml, hown, hts⟩ (mc_RiscHartModel_give l hP hD (mf_RiscHartModel_part a1 7 5) (ms_next st) (in_mpart5 _ _)) (cwV 2 hts (mk_gV tw_713 tw_715 tw_38 tw_48 tw_716) rfl rfl rfl hdMod_give ⟨Nat.le_of_ble_eq_true rfl, Nat.le_of_ble_eq_true rfl⟩) (mk_preVK hK (va_recv hK hP (ci := 2) (q0 := 0) rfl rfl)) rfl rfl hl.1 rfl (lv_room (Nat.le_of_ble_eq_true rfl)) dMod_carry_284 ⟨Nat.zero_le _, Nat.zero_le _⟩) hS (fun H locs hP hS => ?_)
      refine lv_aload_n hx hb dMod_carry_287 rfl (lv_at hl 6 rfl) ?_
      refine lv_iload hx hb dMod_carry_288 (lv_at hl 3 rfl) ?_
      refine lv_iload hx hb dMod_carry_290 (lv_at hl 0 rfl) ?_
      refine lv_iadd hx hb dMod_carry_292 ?_
      refine lv_bipush (v := (-2)) hx hb dMod_carry_293 (by decide) ?_
      refine lv_iand hx hb dMod_carry_295 ?_
      refine lv_topi (fun y_23 ey_23 => ?_)
      obtain ⟨z_24, ez_24⟩ : ∃ z, z = (mf_RiscHartModel_give st (mf_RiscHartModel_part a1 7 5) (ms_next st)) := ⟨_, rfl⟩
      rw [← ez_24] at hP
      refine va_put (D := D) (ci := 2) (v := .int y_23) (ty := .int) (C := RMod) (T := TMod) (N := 14) hx hb hg inMod tyMod tyMod_ok nmMod hown hK hP (hD _) hS 0 rfl rfl 12 (by decide) (hg _ tw_569) (fun _ h9 => h9) rfl (by decide +kernel) rfl rfl (Nat.le_of_ble_eq_true rfl) dMod_carry_296 (fun H locs hP _ hS => ?_)
      have hP : va_P D hcl (ms_W cB cO cX m0 m1 m2 m3 (ms_set_next z_24 y_23)) H := hP
      subst ey_23
      subst ez_24
      refine lv_goto (tgt := 536) hx hb dMod_carry_299 (by decide) ?_
      exact W.vret hx hb hr (fun t ht hW => ⟨⟨(ms_set_next (mf_RiscHartModel_give st (mf_RiscHartModel_part a1 7 5) (ms_next st)) (((ms_x st ((mf_RiscHartModel_part a1 15 5)).toNatClampNeg) + (a1 >>> (20 &&& 31))) &&& (-2))), rfl, (by unfold mf_RiscHartModel_carry; rw [if_neg c_1, if_neg c_2, if_neg c_4, if_neg c_7, if_neg c_8, if_neg c_9, if_neg c_10, if_neg c_19, if_neg c_20, if_pos c_21, if_pos c_22]), by show va_P D hcl _ t.heap; rw [ht]; exact hP⟩, hS.F ht⟩) hS.2.2 dMod_carry_536
    · refine lv_aload_n hx hb dMod_carry_273 rfl (lv_at hl 6 rfl) ?_
      refine mk_callW (va_runV (As := []) (rest := []) ⟨hx, hb, hml, hown, hts⟩ (mc_RiscHartModel_illegal l hP hD) (cwV 0 hts (mk_gV tw_705 tw_707 tw_36 tw_48 tw_708) rfl rfl rfl hdMod_illegal ⟨Nat.le_of_ble_eq_true rfl, Nat.le_of_ble_eq_true rfl⟩) (mk_preVK hK (va_recv hK hP (ci := 2) (q0 := 0) rfl rfl)) rfl rfl hl.1 rfl (lv_room (Nat.le_of_ble_eq_true rfl)) dMod_carry_274 ⟨Nat.zero_le _, Nat.zero_le _⟩) hS (fun H locs hP hS => ?_)
      refine lv_pop hx hb dMod_carry_277 rfl ?_
      refine lv_aload_n hx hb dMod_carry_278 rfl (lv_at hl 6 rfl) ?_
      refine lv_iload_n hx hb dMod_carry_279 rfl (lv_at hl 5 rfl) ?_
      refine lv_aload_n hx hb dMod_carry_280 rfl (lv_at hl 6 rfl) ?_
      refine va_get (D := D) (ci := 2) (v := .int (ms_next ((mf_RiscHartModel_illegal st).2))) (C := RMod) (T := TMod) (N := 14) hx hb hg inMod hown hK hP 0 rfl rfl 12 (by decide) (hg _ tw_569) (fun _ h9 => h9) rfl dMod_carry_281 ?_
      refine mk_callWv (va_runV (As := [.int (mf_RiscHartModel_part a1 7 5), .int (ms_next ((mf_RiscHartModel_illegal st).2))]) (rest := []) ⟨hx, hb, hml, hown, hts⟩ (mc_RiscHartModel_give l hP hD (mf_RiscHartModel_part a1 7 5) (ms_next ((mf_RiscHartModel_illegal st).2)) (in_mpart5 _ _)) (cwV 2 hts (mk_gV tw_713 tw_715 tw_38 tw_48 tw_716) rfl rfl rfl hdMod_give ⟨Nat.le_of_ble_eq_true rfl, Nat.le_of_ble_eq_true rfl⟩) (mk_preVK hK (va_recv hK hP (ci := 2) (q0 := 0) rfl rfl)) rfl rfl hl.1 rfl (lv_room (Nat.le_of_ble_eq_true rfl)) dMod_carry_284 ⟨Nat.zero_le _, Nat.zero_le _⟩) hS (fun H locs hP hS => ?_)
      refine lv_aload_n hx hb dMod_carry_287 rfl (lv_at hl 6 rfl) ?_
      refine lv_iload hx hb dMod_carry_288 (lv_at hl 3 rfl) ?_
      refine lv_iload hx hb dMod_carry_290 (lv_at hl 0 rfl) ?_
      refine lv_iadd hx hb dMod_carry_292 ?_
      refine lv_bipush (v := (-2)) hx hb dMod_carry_293 (by decide) ?_
      refine lv_iand hx hb dMod_carry_295 ?_
      refine lv_topi (fun y_25 ey_25 => ?_)
      obtain ⟨z_26, ez_26⟩ : ∃ z, z = (mf_RiscHartModel_give ((mf_RiscHartModel_illegal st).2) (mf_RiscHartModel_part a1 7 5) (ms_next ((mf_RiscHartModel_illegal st).2))) := ⟨_, rfl⟩
      rw [← ez_26] at hP
      refine va_put (D := D) (ci := 2) (v := .int y_25) (ty := .int) (C := RMod) (T := TMod) (N := 14) hx hb hg inMod tyMod tyMod_ok nmMod hown hK hP (hD _) hS 0 rfl rfl 12 (by decide) (hg _ tw_569) (fun _ h9 => h9) rfl (by decide +kernel) rfl rfl (Nat.le_of_ble_eq_true rfl) dMod_carry_296 (fun H locs hP _ hS => ?_)
      have hP : va_P D hcl (ms_W cB cO cX m0 m1 m2 m3 (ms_set_next z_26 y_25)) H := hP
      subst ey_25
      subst ez_26
      refine lv_goto (tgt := 536) hx hb dMod_carry_299 (by decide) ?_
      exact W.vret hx hb hr (fun t ht hW => ⟨⟨(ms_set_next (mf_RiscHartModel_give ((mf_RiscHartModel_illegal st).2) (mf_RiscHartModel_part a1 7 5) (ms_next ((mf_RiscHartModel_illegal st).2))) (((ms_x st ((mf_RiscHartModel_part a1 15 5)).toNatClampNeg) + (a1 >>> (20 &&& 31))) &&& (-2))), rfl, (by unfold mf_RiscHartModel_carry; rw [if_neg c_1, if_neg c_2, if_neg c_4, if_neg c_7, if_neg c_8, if_neg c_9, if_neg c_10, if_neg c_19, if_neg c_20, if_pos c_21, if_neg c_22]), by show va_P D hcl _ t.heap; rw [ht]; exact hP⟩, hS.F ht⟩) hS.2.2 dMod_carry_536
  by_cases c_27 : (mf_RiscHartModel_part a1 0 7) = 111
  · refine lv_lookup (off := 136) (tgt := 203) hx hb dMod_carry_67 (by decide) (by rw [c_27]; decide) (by decide) ?_
    refine lv_aload_n hx hb dMod_carry_203 rfl (lv_at hl 6 rfl) ?_
    refine lv_iload_n hx hb dMod_carry_204 rfl (lv_at hl 5 rfl) ?_
    refine lv_aload_n hx hb dMod_carry_205 rfl (lv_at hl 6 rfl) ?_
    refine va_get (D := D) (ci := 2) (v := .int (ms_next st)) (C := RMod) (T := TMod) (N := 14) hx hb hg inMod hown hK hP 0 rfl rfl 12 (by decide) (hg _ tw_569) (fun _ h9 => h9) rfl dMod_carry_206 ?_
    refine mk_callWv (va_runV (As := [.int (mf_RiscHartModel_part a1 7 5), .int (ms_next st)]) (rest := []) ⟨hx, hb, hml, hown, hts⟩ (mc_RiscHartModel_give l hP hD (mf_RiscHartModel_part a1 7 5) (ms_next st) (in_mpart5 _ _)) (cwV 2 hts (mk_gV tw_713 tw_715 tw_38 tw_48 tw_716) rfl rfl rfl hdMod_give ⟨Nat.le_of_ble_eq_true rfl, Nat.le_of_ble_eq_true rfl⟩) (mk_preVK hK (va_recv hK hP (ci := 2) (q0 := 0) rfl rfl)) rfl rfl hl.1 rfl (lv_room (Nat.le_of_ble_eq_true rfl)) dMod_carry_209 ⟨Nat.zero_le _, Nat.zero_le _⟩) hS (fun H locs hP hS => ?_)
    refine lv_aload_n hx hb dMod_carry_212 rfl (lv_at hl 6 rfl) ?_
    refine lv_aload_n hx hb dMod_carry_213 rfl (lv_at hl 6 rfl) ?_
    refine va_get (D := D) (ci := 2) (v := .int (ms_place (mf_RiscHartModel_give st (mf_RiscHartModel_part a1 7 5) (ms_next st)))) (C := RMod) (T := TMod) (N := 14) hx hb hg inMod hown hK hP 0 rfl rfl 4 (by decide) (hg _ tw_561) (fun _ h9 => h9) rfl dMod_carry_214 ?_
    refine lv_iload_n hx hb dMod_carry_217 rfl (lv_at hl 7 rfl) ?_
    refine lv_bipush (v := 31) hx hb dMod_carry_218 (by decide) ?_
    refine lv_iconst (v := 1) hx hb dMod_carry_220 (by decide) ?_
    refine lv_bipush (v := 20) hx hb dMod_carry_221 (by decide) ?_
    refine mk_callR (va_runS (As := [.int a1, .int 31, .int 1, .int 20]) (rest := [.int (ms_place (mf_RiscHartModel_give st (mf_RiscHartModel_part a1 7 5) (ms_next st))), .ref m0]) ⟨hx, hb, hml, hown, hts⟩ (mc_RiscHartModel_bit l _ a1 31 1 20) (va_cwS 4 hts (mk_gS tw_674 tw_675 tw_48 tw_676) rfl rfl rfl hdMod_bit.2 ⟨Nat.le_of_ble_eq_true rfl, Nat.le_of_ble_eq_true rfl⟩) mk_preS rfl rfl hl.1 rfl (lv_room (Nat.le_of_ble_eq_true rfl)) dMod_carry_223 ⟨Nat.zero_le _, Nat.zero_le _⟩) ?_
    refine lv_iload_n hx hb dMod_carry_226 rfl (lv_at hl 7 rfl) ?_
    refine lv_bipush (v := 12) hx hb dMod_carry_227 (by decide) ?_
    refine lv_bipush (v := 8) hx hb dMod_carry_229 (by decide) ?_
    refine lv_bipush (v := 12) hx hb dMod_carry_231 (by decide) ?_
    refine mk_callR (va_runS (As := [.int a1, .int 12, .int 8, .int 12]) (rest := [.int (mf_RiscHartModel_bit a1 31 1 20), .int (ms_place (mf_RiscHartModel_give st (mf_RiscHartModel_part a1 7 5) (ms_next st))), .ref m0]) ⟨hx, hb, hml, hown, hts⟩ (mc_RiscHartModel_bit l _ a1 12 8 12) (va_cwS 4 hts (mk_gS tw_674 tw_675 tw_48 tw_676) rfl rfl rfl hdMod_bit.2 ⟨Nat.le_of_ble_eq_true rfl, Nat.le_of_ble_eq_true rfl⟩) mk_preS rfl rfl hl.1 rfl (lv_room (Nat.le_of_ble_eq_true rfl)) dMod_carry_233 ⟨Nat.zero_le _, Nat.zero_le _⟩) ?_
    refine lv_ior hx hb dMod_carry_236 ?_
    refine lv_iload_n hx hb dMod_carry_237 rfl (lv_at hl 7 rfl) ?_
    refine lv_bipush (v := 20) hx hb dMod_carry_238 (by decide) ?_
    refine lv_iconst (v := 1) hx hb dMod_carry_240 (by decide) ?_
    refine lv_bipush (v := 11) hx hb dMod_carry_241 (by decide) ?_
    refine mk_callR (va_runS (As := [.int a1, .int 20, .int 1, .int 11]) (rest := [.int ((mf_RiscHartModel_bit a1 31 1 20) ||| (mf_RiscHartModel_bit a1 12 8 12)), .int (ms_place (mf_RiscHartModel_give st (mf_RiscHartModel_part a1 7 5) (ms_next st))), .ref m0]) ⟨hx, hb, hml, hown, hts⟩ (mc_RiscHartModel_bit l _ a1 20 1 11) (va_cwS 4 hts (mk_gS tw_674 tw_675 tw_48 tw_676) rfl rfl rfl hdMod_bit.2 ⟨Nat.le_of_ble_eq_true rfl, Nat.le_of_ble_eq_true rfl⟩) mk_preS rfl rfl hl.1 rfl (lv_room (Nat.le_of_ble_eq_true rfl)) dMod_carry_243 ⟨Nat.zero_le _, Nat.zero_le _⟩) ?_
    refine lv_ior hx hb dMod_carry_246 ?_
    refine lv_iload_n hx hb dMod_carry_247 rfl (lv_at hl 7 rfl) ?_
    refine lv_bipush (v := 21) hx hb dMod_carry_248 (by decide) ?_
    refine lv_bipush (v := 10) hx hb dMod_carry_250 (by decide) ?_
    refine lv_iconst (v := 1) hx hb dMod_carry_252 (by decide) ?_
    refine mk_callR (va_runS (As := [.int a1, .int 21, .int 10, .int 1]) (rest := [.int (((mf_RiscHartModel_bit a1 31 1 20) ||| (mf_RiscHartModel_bit a1 12 8 12)) ||| (mf_RiscHartModel_bit a1 20 1 11)), .int (ms_place (mf_RiscHartModel_give st (mf_RiscHartModel_part a1 7 5) (ms_next st))), .ref m0]) ⟨hx, hb, hml, hown, hts⟩ (mc_RiscHartModel_bit l _ a1 21 10 1) (va_cwS 4 hts (mk_gS tw_674 tw_675 tw_48 tw_676) rfl rfl rfl hdMod_bit.2 ⟨Nat.le_of_ble_eq_true rfl, Nat.le_of_ble_eq_true rfl⟩) mk_preS rfl rfl hl.1 rfl (lv_room (Nat.le_of_ble_eq_true rfl)) dMod_carry_253 ⟨Nat.zero_le _, Nat.zero_le _⟩) ?_
    refine lv_ior hx hb dMod_carry_256 ?_
    refine lv_bipush (v := 21) hx hb dMod_carry_257 (by decide) ?_
    refine mk_callR (va_runS (As := [.int ((((mf_RiscHartModel_bit a1 31 1 20) ||| (mf_RiscHartModel_bit a1 12 8 12)) ||| (mf_RiscHartModel_bit a1 20 1 11)) ||| (mf_RiscHartModel_bit a1 21 10 1)), .int 21]) (rest := [.int (ms_place (mf_RiscHartModel_give st (mf_RiscHartModel_part a1 7 5) (ms_next st))), .ref m0]) ⟨hx, hb, hml, hown, hts⟩ (mc_RiscHartModel_signed l _ ((((mf_RiscHartModel_bit a1 31 1 20) ||| (mf_RiscHartModel_bit a1 12 8 12)) ||| (mf_RiscHartModel_bit a1 20 1 11)) ||| (mf_RiscHartModel_bit a1 21 10 1)) 21) (va_cwS 2 hts (mk_gS tw_686 tw_687 tw_48 tw_688) rfl rfl rfl hdMod_signed.2 ⟨Nat.le_of_ble_eq_true rfl, Nat.le_of_ble_eq_true rfl⟩) mk_preS rfl rfl hl.1 rfl (lv_room (Nat.le_of_ble_eq_true rfl)) dMod_carry_259 ⟨Nat.zero_le _, Nat.zero_le _⟩) ?_
    refine lv_iadd hx hb dMod_carry_262 ?_
    refine lv_topi (fun y_28 ey_28 => ?_)
    obtain ⟨z_29, ez_29⟩ : ∃ z, z = (mf_RiscHartModel_give st (mf_RiscHartModel_part a1 7 5) (ms_next st)) := ⟨_, rfl⟩
    rw [← ez_29] at hP
    refine va_put (D := D) (ci := 2) (v := .int y_28) (ty := .int) (C := RMod) (T := TMod) (N := 14) hx hb hg inMod tyMod tyMod_ok nmMod hown hK hP (hD _) hS 0 rfl rfl 12 (by decide) (hg _ tw_569) (fun _ h9 => h9) rfl (by decide +kernel) rfl rfl (Nat.le_of_ble_eq_true rfl) dMod_carry_263 (fun H locs hP _ hS => ?_)
    have hP : va_P D hcl (ms_W cB cO cX m0 m1 m2 m3 (ms_set_next z_29 y_28)) H := hP
    subst ey_28
    subst ez_29
    refine lv_goto (tgt := 536) hx hb dMod_carry_266 (by decide) ?_
    exact W.vret hx hb hr (fun t ht hW => ⟨⟨(ms_set_next (mf_RiscHartModel_give st (mf_RiscHartModel_part a1 7 5) (ms_next st)) ((ms_place (mf_RiscHartModel_give st (mf_RiscHartModel_part a1 7 5) (ms_next st))) + (mf_RiscHartModel_signed ((((mf_RiscHartModel_bit a1 31 1 20) ||| (mf_RiscHartModel_bit a1 12 8 12)) ||| (mf_RiscHartModel_bit a1 20 1 11)) ||| (mf_RiscHartModel_bit a1 21 10 1)) 21))), rfl, (by unfold mf_RiscHartModel_carry; rw [if_neg c_1, if_neg c_2, if_neg c_4, if_neg c_7, if_neg c_8, if_neg c_9, if_neg c_10, if_neg c_19, if_neg c_20, if_neg c_21, if_pos c_27]), by show va_P D hcl _ t.heap; rw [ht]; exact hP⟩, hS.F ht⟩) hS.2.2 dMod_carry_536
  by_cases c_30 : (mf_RiscHartModel_part a1 0 7) = 115
  · refine lv_lookup (off := 450) (tgt := 517) hx hb dMod_carry_67 (by decide) (by rw [c_30]; decide) (by decide) ?_
    refine lv_aload_n hx hb dMod_carry_517 rfl (lv_at hl 6 rfl) ?_
    refine lv_iload_n hx hb dMod_carry_518 rfl (lv_at hl 5 rfl) ?_
    refine lv_aload_n hx hb dMod_carry_519 rfl (lv_at hl 6 rfl) ?_
    refine lv_iload_n hx hb dMod_carry_520 rfl (lv_at hl 7 rfl) ?_
    refine lv_iload_n hx hb dMod_carry_521 rfl (lv_at hl 4 rfl) ?_
    refine mk_callW (va_runV (As := [.int a1, .int (mf_RiscHartModel_part a1 12 3)]) (rest := [.int (mf_RiscHartModel_part a1 7 5), .ref m0]) ⟨hx, hb, hml, hown, hts⟩ (mc_RiscHartModel_system l hP hD a1 (mf_RiscHartModel_part a1 12 3)) (cwV 2 hts (mk_gV tw_747 tw_749 tw_44 tw_48 tw_750) rfl rfl rfl hdMod_system ⟨Nat.le_of_ble_eq_true rfl, Nat.le_of_ble_eq_true rfl⟩) (mk_preVK hK (va_recv hK hP (ci := 2) (q0 := 0) rfl rfl)) rfl rfl hl.1 rfl (lv_room (Nat.le_of_ble_eq_true rfl)) dMod_carry_522 ⟨Nat.zero_le _, Nat.zero_le _⟩) hS (fun H locs hP hS => ?_)
    refine mk_callWv (va_runV (As := [.int (mf_RiscHartModel_part a1 7 5), .int ((mf_RiscHartModel_system st a1 (mf_RiscHartModel_part a1 12 3)).1)]) (rest := []) ⟨hx, hb, hml, hown, hts⟩ (mc_RiscHartModel_give l hP hD (mf_RiscHartModel_part a1 7 5) ((mf_RiscHartModel_system st a1 (mf_RiscHartModel_part a1 12 3)).1) (in_mpart5 _ _)) (cwV 2 hts (mk_gV tw_713 tw_715 tw_38 tw_48 tw_716) rfl rfl rfl hdMod_give ⟨Nat.le_of_ble_eq_true rfl, Nat.le_of_ble_eq_true rfl⟩) (mk_preVK hK (va_recv hK hP (ci := 2) (q0 := 0) rfl rfl)) rfl rfl hl.1 rfl (lv_room (Nat.le_of_ble_eq_true rfl)) dMod_carry_525 ⟨Nat.zero_le _, Nat.zero_le _⟩) hS (fun H locs hP hS => ?_)
    refine lv_goto (tgt := 536) hx hb dMod_carry_528 (by decide) ?_
    exact W.vret hx hb hr (fun t ht hW => ⟨⟨(mf_RiscHartModel_give ((mf_RiscHartModel_system st a1 (mf_RiscHartModel_part a1 12 3)).2) (mf_RiscHartModel_part a1 7 5) ((mf_RiscHartModel_system st a1 (mf_RiscHartModel_part a1 12 3)).1)), rfl, (by unfold mf_RiscHartModel_carry; rw [if_neg c_1, if_neg c_2, if_neg c_4, if_neg c_7, if_neg c_8, if_neg c_9, if_neg c_10, if_neg c_19, if_neg c_20, if_neg c_21, if_neg c_27, if_pos c_30]), by show va_P D hcl _ t.heap; rw [ht]; exact hP⟩, hS.F ht⟩) hS.2.2 dMod_carry_536
  refine lv_lookup (off := 464) (tgt := 531) hx hb dMod_carry_67 (by decide) ((lv_osw (a := 3) c_1 rfl).trans ((lv_osw (a := 15) c_2 rfl).trans ((lv_osw (a := 19) c_4 rfl).trans ((lv_osw (a := 23) c_7 rfl).trans ((lv_osw (a := 35) c_8 rfl).trans ((lv_osw (a := 47) c_9 rfl).trans ((lv_osw (a := 51) c_10 rfl).trans ((lv_osw (a := 55) c_19 rfl).trans ((lv_osw (a := 99) c_20 rfl).trans ((lv_osw (a := 103) c_21 rfl).trans ((lv_osw (a := 111) c_27 rfl).trans ((lv_osw (a := 115) c_30 rfl).trans (rfl))))))))))))) (by decide) ?_
  refine lv_aload_n hx hb dMod_carry_531 rfl (lv_at hl 6 rfl) ?_
  refine mk_callW (va_runV (As := []) (rest := []) ⟨hx, hb, hml, hown, hts⟩ (mc_RiscHartModel_illegal l hP hD) (cwV 0 hts (mk_gV tw_705 tw_707 tw_36 tw_48 tw_708) rfl rfl rfl hdMod_illegal ⟨Nat.le_of_ble_eq_true rfl, Nat.le_of_ble_eq_true rfl⟩) (mk_preVK hK (va_recv hK hP (ci := 2) (q0 := 0) rfl rfl)) rfl rfl hl.1 rfl (lv_room (Nat.le_of_ble_eq_true rfl)) dMod_carry_532 ⟨Nat.zero_le _, Nat.zero_le _⟩) hS (fun H locs hP hS => ?_)
  refine lv_pop hx hb dMod_carry_535 rfl ?_
  exact W.vret hx hb hr (fun t ht hW => ⟨⟨(mf_RiscHartModel_illegal st).2, rfl, (by unfold mf_RiscHartModel_carry; rw [if_neg c_1, if_neg c_2, if_neg c_4, if_neg c_7, if_neg c_8, if_neg c_9, if_neg c_10, if_neg c_19, if_neg c_20, if_neg c_21, if_neg c_27, if_neg c_30]), by show va_P D hcl _ t.heap; rw [ht]; exact hP⟩, hS.F ht⟩) hS.2.2 dMod_carry_536
