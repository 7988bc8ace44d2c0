set_option maxHeartbeats 4000000 in
set_option maxRecDepth 100000 in
theorem mc_RiscHartModel_four (l : Launch) (G : Heap) (a1 : Int32) (a2 : Int32)  : Met l yMod_four (wq yMod_four cMod_four 6 (some .int)) ({ frames := 1, cells := 0, slots := 0, locals := 24 }) (mk_P G [.int a1, .int a2]) (mk_Qi G (mf_RiscHartModel_four a1 a2)) 0 0 (fun _ => False) := by
  refine Met.ofW (cc := cMod_four) (maxL := 6) (ret := (some .int)) (by decide) rfl ?_
  intro p e s m args below meth c s₁ B hml hv
  obtain ⟨rfl, hG⟩ := hv
  subst hG
  have hx := B.exec
  have hb := B.bytes
  have hr := B.returns
  have hts := atoms_spec (ws := (wq yMod_four cMod_four 6 (some .int))) B.pre
  have hown : s.vm.findClass RMod = some m.cls := findClass_of_methodNamed B.named
  have hlocks := B.notSynchronized
  have hg : ∀ w ∈ lw_g, w.before _ s = true := fun w h => hts w (List.mem_cons_of_mem _ h)
  have hl := lv_entry ([.int a1, .int a2]) (n := 6) (Nat.le_of_ble_eq_true rfl)
  rw [lg_entry_eq]
  generalize (lg_sl ([.int a1, .int a2]) ++ List.replicate (6 - (lg_sl ([.int a1, .int a2])).length) Slot.unset).toArray = ls at hl ⊢
  have hl : lv_has ls 6 [(0, .int a1), (1, .int a2)] := hl
  refine lv_bipush (v := 8) hx hb dMod_four_0 (by decide) ?_
  refine lv_iload_n hx hb dMod_four_2 rfl (lv_at hl 0 rfl) ?_
  refine lv_bipush (v := 7) hx hb dMod_four_3 (by decide) ?_
  refine lv_iconst (v := 3) hx hb dMod_four_5 (by decide) ?_
  refine mk_callR (va_runS (As := [.int a1, .int 7, .int 3]) (rest := [.int 8]) ⟨hx, hb, hml, hown, hts⟩ (mc_RiscHartModel_part l s.heap a1 7 3) (va_cwS 3 hts (mk_gS tw_668 tw_669 tw_48 tw_670) rfl rfl rfl hdMod_part.2 ⟨Nat.le_of_ble_eq_true rfl, Nat.le_of_ble_eq_true rfl⟩) mk_preS rfl rfl hl.1 rfl (lv_room (Nat.le_of_ble_eq_true rfl)) dMod_four_6 ⟨Nat.zero_le _, Nat.zero_le _⟩) ?_
  refine lv_iadd hx hb dMod_four_9 ?_
  refine lv_istore_n (lv' := [(2, .int (8 + (mf_RiscHartModel_part a1 7 3))), (0, .int a1), (1, .int a2)]) hx hb dMod_four_10 rfl hl (by decide) rfl (fun ls hl => ?_)
  refine lv_bipush (v := 8) hx hb dMod_four_11 (by decide) ?_
  refine lv_iload_n hx hb dMod_four_13 rfl (lv_at hl 1 rfl) ?_
  refine lv_iconst (v := 2) hx hb dMod_four_14 (by decide) ?_
  refine lv_iconst (v := 3) hx hb dMod_four_15 (by decide) ?_
  refine mk_callR (va_runS (As := [.int a1, .int 2, .int 3]) (rest := [.int 8]) ⟨hx, hb, hml, hown, hts⟩ (mc_RiscHartModel_part l s.heap a1 2 3) (va_cwS 3 hts (mk_gS tw_668 tw_669 tw_48 tw_670) rfl rfl rfl hdMod_part.2 ⟨Nat.le_of_ble_eq_true rfl, Nat.le_of_ble_eq_true rfl⟩) mk_preS rfl rfl hl.1 rfl (lv_room (Nat.le_of_ble_eq_true rfl)) dMod_four_16 ⟨Nat.zero_le _, Nat.zero_le _⟩) ?_
  refine lv_iadd hx hb dMod_four_19 ?_
  refine lv_istore_n (lv' := [(3, .int (8 + (mf_RiscHartModel_part a1 2 3))), (2, .int (8 + (mf_RiscHartModel_part a1 7 3))), (0, .int a1), (1, .int a2)]) hx hb dMod_four_20 rfl hl (by decide) rfl (fun ls hl => ?_)
  refine lv_iload_n hx hb dMod_four_21 rfl (lv_at hl 2 rfl) ?_
  refine lv_bipush (v := 10) hx hb dMod_four_22 (by decide) ?_
  refine lv_iconst (v := 2) hx hb dMod_four_24 (by decide) ?_
  refine mk_callR (va_runS (As := [.int a1, .int 10, .int 2]) (rest := []) ⟨hx, hb, hml, hown, hts⟩ (mc_RiscHartModel_part l s.heap a1 10 2) (va_cwS 3 hts (mk_gS tw_668 tw_669 tw_48 tw_670) rfl rfl rfl hdMod_part.2 ⟨Nat.le_of_ble_eq_true rfl, Nat.le_of_ble_eq_true rfl⟩) mk_preS rfl rfl hl.1 rfl (lv_room (Nat.le_of_ble_eq_true rfl)) dMod_four_25 ⟨Nat.zero_le _, Nat.zero_le _⟩) ?_
  refine lv_istore (lv' := [(4, .int (mf_RiscHartModel_part a1 10 2)), (3, .int (8 + (mf_RiscHartModel_part a1 2 3))), (2, .int (8 + (mf_RiscHartModel_part a1 7 3))), (0, .int a1), (1, .int a2)]) hx hb dMod_four_28 hl (by decide) rfl (fun ls hl => ?_)
  refine lv_iload_n hx hb dMod_four_30 rfl (lv_at hl 3 rfl) ?_
  refine lv_iconst (v := 5) hx hb dMod_four_31 (by decide) ?_
  refine lv_iconst (v := 2) hx hb dMod_four_32 (by decide) ?_
  refine mk_callR (va_runS (As := [.int a1, .int 5, .int 2]) (rest := []) ⟨hx, hb, hml, hown, hts⟩ (mc_RiscHartModel_part l s.heap a1 5 2) (va_cwS 3 hts (mk_gS tw_668 tw_669 tw_48 tw_670) rfl rfl rfl hdMod_part.2 ⟨Nat.le_of_ble_eq_true rfl, Nat.le_of_ble_eq_true rfl⟩) mk_preS rfl rfl hl.1 rfl (lv_room (Nat.le_of_ble_eq_true rfl)) dMod_four_33 ⟨Nat.zero_le _, Nat.zero_le _⟩) ?_
  refine lv_istore (lv' := [(5, .int (mf_RiscHartModel_part a1 5 2)), (4, .int (mf_RiscHartModel_part a1 10 2)), (3, .int (8 + (mf_RiscHartModel_part a1 2 3))), (2, .int (8 + (mf_RiscHartModel_part a1 7 3))), (0, .int a1), (1, .int a2)]) hx hb dMod_four_36 hl (by decide) rfl (fun ls hl => ?_)
  refine lv_iload hx hb dMod_four_38 (lv_at hl 1 rfl) ?_
  refine lv_iconst (v := 2) hx hb dMod_four_40 (by decide) ?_
  refine lv_icmp_ne (tgt := 55) hx hb dMod_four_41 (by decide) (fun c_1 => ?_) (fun c_1 => ?_)
  · refine lv_iload_n hx hb dMod_four_55 rfl (lv_at hl 4 rfl) ?_
    refine lv_bipush (v := 12) hx hb dMod_four_56 (by decide) ?_
    refine lv_iconst (v := 1) hx hb dMod_four_58 (by decide) ?_
    refine mk_callR (va_runS (As := [.int a1, .int 12, .int 1]) (rest := []) ⟨hx, hb, hml, hown, hts⟩ (mc_RiscHartModel_part l s.heap a1 12 1) (va_cwS 3 hts (mk_gS tw_668 tw_669 tw_48 tw_670) rfl rfl rfl hdMod_part.2 ⟨Nat.le_of_ble_eq_true rfl, Nat.le_of_ble_eq_true rfl⟩) mk_preS rfl rfl hl.1 rfl (lv_room (Nat.le_of_ble_eq_true rfl)) dMod_four_59 ⟨Nat.zero_le _, Nat.zero_le _⟩) ?_
    refine lv_iconst (v := 1) hx hb dMod_four_62 (by decide) ?_
    refine lv_icmp_ne (tgt := 68) hx hb dMod_four_63 (by decide) (fun c_2 => ?_) (fun c_2 => ?_)
    · refine lv_iload hx hb dMod_four_68 (lv_at hl 1 rfl) ?_
      refine lv_iconst (v := 2) hx hb dMod_four_70 (by decide) ?_
      refine lv_icmp_ge (tgt := 95) hx hb dMod_four_71 (by decide) (fun c_3 => ?_) (fun c_3 => ?_)
      · refine lv_iload hx hb dMod_four_95 (lv_at hl 0 rfl) ?_
        refine lv_if_ne (tgt := 112) hx hb dMod_four_97 (by decide) (fun c_4 => ?_) (fun c_4 => ?_)
        · refine lv_iload hx hb dMod_four_112 (lv_at hl 0 rfl) ?_
          refine lv_iconst (v := 1) hx hb dMod_four_114 (by decide) ?_
          refine lv_icmp_ne (tgt := 122) hx hb dMod_four_115 (by decide) (fun c_5 => ?_) (fun c_5 => ?_)
          · refine lv_iload hx hb dMod_four_122 (lv_at hl 0 rfl) ?_
            refine lv_iconst (v := 4) hx hb dMod_four_124 (by decide) ?_
            refine lv_iadd hx hb dMod_four_125 ?_
            refine lv_iconst (v := 0) hx hb dMod_four_126 (by decide) ?_
            refine lv_iload_n hx hb dMod_four_127 rfl (lv_at hl 3 rfl) ?_
            refine lv_iload_n hx hb dMod_four_128 rfl (lv_at hl 3 rfl) ?_
            refine lv_iload_n hx hb dMod_four_129 rfl (lv_at hl 2 rfl) ?_
            refine mk_callR (va_runS (As := [.int ((mf_RiscHartModel_part a1 5 2) + 4), .int 0, .int (8 + (mf_RiscHartModel_part a1 7 3)), .int (8 + (mf_RiscHartModel_part a1 7 3)), .int (8 + (mf_RiscHartModel_part a1 2 3))]) (rest := []) ⟨hx, hb, hml, hown, hts⟩ (mc_RiscHartModel_registers l s.heap ((mf_RiscHartModel_part a1 5 2) + 4) 0 (8 + (mf_RiscHartModel_part a1 7 3)) (8 + (mf_RiscHartModel_part a1 7 3)) (8 + (mf_RiscHartModel_part a1 2 3))) (va_cwS 5 hts (mk_gS tw_695 tw_696 tw_48 tw_697) rfl rfl rfl hdMod_registers.2 ⟨Nat.le_of_ble_eq_true rfl, Nat.le_of_ble_eq_true rfl⟩) mk_preS rfl rfl hl.1 rfl (lv_room (Nat.le_of_ble_eq_true rfl)) dMod_four_130 ⟨Nat.zero_le _, Nat.zero_le _⟩) ?_
            exact W.iret hx hb hr (fun t ht hW => ⟨⟨_, (), rfl, (by unfold mf_RiscHartModel_four; rw [if_neg c_1, if_neg c_2, if_pos c_3, if_neg c_4, if_neg c_5]), ht⟩, mk_F ht⟩) (fun q h => nomatch h) dMod_four_133
          · refine lv_iconst (v := 4) hx hb dMod_four_118 (by decide) ?_
            refine lv_goto (tgt := 126) hx hb dMod_four_119 (by decide) ?_
            refine lv_iconst (v := 0) hx hb dMod_four_126 (by decide) ?_
            refine lv_iload_n hx hb dMod_four_127 rfl (lv_at hl 3 rfl) ?_
            refine lv_iload_n hx hb dMod_four_128 rfl (lv_at hl 3 rfl) ?_
            refine lv_iload_n hx hb dMod_four_129 rfl (lv_at hl 2 rfl) ?_
            refine mk_callR (va_runS (As := [.int 4, .int 0, .int (8 + (mf_RiscHartModel_part a1 7 3)), .int (8 + (mf_RiscHartModel_part a1 7 3)), .int (8 + (mf_RiscHartModel_part a1 2 3))]) (rest := []) ⟨hx, hb, hml, hown, hts⟩ (mc_RiscHartModel_registers l s.heap 4 0 (8 + (mf_RiscHartModel_part a1 7 3)) (8 + (mf_RiscHartModel_part a1 7 3)) (8 + (mf_RiscHartModel_part a1 2 3))) (va_cwS 5 hts (mk_gS tw_695 tw_696 tw_48 tw_697) rfl rfl rfl hdMod_registers.2 ⟨Nat.le_of_ble_eq_true rfl, Nat.le_of_ble_eq_true rfl⟩) mk_preS rfl rfl hl.1 rfl (lv_room (Nat.le_of_ble_eq_true rfl)) dMod_four_130 ⟨Nat.zero_le _, Nat.zero_le _⟩) ?_
            exact W.iret hx hb hr (fun t ht hW => ⟨⟨_, (), rfl, (by unfold mf_RiscHartModel_four; rw [if_neg c_1, if_neg c_2, if_pos c_3, if_neg c_4, if_pos c_5]), ht⟩, mk_F ht⟩) (fun q h => nomatch h) dMod_four_133
        · refine lv_iconst (v := 0) hx hb dMod_four_100 (by decide) ?_
          refine lv_bipush (v := 32) hx hb dMod_four_101 (by decide) ?_
          refine lv_iload_n hx hb dMod_four_103 rfl (lv_at hl 3 rfl) ?_
          refine lv_iload_n hx hb dMod_four_104 rfl (lv_at hl 3 rfl) ?_
          refine lv_iload_n hx hb dMod_four_105 rfl (lv_at hl 2 rfl) ?_
          refine mk_callR (va_runS (As := [.int 0, .int 32, .int (8 + (mf_RiscHartModel_part a1 7 3)), .int (8 + (mf_RiscHartModel_part a1 7 3)), .int (8 + (mf_RiscHartModel_part a1 2 3))]) (rest := []) ⟨hx, hb, hml, hown, hts⟩ (mc_RiscHartModel_registers l s.heap 0 32 (8 + (mf_RiscHartModel_part a1 7 3)) (8 + (mf_RiscHartModel_part a1 7 3)) (8 + (mf_RiscHartModel_part a1 2 3))) (va_cwS 5 hts (mk_gS tw_695 tw_696 tw_48 tw_697) rfl rfl rfl hdMod_registers.2 ⟨Nat.le_of_ble_eq_true rfl, Nat.le_of_ble_eq_true rfl⟩) mk_preS rfl rfl hl.1 rfl (lv_room (Nat.le_of_ble_eq_true rfl)) dMod_four_106 ⟨Nat.zero_le _, Nat.zero_le _⟩) ?_
          refine lv_goto (tgt := 133) hx hb dMod_four_109 (by decide) ?_
          exact W.iret hx hb hr (fun t ht hW => ⟨⟨_, (), rfl, (by unfold mf_RiscHartModel_four; rw [if_neg c_1, if_neg c_2, if_pos c_3, if_pos c_4]), ht⟩, mk_F ht⟩) (fun q h => nomatch h) dMod_four_133
      · refine lv_bipush (v := 19) hx hb dMod_four_74 (by decide) ?_
        refine lv_iconst (v := 5) hx hb dMod_four_76 (by decide) ?_
        refine lv_iload_n hx hb dMod_four_77 rfl (lv_at hl 3 rfl) ?_
        refine lv_iload_n hx hb dMod_four_78 rfl (lv_at hl 3 rfl) ?_
        refine lv_iload_n hx hb dMod_four_79 rfl (lv_at hl 4 rfl) ?_
        refine lv_iconst (v := 2) hx hb dMod_four_80 (by decide) ?_
        refine lv_iconst (v := 5) hx hb dMod_four_81 (by decide) ?_
        refine mk_callR (va_runS (As := [.int a1, .int 2, .int 5]) (rest := [.int (8 + (mf_RiscHartModel_part a1 7 3)), .int (8 + (mf_RiscHartModel_part a1 7 3)), .int 5, .int 19]) ⟨hx, hb, hml, hown, hts⟩ (mc_RiscHartModel_part l s.heap a1 2 5) (va_cwS 3 hts (mk_gS tw_668 tw_669 tw_48 tw_670) rfl rfl rfl hdMod_part.2 ⟨Nat.le_of_ble_eq_true rfl, Nat.le_of_ble_eq_true rfl⟩) mk_preS rfl rfl hl.1 rfl (lv_room (Nat.le_of_ble_eq_true rfl)) dMod_four_82 ⟨Nat.zero_le _, Nat.zero_le _⟩) ?_
        refine lv_iload hx hb dMod_four_85 (lv_at hl 1 rfl) ?_
        refine lv_bipush (v := 10) hx hb dMod_four_87 (by decide) ?_
        refine lv_ishl hx hb dMod_four_89 ?_
        refine lv_ior hx hb dMod_four_90 ?_
        refine mk_callR (va_runS (As := [.int 19, .int 5, .int (8 + (mf_RiscHartModel_part a1 7 3)), .int (8 + (mf_RiscHartModel_part a1 7 3)), .int ((mf_RiscHartModel_part a1 2 5) ||| ((mf_RiscHartModel_part a1 10 2) <<< (10 &&& 31)))]) (rest := []) ⟨hx, hb, hml, hown, hts⟩ (mc_RiscHartModel_immediate l s.heap 19 5 (8 + (mf_RiscHartModel_part a1 7 3)) (8 + (mf_RiscHartModel_part a1 7 3)) ((mf_RiscHartModel_part a1 2 5) ||| ((mf_RiscHartModel_part a1 10 2) <<< (10 &&& 31)))) (va_cwS 5 hts (mk_gS tw_677 tw_678 tw_48 tw_679) rfl rfl rfl hdMod_immediate.2 ⟨Nat.le_of_ble_eq_true rfl, Nat.le_of_ble_eq_true rfl⟩) mk_preS rfl rfl hl.1 rfl (lv_room (Nat.le_of_ble_eq_true rfl)) dMod_four_91 ⟨Nat.zero_le _, Nat.zero_le _⟩) ?_
        exact W.iret hx hb hr (fun t ht hW => ⟨⟨_, (), rfl, (by unfold mf_RiscHartModel_four; rw [if_neg c_1, if_neg c_2, if_neg c_3]), ht⟩, mk_F ht⟩) (fun q h => nomatch h) dMod_four_94
    · refine lv_iconst (v := 0) hx hb dMod_four_66 (by decide) ?_
      exact W.iret hx hb hr (fun t ht hW => ⟨⟨_, (), rfl, (by unfold mf_RiscHartModel_four; rw [if_neg c_1, if_pos c_2]), ht⟩, mk_F ht⟩) (fun q h => nomatch h) dMod_four_67
  · refine lv_bipush (v := 19) hx hb dMod_four_44 (by decide) ?_
    refine lv_bipush (v := 7) hx hb dMod_four_46 (by decide) ?_
    refine lv_iload_n hx hb dMod_four_48 rfl (lv_at hl 3 rfl) ?_
    refine lv_iload_n hx hb dMod_four_49 rfl (lv_at hl 3 rfl) ?_
    refine lv_iload_n hx hb dMod_four_50 rfl (lv_at hl 5 rfl) ?_
    refine mk_callR (va_runS (As := [.int 19, .int 7, .int (8 + (mf_RiscHartModel_part a1 7 3)), .int (8 + (mf_RiscHartModel_part a1 7 3)), .int a2]) (rest := []) ⟨hx, hb, hml, hown, hts⟩ (mc_RiscHartModel_immediate l s.heap 19 7 (8 + (mf_RiscHartModel_part a1 7 3)) (8 + (mf_RiscHartModel_part a1 7 3)) a2) (va_cwS 5 hts (mk_gS tw_677 tw_678 tw_48 tw_679) rfl rfl rfl hdMod_immediate.2 ⟨Nat.le_of_ble_eq_true rfl, Nat.le_of_ble_eq_true rfl⟩) mk_preS rfl rfl hl.1 rfl (lv_room (Nat.le_of_ble_eq_true rfl)) dMod_four_51 ⟨Nat.zero_le _, Nat.zero_le _⟩) ?_
    exact W.iret hx hb hr (fun t ht hW => ⟨⟨_, (), rfl, (by unfold mf_RiscHartModel_four; rw [if_pos c_1]), ht⟩, mk_F ht⟩) (fun q h => nomatch h) dMod_four_54
set_option maxHeartbeats 4000000 in
set_option maxRecDepth 100000 in
theorem mc_RiscHartModel_one (l : Launch) (G : Heap) (a1 : Int32) (a2 : Int32)  : Met l yMod_one (wq yMod_one cMod_one 7 (some .int)) ({ frames := 3, cells := 0, slots := 0, locals := 67 }) (mk_P G [.int a1, .int a2]) (mk_Qi G (mf_RiscHartModel_one a1 a2)) 0 0 (fun _ => False) := by
  refine Met.ofW (cc := cMod_one) (maxL := 7) (ret := (some .int)) (by decide) rfl ?_
  intro p e s m args below meth c s₁ B hml hv
  obtain ⟨rfl, hG⟩ := hv
  subst hG
  have hx := B.exec
  have hb := B.bytes
  have hr := B.returns
  have hts := atoms_spec (ws := (wq yMod_one cMod_one 7 (some .int))) B.pre
  have hown : s.vm.findClass RMod = some m.cls := findClass_of_methodNamed B.named
  have hlocks := B.notSynchronized
  have hg : ∀ w ∈ lw_g, w.before _ s = true := fun w h => hts w (List.mem_cons_of_mem _ h)
  have hl := lv_entry ([.int a1, .int a2]) (n := 7) (Nat.le_of_ble_eq_true rfl)
  rw [lg_entry_eq]
  generalize (lg_sl ([.int a1, .int a2]) ++ List.replicate (7 - (lg_sl ([.int a1, .int a2])).length) Slot.unset).toArray = ls at hl ⊢
  have hl : lv_has ls 7 [(0, .int a1), (1, .int a2)] := hl
  refine lv_iload_n hx hb dMod_one_0 rfl (lv_at hl 0 rfl) ?_
  refine lv_bipush (v := 7) hx hb dMod_one_1 (by decide) ?_
  refine lv_iconst (v := 5) hx hb dMod_one_3 (by decide) ?_
  refine mk_callR (va_runS (As := [.int a1, .int 7, .int 5]) (rest := []) ⟨hx, hb, hml, hown, hts⟩ (mc_RiscHartModel_part l s.heap a1 7 5) (va_cwS 3 hts (mk_gS tw_668 tw_669 tw_48 tw_670) rfl rfl rfl hdMod_part.2 ⟨Nat.le_of_ble_eq_true rfl, Nat.le_of_ble_eq_true rfl⟩) mk_preS rfl rfl hl.1 rfl (lv_room (Nat.le_of_ble_eq_true rfl)) dMod_one_4 ⟨Nat.zero_le _, Nat.zero_le _⟩) ?_
  refine lv_istore_n (lv' := [(2, .int (mf_RiscHartModel_part a1 7 5)), (0, .int a1), (1, .int a2)]) hx hb dMod_one_7 rfl hl (by decide) rfl (fun ls hl => ?_)
  refine lv_iload_n hx hb dMod_one_8 rfl (lv_at hl 1 rfl) ?_
  refine lv_bipush (v := 12) hx hb dMod_one_9 (by decide) ?_
  refine lv_iconst (v := 1) hx hb dMod_one_11 (by decide) ?_
  refine lv_iconst (v := 5) hx hb dMod_one_12 (by decide) ?_
  refine mk_callR (va_runS (As := [.int a1, .int 12, .int 1, .int 5]) (rest := []) ⟨hx, hb, hml, hown, hts⟩ (mc_RiscHartModel_bit l s.heap a1 12 1 5) (va_cwS 4 hts (mk_gS tw_674 tw_675 tw_48 tw_676) rfl rfl rfl hdMod_bit.2 ⟨Nat.le_of_ble_eq_true rfl, Nat.le_of_ble_eq_true rfl⟩) mk_preS rfl rfl hl.1 rfl (lv_room (Nat.le_of_ble_eq_true rfl)) dMod_one_13 ⟨Nat.zero_le _, Nat.zero_le _⟩) ?_
  refine lv_iload_n hx hb dMod_one_16 rfl (lv_at hl 1 rfl) ?_
  refine lv_iconst (v := 2) hx hb dMod_one_17 (by decide) ?_
  refine lv_iconst (v := 5) hx hb dMod_one_18 (by decide) ?_
  refine mk_callR (va_runS (As := [.int a1, .int 2, .int 5]) (rest := [.int (mf_RiscHartModel_bit a1 12 1 5)]) ⟨hx, hb, hml, hown, hts⟩ (mc_RiscHartModel_part l s.heap a1 2 5) (va_cwS 3 hts (mk_gS tw_668 tw_669 tw_48 tw_670) rfl rfl rfl hdMod_part.2 ⟨Nat.le_of_ble_eq_true rfl, Nat.le_of_ble_eq_true rfl⟩) mk_preS rfl rfl hl.1 rfl (lv_room (Nat.le_of_ble_eq_true rfl)) dMod_one_19 ⟨Nat.zero_le _, Nat.zero_le _⟩) ?_
  refine lv_ior hx hb dMod_one_22 ?_
  refine lv_bipush (v := 6) hx hb dMod_one_23 (by decide) ?_
  refine mk_callR (va_runS (As := [.int ((mf_RiscHartModel_bit a1 12 1 5) ||| (mf_RiscHartModel_part a1 2 5)), .int 6]) (rest := []) ⟨hx, hb, hml, hown, hts⟩ (mc_RiscHartModel_signed l s.heap ((mf_RiscHartModel_bit a1 12 1 5) ||| (mf_RiscHartModel_part a1 2 5)) 6) (va_cwS 2 hts (mk_gS tw_686 tw_687 tw_48 tw_688) rfl rfl rfl hdMod_signed.2 ⟨Nat.le_of_ble_eq_true rfl, Nat.le_of_ble_eq_true rfl⟩) mk_preS rfl rfl hl.1 rfl (lv_room (Nat.le_of_ble_eq_true rfl)) dMod_one_25 ⟨Nat.zero_le _, Nat.zero_le _⟩) ?_
  refine lv_istore_n (lv' := [(3, .int (mf_RiscHartModel_signed ((mf_RiscHartModel_bit a1 12 1 5) ||| (mf_RiscHartModel_part a1 2 5)) 6)), (2, .int (mf_RiscHartModel_part a1 7 5)), (0, .int a1), (1, .int a2)]) hx hb dMod_one_28 rfl hl (by decide) rfl (fun ls hl => ?_)
  refine lv_iload_n hx hb dMod_one_29 rfl (lv_at hl 2 rfl) ?_
  refine lv_bipush (v := 12) hx hb dMod_one_30 (by decide) ?_
  refine lv_iconst (v := 1) hx hb dMod_one_32 (by decide) ?_
  refine lv_bipush (v := 11) hx hb dMod_one_33 (by decide) ?_
  refine mk_callR (va_runS (As := [.int a1, .int 12, .int 1, .int 11]) (rest := []) ⟨hx, hb, hml, hown, hts⟩ (mc_RiscHartModel_bit l s.heap a1 12 1 11) (va_cwS 4 hts (mk_gS tw_674 tw_675 tw_48 tw_676) rfl rfl rfl hdMod_bit.2 ⟨Nat.le_of_ble_eq_true rfl, Nat.le_of_ble_eq_true rfl⟩) mk_preS rfl rfl hl.1 rfl (lv_room (Nat.le_of_ble_eq_true rfl)) dMod_one_35 ⟨Nat.zero_le _, Nat.zero_le _⟩) ?_
  refine lv_iload_n hx hb dMod_one_38 rfl (lv_at hl 2 rfl) ?_
  refine lv_bipush (v := 11) hx hb dMod_one_39 (by decide) ?_
  refine lv_iconst (v := 1) hx hb dMod_one_41 (by decide) ?_
  refine lv_iconst (v := 4) hx hb dMod_one_42 (by decide) ?_
  refine mk_callR (va_runS (As := [.int a1, .int 11, .int 1, .int 4]) (rest := [.int (mf_RiscHartModel_bit a1 12 1 11)]) ⟨hx, hb, hml, hown, hts⟩ (mc_RiscHartModel_bit l s.heap a1 11 1 4) (va_cwS 4 hts (mk_gS tw_674 tw_675 tw_48 tw_676) rfl rfl rfl hdMod_bit.2 ⟨Nat.le_of_ble_eq_true rfl, Nat.le_of_ble_eq_true rfl⟩) mk_preS rfl rfl hl.1 rfl (lv_room (Nat.le_of_ble_eq_true rfl)) dMod_one_43 ⟨Nat.zero_le _, Nat.zero_le _⟩) ?_
  refine lv_ior hx hb dMod_one_46 ?_
  refine lv_iload_n hx hb dMod_one_47 rfl (lv_at hl 2 rfl) ?_
  refine lv_bipush (v := 9) hx hb dMod_one_48 (by decide) ?_
  refine lv_iconst (v := 2) hx hb dMod_one_50 (by decide) ?_
  refine lv_bipush (v := 8) hx hb dMod_one_51 (by decide) ?_
  refine mk_callR (va_runS (As := [.int a1, .int 9, .int 2, .int 8]) (rest := [.int ((mf_RiscHartModel_bit a1 12 1 11) ||| (mf_RiscHartModel_bit a1 11 1 4))]) ⟨hx, hb, hml, hown, hts⟩ (mc_RiscHartModel_bit l s.heap a1 9 2 8) (va_cwS 4 hts (mk_gS tw_674 tw_675 tw_48 tw_676) rfl rfl rfl hdMod_bit.2 ⟨Nat.le_of_ble_eq_true rfl, Nat.le_of_ble_eq_true rfl⟩) mk_preS rfl rfl hl.1 rfl (lv_room (Nat.le_of_ble_eq_true rfl)) dMod_one_53 ⟨Nat.zero_le _, Nat.zero_le _⟩) ?_
  refine lv_ior hx hb dMod_one_56 ?_
  refine lv_iload_n hx hb dMod_one_57 rfl (lv_at hl 2 rfl) ?_
  refine lv_bipush (v := 8) hx hb dMod_one_58 (by decide) ?_
  refine lv_iconst (v := 1) hx hb dMod_one_60 (by decide) ?_
  refine lv_bipush (v := 10) hx hb dMod_one_61 (by decide) ?_
  refine mk_callR (va_runS (As := [.int a1, .int 8, .int 1, .int 10]) (rest := [.int (((mf_RiscHartModel_bit a1 12 1 11) ||| (mf_RiscHartModel_bit a1 11 1 4)) ||| (mf_RiscHartModel_bit a1 9 2 8))]) ⟨hx, hb, hml, hown, hts⟩ (mc_RiscHartModel_bit l s.heap a1 8 1 10) (va_cwS 4 hts (mk_gS tw_674 tw_675 tw_48 tw_676) rfl rfl rfl hdMod_bit.2 ⟨Nat.le_of_ble_eq_true rfl, Nat.le_of_ble_eq_true rfl⟩) mk_preS rfl rfl hl.1 rfl (lv_room (Nat.le_of_ble_eq_true rfl)) dMod_one_63 ⟨Nat.zero_le _, Nat.zero_le _⟩) ?_
  refine lv_ior hx hb dMod_one_66 ?_
  refine lv_iload_n hx hb dMod_one_67 rfl (lv_at hl 2 rfl) ?_
  refine lv_bipush (v := 7) hx hb dMod_one_68 (by decide) ?_
  refine lv_iconst (v := 1) hx hb dMod_one_70 (by decide) ?_
  refine lv_bipush (v := 6) hx hb dMod_one_71 (by decide) ?_
  refine mk_callR (va_runS (As := [.int a1, .int 7, .int 1, .int 6]) (rest := [.int ((((mf_RiscHartModel_bit a1 12 1 11) ||| (mf_RiscHartModel_bit a1 11 1 4)) ||| (mf_RiscHartModel_bit a1 9 2 8)) ||| (mf_RiscHartModel_bit a1 8 1 10))]) ⟨hx, hb, hml, hown, hts⟩ (mc_RiscHartModel_bit l s.heap a1 7 1 6) (va_cwS 4 hts (mk_gS tw_674 tw_675 tw_48 tw_676) rfl rfl rfl hdMod_bit.2 ⟨Nat.le_of_ble_eq_true rfl, Nat.le_of_ble_eq_true rfl⟩) mk_preS rfl rfl hl.1 rfl (lv_room (Nat.le_of_ble_eq_true rfl)) dMod_one_73 ⟨Nat.zero_le _, Nat.zero_le _⟩) ?_
  refine lv_ior hx hb dMod_one_76 ?_
  refine lv_iload_n hx hb dMod_one_77 rfl (lv_at hl 2 rfl) ?_
  refine lv_bipush (v := 6) hx hb dMod_one_78 (by decide) ?_
  refine lv_iconst (v := 1) hx hb dMod_one_80 (by decide) ?_
  refine lv_bipush (v := 7) hx hb dMod_one_81 (by decide) ?_
  refine mk_callR (va_runS (As := [.int a1, .int 6, .int 1, .int 7]) (rest := [.int (((((mf_RiscHartModel_bit a1 12 1 11) ||| (mf_RiscHartModel_bit a1 11 1 4)) ||| (mf_RiscHartModel_bit a1 9 2 8)) ||| (mf_RiscHartModel_bit a1 8 1 10)) ||| (mf_RiscHartModel_bit a1 7 1 6))]) ⟨hx, hb, hml, hown, hts⟩ (mc_RiscHartModel_bit l s.heap a1 6 1 7) (va_cwS 4 hts (mk_gS tw_674 tw_675 tw_48 tw_676) rfl rfl rfl hdMod_bit.2 ⟨Nat.le_of_ble_eq_true rfl, Nat.le_of_ble_eq_true rfl⟩) mk_preS rfl rfl hl.1 rfl (lv_room (Nat.le_of_ble_eq_true rfl)) dMod_one_83 ⟨Nat.zero_le _, Nat.zero_le _⟩) ?_
  refine lv_ior hx hb dMod_one_86 ?_
  refine lv_iload_n hx hb dMod_one_87 rfl (lv_at hl 2 rfl) ?_
  refine lv_iconst (v := 3) hx hb dMod_one_88 (by decide) ?_
  refine lv_iconst (v := 3) hx hb dMod_one_89 (by decide) ?_
  refine lv_iconst (v := 1) hx hb dMod_one_90 (by decide) ?_
  refine mk_callR (va_runS (As := [.int a1, .int 3, .int 3, .int 1]) (rest := [.int ((((((mf_RiscHartModel_bit a1 12 1 11) ||| (mf_RiscHartModel_bit a1 11 1 4)) ||| (mf_RiscHartModel_bit a1 9 2 8)) ||| (mf_RiscHartModel_bit a1 8 1 10)) ||| (mf_RiscHartModel_bit a1 7 1 6)) ||| (mf_RiscHartModel_bit a1 6 1 7))]) ⟨hx, hb, hml, hown, hts⟩ (mc_RiscHartModel_bit l s.heap a1 3 3 1) (va_cwS 4 hts (mk_gS tw_674 tw_675 tw_48 tw_676) rfl rfl rfl hdMod_bit.2 ⟨Nat.le_of_ble_eq_true rfl, Nat.le_of_ble_eq_true rfl⟩) mk_preS rfl rfl hl.1 rfl (lv_room (Nat.le_of_ble_eq_true rfl)) dMod_one_91 ⟨Nat.zero_le _, Nat.zero_le _⟩) ?_
  refine lv_ior hx hb dMod_one_94 ?_
  refine lv_iload_n hx hb dMod_one_95 rfl (lv_at hl 2 rfl) ?_
  refine lv_iconst (v := 2) hx hb dMod_one_96 (by decide) ?_
  refine lv_iconst (v := 1) hx hb dMod_one_97 (by decide) ?_
  refine lv_iconst (v := 5) hx hb dMod_one_98 (by decide) ?_
  refine mk_callR (va_runS (As := [.int a1, .int 2, .int 1, .int 5]) (rest := [.int (((((((mf_RiscHartModel_bit a1 12 1 11) ||| (mf_RiscHartModel_bit a1 11 1 4)) ||| (mf_RiscHartModel_bit a1 9 2 8)) ||| (mf_RiscHartModel_bit a1 8 1 10)) ||| (mf_RiscHartModel_bit a1 7 1 6)) ||| (mf_RiscHartModel_bit a1 6 1 7)) ||| (mf_RiscHartModel_bit a1 3 3 1))]) ⟨hx, hb, hml, hown, hts⟩ (mc_RiscHartModel_bit l s.heap a1 2 1 5) (va_cwS 4 hts (mk_gS tw_674 tw_675 tw_48 tw_676) rfl rfl rfl hdMod_bit.2 ⟨Nat.le_of_ble_eq_true rfl, Nat.le_of_ble_eq_true rfl⟩) mk_preS rfl rfl hl.1 rfl (lv_room (Nat.le_of_ble_eq_true rfl)) dMod_one_99 ⟨Nat.zero_le _, Nat.zero_le _⟩) ?_
  refine lv_ior hx hb dMod_one_102 ?_
  refine lv_bipush (v := 12) hx hb dMod_one_103 (by decide) ?_
  refine mk_callR (va_runS (As := [.int ((((((((mf_RiscHartModel_bit a1 12 1 11) ||| (mf_RiscHartModel_bit a1 11 1 4)) ||| (mf_RiscHartModel_bit a1 9 2 8)) ||| (mf_RiscHartModel_bit a1 8 1 10)) ||| (mf_RiscHartModel_bit a1 7 1 6)) ||| (mf_RiscHartModel_bit a1 6 1 7)) ||| (mf_RiscHartModel_bit a1 3 3 1)) ||| (mf_RiscHartModel_bit a1 2 1 5)), .int 12]) (rest := []) ⟨hx, hb, hml, hown, hts⟩ (mc_RiscHartModel_signed l s.heap ((((((((mf_RiscHartModel_bit a1 12 1 11) ||| (mf_RiscHartModel_bit a1 11 1 4)) ||| (mf_RiscHartModel_bit a1 9 2 8)) ||| (mf_RiscHartModel_bit a1 8 1 10)) ||| (mf_RiscHartModel_bit a1 7 1 6)) ||| (mf_RiscHartModel_bit a1 6 1 7)) ||| (mf_RiscHartModel_bit a1 3 3 1)) ||| (mf_RiscHartModel_bit a1 2 1 5)) 12) (va_cwS 2 hts (mk_gS tw_686 tw_687 tw_48 tw_688) rfl rfl rfl hdMod_signed.2 ⟨Nat.le_of_ble_eq_true rfl, Nat.le_of_ble_eq_true rfl⟩) mk_preS rfl rfl hl.1 rfl (lv_room (Nat.le_of_ble_eq_true rfl)) dMod_one_105 ⟨Nat.zero_le _, Nat.zero_le _⟩) ?_
  refine lv_istore (lv' := [(4, .int (mf_RiscHartModel_signed ((((((((mf_RiscHartModel_bit a1 12 1 11) ||| (mf_RiscHartModel_bit a1 11 1 4)) ||| (mf_RiscHartModel_bit a1 9 2 8)) ||| (mf_RiscHartModel_bit a1 8 1 10)) ||| (mf_RiscHartModel_bit a1 7 1 6)) ||| (mf_RiscHartModel_bit a1 6 1 7)) ||| (mf_RiscHartModel_bit a1 3 3 1)) ||| (mf_RiscHartModel_bit a1 2 1 5)) 12)), (3, .int (mf_RiscHartModel_signed ((mf_RiscHartModel_bit a1 12 1 5) ||| (mf_RiscHartModel_part a1 2 5)) 6)), (2, .int (mf_RiscHartModel_part a1 7 5)), (0, .int a1), (1, .int a2)]) hx hb dMod_one_108 hl (by decide) rfl (fun ls hl => ?_)
  refine lv_iload_n hx hb dMod_one_110 rfl (lv_at hl 3 rfl) ?_
  refine lv_bipush (v := 12) hx hb dMod_one_111 (by decide) ?_
  refine lv_iconst (v := 1) hx hb dMod_one_113 (by decide) ?_
  refine lv_bipush (v := 8) hx hb dMod_one_114 (by decide) ?_
  refine mk_callR (va_runS (As := [.int a1, .int 12, .int 1, .int 8]) (rest := []) ⟨hx, hb, hml, hown, hts⟩ (mc_RiscHartModel_bit l s.heap a1 12 1 8) (va_cwS 4 hts (mk_gS tw_674 tw_675 tw_48 tw_676) rfl rfl rfl hdMod_bit.2 ⟨Nat.le_of_ble_eq_true rfl, Nat.le_of_ble_eq_true rfl⟩) mk_preS rfl rfl hl.1 rfl (lv_room (Nat.le_of_ble_eq_true rfl)) dMod_one_116 ⟨Nat.zero_le _, Nat.zero_le _⟩) ?_
  refine lv_iload_n hx hb dMod_one_119 rfl (lv_at hl 3 rfl) ?_
  refine lv_bipush (v := 10) hx hb dMod_one_120 (by decide) ?_
  refine lv_iconst (v := 2) hx hb dMod_one_122 (by decide) ?_
  refine lv_iconst (v := 3) hx hb dMod_one_123 (by decide) ?_
  refine mk_callR (va_runS (As := [.int a1, .int 10, .int 2, .int 3]) (rest := [.int (mf_RiscHartModel_bit a1 12 1 8)]) ⟨hx, hb, hml, hown, hts⟩ (mc_RiscHartModel_bit l s.heap a1 10 2 3) (va_cwS 4 hts (mk_gS tw_674 tw_675 tw_48 tw_676) rfl rfl rfl hdMod_bit.2 ⟨Nat.le_of_ble_eq_true rfl, Nat.le_of_ble_eq_true rfl⟩) mk_preS rfl rfl hl.1 rfl (lv_room (Nat.le_of_ble_eq_true rfl)) dMod_one_124 ⟨Nat.zero_le _, Nat.zero_le _⟩) ?_
  refine lv_ior hx hb dMod_one_127 ?_
  refine lv_iload_n hx hb dMod_one_128 rfl (lv_at hl 3 rfl) ?_
  refine lv_iconst (v := 5) hx hb dMod_one_129 (by decide) ?_
  refine lv_iconst (v := 2) hx hb dMod_one_130 (by decide) ?_
  refine lv_bipush (v := 6) hx hb dMod_one_131 (by decide) ?_
  refine mk_callR (va_runS (As := [.int a1, .int 5, .int 2, .int 6]) (rest := [.int ((mf_RiscHartModel_bit a1 12 1 8) ||| (mf_RiscHartModel_bit a1 10 2 3))]) ⟨hx, hb, hml, hown, hts⟩ (mc_RiscHartModel_bit l s.heap a1 5 2 6) (va_cwS 4 hts (mk_gS tw_674 tw_675 tw_48 tw_676) rfl rfl rfl hdMod_bit.2 ⟨Nat.le_of_ble_eq_true rfl, Nat.le_of_ble_eq_true rfl⟩) mk_preS rfl rfl hl.1 rfl (lv_room (Nat.le_of_ble_eq_true rfl)) dMod_one_133 ⟨Nat.zero_le _, Nat.zero_le _⟩) ?_
  refine lv_ior hx hb dMod_one_136 ?_
  refine lv_iload_n hx hb dMod_one_137 rfl (lv_at hl 3 rfl) ?_
  refine lv_iconst (v := 3) hx hb dMod_one_138 (by decide) ?_
  refine lv_iconst (v := 2) hx hb dMod_one_139 (by decide) ?_
  refine lv_iconst (v := 1) hx hb dMod_one_140 (by decide) ?_
  refine mk_callR (va_runS (As := [.int a1, .int 3, .int 2, .int 1]) (rest := [.int (((mf_RiscHartModel_bit a1 12 1 8) ||| (mf_RiscHartModel_bit a1 10 2 3)) ||| (mf_RiscHartModel_bit a1 5 2 6))]) ⟨hx, hb, hml, hown, hts⟩ (mc_RiscHartModel_bit l s.heap a1 3 2 1) (va_cwS 4 hts (mk_gS tw_674 tw_675 tw_48 tw_676) rfl rfl rfl hdMod_bit.2 ⟨Nat.le_of_ble_eq_true rfl, Nat.le_of_ble_eq_true rfl⟩) mk_preS rfl rfl hl.1 rfl (lv_room (Nat.le_of_ble_eq_true rfl)) dMod_one_141 ⟨Nat.zero_le _, Nat.zero_le _⟩) ?_
  refine lv_ior hx hb dMod_one_144 ?_
  refine lv_iload_n hx hb dMod_one_145 rfl (lv_at hl 3 rfl) ?_
  refine lv_iconst (v := 2) hx hb dMod_one_146 (by decide) ?_
  refine lv_iconst (v := 1) hx hb dMod_one_147 (by decide) ?_
  refine lv_iconst (v := 5) hx hb dMod_one_148 (by decide) ?_
  refine mk_callR (va_runS (As := [.int a1, .int 2, .int 1, .int 5]) (rest := [.int ((((mf_RiscHartModel_bit a1 12 1 8) ||| (mf_RiscHartModel_bit a1 10 2 3)) ||| (mf_RiscHartModel_bit a1 5 2 6)) ||| (mf_RiscHartModel_bit a1 3 2 1))]) ⟨hx, hb, hml, hown, hts⟩ (mc_RiscHartModel_bit l s.heap a1 2 1 5) (va_cwS 4 hts (mk_gS tw_674 tw_675 tw_48 tw_676) rfl rfl rfl hdMod_bit.2 ⟨Nat.le_of_ble_eq_true rfl, Nat.le_of_ble_eq_true rfl⟩) mk_preS rfl rfl hl.1 rfl (lv_room (Nat.le_of_ble_eq_true rfl)) dMod_one_149 ⟨Nat.zero_le _, Nat.zero_le _⟩) ?_
  refine lv_ior hx hb dMod_one_152 ?_
  refine lv_bipush (v := 9) hx hb dMod_one_153 (by decide) ?_
  refine mk_callR (va_runS (As := [.int (((((mf_RiscHartModel_bit a1 12 1 8) ||| (mf_RiscHartModel_bit a1 10 2 3)) ||| (mf_RiscHartModel_bit a1 5 2 6)) ||| (mf_RiscHartModel_bit a1 3 2 1)) ||| (mf_RiscHartModel_bit a1 2 1 5)), .int 9]) (rest := []) ⟨hx, hb, hml, hown, hts⟩ (mc_RiscHartModel_signed l s.heap (((((mf_RiscHartModel_bit a1 12 1 8) ||| (mf_RiscHartModel_bit a1 10 2 3)) ||| (mf_RiscHartModel_bit a1 5 2 6)) ||| (mf_RiscHartModel_bit a1 3 2 1)) ||| (mf_RiscHartModel_bit a1 2 1 5)) 9) (va_cwS 2 hts (mk_gS tw_686 tw_687 tw_48 tw_688) rfl rfl rfl hdMod_signed.2 ⟨Nat.le_of_ble_eq_true rfl, Nat.le_of_ble_eq_true rfl⟩) mk_preS rfl rfl hl.1 rfl (lv_room (Nat.le_of_ble_eq_true rfl)) dMod_one_155 ⟨Nat.zero_le _, Nat.zero_le _⟩) ?_
  refine lv_istore (lv' := [(5, .int (mf_RiscHartModel_signed (((((mf_RiscHartModel_bit a1 12 1 8) ||| (mf_RiscHartModel_bit a1 10 2 3)) ||| (mf_RiscHartModel_bit a1 5 2 6)) ||| (mf_RiscHartModel_bit a1 3 2 1)) ||| (mf_RiscHartModel_bit a1 2 1 5)) 9)), (4, .int (mf_RiscHartModel_signed ((((((((mf_RiscHartModel_bit a1 12 1 11) ||| (mf_RiscHartModel_bit a1 11 1 4)) ||| (mf_RiscHartModel_bit a1 9 2 8)) ||| (mf_RiscHartModel_bit a1 8 1 10)) ||| (mf_RiscHartModel_bit a1 7 1 6)) ||| (mf_RiscHartModel_bit a1 6 1 7)) ||| (mf_RiscHartModel_bit a1 3 3 1)) ||| (mf_RiscHartModel_bit a1 2 1 5)) 12)), (3, .int (mf_RiscHartModel_signed ((mf_RiscHartModel_bit a1 12 1 5) ||| (mf_RiscHartModel_part a1 2 5)) 6)), (2, .int (mf_RiscHartModel_part a1 7 5)), (0, .int a1), (1, .int a2)]) hx hb dMod_one_158 hl (by decide) rfl (fun ls hl => ?_)
  refine lv_iload_n hx hb dMod_one_160 rfl (lv_at hl 4 rfl) ?_
  refine lv_bipush (v := 12) hx hb dMod_one_161 (by decide) ?_
  refine lv_iconst (v := 1) hx hb dMod_one_163 (by decide) ?_
  refine lv_bipush (v := 9) hx hb dMod_one_164 (by decide) ?_
  refine mk_callR (va_runS (As := [.int a1, .int 12, .int 1, .int 9]) (rest := []) ⟨hx, hb, hml, hown, hts⟩ (mc_RiscHartModel_bit l s.heap a1 12 1 9) (va_cwS 4 hts (mk_gS tw_674 tw_675 tw_48 tw_676) rfl rfl rfl hdMod_bit.2 ⟨Nat.le_of_ble_eq_true rfl, Nat.le_of_ble_eq_true rfl⟩) mk_preS rfl rfl hl.1 rfl (lv_room (Nat.le_of_ble_eq_true rfl)) dMod_one_166 ⟨Nat.zero_le _, Nat.zero_le _⟩) ?_
  refine lv_iload_n hx hb dMod_one_169 rfl (lv_at hl 4 rfl) ?_
  refine lv_bipush (v := 6) hx hb dMod_one_170 (by decide) ?_
  refine lv_iconst (v := 1) hx hb dMod_one_172 (by decide) ?_
  refine lv_iconst (v := 4) hx hb dMod_one_173 (by decide) ?_
  refine mk_callR (va_runS (As := [.int a1, .int 6, .int 1, .int 4]) (rest := [.int (mf_RiscHartModel_bit a1 12 1 9)]) ⟨hx, hb, hml, hown, hts⟩ (mc_RiscHartModel_bit l s.heap a1 6 1 4) (va_cwS 4 hts (mk_gS tw_674 tw_675 tw_48 tw_676) rfl rfl rfl hdMod_bit.2 ⟨Nat.le_of_ble_eq_true rfl, Nat.le_of_ble_eq_true rfl⟩) mk_preS rfl rfl hl.1 rfl (lv_room (Nat.le_of_ble_eq_true rfl)) dMod_one_174 ⟨Nat.zero_le _, Nat.zero_le _⟩) ?_
  refine lv_ior hx hb dMod_one_177 ?_
  refine lv_iload_n hx hb dMod_one_178 rfl (lv_at hl 4 rfl) ?_
  refine lv_iconst (v := 5) hx hb dMod_one_179 (by decide) ?_
  refine lv_iconst (v := 1) hx hb dMod_one_180 (by decide) ?_
  refine lv_bipush (v := 6) hx hb dMod_one_181 (by decide) ?_
  refine mk_callR (va_runS (As := [.int a1, .int 5, .int 1, .int 6]) (rest := [.int ((mf_RiscHartModel_bit a1 12 1 9) ||| (mf_RiscHartModel_bit a1 6 1 4))]) ⟨hx, hb, hml, hown, hts⟩ (mc_RiscHartModel_bit l s.heap a1 5 1 6) (va_cwS 4 hts (mk_gS tw_674 tw_675 tw_48 tw_676) rfl rfl rfl hdMod_bit.2 ⟨Nat.le_of_ble_eq_true rfl, Nat.le_of_ble_eq_true rfl⟩) mk_preS rfl rfl hl.1 rfl (lv_room (Nat.le_of_ble_eq_true rfl)) dMod_one_183 ⟨Nat.zero_le _, Nat.zero_le _⟩) ?_
  refine lv_ior hx hb dMod_one_186 ?_
  refine lv_iload_n hx hb dMod_one_187 rfl (lv_at hl 4 rfl) ?_
  refine lv_iconst (v := 3) hx hb dMod_one_188 (by decide) ?_
  refine lv_iconst (v := 2) hx hb dMod_one_189 (by decide) ?_
  refine lv_bipush (v := 7) hx hb dMod_one_190 (by decide) ?_
  refine mk_callR (va_runS (As := [.int a1, .int 3, .int 2, .int 7]) (rest := [.int (((mf_RiscHartModel_bit a1 12 1 9) ||| (mf_RiscHartModel_bit a1 6 1 4)) ||| (mf_RiscHartModel_bit a1 5 1 6))]) ⟨hx, hb, hml, hown, hts⟩ (mc_RiscHartModel_bit l s.heap a1 3 2 7) (va_cwS 4 hts (mk_gS tw_674 tw_675 tw_48 tw_676) rfl rfl rfl hdMod_bit.2 ⟨Nat.le_of_ble_eq_true rfl, Nat.le_of_ble_eq_true rfl⟩) mk_preS rfl rfl hl.1 rfl (lv_room (Nat.le_of_ble_eq_true rfl)) dMod_one_192 ⟨Nat.zero_le _, Nat.zero_le _⟩) ?_
  refine lv_ior hx hb dMod_one_195 ?_
  refine lv_iload_n hx hb dMod_one_196 rfl (lv_at hl 4 rfl) ?_
  refine lv_iconst (v := 2) hx hb dMod_one_197 (by decide) ?_
  refine lv_iconst (v := 1) hx hb dMod_one_198 (by decide) ?_
  refine lv_iconst (v := 5) hx hb dMod_one_199 (by decide) ?_
  refine mk_callR (va_runS (As := [.int a1, .int 2, .int 1, .int 5]) (rest := [.int ((((mf_RiscHartModel_bit a1 12 1 9) ||| (mf_RiscHartModel_bit a1 6 1 4)) ||| (mf_RiscHartModel_bit a1 5 1 6)) ||| (mf_RiscHartModel_bit a1 3 2 7))]) ⟨hx, hb, hml, hown, hts⟩ (mc_RiscHartModel_bit l s.heap a1 2 1 5) (va_cwS 4 hts (mk_gS tw_674 tw_675 tw_48 tw_676) rfl rfl rfl hdMod_bit.2 ⟨Nat.le_of_ble_eq_true rfl, Nat.le_of_ble_eq_true rfl⟩) mk_preS rfl rfl hl.1 rfl (lv_room (Nat.le_of_ble_eq_true rfl)) dMod_one_200 ⟨Nat.zero_le _, Nat.zero_le _⟩) ?_
  refine lv_ior hx hb dMod_one_203 ?_
  refine lv_bipush (v := 10) hx hb dMod_one_204 (by decide) ?_
  refine mk_callR (va_runS (As := [.int (((((mf_RiscHartModel_bit a1 12 1 9) ||| (mf_RiscHartModel_bit a1 6 1 4)) ||| (mf_RiscHartModel_bit a1 5 1 6)) ||| (mf_RiscHartModel_bit a1 3 2 7)) ||| (mf_RiscHartModel_bit a1 2 1 5)), .int 10]) (rest := []) ⟨hx, hb, hml, hown, hts⟩ (mc_RiscHartModel_signed l s.heap (((((mf_RiscHartModel_bit a1 12 1 9) ||| (mf_RiscHartModel_bit a1 6 1 4)) ||| (mf_RiscHartModel_bit a1 5 1 6)) ||| (mf_RiscHartModel_bit a1 3 2 7)) ||| (mf_RiscHartModel_bit a1 2 1 5)) 10) (va_cwS 2 hts (mk_gS tw_686 tw_687 tw_48 tw_688) rfl rfl rfl hdMod_signed.2 ⟨Nat.le_of_ble_eq_true rfl, Nat.le_of_ble_eq_true rfl⟩) mk_preS rfl rfl hl.1 rfl (lv_room (Nat.le_of_ble_eq_true rfl)) dMod_one_206 ⟨Nat.zero_le _, Nat.zero_le _⟩) ?_
  refine lv_istore (lv' := [(6, .int (mf_RiscHartModel_signed (((((mf_RiscHartModel_bit a1 12 1 9) ||| (mf_RiscHartModel_bit a1 6 1 4)) ||| (mf_RiscHartModel_bit a1 5 1 6)) ||| (mf_RiscHartModel_bit a1 3 2 7)) ||| (mf_RiscHartModel_bit a1 2 1 5)) 10)), (5, .int (mf_RiscHartModel_signed (((((mf_RiscHartModel_bit a1 12 1 8) ||| (mf_RiscHartModel_bit a1 10 2 3)) ||| (mf_RiscHartModel_bit a1 5 2 6)) ||| (mf_RiscHartModel_bit a1 3 2 1)) ||| (mf_RiscHartModel_bit a1 2 1 5)) 9)), (4, .int (mf_RiscHartModel_signed ((((((((mf_RiscHartModel_bit a1 12 1 11) ||| (mf_RiscHartModel_bit a1 11 1 4)) ||| (mf_RiscHartModel_bit a1 9 2 8)) ||| (mf_RiscHartModel_bit a1 8 1 10)) ||| (mf_RiscHartModel_bit a1 7 1 6)) ||| (mf_RiscHartModel_bit a1 6 1 7)) ||| (mf_RiscHartModel_bit a1 3 3 1)) ||| (mf_RiscHartModel_bit a1 2 1 5)) 12)), (3, .int (mf_RiscHartModel_signed ((mf_RiscHartModel_bit a1 12 1 5) ||| (mf_RiscHartModel_part a1 2 5)) 6)), (2, .int (mf_RiscHartModel_part a1 7 5)), (0, .int a1), (1, .int a2)]) hx hb dMod_one_209 hl (by decide) rfl (fun ls hl => ?_)
  refine lv_iload_n hx hb dMod_one_211 rfl (lv_at hl 6 rfl) ?_
  by_cases c_1 : a2 = 0
  · refine lv_tableIn (tgt := 252) hx hb dMod_one_212 (by rw [c_1]; decide) (by rw [c_1]; decide) (by rw [c_1]; rfl) (by decide) ?_
    refine lv_bipush (v := 19) hx hb dMod_one_252 (by decide) ?_
    refine lv_iconst (v := 0) hx hb dMod_one_254 (by decide) ?_
    refine lv_iload_n hx hb dMod_one_255 rfl (lv_at hl 4 rfl) ?_
    refine lv_iload_n hx hb dMod_one_256 rfl (lv_at hl 4 rfl) ?_
    refine lv_iload_n hx hb dMod_one_257 rfl (lv_at hl 3 rfl) ?_
    refine mk_callR (va_runS (As := [.int 19, .int 0, .int (mf_RiscHartModel_part a1 7 5), .int (mf_RiscHartModel_part a1 7 5), .int (mf_RiscHartModel_signed ((mf_RiscHartModel_bit a1 12 1 5) ||| (mf_RiscHartModel_part a1 2 5)) 6)]) (rest := []) ⟨hx, hb, hml, hown, hts⟩ (mc_RiscHartModel_immediate l s.heap 19 0 (mf_RiscHartModel_part a1 7 5) (mf_RiscHartModel_part a1 7 5) (mf_RiscHartModel_signed ((mf_RiscHartModel_bit a1 12 1 5) ||| (mf_RiscHartModel_part a1 2 5)) 6)) (va_cwS 5 hts (mk_gS tw_677 tw_678 tw_48 tw_679) rfl rfl rfl hdMod_immediate.2 ⟨Nat.le_of_ble_eq_true rfl, Nat.le_of_ble_eq_true rfl⟩) mk_preS rfl rfl hl.1 rfl (lv_room (Nat.le_of_ble_eq_true rfl)) dMod_one_258 ⟨Nat.zero_le _, Nat.zero_le _⟩) ?_
    exact W.iret hx hb hr (fun t ht hW => ⟨⟨_, (), rfl, (by unfold mf_RiscHartModel_one; rw [if_pos c_1]), ht⟩, mk_F ht⟩) (fun q h => nomatch h) dMod_one_261
  by_cases c_2 : a2 = 1
  · refine lv_tableIn (tgt := 262) hx hb dMod_one_212 (by rw [c_2]; decide) (by rw [c_2]; decide) (by rw [c_2]; rfl) (by decide) ?_
    refine lv_iconst (v := 1) hx hb dMod_one_262 (by decide) ?_
    refine lv_iload hx hb dMod_one_263 (lv_at hl 2 rfl) ?_
    refine mk_callR (va_runS (As := [.int 1, .int (mf_RiscHartModel_signed ((((((((mf_RiscHartModel_bit a1 12 1 11) ||| (mf_RiscHartModel_bit a1 11 1 4)) ||| (mf_RiscHartModel_bit a1 9 2 8)) ||| (mf_RiscHartModel_bit a1 8 1 10)) ||| (mf_RiscHartModel_bit a1 7 1 6)) ||| (mf_RiscHartModel_bit a1 6 1 7)) ||| (mf_RiscHartModel_bit a1 3 3 1)) ||| (mf_RiscHartModel_bit a1 2 1 5)) 12)]) (rest := []) ⟨hx, hb, hml, hown, hts⟩ (mc_RiscHartModel_link l s.heap 1 (mf_RiscHartModel_signed ((((((((mf_RiscHartModel_bit a1 12 1 11) ||| (mf_RiscHartModel_bit a1 11 1 4)) ||| (mf_RiscHartModel_bit a1 9 2 8)) ||| (mf_RiscHartModel_bit a1 8 1 10)) ||| (mf_RiscHartModel_bit a1 7 1 6)) ||| (mf_RiscHartModel_bit a1 6 1 7)) ||| (mf_RiscHartModel_bit a1 3 3 1)) ||| (mf_RiscHartModel_bit a1 2 1 5)) 12)) (va_cwS 2 hts (mk_gS tw_689 tw_690 tw_48 tw_691) rfl rfl rfl hdMod_link.2 ⟨Nat.le_of_ble_eq_true rfl, Nat.le_of_ble_eq_true rfl⟩) mk_preS rfl rfl hl.1 rfl (lv_room (Nat.le_of_ble_eq_true rfl)) dMod_one_265 ⟨Nat.zero_le _, Nat.zero_le _⟩) ?_
    exact W.iret hx hb hr (fun t ht hW => ⟨⟨_, (), rfl, (by unfold mf_RiscHartModel_one; rw [if_neg c_1, if_pos c_2]), ht⟩, mk_F ht⟩) (fun q h => nomatch h) dMod_one_268
  by_cases c_3 : a2 = 2
  · refine lv_tableIn (tgt := 269) hx hb dMod_one_212 (by rw [c_3]; decide) (by rw [c_3]; decide) (by rw [c_3]; rfl) (by decide) ?_
    refine lv_bipush (v := 19) hx hb dMod_one_269 (by decide) ?_
    refine lv_iconst (v := 0) hx hb dMod_one_271 (by decide) ?_
    refine lv_iload_n hx hb dMod_one_272 rfl (lv_at hl 4 rfl) ?_
    refine lv_iconst (v := 0) hx hb dMod_one_273 (by decide) ?_
    refine lv_iload_n hx hb dMod_one_274 rfl (lv_at hl 3 rfl) ?_
    refine mk_callR (va_runS (As := [.int 19, .int 0, .int (mf_RiscHartModel_part a1 7 5), .int 0, .int (mf_RiscHartModel_signed ((mf_RiscHartModel_bit a1 12 1 5) ||| (mf_RiscHartModel_part a1 2 5)) 6)]) (rest := []) ⟨hx, hb, hml, hown, hts⟩ (mc_RiscHartModel_immediate l s.heap 19 0 (mf_RiscHartModel_part a1 7 5) 0 (mf_RiscHartModel_signed ((mf_RiscHartModel_bit a1 12 1 5) ||| (mf_RiscHartModel_part a1 2 5)) 6)) (va_cwS 5 hts (mk_gS tw_677 tw_678 tw_48 tw_679) rfl rfl rfl hdMod_immediate.2 ⟨Nat.le_of_ble_eq_true rfl, Nat.le_of_ble_eq_true rfl⟩) mk_preS rfl rfl hl.1 rfl (lv_room (Nat.le_of_ble_eq_true rfl)) dMod_one_275 ⟨Nat.zero_le _, Nat.zero_le _⟩) ?_
    exact W.iret hx hb hr (fun t ht hW => ⟨⟨_, (), rfl, (by unfold mf_RiscHartModel_one; rw [if_neg c_1, if_neg c_2, if_pos c_3]), ht⟩, mk_F ht⟩) (fun q h => nomatch h) dMod_one_278
  by_cases c_4 : a2 = 3
  · refine lv_tableIn (tgt := 279) hx hb dMod_one_212 (by rw [c_4]; decide) (by rw [c_4]; decide) (by rw [c_4]; rfl) (by decide) ?_
    refine lv_iload_n hx hb dMod_one_279 rfl (lv_at hl 4 rfl) ?_
    refine lv_iconst (v := 2) hx hb dMod_one_280 (by decide) ?_
    refine lv_icmp_ne (tgt := 306) hx hb dMod_one_281 (by decide) (fun c_5 => ?_) (fun c_5 => ?_)
    · refine lv_iload_n hx hb dMod_one_306 rfl (lv_at hl 3 rfl) ?_
      refine lv_if_ne (tgt := 314) hx hb dMod_one_307 (by decide) (fun c_6 => ?_) (fun c_6 => ?_)
      · refine lv_bipush (v := 55) hx hb dMod_one_314 (by decide) ?_
        refine lv_iload_n hx hb dMod_one_316 rfl (lv_at hl 4 rfl) ?_
        refine lv_bipush (v := 7) hx hb dMod_one_317 (by decide) ?_
        refine lv_ishl hx hb dMod_one_319 ?_
        refine lv_ior hx hb dMod_one_320 ?_
        refine lv_iload_n hx hb dMod_one_321 rfl (lv_at hl 3 rfl) ?_
        refine lv_bipush (v := 12) hx hb dMod_one_322 (by decide) ?_
        refine lv_ishl hx hb dMod_one_324 ?_
        refine lv_ior hx hb dMod_one_325 ?_
        exact W.iret hx hb hr (fun t ht hW => ⟨⟨_, (), rfl, (by unfold mf_RiscHartModel_one; rw [if_neg c_1, if_neg c_2, if_neg c_3, if_pos c_4, if_neg c_5, if_neg c_6]), ht⟩, mk_F ht⟩) (fun q h => nomatch h) dMod_one_326
      · refine lv_iconst (v := 0) hx hb dMod_one_310 (by decide) ?_
        refine lv_goto (tgt := 326) hx hb dMod_one_311 (by decide) ?_
        exact W.iret hx hb hr (fun t ht hW => ⟨⟨_, (), rfl, (by unfold mf_RiscHartModel_one; rw [if_neg c_1, if_neg c_2, if_neg c_3, if_pos c_4, if_neg c_5, if_pos c_6]), ht⟩, mk_F ht⟩) (fun q h => nomatch h) dMod_one_326
    · refine lv_iload hx hb dMod_one_284 (lv_at hl 0 rfl) ?_
      refine lv_if_ne (tgt := 293) hx hb dMod_one_286 (by decide) (fun c_7 => ?_) (fun c_7 => ?_)
      · refine lv_bipush (v := 19) hx hb dMod_one_293 (by decide) ?_
        refine lv_iconst (v := 0) hx hb dMod_one_295 (by decide) ?_
        refine lv_iconst (v := 2) hx hb dMod_one_296 (by decide) ?_
        refine lv_iconst (v := 2) hx hb dMod_one_297 (by decide) ?_
        refine lv_iload hx hb dMod_one_298 (lv_at hl 0 rfl) ?_
        refine mk_callR (va_runS (As := [.int 19, .int 0, .int 2, .int 2, .int (mf_RiscHartModel_signed (((((mf_RiscHartModel_bit a1 12 1 9) ||| (mf_RiscHartModel_bit a1 6 1 4)) ||| (mf_RiscHartModel_bit a1 5 1 6)) ||| (mf_RiscHartModel_bit a1 3 2 7)) ||| (mf_RiscHartModel_bit a1 2 1 5)) 10)]) (rest := []) ⟨hx, hb, hml, hown, hts⟩ (mc_RiscHartModel_immediate l s.heap 19 0 2 2 (mf_RiscHartModel_signed (((((mf_RiscHartModel_bit a1 12 1 9) ||| (mf_RiscHartModel_bit a1 6 1 4)) ||| (mf_RiscHartModel_bit a1 5 1 6)) ||| (mf_RiscHartModel_bit a1 3 2 7)) ||| (mf_RiscHartModel_bit a1 2 1 5)) 10)) (va_cwS 5 hts (mk_gS tw_677 tw_678 tw_48 tw_679) rfl rfl rfl hdMod_immediate.2 ⟨Nat.le_of_ble_eq_true rfl, Nat.le_of_ble_eq_true rfl⟩) mk_preS rfl rfl hl.1 rfl (lv_room (Nat.le_of_ble_eq_true rfl)) dMod_one_300 ⟨Nat.zero_le _, Nat.zero_le _⟩) ?_
        refine lv_goto (tgt := 326) hx hb dMod_one_303 (by decide) ?_
        exact W.iret hx hb hr (fun t ht hW => ⟨⟨_, (), rfl, (by unfold mf_RiscHartModel_one; rw [if_neg c_1, if_neg c_2, if_neg c_3, if_pos c_4, if_pos c_5, if_neg c_7]), ht⟩, mk_F ht⟩) (fun q h => nomatch h) dMod_one_326
      · refine lv_iconst (v := 0) hx hb dMod_one_289 (by decide) ?_
        refine lv_goto (tgt := 326) hx hb dMod_one_290 (by decide) ?_
        exact W.iret hx hb hr (fun t ht hW => ⟨⟨_, (), rfl, (by unfold mf_RiscHartModel_one; rw [if_neg c_1, if_neg c_2, if_neg c_3, if_pos c_4, if_pos c_5, if_pos c_7]), ht⟩, mk_F ht⟩) (fun q h => nomatch h) dMod_one_326
  by_cases c_8 : a2 = 4
  · refine lv_tableIn (tgt := 327) hx hb dMod_one_212 (by rw [c_8]; decide) (by rw [c_8]; decide) (by rw [c_8]; rfl) (by decide) ?_
    refine lv_iload_n hx hb dMod_one_327 rfl (lv_at hl 5 rfl) ?_
    refine lv_iload_n hx hb dMod_one_328 rfl (lv_at hl 3 rfl) ?_
    refine mk_callR (va_runS (As := [.int a1, .int (mf_RiscHartModel_signed ((mf_RiscHartModel_bit a1 12 1 5) ||| (mf_RiscHartModel_part a1 2 5)) 6)]) (rest := []) ⟨hx, hb, hml, hown, hts⟩ (mc_RiscHartModel_four l s.heap a1 (mf_RiscHartModel_signed ((mf_RiscHartModel_bit a1 12 1 5) ||| (mf_RiscHartModel_part a1 2 5)) 6)) (va_cwS 2 hts (mk_gS tw_692 tw_693 tw_48 tw_694) rfl rfl rfl hdMod_four.2 ⟨Nat.le_of_ble_eq_true rfl, Nat.le_of_ble_eq_true rfl⟩) mk_preS rfl rfl hl.1 rfl (lv_room (Nat.le_of_ble_eq_true rfl)) dMod_one_329 ⟨Nat.zero_le _, Nat.zero_le _⟩) ?_
    exact W.iret hx hb hr (fun t ht hW => ⟨⟨_, (), rfl, (by unfold mf_RiscHartModel_one; rw [if_neg c_1, if_neg c_2, if_neg c_3, if_neg c_4, if_pos c_8]), ht⟩, mk_F ht⟩) (fun q h => nomatch h) dMod_one_332
  by_cases c_9 : a2 = 5
  · refine lv_tableIn (tgt := 333) hx hb dMod_one_212 (by rw [c_9]; decide) (by rw [c_9]; decide) (by rw [c_9]; rfl) (by decide) ?_
    refine lv_iconst (v := 0) hx hb dMod_one_333 (by decide) ?_
    refine lv_iload hx hb dMod_one_334 (lv_at hl 2 rfl) ?_
    refine mk_callR (va_runS (As := [.int 0, .int (mf_RiscHartModel_signed ((((((((mf_RiscHartModel_bit a1 12 1 11) ||| (mf_RiscHartModel_bit a1 11 1 4)) ||| (mf_RiscHartModel_bit a1 9 2 8)) ||| (mf_RiscHartModel_bit a1 8 1 10)) ||| (mf_RiscHartModel_bit a1 7 1 6)) ||| (mf_RiscHartModel_bit a1 6 1 7)) ||| (mf_RiscHartModel_bit a1 3 3 1)) ||| (mf_RiscHartModel_bit a1 2 1 5)) 12)]) (rest := []) ⟨hx, hb, hml, hown, hts⟩ (mc_RiscHartModel_link l s.heap 0 (mf_RiscHartModel_signed ((((((((mf_RiscHartModel_bit a1 12 1 11) ||| (mf_RiscHartModel_bit a1 11 1 4)) ||| (mf_RiscHartModel_bit a1 9 2 8)) ||| (mf_RiscHartModel_bit a1 8 1 10)) ||| (mf_RiscHartModel_bit a1 7 1 6)) ||| (mf_RiscHartModel_bit a1 6 1 7)) ||| (mf_RiscHartModel_bit a1 3 3 1)) ||| (mf_RiscHartModel_bit a1 2 1 5)) 12)) (va_cwS 2 hts (mk_gS tw_689 tw_690 tw_48 tw_691) rfl rfl rfl hdMod_link.2 ⟨Nat.le_of_ble_eq_true rfl, Nat.le_of_ble_eq_true rfl⟩) mk_preS rfl rfl hl.1 rfl (lv_room (Nat.le_of_ble_eq_true rfl)) dMod_one_336 ⟨Nat.zero_le _, Nat.zero_le _⟩) ?_
    exact W.iret hx hb hr (fun t ht hW => ⟨⟨_, (), rfl, (by unfold mf_RiscHartModel_one; rw [if_neg c_1, if_neg c_2, if_neg c_3, if_neg c_4, if_neg c_8, if_pos c_9]), ht⟩, mk_F ht⟩) (fun q h => nomatch h) dMod_one_339
  refine mk_table (tgt := 340) hx hb dMod_one_212 (mk_gap (N := 6) [0, 1, 2, 3, 4, 5] (by decide) (by decide) (by have q_1 := lv_neT (a := 0) c_1 rfl; have q_2 := lv_neT (a := 1) c_2 rfl; have q_3 := lv_neT (a := 2) c_3 rfl; have q_4 := lv_neT (a := 3) c_4 rfl; have q_8 := lv_neT (a := 4) c_8 rfl; have q_9 := lv_neT (a := 5) c_9 rfl; intro n hn; simp only [List.mem_cons, List.not_mem_nil, or_false, not_or]; omega)) (by decide) ?_
  refine lv_iload_n hx hb dMod_one_340 rfl (lv_at hl 6 rfl) ?_
  refine lv_bipush (v := 6) hx hb dMod_one_341 (by decide) ?_
  refine lv_isub hx hb dMod_one_343 ?_
  refine lv_bipush (v := 8) hx hb dMod_one_344 (by decide) ?_
  refine lv_iload_n hx hb dMod_one_346 rfl (lv_at hl 5 rfl) ?_
  refine lv_bipush (v := 7) hx hb dMod_one_347 (by decide) ?_
  refine lv_iconst (v := 3) hx hb dMod_one_349 (by decide) ?_
  refine mk_callR (va_runS (As := [.int a1, .int 7, .int 3]) (rest := [.int 8, .int (a2 - 6)]) ⟨hx, hb, hml, hown, hts⟩ (mc_RiscHartModel_part l s.heap a1 7 3) (va_cwS 3 hts (mk_gS tw_668 tw_669 tw_48 tw_670) rfl rfl rfl hdMod_part.2 ⟨Nat.le_of_ble_eq_true rfl, Nat.le_of_ble_eq_true rfl⟩) mk_preS rfl rfl hl.1 rfl (lv_room (Nat.le_of_ble_eq_true rfl)) dMod_one_350 ⟨Nat.zero_le _, Nat.zero_le _⟩) ?_
  refine lv_iadd hx hb dMod_one_353 ?_
  refine lv_iload hx hb dMod_one_354 (lv_at hl 1 rfl) ?_
  refine mk_callR (va_runS (As := [.int (a2 - 6), .int (8 + (mf_RiscHartModel_part a1 7 3)), .int (mf_RiscHartModel_signed (((((mf_RiscHartModel_bit a1 12 1 8) ||| (mf_RiscHartModel_bit a1 10 2 3)) ||| (mf_RiscHartModel_bit a1 5 2 6)) ||| (mf_RiscHartModel_bit a1 3 2 1)) ||| (mf_RiscHartModel_bit a1 2 1 5)) 9)]) (rest := []) ⟨hx, hb, hml, hown, hts⟩ (mc_RiscHartModel_branch l s.heap (a2 - 6) (8 + (mf_RiscHartModel_part a1 7 3)) (mf_RiscHartModel_signed (((((mf_RiscHartModel_bit a1 12 1 8) ||| (mf_RiscHartModel_bit a1 10 2 3)) ||| (mf_RiscHartModel_bit a1 5 2 6)) ||| (mf_RiscHartModel_bit a1 3 2 1)) ||| (mf_RiscHartModel_bit a1 2 1 5)) 9)) (va_cwS 3 hts (mk_gS tw_698 tw_699 tw_48 tw_700) rfl rfl rfl hdMod_branch.2 ⟨Nat.le_of_ble_eq_true rfl, Nat.le_of_ble_eq_true rfl⟩) mk_preS rfl rfl hl.1 rfl (lv_room (Nat.le_of_ble_eq_true rfl)) dMod_one_356 ⟨Nat.zero_le _, Nat.zero_le _⟩) ?_
  exact W.iret hx hb hr (fun t ht hW => ⟨⟨_, (), rfl, (by unfold mf_RiscHartModel_one; rw [if_neg c_1, if_neg c_2, if_neg c_3, if_neg c_4, if_neg c_8, if_neg c_9]), ht⟩, mk_F ht⟩) (fun q h => nomatch h) dMod_one_359
set_option maxHeartbeats 4000000 in
set_option maxRecDepth 100000 in
theorem mc_RiscHartModel_two (l : Launch) (G : Heap) (a1 : Int32) (a2 : Int32)  : Met l yMod_two (wq yMod_two cMod_two 7 (some .int)) ({ frames := 3, cells := 0, slots := 0, locals := 67 }) (mk_P G [.int a1, .int a2]) (mk_Qi G (mf_RiscHartModel_two a1 a2)) 0 0 (fun _ => False) := by
  refine Met.ofW (cc := cMod_two) (maxL := 7) (ret := (some .int)) (by decide) rfl ?_
  intro p e s m args below meth c s₁ B hml hv
  obtain ⟨rfl, hG⟩ := hv
  subst hG
  have hx := B.exec
  have hb := B.bytes
  have hr := B.returns
  have hts := atoms_spec (ws := (wq yMod_two cMod_two 7 (some .int))) B.pre
  have hown : s.vm.findClass RMod = some m.cls := findClass_of_methodNamed B.named
  have hlocks := B.notSynchronized
  have hg : ∀ w ∈ lw_g, w.before _ s = true := fun w h => hts w (List.mem_cons_of_mem _ h)
  have hl := lv_entry ([.int a1, .int a2]) (n := 7) (Nat.le_of_ble_eq_true rfl)
  rw [lg_entry_eq]
  generalize (lg_sl ([.int a1, .int a2]) ++ List.replicate (7 - (lg_sl ([.int a1, .int a2])).length) Slot.unset).toArray = ls at hl ⊢
  have hl : lv_has ls 7 [(0, .int a1), (1, .int a2)] := hl
  have tail_33 : ∀ (ls : Array Slot) (v2 : Int32) (v3 : Int32) (v4 : Int32), mf_RiscHartModel_two a1 a2 = mf_RiscHartModel_two_t33 a1 a2 v2 v3 v4 → lv_has ls 7 [(0, .int a1), (1, .int a2), (2, .int v2), (3, .int v3), (4, .int v4)] → W p l e (headSpec (wq yMod_two cMod_two 7 (some .int)) ({ frames := 3, cells := 0, slots := 0, locals := 67 })).room s m ([.int a1, .int a2] : List Value).toArray below meth c s.heap [] 0 0 (MQ below (mk_Qi s.heap (mf_RiscHartModel_two a1 a2)) ([.int a1, .int a2] : List Value).toArray s 0 0 (fun _ => False)) (F0 m 33 ls []) := by
    intro ls v2 v3 v4 hv33 hl
    refine lv_iload_n hx hb dMod_two_33 rfl (lv_at hl 0 rfl) ?_
    refine lv_bipush (v := 12) hx hb dMod_two_34 (by decide) ?_
    refine lv_iconst (v := 1) hx hb dMod_two_36 (by decide) ?_
    refine lv_iconst (v := 5) hx hb dMod_two_37 (by decide) ?_
    refine mk_callR (va_runS (As := [.int a1, .int 12, .int 1, .int 5]) (rest := []) ⟨hx, hb, hml, hown, hts⟩ (mc_RiscHartModel_bit l s.heap a1 12 1 5) (va_cwS 4 hts (mk_gS tw_674 tw_675 tw_48 tw_676) rfl rfl rfl hdMod_bit.2 ⟨Nat.le_of_ble_eq_true rfl, Nat.le_of_ble_eq_true rfl⟩) mk_preS rfl rfl hl.1 rfl (lv_room (Nat.le_of_ble_eq_true rfl)) dMod_two_38 ⟨Nat.zero_le _, Nat.zero_le _⟩) ?_
    refine lv_iload_n hx hb dMod_two_41 rfl (lv_at hl 0 rfl) ?_
    refine lv_iconst (v := 4) hx hb dMod_two_42 (by decide) ?_
    refine lv_iconst (v := 3) hx hb dMod_two_43 (by decide) ?_
    refine lv_iconst (v := 2) hx hb dMod_two_44 (by decide) ?_
    refine mk_callR (va_runS (As := [.int a1, .int 4, .int 3, .int 2]) (rest := [.int (mf_RiscHartModel_bit a1 12 1 5)]) ⟨hx, hb, hml, hown, hts⟩ (mc_RiscHartModel_bit l s.heap a1 4 3 2) (va_cwS 4 hts (mk_gS tw_674 tw_675 tw_48 tw_676) rfl rfl rfl hdMod_bit.2 ⟨Nat.le_of_ble_eq_true rfl, Nat.le_of_ble_eq_true rfl⟩) mk_preS rfl rfl hl.1 rfl (lv_room (Nat.le_of_ble_eq_true rfl)) dMod_two_45 ⟨Nat.zero_le _, Nat.zero_le _⟩) ?_
    refine lv_ior hx hb dMod_two_48 ?_
    refine lv_iload_n hx hb dMod_two_49 rfl (lv_at hl 0 rfl) ?_
    refine lv_iconst (v := 2) hx hb dMod_two_50 (by decide) ?_
    refine lv_iconst (v := 2) hx hb dMod_two_51 (by decide) ?_
    refine lv_bipush (v := 6) hx hb dMod_two_52 (by decide) ?_
    refine mk_callR (va_runS (As := [.int a1, .int 2, .int 2, .int 6]) (rest := [.int ((mf_RiscHartModel_bit a1 12 1 5) ||| (mf_RiscHartModel_bit a1 4 3 2))]) ⟨hx, hb, hml, hown, hts⟩ (mc_RiscHartModel_bit l s.heap a1 2 2 6) (va_cwS 4 hts (mk_gS tw_674 tw_675 tw_48 tw_676) rfl rfl rfl hdMod_bit.2 ⟨Nat.le_of_ble_eq_true rfl, Nat.le_of_ble_eq_true rfl⟩) mk_preS rfl rfl hl.1 rfl (lv_room (Nat.le_of_ble_eq_true rfl)) dMod_two_54 ⟨Nat.zero_le _, Nat.zero_le _⟩) ?_
    refine lv_ior hx hb dMod_two_57 ?_
    refine lv_istore (lv' := [(5, .int (((mf_RiscHartModel_bit a1 12 1 5) ||| (mf_RiscHartModel_bit a1 4 3 2)) ||| (mf_RiscHartModel_bit a1 2 2 6))), (0, .int a1), (1, .int a2), (2, .int v2), (3, .int v3), (4, .int v4)]) hx hb dMod_two_58 hl (by decide) rfl (fun ls hl => ?_)
    refine lv_iload_n hx hb dMod_two_60 rfl (lv_at hl 1 rfl) ?_
    refine lv_bipush (v := 9) hx hb dMod_two_61 (by decide) ?_
    refine lv_iconst (v := 4) hx hb dMod_two_63 (by decide) ?_
    refine lv_iconst (v := 2) hx hb dMod_two_64 (by decide) ?_
    refine mk_callR (va_runS (As := [.int a1, .int 9, .int 4, .int 2]) (rest := []) ⟨hx, hb, hml, hown, hts⟩ (mc_RiscHartModel_bit l s.heap a1 9 4 2) (va_cwS 4 hts (mk_gS tw_674 tw_675 tw_48 tw_676) rfl rfl rfl hdMod_bit.2 ⟨Nat.le_of_ble_eq_true rfl, Nat.le_of_ble_eq_true rfl⟩) mk_preS rfl rfl hl.1 rfl (lv_room (Nat.le_of_ble_eq_true rfl)) dMod_two_65 ⟨Nat.zero_le _, Nat.zero_le _⟩) ?_
    refine lv_iload_n hx hb dMod_two_68 rfl (lv_at hl 1 rfl) ?_
    refine lv_bipush (v := 7) hx hb dMod_two_69 (by decide) ?_
    refine lv_iconst (v := 2) hx hb dMod_two_71 (by decide) ?_
    refine lv_bipush (v := 6) hx hb dMod_two_72 (by decide) ?_
    refine mk_callR (va_runS (As := [.int a1, .int 7, .int 2, .int 6]) (rest := [.int (mf_RiscHartModel_bit a1 9 4 2)]) ⟨hx, hb, hml, hown, hts⟩ (mc_RiscHartModel_bit l s.heap a1 7 2 6) (va_cwS 4 hts (mk_gS tw_674 tw_675 tw_48 tw_676) rfl rfl rfl hdMod_bit.2 ⟨Nat.le_of_ble_eq_true rfl, Nat.le_of_ble_eq_true rfl⟩) mk_preS rfl rfl hl.1 rfl (lv_room (Nat.le_of_ble_eq_true rfl)) dMod_two_74 ⟨Nat.zero_le _, Nat.zero_le _⟩) ?_
    refine lv_ior hx hb dMod_two_77 ?_
    refine lv_istore (lv' := [(6, .int ((mf_RiscHartModel_bit a1 9 4 2) ||| (mf_RiscHartModel_bit a1 7 2 6))), (5, .int (((mf_RiscHartModel_bit a1 12 1 5) ||| (mf_RiscHartModel_bit a1 4 3 2)) ||| (mf_RiscHartModel_bit a1 2 2 6))), (0, .int a1), (1, .int a2), (2, .int v2), (3, .int v3), (4, .int v4)]) hx hb dMod_two_78 hl (by decide) rfl (fun ls hl => ?_)
    refine lv_iload_n hx hb dMod_two_80 rfl (lv_at hl 3 rfl) ?_
    refine lv_if_ne (tgt := 103) hx hb dMod_two_81 (by decide) (fun c_1 => ?_) (fun c_1 => ?_)
    · refine lv_iload_n hx hb dMod_two_103 rfl (lv_at hl 3 rfl) ?_
      refine lv_iconst (v := 2) hx hb dMod_two_104 (by decide) ?_
      refine lv_icmp_ne (tgt := 126) hx hb dMod_two_105 (by decide) (fun c_2 => ?_) (fun c_2 => ?_)
      · refine lv_iload_n hx hb dMod_two_126 rfl (lv_at hl 3 rfl) ?_
        refine lv_bipush (v := 6) hx hb dMod_two_127 (by decide) ?_
        refine lv_icmp_ne (tgt := 140) hx hb dMod_two_129 (by decide) (fun c_3 => ?_) (fun c_3 => ?_)
        · refine lv_iload_n hx hb dMod_two_140 rfl (lv_at hl 3 rfl) ?_
          refine lv_iconst (v := 4) hx hb dMod_two_141 (by decide) ?_
          refine lv_icmp_eq (tgt := 147) hx hb dMod_two_142 (by decide) (fun c_4 => ?_) (fun c_4 => ?_)
          · refine lv_iload_n hx hb dMod_two_147 rfl (lv_at hl 5 rfl) ?_
            refine lv_if_le (tgt := 169) hx hb dMod_two_148 (by decide) (fun c_5 => ?_) (fun c_5 => ?_)
            · refine lv_iload_n hx hb dMod_two_169 rfl (lv_at hl 4 rfl) ?_
              refine lv_if_ne (tgt := 185) hx hb dMod_two_170 (by decide) (fun c_6 => ?_) (fun c_6 => ?_)
              · refine lv_bipush (v := 103) hx hb dMod_two_185 (by decide) ?_
                refine lv_iconst (v := 0) hx hb dMod_two_187 (by decide) ?_
                refine lv_iload hx hb dMod_two_188 (lv_at hl 6 rfl) ?_
                refine lv_if_eq (tgt := 197) hx hb dMod_two_190 (by decide) (fun c_7 => ?_) (fun c_7 => ?_)
                · refine lv_iconst (v := 0) hx hb dMod_two_197 (by decide) ?_
                  refine lv_iload_n hx hb dMod_two_198 rfl (lv_at hl 4 rfl) ?_
                  refine lv_iconst (v := 0) hx hb dMod_two_199 (by decide) ?_
                  refine mk_callR (va_runS (As := [.int 103, .int 0, .int 0, .int v2, .int 0]) (rest := []) ⟨hx, hb, hml, hown, hts⟩ (mc_RiscHartModel_immediate l s.heap 103 0 0 v2 0) (va_cwS 5 hts (mk_gS tw_677 tw_678 tw_48 tw_679) rfl rfl rfl hdMod_immediate.2 ⟨Nat.le_of_ble_eq_true rfl, Nat.le_of_ble_eq_true rfl⟩) mk_preS rfl rfl hl.1 rfl (lv_room (Nat.le_of_ble_eq_true rfl)) dMod_two_200 ⟨Nat.zero_le _, Nat.zero_le _⟩) ?_
                  exact W.iret hx hb hr (fun t ht hW => ⟨⟨_, (), rfl, (by rw [hv33]; unfold mf_RiscHartModel_two_t33; rw [if_neg c_1, if_neg c_2, if_neg c_3, if_pos c_4, if_pos c_5, if_neg c_6, if_pos c_7]), ht⟩, mk_F ht⟩) (fun q h => nomatch h) dMod_two_203
                · refine lv_iconst (v := 1) hx hb dMod_two_193 (by decide) ?_
                  refine lv_goto (tgt := 198) hx hb dMod_two_194 (by decide) ?_
                  refine lv_iload_n hx hb dMod_two_198 rfl (lv_at hl 4 rfl) ?_
                  refine lv_iconst (v := 0) hx hb dMod_two_199 (by decide) ?_
                  refine mk_callR (va_runS (As := [.int 103, .int 0, .int 1, .int v2, .int 0]) (rest := []) ⟨hx, hb, hml, hown, hts⟩ (mc_RiscHartModel_immediate l s.heap 103 0 1 v2 0) (va_cwS 5 hts (mk_gS tw_677 tw_678 tw_48 tw_679) rfl rfl rfl hdMod_immediate.2 ⟨Nat.le_of_ble_eq_true rfl, Nat.le_of_ble_eq_true rfl⟩) mk_preS rfl rfl hl.1 rfl (lv_room (Nat.le_of_ble_eq_true rfl)) dMod_two_200 ⟨Nat.zero_le _, Nat.zero_le _⟩) ?_
                  exact W.iret hx hb hr (fun t ht hW => ⟨⟨_, (), rfl, (by rw [hv33]; unfold mf_RiscHartModel_two_t33; rw [if_neg c_1, if_neg c_2, if_neg c_3, if_pos c_4, if_pos c_5, if_neg c_6, if_neg c_7]), ht⟩, mk_F ht⟩) (fun q h => nomatch h) dMod_two_203
              · refine lv_iload hx hb dMod_two_173 (lv_at hl 6 rfl) ?_
                refine lv_if_eq (tgt := 183) hx hb dMod_two_175 (by decide) (fun c_8 => ?_) (fun c_8 => ?_)
                · refine lv_iconst (v := 0) hx hb dMod_two_183 (by decide) ?_
                  exact W.iret hx hb hr (fun t ht hW => ⟨⟨_, (), rfl, (by rw [hv33]; unfold mf_RiscHartModel_two_t33; rw [if_neg c_1, if_neg c_2, if_neg c_3, if_pos c_4, if_pos c_5, if_pos c_6, if_pos c_8]), ht⟩, mk_F ht⟩) (fun q h => nomatch h) dMod_two_184
                · refine lv_ldc (v := 1048691) hx hb hown (hg _ tw_704) dMod_two_178 ?_
                  refine lv_goto (tgt := 184) hx hb dMod_two_180 (by decide) ?_
                  exact W.iret hx hb hr (fun t ht hW => ⟨⟨_, (), rfl, (by rw [hv33]; unfold mf_RiscHartModel_two_t33; rw [if_neg c_1, if_neg c_2, if_neg c_3, if_pos c_4, if_pos c_5, if_pos c_6, if_neg c_8]), ht⟩, mk_F ht⟩) (fun q h => nomatch h) dMod_two_184
            · refine lv_iconst (v := 0) hx hb dMod_two_151 (by decide) ?_
              refine lv_iconst (v := 0) hx hb dMod_two_152 (by decide) ?_
              refine lv_iload_n hx hb dMod_two_153 rfl (lv_at hl 4 rfl) ?_
              refine lv_iload hx hb dMod_two_154 (lv_at hl 6 rfl) ?_
              refine lv_if_eq (tgt := 163) hx hb dMod_two_156 (by decide) (fun c_9 => ?_) (fun c_9 => ?_)
              · refine lv_iconst (v := 0) hx hb dMod_two_163 (by decide) ?_
                refine lv_iload_n hx hb dMod_two_164 rfl (lv_at hl 5 rfl) ?_
                refine mk_callR (va_runS (As := [.int 0, .int 0, .int v2, .int 0, .int v3]) (rest := []) ⟨hx, hb, hml, hown, hts⟩ (mc_RiscHartModel_registers l s.heap 0 0 v2 0 v3) (va_cwS 5 hts (mk_gS tw_695 tw_696 tw_48 tw_697) rfl rfl rfl hdMod_registers.2 ⟨Nat.le_of_ble_eq_true rfl, Nat.le_of_ble_eq_true rfl⟩) mk_preS rfl rfl hl.1 rfl (lv_room (Nat.le_of_ble_eq_true rfl)) dMod_two_165 ⟨Nat.zero_le _, Nat.zero_le _⟩) ?_
                exact W.iret hx hb hr (fun t ht hW => ⟨⟨_, (), rfl, (by rw [hv33]; unfold mf_RiscHartModel_two_t33; rw [if_neg c_1, if_neg c_2, if_neg c_3, if_pos c_4, if_neg c_5, if_pos c_9]), ht⟩, mk_F ht⟩) (fun q h => nomatch h) dMod_two_168
              · refine lv_iload_n hx hb dMod_two_159 rfl (lv_at hl 4 rfl) ?_
                refine lv_goto (tgt := 164) hx hb dMod_two_160 (by decide) ?_
                refine lv_iload_n hx hb dMod_two_164 rfl (lv_at hl 5 rfl) ?_
                refine mk_callR (va_runS (As := [.int 0, .int 0, .int v2, .int v2, .int v3]) (rest := []) ⟨hx, hb, hml, hown, hts⟩ (mc_RiscHartModel_registers l s.heap 0 0 v2 v2 v3) (va_cwS 5 hts (mk_gS tw_695 tw_696 tw_48 tw_697) rfl rfl rfl hdMod_registers.2 ⟨Nat.le_of_ble_eq_true rfl, Nat.le_of_ble_eq_true rfl⟩) mk_preS rfl rfl hl.1 rfl (lv_room (Nat.le_of_ble_eq_true rfl)) dMod_two_165 ⟨Nat.zero_le _, Nat.zero_le _⟩) ?_
                exact W.iret hx hb hr (fun t ht hW => ⟨⟨_, (), rfl, (by rw [hv33]; unfold mf_RiscHartModel_two_t33; rw [if_neg c_1, if_neg c_2, if_neg c_3, if_pos c_4, if_neg c_5, if_neg c_9]), ht⟩, mk_F ht⟩) (fun q h => nomatch h) dMod_two_168
          · refine lv_iconst (v := 0) hx hb dMod_two_145 (by decide) ?_
            exact W.iret hx hb hr (fun t ht hW => ⟨⟨_, (), rfl, (by rw [hv33]; unfold mf_RiscHartModel_two_t33; rw [if_neg c_1, if_neg c_2, if_neg c_3, if_neg c_4]), ht⟩, mk_F ht⟩) (fun q h => nomatch h) dMod_two_146
        · refine lv_iconst (v := 2) hx hb dMod_two_132 (by decide) ?_
          refine lv_iload_n hx hb dMod_two_133 rfl (lv_at hl 5 rfl) ?_
          refine lv_iload hx hb dMod_two_134 (lv_at hl 0 rfl) ?_
          refine mk_callR (va_runS (As := [.int 2, .int v3, .int ((mf_RiscHartModel_bit a1 9 4 2) ||| (mf_RiscHartModel_bit a1 7 2 6))]) (rest := []) ⟨hx, hb, hml, hown, hts⟩ (mc_RiscHartModel_store l s.heap 2 v3 ((mf_RiscHartModel_bit a1 9 4 2) ||| (mf_RiscHartModel_bit a1 7 2 6))) (va_cwS 3 hts (mk_gS tw_680 tw_681 tw_48 tw_682) rfl rfl rfl hdMod_store.2 ⟨Nat.le_of_ble_eq_true rfl, Nat.le_of_ble_eq_true rfl⟩) mk_preS rfl rfl hl.1 rfl (lv_room (Nat.le_of_ble_eq_true rfl)) dMod_two_136 ⟨Nat.zero_le _, Nat.zero_le _⟩) ?_
          exact W.iret hx hb hr (fun t ht hW => ⟨⟨_, (), rfl, (by rw [hv33]; unfold mf_RiscHartModel_two_t33; rw [if_neg c_1, if_neg c_2, if_pos c_3]), ht⟩, mk_F ht⟩) (fun q h => nomatch h) dMod_two_139
      · refine lv_iload_n hx hb dMod_two_108 rfl (lv_at hl 4 rfl) ?_
        refine lv_if_ne (tgt := 116) hx hb dMod_two_109 (by decide) (fun c_10 => ?_) (fun c_10 => ?_)
        · refine lv_iconst (v := 3) hx hb dMod_two_116 (by decide) ?_
          refine lv_iconst (v := 2) hx hb dMod_two_117 (by decide) ?_
          refine lv_iload_n hx hb dMod_two_118 rfl (lv_at hl 4 rfl) ?_
          refine lv_iconst (v := 2) hx hb dMod_two_119 (by decide) ?_
          refine lv_iload hx hb dMod_two_120 (lv_at hl 1 rfl) ?_
          refine mk_callR (va_runS (As := [.int 3, .int 2, .int v2, .int 2, .int (((mf_RiscHartModel_bit a1 12 1 5) ||| (mf_RiscHartModel_bit a1 4 3 2)) ||| (mf_RiscHartModel_bit a1 2 2 6))]) (rest := []) ⟨hx, hb, hml, hown, hts⟩ (mc_RiscHartModel_immediate l s.heap 3 2 v2 2 (((mf_RiscHartModel_bit a1 12 1 5) ||| (mf_RiscHartModel_bit a1 4 3 2)) ||| (mf_RiscHartModel_bit a1 2 2 6))) (va_cwS 5 hts (mk_gS tw_677 tw_678 tw_48 tw_679) rfl rfl rfl hdMod_immediate.2 ⟨Nat.le_of_ble_eq_true rfl, Nat.le_of_ble_eq_true rfl⟩) mk_preS rfl rfl hl.1 rfl (lv_room (Nat.le_of_ble_eq_true rfl)) dMod_two_122 ⟨Nat.zero_le _, Nat.zero_le _⟩) ?_
          exact W.iret hx hb hr (fun t ht hW => ⟨⟨_, (), rfl, (by rw [hv33]; unfold mf_RiscHartModel_two_t33; rw [if_neg c_1, if_pos c_2, if_neg c_10]), ht⟩, mk_F ht⟩) (fun q h => nomatch h) dMod_two_125
        · refine lv_iconst (v := 0) hx hb dMod_two_112 (by decide) ?_
          refine lv_goto (tgt := 125) hx hb dMod_two_113 (by decide) ?_
          exact W.iret hx hb hr (fun t ht hW => ⟨⟨_, (), rfl, (by rw [hv33]; unfold mf_RiscHartModel_two_t33; rw [if_neg c_1, if_pos c_2, if_pos c_10]), ht⟩, mk_F ht⟩) (fun q h => nomatch h) dMod_two_125
    · refine lv_iload hx hb dMod_two_84 (lv_at hl 6 rfl) ?_
      refine lv_if_eq (tgt := 93) hx hb dMod_two_86 (by decide) (fun c_11 => ?_) (fun c_11 => ?_)
      · refine lv_bipush (v := 19) hx hb dMod_two_93 (by decide) ?_
        refine lv_iconst (v := 1) hx hb dMod_two_95 (by decide) ?_
        refine lv_iload_n hx hb dMod_two_96 rfl (lv_at hl 4 rfl) ?_
        refine lv_iload_n hx hb dMod_two_97 rfl (lv_at hl 4 rfl) ?_
        refine lv_iload_n hx hb dMod_two_98 rfl (lv_at hl 5 rfl) ?_
        refine mk_callR (va_runS (As := [.int 19, .int 1, .int v2, .int v2, .int v3]) (rest := []) ⟨hx, hb, hml, hown, hts⟩ (mc_RiscHartModel_immediate l s.heap 19 1 v2 v2 v3) (va_cwS 5 hts (mk_gS tw_677 tw_678 tw_48 tw_679) rfl rfl rfl hdMod_immediate.2 ⟨Nat.le_of_ble_eq_true rfl, Nat.le_of_ble_eq_true rfl⟩) mk_preS rfl rfl hl.1 rfl (lv_room (Nat.le_of_ble_eq_true rfl)) dMod_two_99 ⟨Nat.zero_le _, Nat.zero_le _⟩) ?_
        exact W.iret hx hb hr (fun t ht hW => ⟨⟨_, (), rfl, (by rw [hv33]; unfold mf_RiscHartModel_two_t33; rw [if_pos c_1, if_pos c_11]), ht⟩, mk_F ht⟩) (fun q h => nomatch h) dMod_two_102
      · refine lv_iconst (v := 0) hx hb dMod_two_89 (by decide) ?_
        refine lv_goto (tgt := 102) hx hb dMod_two_90 (by decide) ?_
        exact W.iret hx hb hr (fun t ht hW => ⟨⟨_, (), rfl, (by rw [hv33]; unfold mf_RiscHartModel_two_t33; rw [if_pos c_1, if_neg c_11]), ht⟩, mk_F ht⟩) (fun q h => nomatch h) dMod_two_102
  refine lv_iload_n hx hb dMod_two_0 rfl (lv_at hl 0 rfl) ?_
  refine lv_bipush (v := 7) hx hb dMod_two_1 (by decide) ?_
  refine lv_iconst (v := 5) hx hb dMod_two_3 (by decide) ?_
  refine mk_callR (va_runS (As := [.int a1, .int 7, .int 5]) (rest := []) ⟨hx, hb, hml, hown, hts⟩ (mc_RiscHartModel_part l s.heap a1 7 5) (va_cwS 3 hts (mk_gS tw_668 tw_669 tw_48 tw_670) rfl rfl rfl hdMod_part.2 ⟨Nat.le_of_ble_eq_true rfl, Nat.le_of_ble_eq_true rfl⟩) mk_preS rfl rfl hl.1 rfl (lv_room (Nat.le_of_ble_eq_true rfl)) dMod_two_4 ⟨Nat.zero_le _, Nat.zero_le _⟩) ?_
  refine lv_istore_n (lv' := [(2, .int (mf_RiscHartModel_part a1 7 5)), (0, .int a1), (1, .int a2)]) hx hb dMod_two_7 rfl hl (by decide) rfl (fun ls hl => ?_)
  refine lv_iload_n hx hb dMod_two_8 rfl (lv_at hl 1 rfl) ?_
  refine lv_iconst (v := 2) hx hb dMod_two_9 (by decide) ?_
  refine lv_iconst (v := 5) hx hb dMod_two_10 (by decide) ?_
  refine mk_callR (va_runS (As := [.int a1, .int 2, .int 5]) (rest := []) ⟨hx, hb, hml, hown, hts⟩ (mc_RiscHartModel_part l s.heap a1 2 5) (va_cwS 3 hts (mk_gS tw_668 tw_669 tw_48 tw_670) rfl rfl rfl hdMod_part.2 ⟨Nat.le_of_ble_eq_true rfl, Nat.le_of_ble_eq_true rfl⟩) mk_preS rfl rfl hl.1 rfl (lv_room (Nat.le_of_ble_eq_true rfl)) dMod_two_11 ⟨Nat.zero_le _, Nat.zero_le _⟩) ?_
  refine lv_istore_n (lv' := [(3, .int (mf_RiscHartModel_part a1 2 5)), (2, .int (mf_RiscHartModel_part a1 7 5)), (0, .int a1), (1, .int a2)]) hx hb dMod_two_14 rfl hl (by decide) rfl (fun ls hl => ?_)
  refine lv_iload_n hx hb dMod_two_15 rfl (lv_at hl 2 rfl) ?_
  refine lv_bipush (v := 12) hx hb dMod_two_16 (by decide) ?_
  refine lv_iconst (v := 1) hx hb dMod_two_18 (by decide) ?_
  refine mk_callR (va_runS (As := [.int a1, .int 12, .int 1]) (rest := []) ⟨hx, hb, hml, hown, hts⟩ (mc_RiscHartModel_part l s.heap a1 12 1) (va_cwS 3 hts (mk_gS tw_668 tw_669 tw_48 tw_670) rfl rfl rfl hdMod_part.2 ⟨Nat.le_of_ble_eq_true rfl, Nat.le_of_ble_eq_true rfl⟩) mk_preS rfl rfl hl.1 rfl (lv_room (Nat.le_of_ble_eq_true rfl)) dMod_two_19 ⟨Nat.zero_le _, Nat.zero_le _⟩) ?_
  refine lv_iconst (v := 1) hx hb dMod_two_22 (by decide) ?_
  refine lv_icmp_ne (tgt := 30) hx hb dMod_two_23 (by decide) (fun c_12 => ?_) (fun c_12 => ?_)
  · refine lv_iconst (v := 0) hx hb dMod_two_30 (by decide) ?_
    refine lv_istore (lv' := [(4, .int 0), (3, .int (mf_RiscHartModel_part a1 2 5)), (2, .int (mf_RiscHartModel_part a1 7 5)), (0, .int a1), (1, .int a2)]) hx hb dMod_two_31 hl (by decide) rfl (fun ls hl => ?_)
    exact tail_33 ls (mf_RiscHartModel_part a1 7 5) (mf_RiscHartModel_part a1 2 5) 0 (by unfold mf_RiscHartModel_two; rw [if_neg c_12]) (lv_sub hl [3, 4, 2, 1, 0] rfl)
  · refine lv_iconst (v := 1) hx hb dMod_two_26 (by decide) ?_
    refine lv_goto (tgt := 31) hx hb dMod_two_27 (by decide) ?_
    refine lv_istore (lv' := [(4, .int 1), (3, .int (mf_RiscHartModel_part a1 2 5)), (2, .int (mf_RiscHartModel_part a1 7 5)), (0, .int a1), (1, .int a2)]) hx hb dMod_two_31 hl (by decide) rfl (fun ls hl => ?_)
    exact tail_33 ls (mf_RiscHartModel_part a1 7 5) (mf_RiscHartModel_part a1 2 5) 1 (by unfold mf_RiscHartModel_two; rw [if_pos c_12]) (lv_sub hl [3, 4, 2, 1, 0] rfl)
set_option maxHeartbeats 4000000 in
set_option maxRecDepth 100000 in
theorem mc_RiscHartModel_expand (l : Launch) (G : Heap) (a1 : Int32)  : Met l yMod_expand (wq yMod_expand cMod_expand 3 (some .int)) ({ frames := 4, cells := 0, slots := 0, locals := 93 }) (mk_P G [.int a1]) (mk_Qi G (mf_RiscHartModel_expand a1)) 0 0 (fun _ => False) := by
  refine Met.ofW (cc := cMod_expand) (maxL := 3) (ret := (some .int)) (by decide) rfl ?_
  intro p e s m args below meth c s₁ B hml hv
  obtain ⟨rfl, hG⟩ := hv
  subst hG
  have hx := B.exec
  have hb := B.bytes
  have hr := B.returns
  have hts := atoms_spec (ws := (wq yMod_expand cMod_expand 3 (some .int))) B.pre
  have hown : s.vm.findClass RMod = some m.cls := findClass_of_methodNamed B.named
  have hlocks := B.notSynchronized
  have hg : ∀ w ∈ lw_g, w.before _ s = true := fun w h => hts w (List.mem_cons_of_mem _ h)
  have hl := lv_entry ([.int a1]) (n := 3) (Nat.le_of_ble_eq_true rfl)
  rw [lg_entry_eq]
  generalize (lg_sl ([.int a1]) ++ List.replicate (3 - (lg_sl ([.int a1])).length) Slot.unset).toArray = ls at hl ⊢
  have hl : lv_has ls 3 [(0, .int a1)] := hl
  refine lv_iload_n hx hb dMod_expand_0 rfl (lv_at hl 0 rfl) ?_
  refine lv_iconst (v := 0) hx hb dMod_expand_1 (by decide) ?_
  refine lv_iconst (v := 2) hx hb dMod_expand_2 (by decide) ?_
  refine mk_callR (va_runS (As := [.int a1, .int 0, .int 2]) (rest := []) ⟨hx, hb, hml, hown, hts⟩ (mc_RiscHartModel_part l s.heap a1 0 2) (va_cwS 3 hts (mk_gS tw_668 tw_669 tw_48 tw_670) rfl rfl rfl hdMod_part.2 ⟨Nat.le_of_ble_eq_true rfl, Nat.le_of_ble_eq_true rfl⟩) mk_preS rfl rfl hl.1 rfl (lv_room (Nat.le_of_ble_eq_true rfl)) dMod_expand_3 ⟨Nat.zero_le _, Nat.zero_le _⟩) ?_
  refine lv_istore_n (lv' := [(1, .int (mf_RiscHartModel_part a1 0 2)), (0, .int a1)]) hx hb dMod_expand_6 rfl hl (by decide) rfl (fun ls hl => ?_)
  refine lv_iload_n hx hb dMod_expand_7 rfl (lv_at hl 1 rfl) ?_
  refine lv_bipush (v := 13) hx hb dMod_expand_8 (by decide) ?_
  refine lv_iconst (v := 3) hx hb dMod_expand_10 (by decide) ?_
  refine mk_callR (va_runS (As := [.int a1, .int 13, .int 3]) (rest := []) ⟨hx, hb, hml, hown, hts⟩ (mc_RiscHartModel_part l s.heap a1 13 3) (va_cwS 3 hts (mk_gS tw_668 tw_669 tw_48 tw_670) rfl rfl rfl hdMod_part.2 ⟨Nat.le_of_ble_eq_true rfl, Nat.le_of_ble_eq_true rfl⟩) mk_preS rfl rfl hl.1 rfl (lv_room (Nat.le_of_ble_eq_true rfl)) dMod_expand_11 ⟨Nat.zero_le _, Nat.zero_le _⟩) ?_
  refine lv_istore_n (lv' := [(2, .int (mf_RiscHartModel_part a1 13 3)), (1, .int (mf_RiscHartModel_part a1 0 2)), (0, .int a1)]) hx hb dMod_expand_14 rfl hl (by decide) rfl (fun ls hl => ?_)
  refine lv_iload_n hx hb dMod_expand_15 rfl (lv_at hl 1 rfl) ?_
  refine lv_if_ne (tgt := 27) hx hb dMod_expand_16 (by decide) (fun c_1 => ?_) (fun c_1 => ?_)
  · refine lv_iload_n hx hb dMod_expand_27 rfl (lv_at hl 1 rfl) ?_
    refine lv_iconst (v := 1) hx hb dMod_expand_28 (by decide) ?_
    refine lv_icmp_ne (tgt := 40) hx hb dMod_expand_29 (by decide) (fun c_2 => ?_) (fun c_2 => ?_)
    · refine lv_iload_n hx hb dMod_expand_40 rfl (lv_at hl 2 rfl) ?_
      refine lv_iload_n hx hb dMod_expand_41 rfl (lv_at hl 0 rfl) ?_
      refine mk_callR (va_runS (As := [.int a1, .int (mf_RiscHartModel_part a1 13 3)]) (rest := []) ⟨hx, hb, hml, hown, hts⟩ (mc_RiscHartModel_two l s.heap a1 (mf_RiscHartModel_part a1 13 3)) (va_cwS 2 hts (mk_gS tw_701 tw_702 tw_48 tw_703) rfl rfl rfl hdMod_two.2 ⟨Nat.le_of_ble_eq_true rfl, Nat.le_of_ble_eq_true rfl⟩) mk_preS rfl rfl hl.1 rfl (lv_room (Nat.le_of_ble_eq_true rfl)) dMod_expand_42 ⟨Nat.zero_le _, Nat.zero_le _⟩) ?_
      exact W.iret hx hb hr (fun t ht hW => ⟨⟨_, (), rfl, (by unfold mf_RiscHartModel_expand; rw [if_neg c_1, if_neg c_2]), ht⟩, mk_F ht⟩) (fun q h => nomatch h) dMod_expand_45
    · refine lv_iload_n hx hb dMod_expand_32 rfl (lv_at hl 2 rfl) ?_
      refine lv_iload_n hx hb dMod_expand_33 rfl (lv_at hl 0 rfl) ?_
      refine mk_callR (va_runS (As := [.int a1, .int (mf_RiscHartModel_part a1 13 3)]) (rest := []) ⟨hx, hb, hml, hown, hts⟩ (mc_RiscHartModel_one l s.heap a1 (mf_RiscHartModel_part a1 13 3)) (va_cwS 2 hts (mk_gS tw_683 tw_684 tw_48 tw_685) rfl rfl rfl hdMod_one.2 ⟨Nat.le_of_ble_eq_true rfl, Nat.le_of_ble_eq_true rfl⟩) mk_preS rfl rfl hl.1 rfl (lv_room (Nat.le_of_ble_eq_true rfl)) dMod_expand_34 ⟨Nat.zero_le _, Nat.zero_le _⟩) ?_
      refine lv_goto (tgt := 45) hx hb dMod_expand_37 (by decide) ?_
      exact W.iret hx hb hr (fun t ht hW => ⟨⟨_, (), rfl, (by unfold mf_RiscHartModel_expand; rw [if_neg c_1, if_pos c_2]), ht⟩, mk_F ht⟩) (fun q h => nomatch h) dMod_expand_45
  · refine lv_iload_n hx hb dMod_expand_19 rfl (lv_at hl 2 rfl) ?_
    refine lv_iload_n hx hb dMod_expand_20 rfl (lv_at hl 0 rfl) ?_
    refine mk_callR (va_runS (As := [.int a1, .int (mf_RiscHartModel_part a1 13 3)]) (rest := []) ⟨hx, hb, hml, hown, hts⟩ (mc_RiscHartModel_zero l s.heap a1 (mf_RiscHartModel_part a1 13 3)) (va_cwS 2 hts (mk_gS tw_671 tw_672 tw_48 tw_673) rfl rfl rfl hdMod_zero.2 ⟨Nat.le_of_ble_eq_true rfl, Nat.le_of_ble_eq_true rfl⟩) mk_preS rfl rfl hl.1 rfl (lv_room (Nat.le_of_ble_eq_true rfl)) dMod_expand_21 ⟨Nat.zero_le _, Nat.zero_le _⟩) ?_
    refine lv_goto (tgt := 45) hx hb dMod_expand_24 (by decide) ?_
    exact W.iret hx hb hr (fun t ht hW => ⟨⟨_, (), rfl, (by unfold mf_RiscHartModel_expand; rw [if_pos c_1]), ht⟩, mk_F ht⟩) (fun q h => nomatch h) dMod_expand_45
set_option maxHeartbeats 4000000 in
set_option maxRecDepth 100000 in
theorem mc_RiscHartModel_trap (l : Launch) {D : va_G} {cB cO cX : ClassId} {m0 m1 m2 m3 : Nat} {A : Nat → Prop} {st : MS} {G : Heap} (hP : va_P D hcl (ms_W cB cO cX m0 m1 m2 m3 st) G) (hD : ∀ z, va_D A (ms_W cB cO cX m0 m1 m2 m3 z)) (a1 : Int32) (a2 : Int32)  : Met l yMod_trap (wq yMod_trap cMod_trap 3 (some .int)) ({ frames := 0, cells := 0, slots := 0, locals := 0 }) (mk_PK D hcl [(cB, .int), (cO, .int), (cX, .int)] G [.ref m0, .int a1, .int a2]) (mk_Wi (fun u t => va_P D hcl (ms_W cB cO cX m0 m1 m2 m3 u) t) A (mf_RiscHartModel_trap st a1 a2)) 0 0 A := by
  refine Met.ofW (cc := cMod_trap) (maxL := 3) (ret := (some .int)) (by decide) rfl ?_
  intro p e s m args below meth c s₁ B hml hv
  obtain ⟨rfl, hG, hK⟩ := hv
  subst hG
  have hx := B.exec
  have hb := B.bytes
  have hr := B.returns
  have hts := atoms_spec (ws := (wq yMod_trap cMod_trap 3 (some .int))) B.pre
  have hown : s.vm.findClass RMod = some m.cls := findClass_of_methodNamed B.named
  have hlocks := B.notSynchronized
  have hg : ∀ w ∈ lw_g, w.before _ s = true := fun w h => hts w (List.mem_cons_of_mem _ h)
  have hS : va_S A s.heap s.heap [] := va_S.rf
  have hl := lv_entry ([.ref m0, .int a1, .int a2]) (n := 3) (Nat.le_of_ble_eq_true rfl)
  rw [lg_entry_eq]
  generalize (lg_sl ([.ref m0, .int a1, .int a2]) ++ List.replicate (3 - (lg_sl ([.ref m0, .int a1, .int a2])).length) Slot.unset).toArray = ls at hl ⊢
  have hl : lv_has ls 3 [(0, .ref m0), (1, .int a1), (2, .int a2)] := hl
  refine lv_aload_n hx hb dMod_trap_0 rfl (lv_at hl 0 rfl) ?_
  refine lv_iload_n hx hb dMod_trap_1 rfl (lv_at hl 1 rfl) ?_
  refine va_put (D := D) (ci := 2) (v := .int a1) (ty := .int) (C := RMod) (T := TMod) (N := 14) hx hb hg inMod tyMod tyMod_ok nmMod hown hK hP (hD _) hS 0 rfl rfl 5 (by decide) (hg _ tw_562) (fun _ h9 => h9) rfl (by decide +kernel) rfl rfl (Nat.le_of_ble_eq_true rfl) dMod_trap_2 (fun H locs hP _ hS => ?_)
  have hP : va_P D hcl (ms_W cB cO cX m0 m1 m2 m3 (ms_set_cause st a1)) H := hP
  refine lv_aload_n hx hb dMod_trap_5 rfl (lv_at hl 0 rfl) ?_
  refine lv_iload_n hx hb dMod_trap_6 rfl (lv_at hl 2 rfl) ?_
  refine va_put (D := D) (ci := 2) (v := .int a2) (ty := .int) (C := RMod) (T := TMod) (N := 14) hx hb hg inMod tyMod tyMod_ok nmMod hown hK hP (hD _) hS 0 rfl rfl 6 (by decide) (hg _ tw_563) (fun _ h9 => h9) rfl (by decide +kernel) rfl rfl (Nat.le_of_ble_eq_true rfl) dMod_trap_7 (fun H locs hP _ hS => ?_)
  have hP : va_P D hcl (ms_W cB cO cX m0 m1 m2 m3 (ms_set_value (ms_set_cause st a1) a2)) H := hP
  refine lv_aload_n hx hb dMod_trap_10 rfl (lv_at hl 0 rfl) ?_
  refine lv_iload_n hx hb dMod_trap_11 rfl (lv_at hl 1 rfl) ?_
  refine va_put (D := D) (ci := 2) (v := .int a1) (ty := .int) (C := RMod) (T := TMod) (N := 14) hx hb hg inMod tyMod tyMod_ok nmMod hown hK hP (hD _) hS 0 rfl rfl 13 (by decide) (hg _ tw_570) (fun _ h9 => h9) rfl (by decide +kernel) rfl rfl (Nat.le_of_ble_eq_true rfl) dMod_trap_12 (fun H locs hP _ hS => ?_)
  have hP : va_P D hcl (ms_W cB cO cX m0 m1 m2 m3 (ms_set_met (ms_set_value (ms_set_cause st a1) a2) a1)) H := hP
  refine lv_iconst (v := 0) hx hb dMod_trap_15 (by decide) ?_
  exact W.iret hx hb hr (fun t ht hW => ⟨⟨_, (ms_set_met (ms_set_value (ms_set_cause st a1) a2) a1), rfl, rfl, by show va_P D hcl _ t.heap; rw [ht]; exact hP⟩, hS.F ht⟩) hS.2.2 dMod_trap_16
set_option maxHeartbeats 4000000 in
set_option maxRecDepth 100000 in
theorem mc_RiscHartModel_illegal (l : Launch) {D : va_G} {cB cO cX : ClassId} {m0 m1 m2 m3 : Nat} {A : Nat → Prop} {st : MS} {G : Heap} (hP : va_P D hcl (ms_W cB cO cX m0 m1 m2 m3 st) G) (hD : ∀ z, va_D A (ms_W cB cO cX m0 m1 m2 m3 z))   : Met l yMod_illegal (wq yMod_illegal cMod_illegal 1 (some .int)) ({ frames := 1, cells := 0, slots := 0, locals := 22 }) (mk_PK D hcl [(cB, .int), (cO, .int), (cX, .int)] G [.ref m0]) (mk_Wi (fun u t => va_P D hcl (ms_W cB cO cX m0 m1 m2 m3 u) t) A (mf_RiscHartModel_illegal st)) 0 0 A := by
  refine Met.ofW (cc := cMod_illegal) (maxL := 1) (ret := (some .int)) (by decide) rfl ?_
  intro p e s m args below meth c s₁ B hml hv
  obtain ⟨rfl, hG, hK⟩ := hv
  subst hG
  have hx := B.exec
  have hb := B.bytes
  have hr := B.returns
  have hts := atoms_spec (ws := (wq yMod_illegal cMod_illegal 1 (some .int))) B.pre
  have hown : s.vm.findClass RMod = some m.cls := findClass_of_methodNamed B.named
  have hlocks := B.notSynchronized
  have hg : ∀ w ∈ lw_g, w.before _ s = true := fun w h => hts w (List.mem_cons_of_mem _ h)
  have hS : va_S A s.heap s.heap [] := va_S.rf
  have hl := lv_entry ([.ref m0]) (n := 1) (Nat.le_of_ble_eq_true rfl)
  rw [lg_entry_eq]
  generalize (lg_sl ([.ref m0]) ++ List.replicate (1 - (lg_sl ([.ref m0])).length) Slot.unset).toArray = ls at hl ⊢
  have hl : lv_has ls 1 [(0, .ref m0)] := hl
  refine lv_aload_n hx hb dMod_illegal_0 rfl (lv_at hl 0 rfl) ?_
  refine lv_iconst (v := 2) hx hb dMod_illegal_1 (by decide) ?_
  refine lv_aload_n hx hb dMod_illegal_2 rfl (lv_at hl 0 rfl) ?_
  refine va_get (D := D) (ci := 2) (v := .int (ms_bits st)) (C := RMod) (T := TMod) (N := 14) hx hb hg inMod hown hK hP 0 rfl rfl 10 (by decide) (hg _ tw_567) (fun _ h9 => h9) rfl dMod_illegal_3 ?_
  refine mk_callW (va_runV (As := [.int 2, .int (ms_bits st)]) (rest := []) ⟨hx, hb, hml, hown, hts⟩ (mc_RiscHartModel_trap l hP hD 2 (ms_bits st)) (cwV 2 hts (mk_gV tw_657 tw_659 tw_34 tw_48 tw_660) rfl rfl rfl hdMod_trap ⟨Nat.le_of_ble_eq_true rfl, Nat.le_of_ble_eq_true rfl⟩) (mk_preVK hK (va_recv hK hP (ci := 2) (q0 := 0) rfl rfl)) rfl rfl hl.1 rfl (lv_room (Nat.le_of_ble_eq_true rfl)) dMod_illegal_6 ⟨Nat.zero_le _, Nat.zero_le _⟩) hS (fun H locs hP hS => ?_)
  exact W.iret hx hb hr (fun t ht hW => ⟨⟨_, (mf_RiscHartModel_trap st 2 (ms_bits st)).2, rfl, rfl, by show va_P D hcl _ t.heap; rw [ht]; exact hP⟩, hS.F ht⟩) hS.2.2 dMod_illegal_9
set_option maxHeartbeats 4000000 in
set_option maxRecDepth 100000 in
theorem mc_RiscHartModel_may (l : Launch) {D : va_G} {cB cO cX : ClassId} {m0 m1 m2 m3 : Nat} {st : MS} {G : Heap} (hP : va_P D hcl (ms_W cB cO cX m0 m1 m2 m3 st) G) (a1 : Int32) (a2 : Int32)  : Met l yMod_may (wq yMod_may cMod_may 3 (some .boolean)) ({ frames := 1, cells := 0, slots := 0, locals := 22 }) (mk_PK D hcl [(cB, .int), (cO, .int), (cX, .int)] G [.ref m0, .int a1, .int a2]) (mk_Qi G (mf_RiscHartModel_may st a1 a2)) 0 0 (fun _ => False) := by
  refine Met.ofW (cc := cMod_may) (maxL := 3) (ret := (some .boolean)) (by decide) rfl ?_
  intro p e s m args below meth c s₁ B hml hv
  obtain ⟨rfl, hG, hK⟩ := hv
  subst hG
  have hx := B.exec
  have hb := B.bytes
  have hr := B.returns
  have hts := atoms_spec (ws := (wq yMod_may cMod_may 3 (some .boolean))) B.pre
  have hown : s.vm.findClass RMod = some m.cls := findClass_of_methodNamed B.named
  have hlocks := B.notSynchronized
  have hg : ∀ w ∈ lw_g, w.before _ s = true := fun w h => hts w (List.mem_cons_of_mem _ h)
  have hl := lv_entry ([.ref m0, .int a1, .int a2]) (n := 3) (Nat.le_of_ble_eq_true rfl)
  rw [lg_entry_eq]
  generalize (lg_sl ([.ref m0, .int a1, .int a2]) ++ List.replicate (3 - (lg_sl ([.ref m0, .int a1, .int a2])).length) Slot.unset).toArray = ls at hl ⊢
  have hl : lv_has ls 3 [(0, .ref m0), (1, .int a1), (2, .int a2)] := hl
  refine lv_iload_n hx hb dMod_may_0 rfl (lv_at hl 1 rfl) ?_
  refine lv_iconst (v := 0) hx hb dMod_may_1 (by decide) ?_
  refine lv_ldc (v := 65535) hx hb hown (hg _ tw_608) dMod_may_2 ?_
  refine mk_callR (va_runS (As := [.int a1, .int 0, .int 65535]) (rest := []) ⟨hx, hb, hml, hown, hts⟩ (mc_RiscHartModel_in l s.heap a1 0 65535) (va_cwS 3 hts (mk_gS tw_609 tw_610 tw_48 tw_611) rfl rfl rfl hdMod_in.2 ⟨Nat.le_of_ble_eq_true rfl, Nat.le_of_ble_eq_true rfl⟩) mk_preS rfl rfl hl.1 rfl (lv_room (Nat.le_of_ble_eq_true rfl)) dMod_may_4 ⟨Nat.zero_le _, Nat.zero_le _⟩) ?_
  refine lv_if_eq (tgt := 29) hx hb dMod_may_7 (by decide) (fun c_1 => ?_) (fun c_1 => ?_)
  · refine lv_iconst (v := 0) hx hb dMod_may_29 (by decide) ?_
    exact W.zret hx hb hr rfl (fun t ht hW => ⟨⟨_, (), rfl, (by unfold mf_RiscHartModel_may; rw [if_pos c_1]), ht⟩, mk_F ht⟩) (fun q h => nomatch h) dMod_may_30
  · refine lv_aload_n hx hb dMod_may_10 rfl (lv_at hl 0 rfl) ?_
    refine va_get (D := D) (ci := 2) (v := .ref m2) (C := RMod) (T := TMod) (N := 14) hx hb hg inMod hown hK hP 0 rfl rfl 2 (by decide) (hg _ tw_559) (fun _ h9 => h9) rfl dMod_may_11 ?_
    refine lv_iload_n hx hb dMod_may_14 rfl (lv_at hl 1 rfl) ?_
    refine lv_sipush (v := 1024) hx hb dMod_may_15 (by decide) ?_
    refine lv_idiv hx hb dMod_may_18 (by decide) ?_
    refine va_iald (D := D) (f := ms_open st) hx hb hK hP 2 1 rfl rfl (in_mpage c_1) dMod_may_19 ?_
    refine lv_iload_n hx hb dMod_may_20 rfl (lv_at hl 2 rfl) ?_
    refine lv_iand hx hb dMod_may_21 ?_
    refine lv_if_le (tgt := 29) hx hb dMod_may_22 (by decide) (fun c_2 => ?_) (fun c_2 => ?_)
    · refine lv_iconst (v := 0) hx hb dMod_may_29 (by decide) ?_
      exact W.zret hx hb hr rfl (fun t ht hW => ⟨⟨_, (), rfl, (by unfold mf_RiscHartModel_may; rw [if_neg c_1, if_pos c_2]), ht⟩, mk_F ht⟩) (fun q h => nomatch h) dMod_may_30
    · refine lv_iconst (v := 1) hx hb dMod_may_25 (by decide) ?_
      refine lv_goto (tgt := 30) hx hb dMod_may_26 (by decide) ?_
      exact W.zret hx hb hr rfl (fun t ht hW => ⟨⟨_, (), rfl, (by unfold mf_RiscHartModel_may; rw [if_neg c_1, if_neg c_2]), ht⟩, mk_F ht⟩) (fun q h => nomatch h) dMod_may_30
set_option maxHeartbeats 4000000 in
set_option maxRecDepth 100000 in
theorem mc_RiscHartModel_half (l : Launch) {D : va_G} {cB cO cX : ClassId} {m0 m1 m2 m3 : Nat} {st : MS} {G : Heap} (hP : va_P D hcl (ms_W cB cO cX m0 m1 m2 m3 st) G) (a1 : Int32) (hq1 : vp_in a1 65536) (hq2 : vp_in (a1 + 1) 65536) : Met l yMod_half (wq yMod_half cMod_half 2 (some .int)) ({ frames := 0, cells := 0, slots := 0, locals := 0 }) (mk_PK D hcl [(cB, .int), (cO, .int), (cX, .int)] G [.ref m0, .int a1]) (mk_Qi G (mf_RiscHartModel_half st a1)) 0 0 (fun _ => False) := by
  refine Met.ofW (cc := cMod_half) (maxL := 2) (ret := (some .int)) (by decide) rfl ?_
  intro p e s m args below meth c s₁ B hml hv
  obtain ⟨rfl, hG, hK⟩ := hv
  subst hG
  have hx := B.exec
  have hb := B.bytes
  have hr := B.returns
  have hts := atoms_spec (ws := (wq yMod_half cMod_half 2 (some .int))) B.pre
  have hown : s.vm.findClass RMod = some m.cls := findClass_of_methodNamed B.named
  have hlocks := B.notSynchronized
  have hg : ∀ w ∈ lw_g, w.before _ s = true := fun w h => hts w (List.mem_cons_of_mem _ h)
  have hl := lv_entry ([.ref m0, .int a1]) (n := 2) (Nat.le_of_ble_eq_true rfl)
  rw [lg_entry_eq]
  generalize (lg_sl ([.ref m0, .int a1]) ++ List.replicate (2 - (lg_sl ([.ref m0, .int a1])).length) Slot.unset).toArray = ls at hl ⊢
  have hl : lv_has ls 2 [(0, .ref m0), (1, .int a1)] := hl
  refine lv_aload_n hx hb dMod_half_0 rfl (lv_at hl 0 rfl) ?_
  refine va_get (D := D) (ci := 2) (v := .ref m1) (C := RMod) (T := TMod) (N := 14) hx hb hg inMod hown hK hP 0 rfl rfl 1 (by decide) (hg _ tw_558) (fun _ h9 => h9) rfl dMod_half_1 ?_
  refine lv_iload_n hx hb dMod_half_4 rfl (lv_at hl 1 rfl) ?_
  refine va_iald (D := D) (f := ms_bytes st) hx hb hK hP 1 0 rfl rfl hq1 dMod_half_5 ?_
  refine lv_aload_n hx hb dMod_half_6 rfl (lv_at hl 0 rfl) ?_
  refine va_get (D := D) (ci := 2) (v := .ref m1) (C := RMod) (T := TMod) (N := 14) hx hb hg inMod hown hK hP 0 rfl rfl 1 (by decide) (hg _ tw_558) (fun _ h9 => h9) rfl dMod_half_7 ?_
  refine lv_iload_n hx hb dMod_half_10 rfl (lv_at hl 1 rfl) ?_
  refine lv_iconst (v := 1) hx hb dMod_half_11 (by decide) ?_
  refine lv_iadd hx hb dMod_half_12 ?_
  refine va_iald (D := D) (f := ms_bytes st) hx hb hK hP 1 0 rfl rfl hq2 dMod_half_13 ?_
  refine lv_bipush (v := 8) hx hb dMod_half_14 (by decide) ?_
  refine lv_ishl hx hb dMod_half_16 ?_
  refine lv_ior hx hb dMod_half_17 ?_
  exact W.iret hx hb hr (fun t ht hW => ⟨⟨_, (), rfl, rfl, ht⟩, mk_F ht⟩) (fun q h => nomatch h) dMod_half_18
set_option maxHeartbeats 4000000 in
set_option maxRecDepth 100000 in
theorem mc_RiscHartModel_fetches (l : Launch) {D : va_G} {cB cO cX : ClassId} {m0 m1 m2 m3 : Nat} {st : MS} {G : Heap} (hP : va_P D hcl (ms_W cB cO cX m0 m1 m2 m3 st) G) (a1 : Int32)  : Met l yMod_fetches (wq yMod_fetches cMod_fetches 2 (some .boolean)) ({ frames := 2, cells := 0, slots := 0, locals := 44 }) (mk_PK D hcl [(cB, .int), (cO, .int), (cX, .int)] G [.ref m0, .int a1]) (mk_Qi G (mf_RiscHartModel_fetches st a1)) 0 0 (fun _ => False) := by
  refine Met.ofW (cc := cMod_fetches) (maxL := 2) (ret := (some .boolean)) (by decide) rfl ?_
  intro p e s m args below meth c s₁ B hml hv
  obtain ⟨rfl, hG, hK⟩ := hv
  subst hG
  have hx := B.exec
  have hb := B.bytes
  have hr := B.returns
  have hts := atoms_spec (ws := (wq yMod_fetches cMod_fetches 2 (some .boolean))) B.pre
  have hown : s.vm.findClass RMod = some m.cls := findClass_of_methodNamed B.named
  have hlocks := B.notSynchronized
  have hg : ∀ w ∈ lw_g, w.before _ s = true := fun w h => hts w (List.mem_cons_of_mem _ h)
  have hl := lv_entry ([.ref m0, .int a1]) (n := 2) (Nat.le_of_ble_eq_true rfl)
  rw [lg_entry_eq]
  generalize (lg_sl ([.ref m0, .int a1]) ++ List.replicate (2 - (lg_sl ([.ref m0, .int a1])).length) Slot.unset).toArray = ls at hl ⊢
  have hl : lv_has ls 2 [(0, .ref m0), (1, .int a1)] := hl
  refine lv_aload_n hx hb dMod_fetches_0 rfl (lv_at hl 0 rfl) ?_
  refine lv_iload_n hx hb dMod_fetches_1 rfl (lv_at hl 1 rfl) ?_
  refine lv_iconst (v := 4) hx hb dMod_fetches_2 (by decide) ?_
  refine mk_callR (va_runV (As := [.int a1, .int 4]) (rest := []) ⟨hx, hb, hml, hown, hts⟩ (mc_RiscHartModel_may l hP a1 4) (cwV 2 hts (mk_gV tw_653 tw_655 tw_33 tw_48 tw_656) rfl rfl rfl hdMod_may ⟨Nat.le_of_ble_eq_true rfl, Nat.le_of_ble_eq_true rfl⟩) (mk_preVK hK (va_recv hK hP (ci := 2) (q0 := 0) rfl rfl)) rfl rfl hl.1 rfl (lv_room (Nat.le_of_ble_eq_true rfl)) dMod_fetches_3 ⟨Nat.zero_le _, Nat.zero_le _⟩) ?_
  refine lv_if_eq (tgt := 24) hx hb dMod_fetches_6 (by decide) (fun c_1 => ?_) (fun c_1 => ?_)
  · refine lv_iconst (v := 0) hx hb dMod_fetches_24 (by decide) ?_
    exact W.zret hx hb hr rfl (fun t ht hW => ⟨⟨_, (), rfl, (by unfold mf_RiscHartModel_fetches; rw [if_pos c_1]), ht⟩, mk_F ht⟩) (fun q h => nomatch h) dMod_fetches_25
  · refine lv_aload_n hx hb dMod_fetches_9 rfl (lv_at hl 0 rfl) ?_
    refine lv_iload_n hx hb dMod_fetches_10 rfl (lv_at hl 1 rfl) ?_
    refine lv_iconst (v := 1) hx hb dMod_fetches_11 (by decide) ?_
    refine lv_iadd hx hb dMod_fetches_12 ?_
    refine lv_iconst (v := 4) hx hb dMod_fetches_13 (by decide) ?_
    refine mk_callR (va_runV (As := [.int (a1 + 1), .int 4]) (rest := []) ⟨hx, hb, hml, hown, hts⟩ (mc_RiscHartModel_may l hP (a1 + 1) 4) (cwV 2 hts (mk_gV tw_653 tw_655 tw_33 tw_48 tw_656) rfl rfl rfl hdMod_may ⟨Nat.le_of_ble_eq_true rfl, Nat.le_of_ble_eq_true rfl⟩) (mk_preVK hK (va_recv hK hP (ci := 2) (q0 := 0) rfl rfl)) rfl rfl hl.1 rfl (lv_room (Nat.le_of_ble_eq_true rfl)) dMod_fetches_14 ⟨Nat.zero_le _, Nat.zero_le _⟩) ?_
    refine lv_if_eq (tgt := 24) hx hb dMod_fetches_17 (by decide) (fun c_2 => ?_) (fun c_2 => ?_)
    · refine lv_iconst (v := 0) hx hb dMod_fetches_24 (by decide) ?_
      exact W.zret hx hb hr rfl (fun t ht hW => ⟨⟨_, (), rfl, (by unfold mf_RiscHartModel_fetches; rw [if_neg c_1, if_pos c_2]), ht⟩, mk_F ht⟩) (fun q h => nomatch h) dMod_fetches_25
    · refine lv_iconst (v := 1) hx hb dMod_fetches_20 (by decide) ?_
      refine lv_goto (tgt := 25) hx hb dMod_fetches_21 (by decide) ?_
      exact W.zret hx hb hr rfl (fun t ht hW => ⟨⟨_, (), rfl, (by unfold mf_RiscHartModel_fetches; rw [if_neg c_1, if_neg c_2]), ht⟩, mk_F ht⟩) (fun q h => nomatch h) dMod_fetches_25
set_option maxHeartbeats 4000000 in
set_option maxRecDepth 100000 in
theorem mc_RiscHartModel_give (l : Launch) {D : va_G} {cB cO cX : ClassId} {m0 m1 m2 m3 : Nat} {A : Nat → Prop} {st : MS} {G : Heap} (hP : va_P D hcl (ms_W cB cO cX m0 m1 m2 m3 st) G) (hD : ∀ z, va_D A (ms_W cB cO cX m0 m1 m2 m3 z)) (a1 : Int32) (a2 : Int32) (hq1 : vp_in a1 32) : Met l yMod_give (wq yMod_give cMod_give 3 none) ({ frames := 0, cells := 0, slots := 0, locals := 0 }) (mk_PK D hcl [(cB, .int), (cO, .int), (cX, .int)] G [.ref m0, .int a1, .int a2]) (mk_Wv (fun u t => va_P D hcl (ms_W cB cO cX m0 m1 m2 m3 u) t) A (mf_RiscHartModel_give st a1 a2)) 0 0 A := by
  refine Met.ofW (cc := cMod_give) (maxL := 3) (ret := none) (by decide) rfl ?_
  intro p e s m args below meth c s₁ B hml hv
  obtain ⟨rfl, hG, hK⟩ := hv
  subst hG
  have hx := B.exec
  have hb := B.bytes
  have hr := B.returns
  have hts := atoms_spec (ws := (wq yMod_give cMod_give 3 none)) B.pre
  have hown : s.vm.findClass RMod = some m.cls := findClass_of_methodNamed B.named
  have hlocks := B.notSynchronized
  have hg : ∀ w ∈ lw_g, w.before _ s = true := fun w h => hts w (List.mem_cons_of_mem _ h)
  have hS : va_S A s.heap s.heap [] := va_S.rf
  have hl := lv_entry ([.ref m0, .int a1, .int a2]) (n := 3) (Nat.le_of_ble_eq_true rfl)
  rw [lg_entry_eq]
  generalize (lg_sl ([.ref m0, .int a1, .int a2]) ++ List.replicate (3 - (lg_sl ([.ref m0, .int a1, .int a2])).length) Slot.unset).toArray = ls at hl ⊢
  have hl : lv_has ls 3 [(0, .ref m0), (1, .int a1), (2, .int a2)] := hl
  refine lv_aload_n hx hb dMod_give_0 rfl (lv_at hl 0 rfl) ?_
  refine va_get (D := D) (ci := 2) (v := .int (ms_met st)) (C := RMod) (T := TMod) (N := 14) hx hb hg inMod hown hK hP 0 rfl rfl 13 (by decide) (hg _ tw_570) (fun _ h9 => h9) rfl dMod_give_1 ?_
  refine lv_if_ne (tgt := 18) hx hb dMod_give_4 (by decide) (fun c_1 => ?_) (fun c_1 => ?_)
  · exact W.vret hx hb hr (fun t ht hW => ⟨⟨st, rfl, (by unfold mf_RiscHartModel_give; rw [if_neg c_1]), by show va_P D hcl _ t.heap; rw [ht]; exact hP⟩, hS.F ht⟩) hS.2.2 dMod_give_18
  · refine lv_iload_n hx hb dMod_give_7 rfl (lv_at hl 1 rfl) ?_
    refine lv_if_le (tgt := 18) hx hb dMod_give_8 (by decide) (fun c_2 => ?_) (fun c_2 => ?_)
    · exact W.vret hx hb hr (fun t ht hW => ⟨⟨st, rfl, (by unfold mf_RiscHartModel_give; rw [if_pos c_1, if_pos c_2]), by show va_P D hcl _ t.heap; rw [ht]; exact hP⟩, hS.F ht⟩) hS.2.2 dMod_give_18
    · refine lv_aload_n hx hb dMod_give_11 rfl (lv_at hl 0 rfl) ?_
      refine va_get (D := D) (ci := 2) (v := .ref m3) (C := RMod) (T := TMod) (N := 14) hx hb hg inMod hown hK hP 0 rfl rfl 3 (by decide) (hg _ tw_560) (fun _ h9 => h9) rfl dMod_give_12 ?_
      refine lv_iload_n hx hb dMod_give_15 rfl (lv_at hl 1 rfl) ?_
      refine lv_iload_n hx hb dMod_give_16 rfl (lv_at hl 2 rfl) ?_
      refine va_iast (D := D) (f := ms_x st) hx hb hK hP (hD _) hS 3 2 rfl rfl hq1 dMod_give_17 (fun H locs hP _ hS => ?_)
      have hP : va_P D hcl (ms_W cB cO cX m0 m1 m2 m3 (ms_set_x st a1 a2)) H := hP
      exact W.vret hx hb hr (fun t ht hW => ⟨⟨(ms_set_x st a1 a2), rfl, (by unfold mf_RiscHartModel_give; rw [if_pos c_1, if_neg c_2]), by show va_P D hcl _ t.heap; rw [ht]; exact hP⟩, hS.F ht⟩) hS.2.2 dMod_give_18
set_option maxHeartbeats 4000000 in
set_option maxRecDepth 100000 in
theorem mc_RiscHartModel_decide (l : Launch) {D : va_G} {cB cO cX : ClassId} {m0 m1 m2 m3 : Nat} {A : Nat → Prop} {st : MS} {G : Heap} (hP : va_P D hcl (ms_W cB cO cX m0 m1 m2 m3 st) G) (hD : ∀ z, va_D A (ms_W cB cO cX m0 m1 m2 m3 z)) (a1 : Int32) (a2 : Int32) (a3 : Int32) (a4 : Int32)  : Met l yMod_decide (wq yMod_decide cMod_decide 10 none) ({ frames := 2, cells := 0, slots := 0, locals := 45 }) (mk_PK D hcl [(cB, .int), (cO, .int), (cX, .int)] G [.ref m0, .int a1, .int a2, .int a3, .int a4]) (mk_Wv (fun u t => va_P D hcl (ms_W cB cO cX m0 m1 m2 m3 u) t) A (mf_RiscHartModel_decide st a1 a2 a3 a4)) 0 0 A := by
  refine Met.ofW (cc := cMod_decide) (maxL := 10) (ret := none) (by decide) rfl ?_
  intro p e s m args below meth c s₁ B hml hv
  obtain ⟨rfl, hG, hK⟩ := hv
  subst hG
  have hx := B.exec
  have hb := B.bytes
  have hr := B.returns
  have hts := atoms_spec (ws := (wq yMod_decide cMod_decide 10 none)) B.pre
  have hown : s.vm.findClass RMod = some m.cls := findClass_of_methodNamed B.named
  have hlocks := B.notSynchronized
  have hg : ∀ w ∈ lw_g, w.before _ s = true := fun w h => hts w (List.mem_cons_of_mem _ h)
  have hS : va_S A s.heap s.heap [] := va_S.rf
  have hl := lv_entry ([.ref m0, .int a1, .int a2, .int a3, .int a4]) (n := 10) (Nat.le_of_ble_eq_true rfl)
  rw [lg_entry_eq]
  generalize (lg_sl ([.ref m0, .int a1, .int a2, .int a3, .int a4]) ++ List.replicate (10 - (lg_sl ([.ref m0, .int a1, .int a2, .int a3, .int a4])).length) Slot.unset).toArray = ls at hl ⊢
  have hl : lv_has ls 10 [(0, .ref m0), (1, .int a1), (2, .int a2), (3, .int a3), (4, .int a4)] := hl
  have tail_106 : ∀ (ls : Array Slot) (v5 : Int64) (v7 : Int64) (v9 : Int32), mf_RiscHartModel_decide st a1 a2 a3 a4 = mf_RiscHartModel_decide_t106 st a1 a2 a3 a4 v5 v7 v9 → lv_has ls 10 [(0, .ref m0), (1, .int a1), (2, .int a2), (3, .int a3), (4, .int a4), (5, .long v5), (7, .long v7), (9, .int v9)] → W p l e (headSpec (wq yMod_decide cMod_decide 10 none) ({ frames := 2, cells := 0, slots := 0, locals := 45 })).room s m ([.ref m0, .int a1, .int a2, .int a3, .int a4] : List Value).toArray below meth c s.heap [] 0 0 (MQ below (mk_Wv (fun u t => va_P D hcl (ms_W cB cO cX m0 m1 m2 m3 u) t) A (mf_RiscHartModel_decide st a1 a2 a3 a4)) ([.ref m0, .int a1, .int a2, .int a3, .int a4] : List Value).toArray s 0 0 A) (F0 m 106 ls []) := by
    intro ls v5 v7 v9 hv106 hl
    refine lv_iload hx hb dMod_decide_106 (lv_at hl 7 rfl) ?_
    refine lv_if_eq (tgt := 163) hx hb dMod_decide_108 (by decide) (fun c_1 => ?_) (fun c_1 => ?_)
    · exact W.vret hx hb hr (fun t ht hW => ⟨⟨st, rfl, (by rw [hv106]; unfold mf_RiscHartModel_decide_t106; rw [if_pos c_1]), by show va_P D hcl _ t.heap; rw [ht]; exact hP⟩, hS.F ht⟩) hS.2.2 dMod_decide_163
    · refine lv_aload_n hx hb dMod_decide_111 rfl (lv_at hl 0 rfl) ?_
      refine lv_aload_n hx hb dMod_decide_112 rfl (lv_at hl 0 rfl) ?_
      refine va_get (D := D) (ci := 2) (v := .int (ms_place st)) (C := RMod) (T := TMod) (N := 14) hx hb hg inMod hown hK hP 0 rfl rfl 4 (by decide) (hg _ tw_561) (fun _ h9 => h9) rfl dMod_decide_113 ?_
      refine lv_iload_n hx hb dMod_decide_116 rfl (lv_at hl 1 rfl) ?_
      refine lv_bipush (v := 31) hx hb dMod_decide_117 (by decide) ?_
      refine lv_iconst (v := 1) hx hb dMod_decide_119 (by decide) ?_
      refine lv_bipush (v := 12) hx hb dMod_decide_120 (by decide) ?_
      refine mk_callR (va_runS (As := [.int a1, .int 31, .int 1, .int 12]) (rest := [.int (ms_place st), .ref m0]) ⟨hx, hb, hml, hown, hts⟩ (mc_RiscHartModel_bit l _ a1 31 1 12) (va_cwS 4 hts (mk_gS tw_674 tw_675 tw_48 tw_676) rfl rfl rfl hdMod_bit.2 ⟨Nat.le_of_ble_eq_true rfl, Nat.le_of_ble_eq_true rfl⟩) mk_preS rfl rfl hl.1 rfl (lv_room (Nat.le_of_ble_eq_true rfl)) dMod_decide_122 ⟨Nat.zero_le _, Nat.zero_le _⟩) ?_
      refine lv_iload_n hx hb dMod_decide_125 rfl (lv_at hl 1 rfl) ?_
      refine lv_bipush (v := 7) hx hb dMod_decide_126 (by decide) ?_
      refine lv_iconst (v := 1) hx hb dMod_decide_128 (by decide) ?_
      refine lv_bipush (v := 11) hx hb dMod_decide_129 (by decide) ?_
      refine mk_callR (va_runS (As := [.int a1, .int 7, .int 1, .int 11]) (rest := [.int (mf_RiscHartModel_bit a1 31 1 12), .int (ms_place st), .ref m0]) ⟨hx, hb, hml, hown, hts⟩ (mc_RiscHartModel_bit l _ a1 7 1 11) (va_cwS 4 hts (mk_gS tw_674 tw_675 tw_48 tw_676) rfl rfl rfl hdMod_bit.2 ⟨Nat.le_of_ble_eq_true rfl, Nat.le_of_ble_eq_true rfl⟩) mk_preS rfl rfl hl.1 rfl (lv_room (Nat.le_of_ble_eq_true rfl)) dMod_decide_131 ⟨Nat.zero_le _, Nat.zero_le _⟩) ?_
      refine lv_ior hx hb dMod_decide_134 ?_
      refine lv_iload_n hx hb dMod_decide_135 rfl (lv_at hl 1 rfl) ?_
      refine lv_bipush (v := 25) hx hb dMod_decide_136 (by decide) ?_
      refine lv_bipush (v := 6) hx hb dMod_decide_138 (by decide) ?_
      refine lv_iconst (v := 5) hx hb dMod_decide_140 (by decide) ?_
      refine mk_callR (va_runS (As := [.int a1, .int 25, .int 6, .int 5]) (rest := [.int ((mf_RiscHartModel_bit a1 31 1 12) ||| (mf_RiscHartModel_bit a1 7 1 11)), .int (ms_place st), .ref m0]) ⟨hx, hb, hml, hown, hts⟩ (mc_RiscHartModel_bit l _ a1 25 6 5) (va_cwS 4 hts (mk_gS tw_674 tw_675 tw_48 tw_676) rfl rfl rfl hdMod_bit.2 ⟨Nat.le_of_ble_eq_true rfl, Nat.le_of_ble_eq_true rfl⟩) mk_preS rfl rfl hl.1 rfl (lv_room (Nat.le_of_ble_eq_true rfl)) dMod_decide_141 ⟨Nat.zero_le _, Nat.zero_le _⟩) ?_
      refine lv_ior hx hb dMod_decide_144 ?_
      refine lv_iload_n hx hb dMod_decide_145 rfl (lv_at hl 1 rfl) ?_
      refine lv_bipush (v := 8) hx hb dMod_decide_146 (by decide) ?_
      refine lv_iconst (v := 4) hx hb dMod_decide_148 (by decide) ?_
      refine lv_iconst (v := 1) hx hb dMod_decide_149 (by decide) ?_
      refine mk_callR (va_runS (As := [.int a1, .int 8, .int 4, .int 1]) (rest := [.int (((mf_RiscHartModel_bit a1 31 1 12) ||| (mf_RiscHartModel_bit a1 7 1 11)) ||| (mf_RiscHartModel_bit a1 25 6 5)), .int (ms_place st), .ref m0]) ⟨hx, hb, hml, hown, hts⟩ (mc_RiscHartModel_bit l _ a1 8 4 1) (va_cwS 4 hts (mk_gS tw_674 tw_675 tw_48 tw_676) rfl rfl rfl hdMod_bit.2 ⟨Nat.le_of_ble_eq_true rfl, Nat.le_of_ble_eq_true rfl⟩) mk_preS rfl rfl hl.1 rfl (lv_room (Nat.le_of_ble_eq_true rfl)) dMod_decide_150 ⟨Nat.zero_le _, Nat.zero_le _⟩) ?_
      refine lv_ior hx hb dMod_decide_153 ?_
      refine lv_bipush (v := 13) hx hb dMod_decide_154 (by decide) ?_
      refine mk_callR (va_runS (As := [.int ((((mf_RiscHartModel_bit a1 31 1 12) ||| (mf_RiscHartModel_bit a1 7 1 11)) ||| (mf_RiscHartModel_bit a1 25 6 5)) ||| (mf_RiscHartModel_bit a1 8 4 1)), .int 13]) (rest := [.int (ms_place st), .ref m0]) ⟨hx, hb, hml, hown, hts⟩ (mc_RiscHartModel_signed l _ ((((mf_RiscHartModel_bit a1 31 1 12) ||| (mf_RiscHartModel_bit a1 7 1 11)) ||| (mf_RiscHartModel_bit a1 25 6 5)) ||| (mf_RiscHartModel_bit a1 8 4 1)) 13) (va_cwS 2 hts (mk_gS tw_686 tw_687 tw_48 tw_688) rfl rfl rfl hdMod_signed.2 ⟨Nat.le_of_ble_eq_true rfl, Nat.le_of_ble_eq_true rfl⟩) mk_preS rfl rfl hl.1 rfl (lv_room (Nat.le_of_ble_eq_true rfl)) dMod_decide_156 ⟨Nat.zero_le _, Nat.zero_le _⟩) ?_
      refine lv_iadd hx hb dMod_decide_159 ?_
      refine lv_topi (fun y_2 ey_2 => ?_)
      refine va_put (D := D) (ci := 2) (v := .int y_2) (ty := .int) (C := RMod) (T := TMod) (N := 14) hx hb hg inMod tyMod tyMod_ok nmMod hown hK hP (hD _) hS 0 rfl rfl 12 (by decide) (hg _ tw_569) (fun _ h9 => h9) rfl (by decide +kernel) rfl rfl (Nat.le_of_ble_eq_true rfl) dMod_decide_160 (fun H locs hP _ hS => ?_)
      have hP : va_P D hcl (ms_W cB cO cX m0 m1 m2 m3 (ms_set_next st y_2)) H := hP
      subst ey_2
      exact W.vret hx hb hr (fun t ht hW => ⟨⟨(ms_set_next st ((ms_place st) + (mf_RiscHartModel_signed ((((mf_RiscHartModel_bit a1 31 1 12) ||| (mf_RiscHartModel_bit a1 7 1 11)) ||| (mf_RiscHartModel_bit a1 25 6 5)) ||| (mf_RiscHartModel_bit a1 8 4 1)) 13))), rfl, (by rw [hv106]; unfold mf_RiscHartModel_decide_t106; rw [if_neg c_1]), by show va_P D hcl _ t.heap; rw [ht]; exact hP⟩, hS.F ht⟩) hS.2.2 dMod_decide_163
  have tail_87 : ∀ (ls : Array Slot) (v5 : Int64) (v7 : Int64) (v9 : Int32), mf_RiscHartModel_decide st a1 a2 a3 a4 = mf_RiscHartModel_decide_t87 st a1 a2 a3 a4 v5 v7 v9 → lv_has ls 10 [(0, .ref m0), (1, .int a1), (2, .int a2), (3, .int a3), (4, .int a4), (5, .long v5), (7, .long v7), (9, .int v9)] → W p l e (headSpec (wq yMod_decide cMod_decide 10 none) ({ frames := 2, cells := 0, slots := 0, locals := 45 })).room s m ([.ref m0, .int a1, .int a2, .int a3, .int a4] : List Value).toArray below meth c s.heap [] 0 0 (MQ below (mk_Wv (fun u t => va_P D hcl (ms_W cB cO cX m0 m1 m2 m3 u) t) A (mf_RiscHartModel_decide st a1 a2 a3 a4)) ([.ref m0, .int a1, .int a2, .int a3, .int a4] : List Value).toArray s 0 0 A) (F0 m 87 ls []) := by
    intro ls v5 v7 v9 hv87 hl
    refine lv_iload_n hx hb dMod_decide_87 rfl (lv_at hl 2 rfl) ?_
    refine lv_iconst (v := 1) hx hb dMod_decide_88 (by decide) ?_
    refine lv_iand hx hb dMod_decide_89 ?_
    refine lv_iconst (v := 1) hx hb dMod_decide_90 (by decide) ?_
    refine lv_icmp_ne (tgt := 106) hx hb dMod_decide_91 (by decide) (fun c_3 => ?_) (fun c_3 => ?_)
    · exact tail_106 ls v5 v7 v9 (hv87.trans (by unfold mf_RiscHartModel_decide_t87; rw [if_neg c_3])) (lv_sub hl [0, 1, 2, 3, 4, 5, 6, 7] rfl)
    · refine lv_iload hx hb dMod_decide_94 (lv_at hl 7 rfl) ?_
      refine lv_if_ne (tgt := 103) hx hb dMod_decide_96 (by decide) (fun c_4 => ?_) (fun c_4 => ?_)
      · refine lv_iconst (v := 0) hx hb dMod_decide_103 (by decide) ?_
        refine lv_istore (lv' := [(9, .int 0), (0, .ref m0), (1, .int a1), (2, .int a2), (3, .int a3), (4, .int a4), (5, .long v5), (7, .long v7)]) hx hb dMod_decide_104 hl (by decide) rfl (fun ls hl => ?_)
        exact tail_106 ls v5 v7 0 (hv87.trans (by unfold mf_RiscHartModel_decide_t87; rw [if_pos c_3, if_neg c_4])) (lv_sub hl [1, 2, 3, 4, 5, 6, 7, 0] rfl)
      · refine lv_iconst (v := 1) hx hb dMod_decide_99 (by decide) ?_
        refine lv_goto (tgt := 104) hx hb dMod_decide_100 (by decide) ?_
        refine lv_istore (lv' := [(9, .int 1), (0, .ref m0), (1, .int a1), (2, .int a2), (3, .int a3), (4, .int a4), (5, .long v5), (7, .long v7)]) hx hb dMod_decide_104 hl (by decide) rfl (fun ls hl => ?_)
        exact tail_106 ls v5 v7 1 (hv87.trans (by unfold mf_RiscHartModel_decide_t87; rw [if_pos c_3, if_pos c_4])) (lv_sub hl [1, 2, 3, 4, 5, 6, 7, 0] rfl)
  refine lv_iload_n hx hb dMod_decide_0 rfl (lv_at hl 3 rfl) ?_
  refine lv_i2l (v := a3.toInt64) hx hb dMod_decide_1 rfl ?_
  refine lv_ldc2 (v := 4294967295) hx hb hown (hg _ tw_721) dMod_decide_2 ?_
  refine lv_land hx hb dMod_decide_5 ?_
  refine lv_lstore (lv' := [(5, .long (a3.toInt64 &&& 4294967295)), (0, .ref m0), (1, .int a1), (2, .int a2), (3, .int a3), (4, .int a4)]) hx hb dMod_decide_6 hl (by decide) rfl (fun ls hl => ?_)
  refine lv_iload hx hb dMod_decide_8 (lv_at hl 5 rfl) ?_
  refine lv_i2l (v := a4.toInt64) hx hb dMod_decide_10 rfl ?_
  refine lv_ldc2 (v := 4294967295) hx hb hown (hg _ tw_721) dMod_decide_11 ?_
  refine lv_land hx hb dMod_decide_14 ?_
  refine lv_lstore (lv' := [(7, .long (a4.toInt64 &&& 4294967295)), (5, .long (a3.toInt64 &&& 4294967295)), (0, .ref m0), (1, .int a1), (2, .int a2), (3, .int a3), (4, .int a4)]) hx hb dMod_decide_15 hl (by decide) rfl (fun ls hl => ?_)
  refine lv_iload_n hx hb dMod_decide_17 rfl (lv_at hl 4 rfl) ?_
  refine lv_iconst (v := 2) hx hb dMod_decide_18 (by decide) ?_
  refine lv_icmp_eq (tgt := 27) hx hb dMod_decide_19 (by decide) (fun c_5 => ?_) (fun c_5 => ?_)
  · refine lv_aload_n hx hb dMod_decide_27 rfl (lv_at hl 2 rfl) ?_
    refine mk_callW (va_runV (As := []) (rest := []) ⟨hx, hb, hml, hown, hts⟩ (mc_RiscHartModel_illegal l hP hD) (cwV 0 hts (mk_gV tw_705 tw_707 tw_36 tw_48 tw_708) rfl rfl rfl hdMod_illegal ⟨Nat.le_of_ble_eq_true rfl, Nat.le_of_ble_eq_true rfl⟩) (mk_preVK hK (va_recv hK hP (ci := 2) (q0 := 0) rfl rfl)) rfl rfl hl.1 rfl (lv_room (Nat.le_of_ble_eq_true rfl)) dMod_decide_28 ⟨Nat.zero_le _, Nat.zero_le _⟩) hS (fun H locs hP hS => ?_)
    refine lv_pop hx hb dMod_decide_31 rfl ?_
    exact W.vret hx hb hr (fun t ht hW => ⟨⟨(mf_RiscHartModel_illegal st).2, rfl, (by unfold mf_RiscHartModel_decide; rw [if_pos c_5]), by show va_P D hcl _ t.heap; rw [ht]; exact hP⟩, hS.F ht⟩) hS.2.2 dMod_decide_32
  · refine lv_iload_n hx hb dMod_decide_22 rfl (lv_at hl 4 rfl) ?_
    refine lv_iconst (v := 3) hx hb dMod_decide_23 (by decide) ?_
    refine lv_icmp_ne (tgt := 33) hx hb dMod_decide_24 (by decide) (fun c_6 => ?_) (fun c_6 => ?_)
    · refine lv_iload_n hx hb dMod_decide_33 rfl (lv_at hl 4 rfl) ?_
      refine lv_iconst (v := 2) hx hb dMod_decide_34 (by decide) ?_
      refine lv_icmp_ge (tgt := 52) hx hb dMod_decide_35 (by decide) (fun c_7 => ?_) (fun c_7 => ?_)
      · refine lv_iload_n hx hb dMod_decide_52 rfl (lv_at hl 4 rfl) ?_
        refine lv_bipush (v := 6) hx hb dMod_decide_53 (by decide) ?_
        refine lv_icmp_ge (tgt := 72) hx hb dMod_decide_55 (by decide) (fun c_8 => ?_) (fun c_8 => ?_)
        · refine lv_lload hx hb dMod_decide_72 (lv_at hl 1 rfl) ?_
          refine lv_lload hx hb dMod_decide_74 (lv_at hl 0 rfl) ?_
          refine W.lcmp hx hb dMod_decide_76 ?_
          refine lv_if_ge (tgt := 84) hx hb dMod_decide_77 (by decide) (fun c_9 => ?_) (fun c_9 => ?_)
          · refine lv_iconst (v := 0) hx hb dMod_decide_84 (by decide) ?_
            refine lv_istore (lv' := [(9, .int 0), (7, .long (a4.toInt64 &&& 4294967295)), (5, .long (a3.toInt64 &&& 4294967295)), (0, .ref m0), (1, .int a1), (2, .int a2), (3, .int a3), (4, .int a4)]) hx hb dMod_decide_85 hl (by decide) rfl (fun ls hl => ?_)
            exact tail_87 ls (a3.toInt64 &&& 4294967295) (a4.toInt64 &&& 4294967295) 0 (by unfold mf_RiscHartModel_decide; rw [if_neg c_5, if_neg c_6, if_pos c_7, if_pos c_8, if_pos c_9]) (lv_sub hl [3, 4, 5, 6, 7, 2, 1, 0] rfl)
          · refine lv_iconst (v := 1) hx hb dMod_decide_80 (by decide) ?_
            refine lv_goto (tgt := 85) hx hb dMod_decide_81 (by decide) ?_
            refine lv_istore (lv' := [(9, .int 1), (7, .long (a4.toInt64 &&& 4294967295)), (5, .long (a3.toInt64 &&& 4294967295)), (0, .ref m0), (1, .int a1), (2, .int a2), (3, .int a3), (4, .int a4)]) hx hb dMod_decide_85 hl (by decide) rfl (fun ls hl => ?_)
            exact tail_87 ls (a3.toInt64 &&& 4294967295) (a4.toInt64 &&& 4294967295) 1 (by unfold mf_RiscHartModel_decide; rw [if_neg c_5, if_neg c_6, if_pos c_7, if_pos c_8, if_neg c_9]) (lv_sub hl [3, 4, 5, 6, 7, 2, 1, 0] rfl)
        · refine lv_iload_n hx hb dMod_decide_58 rfl (lv_at hl 5 rfl) ?_
          refine lv_iload hx hb dMod_decide_59 (lv_at hl 6 rfl) ?_
          refine lv_icmp_ge (tgt := 68) hx hb dMod_decide_61 (by decide) (fun c_10 => ?_) (fun c_10 => ?_)
          · refine lv_iconst (v := 0) hx hb dMod_decide_68 (by decide) ?_
            refine lv_goto (tgt := 85) hx hb dMod_decide_69 (by decide) ?_
            refine lv_istore (lv' := [(9, .int 0), (7, .long (a4.toInt64 &&& 4294967295)), (5, .long (a3.toInt64 &&& 4294967295)), (0, .ref m0), (1, .int a1), (2, .int a2), (3, .int a3), (4, .int a4)]) hx hb dMod_decide_85 hl (by decide) rfl (fun ls hl => ?_)
            exact tail_87 ls (a3.toInt64 &&& 4294967295) (a4.toInt64 &&& 4294967295) 0 (by unfold mf_RiscHartModel_decide; rw [if_neg c_5, if_neg c_6, if_pos c_7, if_neg c_8, if_pos c_10]) (lv_sub hl [3, 4, 5, 6, 7, 2, 1, 0] rfl)
          · refine lv_iconst (v := 1) hx hb dMod_decide_64 (by decide) ?_
            refine lv_goto (tgt := 85) hx hb dMod_decide_65 (by decide) ?_
            refine lv_istore (lv' := [(9, .int 1), (7, .long (a4.toInt64 &&& 4294967295)), (5, .long (a3.toInt64 &&& 4294967295)), (0, .ref m0), (1, .int a1), (2, .int a2), (3, .int a3), (4, .int a4)]) hx hb dMod_decide_85 hl (by decide) rfl (fun ls hl => ?_)
            exact tail_87 ls (a3.toInt64 &&& 4294967295) (a4.toInt64 &&& 4294967295) 1 (by unfold mf_RiscHartModel_decide; rw [if_neg c_5, if_neg c_6, if_pos c_7, if_neg c_8, if_neg c_10]) (lv_sub hl [3, 4, 5, 6, 7, 2, 1, 0] rfl)
      · refine lv_iload_n hx hb dMod_decide_38 rfl (lv_at hl 5 rfl) ?_
        refine lv_iload hx hb dMod_decide_39 (lv_at hl 6 rfl) ?_
        refine lv_icmp_ne (tgt := 48) hx hb dMod_decide_41 (by decide) (fun c_11 => ?_) (fun c_11 => ?_)
        · refine lv_iconst (v := 0) hx hb dMod_decide_48 (by decide) ?_
          refine lv_goto (tgt := 85) hx hb dMod_decide_49 (by decide) ?_
          refine lv_istore (lv' := [(9, .int 0), (7, .long (a4.toInt64 &&& 4294967295)), (5, .long (a3.toInt64 &&& 4294967295)), (0, .ref m0), (1, .int a1), (2, .int a2), (3, .int a3), (4, .int a4)]) hx hb dMod_decide_85 hl (by decide) rfl (fun ls hl => ?_)
          exact tail_87 ls (a3.toInt64 &&& 4294967295) (a4.toInt64 &&& 4294967295) 0 (by unfold mf_RiscHartModel_decide; rw [if_neg c_5, if_neg c_6, if_neg c_7, if_neg c_11]) (lv_sub hl [3, 4, 5, 6, 7, 2, 1, 0] rfl)
        · refine lv_iconst (v := 1) hx hb dMod_decide_44 (by decide) ?_
          refine lv_goto (tgt := 85) hx hb dMod_decide_45 (by decide) ?_
          refine lv_istore (lv' := [(9, .int 1), (7, .long (a4.toInt64 &&& 4294967295)), (5, .long (a3.toInt64 &&& 4294967295)), (0, .ref m0), (1, .int a1), (2, .int a2), (3, .int a3), (4, .int a4)]) hx hb dMod_decide_85 hl (by decide) rfl (fun ls hl => ?_)
          exact tail_87 ls (a3.toInt64 &&& 4294967295) (a4.toInt64 &&& 4294967295) 1 (by unfold mf_RiscHartModel_decide; rw [if_neg c_5, if_neg c_6, if_neg c_7, if_pos c_11]) (lv_sub hl [3, 4, 5, 6, 7, 2, 1, 0] rfl)
    · refine lv_aload_n hx hb dMod_decide_27 rfl (lv_at hl 2 rfl) ?_
      refine mk_callW (va_runV (As := []) (rest := []) ⟨hx, hb, hml, hown, hts⟩ (mc_RiscHartModel_illegal l hP hD) (cwV 0 hts (mk_gV tw_705 tw_707 tw_36 tw_48 tw_708) rfl rfl rfl hdMod_illegal ⟨Nat.le_of_ble_eq_true rfl, Nat.le_of_ble_eq_true rfl⟩) (mk_preVK hK (va_recv hK hP (ci := 2) (q0 := 0) rfl rfl)) rfl rfl hl.1 rfl (lv_room (Nat.le_of_ble_eq_true rfl)) dMod_decide_28 ⟨Nat.zero_le _, Nat.zero_le _⟩) hS (fun H locs hP hS => ?_)
      refine lv_pop hx hb dMod_decide_31 rfl ?_
      exact W.vret hx hb hr (fun t ht hW => ⟨⟨(mf_RiscHartModel_illegal st).2, rfl, (by unfold mf_RiscHartModel_decide; rw [if_neg c_5, if_pos c_6]), by show va_P D hcl _ t.heap; rw [ht]; exact hP⟩, hS.F ht⟩) hS.2.2 dMod_decide_32
set_option maxHeartbeats 4000000 in
set_option maxRecDepth 100000 in
theorem mc_RiscHartModel_load (l : Launch) {D : va_G} {cB cO cX : ClassId} {m0 m1 m2 m3 : Nat} {A : Nat → Prop} {st : MS} {G : Heap} (hP : va_P D hcl (ms_W cB cO cX m0 m1 m2 m3 st) G) (hD : ∀ z, va_D A (ms_W cB cO cX m0 m1 m2 m3 z)) (a1 : Int32) (a2 : Int32)  : Met l yMod_load (wq yMod_load cMod_load 6 (some .int)) ({ frames := 2, cells := 0, slots := 0, locals := 44 }) (mk_PK D hcl [(cB, .int), (cO, .int), (cX, .int)] G [.ref m0, .int a1, .int a2]) (mk_Wi (fun u t => va_P D hcl (ms_W cB cO cX m0 m1 m2 m3 u) t) A (mf_RiscHartModel_load st a1 a2)) 0 0 A := by
  refine Met.ofW (cc := cMod_load) (maxL := 6) (ret := (some .int)) (by decide) rfl ?_
  intro p e s m args below meth c s₁ B hml hv
  obtain ⟨rfl, hG, hK⟩ := hv
  subst hG
  have hx := B.exec
  have hb := B.bytes
  have hr := B.returns
  have hts := atoms_spec (ws := (wq yMod_load cMod_load 6 (some .int))) B.pre
  have hown : s.vm.findClass RMod = some m.cls := findClass_of_methodNamed B.named
  have hlocks := B.notSynchronized
  have hg : ∀ w ∈ lw_g, w.before _ s = true := fun w h => hts w (List.mem_cons_of_mem _ h)
  have hS : va_S A s.heap s.heap [] := va_S.rf
  have hl := lv_entry ([.ref m0, .int a1, .int a2]) (n := 6) (Nat.le_of_ble_eq_true rfl)
  rw [lg_entry_eq]
  generalize (lg_sl ([.ref m0, .int a1, .int a2]) ++ List.replicate (6 - (lg_sl ([.ref m0, .int a1, .int a2])).length) Slot.unset).toArray = ls at hl ⊢
  have hl : lv_has ls 6 [(0, .ref m0), (1, .int a1), (2, .int a2)] := hl
  refine lv_iconst (v := 1) hx hb dMod_load_0 (by decide) ?_
  refine lv_iload_n hx hb dMod_load_1 rfl (lv_at hl 1 rfl) ?_
  refine lv_iconst (v := 3) hx hb dMod_load_2 (by decide) ?_
  refine lv_iand hx hb dMod_load_3 ?_
  refine lv_ishl hx hb dMod_load_4 ?_
  refine lv_istore_n (lv' := [(3, .int ((1 : Int32) <<< ((a1 &&& 3) &&& 31))), (0, .ref m0), (1, .int a1), (2, .int a2)]) hx hb dMod_load_5 rfl hl (by decide) rfl (fun ls hl => ?_)
  refine lv_iload_n hx hb dMod_load_6 rfl (lv_at hl 2 rfl) ?_
  refine lv_iconst (v := 3) hx hb dMod_load_7 (by decide) ?_
  refine lv_icmp_eq (tgt := 16) hx hb dMod_load_8 (by decide) (fun c_1 => ?_) (fun c_1 => ?_)
  · refine lv_aload_n hx hb dMod_load_16 rfl (lv_at hl 1 rfl) ?_
    refine mk_callW (va_runV (As := []) (rest := []) ⟨hx, hb, hml, hown, hts⟩ (mc_RiscHartModel_illegal l hP hD) (cwV 0 hts (mk_gV tw_705 tw_707 tw_36 tw_48 tw_708) rfl rfl rfl hdMod_illegal ⟨Nat.le_of_ble_eq_true rfl, Nat.le_of_ble_eq_true rfl⟩) (mk_preVK hK (va_recv hK hP (ci := 2) (q0 := 0) rfl rfl)) rfl rfl hl.1 rfl (lv_room (Nat.le_of_ble_eq_true rfl)) dMod_load_17 ⟨Nat.zero_le _, Nat.zero_le _⟩) hS (fun H locs hP hS => ?_)
    exact W.iret hx hb hr (fun t ht hW => ⟨⟨_, (mf_RiscHartModel_illegal st).2, rfl, (by unfold mf_RiscHartModel_load; rw [if_pos c_1]), by show va_P D hcl _ t.heap; rw [ht]; exact hP⟩, hS.F ht⟩) hS.2.2 dMod_load_20
  · refine lv_iload_n hx hb dMod_load_11 rfl (lv_at hl 2 rfl) ?_
    refine lv_iconst (v := 5) hx hb dMod_load_12 (by decide) ?_
    refine lv_icmp_le (tgt := 21) hx hb dMod_load_13 (by decide) (fun c_2 => ?_) (fun c_2 => ?_)
    · refine lv_iload_n hx hb dMod_load_21 rfl (lv_at hl 3 rfl) ?_
      refine lv_iload_n hx hb dMod_load_22 rfl (lv_at hl 0 rfl) ?_
      refine lv_irem hx hb dMod_load_23 (nz_many _) ?_
      refine lv_if_eq (tgt := 34) hx hb dMod_load_24 (by decide) (fun c_3 => ?_) (fun c_3 => ?_)
      · refine lv_aload_n hx hb dMod_load_34 rfl (lv_at hl 1 rfl) ?_
        refine lv_iload_n hx hb dMod_load_35 rfl (lv_at hl 3 rfl) ?_
        refine lv_iconst (v := 1) hx hb dMod_load_36 (by decide) ?_
        refine mk_callR (va_runV (As := [.int a2, .int 1]) (rest := []) ⟨hx, hb, hml, hown, hts⟩ (mc_RiscHartModel_may l hP a2 1) (cwV 2 hts (mk_gV tw_653 tw_655 tw_33 tw_48 tw_656) rfl rfl rfl hdMod_may ⟨Nat.le_of_ble_eq_true rfl, Nat.le_of_ble_eq_true rfl⟩) (mk_preVK hK (va_recv hK hP (ci := 2) (q0 := 0) rfl rfl)) rfl rfl hl.1 rfl (lv_room (Nat.le_of_ble_eq_true rfl)) dMod_load_37 ⟨Nat.zero_le _, Nat.zero_le _⟩) ?_
        refine lv_if_ne (tgt := 51) hx hb dMod_load_40 (by decide) (fun c_4 => ?_) (fun c_4 => ?_)
        · refine lv_iconst (v := 0) hx hb dMod_load_51 (by decide) ?_
          refine lv_istore (lv' := [(4, .int 0), (3, .int ((1 : Int32) <<< ((a1 &&& 3) &&& 31))), (0, .ref m0), (1, .int a1), (2, .int a2)]) hx hb dMod_load_52 hl (by decide) rfl (fun ls hl => ?_)
          refine lv_iconst (v := 0) hx hb dMod_load_54 (by decide) ?_
          refine lv_istore (lv' := [(5, .int 0), (4, .int 0), (3, .int ((1 : Int32) <<< ((a1 &&& 3) &&& 31))), (0, .ref m0), (1, .int a1), (2, .int a2)]) hx hb dMod_load_55 hl (by decide) rfl (fun ls hl => ?_)
          refine lv_iload hx hb dMod_load_57 (lv_at hl 0 rfl) ?_
          refine lv_iload_n hx hb dMod_load_59 rfl (lv_at hl 2 rfl) ?_
          refine lv_icmp_ge (tgt := 89) hx hb dMod_load_60 (by decide) (fun c_5 => ?_) (fun c_5 => ?_)
          · refine lv_iload_n hx hb dMod_load_89 rfl (lv_at hl 4 rfl) ?_
            refine lv_iconst (v := 2) hx hb dMod_load_90 (by decide) ?_
            refine lv_icmp_ge (tgt := 106) hx hb dMod_load_91 (by decide) (fun c_6 => ?_) (fun c_6 => ?_)
            · refine lv_iload hx hb dMod_load_106 (lv_at hl 1 rfl) ?_
              exact W.iret hx hb hr (fun t ht hW => ⟨⟨_, st, rfl, (by unfold mf_RiscHartModel_load; rw [if_neg c_1, if_pos c_2, if_pos c_3, if_neg c_4, if_pos c_5, if_pos c_6]), by show va_P D hcl _ t.heap; rw [ht]; exact hP⟩, hS.F ht⟩) hS.2.2 dMod_load_108
            · refine lv_iload hx hb dMod_load_94 (lv_at hl 1 rfl) ?_
              refine lv_bipush (v := 8) hx hb dMod_load_96 (by decide) ?_
              refine lv_iload_n hx hb dMod_load_98 rfl (lv_at hl 2 rfl) ?_
              refine lv_imul hx hb dMod_load_99 ?_
              refine mk_callR (va_runS (As := [.int 0, .int (8 * ((1 : Int32) <<< ((a1 &&& 3) &&& 31)))]) (rest := []) ⟨hx, hb, hml, hown, hts⟩ (mc_RiscHartModel_signed l _ 0 (8 * ((1 : Int32) <<< ((a1 &&& 3) &&& 31)))) (va_cwS 2 hts (mk_gS tw_686 tw_687 tw_48 tw_688) rfl rfl rfl hdMod_signed.2 ⟨Nat.le_of_ble_eq_true rfl, Nat.le_of_ble_eq_true rfl⟩) mk_preS rfl rfl hl.1 rfl (lv_room (Nat.le_of_ble_eq_true rfl)) dMod_load_100 ⟨Nat.zero_le _, Nat.zero_le _⟩) ?_
              refine lv_goto (tgt := 108) hx hb dMod_load_103 (by decide) ?_
              exact W.iret hx hb hr (fun t ht hW => ⟨⟨_, st, rfl, (by unfold mf_RiscHartModel_load; rw [if_neg c_1, if_pos c_2, if_pos c_3, if_neg c_4, if_pos c_5, if_neg c_6]), by show va_P D hcl _ t.heap; rw [ht]; exact hP⟩, hS.F ht⟩) hS.2.2 dMod_load_108
          · refine lv_iload hx hb dMod_load_63 (lv_at hl 1 rfl) ?_
            refine lv_aload_n hx hb dMod_load_65 rfl (lv_at hl 3 rfl) ?_
            refine va_get (D := D) (ci := 2) (v := .ref m1) (C := RMod) (T := TMod) (N := 14) hx hb hg inMod hown hK hP 0 rfl rfl 1 (by decide) (hg _ tw_558) (fun _ h9 => h9) rfl dMod_load_66 ?_
            refine lv_iload_n hx hb dMod_load_69 rfl (lv_at hl 5 rfl) ?_
            refine lv_iload hx hb dMod_load_70 (lv_at hl 0 rfl) ?_
            refine lv_iadd hx hb dMod_load_72 ?_
            refine va_iald (D := D) (f := ms_bytes st) hx hb hK hP 1 0 rfl rfl (in_many c_3 c_4 c_5) dMod_load_73 ?_
            refine lv_bipush (v := 8) hx hb dMod_load_74 (by decide) ?_
            refine lv_iload hx hb dMod_load_76 (lv_at hl 0 rfl) ?_
            refine lv_imul hx hb dMod_load_78 ?_
            refine lv_ishl hx hb dMod_load_79 ?_
            refine lv_ior hx hb dMod_load_80 ?_
            refine lv_istore (lv' := [(4, .int ((0 : Int32) ||| ((ms_bytes st ((a2 + 0)).toNatClampNeg) <<< (((8 : Int32) * 0) &&& 31)))), (5, .int 0), (3, .int ((1 : Int32) <<< ((a1 &&& 3) &&& 31))), (0, .ref m0), (1, .int a1), (2, .int a2)]) hx hb dMod_load_81 hl (by decide) rfl (fun ls hl => ?_)
            refine lv_iinc (v := 1) (lv' := [(5, .int 1), (4, .int ((0 : Int32) ||| ((ms_bytes st ((a2 + 0)).toNatClampNeg) <<< (((8 : Int32) * 0) &&& 31)))), (3, .int ((1 : Int32) <<< ((a1 &&& 3) &&& 31))), (0, .ref m0), (1, .int a1), (2, .int a2)]) hx hb dMod_load_83 hl (k := 1) rfl (by decide) (by decide) rfl (fun ls hl => ?_)
            refine lv_goto (tgt := 57) hx hb dMod_load_86 (by decide) ?_
            refine lv_iload hx hb dMod_load_57 (lv_at hl 0 rfl) ?_
            refine lv_iload_n hx hb dMod_load_59 rfl (lv_at hl 2 rfl) ?_
            refine lv_icmp_ge (tgt := 89) hx hb dMod_load_60 (by decide) (fun c_7 => ?_) (fun c_7 => ?_)
            · refine lv_iload_n hx hb dMod_load_89 rfl (lv_at hl 4 rfl) ?_
              refine lv_iconst (v := 2) hx hb dMod_load_90 (by decide) ?_
              refine lv_icmp_ge (tgt := 106) hx hb dMod_load_91 (by decide) (fun c_8 => ?_) (fun c_8 => ?_)
              · refine lv_iload hx hb dMod_load_106 (lv_at hl 1 rfl) ?_
                exact W.iret hx hb hr (fun t ht hW => ⟨⟨_, st, rfl, (by unfold mf_RiscHartModel_load; rw [if_neg c_1, if_pos c_2, if_pos c_3, if_neg c_4, if_neg c_5, if_pos c_7, if_pos c_8]), by show va_P D hcl _ t.heap; rw [ht]; exact hP⟩, hS.F ht⟩) hS.2.2 dMod_load_108
              · refine lv_iload hx hb dMod_load_94 (lv_at hl 1 rfl) ?_
                refine lv_bipush (v := 8) hx hb dMod_load_96 (by decide) ?_
                refine lv_iload_n hx hb dMod_load_98 rfl (lv_at hl 2 rfl) ?_
                refine lv_imul hx hb dMod_load_99 ?_
                refine mk_callR (va_runS (As := [.int ((0 : Int32) ||| ((ms_bytes st ((a2 + 0)).toNatClampNeg) <<< (((8 : Int32) * 0) &&& 31))), .int (8 * ((1 : Int32) <<< ((a1 &&& 3) &&& 31)))]) (rest := []) ⟨hx, hb, hml, hown, hts⟩ (mc_RiscHartModel_signed l _ ((0 : Int32) ||| ((ms_bytes st ((a2 + 0)).toNatClampNeg) <<< (((8 : Int32) * 0) &&& 31))) (8 * ((1 : Int32) <<< ((a1 &&& 3) &&& 31)))) (va_cwS 2 hts (mk_gS tw_686 tw_687 tw_48 tw_688) rfl rfl rfl hdMod_signed.2 ⟨Nat.le_of_ble_eq_true rfl, Nat.le_of_ble_eq_true rfl⟩) mk_preS rfl rfl hl.1 rfl (lv_room (Nat.le_of_ble_eq_true rfl)) dMod_load_100 ⟨Nat.zero_le _, Nat.zero_le _⟩) ?_
                refine lv_goto (tgt := 108) hx hb dMod_load_103 (by decide) ?_
                exact W.iret hx hb hr (fun t ht hW => ⟨⟨_, st, rfl, (by unfold mf_RiscHartModel_load; rw [if_neg c_1, if_pos c_2, if_pos c_3, if_neg c_4, if_neg c_5, if_pos c_7, if_neg c_8]), by show va_P D hcl _ t.heap; rw [ht]; exact hP⟩, hS.F ht⟩) hS.2.2 dMod_load_108
            · refine lv_iload hx hb dMod_load_63 (lv_at hl 1 rfl) ?_
              refine lv_aload_n hx hb dMod_load_65 rfl (lv_at hl 3 rfl) ?_
              refine va_get (D := D) (ci := 2) (v := .ref m1) (C := RMod) (T := TMod) (N := 14) hx hb hg inMod hown hK hP 0 rfl rfl 1 (by decide) (hg _ tw_558) (fun _ h9 => h9) rfl dMod_load_66 ?_
              refine lv_iload_n hx hb dMod_load_69 rfl (lv_at hl 5 rfl) ?_
              refine lv_iload hx hb dMod_load_70 (lv_at hl 0 rfl) ?_
              refine lv_iadd hx hb dMod_load_72 ?_
              refine va_iald (D := D) (f := ms_bytes st) hx hb hK hP 1 0 rfl rfl (in_many c_3 c_4 c_7) dMod_load_73 ?_
              refine lv_bipush (v := 8) hx hb dMod_load_74 (by decide) ?_
              refine lv_iload hx hb dMod_load_76 (lv_at hl 0 rfl) ?_
              refine lv_imul hx hb dMod_load_78 ?_
              refine lv_ishl hx hb dMod_load_79 ?_
              refine lv_ior hx hb dMod_load_80 ?_
              refine lv_istore (lv' := [(4, .int (((0 : Int32) ||| ((ms_bytes st ((a2 + 0)).toNatClampNeg) <<< (((8 : Int32) * 0) &&& 31))) ||| ((ms_bytes st ((a2 + 1)).toNatClampNeg) <<< (((8 : Int32) * 1) &&& 31)))), (5, .int 1), (3, .int ((1 : Int32) <<< ((a1 &&& 3) &&& 31))), (0, .ref m0), (1, .int a1), (2, .int a2)]) hx hb dMod_load_81 hl (by decide) rfl (fun ls hl => ?_)
              refine lv_iinc (v := 2) (lv' := [(5, .int 2), (4, .int (((0 : Int32) ||| ((ms_bytes st ((a2 + 0)).toNatClampNeg) <<< (((8 : Int32) * 0) &&& 31))) ||| ((ms_bytes st ((a2 + 1)).toNatClampNeg) <<< (((8 : Int32) * 1) &&& 31)))), (3, .int ((1 : Int32) <<< ((a1 &&& 3) &&& 31))), (0, .ref m0), (1, .int a1), (2, .int a2)]) hx hb dMod_load_83 hl (k := 1) rfl (by decide) (by decide) rfl (fun ls hl => ?_)
              refine lv_goto (tgt := 57) hx hb dMod_load_86 (by decide) ?_
              refine lv_iload hx hb dMod_load_57 (lv_at hl 0 rfl) ?_
              refine lv_iload_n hx hb dMod_load_59 rfl (lv_at hl 2 rfl) ?_
              refine lv_icmp_ge (tgt := 89) hx hb dMod_load_60 (by decide) (fun c_9 => ?_) (fun c_9 => ?_)
              · refine lv_iload_n hx hb dMod_load_89 rfl (lv_at hl 4 rfl) ?_
                refine lv_iconst (v := 2) hx hb dMod_load_90 (by decide) ?_
                refine lv_icmp_ge (tgt := 106) hx hb dMod_load_91 (by decide) (fun c_10 => ?_) (fun c_10 => ?_)
                · refine lv_iload hx hb dMod_load_106 (lv_at hl 1 rfl) ?_
                  exact W.iret hx hb hr (fun t ht hW => ⟨⟨_, st, rfl, (by unfold mf_RiscHartModel_load; rw [if_neg c_1, if_pos c_2, if_pos c_3, if_neg c_4, if_neg c_5, if_neg c_7, if_pos c_9, if_pos c_10]), by show va_P D hcl _ t.heap; rw [ht]; exact hP⟩, hS.F ht⟩) hS.2.2 dMod_load_108
                · refine lv_iload hx hb dMod_load_94 (lv_at hl 1 rfl) ?_
                  refine lv_bipush (v := 8) hx hb dMod_load_96 (by decide) ?_
                  refine lv_iload_n hx hb dMod_load_98 rfl (lv_at hl 2 rfl) ?_
                  refine lv_imul hx hb dMod_load_99 ?_
                  refine mk_callR (va_runS (As := [.int (((0 : Int32) ||| ((ms_bytes st ((a2 + 0)).toNatClampNeg) <<< (((8 : Int32) * 0) &&& 31))) ||| ((ms_bytes st ((a2 + 1)).toNatClampNeg) <<< (((8 : Int32) * 1) &&& 31))), .int (8 * ((1 : Int32) <<< ((a1 &&& 3) &&& 31)))]) (rest := []) ⟨hx, hb, hml, hown, hts⟩ (mc_RiscHartModel_signed l _ (((0 : Int32) ||| ((ms_bytes st ((a2 + 0)).toNatClampNeg) <<< (((8 : Int32) * 0) &&& 31))) ||| ((ms_bytes st ((a2 + 1)).toNatClampNeg) <<< (((8 : Int32) * 1) &&& 31))) (8 * ((1 : Int32) <<< ((a1 &&& 3) &&& 31)))) (va_cwS 2 hts (mk_gS tw_686 tw_687 tw_48 tw_688) rfl rfl rfl hdMod_signed.2 ⟨Nat.le_of_ble_eq_true rfl, Nat.le_of_ble_eq_true rfl⟩) mk_preS rfl rfl hl.1 rfl (lv_room (Nat.le_of_ble_eq_true rfl)) dMod_load_100 ⟨Nat.zero_le _, Nat.zero_le _⟩) ?_
                  refine lv_goto (tgt := 108) hx hb dMod_load_103 (by decide) ?_
                  exact W.iret hx hb hr (fun t ht hW => ⟨⟨_, st, rfl, (by unfold mf_RiscHartModel_load; rw [if_neg c_1, if_pos c_2, if_pos c_3, if_neg c_4, if_neg c_5, if_neg c_7, if_pos c_9, if_neg c_10]), by show va_P D hcl _ t.heap; rw [ht]; exact hP⟩, hS.F ht⟩) hS.2.2 dMod_load_108
              · refine lv_iload hx hb dMod_load_63 (lv_at hl 1 rfl) ?_
                refine lv_aload_n hx hb dMod_load_65 rfl (lv_at hl 3 rfl) ?_
                refine va_get (D := D) (ci := 2) (v := .ref m1) (C := RMod) (T := TMod) (N := 14) hx hb hg inMod hown hK hP 0 rfl rfl 1 (by decide) (hg _ tw_558) (fun _ h9 => h9) rfl dMod_load_66 ?_
                refine lv_iload_n hx hb dMod_load_69 rfl (lv_at hl 5 rfl) ?_
                refine lv_iload hx hb dMod_load_70 (lv_at hl 0 rfl) ?_
                refine lv_iadd hx hb dMod_load_72 ?_
                refine va_iald (D := D) (f := ms_bytes st) hx hb hK hP 1 0 rfl rfl (in_many c_3 c_4 c_9) dMod_load_73 ?_
                refine lv_bipush (v := 8) hx hb dMod_load_74 (by decide) ?_
                refine lv_iload hx hb dMod_load_76 (lv_at hl 0 rfl) ?_
                refine lv_imul hx hb dMod_load_78 ?_
                refine lv_ishl hx hb dMod_load_79 ?_
                refine lv_ior hx hb dMod_load_80 ?_
                refine lv_istore (lv' := [(4, .int ((((0 : Int32) ||| ((ms_bytes st ((a2 + 0)).toNatClampNeg) <<< (((8 : Int32) * 0) &&& 31))) ||| ((ms_bytes st ((a2 + 1)).toNatClampNeg) <<< (((8 : Int32) * 1) &&& 31))) ||| ((ms_bytes st ((a2 + 2)).toNatClampNeg) <<< (((8 : Int32) * 2) &&& 31)))), (5, .int 2), (3, .int ((1 : Int32) <<< ((a1 &&& 3) &&& 31))), (0, .ref m0), (1, .int a1), (2, .int a2)]) hx hb dMod_load_81 hl (by decide) rfl (fun ls hl => ?_)
                refine lv_iinc (v := 3) (lv' := [(5, .int 3), (4, .int ((((0 : Int32) ||| ((ms_bytes st ((a2 + 0)).toNatClampNeg) <<< (((8 : Int32) * 0) &&& 31))) ||| ((ms_bytes st ((a2 + 1)).toNatClampNeg) <<< (((8 : Int32) * 1) &&& 31))) ||| ((ms_bytes st ((a2 + 2)).toNatClampNeg) <<< (((8 : Int32) * 2) &&& 31)))), (3, .int ((1 : Int32) <<< ((a1 &&& 3) &&& 31))), (0, .ref m0), (1, .int a1), (2, .int a2)]) hx hb dMod_load_83 hl (k := 1) rfl (by decide) (by decide) rfl (fun ls hl => ?_)
                refine lv_goto (tgt := 57) hx hb dMod_load_86 (by decide) ?_
                refine lv_iload hx hb dMod_load_57 (lv_at hl 0 rfl) ?_
                refine lv_iload_n hx hb dMod_load_59 rfl (lv_at hl 2 rfl) ?_
                refine lv_icmp_ge (tgt := 89) hx hb dMod_load_60 (by decide) (fun c_11 => ?_) (fun c_11 => ?_)
                · refine lv_iload_n hx hb dMod_load_89 rfl (lv_at hl 4 rfl) ?_
                  refine lv_iconst (v := 2) hx hb dMod_load_90 (by decide) ?_
                  refine lv_icmp_ge (tgt := 106) hx hb dMod_load_91 (by decide) (fun c_12 => ?_) (fun c_12 => ?_)
                  · refine lv_iload hx hb dMod_load_106 (lv_at hl 1 rfl) ?_
                    exact W.iret hx hb hr (fun t ht hW => ⟨⟨_, st, rfl, (by unfold mf_RiscHartModel_load; rw [if_neg c_1, if_pos c_2, if_pos c_3, if_neg c_4, if_neg c_5, if_neg c_7, if_neg c_9, if_pos c_11, if_pos c_12]), by show va_P D hcl _ t.heap; rw [ht]; exact hP⟩, hS.F ht⟩) hS.2.2 dMod_load_108
                  · refine lv_iload hx hb dMod_load_94 (lv_at hl 1 rfl) ?_
                    refine lv_bipush (v := 8) hx hb dMod_load_96 (by decide) ?_
                    refine lv_iload_n hx hb dMod_load_98 rfl (lv_at hl 2 rfl) ?_
                    refine lv_imul hx hb dMod_load_99 ?_
                    refine mk_callR (va_runS (As := [.int ((((0 : Int32) ||| ((ms_bytes st ((a2 + 0)).toNatClampNeg) <<< (((8 : Int32) * 0) &&& 31))) ||| ((ms_bytes st ((a2 + 1)).toNatClampNeg) <<< (((8 : Int32) * 1) &&& 31))) ||| ((ms_bytes st ((a2 + 2)).toNatClampNeg) <<< (((8 : Int32) * 2) &&& 31))), .int (8 * ((1 : Int32) <<< ((a1 &&& 3) &&& 31)))]) (rest := []) ⟨hx, hb, hml, hown, hts⟩ (mc_RiscHartModel_signed l _ ((((0 : Int32) ||| ((ms_bytes st ((a2 + 0)).toNatClampNeg) <<< (((8 : Int32) * 0) &&& 31))) ||| ((ms_bytes st ((a2 + 1)).toNatClampNeg) <<< (((8 : Int32) * 1) &&& 31))) ||| ((ms_bytes st ((a2 + 2)).toNatClampNeg) <<< (((8 : Int32) * 2) &&& 31))) (8 * ((1 : Int32) <<< ((a1 &&& 3) &&& 31)))) (va_cwS 2 hts (mk_gS tw_686 tw_687 tw_48 tw_688) rfl rfl rfl hdMod_signed.2 ⟨Nat.le_of_ble_eq_true rfl, Nat.le_of_ble_eq_true rfl⟩) mk_preS rfl rfl hl.1 rfl (lv_room (Nat.le_of_ble_eq_true rfl)) dMod_load_100 ⟨Nat.zero_le _, Nat.zero_le _⟩) ?_
                    refine lv_goto (tgt := 108) hx hb dMod_load_103 (by decide) ?_
                    exact W.iret hx hb hr (fun t ht hW => ⟨⟨_, st, rfl, (by unfold mf_RiscHartModel_load; rw [if_neg c_1, if_pos c_2, if_pos c_3, if_neg c_4, if_neg c_5, if_neg c_7, if_neg c_9, if_pos c_11, if_neg c_12]), by show va_P D hcl _ t.heap; rw [ht]; exact hP⟩, hS.F ht⟩) hS.2.2 dMod_load_108
                · refine lv_iload hx hb dMod_load_63 (lv_at hl 1 rfl) ?_
                  refine lv_aload_n hx hb dMod_load_65 rfl (lv_at hl 3 rfl) ?_
                  refine va_get (D := D) (ci := 2) (v := .ref m1) (C := RMod) (T := TMod) (N := 14) hx hb hg inMod hown hK hP 0 rfl rfl 1 (by decide) (hg _ tw_558) (fun _ h9 => h9) rfl dMod_load_66 ?_
                  refine lv_iload_n hx hb dMod_load_69 rfl (lv_at hl 5 rfl) ?_
                  refine lv_iload hx hb dMod_load_70 (lv_at hl 0 rfl) ?_
                  refine lv_iadd hx hb dMod_load_72 ?_
                  refine va_iald (D := D) (f := ms_bytes st) hx hb hK hP 1 0 rfl rfl (in_many c_3 c_4 c_11) dMod_load_73 ?_
                  refine lv_bipush (v := 8) hx hb dMod_load_74 (by decide) ?_
                  refine lv_iload hx hb dMod_load_76 (lv_at hl 0 rfl) ?_
                  refine lv_imul hx hb dMod_load_78 ?_
                  refine lv_ishl hx hb dMod_load_79 ?_
                  refine lv_ior hx hb dMod_load_80 ?_
                  refine lv_istore (lv' := [(4, .int (((((0 : Int32) ||| ((ms_bytes st ((a2 + 0)).toNatClampNeg) <<< (((8 : Int32) * 0) &&& 31))) ||| ((ms_bytes st ((a2 + 1)).toNatClampNeg) <<< (((8 : Int32) * 1) &&& 31))) ||| ((ms_bytes st ((a2 + 2)).toNatClampNeg) <<< (((8 : Int32) * 2) &&& 31))) ||| ((ms_bytes st ((a2 + 3)).toNatClampNeg) <<< (((8 : Int32) * 3) &&& 31)))), (5, .int 3), (3, .int ((1 : Int32) <<< ((a1 &&& 3) &&& 31))), (0, .ref m0), (1, .int a1), (2, .int a2)]) hx hb dMod_load_81 hl (by decide) rfl (fun ls hl => ?_)
                  refine lv_iinc (v := 4) (lv' := [(5, .int 4), (4, .int (((((0 : Int32) ||| ((ms_bytes st ((a2 + 0)).toNatClampNeg) <<< (((8 : Int32) * 0) &&& 31))) ||| ((ms_bytes st ((a2 + 1)).toNatClampNeg) <<< (((8 : Int32) * 1) &&& 31))) ||| ((ms_bytes st ((a2 + 2)).toNatClampNeg) <<< (((8 : Int32) * 2) &&& 31))) ||| ((ms_bytes st ((a2 + 3)).toNatClampNeg) <<< (((8 : Int32) * 3) &&& 31)))), (3, .int ((1 : Int32) <<< ((a1 &&& 3) &&& 31))), (0, .ref m0), (1, .int a1), (2, .int a2)]) hx hb dMod_load_83 hl (k := 1) rfl (by decide) (by decide) rfl (fun ls hl => ?_)
                  refine lv_goto (tgt := 57) hx hb dMod_load_86 (by decide) ?_
                  refine lv_iload hx hb dMod_load_57 (lv_at hl 0 rfl) ?_
                  refine lv_iload_n hx hb dMod_load_59 rfl (lv_at hl 2 rfl) ?_
                  refine lv_icmp_ge (tgt := 89) hx hb dMod_load_60 (by decide) (fun c_13 => ?_) (fun c_13 => ?_)
                  · refine lv_iload_n hx hb dMod_load_89 rfl (lv_at hl 4 rfl) ?_
                    refine lv_iconst (v := 2) hx hb dMod_load_90 (by decide) ?_
                    refine lv_icmp_ge (tgt := 106) hx hb dMod_load_91 (by decide) (fun c_14 => ?_) (fun c_14 => ?_)
                    · refine lv_iload hx hb dMod_load_106 (lv_at hl 1 rfl) ?_
                      exact W.iret hx hb hr (fun t ht hW => ⟨⟨_, st, rfl, (by unfold mf_RiscHartModel_load; rw [if_neg c_1, if_pos c_2, if_pos c_3, if_neg c_4, if_neg c_5, if_neg c_7, if_neg c_9, if_neg c_11, if_pos c_13, if_pos c_14]), by show va_P D hcl _ t.heap; rw [ht]; exact hP⟩, hS.F ht⟩) hS.2.2 dMod_load_108
                    · refine lv_iload hx hb dMod_load_94 (lv_at hl 1 rfl) ?_
                      refine lv_bipush (v := 8) hx hb dMod_load_96 (by decide) ?_
                      refine lv_iload_n hx hb dMod_load_98 rfl (lv_at hl 2 rfl) ?_
                      refine lv_imul hx hb dMod_load_99 ?_
                      refine mk_callR (va_runS (As := [.int (((((0 : Int32) ||| ((ms_bytes st ((a2 + 0)).toNatClampNeg) <<< (((8 : Int32) * 0) &&& 31))) ||| ((ms_bytes st ((a2 + 1)).toNatClampNeg) <<< (((8 : Int32) * 1) &&& 31))) ||| ((ms_bytes st ((a2 + 2)).toNatClampNeg) <<< (((8 : Int32) * 2) &&& 31))) ||| ((ms_bytes st ((a2 + 3)).toNatClampNeg) <<< (((8 : Int32) * 3) &&& 31))), .int (8 * ((1 : Int32) <<< ((a1 &&& 3) &&& 31)))]) (rest := []) ⟨hx, hb, hml, hown, hts⟩ (mc_RiscHartModel_signed l _ (((((0 : Int32) ||| ((ms_bytes st ((a2 + 0)).toNatClampNeg) <<< (((8 : Int32) * 0) &&& 31))) ||| ((ms_bytes st ((a2 + 1)).toNatClampNeg) <<< (((8 : Int32) * 1) &&& 31))) ||| ((ms_bytes st ((a2 + 2)).toNatClampNeg) <<< (((8 : Int32) * 2) &&& 31))) ||| ((ms_bytes st ((a2 + 3)).toNatClampNeg) <<< (((8 : Int32) * 3) &&& 31))) (8 * ((1 : Int32) <<< ((a1 &&& 3) &&& 31)))) (va_cwS 2 hts (mk_gS tw_686 tw_687 tw_48 tw_688) rfl rfl rfl hdMod_signed.2 ⟨Nat.le_of_ble_eq_true rfl, Nat.le_of_ble_eq_true rfl⟩) mk_preS rfl rfl hl.1 rfl (lv_room (Nat.le_of_ble_eq_true rfl)) dMod_load_100 ⟨Nat.zero_le _, Nat.zero_le _⟩) ?_
                      refine lv_goto (tgt := 108) hx hb dMod_load_103 (by decide) ?_
                      exact W.iret hx hb hr (fun t ht hW => ⟨⟨_, st, rfl, (by unfold mf_RiscHartModel_load; rw [if_neg c_1, if_pos c_2, if_pos c_3, if_neg c_4, if_neg c_5, if_neg c_7, if_neg c_9, if_neg c_11, if_pos c_13, if_neg c_14]), by show va_P D hcl _ t.heap; rw [ht]; exact hP⟩, hS.F ht⟩) hS.2.2 dMod_load_108
                  · refine lv_iload hx hb dMod_load_63 (lv_at hl 1 rfl) ?_
                    refine lv_aload_n hx hb dMod_load_65 rfl (lv_at hl 3 rfl) ?_
                    refine va_get (D := D) (ci := 2) (v := .ref m1) (C := RMod) (T := TMod) (N := 14) hx hb hg inMod hown hK hP 0 rfl rfl 1 (by decide) (hg _ tw_558) (fun _ h9 => h9) rfl dMod_load_66 ?_
                    refine lv_iload_n hx hb dMod_load_69 rfl (lv_at hl 5 rfl) ?_
                    refine lv_iload hx hb dMod_load_70 (lv_at hl 0 rfl) ?_
                    refine lv_iadd hx hb dMod_load_72 ?_
                    refine va_iald (D := D) (f := ms_bytes st) hx hb hK hP 1 0 rfl rfl (in_many c_3 c_4 c_13) dMod_load_73 ?_
                    refine lv_bipush (v := 8) hx hb dMod_load_74 (by decide) ?_
                    refine lv_iload hx hb dMod_load_76 (lv_at hl 0 rfl) ?_
                    refine lv_imul hx hb dMod_load_78 ?_
                    refine lv_ishl hx hb dMod_load_79 ?_
                    refine lv_ior hx hb dMod_load_80 ?_
                    refine lv_istore (lv' := [(4, .int ((((((0 : Int32) ||| ((ms_bytes st ((a2 + 0)).toNatClampNeg) <<< (((8 : Int32) * 0) &&& 31))) ||| ((ms_bytes st ((a2 + 1)).toNatClampNeg) <<< (((8 : Int32) * 1) &&& 31))) ||| ((ms_bytes st ((a2 + 2)).toNatClampNeg) <<< (((8 : Int32) * 2) &&& 31))) ||| ((ms_bytes st ((a2 + 3)).toNatClampNeg) <<< (((8 : Int32) * 3) &&& 31))) ||| ((ms_bytes st ((a2 + 4)).toNatClampNeg) <<< (((8 : Int32) * 4) &&& 31)))), (5, .int 4), (3, .int ((1 : Int32) <<< ((a1 &&& 3) &&& 31))), (0, .ref m0), (1, .int a1), (2, .int a2)]) hx hb dMod_load_81 hl (by decide) rfl (fun ls hl => ?_)
                    refine lv_iinc (v := 5) (lv' := [(5, .int 5), (4, .int ((((((0 : Int32) ||| ((ms_bytes st ((a2 + 0)).toNatClampNeg) <<< (((8 : Int32) * 0) &&& 31))) ||| ((ms_bytes st ((a2 + 1)).toNatClampNeg) <<< (((8 : Int32) * 1) &&& 31))) ||| ((ms_bytes st ((a2 + 2)).toNatClampNeg) <<< (((8 : Int32) * 2) &&& 31))) ||| ((ms_bytes st ((a2 + 3)).toNatClampNeg) <<< (((8 : Int32) * 3) &&& 31))) ||| ((ms_bytes st ((a2 + 4)).toNatClampNeg) <<< (((8 : Int32) * 4) &&& 31)))), (3, .int ((1 : Int32) <<< ((a1 &&& 3) &&& 31))), (0, .ref m0), (1, .int a1), (2, .int a2)]) hx hb dMod_load_83 hl (k := 1) rfl (by decide) (by decide) rfl (fun ls hl => ?_)
                    refine lv_goto (tgt := 57) hx hb dMod_load_86 (by decide) ?_
                    refine lv_iload hx hb dMod_load_57 (lv_at hl 0 rfl) ?_
                    refine lv_iload_n hx hb dMod_load_59 rfl (lv_at hl 2 rfl) ?_
                    refine lv_icmp_ge (tgt := 89) hx hb dMod_load_60 (by decide) (fun c_15 => ?_) (fun c_15 => ?_)
                    · refine lv_iload_n hx hb dMod_load_89 rfl (lv_at hl 4 rfl) ?_
                      refine lv_iconst (v := 2) hx hb dMod_load_90 (by decide) ?_
                      refine lv_icmp_ge (tgt := 106) hx hb dMod_load_91 (by decide) (fun c_16 => ?_) (fun c_16 => ?_)
                      · refine lv_iload hx hb dMod_load_106 (lv_at hl 1 rfl) ?_
                        exact W.iret hx hb hr (fun t ht hW => ⟨⟨_, st, rfl, (by unfold mf_RiscHartModel_load; rw [if_neg c_1, if_pos c_2, if_pos c_3, if_neg c_4, if_neg c_5, if_neg c_7, if_neg c_9, if_neg c_11, if_neg c_13, if_pos c_15, if_pos c_16]), by show va_P D hcl _ t.heap; rw [ht]; exact hP⟩, hS.F ht⟩) hS.2.2 dMod_load_108
                      · refine lv_iload hx hb dMod_load_94 (lv_at hl 1 rfl) ?_
                        refine lv_bipush (v := 8) hx hb dMod_load_96 (by decide) ?_
                        refine lv_iload_n hx hb dMod_load_98 rfl (lv_at hl 2 rfl) ?_
                        refine lv_imul hx hb dMod_load_99 ?_
                        refine mk_callR (va_runS (As := [.int ((((((0 : Int32) ||| ((ms_bytes st ((a2 + 0)).toNatClampNeg) <<< (((8 : Int32) * 0) &&& 31))) ||| ((ms_bytes st ((a2 + 1)).toNatClampNeg) <<< (((8 : Int32) * 1) &&& 31))) ||| ((ms_bytes st ((a2 + 2)).toNatClampNeg) <<< (((8 : Int32) * 2) &&& 31))) ||| ((ms_bytes st ((a2 + 3)).toNatClampNeg) <<< (((8 : Int32) * 3) &&& 31))) ||| ((ms_bytes st ((a2 + 4)).toNatClampNeg) <<< (((8 : Int32) * 4) &&& 31))), .int (8 * ((1 : Int32) <<< ((a1 &&& 3) &&& 31)))]) (rest := []) ⟨hx, hb, hml, hown, hts⟩ (mc_RiscHartModel_signed l _ ((((((0 : Int32) ||| ((ms_bytes st ((a2 + 0)).toNatClampNeg) <<< (((8 : Int32) * 0) &&& 31))) ||| ((ms_bytes st ((a2 + 1)).toNatClampNeg) <<< (((8 : Int32) * 1) &&& 31))) ||| ((ms_bytes st ((a2 + 2)).toNatClampNeg) <<< (((8 : Int32) * 2) &&& 31))) ||| ((ms_bytes st ((a2 + 3)).toNatClampNeg) <<< (((8 : Int32) * 3) &&& 31))) ||| ((ms_bytes st ((a2 + 4)).toNatClampNeg) <<< (((8 : Int32) * 4) &&& 31))) (8 * ((1 : Int32) <<< ((a1 &&& 3) &&& 31)))) (va_cwS 2 hts (mk_gS tw_686 tw_687 tw_48 tw_688) rfl rfl rfl hdMod_signed.2 ⟨Nat.le_of_ble_eq_true rfl, Nat.le_of_ble_eq_true rfl⟩) mk_preS rfl rfl hl.1 rfl (lv_room (Nat.le_of_ble_eq_true rfl)) dMod_load_100 ⟨Nat.zero_le _, Nat.zero_le _⟩) ?_
                        refine lv_goto (tgt := 108) hx hb dMod_load_103 (by decide) ?_
                        exact W.iret hx hb hr (fun t ht hW => ⟨⟨_, st, rfl, (by unfold mf_RiscHartModel_load; rw [if_neg c_1, if_pos c_2, if_pos c_3, if_neg c_4, if_neg c_5, if_neg c_7, if_neg c_9, if_neg c_11, if_neg c_13, if_pos c_15, if_neg c_16]), by show va_P D hcl _ t.heap; rw [ht]; exact hP⟩, hS.F ht⟩) hS.2.2 dMod_load_108
                    · refine lv_iload hx hb dMod_load_63 (lv_at hl 1 rfl) ?_
                      refine lv_aload_n hx hb dMod_load_65 rfl (lv_at hl 3 rfl) ?_
                      refine va_get (D := D) (ci := 2) (v := .ref m1) (C := RMod) (T := TMod) (N := 14) hx hb hg inMod hown hK hP 0 rfl rfl 1 (by decide) (hg _ tw_558) (fun _ h9 => h9) rfl dMod_load_66 ?_
                      refine lv_iload_n hx hb dMod_load_69 rfl (lv_at hl 5 rfl) ?_
                      refine lv_iload hx hb dMod_load_70 (lv_at hl 0 rfl) ?_
                      refine lv_iadd hx hb dMod_load_72 ?_
                      refine va_iald (D := D) (f := ms_bytes st) hx hb hK hP 1 0 rfl rfl (in_many c_3 c_4 c_15) dMod_load_73 ?_
                      refine lv_bipush (v := 8) hx hb dMod_load_74 (by decide) ?_
                      refine lv_iload hx hb dMod_load_76 (lv_at hl 0 rfl) ?_
                      refine lv_imul hx hb dMod_load_78 ?_
                      refine lv_ishl hx hb dMod_load_79 ?_
                      refine lv_ior hx hb dMod_load_80 ?_
                      refine lv_istore (lv' := [(4, .int (((((((0 : Int32) ||| ((ms_bytes st ((a2 + 0)).toNatClampNeg) <<< (((8 : Int32) * 0) &&& 31))) ||| ((ms_bytes st ((a2 + 1)).toNatClampNeg) <<< (((8 : Int32) * 1) &&& 31))) ||| ((ms_bytes st ((a2 + 2)).toNatClampNeg) <<< (((8 : Int32) * 2) &&& 31))) ||| ((ms_bytes st ((a2 + 3)).toNatClampNeg) <<< (((8 : Int32) * 3) &&& 31))) ||| ((ms_bytes st ((a2 + 4)).toNatClampNeg) <<< (((8 : Int32) * 4) &&& 31))) ||| ((ms_bytes st ((a2 + 5)).toNatClampNeg) <<< (((8 : Int32) * 5) &&& 31)))), (5, .int 5), (3, .int ((1 : Int32) <<< ((a1 &&& 3) &&& 31))), (0, .ref m0), (1, .int a1), (2, .int a2)]) hx hb dMod_load_81 hl (by decide) rfl (fun ls hl => ?_)
                      refine lv_iinc (v := 6) (lv' := [(5, .int 6), (4, .int (((((((0 : Int32) ||| ((ms_bytes st ((a2 + 0)).toNatClampNeg) <<< (((8 : Int32) * 0) &&& 31))) ||| ((ms_bytes st ((a2 + 1)).toNatClampNeg) <<< (((8 : Int32) * 1) &&& 31))) ||| ((ms_bytes st ((a2 + 2)).toNatClampNeg) <<< (((8 : Int32) * 2) &&& 31))) ||| ((ms_bytes st ((a2 + 3)).toNatClampNeg) <<< (((8 : Int32) * 3) &&& 31))) ||| ((ms_bytes st ((a2 + 4)).toNatClampNeg) <<< (((8 : Int32) * 4) &&& 31))) ||| ((ms_bytes st ((a2 + 5)).toNatClampNeg) <<< (((8 : Int32) * 5) &&& 31)))), (3, .int ((1 : Int32) <<< ((a1 &&& 3) &&& 31))), (0, .ref m0), (1, .int a1), (2, .int a2)]) hx hb dMod_load_83 hl (k := 1) rfl (by decide) (by decide) rfl (fun ls hl => ?_)
                      refine lv_goto (tgt := 57) hx hb dMod_load_86 (by decide) ?_
                      refine lv_iload hx hb dMod_load_57 (lv_at hl 0 rfl) ?_
                      refine lv_iload_n hx hb dMod_load_59 rfl (lv_at hl 2 rfl) ?_
                      refine lv_icmp_ge (tgt := 89) hx hb dMod_load_60 (by decide) (fun c_17 => ?_) (fun c_17 => ?_)
                      · refine lv_iload_n hx hb dMod_load_89 rfl (lv_at hl 4 rfl) ?_
                        refine lv_iconst (v := 2) hx hb dMod_load_90 (by decide) ?_
                        refine lv_icmp_ge (tgt := 106) hx hb dMod_load_91 (by decide) (fun c_18 => ?_) (fun c_18 => ?_)
                        · refine lv_iload hx hb dMod_load_106 (lv_at hl 1 rfl) ?_
                          exact W.iret hx hb hr (fun t ht hW => ⟨⟨_, st, rfl, (by unfold mf_RiscHartModel_load; rw [if_neg c_1, if_pos c_2, if_pos c_3, if_neg c_4, if_neg c_5, if_neg c_7, if_neg c_9, if_neg c_11, if_neg c_13, if_neg c_15, if_pos c_17, if_pos c_18]), by show va_P D hcl _ t.heap; rw [ht]; exact hP⟩, hS.F ht⟩) hS.2.2 dMod_load_108
                        · refine lv_iload hx hb dMod_load_94 (lv_at hl 1 rfl) ?_
                          refine lv_bipush (v := 8) hx hb dMod_load_96 (by decide) ?_
                          refine lv_iload_n hx hb dMod_load_98 rfl (lv_at hl 2 rfl) ?_
                          refine lv_imul hx hb dMod_load_99 ?_
                          refine mk_callR (va_runS (As := [.int (((((((0 : Int32) ||| ((ms_bytes st ((a2 + 0)).toNatClampNeg) <<< (((8 : Int32) * 0) &&& 31))) ||| ((ms_bytes st ((a2 + 1)).toNatClampNeg) <<< (((8 : Int32) * 1) &&& 31))) ||| ((ms_bytes st ((a2 + 2)).toNatClampNeg) <<< (((8 : Int32) * 2) &&& 31))) ||| ((ms_bytes st ((a2 + 3)).toNatClampNeg) <<< (((8 : Int32) * 3) &&& 31))) ||| ((ms_bytes st ((a2 + 4)).toNatClampNeg) <<< (((8 : Int32) * 4) &&& 31))) ||| ((ms_bytes st ((a2 + 5)).toNatClampNeg) <<< (((8 : Int32) * 5) &&& 31))), .int (8 * ((1 : Int32) <<< ((a1 &&& 3) &&& 31)))]) (rest := []) ⟨hx, hb, hml, hown, hts⟩ (mc_RiscHartModel_signed l _ (((((((0 : Int32) ||| ((ms_bytes st ((a2 + 0)).toNatClampNeg) <<< (((8 : Int32) * 0) &&& 31))) ||| ((ms_bytes st ((a2 + 1)).toNatClampNeg) <<< (((8 : Int32) * 1) &&& 31))) ||| ((ms_bytes st ((a2 + 2)).toNatClampNeg) <<< (((8 : Int32) * 2) &&& 31))) ||| ((ms_bytes st ((a2 + 3)).toNatClampNeg) <<< (((8 : Int32) * 3) &&& 31))) ||| ((ms_bytes st ((a2 + 4)).toNatClampNeg) <<< (((8 : Int32) * 4) &&& 31))) ||| ((ms_bytes st ((a2 + 5)).toNatClampNeg) <<< (((8 : Int32) * 5) &&& 31))) (8 * ((1 : Int32) <<< ((a1 &&& 3) &&& 31)))) (va_cwS 2 hts (mk_gS tw_686 tw_687 tw_48 tw_688) rfl rfl rfl hdMod_signed.2 ⟨Nat.le_of_ble_eq_true rfl, Nat.le_of_ble_eq_true rfl⟩) mk_preS rfl rfl hl.1 rfl (lv_room (Nat.le_of_ble_eq_true rfl)) dMod_load_100 ⟨Nat.zero_le _, Nat.zero_le _⟩) ?_
                          refine lv_goto (tgt := 108) hx hb dMod_load_103 (by decide) ?_
                          exact W.iret hx hb hr (fun t ht hW => ⟨⟨_, st, rfl, (by unfold mf_RiscHartModel_load; rw [if_neg c_1, if_pos c_2, if_pos c_3, if_neg c_4, if_neg c_5, if_neg c_7, if_neg c_9, if_neg c_11, if_neg c_13, if_neg c_15, if_pos c_17, if_neg c_18]), by show va_P D hcl _ t.heap; rw [ht]; exact hP⟩, hS.F ht⟩) hS.2.2 dMod_load_108
                      · refine lv_iload hx hb dMod_load_63 (lv_at hl 1 rfl) ?_
                        refine lv_aload_n hx hb dMod_load_65 rfl (lv_at hl 3 rfl) ?_
                        refine va_get (D := D) (ci := 2) (v := .ref m1) (C := RMod) (T := TMod) (N := 14) hx hb hg inMod hown hK hP 0 rfl rfl 1 (by decide) (hg _ tw_558) (fun _ h9 => h9) rfl dMod_load_66 ?_
                        refine lv_iload_n hx hb dMod_load_69 rfl (lv_at hl 5 rfl) ?_
                        refine lv_iload hx hb dMod_load_70 (lv_at hl 0 rfl) ?_
                        refine lv_iadd hx hb dMod_load_72 ?_
                        refine va_iald (D := D) (f := ms_bytes st) hx hb hK hP 1 0 rfl rfl (in_many c_3 c_4 c_17) dMod_load_73 ?_
                        refine lv_bipush (v := 8) hx hb dMod_load_74 (by decide) ?_
                        refine lv_iload hx hb dMod_load_76 (lv_at hl 0 rfl) ?_
                        refine lv_imul hx hb dMod_load_78 ?_
                        refine lv_ishl hx hb dMod_load_79 ?_
                        refine lv_ior hx hb dMod_load_80 ?_
                        refine lv_istore (lv' := [(4, .int ((((((((0 : Int32) ||| ((ms_bytes st ((a2 + 0)).toNatClampNeg) <<< (((8 : Int32) * 0) &&& 31))) ||| ((ms_bytes st ((a2 + 1)).toNatClampNeg) <<< (((8 : Int32) * 1) &&& 31))) ||| ((ms_bytes st ((a2 + 2)).toNatClampNeg) <<< (((8 : Int32) * 2) &&& 31))) ||| ((ms_bytes st ((a2 + 3)).toNatClampNeg) <<< (((8 : Int32) * 3) &&& 31))) ||| ((ms_bytes st ((a2 + 4)).toNatClampNeg) <<< (((8 : Int32) * 4) &&& 31))) ||| ((ms_bytes st ((a2 + 5)).toNatClampNeg) <<< (((8 : Int32) * 5) &&& 31))) ||| ((ms_bytes st ((a2 + 6)).toNatClampNeg) <<< (((8 : Int32) * 6) &&& 31)))), (5, .int 6), (3, .int ((1 : Int32) <<< ((a1 &&& 3) &&& 31))), (0, .ref m0), (1, .int a1), (2, .int a2)]) hx hb dMod_load_81 hl (by decide) rfl (fun ls hl => ?_)
                        refine lv_iinc (v := 7) (lv' := [(5, .int 7), (4, .int ((((((((0 : Int32) ||| ((ms_bytes st ((a2 + 0)).toNatClampNeg) <<< (((8 : Int32) * 0) &&& 31))) ||| ((ms_bytes st ((a2 + 1)).toNatClampNeg) <<< (((8 : Int32) * 1) &&& 31))) ||| ((ms_bytes st ((a2 + 2)).toNatClampNeg) <<< (((8 : Int32) * 2) &&& 31))) ||| ((ms_bytes st ((a2 + 3)).toNatClampNeg) <<< (((8 : Int32) * 3) &&& 31))) ||| ((ms_bytes st ((a2 + 4)).toNatClampNeg) <<< (((8 : Int32) * 4) &&& 31))) ||| ((ms_bytes st ((a2 + 5)).toNatClampNeg) <<< (((8 : Int32) * 5) &&& 31))) ||| ((ms_bytes st ((a2 + 6)).toNatClampNeg) <<< (((8 : Int32) * 6) &&& 31)))), (3, .int ((1 : Int32) <<< ((a1 &&& 3) &&& 31))), (0, .ref m0), (1, .int a1), (2, .int a2)]) hx hb dMod_load_83 hl (k := 1) rfl (by decide) (by decide) rfl (fun ls hl => ?_)
                        refine lv_goto (tgt := 57) hx hb dMod_load_86 (by decide) ?_
                        refine lv_iload hx hb dMod_load_57 (lv_at hl 0 rfl) ?_
                        refine lv_iload_n hx hb dMod_load_59 rfl (lv_at hl 2 rfl) ?_
                        refine lv_icmp_ge (tgt := 89) hx hb dMod_load_60 (by decide) (fun c_19 => ?_) (fun c_19 => ?_)
                        · refine lv_iload_n hx hb dMod_load_89 rfl (lv_at hl 4 rfl) ?_
                          refine lv_iconst (v := 2) hx hb dMod_load_90 (by decide) ?_
                          refine lv_icmp_ge (tgt := 106) hx hb dMod_load_91 (by decide) (fun c_20 => ?_) (fun c_20 => ?_)
                          · refine lv_iload hx hb dMod_load_106 (lv_at hl 1 rfl) ?_
                            exact W.iret hx hb hr (fun t ht hW => ⟨⟨_, st, rfl, (by unfold mf_RiscHartModel_load; rw [if_neg c_1, if_pos c_2, if_pos c_3, if_neg c_4, if_neg c_5, if_neg c_7, if_neg c_9, if_neg c_11, if_neg c_13, if_neg c_15, if_neg c_17, if_pos c_19, if_pos c_20]), by show va_P D hcl _ t.heap; rw [ht]; exact hP⟩, hS.F ht⟩) hS.2.2 dMod_load_108
                          · refine lv_iload hx hb dMod_load_94 (lv_at hl 1 rfl) ?_
                            refine lv_bipush (v := 8) hx hb dMod_load_96 (by decide) ?_
                            refine lv_iload_n hx hb dMod_load_98 rfl (lv_at hl 2 rfl) ?_
                            refine lv_imul hx hb dMod_load_99 ?_
                            refine mk_callR (va_runS (As := [.int ((((((((0 : Int32) ||| ((ms_bytes st ((a2 + 0)).toNatClampNeg) <<< (((8 : Int32) * 0) &&& 31))) ||| ((ms_bytes st ((a2 + 1)).toNatClampNeg) <<< (((8 : Int32) * 1) &&& 31))) ||| ((ms_bytes st ((a2 + 2)).toNatClampNeg) <<< (((8 : Int32) * 2) &&& 31))) ||| ((ms_bytes st ((a2 + 3)).toNatClampNeg) <<< (((8 : Int32) * 3) &&& 31))) ||| ((ms_bytes st ((a2 + 4)).toNatClampNeg) <<< (((8 : Int32) * 4) &&& 31))) ||| ((ms_bytes st ((a2 + 5)).toNatClampNeg) <<< (((8 : Int32) * 5) &&& 31))) ||| ((ms_bytes st ((a2 + 6)).toNatClampNeg) <<< (((8 : Int32) * 6) &&& 31))), .int (8 * ((1 : Int32) <<< ((a1 &&& 3) &&& 31)))]) (rest := []) ⟨hx, hb, hml, hown, hts⟩ (mc_RiscHartModel_signed l _ ((((((((0 : Int32) ||| ((ms_bytes st ((a2 + 0)).toNatClampNeg) <<< (((8 : Int32) * 0) &&& 31))) ||| ((ms_bytes st ((a2 + 1)).toNatClampNeg) <<< (((8 : Int32) * 1) &&& 31))) ||| ((ms_bytes st ((a2 + 2)).toNatClampNeg) <<< (((8 : Int32) * 2) &&& 31))) ||| ((ms_bytes st ((a2 + 3)).toNatClampNeg) <<< (((8 : Int32) * 3) &&& 31))) ||| ((ms_bytes st ((a2 + 4)).toNatClampNeg) <<< (((8 : Int32) * 4) &&& 31))) ||| ((ms_bytes st ((a2 + 5)).toNatClampNeg) <<< (((8 : Int32) * 5) &&& 31))) ||| ((ms_bytes st ((a2 + 6)).toNatClampNeg) <<< (((8 : Int32) * 6) &&& 31))) (8 * ((1 : Int32) <<< ((a1 &&& 3) &&& 31)))) (va_cwS 2 hts (mk_gS tw_686 tw_687 tw_48 tw_688) rfl rfl rfl hdMod_signed.2 ⟨Nat.le_of_ble_eq_true rfl, Nat.le_of_ble_eq_true rfl⟩) mk_preS rfl rfl hl.1 rfl (lv_room (Nat.le_of_ble_eq_true rfl)) dMod_load_100 ⟨Nat.zero_le _, Nat.zero_le _⟩) ?_
                            refine lv_goto (tgt := 108) hx hb dMod_load_103 (by decide) ?_
                            exact W.iret hx hb hr (fun t ht hW => ⟨⟨_, st, rfl, (by unfold mf_RiscHartModel_load; rw [if_neg c_1, if_pos c_2, if_pos c_3, if_neg c_4, if_neg c_5, if_neg c_7, if_neg c_9, if_neg c_11, if_neg c_13, if_neg c_15, if_neg c_17, if_pos c_19, if_neg c_20]), by show va_P D hcl _ t.heap; rw [ht]; exact hP⟩, hS.F ht⟩) hS.2.2 dMod_load_108
                        · refine lv_iload hx hb dMod_load_63 (lv_at hl 1 rfl) ?_
                          refine lv_aload_n hx hb dMod_load_65 rfl (lv_at hl 3 rfl) ?_
                          refine va_get (D := D) (ci := 2) (v := .ref m1) (C := RMod) (T := TMod) (N := 14) hx hb hg inMod hown hK hP 0 rfl rfl 1 (by decide) (hg _ tw_558) (fun _ h9 => h9) rfl dMod_load_66 ?_
                          refine lv_iload_n hx hb dMod_load_69 rfl (lv_at hl 5 rfl) ?_
                          refine lv_iload hx hb dMod_load_70 (lv_at hl 0 rfl) ?_
                          refine lv_iadd hx hb dMod_load_72 ?_
                          refine va_iald (D := D) (f := ms_bytes st) hx hb hK hP 1 0 rfl rfl (in_many c_3 c_4 c_19) dMod_load_73 ?_
                          refine lv_bipush (v := 8) hx hb dMod_load_74 (by decide) ?_
                          refine lv_iload hx hb dMod_load_76 (lv_at hl 0 rfl) ?_
                          refine lv_imul hx hb dMod_load_78 ?_
                          refine lv_ishl hx hb dMod_load_79 ?_
                          refine lv_ior hx hb dMod_load_80 ?_
                          refine lv_istore (lv' := [(4, .int (((((((((0 : Int32) ||| ((ms_bytes st ((a2 + 0)).toNatClampNeg) <<< (((8 : Int32) * 0) &&& 31))) ||| ((ms_bytes st ((a2 + 1)).toNatClampNeg) <<< (((8 : Int32) * 1) &&& 31))) ||| ((ms_bytes st ((a2 + 2)).toNatClampNeg) <<< (((8 : Int32) * 2) &&& 31))) ||| ((ms_bytes st ((a2 + 3)).toNatClampNeg) <<< (((8 : Int32) * 3) &&& 31))) ||| ((ms_bytes st ((a2 + 4)).toNatClampNeg) <<< (((8 : Int32) * 4) &&& 31))) ||| ((ms_bytes st ((a2 + 5)).toNatClampNeg) <<< (((8 : Int32) * 5) &&& 31))) ||| ((ms_bytes st ((a2 + 6)).toNatClampNeg) <<< (((8 : Int32) * 6) &&& 31))) ||| ((ms_bytes st ((a2 + 7)).toNatClampNeg) <<< (((8 : Int32) * 7) &&& 31)))), (5, .int 7), (3, .int ((1 : Int32) <<< ((a1 &&& 3) &&& 31))), (0, .ref m0), (1, .int a1), (2, .int a2)]) hx hb dMod_load_81 hl (by decide) rfl (fun ls hl => ?_)
                          refine lv_iinc (v := 8) (lv' := [(5, .int 8), (4, .int (((((((((0 : Int32) ||| ((ms_bytes st ((a2 + 0)).toNatClampNeg) <<< (((8 : Int32) * 0) &&& 31))) ||| ((ms_bytes st ((a2 + 1)).toNatClampNeg) <<< (((8 : Int32) * 1) &&& 31))) ||| ((ms_bytes st ((a2 + 2)).toNatClampNeg) <<< (((8 : Int32) * 2) &&& 31))) ||| ((ms_bytes st ((a2 + 3)).toNatClampNeg) <<< (((8 : Int32) * 3) &&& 31))) ||| ((ms_bytes st ((a2 + 4)).toNatClampNeg) <<< (((8 : Int32) * 4) &&& 31))) ||| ((ms_bytes st ((a2 + 5)).toNatClampNeg) <<< (((8 : Int32) * 5) &&& 31))) ||| ((ms_bytes st ((a2 + 6)).toNatClampNeg) <<< (((8 : Int32) * 6) &&& 31))) ||| ((ms_bytes st ((a2 + 7)).toNatClampNeg) <<< (((8 : Int32) * 7) &&& 31)))), (3, .int ((1 : Int32) <<< ((a1 &&& 3) &&& 31))), (0, .ref m0), (1, .int a1), (2, .int a2)]) hx hb dMod_load_83 hl (k := 1) rfl (by decide) (by decide) rfl (fun ls hl => ?_)
                          refine lv_goto (tgt := 57) hx hb dMod_load_86 (by decide) ?_
                          refine lv_iload hx hb dMod_load_57 (lv_at hl 0 rfl) ?_
                          refine lv_iload_n hx hb dMod_load_59 rfl (lv_at hl 2 rfl) ?_
                          refine lv_icmp_ge (tgt := 89) hx hb dMod_load_60 (by decide) (fun c_21 => ?_) (fun c_21 => ?_)
                          · refine lv_iload_n hx hb dMod_load_89 rfl (lv_at hl 4 rfl) ?_
                            refine lv_iconst (v := 2) hx hb dMod_load_90 (by decide) ?_
                            refine lv_icmp_ge (tgt := 106) hx hb dMod_load_91 (by decide) (fun c_22 => ?_) (fun c_22 => ?_)
                            · refine lv_iload hx hb dMod_load_106 (lv_at hl 1 rfl) ?_
                              exact W.iret hx hb hr (fun t ht hW => ⟨⟨_, st, rfl, (by unfold mf_RiscHartModel_load; rw [if_neg c_1, if_pos c_2, if_pos c_3, if_neg c_4, if_neg c_5, if_neg c_7, if_neg c_9, if_neg c_11, if_neg c_13, if_neg c_15, if_neg c_17, if_neg c_19, if_pos c_22]), by show va_P D hcl _ t.heap; rw [ht]; exact hP⟩, hS.F ht⟩) hS.2.2 dMod_load_108
                            · refine lv_iload hx hb dMod_load_94 (lv_at hl 1 rfl) ?_
                              refine lv_bipush (v := 8) hx hb dMod_load_96 (by decide) ?_
                              refine lv_iload_n hx hb dMod_load_98 rfl (lv_at hl 2 rfl) ?_
                              refine lv_imul hx hb dMod_load_99 ?_
                              refine mk_callR (va_runS (As := [.int (((((((((0 : Int32) ||| ((ms_bytes st ((a2 + 0)).toNatClampNeg) <<< (((8 : Int32) * 0) &&& 31))) ||| ((ms_bytes st ((a2 + 1)).toNatClampNeg) <<< (((8 : Int32) * 1) &&& 31))) ||| ((ms_bytes st ((a2 + 2)).toNatClampNeg) <<< (((8 : Int32) * 2) &&& 31))) ||| ((ms_bytes st ((a2 + 3)).toNatClampNeg) <<< (((8 : Int32) * 3) &&& 31))) ||| ((ms_bytes st ((a2 + 4)).toNatClampNeg) <<< (((8 : Int32) * 4) &&& 31))) ||| ((ms_bytes st ((a2 + 5)).toNatClampNeg) <<< (((8 : Int32) * 5) &&& 31))) ||| ((ms_bytes st ((a2 + 6)).toNatClampNeg) <<< (((8 : Int32) * 6) &&& 31))) ||| ((ms_bytes st ((a2 + 7)).toNatClampNeg) <<< (((8 : Int32) * 7) &&& 31))), .int (8 * ((1 : Int32) <<< ((a1 &&& 3) &&& 31)))]) (rest := []) ⟨hx, hb, hml, hown, hts⟩ (mc_RiscHartModel_signed l _ (((((((((0 : Int32) ||| ((ms_bytes st ((a2 + 0)).toNatClampNeg) <<< (((8 : Int32) * 0) &&& 31))) ||| ((ms_bytes st ((a2 + 1)).toNatClampNeg) <<< (((8 : Int32) * 1) &&& 31))) ||| ((ms_bytes st ((a2 + 2)).toNatClampNeg) <<< (((8 : Int32) * 2) &&& 31))) ||| ((ms_bytes st ((a2 + 3)).toNatClampNeg) <<< (((8 : Int32) * 3) &&& 31))) ||| ((ms_bytes st ((a2 + 4)).toNatClampNeg) <<< (((8 : Int32) * 4) &&& 31))) ||| ((ms_bytes st ((a2 + 5)).toNatClampNeg) <<< (((8 : Int32) * 5) &&& 31))) ||| ((ms_bytes st ((a2 + 6)).toNatClampNeg) <<< (((8 : Int32) * 6) &&& 31))) ||| ((ms_bytes st ((a2 + 7)).toNatClampNeg) <<< (((8 : Int32) * 7) &&& 31))) (8 * ((1 : Int32) <<< ((a1 &&& 3) &&& 31)))) (va_cwS 2 hts (mk_gS tw_686 tw_687 tw_48 tw_688) rfl rfl rfl hdMod_signed.2 ⟨Nat.le_of_ble_eq_true rfl, Nat.le_of_ble_eq_true rfl⟩) mk_preS rfl rfl hl.1 rfl (lv_room (Nat.le_of_ble_eq_true rfl)) dMod_load_100 ⟨Nat.zero_le _, Nat.zero_le _⟩) ?_
                              refine lv_goto (tgt := 108) hx hb dMod_load_103 (by decide) ?_
                              exact W.iret hx hb hr (fun t ht hW => ⟨⟨_, st, rfl, (by unfold mf_RiscHartModel_load; rw [if_neg c_1, if_pos c_2, if_pos c_3, if_neg c_4, if_neg c_5, if_neg c_7, if_neg c_9, if_neg c_11, if_neg c_13, if_neg c_15, if_neg c_17, if_neg c_19, if_neg c_22]), by show va_P D hcl _ t.heap; rw [ht]; exact hP⟩, hS.F ht⟩) hS.2.2 dMod_load_108
                          · exact (c_21 (many_le _)).elim
        · refine lv_aload_n hx hb dMod_load_43 rfl (lv_at hl 1 rfl) ?_
          refine lv_bipush (v := 6) hx hb dMod_load_44 (by decide) ?_
          refine lv_iload_n hx hb dMod_load_46 rfl (lv_at hl 3 rfl) ?_
          refine mk_callW (va_runV (As := [.int 6, .int a2]) (rest := []) ⟨hx, hb, hml, hown, hts⟩ (mc_RiscHartModel_trap l hP hD 6 a2) (cwV 2 hts (mk_gV tw_657 tw_659 tw_34 tw_48 tw_660) rfl rfl rfl hdMod_trap ⟨Nat.le_of_ble_eq_true rfl, Nat.le_of_ble_eq_true rfl⟩) (mk_preVK hK (va_recv hK hP (ci := 2) (q0 := 0) rfl rfl)) rfl rfl hl.1 rfl (lv_room (Nat.le_of_ble_eq_true rfl)) dMod_load_47 ⟨Nat.zero_le _, Nat.zero_le _⟩) hS (fun H locs hP hS => ?_)
          exact W.iret hx hb hr (fun t ht hW => ⟨⟨_, (mf_RiscHartModel_trap st 6 a2).2, rfl, (by unfold mf_RiscHartModel_load; rw [if_neg c_1, if_pos c_2, if_pos c_3, if_pos c_4]), by show va_P D hcl _ t.heap; rw [ht]; exact hP⟩, hS.F ht⟩) hS.2.2 dMod_load_50
      · refine lv_aload_n hx hb dMod_load_27 rfl (lv_at hl 1 rfl) ?_
        refine lv_iconst (v := 5) hx hb dMod_load_28 (by decide) ?_
        refine lv_iload_n hx hb dMod_load_29 rfl (lv_at hl 3 rfl) ?_
        refine mk_callW (va_runV (As := [.int 5, .int a2]) (rest := []) ⟨hx, hb, hml, hown, hts⟩ (mc_RiscHartModel_trap l hP hD 5 a2) (cwV 2 hts (mk_gV tw_657 tw_659 tw_34 tw_48 tw_660) rfl rfl rfl hdMod_trap ⟨Nat.le_of_ble_eq_true rfl, Nat.le_of_ble_eq_true rfl⟩) (mk_preVK hK (va_recv hK hP (ci := 2) (q0 := 0) rfl rfl)) rfl rfl hl.1 rfl (lv_room (Nat.le_of_ble_eq_true rfl)) dMod_load_30 ⟨Nat.zero_le _, Nat.zero_le _⟩) hS (fun H locs hP hS => ?_)
        exact W.iret hx hb hr (fun t ht hW => ⟨⟨_, (mf_RiscHartModel_trap st 5 a2).2, rfl, (by unfold mf_RiscHartModel_load; rw [if_neg c_1, if_pos c_2, if_neg c_3]), by show va_P D hcl _ t.heap; rw [ht]; exact hP⟩, hS.F ht⟩) hS.2.2 dMod_load_33
    · refine lv_aload_n hx hb dMod_load_16 rfl (lv_at hl 1 rfl) ?_
      refine mk_callW (va_runV (As := []) (rest := []) ⟨hx, hb, hml, hown, hts⟩ (mc_RiscHartModel_illegal l hP hD) (cwV 0 hts (mk_gV tw_705 tw_707 tw_36 tw_48 tw_708) rfl rfl rfl hdMod_illegal ⟨Nat.le_of_ble_eq_true rfl, Nat.le_of_ble_eq_true rfl⟩) (mk_preVK hK (va_recv hK hP (ci := 2) (q0 := 0) rfl rfl)) rfl rfl hl.1 rfl (lv_room (Nat.le_of_ble_eq_true rfl)) dMod_load_17 ⟨Nat.zero_le _, Nat.zero_le _⟩) hS (fun H locs hP hS => ?_)
      exact W.iret hx hb hr (fun t ht hW => ⟨⟨_, (mf_RiscHartModel_illegal st).2, rfl, (by unfold mf_RiscHartModel_load; rw [if_neg c_1, if_neg c_2]), by show va_P D hcl _ t.heap; rw [ht]; exact hP⟩, hS.F ht⟩) hS.2.2 dMod_load_20
