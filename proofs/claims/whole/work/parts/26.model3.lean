set_option maxHeartbeats 4000000 in
set_option maxRecDepth 100000 in
theorem mc_RiscHartModel_put (l : Launch) {D : va_G} {cB cO cX : ClassId} {m0 m1 m2 m3 : Nat} {A : Nat → Prop} {st : MS} {G : Heap} (hP : va_P D hcl (ms_W cB cO cX m0 m1 m2 m3 st) G) (hD : ∀ z, va_D A (ms_W cB cO cX m0 m1 m2 m3 z)) (a1 : Int32) (a2 : Int32) (a3 : Int32)  : Met l yMod_put (wq yMod_put cMod_put 6 none) ({ frames := 2, cells := 0, slots := 0, locals := 44 }) (mk_PK D hcl [(cB, .int), (cO, .int), (cX, .int)] G [.ref m0, .int a1, .int a2, .int a3]) (mk_Wv (fun u t => va_P D hcl (ms_W cB cO cX m0 m1 m2 m3 u) t) A (mf_RiscHartModel_put st a1 a2 a3)) 0 0 A := by
  refine Met.ofW (cc := cMod_put) (maxL := 6) (ret := none) (by decide) rfl ?_
  intro p e s m args below meth c s₁ B hml hv
  obtain ⟨rfl, hG, hK⟩ := hv
  subst hG
  have hx := B.exec
  have hb := B.bytes
  have hr := B.returns
  have hts := atoms_spec (ws := (wq yMod_put cMod_put 6 none)) B.pre
  have hown : s.vm.findClass RMod = some m.cls := findClass_of_methodNamed B.named
  have hlocks := B.notSynchronized
  have hg : ∀ w ∈ lw_g, w.before _ s = true := fun w h => hts w (List.mem_cons_of_mem _ h)
  have hS : va_S A s.heap s.heap [] := va_S.rf
  have hl := lv_entry ([.ref m0, .int a1, .int a2, .int a3]) (n := 6) (Nat.le_of_ble_eq_true rfl)
  rw [lg_entry_eq]
  generalize (lg_sl ([.ref m0, .int a1, .int a2, .int a3]) ++ List.replicate (6 - (lg_sl ([.ref m0, .int a1, .int a2, .int a3])).length) Slot.unset).toArray = ls at hl ⊢
  have hl : lv_has ls 6 [(0, .ref m0), (1, .int a1), (2, .int a2), (3, .int a3)] := hl
  refine lv_iconst (v := 1) hx hb dMod_put_0 (by decide) ?_
  refine lv_iload_n hx hb dMod_put_1 rfl (lv_at hl 1 rfl) ?_
  refine lv_iconst (v := 3) hx hb dMod_put_2 (by decide) ?_
  refine lv_iand hx hb dMod_put_3 ?_
  refine lv_ishl hx hb dMod_put_4 ?_
  refine lv_istore (lv' := [(4, .int ((1 : Int32) <<< ((a1 &&& 3) &&& 31))), (0, .ref m0), (1, .int a1), (2, .int a2), (3, .int a3)]) hx hb dMod_put_5 hl (by decide) rfl (fun ls hl => ?_)
  refine lv_iload_n hx hb dMod_put_7 rfl (lv_at hl 2 rfl) ?_
  refine lv_iconst (v := 2) hx hb dMod_put_8 (by decide) ?_
  refine lv_icmp_le (tgt := 20) hx hb dMod_put_9 (by decide) (fun c_1 => ?_) (fun c_1 => ?_)
  · refine lv_iload_n hx hb dMod_put_20 rfl (lv_at hl 3 rfl) ?_
    refine lv_iload hx hb dMod_put_21 (lv_at hl 0 rfl) ?_
    refine lv_irem hx hb dMod_put_23 (nz_many _) ?_
    refine lv_if_eq (tgt := 37) hx hb dMod_put_24 (by decide) (fun c_2 => ?_) (fun c_2 => ?_)
    · refine lv_aload_n hx hb dMod_put_37 rfl (lv_at hl 1 rfl) ?_
      refine lv_iload_n hx hb dMod_put_38 rfl (lv_at hl 3 rfl) ?_
      refine lv_iconst (v := 2) hx hb dMod_put_39 (by decide) ?_
      refine mk_callR (va_runV (As := [.int a2, .int 2]) (rest := []) ⟨hx, hb, hml, hown, hts⟩ (mc_RiscHartModel_may l hP a2 2) (cwV 2 hts (mk_gV tw_653 tw_655 tw_33 tw_48 tw_656) rfl rfl rfl hdMod_may ⟨Nat.le_of_ble_eq_true rfl, Nat.le_of_ble_eq_true rfl⟩) (mk_preVK hK (va_recv hK hP (ci := 2) (q0 := 0) rfl rfl)) rfl rfl hl.1 rfl (lv_room (Nat.le_of_ble_eq_true rfl)) dMod_put_40 ⟨Nat.zero_le _, Nat.zero_le _⟩) ?_
      refine lv_if_ne (tgt := 57) hx hb dMod_put_43 (by decide) (fun c_3 => ?_) (fun c_3 => ?_)
      · refine lv_iconst (v := 0) hx hb dMod_put_57 (by decide) ?_
        refine lv_istore (lv' := [(5, .int 0), (4, .int ((1 : Int32) <<< ((a1 &&& 3) &&& 31))), (0, .ref m0), (1, .int a1), (2, .int a2), (3, .int a3)]) hx hb dMod_put_58 hl (by decide) rfl (fun ls hl => ?_)
        refine lv_iload hx hb dMod_put_60 (lv_at hl 0 rfl) ?_
        refine lv_iload hx hb dMod_put_62 (lv_at hl 1 rfl) ?_
        refine lv_icmp_ge (tgt := 88) hx hb dMod_put_64 (by decide) (fun c_4 => ?_) (fun c_4 => ?_)
        · exact W.vret hx hb hr (fun t ht hW => ⟨⟨st, rfl, (by unfold mf_RiscHartModel_put; rw [if_pos c_1, if_pos c_2, if_neg c_3, if_pos c_4]), by show va_P D hcl _ t.heap; rw [ht]; exact hP⟩, hS.F ht⟩) hS.2.2 dMod_put_88
        · refine lv_aload_n hx hb dMod_put_67 rfl (lv_at hl 2 rfl) ?_
          refine lv_iload_n hx hb dMod_put_68 rfl (lv_at hl 4 rfl) ?_
          refine lv_iload hx hb dMod_put_69 (lv_at hl 0 rfl) ?_
          refine lv_iadd hx hb dMod_put_71 ?_
          refine lv_iload_n hx hb dMod_put_72 rfl (lv_at hl 5 rfl) ?_
          refine lv_bipush (v := 8) hx hb dMod_put_73 (by decide) ?_
          refine lv_iload hx hb dMod_put_75 (lv_at hl 0 rfl) ?_
          refine lv_imul hx hb dMod_put_77 ?_
          refine lv_ishr hx hb dMod_put_78 ?_
          refine mk_callWv (va_runV (As := [.int (a2 + 0), .int (a3 >>> (((8 : Int32) * 0) &&& 31))]) (rest := []) ⟨hx, hb, hml, hown, hts⟩ (mc_RiscHartModel_write l hP hD (a2 + 0) (a3 >>> (((8 : Int32) * 0) &&& 31)) (in_many c_2 c_3 c_4)) (cwV 2 hts (mk_gV tw_612 tw_614 tw_31 tw_48 tw_615) rfl rfl rfl hdMod_write ⟨Nat.le_of_ble_eq_true rfl, Nat.le_of_ble_eq_true rfl⟩) (mk_preVK hK (va_recv hK hP (ci := 2) (q0 := 0) rfl rfl)) rfl rfl hl.1 rfl (lv_room (Nat.le_of_ble_eq_true rfl)) dMod_put_79 ⟨Nat.zero_le _, Nat.zero_le _⟩) hS (fun H locs hP hS => ?_)
          refine lv_iinc (v := 1) (lv' := [(5, .int 1), (4, .int ((1 : Int32) <<< ((a1 &&& 3) &&& 31))), (0, .ref m0), (1, .int a1), (2, .int a2), (3, .int a3)]) hx hb dMod_put_82 hl (k := 0) rfl (by decide) (by decide) rfl (fun ls hl => ?_)
          refine lv_goto (tgt := 60) hx hb dMod_put_85 (by decide) ?_
          refine lv_iload hx hb dMod_put_60 (lv_at hl 0 rfl) ?_
          refine lv_iload hx hb dMod_put_62 (lv_at hl 1 rfl) ?_
          refine lv_icmp_ge (tgt := 88) hx hb dMod_put_64 (by decide) (fun c_5 => ?_) (fun c_5 => ?_)
          · exact W.vret hx hb hr (fun t ht hW => ⟨⟨(mf_RiscHartModel_write st (a2 + 0) (a3 >>> (((8 : Int32) * 0) &&& 31))), rfl, (by unfold mf_RiscHartModel_put; rw [if_pos c_1, if_pos c_2, if_neg c_3, if_neg c_4, if_pos c_5]), by show va_P D hcl _ t.heap; rw [ht]; exact hP⟩, hS.F ht⟩) hS.2.2 dMod_put_88
          · refine lv_aload_n hx hb dMod_put_67 rfl (lv_at hl 2 rfl) ?_
            refine lv_iload_n hx hb dMod_put_68 rfl (lv_at hl 4 rfl) ?_
            refine lv_iload hx hb dMod_put_69 (lv_at hl 0 rfl) ?_
            refine lv_iadd hx hb dMod_put_71 ?_
            refine lv_iload_n hx hb dMod_put_72 rfl (lv_at hl 5 rfl) ?_
            refine lv_bipush (v := 8) hx hb dMod_put_73 (by decide) ?_
            refine lv_iload hx hb dMod_put_75 (lv_at hl 0 rfl) ?_
            refine lv_imul hx hb dMod_put_77 ?_
            refine lv_ishr hx hb dMod_put_78 ?_
            refine mk_callWv (va_runV (As := [.int (a2 + 1), .int (a3 >>> (((8 : Int32) * 1) &&& 31))]) (rest := []) ⟨hx, hb, hml, hown, hts⟩ (mc_RiscHartModel_write l hP hD (a2 + 1) (a3 >>> (((8 : Int32) * 1) &&& 31)) (in_many c_2 c_3 c_5)) (cwV 2 hts (mk_gV tw_612 tw_614 tw_31 tw_48 tw_615) rfl rfl rfl hdMod_write ⟨Nat.le_of_ble_eq_true rfl, Nat.le_of_ble_eq_true rfl⟩) (mk_preVK hK (va_recv hK hP (ci := 2) (q0 := 0) rfl rfl)) rfl rfl hl.1 rfl (lv_room (Nat.le_of_ble_eq_true rfl)) dMod_put_79 ⟨Nat.zero_le _, Nat.zero_le _⟩) hS (fun H locs hP hS => ?_)
            refine lv_iinc (v := 2) (lv' := [(5, .int 2), (4, .int ((1 : Int32) <<< ((a1 &&& 3) &&& 31))), (0, .ref m0), (1, .int a1), (2, .int a2), (3, .int a3)]) hx hb dMod_put_82 hl (k := 0) rfl (by decide) (by decide) rfl (fun ls hl => ?_)
            refine lv_goto (tgt := 60) hx hb dMod_put_85 (by decide) ?_
            refine lv_iload hx hb dMod_put_60 (lv_at hl 0 rfl) ?_
            refine lv_iload hx hb dMod_put_62 (lv_at hl 1 rfl) ?_
            refine lv_icmp_ge (tgt := 88) hx hb dMod_put_64 (by decide) (fun c_6 => ?_) (fun c_6 => ?_)
            · exact W.vret hx hb hr (fun t ht hW => ⟨⟨(mf_RiscHartModel_write (mf_RiscHartModel_write st (a2 + 0) (a3 >>> (((8 : Int32) * 0) &&& 31))) (a2 + 1) (a3 >>> (((8 : Int32) * 1) &&& 31))), rfl, (by unfold mf_RiscHartModel_put; rw [if_pos c_1, if_pos c_2, if_neg c_3, if_neg c_4, if_neg c_5, if_pos c_6]), by show va_P D hcl _ t.heap; rw [ht]; exact hP⟩, hS.F ht⟩) hS.2.2 dMod_put_88
            · refine lv_aload_n hx hb dMod_put_67 rfl (lv_at hl 2 rfl) ?_
              refine lv_iload_n hx hb dMod_put_68 rfl (lv_at hl 4 rfl) ?_
              refine lv_iload hx hb dMod_put_69 (lv_at hl 0 rfl) ?_
              refine lv_iadd hx hb dMod_put_71 ?_
              refine lv_iload_n hx hb dMod_put_72 rfl (lv_at hl 5 rfl) ?_
              refine lv_bipush (v := 8) hx hb dMod_put_73 (by decide) ?_
              refine lv_iload hx hb dMod_put_75 (lv_at hl 0 rfl) ?_
              refine lv_imul hx hb dMod_put_77 ?_
              refine lv_ishr hx hb dMod_put_78 ?_
              refine mk_callWv (va_runV (As := [.int (a2 + 2), .int (a3 >>> (((8 : Int32) * 2) &&& 31))]) (rest := []) ⟨hx, hb, hml, hown, hts⟩ (mc_RiscHartModel_write l hP hD (a2 + 2) (a3 >>> (((8 : Int32) * 2) &&& 31)) (in_many c_2 c_3 c_6)) (cwV 2 hts (mk_gV tw_612 tw_614 tw_31 tw_48 tw_615) rfl rfl rfl hdMod_write ⟨Nat.le_of_ble_eq_true rfl, Nat.le_of_ble_eq_true rfl⟩) (mk_preVK hK (va_recv hK hP (ci := 2) (q0 := 0) rfl rfl)) rfl rfl hl.1 rfl (lv_room (Nat.le_of_ble_eq_true rfl)) dMod_put_79 ⟨Nat.zero_le _, Nat.zero_le _⟩) hS (fun H locs hP hS => ?_)
              refine lv_iinc (v := 3) (lv' := [(5, .int 3), (4, .int ((1 : Int32) <<< ((a1 &&& 3) &&& 31))), (0, .ref m0), (1, .int a1), (2, .int a2), (3, .int a3)]) hx hb dMod_put_82 hl (k := 0) rfl (by decide) (by decide) rfl (fun ls hl => ?_)
              refine lv_goto (tgt := 60) hx hb dMod_put_85 (by decide) ?_
              refine lv_iload hx hb dMod_put_60 (lv_at hl 0 rfl) ?_
              refine lv_iload hx hb dMod_put_62 (lv_at hl 1 rfl) ?_
              refine lv_icmp_ge (tgt := 88) hx hb dMod_put_64 (by decide) (fun c_7 => ?_) (fun c_7 => ?_)
              · exact W.vret hx hb hr (fun t ht hW => ⟨⟨(mf_RiscHartModel_write (mf_RiscHartModel_write (mf_RiscHartModel_write st (a2 + 0) (a3 >>> (((8 : Int32) * 0) &&& 31))) (a2 + 1) (a3 >>> (((8 : Int32) * 1) &&& 31))) (a2 + 2) (a3 >>> (((8 : Int32) * 2) &&& 31))), rfl, (by unfold mf_RiscHartModel_put; rw [if_pos c_1, if_pos c_2, if_neg c_3, if_neg c_4, if_neg c_5, if_neg c_6, if_pos c_7]), by show va_P D hcl _ t.heap; rw [ht]; exact hP⟩, hS.F ht⟩) hS.2.2 dMod_put_88
              · refine lv_aload_n hx hb dMod_put_67 rfl (lv_at hl 2 rfl) ?_
                refine lv_iload_n hx hb dMod_put_68 rfl (lv_at hl 4 rfl) ?_
                refine lv_iload hx hb dMod_put_69 (lv_at hl 0 rfl) ?_
                refine lv_iadd hx hb dMod_put_71 ?_
                refine lv_iload_n hx hb dMod_put_72 rfl (lv_at hl 5 rfl) ?_
                refine lv_bipush (v := 8) hx hb dMod_put_73 (by decide) ?_
                refine lv_iload hx hb dMod_put_75 (lv_at hl 0 rfl) ?_
                refine lv_imul hx hb dMod_put_77 ?_
                refine lv_ishr hx hb dMod_put_78 ?_
                refine mk_callWv (va_runV (As := [.int (a2 + 3), .int (a3 >>> (((8 : Int32) * 3) &&& 31))]) (rest := []) ⟨hx, hb, hml, hown, hts⟩ (mc_RiscHartModel_write l hP hD (a2 + 3) (a3 >>> (((8 : Int32) * 3) &&& 31)) (in_many c_2 c_3 c_7)) (cwV 2 hts (mk_gV tw_612 tw_614 tw_31 tw_48 tw_615) rfl rfl rfl hdMod_write ⟨Nat.le_of_ble_eq_true rfl, Nat.le_of_ble_eq_true rfl⟩) (mk_preVK hK (va_recv hK hP (ci := 2) (q0 := 0) rfl rfl)) rfl rfl hl.1 rfl (lv_room (Nat.le_of_ble_eq_true rfl)) dMod_put_79 ⟨Nat.zero_le _, Nat.zero_le _⟩) hS (fun H locs hP hS => ?_)
                refine lv_iinc (v := 4) (lv' := [(5, .int 4), (4, .int ((1 : Int32) <<< ((a1 &&& 3) &&& 31))), (0, .ref m0), (1, .int a1), (2, .int a2), (3, .int a3)]) hx hb dMod_put_82 hl (k := 0) rfl (by decide) (by decide) rfl (fun ls hl => ?_)
                refine lv_goto (tgt := 60) hx hb dMod_put_85 (by decide) ?_
                refine lv_iload hx hb dMod_put_60 (lv_at hl 0 rfl) ?_
                refine lv_iload hx hb dMod_put_62 (lv_at hl 1 rfl) ?_
                refine lv_icmp_ge (tgt := 88) hx hb dMod_put_64 (by decide) (fun c_8 => ?_) (fun c_8 => ?_)
                · exact W.vret hx hb hr (fun t ht hW => ⟨⟨(mf_RiscHartModel_write (mf_RiscHartModel_write (mf_RiscHartModel_write (mf_RiscHartModel_write st (a2 + 0) (a3 >>> (((8 : Int32) * 0) &&& 31))) (a2 + 1) (a3 >>> (((8 : Int32) * 1) &&& 31))) (a2 + 2) (a3 >>> (((8 : Int32) * 2) &&& 31))) (a2 + 3) (a3 >>> (((8 : Int32) * 3) &&& 31))), rfl, (by unfold mf_RiscHartModel_put; rw [if_pos c_1, if_pos c_2, if_neg c_3, if_neg c_4, if_neg c_5, if_neg c_6, if_neg c_7, if_pos c_8]), by show va_P D hcl _ t.heap; rw [ht]; exact hP⟩, hS.F ht⟩) hS.2.2 dMod_put_88
                · refine lv_aload_n hx hb dMod_put_67 rfl (lv_at hl 2 rfl) ?_
                  refine lv_iload_n hx hb dMod_put_68 rfl (lv_at hl 4 rfl) ?_
                  refine lv_iload hx hb dMod_put_69 (lv_at hl 0 rfl) ?_
                  refine lv_iadd hx hb dMod_put_71 ?_
                  refine lv_iload_n hx hb dMod_put_72 rfl (lv_at hl 5 rfl) ?_
                  refine lv_bipush (v := 8) hx hb dMod_put_73 (by decide) ?_
                  refine lv_iload hx hb dMod_put_75 (lv_at hl 0 rfl) ?_
                  refine lv_imul hx hb dMod_put_77 ?_
                  refine lv_ishr hx hb dMod_put_78 ?_
                  refine mk_callWv (va_runV (As := [.int (a2 + 4), .int (a3 >>> (((8 : Int32) * 4) &&& 31))]) (rest := []) ⟨hx, hb, hml, hown, hts⟩ (mc_RiscHartModel_write l hP hD (a2 + 4) (a3 >>> (((8 : Int32) * 4) &&& 31)) (in_many c_2 c_3 c_8)) (cwV 2 hts (mk_gV tw_612 tw_614 tw_31 tw_48 tw_615) rfl rfl rfl hdMod_write ⟨Nat.le_of_ble_eq_true rfl, Nat.le_of_ble_eq_true rfl⟩) (mk_preVK hK (va_recv hK hP (ci := 2) (q0 := 0) rfl rfl)) rfl rfl hl.1 rfl (lv_room (Nat.le_of_ble_eq_true rfl)) dMod_put_79 ⟨Nat.zero_le _, Nat.zero_le _⟩) hS (fun H locs hP hS => ?_)
                  refine lv_iinc (v := 5) (lv' := [(5, .int 5), (4, .int ((1 : Int32) <<< ((a1 &&& 3) &&& 31))), (0, .ref m0), (1, .int a1), (2, .int a2), (3, .int a3)]) hx hb dMod_put_82 hl (k := 0) rfl (by decide) (by decide) rfl (fun ls hl => ?_)
                  refine lv_goto (tgt := 60) hx hb dMod_put_85 (by decide) ?_
                  refine lv_iload hx hb dMod_put_60 (lv_at hl 0 rfl) ?_
                  refine lv_iload hx hb dMod_put_62 (lv_at hl 1 rfl) ?_
                  refine lv_icmp_ge (tgt := 88) hx hb dMod_put_64 (by decide) (fun c_9 => ?_) (fun c_9 => ?_)
                  · exact W.vret hx hb hr (fun t ht hW => ⟨⟨(mf_RiscHartModel_write (mf_RiscHartModel_write (mf_RiscHartModel_write (mf_RiscHartModel_write (mf_RiscHartModel_write st (a2 + 0) (a3 >>> (((8 : Int32) * 0) &&& 31))) (a2 + 1) (a3 >>> (((8 : Int32) * 1) &&& 31))) (a2 + 2) (a3 >>> (((8 : Int32) * 2) &&& 31))) (a2 + 3) (a3 >>> (((8 : Int32) * 3) &&& 31))) (a2 + 4) (a3 >>> (((8 : Int32) * 4) &&& 31))), rfl, (by unfold mf_RiscHartModel_put; rw [if_pos c_1, if_pos c_2, if_neg c_3, if_neg c_4, if_neg c_5, if_neg c_6, if_neg c_7, if_neg c_8, if_pos c_9]), by show va_P D hcl _ t.heap; rw [ht]; exact hP⟩, hS.F ht⟩) hS.2.2 dMod_put_88
                  · refine lv_aload_n hx hb dMod_put_67 rfl (lv_at hl 2 rfl) ?_
                    refine lv_iload_n hx hb dMod_put_68 rfl (lv_at hl 4 rfl) ?_
                    refine lv_iload hx hb dMod_put_69 (lv_at hl 0 rfl) ?_
                    refine lv_iadd hx hb dMod_put_71 ?_
                    refine lv_iload_n hx hb dMod_put_72 rfl (lv_at hl 5 rfl) ?_
                    refine lv_bipush (v := 8) hx hb dMod_put_73 (by decide) ?_
                    refine lv_iload hx hb dMod_put_75 (lv_at hl 0 rfl) ?_
                    refine lv_imul hx hb dMod_put_77 ?_
                    refine lv_ishr hx hb dMod_put_78 ?_
                    refine mk_callWv (va_runV (As := [.int (a2 + 5), .int (a3 >>> (((8 : Int32) * 5) &&& 31))]) (rest := []) ⟨hx, hb, hml, hown, hts⟩ (mc_RiscHartModel_write l hP hD (a2 + 5) (a3 >>> (((8 : Int32) * 5) &&& 31)) (in_many c_2 c_3 c_9)) (cwV 2 hts (mk_gV tw_612 tw_614 tw_31 tw_48 tw_615) rfl rfl rfl hdMod_write ⟨Nat.le_of_ble_eq_true rfl, Nat.le_of_ble_eq_true rfl⟩) (mk_preVK hK (va_recv hK hP (ci := 2) (q0 := 0) rfl rfl)) rfl rfl hl.1 rfl (lv_room (Nat.le_of_ble_eq_true rfl)) dMod_put_79 ⟨Nat.zero_le _, Nat.zero_le _⟩) hS (fun H locs hP hS => ?_)
                    refine lv_iinc (v := 6) (lv' := [(5, .int 6), (4, .int ((1 : Int32) <<< ((a1 &&& 3) &&& 31))), (0, .ref m0), (1, .int a1), (2, .int a2), (3, .int a3)]) hx hb dMod_put_82 hl (k := 0) rfl (by decide) (by decide) rfl (fun ls hl => ?_)
                    refine lv_goto (tgt := 60) hx hb dMod_put_85 (by decide) ?_
                    refine lv_iload hx hb dMod_put_60 (lv_at hl 0 rfl) ?_
                    refine lv_iload hx hb dMod_put_62 (lv_at hl 1 rfl) ?_
                    refine lv_icmp_ge (tgt := 88) hx hb dMod_put_64 (by decide) (fun c_10 => ?_) (fun c_10 => ?_)
                    · exact W.vret hx hb hr (fun t ht hW => ⟨⟨(mf_RiscHartModel_write (mf_RiscHartModel_write (mf_RiscHartModel_write (mf_RiscHartModel_write (mf_RiscHartModel_write (mf_RiscHartModel_write st (a2 + 0) (a3 >>> (((8 : Int32) * 0) &&& 31))) (a2 + 1) (a3 >>> (((8 : Int32) * 1) &&& 31))) (a2 + 2) (a3 >>> (((8 : Int32) * 2) &&& 31))) (a2 + 3) (a3 >>> (((8 : Int32) * 3) &&& 31))) (a2 + 4) (a3 >>> (((8 : Int32) * 4) &&& 31))) (a2 + 5) (a3 >>> (((8 : Int32) * 5) &&& 31))), rfl, (by unfold mf_RiscHartModel_put; rw [if_pos c_1, if_pos c_2, if_neg c_3, if_neg c_4, if_neg c_5, if_neg c_6, if_neg c_7, if_neg c_8, if_neg c_9, if_pos c_10]), by show va_P D hcl _ t.heap; rw [ht]; exact hP⟩, hS.F ht⟩) hS.2.2 dMod_put_88
                    · refine lv_aload_n hx hb dMod_put_67 rfl (lv_at hl 2 rfl) ?_
                      refine lv_iload_n hx hb dMod_put_68 rfl (lv_at hl 4 rfl) ?_
                      refine lv_iload hx hb dMod_put_69 (lv_at hl 0 rfl) ?_
                      refine lv_iadd hx hb dMod_put_71 ?_
                      refine lv_iload_n hx hb dMod_put_72 rfl (lv_at hl 5 rfl) ?_
                      refine lv_bipush (v := 8) hx hb dMod_put_73 (by decide) ?_
                      refine lv_iload hx hb dMod_put_75 (lv_at hl 0 rfl) ?_
                      refine lv_imul hx hb dMod_put_77 ?_
                      refine lv_ishr hx hb dMod_put_78 ?_
                      refine mk_callWv (va_runV (As := [.int (a2 + 6), .int (a3 >>> (((8 : Int32) * 6) &&& 31))]) (rest := []) ⟨hx, hb, hml, hown, hts⟩ (mc_RiscHartModel_write l hP hD (a2 + 6) (a3 >>> (((8 : Int32) * 6) &&& 31)) (in_many c_2 c_3 c_10)) (cwV 2 hts (mk_gV tw_612 tw_614 tw_31 tw_48 tw_615) rfl rfl rfl hdMod_write ⟨Nat.le_of_ble_eq_true rfl, Nat.le_of_ble_eq_true rfl⟩) (mk_preVK hK (va_recv hK hP (ci := 2) (q0 := 0) rfl rfl)) rfl rfl hl.1 rfl (lv_room (Nat.le_of_ble_eq_true rfl)) dMod_put_79 ⟨Nat.zero_le _, Nat.zero_le _⟩) hS (fun H locs hP hS => ?_)
                      refine lv_iinc (v := 7) (lv' := [(5, .int 7), (4, .int ((1 : Int32) <<< ((a1 &&& 3) &&& 31))), (0, .ref m0), (1, .int a1), (2, .int a2), (3, .int a3)]) hx hb dMod_put_82 hl (k := 0) rfl (by decide) (by decide) rfl (fun ls hl => ?_)
                      refine lv_goto (tgt := 60) hx hb dMod_put_85 (by decide) ?_
                      refine lv_iload hx hb dMod_put_60 (lv_at hl 0 rfl) ?_
                      refine lv_iload hx hb dMod_put_62 (lv_at hl 1 rfl) ?_
                      refine lv_icmp_ge (tgt := 88) hx hb dMod_put_64 (by decide) (fun c_11 => ?_) (fun c_11 => ?_)
                      · exact W.vret hx hb hr (fun t ht hW => ⟨⟨(mf_RiscHartModel_write (mf_RiscHartModel_write (mf_RiscHartModel_write (mf_RiscHartModel_write (mf_RiscHartModel_write (mf_RiscHartModel_write (mf_RiscHartModel_write st (a2 + 0) (a3 >>> (((8 : Int32) * 0) &&& 31))) (a2 + 1) (a3 >>> (((8 : Int32) * 1) &&& 31))) (a2 + 2) (a3 >>> (((8 : Int32) * 2) &&& 31))) (a2 + 3) (a3 >>> (((8 : Int32) * 3) &&& 31))) (a2 + 4) (a3 >>> (((8 : Int32) * 4) &&& 31))) (a2 + 5) (a3 >>> (((8 : Int32) * 5) &&& 31))) (a2 + 6) (a3 >>> (((8 : Int32) * 6) &&& 31))), rfl, (by unfold mf_RiscHartModel_put; rw [if_pos c_1, if_pos c_2, if_neg c_3, if_neg c_4, if_neg c_5, if_neg c_6, if_neg c_7, if_neg c_8, if_neg c_9, if_neg c_10, if_pos c_11]), by show va_P D hcl _ t.heap; rw [ht]; exact hP⟩, hS.F ht⟩) hS.2.2 dMod_put_88
                      · refine lv_aload_n hx hb dMod_put_67 rfl (lv_at hl 2 rfl) ?_
                        refine lv_iload_n hx hb dMod_put_68 rfl (lv_at hl 4 rfl) ?_
                        refine lv_iload hx hb dMod_put_69 (lv_at hl 0 rfl) ?_
                        refine lv_iadd hx hb dMod_put_71 ?_
                        refine lv_iload_n hx hb dMod_put_72 rfl (lv_at hl 5 rfl) ?_
                        refine lv_bipush (v := 8) hx hb dMod_put_73 (by decide) ?_
                        refine lv_iload hx hb dMod_put_75 (lv_at hl 0 rfl) ?_
                        refine lv_imul hx hb dMod_put_77 ?_
                        refine lv_ishr hx hb dMod_put_78 ?_
                        refine mk_callWv (va_runV (As := [.int (a2 + 7), .int (a3 >>> (((8 : Int32) * 7) &&& 31))]) (rest := []) ⟨hx, hb, hml, hown, hts⟩ (mc_RiscHartModel_write l hP hD (a2 + 7) (a3 >>> (((8 : Int32) * 7) &&& 31)) (in_many c_2 c_3 c_11)) (cwV 2 hts (mk_gV tw_612 tw_614 tw_31 tw_48 tw_615) rfl rfl rfl hdMod_write ⟨Nat.le_of_ble_eq_true rfl, Nat.le_of_ble_eq_true rfl⟩) (mk_preVK hK (va_recv hK hP (ci := 2) (q0 := 0) rfl rfl)) rfl rfl hl.1 rfl (lv_room (Nat.le_of_ble_eq_true rfl)) dMod_put_79 ⟨Nat.zero_le _, Nat.zero_le _⟩) hS (fun H locs hP hS => ?_)
                        refine lv_iinc (v := 8) (lv' := [(5, .int 8), (4, .int ((1 : Int32) <<< ((a1 &&& 3) &&& 31))), (0, .ref m0), (1, .int a1), (2, .int a2), (3, .int a3)]) hx hb dMod_put_82 hl (k := 0) rfl (by decide) (by decide) rfl (fun ls hl => ?_)
                        refine lv_goto (tgt := 60) hx hb dMod_put_85 (by decide) ?_
                        refine lv_iload hx hb dMod_put_60 (lv_at hl 0 rfl) ?_
                        refine lv_iload hx hb dMod_put_62 (lv_at hl 1 rfl) ?_
                        refine lv_icmp_ge (tgt := 88) hx hb dMod_put_64 (by decide) (fun c_12 => ?_) (fun c_12 => ?_)
                        · exact W.vret hx hb hr (fun t ht hW => ⟨⟨(mf_RiscHartModel_write (mf_RiscHartModel_write (mf_RiscHartModel_write (mf_RiscHartModel_write (mf_RiscHartModel_write (mf_RiscHartModel_write (mf_RiscHartModel_write (mf_RiscHartModel_write st (a2 + 0) (a3 >>> (((8 : Int32) * 0) &&& 31))) (a2 + 1) (a3 >>> (((8 : Int32) * 1) &&& 31))) (a2 + 2) (a3 >>> (((8 : Int32) * 2) &&& 31))) (a2 + 3) (a3 >>> (((8 : Int32) * 3) &&& 31))) (a2 + 4) (a3 >>> (((8 : Int32) * 4) &&& 31))) (a2 + 5) (a3 >>> (((8 : Int32) * 5) &&& 31))) (a2 + 6) (a3 >>> (((8 : Int32) * 6) &&& 31))) (a2 + 7) (a3 >>> (((8 : Int32) * 7) &&& 31))), rfl, (by unfold mf_RiscHartModel_put; rw [if_pos c_1, if_pos c_2, if_neg c_3, if_neg c_4, if_neg c_5, if_neg c_6, if_neg c_7, if_neg c_8, if_neg c_9, if_neg c_10, if_neg c_11]), by show va_P D hcl _ t.heap; rw [ht]; exact hP⟩, hS.F ht⟩) hS.2.2 dMod_put_88
                        · exact (c_12 (many_le _)).elim
      · refine lv_aload_n hx hb dMod_put_46 rfl (lv_at hl 1 rfl) ?_
        refine lv_bipush (v := 7) hx hb dMod_put_47 (by decide) ?_
        refine lv_iload_n hx hb dMod_put_49 rfl (lv_at hl 3 rfl) ?_
        refine mk_callW (va_runV (As := [.int 7, .int a2]) (rest := []) ⟨hx, hb, hml, hown, hts⟩ (mc_RiscHartModel_trap l hP hD 7 a2) (cwV 2 hts (mk_gV tw_657 tw_659 tw_34 tw_48 tw_660) rfl rfl rfl hdMod_trap ⟨Nat.le_of_ble_eq_true rfl, Nat.le_of_ble_eq_true rfl⟩) (mk_preVK hK (va_recv hK hP (ci := 2) (q0 := 0) rfl rfl)) rfl rfl hl.1 rfl (lv_room (Nat.le_of_ble_eq_true rfl)) dMod_put_50 ⟨Nat.zero_le _, Nat.zero_le _⟩) hS (fun H locs hP hS => ?_)
        refine lv_pop hx hb dMod_put_53 rfl ?_
        refine lv_goto (tgt := 88) hx hb dMod_put_54 (by decide) ?_
        exact W.vret hx hb hr (fun t ht hW => ⟨⟨(mf_RiscHartModel_trap st 7 a2).2, rfl, (by unfold mf_RiscHartModel_put; rw [if_pos c_1, if_pos c_2, if_pos c_3]), by show va_P D hcl _ t.heap; rw [ht]; exact hP⟩, hS.F ht⟩) hS.2.2 dMod_put_88
    · refine lv_aload_n hx hb dMod_put_27 rfl (lv_at hl 1 rfl) ?_
      refine lv_iconst (v := 5) hx hb dMod_put_28 (by decide) ?_
      refine lv_iload_n hx hb dMod_put_29 rfl (lv_at hl 3 rfl) ?_
      refine mk_callW (va_runV (As := [.int 5, .int a2]) (rest := []) ⟨hx, hb, hml, hown, hts⟩ (mc_RiscHartModel_trap l hP hD 5 a2) (cwV 2 hts (mk_gV tw_657 tw_659 tw_34 tw_48 tw_660) rfl rfl rfl hdMod_trap ⟨Nat.le_of_ble_eq_true rfl, Nat.le_of_ble_eq_true rfl⟩) (mk_preVK hK (va_recv hK hP (ci := 2) (q0 := 0) rfl rfl)) rfl rfl hl.1 rfl (lv_room (Nat.le_of_ble_eq_true rfl)) dMod_put_30 ⟨Nat.zero_le _, Nat.zero_le _⟩) hS (fun H locs hP hS => ?_)
      refine lv_pop hx hb dMod_put_33 rfl ?_
      refine lv_goto (tgt := 88) hx hb dMod_put_34 (by decide) ?_
      exact W.vret hx hb hr (fun t ht hW => ⟨⟨(mf_RiscHartModel_trap st 5 a2).2, rfl, (by unfold mf_RiscHartModel_put; rw [if_pos c_1, if_neg c_2]), by show va_P D hcl _ t.heap; rw [ht]; exact hP⟩, hS.F ht⟩) hS.2.2 dMod_put_88
  · refine lv_aload_n hx hb dMod_put_12 rfl (lv_at hl 1 rfl) ?_
    refine mk_callW (va_runV (As := []) (rest := []) ⟨hx, hb, hml, hown, hts⟩ (mc_RiscHartModel_illegal l hP hD) (cwV 0 hts (mk_gV tw_705 tw_707 tw_36 tw_48 tw_708) rfl rfl rfl hdMod_illegal ⟨Nat.le_of_ble_eq_true rfl, Nat.le_of_ble_eq_true rfl⟩) (mk_preVK hK (va_recv hK hP (ci := 2) (q0 := 0) rfl rfl)) rfl rfl hl.1 rfl (lv_room (Nat.le_of_ble_eq_true rfl)) dMod_put_13 ⟨Nat.zero_le _, Nat.zero_le _⟩) hS (fun H locs hP hS => ?_)
    refine lv_pop hx hb dMod_put_16 rfl ?_
    refine lv_goto (tgt := 88) hx hb dMod_put_17 (by decide) ?_
    exact W.vret hx hb hr (fun t ht hW => ⟨⟨(mf_RiscHartModel_illegal st).2, rfl, (by unfold mf_RiscHartModel_put; rw [if_neg c_1]), by show va_P D hcl _ t.heap; rw [ht]; exact hP⟩, hS.F ht⟩) hS.2.2 dMod_put_88
set_option maxHeartbeats 4000000 in
set_option maxRecDepth 100000 in
theorem mc_RiscHartModel_shifted (l : Launch) {D : va_G} {cB cO cX : ClassId} {m0 m1 m2 m3 : Nat} {A : Nat → Prop} {st : MS} {G : Heap} (hP : va_P D hcl (ms_W cB cO cX m0 m1 m2 m3 st) G) (hD : ∀ z, va_D A (ms_W cB cO cX m0 m1 m2 m3 z)) (a1 : Int32) (a2 : Int32) (a3 : Int32) (a4 : Int32)  : Met l yMod_shifted (wq yMod_shifted cMod_shifted 5 (some .int)) ({ frames := 2, cells := 0, slots := 0, locals := 42 }) (mk_PK D hcl [(cB, .int), (cO, .int), (cX, .int)] G [.ref m0, .int a1, .int a2, .int a3, .int a4]) (mk_Wi (fun u t => va_P D hcl (ms_W cB cO cX m0 m1 m2 m3 u) t) A (mf_RiscHartModel_shifted st a1 a2 a3 a4)) 0 0 A := by
  refine Met.ofW (cc := cMod_shifted) (maxL := 5) (ret := (some .int)) (by decide) rfl ?_
  intro p e s m args below meth c s₁ B hml hv
  obtain ⟨rfl, hG, hK⟩ := hv
  subst hG
  have hx := B.exec
  have hb := B.bytes
  have hr := B.returns
  have hts := atoms_spec (ws := (wq yMod_shifted cMod_shifted 5 (some .int))) B.pre
  have hown : s.vm.findClass RMod = some m.cls := findClass_of_methodNamed B.named
  have hlocks := B.notSynchronized
  have hg : ∀ w ∈ lw_g, w.before _ s = true := fun w h => hts w (List.mem_cons_of_mem _ h)
  have hS : va_S A s.heap s.heap [] := va_S.rf
  have hl := lv_entry ([.ref m0, .int a1, .int a2, .int a3, .int a4]) (n := 5) (Nat.le_of_ble_eq_true rfl)
  rw [lg_entry_eq]
  generalize (lg_sl ([.ref m0, .int a1, .int a2, .int a3, .int a4]) ++ List.replicate (5 - (lg_sl ([.ref m0, .int a1, .int a2, .int a3, .int a4])).length) Slot.unset).toArray = ls at hl ⊢
  have hl : lv_has ls 5 [(0, .ref m0), (1, .int a1), (2, .int a2), (3, .int a3), (4, .int a4)] := hl
  refine lv_iload_n hx hb dMod_shifted_0 rfl (lv_at hl 1 rfl) ?_
  refine lv_iconst (v := 1) hx hb dMod_shifted_1 (by decide) ?_
  refine lv_icmp_ne (tgt := 14) hx hb dMod_shifted_2 (by decide) (fun c_1 => ?_) (fun c_1 => ?_)
  · refine lv_iload_n hx hb dMod_shifted_14 rfl (lv_at hl 1 rfl) ?_
    refine lv_iconst (v := 5) hx hb dMod_shifted_15 (by decide) ?_
    refine lv_icmp_ne (tgt := 28) hx hb dMod_shifted_16 (by decide) (fun c_2 => ?_) (fun c_2 => ?_)
    · refine lv_iload_n hx hb dMod_shifted_28 rfl (lv_at hl 1 rfl) ?_
      refine lv_iconst (v := 5) hx hb dMod_shifted_29 (by decide) ?_
      refine lv_icmp_ne (tgt := 46) hx hb dMod_shifted_30 (by decide) (fun c_3 => ?_) (fun c_3 => ?_)
      · refine lv_aload_n hx hb dMod_shifted_46 rfl (lv_at hl 0 rfl) ?_
        refine mk_callW (va_runV (As := []) (rest := []) ⟨hx, hb, hml, hown, hts⟩ (mc_RiscHartModel_illegal l hP hD) (cwV 0 hts (mk_gV tw_705 tw_707 tw_36 tw_48 tw_708) rfl rfl rfl hdMod_illegal ⟨Nat.le_of_ble_eq_true rfl, Nat.le_of_ble_eq_true rfl⟩) (mk_preVK hK (va_recv hK hP (ci := 2) (q0 := 0) rfl rfl)) rfl rfl hl.1 rfl (lv_room (Nat.le_of_ble_eq_true rfl)) dMod_shifted_47 ⟨Nat.zero_le _, Nat.zero_le _⟩) hS (fun H locs hP hS => ?_)
        exact W.iret hx hb hr (fun t ht hW => ⟨⟨_, (mf_RiscHartModel_illegal st).2, rfl, (by unfold mf_RiscHartModel_shifted; rw [if_neg c_1, if_neg c_2]), by show va_P D hcl _ t.heap; rw [ht]; exact hP⟩, hS.F ht⟩) hS.2.2 dMod_shifted_50
      · exact absurd c_3 c_2
    · refine lv_iload_n hx hb dMod_shifted_19 rfl (lv_at hl 2 rfl) ?_
      refine lv_if_ne (tgt := 28) hx hb dMod_shifted_20 (by decide) (fun c_4 => ?_) (fun c_4 => ?_)
      · refine lv_iload_n hx hb dMod_shifted_28 rfl (lv_at hl 1 rfl) ?_
        refine lv_iconst (v := 5) hx hb dMod_shifted_29 (by decide) ?_
        refine lv_icmp_ne (tgt := 46) hx hb dMod_shifted_30 (by decide) (fun c_5 => ?_) (fun c_5 => ?_)
        · exact absurd c_2 c_5
        · refine lv_iload_n hx hb dMod_shifted_33 rfl (lv_at hl 2 rfl) ?_
          refine lv_bipush (v := 32) hx hb dMod_shifted_34 (by decide) ?_
          refine lv_icmp_ne (tgt := 46) hx hb dMod_shifted_36 (by decide) (fun c_6 => ?_) (fun c_6 => ?_)
          · refine lv_aload_n hx hb dMod_shifted_46 rfl (lv_at hl 0 rfl) ?_
            refine mk_callW (va_runV (As := []) (rest := []) ⟨hx, hb, hml, hown, hts⟩ (mc_RiscHartModel_illegal l hP hD) (cwV 0 hts (mk_gV tw_705 tw_707 tw_36 tw_48 tw_708) rfl rfl rfl hdMod_illegal ⟨Nat.le_of_ble_eq_true rfl, Nat.le_of_ble_eq_true rfl⟩) (mk_preVK hK (va_recv hK hP (ci := 2) (q0 := 0) rfl rfl)) rfl rfl hl.1 rfl (lv_room (Nat.le_of_ble_eq_true rfl)) dMod_shifted_47 ⟨Nat.zero_le _, Nat.zero_le _⟩) hS (fun H locs hP hS => ?_)
            exact W.iret hx hb hr (fun t ht hW => ⟨⟨_, (mf_RiscHartModel_illegal st).2, rfl, (by unfold mf_RiscHartModel_shifted; rw [if_neg c_1, if_pos c_2, if_neg c_4, if_neg c_6]), by show va_P D hcl _ t.heap; rw [ht]; exact hP⟩, hS.F ht⟩) hS.2.2 dMod_shifted_50
          · refine lv_iload_n hx hb dMod_shifted_39 rfl (lv_at hl 3 rfl) ?_
            refine lv_iload hx hb dMod_shifted_40 (lv_at hl 4 rfl) ?_
            refine lv_ishr hx hb dMod_shifted_42 ?_
            refine lv_goto (tgt := 50) hx hb dMod_shifted_43 (by decide) ?_
            exact W.iret hx hb hr (fun t ht hW => ⟨⟨_, st, rfl, (by unfold mf_RiscHartModel_shifted; rw [if_neg c_1, if_pos c_2, if_neg c_4, if_pos c_6]), by show va_P D hcl _ t.heap; rw [ht]; exact hP⟩, hS.F ht⟩) hS.2.2 dMod_shifted_50
      · refine lv_iload_n hx hb dMod_shifted_23 rfl (lv_at hl 3 rfl) ?_
        refine lv_iload hx hb dMod_shifted_24 (lv_at hl 4 rfl) ?_
        refine lv_iushr (v := (ja_ushr a3 a4)) hx hb dMod_shifted_26 rfl ?_
        exact W.iret hx hb hr (fun t ht hW => ⟨⟨_, st, rfl, (by unfold mf_RiscHartModel_shifted; rw [if_neg c_1, if_pos c_2, if_pos c_4]), by show va_P D hcl _ t.heap; rw [ht]; exact hP⟩, hS.F ht⟩) hS.2.2 dMod_shifted_27
  · refine lv_iload_n hx hb dMod_shifted_5 rfl (lv_at hl 2 rfl) ?_
    refine lv_if_ne (tgt := 14) hx hb dMod_shifted_6 (by decide) (fun c_7 => ?_) (fun c_7 => ?_)
    · refine lv_iload_n hx hb dMod_shifted_14 rfl (lv_at hl 1 rfl) ?_
      refine lv_iconst (v := 5) hx hb dMod_shifted_15 (by decide) ?_
      refine lv_icmp_ne (tgt := 28) hx hb dMod_shifted_16 (by decide) (fun c_8 => ?_) (fun c_8 => ?_)
      · refine lv_iload_n hx hb dMod_shifted_28 rfl (lv_at hl 1 rfl) ?_
        refine lv_iconst (v := 5) hx hb dMod_shifted_29 (by decide) ?_
        refine lv_icmp_ne (tgt := 46) hx hb dMod_shifted_30 (by decide) (fun c_9 => ?_) (fun c_9 => ?_)
        · refine lv_aload_n hx hb dMod_shifted_46 rfl (lv_at hl 0 rfl) ?_
          refine mk_callW (va_runV (As := []) (rest := []) ⟨hx, hb, hml, hown, hts⟩ (mc_RiscHartModel_illegal l hP hD) (cwV 0 hts (mk_gV tw_705 tw_707 tw_36 tw_48 tw_708) rfl rfl rfl hdMod_illegal ⟨Nat.le_of_ble_eq_true rfl, Nat.le_of_ble_eq_true rfl⟩) (mk_preVK hK (va_recv hK hP (ci := 2) (q0 := 0) rfl rfl)) rfl rfl hl.1 rfl (lv_room (Nat.le_of_ble_eq_true rfl)) dMod_shifted_47 ⟨Nat.zero_le _, Nat.zero_le _⟩) hS (fun H locs hP hS => ?_)
          exact W.iret hx hb hr (fun t ht hW => ⟨⟨_, (mf_RiscHartModel_illegal st).2, rfl, (by unfold mf_RiscHartModel_shifted; rw [if_pos c_1, if_neg c_7]), by show va_P D hcl _ t.heap; rw [ht]; exact hP⟩, hS.F ht⟩) hS.2.2 dMod_shifted_50
        · exact absurd (c_1.symm.trans c_9) (by decide)
      · exact absurd (c_1.symm.trans c_8) (by decide)
    · refine lv_iload_n hx hb dMod_shifted_9 rfl (lv_at hl 3 rfl) ?_
      refine lv_iload hx hb dMod_shifted_10 (lv_at hl 4 rfl) ?_
      refine lv_ishl hx hb dMod_shifted_12 ?_
      exact W.iret hx hb hr (fun t ht hW => ⟨⟨_, st, rfl, (by unfold mf_RiscHartModel_shifted; rw [if_pos c_1, if_pos c_7]), by show va_P D hcl _ t.heap; rw [ht]; exact hP⟩, hS.F ht⟩) hS.2.2 dMod_shifted_13
set_option maxHeartbeats 4000000 in
set_option maxRecDepth 100000 in
theorem mc_RiscHartModel_reckoned (l : Launch) (G : Heap) (a1 : Int32) (a2 : Int32) (a3 : Int32)  : Met l yMod_reckoned (wq yMod_reckoned cMod_reckoned 3 (some .int)) ({ frames := 0, cells := 0, slots := 0, locals := 0 }) (mk_P G [.int a1, .int a2, .int a3]) (mk_Qi G (mf_RiscHartModel_reckoned a1 a2 a3)) 0 0 (fun _ => False) := by
  refine Met.ofW (cc := cMod_reckoned) (maxL := 3) (ret := (some .int)) (by decide) rfl ?_
  intro p e s m args below meth c s₁ B hml hv
  obtain ⟨rfl, hG⟩ := hv
  subst hG
  have hx := B.exec
  have hb := B.bytes
  have hr := B.returns
  have hts := atoms_spec (ws := (wq yMod_reckoned cMod_reckoned 3 (some .int))) B.pre
  have hown : s.vm.findClass RMod = some m.cls := findClass_of_methodNamed B.named
  have hlocks := B.notSynchronized
  have hg : ∀ w ∈ lw_g, w.before _ s = true := fun w h => hts w (List.mem_cons_of_mem _ h)
  have hl := lv_entry ([.int a1, .int a2, .int a3]) (n := 3) (Nat.le_of_ble_eq_true rfl)
  rw [lg_entry_eq]
  generalize (lg_sl ([.int a1, .int a2, .int a3]) ++ List.replicate (3 - (lg_sl ([.int a1, .int a2, .int a3])).length) Slot.unset).toArray = ls at hl ⊢
  have hl : lv_has ls 3 [(0, .int a1), (1, .int a2), (2, .int a3)] := hl
  refine lv_iload_n hx hb dMod_reckoned_0 rfl (lv_at hl 0 rfl) ?_
  by_cases c_1 : a1 = 0
  · refine lv_tableIn (tgt := 44) hx hb dMod_reckoned_1 (by rw [c_1]; decide) (by rw [c_1]; decide) (by rw [c_1]; rfl) (by decide) ?_
    refine lv_iload_n hx hb dMod_reckoned_44 rfl (lv_at hl 1 rfl) ?_
    refine lv_iload_n hx hb dMod_reckoned_45 rfl (lv_at hl 2 rfl) ?_
    refine lv_iadd hx hb dMod_reckoned_46 ?_
    exact W.iret hx hb hr (fun t ht hW => ⟨⟨_, (), rfl, (by unfold mf_RiscHartModel_reckoned; rw [if_pos c_1]), ht⟩, mk_F ht⟩) (fun q h => nomatch h) dMod_reckoned_47
  by_cases c_2 : a1 = 2
  · refine lv_tableIn (tgt := 48) hx hb dMod_reckoned_1 (by rw [c_2]; decide) (by rw [c_2]; decide) (by rw [c_2]; rfl) (by decide) ?_
    refine lv_iload_n hx hb dMod_reckoned_48 rfl (lv_at hl 1 rfl) ?_
    refine lv_iload_n hx hb dMod_reckoned_49 rfl (lv_at hl 2 rfl) ?_
    refine lv_icmp_ge (tgt := 57) hx hb dMod_reckoned_50 (by decide) (fun c_3 => ?_) (fun c_3 => ?_)
    · refine lv_iconst (v := 0) hx hb dMod_reckoned_57 (by decide) ?_
      exact W.iret hx hb hr (fun t ht hW => ⟨⟨_, (), rfl, (by unfold mf_RiscHartModel_reckoned; rw [if_neg c_1, if_pos c_2, if_pos c_3]), ht⟩, mk_F ht⟩) (fun q h => nomatch h) dMod_reckoned_58
    · refine lv_iconst (v := 1) hx hb dMod_reckoned_53 (by decide) ?_
      refine lv_goto (tgt := 58) hx hb dMod_reckoned_54 (by decide) ?_
      exact W.iret hx hb hr (fun t ht hW => ⟨⟨_, (), rfl, (by unfold mf_RiscHartModel_reckoned; rw [if_neg c_1, if_pos c_2, if_neg c_3]), ht⟩, mk_F ht⟩) (fun q h => nomatch h) dMod_reckoned_58
  by_cases c_4 : a1 = 3
  · refine lv_tableIn (tgt := 59) hx hb dMod_reckoned_1 (by rw [c_4]; decide) (by rw [c_4]; decide) (by rw [c_4]; rfl) (by decide) ?_
    refine lv_iload_n hx hb dMod_reckoned_59 rfl (lv_at hl 1 rfl) ?_
    refine lv_i2l (v := a2.toInt64) hx hb dMod_reckoned_60 rfl ?_
    refine lv_ldc2 (v := 4294967295) hx hb hown (hg _ tw_721) dMod_reckoned_61 ?_
    refine lv_land hx hb dMod_reckoned_64 ?_
    refine lv_iload_n hx hb dMod_reckoned_65 rfl (lv_at hl 2 rfl) ?_
    refine lv_i2l (v := a3.toInt64) hx hb dMod_reckoned_66 rfl ?_
    refine lv_ldc2 (v := 4294967295) hx hb hown (hg _ tw_721) dMod_reckoned_67 ?_
    refine lv_land hx hb dMod_reckoned_70 ?_
    refine W.lcmp hx hb dMod_reckoned_71 ?_
    refine lv_if_ge (tgt := 79) hx hb dMod_reckoned_72 (by decide) (fun c_5 => ?_) (fun c_5 => ?_)
    · refine lv_iconst (v := 0) hx hb dMod_reckoned_79 (by decide) ?_
      exact W.iret hx hb hr (fun t ht hW => ⟨⟨_, (), rfl, (by unfold mf_RiscHartModel_reckoned; rw [if_neg c_1, if_neg c_2, if_pos c_4, if_pos c_5]), ht⟩, mk_F ht⟩) (fun q h => nomatch h) dMod_reckoned_80
    · refine lv_iconst (v := 1) hx hb dMod_reckoned_75 (by decide) ?_
      refine lv_goto (tgt := 80) hx hb dMod_reckoned_76 (by decide) ?_
      exact W.iret hx hb hr (fun t ht hW => ⟨⟨_, (), rfl, (by unfold mf_RiscHartModel_reckoned; rw [if_neg c_1, if_neg c_2, if_pos c_4, if_neg c_5]), ht⟩, mk_F ht⟩) (fun q h => nomatch h) dMod_reckoned_80
  by_cases c_6 : a1 = 4
  · refine lv_tableIn (tgt := 81) hx hb dMod_reckoned_1 (by rw [c_6]; decide) (by rw [c_6]; decide) (by rw [c_6]; rfl) (by decide) ?_
    refine lv_iload_n hx hb dMod_reckoned_81 rfl (lv_at hl 1 rfl) ?_
    refine lv_iload_n hx hb dMod_reckoned_82 rfl (lv_at hl 2 rfl) ?_
    refine lv_ixor hx hb dMod_reckoned_83 ?_
    exact W.iret hx hb hr (fun t ht hW => ⟨⟨_, (), rfl, (by unfold mf_RiscHartModel_reckoned; rw [if_neg c_1, if_neg c_2, if_neg c_4, if_pos c_6]), ht⟩, mk_F ht⟩) (fun q h => nomatch h) dMod_reckoned_84
  by_cases c_7 : a1 = 6
  · refine lv_tableIn (tgt := 85) hx hb dMod_reckoned_1 (by rw [c_7]; decide) (by rw [c_7]; decide) (by rw [c_7]; rfl) (by decide) ?_
    refine lv_iload_n hx hb dMod_reckoned_85 rfl (lv_at hl 1 rfl) ?_
    refine lv_iload_n hx hb dMod_reckoned_86 rfl (lv_at hl 2 rfl) ?_
    refine lv_ior hx hb dMod_reckoned_87 ?_
    exact W.iret hx hb hr (fun t ht hW => ⟨⟨_, (), rfl, (by unfold mf_RiscHartModel_reckoned; rw [if_neg c_1, if_neg c_2, if_neg c_4, if_neg c_6, if_pos c_7]), ht⟩, mk_F ht⟩) (fun q h => nomatch h) dMod_reckoned_88
  refine mk_table (tgt := 89) hx hb dMod_reckoned_1 (mk_gap (N := 7) [0, 2, 3, 4, 6] (by decide) (by decide) (by have q_1 := lv_neT (a := 0) c_1 rfl; have q_2 := lv_neT (a := 2) c_2 rfl; have q_4 := lv_neT (a := 3) c_4 rfl; have q_6 := lv_neT (a := 4) c_6 rfl; have q_7 := lv_neT (a := 6) c_7 rfl; intro n hn; simp only [List.mem_cons, List.not_mem_nil, or_false, not_or]; omega)) (by decide) ?_
  refine lv_iload_n hx hb dMod_reckoned_89 rfl (lv_at hl 1 rfl) ?_
  refine lv_iload_n hx hb dMod_reckoned_90 rfl (lv_at hl 2 rfl) ?_
  refine lv_iand hx hb dMod_reckoned_91 ?_
  exact W.iret hx hb hr (fun t ht hW => ⟨⟨_, (), rfl, (by unfold mf_RiscHartModel_reckoned; rw [if_neg c_1, if_neg c_2, if_neg c_4, if_neg c_6, if_neg c_7]), ht⟩, mk_F ht⟩) (fun q h => nomatch h) dMod_reckoned_92
set_option maxHeartbeats 4000000 in
set_option maxRecDepth 100000 in
theorem mc_RiscHartModel_multiplied (l : Launch) (G : Heap) (a1 : Int32) (a2 : Int32) (a3 : Int32)  : Met l yMod_multiplied (wq yMod_multiplied cMod_multiplied 7 (some .int)) ({ frames := 0, cells := 0, slots := 0, locals := 0 }) (mk_P G [.int a1, .int a2, .int a3]) (mk_Qi G (mf_RiscHartModel_multiplied a1 a2 a3)) 0 0 (fun _ => False) := by
  refine Met.ofW (cc := cMod_multiplied) (maxL := 7) (ret := (some .int)) (by decide) rfl ?_
  intro p e s m args below meth c s₁ B hml hv
  obtain ⟨rfl, hG⟩ := hv
  subst hG
  have hx := B.exec
  have hb := B.bytes
  have hr := B.returns
  have hts := atoms_spec (ws := (wq yMod_multiplied cMod_multiplied 7 (some .int))) B.pre
  have hown : s.vm.findClass RMod = some m.cls := findClass_of_methodNamed B.named
  have hlocks := B.notSynchronized
  have hg : ∀ w ∈ lw_g, w.before _ s = true := fun w h => hts w (List.mem_cons_of_mem _ h)
  have hl := lv_entry ([.int a1, .int a2, .int a3]) (n := 7) (Nat.le_of_ble_eq_true rfl)
  rw [lg_entry_eq]
  generalize (lg_sl ([.int a1, .int a2, .int a3]) ++ List.replicate (7 - (lg_sl ([.int a1, .int a2, .int a3])).length) Slot.unset).toArray = ls at hl ⊢
  have hl : lv_has ls 7 [(0, .int a1), (1, .int a2), (2, .int a3)] := hl
  refine lv_iload_n hx hb dMod_multiplied_0 rfl (lv_at hl 1 rfl) ?_
  refine lv_i2l (v := a2.toInt64) hx hb dMod_multiplied_1 rfl ?_
  refine lv_ldc2 (v := 4294967295) hx hb hown (hg _ tw_721) dMod_multiplied_2 ?_
  refine lv_land hx hb dMod_multiplied_5 ?_
  refine lv_lstore_n (lv' := [(3, .long (a2.toInt64 &&& 4294967295)), (0, .int a1), (1, .int a2), (2, .int a3)]) hx hb dMod_multiplied_6 rfl hl (by decide) rfl (fun ls hl => ?_)
  refine lv_iload_n hx hb dMod_multiplied_7 rfl (lv_at hl 3 rfl) ?_
  refine lv_i2l (v := a3.toInt64) hx hb dMod_multiplied_8 rfl ?_
  refine lv_ldc2 (v := 4294967295) hx hb hown (hg _ tw_721) dMod_multiplied_9 ?_
  refine lv_land hx hb dMod_multiplied_12 ?_
  refine lv_lstore (lv' := [(5, .long (a3.toInt64 &&& 4294967295)), (3, .long (a2.toInt64 &&& 4294967295)), (0, .int a1), (1, .int a2), (2, .int a3)]) hx hb dMod_multiplied_13 hl (by decide) rfl (fun ls hl => ?_)
  refine lv_iload_n hx hb dMod_multiplied_15 rfl (lv_at hl 2 rfl) ?_
  by_cases c_1 : a1 = 0
  · refine lv_tableIn (tgt := 60) hx hb dMod_multiplied_16 (by rw [c_1]; decide) (by rw [c_1]; decide) (by rw [c_1]; rfl) (by decide) ?_
    refine lv_iload_n hx hb dMod_multiplied_60 rfl (lv_at hl 3 rfl) ?_
    refine lv_iload_n hx hb dMod_multiplied_61 rfl (lv_at hl 4 rfl) ?_
    refine lv_imul hx hb dMod_multiplied_62 ?_
    exact W.iret hx hb hr (fun t ht hW => ⟨⟨_, (), rfl, (by unfold mf_RiscHartModel_multiplied; rw [if_pos c_1]), ht⟩, mk_F ht⟩) (fun q h => nomatch h) dMod_multiplied_63
  by_cases c_2 : a1 = 1
  · refine lv_tableIn (tgt := 64) hx hb dMod_multiplied_16 (by rw [c_2]; decide) (by rw [c_2]; decide) (by rw [c_2]; rfl) (by decide) ?_
    refine lv_iload_n hx hb dMod_multiplied_64 rfl (lv_at hl 3 rfl) ?_
    refine lv_i2l (v := a2.toInt64) hx hb dMod_multiplied_65 rfl ?_
    refine lv_iload_n hx hb dMod_multiplied_66 rfl (lv_at hl 4 rfl) ?_
    refine lv_i2l (v := a3.toInt64) hx hb dMod_multiplied_67 rfl ?_
    refine lv_lmul hx hb dMod_multiplied_68 ?_
    refine lv_bipush (v := 32) hx hb dMod_multiplied_69 (by decide) ?_
    refine lv_lshr (v := (ja_lshr (a2.toInt64 * a3.toInt64) 32)) hx hb dMod_multiplied_71 rfl ?_
    refine lv_l2i (v := (ja_lshr (a2.toInt64 * a3.toInt64) 32).toInt32) hx hb dMod_multiplied_72 rfl ?_
    exact W.iret hx hb hr (fun t ht hW => ⟨⟨_, (), rfl, (by unfold mf_RiscHartModel_multiplied; rw [if_neg c_1, if_pos c_2]), ht⟩, mk_F ht⟩) (fun q h => nomatch h) dMod_multiplied_73
  by_cases c_3 : a1 = 2
  · refine lv_tableIn (tgt := 74) hx hb dMod_multiplied_16 (by rw [c_3]; decide) (by rw [c_3]; decide) (by rw [c_3]; rfl) (by decide) ?_
    refine lv_iload_n hx hb dMod_multiplied_74 rfl (lv_at hl 3 rfl) ?_
    refine lv_i2l (v := a2.toInt64) hx hb dMod_multiplied_75 rfl ?_
    refine lv_lload hx hb dMod_multiplied_76 (lv_at hl 0 rfl) ?_
    refine lv_lmul hx hb dMod_multiplied_78 ?_
    refine lv_bipush (v := 32) hx hb dMod_multiplied_79 (by decide) ?_
    refine lv_lshr (v := (ja_lshr (a2.toInt64 * (a3.toInt64 &&& 4294967295)) 32)) hx hb dMod_multiplied_81 rfl ?_
    refine lv_l2i (v := (ja_lshr (a2.toInt64 * (a3.toInt64 &&& 4294967295)) 32).toInt32) hx hb dMod_multiplied_82 rfl ?_
    exact W.iret hx hb hr (fun t ht hW => ⟨⟨_, (), rfl, (by unfold mf_RiscHartModel_multiplied; rw [if_neg c_1, if_neg c_2, if_pos c_3]), ht⟩, mk_F ht⟩) (fun q h => nomatch h) dMod_multiplied_83
  by_cases c_4 : a1 = 3
  · refine lv_tableIn (tgt := 84) hx hb dMod_multiplied_16 (by rw [c_4]; decide) (by rw [c_4]; decide) (by rw [c_4]; rfl) (by decide) ?_
    refine lv_lload_n hx hb dMod_multiplied_84 rfl (lv_at hl 1 rfl) ?_
    refine lv_lload hx hb dMod_multiplied_85 (lv_at hl 0 rfl) ?_
    refine lv_lmul hx hb dMod_multiplied_87 ?_
    refine lv_bipush (v := 32) hx hb dMod_multiplied_88 (by decide) ?_
    refine lv_lushr (v := (ja_lushr ((a2.toInt64 &&& 4294967295) * (a3.toInt64 &&& 4294967295)) 32)) hx hb dMod_multiplied_90 rfl ?_
    refine lv_l2i (v := (ja_lushr ((a2.toInt64 &&& 4294967295) * (a3.toInt64 &&& 4294967295)) 32).toInt32) hx hb dMod_multiplied_91 rfl ?_
    exact W.iret hx hb hr (fun t ht hW => ⟨⟨_, (), rfl, (by unfold mf_RiscHartModel_multiplied; rw [if_neg c_1, if_neg c_2, if_neg c_3, if_pos c_4]), ht⟩, mk_F ht⟩) (fun q h => nomatch h) dMod_multiplied_92
  by_cases c_5 : a1 = 4
  · refine lv_tableIn (tgt := 93) hx hb dMod_multiplied_16 (by rw [c_5]; decide) (by rw [c_5]; decide) (by rw [c_5]; rfl) (by decide) ?_
    refine lv_iload_n hx hb dMod_multiplied_93 rfl (lv_at hl 4 rfl) ?_
    refine lv_if_ne (tgt := 101) hx hb dMod_multiplied_94 (by decide) (fun c_6 => ?_) (fun c_6 => ?_)
    · refine lv_iload_n hx hb dMod_multiplied_101 rfl (lv_at hl 3 rfl) ?_
      refine lv_i2l (v := a2.toInt64) hx hb dMod_multiplied_102 rfl ?_
      refine lv_iload_n hx hb dMod_multiplied_103 rfl (lv_at hl 4 rfl) ?_
      refine lv_i2l (v := a3.toInt64) hx hb dMod_multiplied_104 rfl ?_
      refine lv_ldiv hx hb dMod_multiplied_105 (nz_i2l c_6) ?_
      refine lv_l2i (v := (a2.toInt64 / a3.toInt64).toInt32) hx hb dMod_multiplied_106 rfl ?_
      exact W.iret hx hb hr (fun t ht hW => ⟨⟨_, (), rfl, (by unfold mf_RiscHartModel_multiplied; rw [if_neg c_1, if_neg c_2, if_neg c_3, if_neg c_4, if_pos c_5, if_neg c_6]), ht⟩, mk_F ht⟩) (fun q h => nomatch h) dMod_multiplied_107
    · refine lv_iconst (v := (-1)) hx hb dMod_multiplied_97 (by decide) ?_
      refine lv_goto (tgt := 107) hx hb dMod_multiplied_98 (by decide) ?_
      exact W.iret hx hb hr (fun t ht hW => ⟨⟨_, (), rfl, (by unfold mf_RiscHartModel_multiplied; rw [if_neg c_1, if_neg c_2, if_neg c_3, if_neg c_4, if_pos c_5, if_pos c_6]), ht⟩, mk_F ht⟩) (fun q h => nomatch h) dMod_multiplied_107
  by_cases c_7 : a1 = 5
  · refine lv_tableIn (tgt := 108) hx hb dMod_multiplied_16 (by rw [c_7]; decide) (by rw [c_7]; decide) (by rw [c_7]; rfl) (by decide) ?_
    refine lv_iload_n hx hb dMod_multiplied_108 rfl (lv_at hl 4 rfl) ?_
    refine lv_if_ne (tgt := 116) hx hb dMod_multiplied_109 (by decide) (fun c_8 => ?_) (fun c_8 => ?_)
    · refine lv_lload_n hx hb dMod_multiplied_116 rfl (lv_at hl 1 rfl) ?_
      refine lv_lload hx hb dMod_multiplied_117 (lv_at hl 0 rfl) ?_
      refine lv_ldiv hx hb dMod_multiplied_119 (nz_lo c_8) ?_
      refine lv_l2i (v := ((a2.toInt64 &&& 4294967295) / (a3.toInt64 &&& 4294967295)).toInt32) hx hb dMod_multiplied_120 rfl ?_
      exact W.iret hx hb hr (fun t ht hW => ⟨⟨_, (), rfl, (by unfold mf_RiscHartModel_multiplied; rw [if_neg c_1, if_neg c_2, if_neg c_3, if_neg c_4, if_neg c_5, if_pos c_7, if_neg c_8]), ht⟩, mk_F ht⟩) (fun q h => nomatch h) dMod_multiplied_121
    · refine lv_iconst (v := (-1)) hx hb dMod_multiplied_112 (by decide) ?_
      refine lv_goto (tgt := 121) hx hb dMod_multiplied_113 (by decide) ?_
      exact W.iret hx hb hr (fun t ht hW => ⟨⟨_, (), rfl, (by unfold mf_RiscHartModel_multiplied; rw [if_neg c_1, if_neg c_2, if_neg c_3, if_neg c_4, if_neg c_5, if_pos c_7, if_pos c_8]), ht⟩, mk_F ht⟩) (fun q h => nomatch h) dMod_multiplied_121
  by_cases c_9 : a1 = 6
  · refine lv_tableIn (tgt := 122) hx hb dMod_multiplied_16 (by rw [c_9]; decide) (by rw [c_9]; decide) (by rw [c_9]; rfl) (by decide) ?_
    refine lv_iload_n hx hb dMod_multiplied_122 rfl (lv_at hl 4 rfl) ?_
    refine lv_if_ne (tgt := 130) hx hb dMod_multiplied_123 (by decide) (fun c_10 => ?_) (fun c_10 => ?_)
    · refine lv_iload_n hx hb dMod_multiplied_130 rfl (lv_at hl 3 rfl) ?_
      refine lv_i2l (v := a2.toInt64) hx hb dMod_multiplied_131 rfl ?_
      refine lv_iload_n hx hb dMod_multiplied_132 rfl (lv_at hl 4 rfl) ?_
      refine lv_i2l (v := a3.toInt64) hx hb dMod_multiplied_133 rfl ?_
      refine lv_lrem hx hb dMod_multiplied_134 (nz_i2l c_10) ?_
      refine lv_l2i (v := (a2.toInt64 - a2.toInt64 / a3.toInt64 * a3.toInt64).toInt32) hx hb dMod_multiplied_135 rfl ?_
      exact W.iret hx hb hr (fun t ht hW => ⟨⟨_, (), rfl, (by unfold mf_RiscHartModel_multiplied; rw [if_neg c_1, if_neg c_2, if_neg c_3, if_neg c_4, if_neg c_5, if_neg c_7, if_pos c_9, if_neg c_10]), ht⟩, mk_F ht⟩) (fun q h => nomatch h) dMod_multiplied_136
    · refine lv_iload_n hx hb dMod_multiplied_126 rfl (lv_at hl 3 rfl) ?_
      refine lv_goto (tgt := 136) hx hb dMod_multiplied_127 (by decide) ?_
      exact W.iret hx hb hr (fun t ht hW => ⟨⟨_, (), rfl, (by unfold mf_RiscHartModel_multiplied; rw [if_neg c_1, if_neg c_2, if_neg c_3, if_neg c_4, if_neg c_5, if_neg c_7, if_pos c_9, if_pos c_10]), ht⟩, mk_F ht⟩) (fun q h => nomatch h) dMod_multiplied_136
  refine mk_table (tgt := 137) hx hb dMod_multiplied_16 (mk_gap (N := 7) [0, 1, 2, 3, 4, 5, 6] (by decide) (by decide) (by have q_1 := lv_neT (a := 0) c_1 rfl; have q_2 := lv_neT (a := 1) c_2 rfl; have q_3 := lv_neT (a := 2) c_3 rfl; have q_4 := lv_neT (a := 3) c_4 rfl; have q_5 := lv_neT (a := 4) c_5 rfl; have q_7 := lv_neT (a := 5) c_7 rfl; have q_9 := lv_neT (a := 6) c_9 rfl; intro n hn; simp only [List.mem_cons, List.not_mem_nil, or_false, not_or]; omega)) (by decide) ?_
  refine lv_iload_n hx hb dMod_multiplied_137 rfl (lv_at hl 4 rfl) ?_
  refine lv_if_ne (tgt := 145) hx hb dMod_multiplied_138 (by decide) (fun c_11 => ?_) (fun c_11 => ?_)
  · refine lv_lload_n hx hb dMod_multiplied_145 rfl (lv_at hl 1 rfl) ?_
    refine lv_lload hx hb dMod_multiplied_146 (lv_at hl 0 rfl) ?_
    refine lv_lrem hx hb dMod_multiplied_148 (nz_lo c_11) ?_
    refine lv_l2i (v := ((a2.toInt64 &&& 4294967295) - (a2.toInt64 &&& 4294967295) / (a3.toInt64 &&& 4294967295) * (a3.toInt64 &&& 4294967295)).toInt32) hx hb dMod_multiplied_149 rfl ?_
    exact W.iret hx hb hr (fun t ht hW => ⟨⟨_, (), rfl, (by unfold mf_RiscHartModel_multiplied; rw [if_neg c_1, if_neg c_2, if_neg c_3, if_neg c_4, if_neg c_5, if_neg c_7, if_neg c_9, if_neg c_11]), ht⟩, mk_F ht⟩) (fun q h => nomatch h) dMod_multiplied_150
  · refine lv_iload_n hx hb dMod_multiplied_141 rfl (lv_at hl 3 rfl) ?_
    refine lv_goto (tgt := 150) hx hb dMod_multiplied_142 (by decide) ?_
    exact W.iret hx hb hr (fun t ht hW => ⟨⟨_, (), rfl, (by unfold mf_RiscHartModel_multiplied; rw [if_neg c_1, if_neg c_2, if_neg c_3, if_neg c_4, if_neg c_5, if_neg c_7, if_neg c_9, if_pos c_11]), ht⟩, mk_F ht⟩) (fun q h => nomatch h) dMod_multiplied_150
set_option maxHeartbeats 4000000 in
set_option maxRecDepth 100000 in
theorem mc_RiscHartModel_changed (l : Launch) (G : Heap) (a1 : Int32) (a2 : Int32) (a3 : Int32)  : Met l yMod_changed (wq yMod_changed cMod_changed 4 (some .int)) ({ frames := 0, cells := 0, slots := 0, locals := 0 }) (mk_P G [.int a1, .int a2, .int a3]) (mk_Qi G (mf_RiscHartModel_changed a1 a2 a3)) 0 0 (fun _ => False) := by
  refine Met.ofW (cc := cMod_changed) (maxL := 4) (ret := (some .int)) (by decide) rfl ?_
  intro p e s m args below meth c s₁ B hml hv
  obtain ⟨rfl, hG⟩ := hv
  subst hG
  have hx := B.exec
  have hb := B.bytes
  have hr := B.returns
  have hts := atoms_spec (ws := (wq yMod_changed cMod_changed 4 (some .int))) B.pre
  have hown : s.vm.findClass RMod = some m.cls := findClass_of_methodNamed B.named
  have hlocks := B.notSynchronized
  have hg : ∀ w ∈ lw_g, w.before _ s = true := fun w h => hts w (List.mem_cons_of_mem _ h)
  have hl := lv_entry ([.int a1, .int a2, .int a3]) (n := 4) (Nat.le_of_ble_eq_true rfl)
  rw [lg_entry_eq]
  generalize (lg_sl ([.int a1, .int a2, .int a3]) ++ List.replicate (4 - (lg_sl ([.int a1, .int a2, .int a3])).length) Slot.unset).toArray = ls at hl ⊢
  have hl : lv_has ls 4 [(0, .int a1), (1, .int a2), (2, .int a3)] := hl
  have tail_41 : ∀ (ls : Array Slot) (v3 : Int32), mf_RiscHartModel_changed a1 a2 a3 = mf_RiscHartModel_changed_t41 a1 a2 a3 v3 → lv_has ls 4 [(0, .int a1), (1, .int a2), (2, .int a3), (3, .int v3)] → W p l e (headSpec (wq yMod_changed cMod_changed 4 (some .int)) ({ frames := 0, cells := 0, slots := 0, locals := 0 })).room s m ([.int a1, .int a2, .int a3] : List Value).toArray below meth c s.heap [] 0 0 (MQ below (mk_Qi s.heap (mf_RiscHartModel_changed a1 a2 a3)) ([.int a1, .int a2, .int a3] : List Value).toArray s 0 0 (fun _ => False)) (F0 m 41 ls []) := by
    intro ls v3 hv41 hl
    refine lv_iload_n hx hb dMod_changed_41 rfl (lv_at hl 0 rfl) ?_
    by_cases c_1 : a1 = 0
    · refine lv_tableIn (tgt := 158) hx hb dMod_changed_42 (by rw [c_1]; decide) (by rw [c_1]; decide) (by rw [c_1]; rfl) (by decide) ?_
      refine lv_iload_n hx hb dMod_changed_158 rfl (lv_at hl 1 rfl) ?_
      refine lv_iload_n hx hb dMod_changed_159 rfl (lv_at hl 2 rfl) ?_
      refine lv_iadd hx hb dMod_changed_160 ?_
      exact W.iret hx hb hr (fun t ht hW => ⟨⟨_, (), rfl, (by rw [hv41]; unfold mf_RiscHartModel_changed_t41; rw [if_pos c_1]), ht⟩, mk_F ht⟩) (fun q h => nomatch h) dMod_changed_161
    by_cases c_2 : a1 = 1
    · refine lv_tableIn (tgt := 156) hx hb dMod_changed_42 (by rw [c_2]; decide) (by rw [c_2]; decide) (by rw [c_2]; rfl) (by decide) ?_
      refine lv_iload_n hx hb dMod_changed_156 rfl (lv_at hl 2 rfl) ?_
      exact W.iret hx hb hr (fun t ht hW => ⟨⟨_, (), rfl, (by rw [hv41]; unfold mf_RiscHartModel_changed_t41; rw [if_neg c_1, if_pos c_2]), ht⟩, mk_F ht⟩) (fun q h => nomatch h) dMod_changed_157
    by_cases c_3 : a1 = 4
    · refine lv_tableIn (tgt := 162) hx hb dMod_changed_42 (by rw [c_3]; decide) (by rw [c_3]; decide) (by rw [c_3]; rfl) (by decide) ?_
      refine lv_iload_n hx hb dMod_changed_162 rfl (lv_at hl 1 rfl) ?_
      refine lv_iload_n hx hb dMod_changed_163 rfl (lv_at hl 2 rfl) ?_
      refine lv_ixor hx hb dMod_changed_164 ?_
      exact W.iret hx hb hr (fun t ht hW => ⟨⟨_, (), rfl, (by rw [hv41]; unfold mf_RiscHartModel_changed_t41; rw [if_neg c_1, if_neg c_2, if_pos c_3]), ht⟩, mk_F ht⟩) (fun q h => nomatch h) dMod_changed_165
    by_cases c_4 : a1 = 8
    · refine lv_tableIn (tgt := 170) hx hb dMod_changed_42 (by rw [c_4]; decide) (by rw [c_4]; decide) (by rw [c_4]; rfl) (by decide) ?_
      refine lv_iload_n hx hb dMod_changed_170 rfl (lv_at hl 1 rfl) ?_
      refine lv_iload_n hx hb dMod_changed_171 rfl (lv_at hl 2 rfl) ?_
      refine lv_ior hx hb dMod_changed_172 ?_
      exact W.iret hx hb hr (fun t ht hW => ⟨⟨_, (), rfl, (by rw [hv41]; unfold mf_RiscHartModel_changed_t41; rw [if_neg c_1, if_neg c_2, if_neg c_3, if_pos c_4]), ht⟩, mk_F ht⟩) (fun q h => nomatch h) dMod_changed_173
    by_cases c_5 : a1 = 12
    · refine lv_tableIn (tgt := 166) hx hb dMod_changed_42 (by rw [c_5]; decide) (by rw [c_5]; decide) (by rw [c_5]; rfl) (by decide) ?_
      refine lv_iload_n hx hb dMod_changed_166 rfl (lv_at hl 1 rfl) ?_
      refine lv_iload_n hx hb dMod_changed_167 rfl (lv_at hl 2 rfl) ?_
      refine lv_iand hx hb dMod_changed_168 ?_
      exact W.iret hx hb hr (fun t ht hW => ⟨⟨_, (), rfl, (by rw [hv41]; unfold mf_RiscHartModel_changed_t41; rw [if_neg c_1, if_neg c_2, if_neg c_3, if_neg c_4, if_pos c_5]), ht⟩, mk_F ht⟩) (fun q h => nomatch h) dMod_changed_169
    by_cases c_6 : a1 = 16
    · refine lv_tableIn (tgt := 174) hx hb dMod_changed_42 (by rw [c_6]; decide) (by rw [c_6]; decide) (by rw [c_6]; rfl) (by decide) ?_
      refine lv_iload_n hx hb dMod_changed_174 rfl (lv_at hl 3 rfl) ?_
      refine lv_if_eq (tgt := 182) hx hb dMod_changed_175 (by decide) (fun c_7 => ?_) (fun c_7 => ?_)
      · refine lv_iload_n hx hb dMod_changed_182 rfl (lv_at hl 2 rfl) ?_
        exact W.iret hx hb hr (fun t ht hW => ⟨⟨_, (), rfl, (by rw [hv41]; unfold mf_RiscHartModel_changed_t41; rw [if_neg c_1, if_neg c_2, if_neg c_3, if_neg c_4, if_neg c_5, if_pos c_6, if_pos c_7]), ht⟩, mk_F ht⟩) (fun q h => nomatch h) dMod_changed_183
      · refine lv_iload_n hx hb dMod_changed_178 rfl (lv_at hl 1 rfl) ?_
        refine lv_goto (tgt := 183) hx hb dMod_changed_179 (by decide) ?_
        exact W.iret hx hb hr (fun t ht hW => ⟨⟨_, (), rfl, (by rw [hv41]; unfold mf_RiscHartModel_changed_t41; rw [if_neg c_1, if_neg c_2, if_neg c_3, if_neg c_4, if_neg c_5, if_pos c_6, if_neg c_7]), ht⟩, mk_F ht⟩) (fun q h => nomatch h) dMod_changed_183
    by_cases c_8 : a1 = 24
    · refine lv_tableIn (tgt := 174) hx hb dMod_changed_42 (by rw [c_8]; decide) (by rw [c_8]; decide) (by rw [c_8]; rfl) (by decide) ?_
      refine lv_iload_n hx hb dMod_changed_174 rfl (lv_at hl 3 rfl) ?_
      refine lv_if_eq (tgt := 182) hx hb dMod_changed_175 (by decide) (fun c_9 => ?_) (fun c_9 => ?_)
      · refine lv_iload_n hx hb dMod_changed_182 rfl (lv_at hl 2 rfl) ?_
        exact W.iret hx hb hr (fun t ht hW => ⟨⟨_, (), rfl, (by rw [hv41]; unfold mf_RiscHartModel_changed_t41; rw [if_neg c_1, if_neg c_2, if_neg c_3, if_neg c_4, if_neg c_5, if_neg c_6, if_pos c_8, if_pos c_9]), ht⟩, mk_F ht⟩) (fun q h => nomatch h) dMod_changed_183
      · refine lv_iload_n hx hb dMod_changed_178 rfl (lv_at hl 1 rfl) ?_
        refine lv_goto (tgt := 183) hx hb dMod_changed_179 (by decide) ?_
        exact W.iret hx hb hr (fun t ht hW => ⟨⟨_, (), rfl, (by rw [hv41]; unfold mf_RiscHartModel_changed_t41; rw [if_neg c_1, if_neg c_2, if_neg c_3, if_neg c_4, if_neg c_5, if_neg c_6, if_pos c_8, if_neg c_9]), ht⟩, mk_F ht⟩) (fun q h => nomatch h) dMod_changed_183
    refine mk_table (tgt := 184) hx hb dMod_changed_42 (mk_gap (N := 25) [0, 1, 4, 8, 12, 16, 24] (by decide) (by decide) (by have q_1 := lv_neT (a := 0) c_1 rfl; have q_2 := lv_neT (a := 1) c_2 rfl; have q_3 := lv_neT (a := 4) c_3 rfl; have q_4 := lv_neT (a := 8) c_4 rfl; have q_5 := lv_neT (a := 12) c_5 rfl; have q_6 := lv_neT (a := 16) c_6 rfl; have q_8 := lv_neT (a := 24) c_8 rfl; intro n hn; simp only [List.mem_cons, List.not_mem_nil, or_false, not_or]; omega)) (by decide) ?_
    refine lv_iload_n hx hb dMod_changed_184 rfl (lv_at hl 3 rfl) ?_
    refine lv_if_eq (tgt := 192) hx hb dMod_changed_185 (by decide) (fun c_10 => ?_) (fun c_10 => ?_)
    · refine lv_iload_n hx hb dMod_changed_192 rfl (lv_at hl 1 rfl) ?_
      exact W.iret hx hb hr (fun t ht hW => ⟨⟨_, (), rfl, (by rw [hv41]; unfold mf_RiscHartModel_changed_t41; rw [if_neg c_1, if_neg c_2, if_neg c_3, if_neg c_4, if_neg c_5, if_neg c_6, if_neg c_8, if_pos c_10]), ht⟩, mk_F ht⟩) (fun q h => nomatch h) dMod_changed_193
    · refine lv_iload_n hx hb dMod_changed_188 rfl (lv_at hl 2 rfl) ?_
      refine lv_goto (tgt := 193) hx hb dMod_changed_189 (by decide) ?_
      exact W.iret hx hb hr (fun t ht hW => ⟨⟨_, (), rfl, (by rw [hv41]; unfold mf_RiscHartModel_changed_t41; rw [if_neg c_1, if_neg c_2, if_neg c_3, if_neg c_4, if_neg c_5, if_neg c_6, if_neg c_8, if_neg c_10]), ht⟩, mk_F ht⟩) (fun q h => nomatch h) dMod_changed_193
  refine lv_iload_n hx hb dMod_changed_0 rfl (lv_at hl 0 rfl) ?_
  refine lv_bipush (v := 24) hx hb dMod_changed_1 (by decide) ?_
  refine lv_icmp_ge (tgt := 19) hx hb dMod_changed_3 (by decide) (fun c_11 => ?_) (fun c_11 => ?_)
  · refine lv_iload_n hx hb dMod_changed_19 rfl (lv_at hl 1 rfl) ?_
    refine lv_i2l (v := a2.toInt64) hx hb dMod_changed_20 rfl ?_
    refine lv_ldc2 (v := 4294967295) hx hb hown (hg _ tw_721) dMod_changed_21 ?_
    refine lv_land hx hb dMod_changed_24 ?_
    refine lv_iload_n hx hb dMod_changed_25 rfl (lv_at hl 2 rfl) ?_
    refine lv_i2l (v := a3.toInt64) hx hb dMod_changed_26 rfl ?_
    refine lv_ldc2 (v := 4294967295) hx hb hown (hg _ tw_721) dMod_changed_27 ?_
    refine lv_land hx hb dMod_changed_30 ?_
    refine W.lcmp hx hb dMod_changed_31 ?_
    refine lv_if_ge (tgt := 39) hx hb dMod_changed_32 (by decide) (fun c_12 => ?_) (fun c_12 => ?_)
    · refine lv_iconst (v := 0) hx hb dMod_changed_39 (by decide) ?_
      refine lv_istore_n (lv' := [(3, .int 0), (0, .int a1), (1, .int a2), (2, .int a3)]) hx hb dMod_changed_40 rfl hl (by decide) rfl (fun ls hl => ?_)
      exact tail_41 ls 0 (by unfold mf_RiscHartModel_changed; rw [if_pos c_11, if_pos c_12]) (lv_sub hl [1, 2, 3, 0] rfl)
    · refine lv_iconst (v := 1) hx hb dMod_changed_35 (by decide) ?_
      refine lv_goto (tgt := 40) hx hb dMod_changed_36 (by decide) ?_
      refine lv_istore_n (lv' := [(3, .int 1), (0, .int a1), (1, .int a2), (2, .int a3)]) hx hb dMod_changed_40 rfl hl (by decide) rfl (fun ls hl => ?_)
      exact tail_41 ls 1 (by unfold mf_RiscHartModel_changed; rw [if_pos c_11, if_neg c_12]) (lv_sub hl [1, 2, 3, 0] rfl)
  · refine lv_iload_n hx hb dMod_changed_6 rfl (lv_at hl 1 rfl) ?_
    refine lv_iload_n hx hb dMod_changed_7 rfl (lv_at hl 2 rfl) ?_
    refine lv_icmp_ge (tgt := 15) hx hb dMod_changed_8 (by decide) (fun c_13 => ?_) (fun c_13 => ?_)
    · refine lv_iconst (v := 0) hx hb dMod_changed_15 (by decide) ?_
      refine lv_goto (tgt := 40) hx hb dMod_changed_16 (by decide) ?_
      refine lv_istore_n (lv' := [(3, .int 0), (0, .int a1), (1, .int a2), (2, .int a3)]) hx hb dMod_changed_40 rfl hl (by decide) rfl (fun ls hl => ?_)
      exact tail_41 ls 0 (by unfold mf_RiscHartModel_changed; rw [if_neg c_11, if_pos c_13]) (lv_sub hl [1, 2, 3, 0] rfl)
    · refine lv_iconst (v := 1) hx hb dMod_changed_11 (by decide) ?_
      refine lv_goto (tgt := 40) hx hb dMod_changed_12 (by decide) ?_
      refine lv_istore_n (lv' := [(3, .int 1), (0, .int a1), (1, .int a2), (2, .int a3)]) hx hb dMod_changed_40 rfl hl (by decide) rfl (fun ls hl => ?_)
      exact tail_41 ls 1 (by unfold mf_RiscHartModel_changed; rw [if_neg c_11, if_neg c_13]) (lv_sub hl [1, 2, 3, 0] rfl)
set_option maxHeartbeats 4000000 in
set_option maxRecDepth 100000 in
theorem mc_RiscHartModel_atomic (l : Launch) {D : va_G} {cB cO cX : ClassId} {m0 m1 m2 m3 : Nat} {A : Nat → Prop} {st : MS} {G : Heap} (hP : va_P D hcl (ms_W cB cO cX m0 m1 m2 m3 st) G) (hD : ∀ z, va_D A (ms_W cB cO cX m0 m1 m2 m3 z)) (a1 : Int32) (a2 : Int32) (a3 : Int32) (a4 : Int32) (a5 : Int32)  : Met l yMod_atomic (wq yMod_atomic cMod_atomic 9 (some .int)) ({ frames := 3, cells := 0, slots := 0, locals := 69 }) (mk_PK D hcl [(cB, .int), (cO, .int), (cX, .int)] G [.ref m0, .int a1, .int a2, .int a3, .int a4, .int a5]) (mk_Wi (fun u t => va_P D hcl (ms_W cB cO cX m0 m1 m2 m3 u) t) A (mf_RiscHartModel_atomic st a1 a2 a3 a4 a5)) 0 0 A := by
  refine Met.ofW (cc := cMod_atomic) (maxL := 9) (ret := (some .int)) (by decide) rfl ?_
  intro p e s m args below meth c s₁ B hml hv
  obtain ⟨rfl, hG, hK⟩ := hv
  subst hG
  have hx := B.exec
  have hb := B.bytes
  have hr := B.returns
  have hts := atoms_spec (ws := (wq yMod_atomic cMod_atomic 9 (some .int))) B.pre
  have hown : s.vm.findClass RMod = some m.cls := findClass_of_methodNamed B.named
  have hlocks := B.notSynchronized
  have hg : ∀ w ∈ lw_g, w.before _ s = true := fun w h => hts w (List.mem_cons_of_mem _ h)
  have hS : va_S A s.heap s.heap [] := va_S.rf
  have hl := lv_entry ([.ref m0, .int a1, .int a2, .int a3, .int a4, .int a5]) (n := 9) (Nat.le_of_ble_eq_true rfl)
  rw [lg_entry_eq]
  generalize (lg_sl ([.ref m0, .int a1, .int a2, .int a3, .int a4, .int a5]) ++ List.replicate (9 - (lg_sl ([.ref m0, .int a1, .int a2, .int a3, .int a4, .int a5])).length) Slot.unset).toArray = ls at hl ⊢
  have hl : lv_has ls 9 [(0, .ref m0), (1, .int a1), (2, .int a2), (3, .int a3), (4, .int a4), (5, .int a5)] := hl
  have tail_186 : ∀ (ls : Array Slot) (v6 : Int32) (v7 : Int32) (v8 : Int32), mf_RiscHartModel_atomic st a1 a2 a3 a4 a5 = mf_RiscHartModel_atomic_t186 st a1 a2 a3 a4 a5 v6 v7 v8 → lv_has ls 9 [(0, .ref m0), (1, .int a1), (2, .int a2), (3, .int a3), (4, .int a4), (5, .int a5), (6, .int v6), (7, .int v7), (8, .int v8)] → W p l e (headSpec (wq yMod_atomic cMod_atomic 9 (some .int)) ({ frames := 3, cells := 0, slots := 0, locals := 69 })).room s m ([.ref m0, .int a1, .int a2, .int a3, .int a4, .int a5] : List Value).toArray below meth c s.heap [] 0 0 (MQ below (mk_Wi (fun u t => va_P D hcl (ms_W cB cO cX m0 m1 m2 m3 u) t) A (mf_RiscHartModel_atomic st a1 a2 a3 a4 a5)) ([.ref m0, .int a1, .int a2, .int a3, .int a4, .int a5] : List Value).toArray s 0 0 A) (F0 m 186 ls []) := by
    intro ls v6 v7 v8 hv186 hl
    refine lv_iload_n hx hb dMod_atomic_186 rfl (lv_at hl 3 rfl) ?_
    refine lv_iconst (v := 3) hx hb dMod_atomic_187 (by decide) ?_
    refine lv_icmp_ne (tgt := 196) hx hb dMod_atomic_188 (by decide) (fun c_1 => ?_) (fun c_1 => ?_)
    · refine lv_iload_n hx hb dMod_atomic_196 rfl (lv_at hl 3 rfl) ?_
      refine lv_iconst (v := 3) hx hb dMod_atomic_197 (by decide) ?_
      refine lv_icmp_ne (tgt := 208) hx hb dMod_atomic_198 (by decide) (fun c_2 => ?_) (fun c_2 => ?_)
      · refine lv_aload_n hx hb dMod_atomic_208 rfl (lv_at hl 0 rfl) ?_
        refine lv_iconst (v := 2) hx hb dMod_atomic_209 (by decide) ?_
        refine lv_iload hx hb dMod_atomic_210 (lv_at hl 4 rfl) ?_
        refine lv_iload_n hx hb dMod_atomic_212 rfl (lv_at hl 3 rfl) ?_
        refine lv_iconst (v := 3) hx hb dMod_atomic_213 (by decide) ?_
        refine lv_icmp_ne (tgt := 222) hx hb dMod_atomic_214 (by decide) (fun c_3 => ?_) (fun c_3 => ?_)
        · refine lv_iload_n hx hb dMod_atomic_222 rfl (lv_at hl 3 rfl) ?_
          refine lv_iload hx hb dMod_atomic_223 (lv_at hl 7 rfl) ?_
          refine lv_iload hx hb dMod_atomic_225 (lv_at hl 5 rfl) ?_
          refine mk_callR (va_runS (As := [.int a3, .int v7, .int a5]) (rest := [.int a4, .int 2, .ref m0]) ⟨hx, hb, hml, hown, hts⟩ (mc_RiscHartModel_changed l _ a3 v7 a5) (va_cwS 3 hts (mk_gS tw_744 tw_745 tw_48 tw_746) rfl rfl rfl hdMod_changed.2 ⟨Nat.le_of_ble_eq_true rfl, Nat.le_of_ble_eq_true rfl⟩) mk_preS rfl rfl hl.1 rfl (lv_room (Nat.le_of_ble_eq_true rfl)) dMod_atomic_227 ⟨Nat.zero_le _, Nat.zero_le _⟩) ?_
          refine mk_callWv (va_runV (As := [.int 2, .int a4, .int (mf_RiscHartModel_changed a3 v7 a5)]) (rest := []) ⟨hx, hb, hml, hown, hts⟩ (mc_RiscHartModel_put l hP hD 2 a4 (mf_RiscHartModel_changed a3 v7 a5)) (cwV 3 hts (mk_gV tw_726 tw_728 tw_41 tw_48 tw_729) rfl rfl rfl hdMod_put ⟨Nat.le_of_ble_eq_true rfl, Nat.le_of_ble_eq_true rfl⟩) (mk_preVK hK (va_recv hK hP (ci := 2) (q0 := 0) rfl rfl)) rfl rfl hl.1 rfl (lv_room (Nat.le_of_ble_eq_true rfl)) dMod_atomic_230 ⟨Nat.zero_le _, Nat.zero_le _⟩) hS (fun H locs hP hS => ?_)
          refine lv_iload_n hx hb dMod_atomic_233 rfl (lv_at hl 3 rfl) ?_
          refine lv_iconst (v := 3) hx hb dMod_atomic_234 (by decide) ?_
          refine lv_icmp_ne (tgt := 242) hx hb dMod_atomic_235 (by decide) (fun c_4 => ?_) (fun c_4 => ?_)
          · refine lv_iload hx hb dMod_atomic_242 (lv_at hl 7 rfl) ?_
            exact W.iret hx hb hr (fun t ht hW => ⟨⟨_, (mf_RiscHartModel_put st 2 a4 (mf_RiscHartModel_changed a3 v7 a5)), rfl, (by rw [hv186]; unfold mf_RiscHartModel_atomic_t186; rw [if_neg c_1]), by show va_P D hcl _ t.heap; rw [ht]; exact hP⟩, hS.F ht⟩) hS.2.2 dMod_atomic_244
          · exact absurd c_4 c_1
        · exact absurd c_3 c_1
      · exact absurd c_2 c_1
    · refine lv_aload_n hx hb dMod_atomic_191 rfl (lv_at hl 0 rfl) ?_
      refine lv_iconst (v := (-1)) hx hb dMod_atomic_192 (by decide) ?_
      refine va_put (D := D) (ci := 2) (v := .int (-1)) (ty := .int) (C := RMod) (T := TMod) (N := 14) hx hb hg inMod tyMod tyMod_ok nmMod hown hK hP (hD _) hS 0 rfl rfl 7 (by decide) (hg _ tw_564) (fun _ h9 => h9) rfl (by decide +kernel) rfl rfl (Nat.le_of_ble_eq_true rfl) dMod_atomic_193 (fun H locs hP _ hS => ?_)
      have hP : va_P D hcl (ms_W cB cO cX m0 m1 m2 m3 (ms_set_reserved st (-1))) H := hP
      refine lv_iload_n hx hb dMod_atomic_196 rfl (lv_at hl 3 rfl) ?_
      refine lv_iconst (v := 3) hx hb dMod_atomic_197 (by decide) ?_
      refine lv_icmp_ne (tgt := 208) hx hb dMod_atomic_198 (by decide) (fun c_5 => ?_) (fun c_5 => ?_)
      · exact absurd c_1 c_5
      · refine lv_iload hx hb dMod_atomic_201 (lv_at hl 8 rfl) ?_
        refine lv_if_ne (tgt := 208) hx hb dMod_atomic_203 (by decide) (fun c_6 => ?_) (fun c_6 => ?_)
        · refine lv_aload_n hx hb dMod_atomic_208 rfl (lv_at hl 0 rfl) ?_
          refine lv_iconst (v := 2) hx hb dMod_atomic_209 (by decide) ?_
          refine lv_iload hx hb dMod_atomic_210 (lv_at hl 4 rfl) ?_
          refine lv_iload_n hx hb dMod_atomic_212 rfl (lv_at hl 3 rfl) ?_
          refine lv_iconst (v := 3) hx hb dMod_atomic_213 (by decide) ?_
          refine lv_icmp_ne (tgt := 222) hx hb dMod_atomic_214 (by decide) (fun c_7 => ?_) (fun c_7 => ?_)
          · exact absurd c_1 c_7
          · refine lv_iload hx hb dMod_atomic_217 (lv_at hl 5 rfl) ?_
            refine lv_goto (tgt := 230) hx hb dMod_atomic_219 (by decide) ?_
            refine mk_callWv (va_runV (As := [.int 2, .int a4, .int a5]) (rest := []) ⟨hx, hb, hml, hown, hts⟩ (mc_RiscHartModel_put l hP hD 2 a4 a5) (cwV 3 hts (mk_gV tw_726 tw_728 tw_41 tw_48 tw_729) rfl rfl rfl hdMod_put ⟨Nat.le_of_ble_eq_true rfl, Nat.le_of_ble_eq_true rfl⟩) (mk_preVK hK (va_recv hK hP (ci := 2) (q0 := 0) rfl rfl)) rfl rfl hl.1 rfl (lv_room (Nat.le_of_ble_eq_true rfl)) dMod_atomic_230 ⟨Nat.zero_le _, Nat.zero_le _⟩) hS (fun H locs hP hS => ?_)
            refine lv_iload_n hx hb dMod_atomic_233 rfl (lv_at hl 3 rfl) ?_
            refine lv_iconst (v := 3) hx hb dMod_atomic_234 (by decide) ?_
            refine lv_icmp_ne (tgt := 242) hx hb dMod_atomic_235 (by decide) (fun c_8 => ?_) (fun c_8 => ?_)
            · exact absurd c_1 c_8
            · refine lv_iconst (v := 0) hx hb dMod_atomic_238 (by decide) ?_
              refine lv_goto (tgt := 244) hx hb dMod_atomic_239 (by decide) ?_
              exact W.iret hx hb hr (fun t ht hW => ⟨⟨_, (mf_RiscHartModel_put (ms_set_reserved st (-1)) 2 a4 a5), rfl, (by rw [hv186]; unfold mf_RiscHartModel_atomic_t186; rw [if_pos c_1, if_neg c_6]), by show va_P D hcl _ t.heap; rw [ht]; exact hP⟩, hS.F ht⟩) hS.2.2 dMod_atomic_244
        · refine lv_iconst (v := 1) hx hb dMod_atomic_206 (by decide) ?_
          exact W.iret hx hb hr (fun t ht hW => ⟨⟨_, (ms_set_reserved st (-1)), rfl, (by rw [hv186]; unfold mf_RiscHartModel_atomic_t186; rw [if_pos c_1, if_pos c_6]), by show va_P D hcl _ t.heap; rw [ht]; exact hP⟩, hS.F ht⟩) hS.2.2 dMod_atomic_207
  have tail_48 : ∀ (ls : Array Slot) (v6 : Int32), mf_RiscHartModel_atomic st a1 a2 a3 a4 a5 = mf_RiscHartModel_atomic_t48 st a1 a2 a3 a4 a5 v6 → lv_has ls 9 [(0, .ref m0), (1, .int a1), (2, .int a2), (3, .int a3), (4, .int a4), (5, .int a5), (6, .int v6)] → W p l e (headSpec (wq yMod_atomic cMod_atomic 9 (some .int)) ({ frames := 3, cells := 0, slots := 0, locals := 69 })).room s m ([.ref m0, .int a1, .int a2, .int a3, .int a4, .int a5] : List Value).toArray below meth c s.heap [] 0 0 (MQ below (mk_Wi (fun u t => va_P D hcl (ms_W cB cO cX m0 m1 m2 m3 u) t) A (mf_RiscHartModel_atomic st a1 a2 a3 a4 a5)) ([.ref m0, .int a1, .int a2, .int a3, .int a4, .int a5] : List Value).toArray s 0 0 A) (F0 m 48 ls []) := by
    intro ls v6 hv48 hl
    refine lv_iload_n hx hb dMod_atomic_48 rfl (lv_at hl 2 rfl) ?_
    refine lv_iconst (v := 2) hx hb dMod_atomic_49 (by decide) ?_
    refine lv_icmp_ne (tgt := 73) hx hb dMod_atomic_50 (by decide) (fun c_9 => ?_) (fun c_9 => ?_)
    · refine lv_aload_n hx hb dMod_atomic_73 rfl (lv_at hl 0 rfl) ?_
      refine mk_callW (va_runV (As := []) (rest := []) ⟨hx, hb, hml, hown, hts⟩ (mc_RiscHartModel_illegal l hP hD) (cwV 0 hts (mk_gV tw_705 tw_707 tw_36 tw_48 tw_708) rfl rfl rfl hdMod_illegal ⟨Nat.le_of_ble_eq_true rfl, Nat.le_of_ble_eq_true rfl⟩) (mk_preVK hK (va_recv hK hP (ci := 2) (q0 := 0) rfl rfl)) rfl rfl hl.1 rfl (lv_room (Nat.le_of_ble_eq_true rfl)) dMod_atomic_74 ⟨Nat.zero_le _, Nat.zero_le _⟩) hS (fun H locs hP hS => ?_)
      exact W.iret hx hb hr (fun t ht hW => ⟨⟨_, (mf_RiscHartModel_illegal st).2, rfl, (by rw [hv48]; unfold mf_RiscHartModel_atomic_t48; rw [if_neg c_9]), by show va_P D hcl _ t.heap; rw [ht]; exact hP⟩, hS.F ht⟩) hS.2.2 dMod_atomic_77
    · refine lv_iload hx hb dMod_atomic_53 (lv_at hl 6 rfl) ?_
      refine lv_if_eq (tgt := 73) hx hb dMod_atomic_55 (by decide) (fun c_10 => ?_) (fun c_10 => ?_)
      · refine lv_aload_n hx hb dMod_atomic_73 rfl (lv_at hl 0 rfl) ?_
        refine mk_callW (va_runV (As := []) (rest := []) ⟨hx, hb, hml, hown, hts⟩ (mc_RiscHartModel_illegal l hP hD) (cwV 0 hts (mk_gV tw_705 tw_707 tw_36 tw_48 tw_708) rfl rfl rfl hdMod_illegal ⟨Nat.le_of_ble_eq_true rfl, Nat.le_of_ble_eq_true rfl⟩) (mk_preVK hK (va_recv hK hP (ci := 2) (q0 := 0) rfl rfl)) rfl rfl hl.1 rfl (lv_room (Nat.le_of_ble_eq_true rfl)) dMod_atomic_74 ⟨Nat.zero_le _, Nat.zero_le _⟩) hS (fun H locs hP hS => ?_)
        exact W.iret hx hb hr (fun t ht hW => ⟨⟨_, (mf_RiscHartModel_illegal st).2, rfl, (by rw [hv48]; unfold mf_RiscHartModel_atomic_t48; rw [if_pos c_9, if_pos c_10]), by show va_P D hcl _ t.heap; rw [ht]; exact hP⟩, hS.F ht⟩) hS.2.2 dMod_atomic_77
      · refine lv_iload_n hx hb dMod_atomic_58 rfl (lv_at hl 3 rfl) ?_
        refine lv_iconst (v := 2) hx hb dMod_atomic_59 (by decide) ?_
        refine lv_icmp_ne (tgt := 78) hx hb dMod_atomic_60 (by decide) (fun c_11 => ?_) (fun c_11 => ?_)
        · refine lv_iload hx hb dMod_atomic_78 (lv_at hl 4 rfl) ?_
          refine lv_iconst (v := 4) hx hb dMod_atomic_80 (by decide) ?_
          refine lv_irem hx hb dMod_atomic_81 (by decide) ?_
          refine lv_if_eq (tgt := 93) hx hb dMod_atomic_82 (by decide) (fun c_12 => ?_) (fun c_12 => ?_)
          · refine lv_iload_n hx hb dMod_atomic_93 rfl (lv_at hl 3 rfl) ?_
            refine lv_iconst (v := 2) hx hb dMod_atomic_94 (by decide) ?_
            refine lv_icmp_eq (tgt := 117) hx hb dMod_atomic_95 (by decide) (fun c_13 => ?_) (fun c_13 => ?_)
            · exact absurd c_13 c_11
            · refine lv_aload_n hx hb dMod_atomic_98 rfl (lv_at hl 0 rfl) ?_
              refine lv_iload hx hb dMod_atomic_99 (lv_at hl 4 rfl) ?_
              refine lv_iconst (v := 2) hx hb dMod_atomic_101 (by decide) ?_
              refine mk_callR (va_runV (As := [.int a4, .int 2]) (rest := []) ⟨hx, hb, hml, hown, hts⟩ (mc_RiscHartModel_may l hP a4 2) (cwV 2 hts (mk_gV tw_653 tw_655 tw_33 tw_48 tw_656) rfl rfl rfl hdMod_may ⟨Nat.le_of_ble_eq_true rfl, Nat.le_of_ble_eq_true rfl⟩) (mk_preVK hK (va_recv hK hP (ci := 2) (q0 := 0) rfl rfl)) rfl rfl hl.1 rfl (lv_room (Nat.le_of_ble_eq_true rfl)) dMod_atomic_102 ⟨Nat.zero_le _, Nat.zero_le _⟩) ?_
              refine lv_if_ne (tgt := 117) hx hb dMod_atomic_105 (by decide) (fun c_14 => ?_) (fun c_14 => ?_)
              · refine lv_aload_n hx hb dMod_atomic_117 rfl (lv_at hl 0 rfl) ?_
                refine lv_iload hx hb dMod_atomic_118 (lv_at hl 4 rfl) ?_
                refine lv_iconst (v := 1) hx hb dMod_atomic_120 (by decide) ?_
                refine mk_callR (va_runV (As := [.int a4, .int 1]) (rest := []) ⟨hx, hb, hml, hown, hts⟩ (mc_RiscHartModel_may l hP a4 1) (cwV 2 hts (mk_gV tw_653 tw_655 tw_33 tw_48 tw_656) rfl rfl rfl hdMod_may ⟨Nat.le_of_ble_eq_true rfl, Nat.le_of_ble_eq_true rfl⟩) (mk_preVK hK (va_recv hK hP (ci := 2) (q0 := 0) rfl rfl)) rfl rfl hl.1 rfl (lv_room (Nat.le_of_ble_eq_true rfl)) dMod_atomic_121 ⟨Nat.zero_le _, Nat.zero_le _⟩) ?_
                refine lv_if_ne (tgt := 136) hx hb dMod_atomic_124 (by decide) (fun c_15 => ?_) (fun c_15 => ?_)
                · refine lv_aload_n hx hb dMod_atomic_136 rfl (lv_at hl 0 rfl) ?_
                  refine lv_iload hx hb dMod_atomic_137 (lv_at hl 4 rfl) ?_
                  refine mk_callR (va_runV (As := [.int a4]) (rest := []) ⟨hx, hb, hml, hown, hts⟩ (mc_RiscHartModel_half l hP a4 (in_at0 c_12 c_15) (in_at1 c_12 c_15)) (cwV 1 hts (mk_gV tw_661 tw_663 tw_35 tw_48 tw_664) rfl rfl rfl hdMod_half ⟨Nat.le_of_ble_eq_true rfl, Nat.le_of_ble_eq_true rfl⟩) (mk_preVK hK (va_recv hK hP (ci := 2) (q0 := 0) rfl rfl)) rfl rfl hl.1 rfl (lv_room (Nat.le_of_ble_eq_true rfl)) dMod_atomic_139 ⟨Nat.zero_le _, Nat.zero_le _⟩) ?_
                  refine lv_aload_n hx hb dMod_atomic_142 rfl (lv_at hl 0 rfl) ?_
                  refine lv_iload hx hb dMod_atomic_143 (lv_at hl 4 rfl) ?_
                  refine lv_iconst (v := 2) hx hb dMod_atomic_145 (by decide) ?_
                  refine lv_iadd hx hb dMod_atomic_146 ?_
                  refine mk_callR (va_runV (As := [.int (a4 + 2)]) (rest := [.int (mf_RiscHartModel_half st a4)]) ⟨hx, hb, hml, hown, hts⟩ (mc_RiscHartModel_half l hP (a4 + 2) (in_at2 c_12 c_15) (in_at3 c_12 c_15)) (cwV 1 hts (mk_gV tw_661 tw_663 tw_35 tw_48 tw_664) rfl rfl rfl hdMod_half ⟨Nat.le_of_ble_eq_true rfl, Nat.le_of_ble_eq_true rfl⟩) (mk_preVK hK (va_recv hK hP (ci := 2) (q0 := 0) rfl rfl)) rfl rfl hl.1 rfl (lv_room (Nat.le_of_ble_eq_true rfl)) dMod_atomic_147 ⟨Nat.zero_le _, Nat.zero_le _⟩) ?_
                  refine lv_bipush (v := 16) hx hb dMod_atomic_150 (by decide) ?_
                  refine lv_ishl hx hb dMod_atomic_152 ?_
                  refine lv_ior hx hb dMod_atomic_153 ?_
                  refine lv_istore (lv' := [(7, .int ((mf_RiscHartModel_half st a4) ||| ((mf_RiscHartModel_half st (a4 + 2)) <<< (16 &&& 31)))), (0, .ref m0), (1, .int a1), (2, .int a2), (3, .int a3), (4, .int a4), (5, .int a5), (6, .int v6)]) hx hb dMod_atomic_154 hl (by decide) rfl (fun ls hl => ?_)
                  refine lv_iload_n hx hb dMod_atomic_156 rfl (lv_at hl 4 rfl) ?_
                  refine lv_iconst (v := 2) hx hb dMod_atomic_157 (by decide) ?_
                  refine lv_icmp_ne (tgt := 170) hx hb dMod_atomic_158 (by decide) (fun c_16 => ?_) (fun c_16 => ?_)
                  · refine lv_aload_n hx hb dMod_atomic_170 rfl (lv_at hl 1 rfl) ?_
                    refine va_get (D := D) (ci := 2) (v := .int (ms_reserved st)) (C := RMod) (T := TMod) (N := 14) hx hb hg inMod hown hK hP 0 rfl rfl 7 (by decide) (hg _ tw_564) (fun _ h9 => h9) rfl dMod_atomic_171 ?_
                    refine lv_iload hx hb dMod_atomic_174 (lv_at hl 5 rfl) ?_
                    refine lv_icmp_ne (tgt := 183) hx hb dMod_atomic_176 (by decide) (fun c_17 => ?_) (fun c_17 => ?_)
                    · refine lv_iconst (v := 0) hx hb dMod_atomic_183 (by decide) ?_
                      refine lv_istore (lv' := [(8, .int 0), (7, .int ((mf_RiscHartModel_half st a4) ||| ((mf_RiscHartModel_half st (a4 + 2)) <<< (16 &&& 31)))), (0, .ref m0), (1, .int a1), (2, .int a2), (3, .int a3), (4, .int a4), (5, .int a5), (6, .int v6)]) hx hb dMod_atomic_184 hl (by decide) rfl (fun ls hl => ?_)
                      exact tail_186 ls v6 ((mf_RiscHartModel_half st a4) ||| ((mf_RiscHartModel_half st (a4 + 2)) <<< (16 &&& 31))) 0 (hv48.trans (by unfold mf_RiscHartModel_atomic_t48; rw [if_pos c_9, if_neg c_10, if_neg c_11, if_pos c_12, if_neg c_14, if_neg c_15, if_neg c_17])) (lv_sub hl [2, 3, 4, 5, 6, 7, 8, 1, 0] rfl)
                    · refine lv_iconst (v := 1) hx hb dMod_atomic_179 (by decide) ?_
                      refine lv_goto (tgt := 184) hx hb dMod_atomic_180 (by decide) ?_
                      refine lv_istore (lv' := [(8, .int 1), (7, .int ((mf_RiscHartModel_half st a4) ||| ((mf_RiscHartModel_half st (a4 + 2)) <<< (16 &&& 31)))), (0, .ref m0), (1, .int a1), (2, .int a2), (3, .int a3), (4, .int a4), (5, .int a5), (6, .int v6)]) hx hb dMod_atomic_184 hl (by decide) rfl (fun ls hl => ?_)
                      exact tail_186 ls v6 ((mf_RiscHartModel_half st a4) ||| ((mf_RiscHartModel_half st (a4 + 2)) <<< (16 &&& 31))) 1 (hv48.trans (by unfold mf_RiscHartModel_atomic_t48; rw [if_pos c_9, if_neg c_10, if_neg c_11, if_pos c_12, if_neg c_14, if_neg c_15, if_pos c_17])) (lv_sub hl [2, 3, 4, 5, 6, 7, 8, 1, 0] rfl)
                  · exact absurd c_16 c_11
                · refine lv_aload_n hx hb dMod_atomic_127 rfl (lv_at hl 0 rfl) ?_
                  refine lv_bipush (v := 6) hx hb dMod_atomic_128 (by decide) ?_
                  refine lv_iload hx hb dMod_atomic_130 (lv_at hl 4 rfl) ?_
                  refine mk_callW (va_runV (As := [.int 6, .int a4]) (rest := []) ⟨hx, hb, hml, hown, hts⟩ (mc_RiscHartModel_trap l hP hD 6 a4) (cwV 2 hts (mk_gV tw_657 tw_659 tw_34 tw_48 tw_660) rfl rfl rfl hdMod_trap ⟨Nat.le_of_ble_eq_true rfl, Nat.le_of_ble_eq_true rfl⟩) (mk_preVK hK (va_recv hK hP (ci := 2) (q0 := 0) rfl rfl)) rfl rfl hl.1 rfl (lv_room (Nat.le_of_ble_eq_true rfl)) dMod_atomic_132 ⟨Nat.zero_le _, Nat.zero_le _⟩) hS (fun H locs hP hS => ?_)
                  exact W.iret hx hb hr (fun t ht hW => ⟨⟨_, (mf_RiscHartModel_trap st 6 a4).2, rfl, (by rw [hv48]; unfold mf_RiscHartModel_atomic_t48; rw [if_pos c_9, if_neg c_10, if_neg c_11, if_pos c_12, if_neg c_14, if_pos c_15]), by show va_P D hcl _ t.heap; rw [ht]; exact hP⟩, hS.F ht⟩) hS.2.2 dMod_atomic_135
              · refine lv_aload_n hx hb dMod_atomic_108 rfl (lv_at hl 0 rfl) ?_
                refine lv_bipush (v := 7) hx hb dMod_atomic_109 (by decide) ?_
                refine lv_iload hx hb dMod_atomic_111 (lv_at hl 4 rfl) ?_
                refine mk_callW (va_runV (As := [.int 7, .int a4]) (rest := []) ⟨hx, hb, hml, hown, hts⟩ (mc_RiscHartModel_trap l hP hD 7 a4) (cwV 2 hts (mk_gV tw_657 tw_659 tw_34 tw_48 tw_660) rfl rfl rfl hdMod_trap ⟨Nat.le_of_ble_eq_true rfl, Nat.le_of_ble_eq_true rfl⟩) (mk_preVK hK (va_recv hK hP (ci := 2) (q0 := 0) rfl rfl)) rfl rfl hl.1 rfl (lv_room (Nat.le_of_ble_eq_true rfl)) dMod_atomic_113 ⟨Nat.zero_le _, Nat.zero_le _⟩) hS (fun H locs hP hS => ?_)
                exact W.iret hx hb hr (fun t ht hW => ⟨⟨_, (mf_RiscHartModel_trap st 7 a4).2, rfl, (by rw [hv48]; unfold mf_RiscHartModel_atomic_t48; rw [if_pos c_9, if_neg c_10, if_neg c_11, if_pos c_12, if_pos c_14]), by show va_P D hcl _ t.heap; rw [ht]; exact hP⟩, hS.F ht⟩) hS.2.2 dMod_atomic_116
          · refine lv_aload_n hx hb dMod_atomic_85 rfl (lv_at hl 0 rfl) ?_
            refine lv_iconst (v := 5) hx hb dMod_atomic_86 (by decide) ?_
            refine lv_iload hx hb dMod_atomic_87 (lv_at hl 4 rfl) ?_
            refine mk_callW (va_runV (As := [.int 5, .int a4]) (rest := []) ⟨hx, hb, hml, hown, hts⟩ (mc_RiscHartModel_trap l hP hD 5 a4) (cwV 2 hts (mk_gV tw_657 tw_659 tw_34 tw_48 tw_660) rfl rfl rfl hdMod_trap ⟨Nat.le_of_ble_eq_true rfl, Nat.le_of_ble_eq_true rfl⟩) (mk_preVK hK (va_recv hK hP (ci := 2) (q0 := 0) rfl rfl)) rfl rfl hl.1 rfl (lv_room (Nat.le_of_ble_eq_true rfl)) dMod_atomic_89 ⟨Nat.zero_le _, Nat.zero_le _⟩) hS (fun H locs hP hS => ?_)
            exact W.iret hx hb hr (fun t ht hW => ⟨⟨_, (mf_RiscHartModel_trap st 5 a4).2, rfl, (by rw [hv48]; unfold mf_RiscHartModel_atomic_t48; rw [if_pos c_9, if_neg c_10, if_neg c_11, if_neg c_12]), by show va_P D hcl _ t.heap; rw [ht]; exact hP⟩, hS.F ht⟩) hS.2.2 dMod_atomic_92
        · refine lv_iload_n hx hb dMod_atomic_63 rfl (lv_at hl 1 rfl) ?_
          refine lv_bipush (v := 20) hx hb dMod_atomic_64 (by decide) ?_
          refine lv_iconst (v := 5) hx hb dMod_atomic_66 (by decide) ?_
          refine mk_callR (va_runS (As := [.int a1, .int 20, .int 5]) (rest := []) ⟨hx, hb, hml, hown, hts⟩ (mc_RiscHartModel_part l _ a1 20 5) (va_cwS 3 hts (mk_gS tw_668 tw_669 tw_48 tw_670) rfl rfl rfl hdMod_part.2 ⟨Nat.le_of_ble_eq_true rfl, Nat.le_of_ble_eq_true rfl⟩) mk_preS rfl rfl hl.1 rfl (lv_room (Nat.le_of_ble_eq_true rfl)) dMod_atomic_67 ⟨Nat.zero_le _, Nat.zero_le _⟩) ?_
          refine lv_if_le (tgt := 78) hx hb dMod_atomic_70 (by decide) (fun c_18 => ?_) (fun c_18 => ?_)
          · refine lv_iload hx hb dMod_atomic_78 (lv_at hl 4 rfl) ?_
            refine lv_iconst (v := 4) hx hb dMod_atomic_80 (by decide) ?_
            refine lv_irem hx hb dMod_atomic_81 (by decide) ?_
            refine lv_if_eq (tgt := 93) hx hb dMod_atomic_82 (by decide) (fun c_19 => ?_) (fun c_19 => ?_)
            · refine lv_iload_n hx hb dMod_atomic_93 rfl (lv_at hl 3 rfl) ?_
              refine lv_iconst (v := 2) hx hb dMod_atomic_94 (by decide) ?_
              refine lv_icmp_eq (tgt := 117) hx hb dMod_atomic_95 (by decide) (fun c_20 => ?_) (fun c_20 => ?_)
              · refine lv_aload_n hx hb dMod_atomic_117 rfl (lv_at hl 0 rfl) ?_
                refine lv_iload hx hb dMod_atomic_118 (lv_at hl 4 rfl) ?_
                refine lv_iconst (v := 1) hx hb dMod_atomic_120 (by decide) ?_
                refine mk_callR (va_runV (As := [.int a4, .int 1]) (rest := []) ⟨hx, hb, hml, hown, hts⟩ (mc_RiscHartModel_may l hP a4 1) (cwV 2 hts (mk_gV tw_653 tw_655 tw_33 tw_48 tw_656) rfl rfl rfl hdMod_may ⟨Nat.le_of_ble_eq_true rfl, Nat.le_of_ble_eq_true rfl⟩) (mk_preVK hK (va_recv hK hP (ci := 2) (q0 := 0) rfl rfl)) rfl rfl hl.1 rfl (lv_room (Nat.le_of_ble_eq_true rfl)) dMod_atomic_121 ⟨Nat.zero_le _, Nat.zero_le _⟩) ?_
                refine lv_if_ne (tgt := 136) hx hb dMod_atomic_124 (by decide) (fun c_21 => ?_) (fun c_21 => ?_)
                · refine lv_aload_n hx hb dMod_atomic_136 rfl (lv_at hl 0 rfl) ?_
                  refine lv_iload hx hb dMod_atomic_137 (lv_at hl 4 rfl) ?_
                  refine mk_callR (va_runV (As := [.int a4]) (rest := []) ⟨hx, hb, hml, hown, hts⟩ (mc_RiscHartModel_half l hP a4 (in_at0 c_19 c_21) (in_at1 c_19 c_21)) (cwV 1 hts (mk_gV tw_661 tw_663 tw_35 tw_48 tw_664) rfl rfl rfl hdMod_half ⟨Nat.le_of_ble_eq_true rfl, Nat.le_of_ble_eq_true rfl⟩) (mk_preVK hK (va_recv hK hP (ci := 2) (q0 := 0) rfl rfl)) rfl rfl hl.1 rfl (lv_room (Nat.le_of_ble_eq_true rfl)) dMod_atomic_139 ⟨Nat.zero_le _, Nat.zero_le _⟩) ?_
                  refine lv_aload_n hx hb dMod_atomic_142 rfl (lv_at hl 0 rfl) ?_
                  refine lv_iload hx hb dMod_atomic_143 (lv_at hl 4 rfl) ?_
                  refine lv_iconst (v := 2) hx hb dMod_atomic_145 (by decide) ?_
                  refine lv_iadd hx hb dMod_atomic_146 ?_
                  refine mk_callR (va_runV (As := [.int (a4 + 2)]) (rest := [.int (mf_RiscHartModel_half st a4)]) ⟨hx, hb, hml, hown, hts⟩ (mc_RiscHartModel_half l hP (a4 + 2) (in_at2 c_19 c_21) (in_at3 c_19 c_21)) (cwV 1 hts (mk_gV tw_661 tw_663 tw_35 tw_48 tw_664) rfl rfl rfl hdMod_half ⟨Nat.le_of_ble_eq_true rfl, Nat.le_of_ble_eq_true rfl⟩) (mk_preVK hK (va_recv hK hP (ci := 2) (q0 := 0) rfl rfl)) rfl rfl hl.1 rfl (lv_room (Nat.le_of_ble_eq_true rfl)) dMod_atomic_147 ⟨Nat.zero_le _, Nat.zero_le _⟩) ?_
                  refine lv_bipush (v := 16) hx hb dMod_atomic_150 (by decide) ?_
                  refine lv_ishl hx hb dMod_atomic_152 ?_
                  refine lv_ior hx hb dMod_atomic_153 ?_
                  refine lv_istore (lv' := [(7, .int ((mf_RiscHartModel_half st a4) ||| ((mf_RiscHartModel_half st (a4 + 2)) <<< (16 &&& 31)))), (0, .ref m0), (1, .int a1), (2, .int a2), (3, .int a3), (4, .int a4), (5, .int a5), (6, .int v6)]) hx hb dMod_atomic_154 hl (by decide) rfl (fun ls hl => ?_)
                  refine lv_iload_n hx hb dMod_atomic_156 rfl (lv_at hl 4 rfl) ?_
                  refine lv_iconst (v := 2) hx hb dMod_atomic_157 (by decide) ?_
                  refine lv_icmp_ne (tgt := 170) hx hb dMod_atomic_158 (by decide) (fun c_22 => ?_) (fun c_22 => ?_)
                  · exact absurd c_11 c_22
                  · refine lv_aload_n hx hb dMod_atomic_161 rfl (lv_at hl 1 rfl) ?_
                    refine lv_iload hx hb dMod_atomic_162 (lv_at hl 5 rfl) ?_
                    refine va_put (D := D) (ci := 2) (v := .int a4) (ty := .int) (C := RMod) (T := TMod) (N := 14) hx hb hg inMod tyMod tyMod_ok nmMod hown hK hP (hD _) hS 0 rfl rfl 7 (by decide) (hg _ tw_564) (fun _ h9 => h9) rfl (by decide +kernel) rfl rfl (Nat.le_of_ble_eq_true rfl) dMod_atomic_164 (fun H locs hP _ hS => ?_)
                    have hP : va_P D hcl (ms_W cB cO cX m0 m1 m2 m3 (ms_set_reserved st a4)) H := hP
                    refine lv_iload hx hb dMod_atomic_167 (lv_at hl 0 rfl) ?_
                    exact W.iret hx hb hr (fun t ht hW => ⟨⟨_, (ms_set_reserved st a4), rfl, (by rw [hv48]; unfold mf_RiscHartModel_atomic_t48; rw [if_pos c_9, if_neg c_10, if_pos c_11, if_pos c_18, if_pos c_19, if_neg c_21]), by show va_P D hcl _ t.heap; rw [ht]; exact hP⟩, hS.F ht⟩) hS.2.2 dMod_atomic_169
                · refine lv_aload_n hx hb dMod_atomic_127 rfl (lv_at hl 0 rfl) ?_
                  refine lv_bipush (v := 6) hx hb dMod_atomic_128 (by decide) ?_
                  refine lv_iload hx hb dMod_atomic_130 (lv_at hl 4 rfl) ?_
                  refine mk_callW (va_runV (As := [.int 6, .int a4]) (rest := []) ⟨hx, hb, hml, hown, hts⟩ (mc_RiscHartModel_trap l hP hD 6 a4) (cwV 2 hts (mk_gV tw_657 tw_659 tw_34 tw_48 tw_660) rfl rfl rfl hdMod_trap ⟨Nat.le_of_ble_eq_true rfl, Nat.le_of_ble_eq_true rfl⟩) (mk_preVK hK (va_recv hK hP (ci := 2) (q0 := 0) rfl rfl)) rfl rfl hl.1 rfl (lv_room (Nat.le_of_ble_eq_true rfl)) dMod_atomic_132 ⟨Nat.zero_le _, Nat.zero_le _⟩) hS (fun H locs hP hS => ?_)
                  exact W.iret hx hb hr (fun t ht hW => ⟨⟨_, (mf_RiscHartModel_trap st 6 a4).2, rfl, (by rw [hv48]; unfold mf_RiscHartModel_atomic_t48; rw [if_pos c_9, if_neg c_10, if_pos c_11, if_pos c_18, if_pos c_19, if_pos c_21]), by show va_P D hcl _ t.heap; rw [ht]; exact hP⟩, hS.F ht⟩) hS.2.2 dMod_atomic_135
              · exact absurd c_11 c_20
            · refine lv_aload_n hx hb dMod_atomic_85 rfl (lv_at hl 0 rfl) ?_
              refine lv_iconst (v := 5) hx hb dMod_atomic_86 (by decide) ?_
              refine lv_iload hx hb dMod_atomic_87 (lv_at hl 4 rfl) ?_
              refine mk_callW (va_runV (As := [.int 5, .int a4]) (rest := []) ⟨hx, hb, hml, hown, hts⟩ (mc_RiscHartModel_trap l hP hD 5 a4) (cwV 2 hts (mk_gV tw_657 tw_659 tw_34 tw_48 tw_660) rfl rfl rfl hdMod_trap ⟨Nat.le_of_ble_eq_true rfl, Nat.le_of_ble_eq_true rfl⟩) (mk_preVK hK (va_recv hK hP (ci := 2) (q0 := 0) rfl rfl)) rfl rfl hl.1 rfl (lv_room (Nat.le_of_ble_eq_true rfl)) dMod_atomic_89 ⟨Nat.zero_le _, Nat.zero_le _⟩) hS (fun H locs hP hS => ?_)
              exact W.iret hx hb hr (fun t ht hW => ⟨⟨_, (mf_RiscHartModel_trap st 5 a4).2, rfl, (by rw [hv48]; unfold mf_RiscHartModel_atomic_t48; rw [if_pos c_9, if_neg c_10, if_pos c_11, if_pos c_18, if_neg c_19]), by show va_P D hcl _ t.heap; rw [ht]; exact hP⟩, hS.F ht⟩) hS.2.2 dMod_atomic_92
          · refine lv_aload_n hx hb dMod_atomic_73 rfl (lv_at hl 0 rfl) ?_
            refine mk_callW (va_runV (As := []) (rest := []) ⟨hx, hb, hml, hown, hts⟩ (mc_RiscHartModel_illegal l hP hD) (cwV 0 hts (mk_gV tw_705 tw_707 tw_36 tw_48 tw_708) rfl rfl rfl hdMod_illegal ⟨Nat.le_of_ble_eq_true rfl, Nat.le_of_ble_eq_true rfl⟩) (mk_preVK hK (va_recv hK hP (ci := 2) (q0 := 0) rfl rfl)) rfl rfl hl.1 rfl (lv_room (Nat.le_of_ble_eq_true rfl)) dMod_atomic_74 ⟨Nat.zero_le _, Nat.zero_le _⟩) hS (fun H locs hP hS => ?_)
            exact W.iret hx hb hr (fun t ht hW => ⟨⟨_, (mf_RiscHartModel_illegal st).2, rfl, (by rw [hv48]; unfold mf_RiscHartModel_atomic_t48; rw [if_pos c_9, if_neg c_10, if_pos c_11, if_neg c_18]), by show va_P D hcl _ t.heap; rw [ht]; exact hP⟩, hS.F ht⟩) hS.2.2 dMod_atomic_77
  refine lv_iload_n hx hb dMod_atomic_0 rfl (lv_at hl 3 rfl) ?_
  refine lv_iconst (v := 5) hx hb dMod_atomic_1 (by decide) ?_
  refine lv_icmp_lt (tgt := 41) hx hb dMod_atomic_2 (by decide) (fun c_23 => ?_) (fun c_23 => ?_)
  · refine lv_iconst (v := 1) hx hb dMod_atomic_41 (by decide) ?_
    refine lv_goto (tgt := 46) hx hb dMod_atomic_42 (by decide) ?_
    refine lv_istore (lv' := [(6, .int 1), (0, .ref m0), (1, .int a1), (2, .int a2), (3, .int a3), (4, .int a4), (5, .int a5)]) hx hb dMod_atomic_46 hl (by decide) rfl (fun ls hl => ?_)
    exact tail_48 ls 1 (by unfold mf_RiscHartModel_atomic; rw [if_pos c_23]) (lv_sub hl [1, 2, 3, 4, 5, 6, 0] rfl)
  · refine lv_iload_n hx hb dMod_atomic_5 rfl (lv_at hl 3 rfl) ?_
    refine lv_bipush (v := 8) hx hb dMod_atomic_6 (by decide) ?_
    refine lv_icmp_eq (tgt := 41) hx hb dMod_atomic_8 (by decide) (fun c_24 => ?_) (fun c_24 => ?_)
    · refine lv_iconst (v := 1) hx hb dMod_atomic_41 (by decide) ?_
      refine lv_goto (tgt := 46) hx hb dMod_atomic_42 (by decide) ?_
      refine lv_istore (lv' := [(6, .int 1), (0, .ref m0), (1, .int a1), (2, .int a2), (3, .int a3), (4, .int a4), (5, .int a5)]) hx hb dMod_atomic_46 hl (by decide) rfl (fun ls hl => ?_)
      exact tail_48 ls 1 (by unfold mf_RiscHartModel_atomic; rw [if_neg c_23, if_pos c_24]) (lv_sub hl [1, 2, 3, 4, 5, 6, 0] rfl)
    · refine lv_iload_n hx hb dMod_atomic_11 rfl (lv_at hl 3 rfl) ?_
      refine lv_bipush (v := 12) hx hb dMod_atomic_12 (by decide) ?_
      refine lv_icmp_eq (tgt := 41) hx hb dMod_atomic_14 (by decide) (fun c_25 => ?_) (fun c_25 => ?_)
      · refine lv_iconst (v := 1) hx hb dMod_atomic_41 (by decide) ?_
        refine lv_goto (tgt := 46) hx hb dMod_atomic_42 (by decide) ?_
        refine lv_istore (lv' := [(6, .int 1), (0, .ref m0), (1, .int a1), (2, .int a2), (3, .int a3), (4, .int a4), (5, .int a5)]) hx hb dMod_atomic_46 hl (by decide) rfl (fun ls hl => ?_)
        exact tail_48 ls 1 (by unfold mf_RiscHartModel_atomic; rw [if_neg c_23, if_neg c_24, if_pos c_25]) (lv_sub hl [1, 2, 3, 4, 5, 6, 0] rfl)
      · refine lv_iload_n hx hb dMod_atomic_17 rfl (lv_at hl 3 rfl) ?_
        refine lv_bipush (v := 16) hx hb dMod_atomic_18 (by decide) ?_
        refine lv_icmp_eq (tgt := 41) hx hb dMod_atomic_20 (by decide) (fun c_26 => ?_) (fun c_26 => ?_)
        · refine lv_iconst (v := 1) hx hb dMod_atomic_41 (by decide) ?_
          refine lv_goto (tgt := 46) hx hb dMod_atomic_42 (by decide) ?_
          refine lv_istore (lv' := [(6, .int 1), (0, .ref m0), (1, .int a1), (2, .int a2), (3, .int a3), (4, .int a4), (5, .int a5)]) hx hb dMod_atomic_46 hl (by decide) rfl (fun ls hl => ?_)
          exact tail_48 ls 1 (by unfold mf_RiscHartModel_atomic; rw [if_neg c_23, if_neg c_24, if_neg c_25, if_pos c_26]) (lv_sub hl [1, 2, 3, 4, 5, 6, 0] rfl)
        · refine lv_iload_n hx hb dMod_atomic_23 rfl (lv_at hl 3 rfl) ?_
          refine lv_bipush (v := 20) hx hb dMod_atomic_24 (by decide) ?_
          refine lv_icmp_eq (tgt := 41) hx hb dMod_atomic_26 (by decide) (fun c_27 => ?_) (fun c_27 => ?_)
          · refine lv_iconst (v := 1) hx hb dMod_atomic_41 (by decide) ?_
            refine lv_goto (tgt := 46) hx hb dMod_atomic_42 (by decide) ?_
            refine lv_istore (lv' := [(6, .int 1), (0, .ref m0), (1, .int a1), (2, .int a2), (3, .int a3), (4, .int a4), (5, .int a5)]) hx hb dMod_atomic_46 hl (by decide) rfl (fun ls hl => ?_)
            exact tail_48 ls 1 (by unfold mf_RiscHartModel_atomic; rw [if_neg c_23, if_neg c_24, if_neg c_25, if_neg c_26, if_pos c_27]) (lv_sub hl [1, 2, 3, 4, 5, 6, 0] rfl)
          · refine lv_iload_n hx hb dMod_atomic_29 rfl (lv_at hl 3 rfl) ?_
            refine lv_bipush (v := 24) hx hb dMod_atomic_30 (by decide) ?_
            refine lv_icmp_eq (tgt := 41) hx hb dMod_atomic_32 (by decide) (fun c_28 => ?_) (fun c_28 => ?_)
            · refine lv_iconst (v := 1) hx hb dMod_atomic_41 (by decide) ?_
              refine lv_goto (tgt := 46) hx hb dMod_atomic_42 (by decide) ?_
              refine lv_istore (lv' := [(6, .int 1), (0, .ref m0), (1, .int a1), (2, .int a2), (3, .int a3), (4, .int a4), (5, .int a5)]) hx hb dMod_atomic_46 hl (by decide) rfl (fun ls hl => ?_)
              exact tail_48 ls 1 (by unfold mf_RiscHartModel_atomic; rw [if_neg c_23, if_neg c_24, if_neg c_25, if_neg c_26, if_neg c_27, if_pos c_28]) (lv_sub hl [1, 2, 3, 4, 5, 6, 0] rfl)
            · refine lv_iload_n hx hb dMod_atomic_35 rfl (lv_at hl 3 rfl) ?_
              refine lv_bipush (v := 28) hx hb dMod_atomic_36 (by decide) ?_
              refine lv_icmp_ne (tgt := 45) hx hb dMod_atomic_38 (by decide) (fun c_29 => ?_) (fun c_29 => ?_)
              · refine lv_iconst (v := 0) hx hb dMod_atomic_45 (by decide) ?_
                refine lv_istore (lv' := [(6, .int 0), (0, .ref m0), (1, .int a1), (2, .int a2), (3, .int a3), (4, .int a4), (5, .int a5)]) hx hb dMod_atomic_46 hl (by decide) rfl (fun ls hl => ?_)
                exact tail_48 ls 0 (by unfold mf_RiscHartModel_atomic; rw [if_neg c_23, if_neg c_24, if_neg c_25, if_neg c_26, if_neg c_27, if_neg c_28, if_neg c_29]) (lv_sub hl [1, 2, 3, 4, 5, 6, 0] rfl)
              · refine lv_iconst (v := 1) hx hb dMod_atomic_41 (by decide) ?_
                refine lv_goto (tgt := 46) hx hb dMod_atomic_42 (by decide) ?_
                refine lv_istore (lv' := [(6, .int 1), (0, .ref m0), (1, .int a1), (2, .int a2), (3, .int a3), (4, .int a4), (5, .int a5)]) hx hb dMod_atomic_46 hl (by decide) rfl (fun ls hl => ?_)
                exact tail_48 ls 1 (by unfold mf_RiscHartModel_atomic; rw [if_neg c_23, if_neg c_24, if_neg c_25, if_neg c_26, if_neg c_27, if_neg c_28, if_pos c_29]) (lv_sub hl [1, 2, 3, 4, 5, 6, 0] rfl)
set_option maxHeartbeats 4000000 in
set_option maxRecDepth 100000 in
theorem mc_RiscHartModel_system (l : Launch) {D : va_G} {cB cO cX : ClassId} {m0 m1 m2 m3 : Nat} {A : Nat → Prop} {st : MS} {G : Heap} (hP : va_P D hcl (ms_W cB cO cX m0 m1 m2 m3 st) G) (hD : ∀ z, va_D A (ms_W cB cO cX m0 m1 m2 m3 z)) (a1 : Int32) (a2 : Int32)  : Met l yMod_system (wq yMod_system cMod_system 7 (some .int)) ({ frames := 2, cells := 0, slots := 0, locals := 42 }) (mk_PK D hcl [(cB, .int), (cO, .int), (cX, .int)] G [.ref m0, .int a1, .int a2]) (mk_Wi (fun u t => va_P D hcl (ms_W cB cO cX m0 m1 m2 m3 u) t) A (mf_RiscHartModel_system st a1 a2)) 0 0 A := by
  refine Met.ofW (cc := cMod_system) (maxL := 7) (ret := (some .int)) (by decide) rfl ?_
  intro p e s m args below meth c s₁ B hml hv
  obtain ⟨rfl, hG, hK⟩ := hv
  subst hG
  have hx := B.exec
  have hb := B.bytes
  have hr := B.returns
  have hts := atoms_spec (ws := (wq yMod_system cMod_system 7 (some .int))) B.pre
  have hown : s.vm.findClass RMod = some m.cls := findClass_of_methodNamed B.named
  have hlocks := B.notSynchronized
  have hg : ∀ w ∈ lw_g, w.before _ s = true := fun w h => hts w (List.mem_cons_of_mem _ h)
  have hS : va_S A s.heap s.heap [] := va_S.rf
  have hl := lv_entry ([.ref m0, .int a1, .int a2]) (n := 7) (Nat.le_of_ble_eq_true rfl)
  rw [lg_entry_eq]
  generalize (lg_sl ([.ref m0, .int a1, .int a2]) ++ List.replicate (7 - (lg_sl ([.ref m0, .int a1, .int a2])).length) Slot.unset).toArray = ls at hl ⊢
  have hl : lv_has ls 7 [(0, .ref m0), (1, .int a1), (2, .int a2)] := hl
  have tail_130 : ∀ (ls : Array Slot) (v3 : Int32) (v4 : Int32) (v5 : Int64), mf_RiscHartModel_system st a1 a2 = mf_RiscHartModel_system_t130 st a1 a2 v3 v4 v5 → lv_has ls 7 [(0, .ref m0), (1, .int a1), (2, .int a2), (3, .int v3), (4, .int v4), (5, .long v5)] → W p l e (headSpec (wq yMod_system cMod_system 7 (some .int)) ({ frames := 2, cells := 0, slots := 0, locals := 42 })).room s m ([.ref m0, .int a1, .int a2] : List Value).toArray below meth c s.heap [] 0 0 (MQ below (mk_Wi (fun u t => va_P D hcl (ms_W cB cO cX m0 m1 m2 m3 u) t) A (mf_RiscHartModel_system st a1 a2)) ([.ref m0, .int a1, .int a2] : List Value).toArray s 0 0 A) (F0 m 130 ls []) := by
    intro ls v3 v4 v5 hv130 hl
    refine lv_iload hx hb dMod_system_130 (lv_at hl 4 rfl) ?_
    refine lv_if_eq (tgt := 156) hx hb dMod_system_132 (by decide) (fun c_1 => ?_) (fun c_1 => ?_)
    · refine lv_aload_n hx hb dMod_system_156 rfl (lv_at hl 0 rfl) ?_
      refine mk_callW (va_runV (As := []) (rest := []) ⟨hx, hb, hml, hown, hts⟩ (mc_RiscHartModel_illegal l hP hD) (cwV 0 hts (mk_gV tw_705 tw_707 tw_36 tw_48 tw_708) rfl rfl rfl hdMod_illegal ⟨Nat.le_of_ble_eq_true rfl, Nat.le_of_ble_eq_true rfl⟩) (mk_preVK hK (va_recv hK hP (ci := 2) (q0 := 0) rfl rfl)) rfl rfl hl.1 rfl (lv_room (Nat.le_of_ble_eq_true rfl)) dMod_system_157 ⟨Nat.zero_le _, Nat.zero_le _⟩) hS (fun H locs hP hS => ?_)
      exact W.iret hx hb hr (fun t ht hW => ⟨⟨_, (mf_RiscHartModel_illegal st).2, rfl, (by rw [hv130]; unfold mf_RiscHartModel_system_t130; rw [if_pos c_1]), by show va_P D hcl _ t.heap; rw [ht]; exact hP⟩, hS.F ht⟩) hS.2.2 dMod_system_160
    · refine lv_iload_n hx hb dMod_system_135 rfl (lv_at hl 3 rfl) ?_
      refine lv_sipush (v := 3200) hx hb dMod_system_136 (by decide) ?_
      refine lv_icmp_ge (tgt := 147) hx hb dMod_system_139 (by decide) (fun c_2 => ?_) (fun c_2 => ?_)
      · refine lv_lload hx hb dMod_system_147 (lv_at hl 5 rfl) ?_
        refine lv_bipush (v := 32) hx hb dMod_system_149 (by decide) ?_
        refine lv_lshr (v := (ja_lshr v5 32)) hx hb dMod_system_151 rfl ?_
        refine lv_l2i (v := (ja_lshr v5 32).toInt32) hx hb dMod_system_152 rfl ?_
        refine lv_goto (tgt := 160) hx hb dMod_system_153 (by decide) ?_
        exact W.iret hx hb hr (fun t ht hW => ⟨⟨_, st, rfl, (by rw [hv130]; unfold mf_RiscHartModel_system_t130; rw [if_neg c_1, if_pos c_2]), by show va_P D hcl _ t.heap; rw [ht]; exact hP⟩, hS.F ht⟩) hS.2.2 dMod_system_160
      · refine lv_lload hx hb dMod_system_142 (lv_at hl 5 rfl) ?_
        refine lv_goto (tgt := 152) hx hb dMod_system_144 (by decide) ?_
        refine lv_l2i (v := v5.toInt32) hx hb dMod_system_152 rfl ?_
        refine lv_goto (tgt := 160) hx hb dMod_system_153 (by decide) ?_
        exact W.iret hx hb hr (fun t ht hW => ⟨⟨_, st, rfl, (by rw [hv130]; unfold mf_RiscHartModel_system_t130; rw [if_neg c_1, if_neg c_2]), by show va_P D hcl _ t.heap; rw [ht]; exact hP⟩, hS.F ht⟩) hS.2.2 dMod_system_160
  have tail_110 : ∀ (ls : Array Slot) (v3 : Int32) (v4 : Int32), mf_RiscHartModel_system st a1 a2 = mf_RiscHartModel_system_t110 st a1 a2 v3 v4 → lv_has ls 7 [(0, .ref m0), (1, .int a1), (2, .int a2), (3, .int v3), (4, .int v4)] → W p l e (headSpec (wq yMod_system cMod_system 7 (some .int)) ({ frames := 2, cells := 0, slots := 0, locals := 42 })).room s m ([.ref m0, .int a1, .int a2] : List Value).toArray below meth c s.heap [] 0 0 (MQ below (mk_Wi (fun u t => va_P D hcl (ms_W cB cO cX m0 m1 m2 m3 u) t) A (mf_RiscHartModel_system st a1 a2)) ([.ref m0, .int a1, .int a2] : List Value).toArray s 0 0 A) (F0 m 110 ls []) := by
    intro ls v3 v4 hv110 hl
    refine lv_iload_n hx hb dMod_system_110 rfl (lv_at hl 3 rfl) ?_
    refine lv_iconst (v := 3) hx hb dMod_system_111 (by decide) ?_
    refine lv_iand hx hb dMod_system_112 ?_
    refine lv_iconst (v := 1) hx hb dMod_system_113 (by decide) ?_
    refine lv_icmp_ne (tgt := 124) hx hb dMod_system_114 (by decide) (fun c_3 => ?_) (fun c_3 => ?_)
    · refine lv_aload_n hx hb dMod_system_124 rfl (lv_at hl 0 rfl) ?_
      refine va_get (D := D) (ci := 2) (v := .long (ms_retired st)) (C := RMod) (T := TMod) (N := 14) hx hb hg inMod hown hK hP 0 rfl rfl 8 (by decide) (hg _ tw_565) (fun _ h9 => h9) rfl dMod_system_125 ?_
      refine lv_lstore (lv' := [(5, .long (ms_retired st)), (0, .ref m0), (1, .int a1), (2, .int a2), (3, .int v3), (4, .int v4)]) hx hb dMod_system_128 hl (by decide) rfl (fun ls hl => ?_)
      exact tail_130 ls v3 v4 (ms_retired st) (hv110.trans (by unfold mf_RiscHartModel_system_t110; rw [if_neg c_3])) (lv_sub hl [1, 2, 3, 4, 5, 0] rfl)
    · refine lv_aload_n hx hb dMod_system_117 rfl (lv_at hl 0 rfl) ?_
      refine va_get (D := D) (ci := 2) (v := .long (ms_clock st)) (C := RMod) (T := TMod) (N := 14) hx hb hg inMod hown hK hP 0 rfl rfl 9 (by decide) (hg _ tw_566) (fun _ h9 => h9) rfl dMod_system_118 ?_
      refine lv_goto (tgt := 128) hx hb dMod_system_121 (by decide) ?_
      refine lv_lstore (lv' := [(5, .long (ms_clock st)), (0, .ref m0), (1, .int a1), (2, .int a2), (3, .int v3), (4, .int v4)]) hx hb dMod_system_128 hl (by decide) rfl (fun ls hl => ?_)
      exact tail_130 ls v3 v4 (ms_clock st) (hv110.trans (by unfold mf_RiscHartModel_system_t110; rw [if_pos c_3])) (lv_sub hl [1, 2, 3, 4, 5, 0] rfl)
  refine lv_iload_n hx hb dMod_system_0 rfl (lv_at hl 1 rfl) ?_
  refine lv_bipush (v := 115) hx hb dMod_system_1 (by decide) ?_
  refine lv_icmp_ne (tgt := 13) hx hb dMod_system_3 (by decide) (fun c_4 => ?_) (fun c_4 => ?_)
  · refine lv_iload_n hx hb dMod_system_13 rfl (lv_at hl 1 rfl) ?_
    refine lv_ldc (v := 1048691) hx hb hown (hg _ tw_704) dMod_system_14 ?_
    refine lv_icmp_ne (tgt := 26) hx hb dMod_system_16 (by decide) (fun c_5 => ?_) (fun c_5 => ?_)
    · refine lv_iload_n hx hb dMod_system_26 rfl (lv_at hl 1 rfl) ?_
      refine lv_bipush (v := 20) hx hb dMod_system_27 (by decide) ?_
      refine lv_iushr (v := (ja_ushr a1 20)) hx hb dMod_system_29 rfl ?_
      refine lv_istore_n (lv' := [(3, .int (ja_ushr a1 20)), (0, .ref m0), (1, .int a1), (2, .int a2)]) hx hb dMod_system_30 rfl hl (by decide) rfl (fun ls hl => ?_)
      refine lv_iload_n hx hb dMod_system_31 rfl (lv_at hl 3 rfl) ?_
      refine lv_iconst (v := 2) hx hb dMod_system_32 (by decide) ?_
      refine lv_icmp_lt (tgt := 56) hx hb dMod_system_33 (by decide) (fun c_6 => ?_) (fun c_6 => ?_)
      · refine lv_aload_n hx hb dMod_system_56 rfl (lv_at hl 1 rfl) ?_
        refine mk_callW (va_runV (As := []) (rest := []) ⟨hx, hb, hml, hown, hts⟩ (mc_RiscHartModel_illegal l hP hD) (cwV 0 hts (mk_gV tw_705 tw_707 tw_36 tw_48 tw_708) rfl rfl rfl hdMod_illegal ⟨Nat.le_of_ble_eq_true rfl, Nat.le_of_ble_eq_true rfl⟩) (mk_preVK hK (va_recv hK hP (ci := 2) (q0 := 0) rfl rfl)) rfl rfl hl.1 rfl (lv_room (Nat.le_of_ble_eq_true rfl)) dMod_system_57 ⟨Nat.zero_le _, Nat.zero_le _⟩) hS (fun H locs hP hS => ?_)
        exact W.iret hx hb hr (fun t ht hW => ⟨⟨_, (mf_RiscHartModel_illegal st).2, rfl, (by unfold mf_RiscHartModel_system; rw [if_neg c_4, if_neg c_5, if_pos c_6]), by show va_P D hcl _ t.heap; rw [ht]; exact hP⟩, hS.F ht⟩) hS.2.2 dMod_system_60
      · refine lv_iload_n hx hb dMod_system_36 rfl (lv_at hl 3 rfl) ?_
        refine lv_iconst (v := 4) hx hb dMod_system_37 (by decide) ?_
        refine lv_icmp_eq (tgt := 56) hx hb dMod_system_38 (by decide) (fun c_7 => ?_) (fun c_7 => ?_)
        · refine lv_aload_n hx hb dMod_system_56 rfl (lv_at hl 1 rfl) ?_
          refine mk_callW (va_runV (As := []) (rest := []) ⟨hx, hb, hml, hown, hts⟩ (mc_RiscHartModel_illegal l hP hD) (cwV 0 hts (mk_gV tw_705 tw_707 tw_36 tw_48 tw_708) rfl rfl rfl hdMod_illegal ⟨Nat.le_of_ble_eq_true rfl, Nat.le_of_ble_eq_true rfl⟩) (mk_preVK hK (va_recv hK hP (ci := 2) (q0 := 0) rfl rfl)) rfl rfl hl.1 rfl (lv_room (Nat.le_of_ble_eq_true rfl)) dMod_system_57 ⟨Nat.zero_le _, Nat.zero_le _⟩) hS (fun H locs hP hS => ?_)
          exact W.iret hx hb hr (fun t ht hW => ⟨⟨_, (mf_RiscHartModel_illegal st).2, rfl, (by unfold mf_RiscHartModel_system; rw [if_neg c_4, if_neg c_5, if_neg c_6, if_pos c_7]), by show va_P D hcl _ t.heap; rw [ht]; exact hP⟩, hS.F ht⟩) hS.2.2 dMod_system_60
        · refine lv_iload_n hx hb dMod_system_41 rfl (lv_at hl 3 rfl) ?_
          refine lv_iconst (v := 5) hx hb dMod_system_42 (by decide) ?_
          refine lv_icmp_eq (tgt := 56) hx hb dMod_system_43 (by decide) (fun c_8 => ?_) (fun c_8 => ?_)
          · refine lv_aload_n hx hb dMod_system_56 rfl (lv_at hl 1 rfl) ?_
            refine mk_callW (va_runV (As := []) (rest := []) ⟨hx, hb, hml, hown, hts⟩ (mc_RiscHartModel_illegal l hP hD) (cwV 0 hts (mk_gV tw_705 tw_707 tw_36 tw_48 tw_708) rfl rfl rfl hdMod_illegal ⟨Nat.le_of_ble_eq_true rfl, Nat.le_of_ble_eq_true rfl⟩) (mk_preVK hK (va_recv hK hP (ci := 2) (q0 := 0) rfl rfl)) rfl rfl hl.1 rfl (lv_room (Nat.le_of_ble_eq_true rfl)) dMod_system_57 ⟨Nat.zero_le _, Nat.zero_le _⟩) hS (fun H locs hP hS => ?_)
            exact W.iret hx hb hr (fun t ht hW => ⟨⟨_, (mf_RiscHartModel_illegal st).2, rfl, (by unfold mf_RiscHartModel_system; rw [if_neg c_4, if_neg c_5, if_neg c_6, if_neg c_7, if_pos c_8]), by show va_P D hcl _ t.heap; rw [ht]; exact hP⟩, hS.F ht⟩) hS.2.2 dMod_system_60
          · refine lv_iload_n hx hb dMod_system_46 rfl (lv_at hl 2 rfl) ?_
            refine lv_bipush (v := 15) hx hb dMod_system_47 (by decide) ?_
            refine lv_iconst (v := 5) hx hb dMod_system_49 (by decide) ?_
            refine mk_callR (va_runS (As := [.int a1, .int 15, .int 5]) (rest := []) ⟨hx, hb, hml, hown, hts⟩ (mc_RiscHartModel_part l _ a1 15 5) (va_cwS 3 hts (mk_gS tw_668 tw_669 tw_48 tw_670) rfl rfl rfl hdMod_part.2 ⟨Nat.le_of_ble_eq_true rfl, Nat.le_of_ble_eq_true rfl⟩) mk_preS rfl rfl hl.1 rfl (lv_room (Nat.le_of_ble_eq_true rfl)) dMod_system_50 ⟨Nat.zero_le _, Nat.zero_le _⟩) ?_
            refine lv_if_le (tgt := 61) hx hb dMod_system_53 (by decide) (fun c_9 => ?_) (fun c_9 => ?_)
            · refine lv_iload_n hx hb dMod_system_61 rfl (lv_at hl 0 rfl) ?_
              refine lv_sipush (v := 3072) hx hb dMod_system_62 (by decide) ?_
              refine lv_icmp_eq (tgt := 103) hx hb dMod_system_65 (by decide) (fun c_10 => ?_) (fun c_10 => ?_)
              · refine lv_iconst (v := 1) hx hb dMod_system_103 (by decide) ?_
                refine lv_goto (tgt := 108) hx hb dMod_system_104 (by decide) ?_
                refine lv_istore (lv' := [(4, .int 1), (3, .int (ja_ushr a1 20)), (0, .ref m0), (1, .int a1), (2, .int a2)]) hx hb dMod_system_108 hl (by decide) rfl (fun ls hl => ?_)
                exact tail_110 ls (ja_ushr a1 20) 1 (by unfold mf_RiscHartModel_system; rw [if_neg c_4, if_neg c_5, if_neg c_6, if_neg c_7, if_neg c_8, if_pos c_9, if_pos c_10]) (lv_sub hl [2, 3, 4, 1, 0] rfl)
              · refine lv_iload_n hx hb dMod_system_68 rfl (lv_at hl 0 rfl) ?_
                refine lv_sipush (v := 3073) hx hb dMod_system_69 (by decide) ?_
                refine lv_icmp_eq (tgt := 103) hx hb dMod_system_72 (by decide) (fun c_11 => ?_) (fun c_11 => ?_)
                · refine lv_iconst (v := 1) hx hb dMod_system_103 (by decide) ?_
                  refine lv_goto (tgt := 108) hx hb dMod_system_104 (by decide) ?_
                  refine lv_istore (lv' := [(4, .int 1), (3, .int (ja_ushr a1 20)), (0, .ref m0), (1, .int a1), (2, .int a2)]) hx hb dMod_system_108 hl (by decide) rfl (fun ls hl => ?_)
                  exact tail_110 ls (ja_ushr a1 20) 1 (by unfold mf_RiscHartModel_system; rw [if_neg c_4, if_neg c_5, if_neg c_6, if_neg c_7, if_neg c_8, if_pos c_9, if_neg c_10, if_pos c_11]) (lv_sub hl [2, 3, 4, 1, 0] rfl)
                · refine lv_iload_n hx hb dMod_system_75 rfl (lv_at hl 0 rfl) ?_
                  refine lv_sipush (v := 3074) hx hb dMod_system_76 (by decide) ?_
                  refine lv_icmp_eq (tgt := 103) hx hb dMod_system_79 (by decide) (fun c_12 => ?_) (fun c_12 => ?_)
                  · refine lv_iconst (v := 1) hx hb dMod_system_103 (by decide) ?_
                    refine lv_goto (tgt := 108) hx hb dMod_system_104 (by decide) ?_
                    refine lv_istore (lv' := [(4, .int 1), (3, .int (ja_ushr a1 20)), (0, .ref m0), (1, .int a1), (2, .int a2)]) hx hb dMod_system_108 hl (by decide) rfl (fun ls hl => ?_)
                    exact tail_110 ls (ja_ushr a1 20) 1 (by unfold mf_RiscHartModel_system; rw [if_neg c_4, if_neg c_5, if_neg c_6, if_neg c_7, if_neg c_8, if_pos c_9, if_neg c_10, if_neg c_11, if_pos c_12]) (lv_sub hl [2, 3, 4, 1, 0] rfl)
                  · refine lv_iload_n hx hb dMod_system_82 rfl (lv_at hl 0 rfl) ?_
                    refine lv_sipush (v := 3200) hx hb dMod_system_83 (by decide) ?_
                    refine lv_icmp_eq (tgt := 103) hx hb dMod_system_86 (by decide) (fun c_13 => ?_) (fun c_13 => ?_)
                    · refine lv_iconst (v := 1) hx hb dMod_system_103 (by decide) ?_
                      refine lv_goto (tgt := 108) hx hb dMod_system_104 (by decide) ?_
                      refine lv_istore (lv' := [(4, .int 1), (3, .int (ja_ushr a1 20)), (0, .ref m0), (1, .int a1), (2, .int a2)]) hx hb dMod_system_108 hl (by decide) rfl (fun ls hl => ?_)
                      exact tail_110 ls (ja_ushr a1 20) 1 (by unfold mf_RiscHartModel_system; rw [if_neg c_4, if_neg c_5, if_neg c_6, if_neg c_7, if_neg c_8, if_pos c_9, if_neg c_10, if_neg c_11, if_neg c_12, if_pos c_13]) (lv_sub hl [2, 3, 4, 1, 0] rfl)
                    · refine lv_iload_n hx hb dMod_system_89 rfl (lv_at hl 0 rfl) ?_
                      refine lv_sipush (v := 3201) hx hb dMod_system_90 (by decide) ?_
                      refine lv_icmp_eq (tgt := 103) hx hb dMod_system_93 (by decide) (fun c_14 => ?_) (fun c_14 => ?_)
                      · refine lv_iconst (v := 1) hx hb dMod_system_103 (by decide) ?_
                        refine lv_goto (tgt := 108) hx hb dMod_system_104 (by decide) ?_
                        refine lv_istore (lv' := [(4, .int 1), (3, .int (ja_ushr a1 20)), (0, .ref m0), (1, .int a1), (2, .int a2)]) hx hb dMod_system_108 hl (by decide) rfl (fun ls hl => ?_)
                        exact tail_110 ls (ja_ushr a1 20) 1 (by unfold mf_RiscHartModel_system; rw [if_neg c_4, if_neg c_5, if_neg c_6, if_neg c_7, if_neg c_8, if_pos c_9, if_neg c_10, if_neg c_11, if_neg c_12, if_neg c_13, if_pos c_14]) (lv_sub hl [2, 3, 4, 1, 0] rfl)
                      · refine lv_iload_n hx hb dMod_system_96 rfl (lv_at hl 0 rfl) ?_
                        refine lv_sipush (v := 3202) hx hb dMod_system_97 (by decide) ?_
                        refine lv_icmp_ne (tgt := 107) hx hb dMod_system_100 (by decide) (fun c_15 => ?_) (fun c_15 => ?_)
                        · refine lv_iconst (v := 0) hx hb dMod_system_107 (by decide) ?_
                          refine lv_istore (lv' := [(4, .int 0), (3, .int (ja_ushr a1 20)), (0, .ref m0), (1, .int a1), (2, .int a2)]) hx hb dMod_system_108 hl (by decide) rfl (fun ls hl => ?_)
                          exact tail_110 ls (ja_ushr a1 20) 0 (by unfold mf_RiscHartModel_system; rw [if_neg c_4, if_neg c_5, if_neg c_6, if_neg c_7, if_neg c_8, if_pos c_9, if_neg c_10, if_neg c_11, if_neg c_12, if_neg c_13, if_neg c_14, if_neg c_15]) (lv_sub hl [2, 3, 4, 1, 0] rfl)
                        · refine lv_iconst (v := 1) hx hb dMod_system_103 (by decide) ?_
                          refine lv_goto (tgt := 108) hx hb dMod_system_104 (by decide) ?_
                          refine lv_istore (lv' := [(4, .int 1), (3, .int (ja_ushr a1 20)), (0, .ref m0), (1, .int a1), (2, .int a2)]) hx hb dMod_system_108 hl (by decide) rfl (fun ls hl => ?_)
                          exact tail_110 ls (ja_ushr a1 20) 1 (by unfold mf_RiscHartModel_system; rw [if_neg c_4, if_neg c_5, if_neg c_6, if_neg c_7, if_neg c_8, if_pos c_9, if_neg c_10, if_neg c_11, if_neg c_12, if_neg c_13, if_neg c_14, if_pos c_15]) (lv_sub hl [2, 3, 4, 1, 0] rfl)
            · refine lv_aload_n hx hb dMod_system_56 rfl (lv_at hl 1 rfl) ?_
              refine mk_callW (va_runV (As := []) (rest := []) ⟨hx, hb, hml, hown, hts⟩ (mc_RiscHartModel_illegal l hP hD) (cwV 0 hts (mk_gV tw_705 tw_707 tw_36 tw_48 tw_708) rfl rfl rfl hdMod_illegal ⟨Nat.le_of_ble_eq_true rfl, Nat.le_of_ble_eq_true rfl⟩) (mk_preVK hK (va_recv hK hP (ci := 2) (q0 := 0) rfl rfl)) rfl rfl hl.1 rfl (lv_room (Nat.le_of_ble_eq_true rfl)) dMod_system_57 ⟨Nat.zero_le _, Nat.zero_le _⟩) hS (fun H locs hP hS => ?_)
              exact W.iret hx hb hr (fun t ht hW => ⟨⟨_, (mf_RiscHartModel_illegal st).2, rfl, (by unfold mf_RiscHartModel_system; rw [if_neg c_4, if_neg c_5, if_neg c_6, if_neg c_7, if_neg c_8, if_neg c_9]), by show va_P D hcl _ t.heap; rw [ht]; exact hP⟩, hS.F ht⟩) hS.2.2 dMod_system_60
    · refine lv_aload_n hx hb dMod_system_19 rfl (lv_at hl 0 rfl) ?_
      refine lv_iconst (v := 4) hx hb dMod_system_20 (by decide) ?_
      refine lv_iconst (v := 0) hx hb dMod_system_21 (by decide) ?_
      refine mk_callW (va_runV (As := [.int 4, .int 0]) (rest := []) ⟨hx, hb, hml, hown, hts⟩ (mc_RiscHartModel_trap l hP hD 4 0) (cwV 2 hts (mk_gV tw_657 tw_659 tw_34 tw_48 tw_660) rfl rfl rfl hdMod_trap ⟨Nat.le_of_ble_eq_true rfl, Nat.le_of_ble_eq_true rfl⟩) (mk_preVK hK (va_recv hK hP (ci := 2) (q0 := 0) rfl rfl)) rfl rfl hl.1 rfl (lv_room (Nat.le_of_ble_eq_true rfl)) dMod_system_22 ⟨Nat.zero_le _, Nat.zero_le _⟩) hS (fun H locs hP hS => ?_)
      exact W.iret hx hb hr (fun t ht hW => ⟨⟨_, (mf_RiscHartModel_trap st 4 0).2, rfl, (by unfold mf_RiscHartModel_system; rw [if_neg c_4, if_pos c_5]), by show va_P D hcl _ t.heap; rw [ht]; exact hP⟩, hS.F ht⟩) hS.2.2 dMod_system_25
  · refine lv_aload_n hx hb dMod_system_6 rfl (lv_at hl 0 rfl) ?_
    refine lv_iconst (v := 3) hx hb dMod_system_7 (by decide) ?_
    refine lv_iconst (v := 0) hx hb dMod_system_8 (by decide) ?_
    refine mk_callW (va_runV (As := [.int 3, .int 0]) (rest := []) ⟨hx, hb, hml, hown, hts⟩ (mc_RiscHartModel_trap l hP hD 3 0) (cwV 2 hts (mk_gV tw_657 tw_659 tw_34 tw_48 tw_660) rfl rfl rfl hdMod_trap ⟨Nat.le_of_ble_eq_true rfl, Nat.le_of_ble_eq_true rfl⟩) (mk_preVK hK (va_recv hK hP (ci := 2) (q0 := 0) rfl rfl)) rfl rfl hl.1 rfl (lv_room (Nat.le_of_ble_eq_true rfl)) dMod_system_9 ⟨Nat.zero_le _, Nat.zero_le _⟩) hS (fun H locs hP hS => ?_)
    exact W.iret hx hb hr (fun t ht hW => ⟨⟨_, (mf_RiscHartModel_trap st 3 0).2, rfl, (by unfold mf_RiscHartModel_system; rw [if_pos c_4]), by show va_P D hcl _ t.heap; rw [ht]; exact hP⟩, hS.F ht⟩) hS.2.2 dMod_system_12
