set_option maxHeartbeats 4000000 in
set_option maxRecDepth 100000 in
theorem hc_RiscHart_longStore (l : Launch) {D : va_G} {cR cW cP : ClassId} {h0 h1 h2 h3 h4 : Nat} {A : Nat → Prop} {st : HS} {G : Heap} (hP : va_P D hcl (hs_W cR cW cP h0 h1 h2 h3 h4 st) G) (hD : ∀ z, va_D A (hs_W cR cW cP h0 h1 h2 h3 h4 z)) (a1 : Int32)  : Met l yHart_longStore (wq yHart_longStore cHart_longStore 4 (some .int)) ({ frames := 3, cells := 0, slots := 0, locals := 68 }) (mk_PK D hcl [(cR, .int), (cW, .int), (cP, .int)] G [.ref h0, .int a1]) (mk_Wi (fun u t => va_P D hcl (hs_W cR cW cP h0 h1 h2 h3 h4 u) t) A (hf_RiscHart_longStore st a1)) 0 0 A := by
  refine Met.ofW (cc := cHart_longStore) (maxL := 4) (ret := (some .int)) (by decide) rfl ?_
  intro p e s m args below meth c s₁ B hml hv
  obtain ⟨rfl, hG, hK⟩ := hv
  subst hG
  have hx := B.exec
  have hb := B.bytes
  have hr := B.returns
  have hts := atoms_spec (ws := (wq yHart_longStore cHart_longStore 4 (some .int))) B.pre
  have hown : s.vm.findClass RHart = some m.cls := findClass_of_methodNamed B.named
  have hlocks := B.notSynchronized
  have hg : ∀ w ∈ lw_g, w.before _ s = true := fun w h => hts w (List.mem_cons_of_mem _ h)
  have hS : va_S A s.heap s.heap [] := va_S.rf
  have hl := lv_entry ([.ref h0, .int a1]) (n := 4) (Nat.le_of_ble_eq_true rfl)
  rw [lg_entry_eq]
  generalize (lg_sl ([.ref h0, .int a1]) ++ List.replicate (4 - (lg_sl ([.ref h0, .int a1])).length) Slot.unset).toArray = ls at hl ⊢
  have hl : lv_has ls 4 [(0, .ref h0), (1, .int a1)] := hl
  refine lv_iload_n hx hb dHart_longStore_0 rfl (lv_at hl 1 rfl) ?_
  refine mk_callR (va_runS (As := [.int a1]) (rest := []) ⟨hx, hb, hml, hown, hts⟩ (hc_LongForm_f l _ a1) (va_cwS 1 hts (mk_gS tw_188 tw_189 tw_54 tw_190) rfl rfl rfl hdLF_f.2 ⟨Nat.le_of_ble_eq_true rfl, Nat.le_of_ble_eq_true rfl⟩) mk_preS rfl rfl hl.1 rfl (lv_room (Nat.le_of_ble_eq_true rfl)) dHart_longStore_1 ⟨Nat.zero_le _, Nat.zero_le _⟩) ?_
  refine lv_istore_n (lv' := [(2, .int (hf_LongForm_f a1)), (0, .ref h0), (1, .int a1)]) hx hb dHart_longStore_4 rfl hl (by decide) rfl (fun ls hl => ?_)
  refine lv_iload_n hx hb dHart_longStore_5 rfl (lv_at hl 0 rfl) ?_
  refine lv_iconst (v := 2) hx hb dHart_longStore_6 (by decide) ?_
  refine lv_icmp_le (tgt := 17) hx hb dHart_longStore_7 (by decide) (fun c_1 => ?_) (fun c_1 => ?_)
  · refine lv_aload_n hx hb dHart_longStore_17 rfl (lv_at hl 1 rfl) ?_
    refine va_get (D := D) (ci := 0) (v := .ref h2) (C := RHart) (T := THart) (N := 8) hx hb hg inHart hown hK hP 0 rfl rfl 1 (by decide) (hg _ tw_84) (fun _ h9 => h9) rfl dHart_longStore_18 ?_
    refine lv_iload_n hx hb dHart_longStore_21 rfl (lv_at hl 2 rfl) ?_
    refine mk_callR (va_runS (As := [.int a1]) (rest := [.ref h2]) ⟨hx, hb, hml, hown, hts⟩ (hc_LongForm_a l _ a1) (va_cwS 1 hts (mk_gS tw_191 tw_192 tw_54 tw_193) rfl rfl rfl hdLF_a.2 ⟨Nat.le_of_ble_eq_true rfl, Nat.le_of_ble_eq_true rfl⟩) mk_preS rfl rfl hl.1 rfl (lv_room (Nat.le_of_ble_eq_true rfl)) dHart_longStore_22 ⟨Nat.zero_le _, Nat.zero_le _⟩) ?_
    refine va_iald (D := D) (f := hs_regs st) hx hb hK hP 2 0 rfl rfl (in_LongForm_a _) dHart_longStore_25 ?_
    refine lv_iload_n hx hb dHart_longStore_26 rfl (lv_at hl 2 rfl) ?_
    refine mk_callR (va_runS (As := [.int a1]) (rest := [.int (hs_regs st ((hf_LongForm_a a1)).toNatClampNeg)]) ⟨hx, hb, hml, hown, hts⟩ (hc_LongForm_numberS l _ a1) (va_cwS 1 hts (mk_gS tw_229 tw_230 tw_54 tw_231) rfl rfl rfl hdLF_numberS.2 ⟨Nat.le_of_ble_eq_true rfl, Nat.le_of_ble_eq_true rfl⟩) mk_preS rfl rfl hl.1 rfl (lv_room (Nat.le_of_ble_eq_true rfl)) dHart_longStore_27 ⟨Nat.zero_le _, Nat.zero_le _⟩) ?_
    refine lv_iadd hx hb dHart_longStore_30 ?_
    refine lv_istore_n (lv' := [(3, .int ((hs_regs st ((hf_LongForm_a a1)).toNatClampNeg) + (hf_LongForm_numberS a1))), (2, .int (hf_LongForm_f a1)), (0, .ref h0), (1, .int a1)]) hx hb dHart_longStore_31 rfl hl (by decide) rfl (fun ls hl => ?_)
    refine lv_aload_n hx hb dHart_longStore_32 rfl (lv_at hl 2 rfl) ?_
    refine lv_iload_n hx hb dHart_longStore_33 rfl (lv_at hl 1 rfl) ?_
    refine lv_iload_n hx hb dHart_longStore_34 rfl (lv_at hl 0 rfl) ?_
    refine lv_aload_n hx hb dHart_longStore_35 rfl (lv_at hl 2 rfl) ?_
    refine va_get (D := D) (ci := 0) (v := .ref h2) (C := RHart) (T := THart) (N := 8) hx hb hg inHart hown hK hP 0 rfl rfl 1 (by decide) (hg _ tw_84) (fun _ h9 => h9) rfl dHart_longStore_36 ?_
    refine lv_iload_n hx hb dHart_longStore_39 rfl (lv_at hl 3 rfl) ?_
    refine mk_callR (va_runS (As := [.int a1]) (rest := [.ref h2, .int ((hs_regs st ((hf_LongForm_a a1)).toNatClampNeg) + (hf_LongForm_numberS a1)), .int (hf_LongForm_f a1), .ref h0]) ⟨hx, hb, hml, hown, hts⟩ (hc_LongForm_b l _ a1) (va_cwS 1 hts (mk_gS tw_201 tw_202 tw_54 tw_203) rfl rfl rfl hdLF_b.2 ⟨Nat.le_of_ble_eq_true rfl, Nat.le_of_ble_eq_true rfl⟩) mk_preS rfl rfl hl.1 rfl (lv_room (Nat.le_of_ble_eq_true rfl)) dHart_longStore_40 ⟨Nat.zero_le _, Nat.zero_le _⟩) ?_
    refine va_iald (D := D) (f := hs_regs st) hx hb hK hP 2 0 rfl rfl (in_LongForm_b _) dHart_longStore_43 ?_
    refine mk_callW (va_runV (As := [.int (hf_LongForm_f a1), .int ((hs_regs st ((hf_LongForm_a a1)).toNatClampNeg) + (hf_LongForm_numberS a1)), .int (hs_regs st ((hf_LongForm_b a1)).toNatClampNeg)]) (rest := []) ⟨hx, hb, hml, hown, hts⟩ (hc_RiscHart_store l hP hD (hf_LongForm_f a1) ((hs_regs st ((hf_LongForm_a a1)).toNatClampNeg) + (hf_LongForm_numberS a1)) (hs_regs st ((hf_LongForm_b a1)).toNatClampNeg)) (cwV 3 hts (mk_gV tw_236 tw_238 tw_12 tw_46 tw_239) rfl rfl rfl hdHart_store ⟨Nat.le_of_ble_eq_true rfl, Nat.le_of_ble_eq_true rfl⟩) (mk_preVK hK (va_recv hK hP (ci := 0) (q0 := 0) rfl rfl)) rfl rfl hl.1 rfl (lv_room (Nat.le_of_ble_eq_true rfl)) dHart_longStore_44 ⟨Nat.zero_le _, Nat.zero_le _⟩) hS (fun H locs hP hS => ?_)
    exact W.iret hx hb hr (fun t ht hW => ⟨⟨_, (hf_RiscHart_store st (hf_LongForm_f a1) ((hs_regs st ((hf_LongForm_a a1)).toNatClampNeg) + (hf_LongForm_numberS a1)) (hs_regs st ((hf_LongForm_b a1)).toNatClampNeg)).2, rfl, (by unfold hf_RiscHart_longStore; rw [if_pos c_1]), by show va_P D hcl _ t.heap; rw [ht]; exact hP⟩, hS.F ht⟩) hS.2.2 dHart_longStore_47
  · refine lv_aload_n hx hb dHart_longStore_10 rfl (lv_at hl 1 rfl) ?_
    refine lv_iconst (v := 2) hx hb dHart_longStore_11 (by decide) ?_
    refine lv_iload_n hx hb dHart_longStore_12 rfl (lv_at hl 2 rfl) ?_
    refine mk_callW (va_runV (As := [.int 2, .int a1]) (rest := []) ⟨hx, hb, hml, hown, hts⟩ (hc_RiscHart_trap l hP hD 2 a1) (cwV 2 hts (mk_gV tw_139 tw_141 tw_1 tw_46 tw_142) rfl rfl rfl hdHart_trap ⟨Nat.le_of_ble_eq_true rfl, Nat.le_of_ble_eq_true rfl⟩) (mk_preVK hK (va_recv hK hP (ci := 0) (q0 := 0) rfl rfl)) rfl rfl hl.1 rfl (lv_room (Nat.le_of_ble_eq_true rfl)) dHart_longStore_13 ⟨Nat.zero_le _, Nat.zero_le _⟩) hS (fun H locs hP hS => ?_)
    exact W.iret hx hb hr (fun t ht hW => ⟨⟨_, (hf_RiscHart_trap st 2 a1).2, rfl, (by unfold hf_RiscHart_longStore; rw [if_neg c_1]), by show va_P D hcl _ t.heap; rw [ht]; exact hP⟩, hS.F ht⟩) hS.2.2 dHart_longStore_16
set_option maxHeartbeats 4000000 in
set_option maxRecDepth 100000 in
theorem hc_RiscHart_longWithNumber (l : Launch) {D : va_G} {cR cW cP : ClassId} {h0 h1 h2 h3 h4 : Nat} {A : Nat → Prop} {st : HS} {G : Heap} (hP : va_P D hcl (hs_W cR cW cP h0 h1 h2 h3 h4 st) G) (hD : ∀ z, va_D A (hs_W cR cW cP h0 h1 h2 h3 h4 z)) (a1 : Int32)  : Met l yHart_longWithNumber (wq yHart_longWithNumber cHart_longWithNumber 6 (some .int)) ({ frames := 2, cells := 0, slots := 0, locals := 43 }) (mk_PK D hcl [(cR, .int), (cW, .int), (cP, .int)] G [.ref h0, .int a1]) (mk_Wi (fun u t => va_P D hcl (hs_W cR cW cP h0 h1 h2 h3 h4 u) t) A (hf_RiscHart_longWithNumber st a1)) 0 0 A := by
  refine Met.ofW (cc := cHart_longWithNumber) (maxL := 6) (ret := (some .int)) (by decide) rfl ?_
  intro p e s m args below meth c s₁ B hml hv
  obtain ⟨rfl, hG, hK⟩ := hv
  subst hG
  have hx := B.exec
  have hb := B.bytes
  have hr := B.returns
  have hts := atoms_spec (ws := (wq yHart_longWithNumber cHart_longWithNumber 6 (some .int))) B.pre
  have hown : s.vm.findClass RHart = some m.cls := findClass_of_methodNamed B.named
  have hlocks := B.notSynchronized
  have hg : ∀ w ∈ lw_g, w.before _ s = true := fun w h => hts w (List.mem_cons_of_mem _ h)
  have hS : va_S A s.heap s.heap [] := va_S.rf
  have hl := lv_entry ([.ref h0, .int a1]) (n := 6) (Nat.le_of_ble_eq_true rfl)
  rw [lg_entry_eq]
  generalize (lg_sl ([.ref h0, .int a1]) ++ List.replicate (6 - (lg_sl ([.ref h0, .int a1])).length) Slot.unset).toArray = ls at hl ⊢
  have hl : lv_has ls 6 [(0, .ref h0), (1, .int a1)] := hl
  refine lv_iload_n hx hb dHart_longWithNumber_0 rfl (lv_at hl 1 rfl) ?_
  refine mk_callR (va_runS (As := [.int a1]) (rest := []) ⟨hx, hb, hml, hown, hts⟩ (hc_LongForm_d l _ a1) (va_cwS 1 hts (mk_gS tw_161 tw_162 tw_54 tw_163) rfl rfl rfl hdLF_d.2 ⟨Nat.le_of_ble_eq_true rfl, Nat.le_of_ble_eq_true rfl⟩) mk_preS rfl rfl hl.1 rfl (lv_room (Nat.le_of_ble_eq_true rfl)) dHart_longWithNumber_1 ⟨Nat.zero_le _, Nat.zero_le _⟩) ?_
  refine lv_istore_n (lv' := [(2, .int (hf_LongForm_d a1)), (0, .ref h0), (1, .int a1)]) hx hb dHart_longWithNumber_4 rfl hl (by decide) rfl (fun ls hl => ?_)
  refine lv_iload_n hx hb dHart_longWithNumber_5 rfl (lv_at hl 2 rfl) ?_
  refine mk_callR (va_runS (As := [.int a1]) (rest := []) ⟨hx, hb, hml, hown, hts⟩ (hc_LongForm_f l _ a1) (va_cwS 1 hts (mk_gS tw_188 tw_189 tw_54 tw_190) rfl rfl rfl hdLF_f.2 ⟨Nat.le_of_ble_eq_true rfl, Nat.le_of_ble_eq_true rfl⟩) mk_preS rfl rfl hl.1 rfl (lv_room (Nat.le_of_ble_eq_true rfl)) dHart_longWithNumber_6 ⟨Nat.zero_le _, Nat.zero_le _⟩) ?_
  refine lv_istore_n (lv' := [(3, .int (hf_LongForm_f a1)), (2, .int (hf_LongForm_d a1)), (0, .ref h0), (1, .int a1)]) hx hb dHart_longWithNumber_9 rfl hl (by decide) rfl (fun ls hl => ?_)
  refine lv_iload_n hx hb dHart_longWithNumber_10 rfl (lv_at hl 3 rfl) ?_
  refine mk_callR (va_runS (As := [.int a1]) (rest := []) ⟨hx, hb, hml, hown, hts⟩ (hc_LongForm_g l _ a1) (va_cwS 1 hts (mk_gS tw_251 tw_233 tw_54 tw_234) rfl rfl rfl hdLF_g.2 ⟨Nat.le_of_ble_eq_true rfl, Nat.le_of_ble_eq_true rfl⟩) mk_preS rfl rfl hl.1 rfl (lv_room (Nat.le_of_ble_eq_true rfl)) dHart_longWithNumber_11 ⟨Nat.zero_le _, Nat.zero_le _⟩) ?_
  refine lv_istore (lv' := [(4, .int (hf_LongForm_g a1)), (3, .int (hf_LongForm_f a1)), (2, .int (hf_LongForm_d a1)), (0, .ref h0), (1, .int a1)]) hx hb dHart_longWithNumber_14 hl (by decide) rfl (fun ls hl => ?_)
  refine lv_aload_n hx hb dHart_longWithNumber_16 rfl (lv_at hl 3 rfl) ?_
  refine va_get (D := D) (ci := 0) (v := .ref h2) (C := RHart) (T := THart) (N := 8) hx hb hg inHart hown hK hP 0 rfl rfl 1 (by decide) (hg _ tw_84) (fun _ h9 => h9) rfl dHart_longWithNumber_17 ?_
  refine lv_iload_n hx hb dHart_longWithNumber_20 rfl (lv_at hl 4 rfl) ?_
  refine mk_callR (va_runS (As := [.int a1]) (rest := [.ref h2]) ⟨hx, hb, hml, hown, hts⟩ (hc_LongForm_a l _ a1) (va_cwS 1 hts (mk_gS tw_191 tw_192 tw_54 tw_193) rfl rfl rfl hdLF_a.2 ⟨Nat.le_of_ble_eq_true rfl, Nat.le_of_ble_eq_true rfl⟩) mk_preS rfl rfl hl.1 rfl (lv_room (Nat.le_of_ble_eq_true rfl)) dHart_longWithNumber_21 ⟨Nat.zero_le _, Nat.zero_le _⟩) ?_
  refine va_iald (D := D) (f := hs_regs st) hx hb hK hP 2 0 rfl rfl (in_LongForm_a _) dHart_longWithNumber_24 ?_
  refine lv_istore (lv' := [(5, .int (hs_regs st ((hf_LongForm_a a1)).toNatClampNeg)), (4, .int (hf_LongForm_g a1)), (3, .int (hf_LongForm_f a1)), (2, .int (hf_LongForm_d a1)), (0, .ref h0), (1, .int a1)]) hx hb dHart_longWithNumber_25 hl (by decide) rfl (fun ls hl => ?_)
  refine lv_iload_n hx hb dHart_longWithNumber_27 rfl (lv_at hl 2 rfl) ?_
  refine lv_iconst (v := 5) hx hb dHart_longWithNumber_28 (by decide) ?_
  refine lv_icmp_ne (tgt := 52) hx hb dHart_longWithNumber_29 (by decide) (fun c_1 => ?_) (fun c_1 => ?_)
  · refine lv_iload_n hx hb dHart_longWithNumber_52 rfl (lv_at hl 2 rfl) ?_
    refine lv_iconst (v := 1) hx hb dHart_longWithNumber_53 (by decide) ?_
    refine lv_icmp_eq (tgt := 62) hx hb dHart_longWithNumber_54 (by decide) (fun c_2 => ?_) (fun c_2 => ?_)
    · refine lv_iload hx hb dHart_longWithNumber_62 (lv_at hl 1 rfl) ?_
      refine lv_if_eq (tgt := 74) hx hb dHart_longWithNumber_64 (by decide) (fun c_3 => ?_) (fun c_3 => ?_)
      · refine lv_aload_n hx hb dHart_longWithNumber_74 rfl (lv_at hl 4 rfl) ?_
        refine lv_iload_n hx hb dHart_longWithNumber_75 rfl (lv_at hl 3 rfl) ?_
        refine lv_iload_n hx hb dHart_longWithNumber_76 rfl (lv_at hl 2 rfl) ?_
        refine lv_iload hx hb dHart_longWithNumber_77 (lv_at hl 0 rfl) ?_
        refine lv_iload_n hx hb dHart_longWithNumber_79 rfl (lv_at hl 5 rfl) ?_
        refine mk_callR (va_runS (As := [.int a1]) (rest := [.int (hs_regs st ((hf_LongForm_a a1)).toNatClampNeg), .int (hf_LongForm_f a1), .int (hf_LongForm_d a1), .ref h0]) ⟨hx, hb, hml, hown, hts⟩ (hc_LongForm_numberI l _ a1) (va_cwS 1 hts (mk_gS tw_194 tw_195 tw_54 tw_196) rfl rfl rfl hdLF_numberI.2 ⟨Nat.le_of_ble_eq_true rfl, Nat.le_of_ble_eq_true rfl⟩) mk_preS rfl rfl hl.1 rfl (lv_room (Nat.le_of_ble_eq_true rfl)) dHart_longWithNumber_80 ⟨Nat.zero_le _, Nat.zero_le _⟩) ?_
        refine mk_callR (va_runS (As := [.int (hf_LongForm_f a1), .int (hs_regs st ((hf_LongForm_a a1)).toNatClampNeg), .int (hf_LongForm_numberI a1)]) (rest := [.int (hf_LongForm_d a1), .ref h0]) ⟨hx, hb, hml, hown, hts⟩ (hc_Arithmetic_plain l _ (hf_LongForm_f a1) (hs_regs st ((hf_LongForm_a a1)).toNatClampNeg) (hf_LongForm_numberI a1)) (va_cwS 3 hts (mk_gS tw_252 tw_253 tw_56 tw_254) rfl rfl rfl hdAr_plain.2 ⟨Nat.le_of_ble_eq_true rfl, Nat.le_of_ble_eq_true rfl⟩) mk_preS rfl rfl hl.1 rfl (lv_room (Nat.le_of_ble_eq_true rfl)) dHart_longWithNumber_83 ⟨Nat.zero_le _, Nat.zero_le _⟩) ?_
        refine mk_callW (va_runV (As := [.int (hf_LongForm_d a1), .int (hf_Arithmetic_plain (hf_LongForm_f a1) (hs_regs st ((hf_LongForm_a a1)).toNatClampNeg) (hf_LongForm_numberI a1))]) (rest := []) ⟨hx, hb, hml, hown, hts⟩ (hc_RiscHart_give l hP hD (hf_LongForm_d a1) (hf_Arithmetic_plain (hf_LongForm_f a1) (hs_regs st ((hf_LongForm_a a1)).toNatClampNeg) (hf_LongForm_numberI a1)) (in_LongForm_d _)) (cwV 2 hts (mk_gV tw_170 tw_172 tw_4 tw_46 tw_173) rfl rfl rfl hdHart_give ⟨Nat.le_of_ble_eq_true rfl, Nat.le_of_ble_eq_true rfl⟩) (mk_preVK hK (va_recv hK hP (ci := 0) (q0 := 0) rfl rfl)) rfl rfl hl.1 rfl (lv_room (Nat.le_of_ble_eq_true rfl)) dHart_longWithNumber_86 ⟨Nat.zero_le _, Nat.zero_le _⟩) hS (fun H locs hP hS => ?_)
        exact W.iret hx hb hr (fun t ht hW => ⟨⟨_, (hf_RiscHart_give st (hf_LongForm_d a1) (hf_Arithmetic_plain (hf_LongForm_f a1) (hs_regs st ((hf_LongForm_a a1)).toNatClampNeg) (hf_LongForm_numberI a1))).2, rfl, (by unfold hf_RiscHart_longWithNumber; rw [if_neg c_1, if_pos c_2, if_pos c_3]), by show va_P D hcl _ t.heap; rw [ht]; exact hP⟩, hS.F ht⟩) hS.2.2 dHart_longWithNumber_89
      · refine lv_aload_n hx hb dHart_longWithNumber_67 rfl (lv_at hl 4 rfl) ?_
        refine lv_iconst (v := 2) hx hb dHart_longWithNumber_68 (by decide) ?_
        refine lv_iload_n hx hb dHart_longWithNumber_69 rfl (lv_at hl 5 rfl) ?_
        refine mk_callW (va_runV (As := [.int 2, .int a1]) (rest := []) ⟨hx, hb, hml, hown, hts⟩ (hc_RiscHart_trap l hP hD 2 a1) (cwV 2 hts (mk_gV tw_139 tw_141 tw_1 tw_46 tw_142) rfl rfl rfl hdHart_trap ⟨Nat.le_of_ble_eq_true rfl, Nat.le_of_ble_eq_true rfl⟩) (mk_preVK hK (va_recv hK hP (ci := 0) (q0 := 0) rfl rfl)) rfl rfl hl.1 rfl (lv_room (Nat.le_of_ble_eq_true rfl)) dHart_longWithNumber_70 ⟨Nat.zero_le _, Nat.zero_le _⟩) hS (fun H locs hP hS => ?_)
        exact W.iret hx hb hr (fun t ht hW => ⟨⟨_, (hf_RiscHart_trap st 2 a1).2, rfl, (by unfold hf_RiscHart_longWithNumber; rw [if_neg c_1, if_pos c_2, if_neg c_3]), by show va_P D hcl _ t.heap; rw [ht]; exact hP⟩, hS.F ht⟩) hS.2.2 dHart_longWithNumber_73
    · refine lv_iload_n hx hb dHart_longWithNumber_57 rfl (lv_at hl 2 rfl) ?_
      refine lv_iconst (v := 5) hx hb dHart_longWithNumber_58 (by decide) ?_
      refine lv_icmp_ne (tgt := 74) hx hb dHart_longWithNumber_59 (by decide) (fun c_4 => ?_) (fun c_4 => ?_)
      · refine lv_aload_n hx hb dHart_longWithNumber_74 rfl (lv_at hl 4 rfl) ?_
        refine lv_iload_n hx hb dHart_longWithNumber_75 rfl (lv_at hl 3 rfl) ?_
        refine lv_iload_n hx hb dHart_longWithNumber_76 rfl (lv_at hl 2 rfl) ?_
        refine lv_iload hx hb dHart_longWithNumber_77 (lv_at hl 0 rfl) ?_
        refine lv_iload_n hx hb dHart_longWithNumber_79 rfl (lv_at hl 5 rfl) ?_
        refine mk_callR (va_runS (As := [.int a1]) (rest := [.int (hs_regs st ((hf_LongForm_a a1)).toNatClampNeg), .int (hf_LongForm_f a1), .int (hf_LongForm_d a1), .ref h0]) ⟨hx, hb, hml, hown, hts⟩ (hc_LongForm_numberI l _ a1) (va_cwS 1 hts (mk_gS tw_194 tw_195 tw_54 tw_196) rfl rfl rfl hdLF_numberI.2 ⟨Nat.le_of_ble_eq_true rfl, Nat.le_of_ble_eq_true rfl⟩) mk_preS rfl rfl hl.1 rfl (lv_room (Nat.le_of_ble_eq_true rfl)) dHart_longWithNumber_80 ⟨Nat.zero_le _, Nat.zero_le _⟩) ?_
        refine mk_callR (va_runS (As := [.int (hf_LongForm_f a1), .int (hs_regs st ((hf_LongForm_a a1)).toNatClampNeg), .int (hf_LongForm_numberI a1)]) (rest := [.int (hf_LongForm_d a1), .ref h0]) ⟨hx, hb, hml, hown, hts⟩ (hc_Arithmetic_plain l _ (hf_LongForm_f a1) (hs_regs st ((hf_LongForm_a a1)).toNatClampNeg) (hf_LongForm_numberI a1)) (va_cwS 3 hts (mk_gS tw_252 tw_253 tw_56 tw_254) rfl rfl rfl hdAr_plain.2 ⟨Nat.le_of_ble_eq_true rfl, Nat.le_of_ble_eq_true rfl⟩) mk_preS rfl rfl hl.1 rfl (lv_room (Nat.le_of_ble_eq_true rfl)) dHart_longWithNumber_83 ⟨Nat.zero_le _, Nat.zero_le _⟩) ?_
        refine mk_callW (va_runV (As := [.int (hf_LongForm_d a1), .int (hf_Arithmetic_plain (hf_LongForm_f a1) (hs_regs st ((hf_LongForm_a a1)).toNatClampNeg) (hf_LongForm_numberI a1))]) (rest := []) ⟨hx, hb, hml, hown, hts⟩ (hc_RiscHart_give l hP hD (hf_LongForm_d a1) (hf_Arithmetic_plain (hf_LongForm_f a1) (hs_regs st ((hf_LongForm_a a1)).toNatClampNeg) (hf_LongForm_numberI a1)) (in_LongForm_d _)) (cwV 2 hts (mk_gV tw_170 tw_172 tw_4 tw_46 tw_173) rfl rfl rfl hdHart_give ⟨Nat.le_of_ble_eq_true rfl, Nat.le_of_ble_eq_true rfl⟩) (mk_preVK hK (va_recv hK hP (ci := 0) (q0 := 0) rfl rfl)) rfl rfl hl.1 rfl (lv_room (Nat.le_of_ble_eq_true rfl)) dHart_longWithNumber_86 ⟨Nat.zero_le _, Nat.zero_le _⟩) hS (fun H locs hP hS => ?_)
        exact W.iret hx hb hr (fun t ht hW => ⟨⟨_, (hf_RiscHart_give st (hf_LongForm_d a1) (hf_Arithmetic_plain (hf_LongForm_f a1) (hs_regs st ((hf_LongForm_a a1)).toNatClampNeg) (hf_LongForm_numberI a1))).2, rfl, (by unfold hf_RiscHart_longWithNumber; rw [if_neg c_1, if_neg c_2]), by show va_P D hcl _ t.heap; rw [ht]; exact hP⟩, hS.F ht⟩) hS.2.2 dHart_longWithNumber_89
      · exact absurd c_4 c_1
  · refine lv_iload hx hb dHart_longWithNumber_32 (lv_at hl 1 rfl) ?_
    refine lv_bipush (v := 32) hx hb dHart_longWithNumber_34 (by decide) ?_
    refine lv_icmp_ne (tgt := 52) hx hb dHart_longWithNumber_36 (by decide) (fun c_5 => ?_) (fun c_5 => ?_)
    · refine lv_iload_n hx hb dHart_longWithNumber_52 rfl (lv_at hl 2 rfl) ?_
      refine lv_iconst (v := 1) hx hb dHart_longWithNumber_53 (by decide) ?_
      refine lv_icmp_eq (tgt := 62) hx hb dHart_longWithNumber_54 (by decide) (fun c_6 => ?_) (fun c_6 => ?_)
      · exact absurd (c_1.symm.trans c_6) (by decide)
      · refine lv_iload_n hx hb dHart_longWithNumber_57 rfl (lv_at hl 2 rfl) ?_
        refine lv_iconst (v := 5) hx hb dHart_longWithNumber_58 (by decide) ?_
        refine lv_icmp_ne (tgt := 74) hx hb dHart_longWithNumber_59 (by decide) (fun c_7 => ?_) (fun c_7 => ?_)
        · exact absurd c_1 c_7
        · refine lv_iload hx hb dHart_longWithNumber_62 (lv_at hl 1 rfl) ?_
          refine lv_if_eq (tgt := 74) hx hb dHart_longWithNumber_64 (by decide) (fun c_8 => ?_) (fun c_8 => ?_)
          · refine lv_aload_n hx hb dHart_longWithNumber_74 rfl (lv_at hl 4 rfl) ?_
            refine lv_iload_n hx hb dHart_longWithNumber_75 rfl (lv_at hl 3 rfl) ?_
            refine lv_iload_n hx hb dHart_longWithNumber_76 rfl (lv_at hl 2 rfl) ?_
            refine lv_iload hx hb dHart_longWithNumber_77 (lv_at hl 0 rfl) ?_
            refine lv_iload_n hx hb dHart_longWithNumber_79 rfl (lv_at hl 5 rfl) ?_
            refine mk_callR (va_runS (As := [.int a1]) (rest := [.int (hs_regs st ((hf_LongForm_a a1)).toNatClampNeg), .int (hf_LongForm_f a1), .int (hf_LongForm_d a1), .ref h0]) ⟨hx, hb, hml, hown, hts⟩ (hc_LongForm_numberI l _ a1) (va_cwS 1 hts (mk_gS tw_194 tw_195 tw_54 tw_196) rfl rfl rfl hdLF_numberI.2 ⟨Nat.le_of_ble_eq_true rfl, Nat.le_of_ble_eq_true rfl⟩) mk_preS rfl rfl hl.1 rfl (lv_room (Nat.le_of_ble_eq_true rfl)) dHart_longWithNumber_80 ⟨Nat.zero_le _, Nat.zero_le _⟩) ?_
            refine mk_callR (va_runS (As := [.int (hf_LongForm_f a1), .int (hs_regs st ((hf_LongForm_a a1)).toNatClampNeg), .int (hf_LongForm_numberI a1)]) (rest := [.int (hf_LongForm_d a1), .ref h0]) ⟨hx, hb, hml, hown, hts⟩ (hc_Arithmetic_plain l _ (hf_LongForm_f a1) (hs_regs st ((hf_LongForm_a a1)).toNatClampNeg) (hf_LongForm_numberI a1)) (va_cwS 3 hts (mk_gS tw_252 tw_253 tw_56 tw_254) rfl rfl rfl hdAr_plain.2 ⟨Nat.le_of_ble_eq_true rfl, Nat.le_of_ble_eq_true rfl⟩) mk_preS rfl rfl hl.1 rfl (lv_room (Nat.le_of_ble_eq_true rfl)) dHart_longWithNumber_83 ⟨Nat.zero_le _, Nat.zero_le _⟩) ?_
            refine mk_callW (va_runV (As := [.int (hf_LongForm_d a1), .int (hf_Arithmetic_plain (hf_LongForm_f a1) (hs_regs st ((hf_LongForm_a a1)).toNatClampNeg) (hf_LongForm_numberI a1))]) (rest := []) ⟨hx, hb, hml, hown, hts⟩ (hc_RiscHart_give l hP hD (hf_LongForm_d a1) (hf_Arithmetic_plain (hf_LongForm_f a1) (hs_regs st ((hf_LongForm_a a1)).toNatClampNeg) (hf_LongForm_numberI a1)) (in_LongForm_d _)) (cwV 2 hts (mk_gV tw_170 tw_172 tw_4 tw_46 tw_173) rfl rfl rfl hdHart_give ⟨Nat.le_of_ble_eq_true rfl, Nat.le_of_ble_eq_true rfl⟩) (mk_preVK hK (va_recv hK hP (ci := 0) (q0 := 0) rfl rfl)) rfl rfl hl.1 rfl (lv_room (Nat.le_of_ble_eq_true rfl)) dHart_longWithNumber_86 ⟨Nat.zero_le _, Nat.zero_le _⟩) hS (fun H locs hP hS => ?_)
            exact W.iret hx hb hr (fun t ht hW => ⟨⟨_, (hf_RiscHart_give st (hf_LongForm_d a1) (hf_Arithmetic_plain (hf_LongForm_f a1) (hs_regs st ((hf_LongForm_a a1)).toNatClampNeg) (hf_LongForm_numberI a1))).2, rfl, (by unfold hf_RiscHart_longWithNumber; rw [if_pos c_1, if_neg c_5, if_pos c_8]), by show va_P D hcl _ t.heap; rw [ht]; exact hP⟩, hS.F ht⟩) hS.2.2 dHart_longWithNumber_89
          · refine lv_aload_n hx hb dHart_longWithNumber_67 rfl (lv_at hl 4 rfl) ?_
            refine lv_iconst (v := 2) hx hb dHart_longWithNumber_68 (by decide) ?_
            refine lv_iload_n hx hb dHart_longWithNumber_69 rfl (lv_at hl 5 rfl) ?_
            refine mk_callW (va_runV (As := [.int 2, .int a1]) (rest := []) ⟨hx, hb, hml, hown, hts⟩ (hc_RiscHart_trap l hP hD 2 a1) (cwV 2 hts (mk_gV tw_139 tw_141 tw_1 tw_46 tw_142) rfl rfl rfl hdHart_trap ⟨Nat.le_of_ble_eq_true rfl, Nat.le_of_ble_eq_true rfl⟩) (mk_preVK hK (va_recv hK hP (ci := 0) (q0 := 0) rfl rfl)) rfl rfl hl.1 rfl (lv_room (Nat.le_of_ble_eq_true rfl)) dHart_longWithNumber_70 ⟨Nat.zero_le _, Nat.zero_le _⟩) hS (fun H locs hP hS => ?_)
            exact W.iret hx hb hr (fun t ht hW => ⟨⟨_, (hf_RiscHart_trap st 2 a1).2, rfl, (by unfold hf_RiscHart_longWithNumber; rw [if_pos c_1, if_neg c_5, if_neg c_8]), by show va_P D hcl _ t.heap; rw [ht]; exact hP⟩, hS.F ht⟩) hS.2.2 dHart_longWithNumber_73
    · refine lv_aload_n hx hb dHart_longWithNumber_39 rfl (lv_at hl 4 rfl) ?_
      refine lv_iload_n hx hb dHart_longWithNumber_40 rfl (lv_at hl 3 rfl) ?_
      refine lv_iload hx hb dHart_longWithNumber_41 (lv_at hl 0 rfl) ?_
      refine lv_iload_n hx hb dHart_longWithNumber_43 rfl (lv_at hl 5 rfl) ?_
      refine mk_callR (va_runS (As := [.int a1]) (rest := [.int (hs_regs st ((hf_LongForm_a a1)).toNatClampNeg), .int (hf_LongForm_d a1), .ref h0]) ⟨hx, hb, hml, hown, hts⟩ (hc_LongForm_b l _ a1) (va_cwS 1 hts (mk_gS tw_201 tw_202 tw_54 tw_203) rfl rfl rfl hdLF_b.2 ⟨Nat.le_of_ble_eq_true rfl, Nat.le_of_ble_eq_true rfl⟩) mk_preS rfl rfl hl.1 rfl (lv_room (Nat.le_of_ble_eq_true rfl)) dHart_longWithNumber_44 ⟨Nat.zero_le _, Nat.zero_le _⟩) ?_
      refine lv_ishr hx hb dHart_longWithNumber_47 ?_
      refine mk_callW (va_runV (As := [.int (hf_LongForm_d a1), .int ((hs_regs st ((hf_LongForm_a a1)).toNatClampNeg) >>> ((hf_LongForm_b a1) &&& 31))]) (rest := []) ⟨hx, hb, hml, hown, hts⟩ (hc_RiscHart_give l hP hD (hf_LongForm_d a1) ((hs_regs st ((hf_LongForm_a a1)).toNatClampNeg) >>> ((hf_LongForm_b a1) &&& 31)) (in_LongForm_d _)) (cwV 2 hts (mk_gV tw_170 tw_172 tw_4 tw_46 tw_173) rfl rfl rfl hdHart_give ⟨Nat.le_of_ble_eq_true rfl, Nat.le_of_ble_eq_true rfl⟩) (mk_preVK hK (va_recv hK hP (ci := 0) (q0 := 0) rfl rfl)) rfl rfl hl.1 rfl (lv_room (Nat.le_of_ble_eq_true rfl)) dHart_longWithNumber_48 ⟨Nat.zero_le _, Nat.zero_le _⟩) hS (fun H locs hP hS => ?_)
      exact W.iret hx hb hr (fun t ht hW => ⟨⟨_, (hf_RiscHart_give st (hf_LongForm_d a1) ((hs_regs st ((hf_LongForm_a a1)).toNatClampNeg) >>> ((hf_LongForm_b a1) &&& 31))).2, rfl, (by unfold hf_RiscHart_longWithNumber; rw [if_pos c_1, if_pos c_5]), by show va_P D hcl _ t.heap; rw [ht]; exact hP⟩, hS.F ht⟩) hS.2.2 dHart_longWithNumber_51
set_option maxHeartbeats 4000000 in
set_option maxRecDepth 100000 in
theorem hc_RiscHart_longWithRegisters (l : Launch) {D : va_G} {cR cW cP : ClassId} {h0 h1 h2 h3 h4 : Nat} {A : Nat → Prop} {st : HS} {G : Heap} (hP : va_P D hcl (hs_W cR cW cP h0 h1 h2 h3 h4 st) G) (hD : ∀ z, va_D A (hs_W cR cW cP h0 h1 h2 h3 h4 z)) (a1 : Int32)  : Met l yHart_longWithRegisters (wq yHart_longWithRegisters cHart_longWithRegisters 6 (some .int)) ({ frames := 2, cells := 0, slots := 0, locals := 45 }) (mk_PK D hcl [(cR, .int), (cW, .int), (cP, .int)] G [.ref h0, .int a1]) (mk_Wi (fun u t => va_P D hcl (hs_W cR cW cP h0 h1 h2 h3 h4 u) t) A (hf_RiscHart_longWithRegisters st a1)) 0 0 A := by
  refine Met.ofW (cc := cHart_longWithRegisters) (maxL := 6) (ret := (some .int)) (by decide) rfl ?_
  intro p e s m args below meth c s₁ B hml hv
  obtain ⟨rfl, hG, hK⟩ := hv
  subst hG
  have hx := B.exec
  have hb := B.bytes
  have hr := B.returns
  have hts := atoms_spec (ws := (wq yHart_longWithRegisters cHart_longWithRegisters 6 (some .int))) B.pre
  have hown : s.vm.findClass RHart = some m.cls := findClass_of_methodNamed B.named
  have hlocks := B.notSynchronized
  have hg : ∀ w ∈ lw_g, w.before _ s = true := fun w h => hts w (List.mem_cons_of_mem _ h)
  have hS : va_S A s.heap s.heap [] := va_S.rf
  have hl := lv_entry ([.ref h0, .int a1]) (n := 6) (Nat.le_of_ble_eq_true rfl)
  rw [lg_entry_eq]
  generalize (lg_sl ([.ref h0, .int a1]) ++ List.replicate (6 - (lg_sl ([.ref h0, .int a1])).length) Slot.unset).toArray = ls at hl ⊢
  have hl : lv_has ls 6 [(0, .ref h0), (1, .int a1)] := hl
  refine lv_iload_n hx hb dHart_longWithRegisters_0 rfl (lv_at hl 1 rfl) ?_
  refine mk_callR (va_runS (As := [.int a1]) (rest := []) ⟨hx, hb, hml, hown, hts⟩ (hc_LongForm_d l _ a1) (va_cwS 1 hts (mk_gS tw_161 tw_162 tw_54 tw_163) rfl rfl rfl hdLF_d.2 ⟨Nat.le_of_ble_eq_true rfl, Nat.le_of_ble_eq_true rfl⟩) mk_preS rfl rfl hl.1 rfl (lv_room (Nat.le_of_ble_eq_true rfl)) dHart_longWithRegisters_1 ⟨Nat.zero_le _, Nat.zero_le _⟩) ?_
  refine lv_istore_n (lv' := [(2, .int (hf_LongForm_d a1)), (0, .ref h0), (1, .int a1)]) hx hb dHart_longWithRegisters_4 rfl hl (by decide) rfl (fun ls hl => ?_)
  refine lv_iload_n hx hb dHart_longWithRegisters_5 rfl (lv_at hl 2 rfl) ?_
  refine mk_callR (va_runS (As := [.int a1]) (rest := []) ⟨hx, hb, hml, hown, hts⟩ (hc_LongForm_f l _ a1) (va_cwS 1 hts (mk_gS tw_188 tw_189 tw_54 tw_190) rfl rfl rfl hdLF_f.2 ⟨Nat.le_of_ble_eq_true rfl, Nat.le_of_ble_eq_true rfl⟩) mk_preS rfl rfl hl.1 rfl (lv_room (Nat.le_of_ble_eq_true rfl)) dHart_longWithRegisters_6 ⟨Nat.zero_le _, Nat.zero_le _⟩) ?_
  refine lv_istore_n (lv' := [(3, .int (hf_LongForm_f a1)), (2, .int (hf_LongForm_d a1)), (0, .ref h0), (1, .int a1)]) hx hb dHart_longWithRegisters_9 rfl hl (by decide) rfl (fun ls hl => ?_)
  refine lv_aload_n hx hb dHart_longWithRegisters_10 rfl (lv_at hl 2 rfl) ?_
  refine va_get (D := D) (ci := 0) (v := .ref h2) (C := RHart) (T := THart) (N := 8) hx hb hg inHart hown hK hP 0 rfl rfl 1 (by decide) (hg _ tw_84) (fun _ h9 => h9) rfl dHart_longWithRegisters_11 ?_
  refine lv_iload_n hx hb dHart_longWithRegisters_14 rfl (lv_at hl 3 rfl) ?_
  refine mk_callR (va_runS (As := [.int a1]) (rest := [.ref h2]) ⟨hx, hb, hml, hown, hts⟩ (hc_LongForm_a l _ a1) (va_cwS 1 hts (mk_gS tw_191 tw_192 tw_54 tw_193) rfl rfl rfl hdLF_a.2 ⟨Nat.le_of_ble_eq_true rfl, Nat.le_of_ble_eq_true rfl⟩) mk_preS rfl rfl hl.1 rfl (lv_room (Nat.le_of_ble_eq_true rfl)) dHart_longWithRegisters_15 ⟨Nat.zero_le _, Nat.zero_le _⟩) ?_
  refine va_iald (D := D) (f := hs_regs st) hx hb hK hP 2 0 rfl rfl (in_LongForm_a _) dHart_longWithRegisters_18 ?_
  refine lv_istore (lv' := [(4, .int (hs_regs st ((hf_LongForm_a a1)).toNatClampNeg)), (3, .int (hf_LongForm_f a1)), (2, .int (hf_LongForm_d a1)), (0, .ref h0), (1, .int a1)]) hx hb dHart_longWithRegisters_19 hl (by decide) rfl (fun ls hl => ?_)
  refine lv_aload_n hx hb dHart_longWithRegisters_21 rfl (lv_at hl 3 rfl) ?_
  refine va_get (D := D) (ci := 0) (v := .ref h2) (C := RHart) (T := THart) (N := 8) hx hb hg inHart hown hK hP 0 rfl rfl 1 (by decide) (hg _ tw_84) (fun _ h9 => h9) rfl dHart_longWithRegisters_22 ?_
  refine lv_iload_n hx hb dHart_longWithRegisters_25 rfl (lv_at hl 4 rfl) ?_
  refine mk_callR (va_runS (As := [.int a1]) (rest := [.ref h2]) ⟨hx, hb, hml, hown, hts⟩ (hc_LongForm_b l _ a1) (va_cwS 1 hts (mk_gS tw_201 tw_202 tw_54 tw_203) rfl rfl rfl hdLF_b.2 ⟨Nat.le_of_ble_eq_true rfl, Nat.le_of_ble_eq_true rfl⟩) mk_preS rfl rfl hl.1 rfl (lv_room (Nat.le_of_ble_eq_true rfl)) dHart_longWithRegisters_26 ⟨Nat.zero_le _, Nat.zero_le _⟩) ?_
  refine va_iald (D := D) (f := hs_regs st) hx hb hK hP 2 0 rfl rfl (in_LongForm_b _) dHart_longWithRegisters_29 ?_
  refine lv_istore (lv' := [(5, .int (hs_regs st ((hf_LongForm_b a1)).toNatClampNeg)), (4, .int (hs_regs st ((hf_LongForm_a a1)).toNatClampNeg)), (3, .int (hf_LongForm_f a1)), (2, .int (hf_LongForm_d a1)), (0, .ref h0), (1, .int a1)]) hx hb dHart_longWithRegisters_30 hl (by decide) rfl (fun ls hl => ?_)
  refine lv_iload_n hx hb dHart_longWithRegisters_32 rfl (lv_at hl 5 rfl) ?_
  refine mk_callR (va_runS (As := [.int a1]) (rest := []) ⟨hx, hb, hml, hown, hts⟩ (hc_LongForm_g l _ a1) (va_cwS 1 hts (mk_gS tw_251 tw_233 tw_54 tw_234) rfl rfl rfl hdLF_g.2 ⟨Nat.le_of_ble_eq_true rfl, Nat.le_of_ble_eq_true rfl⟩) mk_preS rfl rfl hl.1 rfl (lv_room (Nat.le_of_ble_eq_true rfl)) dHart_longWithRegisters_33 ⟨Nat.zero_le _, Nat.zero_le _⟩) ?_
  by_cases c_1 : (hf_LongForm_g a1) = 0
  · refine lv_lookup (off := 36) (tgt := 72) hx hb dHart_longWithRegisters_36 (by decide) (by rw [c_1]; decide) (by decide) ?_
    refine lv_aload_n hx hb dHart_longWithRegisters_72 rfl (lv_at hl 4 rfl) ?_
    refine lv_iload_n hx hb dHart_longWithRegisters_73 rfl (lv_at hl 3 rfl) ?_
    refine lv_iload_n hx hb dHart_longWithRegisters_74 rfl (lv_at hl 2 rfl) ?_
    refine lv_iload hx hb dHart_longWithRegisters_75 (lv_at hl 1 rfl) ?_
    refine lv_iload hx hb dHart_longWithRegisters_77 (lv_at hl 0 rfl) ?_
    refine mk_callR (va_runS (As := [.int (hf_LongForm_f a1), .int (hs_regs st ((hf_LongForm_a a1)).toNatClampNeg), .int (hs_regs st ((hf_LongForm_b a1)).toNatClampNeg)]) (rest := [.int (hf_LongForm_d a1), .ref h0]) ⟨hx, hb, hml, hown, hts⟩ (hc_Arithmetic_plain l _ (hf_LongForm_f a1) (hs_regs st ((hf_LongForm_a a1)).toNatClampNeg) (hs_regs st ((hf_LongForm_b a1)).toNatClampNeg)) (va_cwS 3 hts (mk_gS tw_252 tw_253 tw_56 tw_254) rfl rfl rfl hdAr_plain.2 ⟨Nat.le_of_ble_eq_true rfl, Nat.le_of_ble_eq_true rfl⟩) mk_preS rfl rfl hl.1 rfl (lv_room (Nat.le_of_ble_eq_true rfl)) dHart_longWithRegisters_79 ⟨Nat.zero_le _, Nat.zero_le _⟩) ?_
    refine mk_callW (va_runV (As := [.int (hf_LongForm_d a1), .int (hf_Arithmetic_plain (hf_LongForm_f a1) (hs_regs st ((hf_LongForm_a a1)).toNatClampNeg) (hs_regs st ((hf_LongForm_b a1)).toNatClampNeg))]) (rest := []) ⟨hx, hb, hml, hown, hts⟩ (hc_RiscHart_give l hP hD (hf_LongForm_d a1) (hf_Arithmetic_plain (hf_LongForm_f a1) (hs_regs st ((hf_LongForm_a a1)).toNatClampNeg) (hs_regs st ((hf_LongForm_b a1)).toNatClampNeg)) (in_LongForm_d _)) (cwV 2 hts (mk_gV tw_170 tw_172 tw_4 tw_46 tw_173) rfl rfl rfl hdHart_give ⟨Nat.le_of_ble_eq_true rfl, Nat.le_of_ble_eq_true rfl⟩) (mk_preVK hK (va_recv hK hP (ci := 0) (q0 := 0) rfl rfl)) rfl rfl hl.1 rfl (lv_room (Nat.le_of_ble_eq_true rfl)) dHart_longWithRegisters_82 ⟨Nat.zero_le _, Nat.zero_le _⟩) hS (fun H locs hP hS => ?_)
    exact W.iret hx hb hr (fun t ht hW => ⟨⟨_, (hf_RiscHart_give st (hf_LongForm_d a1) (hf_Arithmetic_plain (hf_LongForm_f a1) (hs_regs st ((hf_LongForm_a a1)).toNatClampNeg) (hs_regs st ((hf_LongForm_b a1)).toNatClampNeg))).2, rfl, (by unfold hf_RiscHart_longWithRegisters; rw [if_pos c_1]), by show va_P D hcl _ t.heap; rw [ht]; exact hP⟩, hS.F ht⟩) hS.2.2 dHart_longWithRegisters_85
  by_cases c_2 : (hf_LongForm_g a1) = 1
  · refine lv_lookup (off := 50) (tgt := 86) hx hb dHart_longWithRegisters_36 (by decide) (by rw [c_2]; decide) (by decide) ?_
    refine lv_aload_n hx hb dHart_longWithRegisters_86 rfl (lv_at hl 4 rfl) ?_
    refine lv_iload_n hx hb dHart_longWithRegisters_87 rfl (lv_at hl 3 rfl) ?_
    refine lv_iload_n hx hb dHart_longWithRegisters_88 rfl (lv_at hl 2 rfl) ?_
    refine lv_iload hx hb dHart_longWithRegisters_89 (lv_at hl 1 rfl) ?_
    refine lv_iload hx hb dHart_longWithRegisters_91 (lv_at hl 0 rfl) ?_
    refine mk_callR (va_runS (As := [.int (hf_LongForm_f a1), .int (hs_regs st ((hf_LongForm_a a1)).toNatClampNeg), .int (hs_regs st ((hf_LongForm_b a1)).toNatClampNeg)]) (rest := [.int (hf_LongForm_d a1), .ref h0]) ⟨hx, hb, hml, hown, hts⟩ (hc_Arithmetic_multipliedOrDivided l _ (hf_LongForm_f a1) (hs_regs st ((hf_LongForm_a a1)).toNatClampNeg) (hs_regs st ((hf_LongForm_b a1)).toNatClampNeg)) (va_cwS 3 hts (mk_gS tw_260 tw_261 tw_56 tw_262) rfl rfl rfl hdAr_multipliedOrDivided.2 ⟨Nat.le_of_ble_eq_true rfl, Nat.le_of_ble_eq_true rfl⟩) mk_preS rfl rfl hl.1 rfl (lv_room (Nat.le_of_ble_eq_true rfl)) dHart_longWithRegisters_93 ⟨Nat.zero_le _, Nat.zero_le _⟩) ?_
    refine mk_callW (va_runV (As := [.int (hf_LongForm_d a1), .int (hf_Arithmetic_multipliedOrDivided (hf_LongForm_f a1) (hs_regs st ((hf_LongForm_a a1)).toNatClampNeg) (hs_regs st ((hf_LongForm_b a1)).toNatClampNeg))]) (rest := []) ⟨hx, hb, hml, hown, hts⟩ (hc_RiscHart_give l hP hD (hf_LongForm_d a1) (hf_Arithmetic_multipliedOrDivided (hf_LongForm_f a1) (hs_regs st ((hf_LongForm_a a1)).toNatClampNeg) (hs_regs st ((hf_LongForm_b a1)).toNatClampNeg)) (in_LongForm_d _)) (cwV 2 hts (mk_gV tw_170 tw_172 tw_4 tw_46 tw_173) rfl rfl rfl hdHart_give ⟨Nat.le_of_ble_eq_true rfl, Nat.le_of_ble_eq_true rfl⟩) (mk_preVK hK (va_recv hK hP (ci := 0) (q0 := 0) rfl rfl)) rfl rfl hl.1 rfl (lv_room (Nat.le_of_ble_eq_true rfl)) dHart_longWithRegisters_96 ⟨Nat.zero_le _, Nat.zero_le _⟩) hS (fun H locs hP hS => ?_)
    exact W.iret hx hb hr (fun t ht hW => ⟨⟨_, (hf_RiscHart_give st (hf_LongForm_d a1) (hf_Arithmetic_multipliedOrDivided (hf_LongForm_f a1) (hs_regs st ((hf_LongForm_a a1)).toNatClampNeg) (hs_regs st ((hf_LongForm_b a1)).toNatClampNeg))).2, rfl, (by unfold hf_RiscHart_longWithRegisters; rw [if_neg c_1, if_pos c_2]), by show va_P D hcl _ t.heap; rw [ht]; exact hP⟩, hS.F ht⟩) hS.2.2 dHart_longWithRegisters_99
  by_cases c_3 : (hf_LongForm_g a1) = 32
  · refine lv_lookup (off := 64) (tgt := 100) hx hb dHart_longWithRegisters_36 (by decide) (by rw [c_3]; decide) (by decide) ?_
    refine lv_iload_n hx hb dHart_longWithRegisters_100 rfl (lv_at hl 2 rfl) ?_
    refine lv_if_ne (tgt := 115) hx hb dHart_longWithRegisters_101 (by decide) (fun c_4 => ?_) (fun c_4 => ?_)
    · refine lv_iload_n hx hb dHart_longWithRegisters_115 rfl (lv_at hl 2 rfl) ?_
      refine lv_iconst (v := 5) hx hb dHart_longWithRegisters_116 (by decide) ?_
      refine lv_icmp_ne (tgt := 136) hx hb dHart_longWithRegisters_117 (by decide) (fun c_5 => ?_) (fun c_5 => ?_)
      · refine lv_aload_n hx hb dHart_longWithRegisters_136 rfl (lv_at hl 4 rfl) ?_
        refine lv_iconst (v := 2) hx hb dHart_longWithRegisters_137 (by decide) ?_
        refine lv_iload_n hx hb dHart_longWithRegisters_138 rfl (lv_at hl 5 rfl) ?_
        refine mk_callW (va_runV (As := [.int 2, .int a1]) (rest := []) ⟨hx, hb, hml, hown, hts⟩ (hc_RiscHart_trap l hP hD 2 a1) (cwV 2 hts (mk_gV tw_139 tw_141 tw_1 tw_46 tw_142) rfl rfl rfl hdHart_trap ⟨Nat.le_of_ble_eq_true rfl, Nat.le_of_ble_eq_true rfl⟩) (mk_preVK hK (va_recv hK hP (ci := 0) (q0 := 0) rfl rfl)) rfl rfl hl.1 rfl (lv_room (Nat.le_of_ble_eq_true rfl)) dHart_longWithRegisters_139 ⟨Nat.zero_le _, Nat.zero_le _⟩) hS (fun H locs hP hS => ?_)
        exact W.iret hx hb hr (fun t ht hW => ⟨⟨_, (hf_RiscHart_trap st 2 a1).2, rfl, (by unfold hf_RiscHart_longWithRegisters; rw [if_neg c_1, if_neg c_2, if_pos c_3, if_neg c_4, if_neg c_5]), by show va_P D hcl _ t.heap; rw [ht]; exact hP⟩, hS.F ht⟩) hS.2.2 dHart_longWithRegisters_142
      · refine lv_aload_n hx hb dHart_longWithRegisters_120 rfl (lv_at hl 4 rfl) ?_
        refine lv_iload_n hx hb dHart_longWithRegisters_121 rfl (lv_at hl 3 rfl) ?_
        refine lv_iload hx hb dHart_longWithRegisters_122 (lv_at hl 1 rfl) ?_
        refine lv_iload hx hb dHart_longWithRegisters_124 (lv_at hl 0 rfl) ?_
        refine lv_bipush (v := 31) hx hb dHart_longWithRegisters_126 (by decide) ?_
        refine lv_iand hx hb dHart_longWithRegisters_128 ?_
        refine lv_ishr hx hb dHart_longWithRegisters_129 ?_
        refine mk_callW (va_runV (As := [.int (hf_LongForm_d a1), .int ((hs_regs st ((hf_LongForm_a a1)).toNatClampNeg) >>> (((hs_regs st ((hf_LongForm_b a1)).toNatClampNeg) &&& 31) &&& 31))]) (rest := []) ⟨hx, hb, hml, hown, hts⟩ (hc_RiscHart_give l hP hD (hf_LongForm_d a1) ((hs_regs st ((hf_LongForm_a a1)).toNatClampNeg) >>> (((hs_regs st ((hf_LongForm_b a1)).toNatClampNeg) &&& 31) &&& 31)) (in_LongForm_d _)) (cwV 2 hts (mk_gV tw_170 tw_172 tw_4 tw_46 tw_173) rfl rfl rfl hdHart_give ⟨Nat.le_of_ble_eq_true rfl, Nat.le_of_ble_eq_true rfl⟩) (mk_preVK hK (va_recv hK hP (ci := 0) (q0 := 0) rfl rfl)) rfl rfl hl.1 rfl (lv_room (Nat.le_of_ble_eq_true rfl)) dHart_longWithRegisters_130 ⟨Nat.zero_le _, Nat.zero_le _⟩) hS (fun H locs hP hS => ?_)
        refine lv_goto (tgt := 142) hx hb dHart_longWithRegisters_133 (by decide) ?_
        exact W.iret hx hb hr (fun t ht hW => ⟨⟨_, (hf_RiscHart_give st (hf_LongForm_d a1) ((hs_regs st ((hf_LongForm_a a1)).toNatClampNeg) >>> (((hs_regs st ((hf_LongForm_b a1)).toNatClampNeg) &&& 31) &&& 31))).2, rfl, (by unfold hf_RiscHart_longWithRegisters; rw [if_neg c_1, if_neg c_2, if_pos c_3, if_neg c_4, if_pos c_5]), by show va_P D hcl _ t.heap; rw [ht]; exact hP⟩, hS.F ht⟩) hS.2.2 dHart_longWithRegisters_142
    · refine lv_aload_n hx hb dHart_longWithRegisters_104 rfl (lv_at hl 4 rfl) ?_
      refine lv_iload_n hx hb dHart_longWithRegisters_105 rfl (lv_at hl 3 rfl) ?_
      refine lv_iload hx hb dHart_longWithRegisters_106 (lv_at hl 1 rfl) ?_
      refine lv_iload hx hb dHart_longWithRegisters_108 (lv_at hl 0 rfl) ?_
      refine lv_isub hx hb dHart_longWithRegisters_110 ?_
      refine mk_callW (va_runV (As := [.int (hf_LongForm_d a1), .int ((hs_regs st ((hf_LongForm_a a1)).toNatClampNeg) - (hs_regs st ((hf_LongForm_b a1)).toNatClampNeg))]) (rest := []) ⟨hx, hb, hml, hown, hts⟩ (hc_RiscHart_give l hP hD (hf_LongForm_d a1) ((hs_regs st ((hf_LongForm_a a1)).toNatClampNeg) - (hs_regs st ((hf_LongForm_b a1)).toNatClampNeg)) (in_LongForm_d _)) (cwV 2 hts (mk_gV tw_170 tw_172 tw_4 tw_46 tw_173) rfl rfl rfl hdHart_give ⟨Nat.le_of_ble_eq_true rfl, Nat.le_of_ble_eq_true rfl⟩) (mk_preVK hK (va_recv hK hP (ci := 0) (q0 := 0) rfl rfl)) rfl rfl hl.1 rfl (lv_room (Nat.le_of_ble_eq_true rfl)) dHart_longWithRegisters_111 ⟨Nat.zero_le _, Nat.zero_le _⟩) hS (fun H locs hP hS => ?_)
      exact W.iret hx hb hr (fun t ht hW => ⟨⟨_, (hf_RiscHart_give st (hf_LongForm_d a1) ((hs_regs st ((hf_LongForm_a a1)).toNatClampNeg) - (hs_regs st ((hf_LongForm_b a1)).toNatClampNeg))).2, rfl, (by unfold hf_RiscHart_longWithRegisters; rw [if_neg c_1, if_neg c_2, if_pos c_3, if_pos c_4]), by show va_P D hcl _ t.heap; rw [ht]; exact hP⟩, hS.F ht⟩) hS.2.2 dHart_longWithRegisters_114
  refine lv_lookup (off := 107) (tgt := 143) hx hb dHart_longWithRegisters_36 (by decide) ((lv_osw (a := 0) c_1 rfl).trans ((lv_osw (a := 1) c_2 rfl).trans ((lv_osw (a := 32) c_3 rfl).trans (rfl)))) (by decide) ?_
  refine lv_aload_n hx hb dHart_longWithRegisters_143 rfl (lv_at hl 4 rfl) ?_
  refine lv_iconst (v := 2) hx hb dHart_longWithRegisters_144 (by decide) ?_
  refine lv_iload_n hx hb dHart_longWithRegisters_145 rfl (lv_at hl 5 rfl) ?_
  refine mk_callW (va_runV (As := [.int 2, .int a1]) (rest := []) ⟨hx, hb, hml, hown, hts⟩ (hc_RiscHart_trap l hP hD 2 a1) (cwV 2 hts (mk_gV tw_139 tw_141 tw_1 tw_46 tw_142) rfl rfl rfl hdHart_trap ⟨Nat.le_of_ble_eq_true rfl, Nat.le_of_ble_eq_true rfl⟩) (mk_preVK hK (va_recv hK hP (ci := 0) (q0 := 0) rfl rfl)) rfl rfl hl.1 rfl (lv_room (Nat.le_of_ble_eq_true rfl)) dHart_longWithRegisters_146 ⟨Nat.zero_le _, Nat.zero_le _⟩) hS (fun H locs hP hS => ?_)
  exact W.iret hx hb hr (fun t ht hW => ⟨⟨_, (hf_RiscHart_trap st 2 a1).2, rfl, (by unfold hf_RiscHart_longWithRegisters; rw [if_neg c_1, if_neg c_2, if_neg c_3]), by show va_P D hcl _ t.heap; rw [ht]; exact hP⟩, hS.F ht⟩) hS.2.2 dHart_longWithRegisters_149
set_option maxHeartbeats 4000000 in
set_option maxRecDepth 100000 in
theorem hc_Memory_reserve (l : Launch) {D : va_G} {cR cW cP : ClassId} {h0 h1 h2 h3 h4 : Nat} {A : Nat → Prop} {st : HS} {G : Heap} (hP : va_P D hcl (hs_W cR cW cP h0 h1 h2 h3 h4 st) G) (hD : ∀ z, va_D A (hs_W cR cW cP h0 h1 h2 h3 h4 z)) (a1 : Int32)  : Met l yMem_reserve (wq yMem_reserve cMem_reserve 2 none) ({ frames := 0, cells := 0, slots := 0, locals := 0 }) (mk_PK D hcl [(cR, .int), (cW, .int), (cP, .int)] G [.ref h1, .int a1]) (mk_Wv (fun u t => va_P D hcl (hs_W cR cW cP h0 h1 h2 h3 h4 u) t) A (hf_Memory_reserve st a1)) 0 0 A := by
  refine Met.ofW (cc := cMem_reserve) (maxL := 2) (ret := none) (by decide) rfl ?_
  intro p e s m args below meth c s₁ B hml hv
  obtain ⟨rfl, hG, hK⟩ := hv
  subst hG
  have hx := B.exec
  have hb := B.bytes
  have hr := B.returns
  have hts := atoms_spec (ws := (wq yMem_reserve cMem_reserve 2 none)) B.pre
  have hown : s.vm.findClass RMem = some m.cls := findClass_of_methodNamed B.named
  have hlocks := B.notSynchronized
  have hg : ∀ w ∈ lw_g, w.before _ s = true := fun w h => hts w (List.mem_cons_of_mem _ h)
  have hS : va_S A s.heap s.heap [] := va_S.rf
  have hl := lv_entry ([.ref h1, .int a1]) (n := 2) (Nat.le_of_ble_eq_true rfl)
  rw [lg_entry_eq]
  generalize (lg_sl ([.ref h1, .int a1]) ++ List.replicate (2 - (lg_sl ([.ref h1, .int a1])).length) Slot.unset).toArray = ls at hl ⊢
  have hl : lv_has ls 2 [(0, .ref h1), (1, .int a1)] := hl
  refine lv_aload_n hx hb dMem_reserve_0 rfl (lv_at hl 0 rfl) ?_
  refine lv_iload_n hx hb dMem_reserve_1 rfl (lv_at hl 1 rfl) ?_
  refine va_put (D := D) (ci := 1) (v := .int a1) (ty := .int) (C := RMem) (T := TMem) (N := 3) hx hb hg inMem tyMem tyMem_ok nmMem hown hK hP (hD _) hS 1 rfl rfl 2 (by decide) (hg _ tw_74) (fun _ h9 => h9) rfl (by decide +kernel) rfl rfl (Nat.le_of_ble_eq_true rfl) dMem_reserve_2 (fun H locs hP _ hS => ?_)
  have hP : va_P D hcl (hs_W cR cW cP h0 h1 h2 h3 h4 (hs_set_reserved st a1)) H := hP
  exact W.vret hx hb hr (fun t ht hW => ⟨⟨(hs_set_reserved st a1), rfl, rfl, by show va_P D hcl _ t.heap; rw [ht]; exact hP⟩, hS.F ht⟩) hS.2.2 dMem_reserve_5
set_option maxHeartbeats 4000000 in
set_option maxRecDepth 100000 in
theorem hc_RiscHart_loadReserved (l : Launch) {D : va_G} {cR cW cP : ClassId} {h0 h1 h2 h3 h4 : Nat} {A : Nat → Prop} {st : HS} {G : Heap} (hP : va_P D hcl (hs_W cR cW cP h0 h1 h2 h3 h4 st) G) (hD : ∀ z, va_D A (hs_W cR cW cP h0 h1 h2 h3 h4 z)) (a1 : Int32) (a2 : Int32) (hq1 : vp_in a1 32) : Met l yHart_loadReserved (wq yHart_loadReserved cHart_loadReserved 3 (some .int)) ({ frames := 2, cells := 0, slots := 0, locals := 44 }) (mk_PK D hcl [(cR, .int), (cW, .int), (cP, .int)] G [.ref h0, .int a1, .int a2]) (mk_Wi (fun u t => va_P D hcl (hs_W cR cW cP h0 h1 h2 h3 h4 u) t) A (hf_RiscHart_loadReserved st a1 a2)) 0 0 A := by
  refine Met.ofW (cc := cHart_loadReserved) (maxL := 3) (ret := (some .int)) (by decide) rfl ?_
  intro p e s m args below meth c s₁ B hml hv
  obtain ⟨rfl, hG, hK⟩ := hv
  subst hG
  have hx := B.exec
  have hb := B.bytes
  have hr := B.returns
  have hts := atoms_spec (ws := (wq yHart_loadReserved cHart_loadReserved 3 (some .int))) B.pre
  have hown : s.vm.findClass RHart = some m.cls := findClass_of_methodNamed B.named
  have hlocks := B.notSynchronized
  have hg : ∀ w ∈ lw_g, w.before _ s = true := fun w h => hts w (List.mem_cons_of_mem _ h)
  have hS : va_S A s.heap s.heap [] := va_S.rf
  have hl := lv_entry ([.ref h0, .int a1, .int a2]) (n := 3) (Nat.le_of_ble_eq_true rfl)
  rw [lg_entry_eq]
  generalize (lg_sl ([.ref h0, .int a1, .int a2]) ++ List.replicate (3 - (lg_sl ([.ref h0, .int a1, .int a2])).length) Slot.unset).toArray = ls at hl ⊢
  have hl : lv_has ls 3 [(0, .ref h0), (1, .int a1), (2, .int a2)] := hl
  refine lv_aload_n hx hb dHart_loadReserved_0 rfl (lv_at hl 0 rfl) ?_
  refine va_get (D := D) (ci := 0) (v := .ref h1) (C := RHart) (T := THart) (N := 8) hx hb hg inHart hown hK hP 0 rfl rfl 0 (by decide) (hg _ tw_83) (fun _ h9 => h9) rfl dHart_loadReserved_1 ?_
  refine lv_iload_n hx hb dHart_loadReserved_4 rfl (lv_at hl 2 rfl) ?_
  refine mk_callWv (va_runV (As := [.int a2]) (rest := []) ⟨hx, hb, hml, hown, hts⟩ (hc_Memory_reserve l hP hD a2) (cwV 1 hts (mk_gV tw_287 tw_288 tw_289 tw_47 tw_290) rfl rfl rfl hdMem_reserve ⟨Nat.le_of_ble_eq_true rfl, Nat.le_of_ble_eq_true rfl⟩) (mk_preVK hK (va_recv hK hP (ci := 1) (q0 := 1) rfl rfl)) rfl rfl hl.1 rfl (lv_room (Nat.le_of_ble_eq_true rfl)) dHart_loadReserved_5 ⟨Nat.zero_le _, Nat.zero_le _⟩) hS (fun H locs hP hS => ?_)
  refine lv_aload_n hx hb dHart_loadReserved_8 rfl (lv_at hl 0 rfl) ?_
  refine lv_iload_n hx hb dHart_loadReserved_9 rfl (lv_at hl 1 rfl) ?_
  refine lv_aload_n hx hb dHart_loadReserved_10 rfl (lv_at hl 0 rfl) ?_
  refine va_get (D := D) (ci := 0) (v := .ref h1) (C := RHart) (T := THart) (N := 8) hx hb hg inHart hown hK hP 0 rfl rfl 0 (by decide) (hg _ tw_83) (fun _ h9 => h9) rfl dHart_loadReserved_11 ?_
  refine lv_iconst (v := 2) hx hb dHart_loadReserved_14 (by decide) ?_
  refine lv_iload_n hx hb dHart_loadReserved_15 rfl (lv_at hl 2 rfl) ?_
  refine mk_callR (va_runV (As := [.int 2, .int a2]) (rest := [.int a1, .ref h0]) ⟨hx, hb, hml, hown, hts⟩ (hc_Memory_read l hP 2 a2) (cwV 2 hts (mk_gV tw_143 tw_144 tw_145 tw_47 tw_146) rfl rfl rfl hdMem_read ⟨Nat.le_of_ble_eq_true rfl, Nat.le_of_ble_eq_true rfl⟩) (mk_preVK hK (va_recv hK hP (ci := 1) (q0 := 1) rfl rfl)) rfl rfl hl.1 rfl (lv_room (Nat.le_of_ble_eq_true rfl)) dHart_loadReserved_16 ⟨Nat.zero_le _, Nat.zero_le _⟩) ?_
  refine mk_callW (va_runV (As := [.int a1, .int (hf_Memory_read (hf_Memory_reserve st a2) 2 a2)]) (rest := []) ⟨hx, hb, hml, hown, hts⟩ (hc_RiscHart_give l hP hD a1 (hf_Memory_read (hf_Memory_reserve st a2) 2 a2) hq1) (cwV 2 hts (mk_gV tw_170 tw_172 tw_4 tw_46 tw_173) rfl rfl rfl hdHart_give ⟨Nat.le_of_ble_eq_true rfl, Nat.le_of_ble_eq_true rfl⟩) (mk_preVK hK (va_recv hK hP (ci := 0) (q0 := 0) rfl rfl)) rfl rfl hl.1 rfl (lv_room (Nat.le_of_ble_eq_true rfl)) dHart_loadReserved_19 ⟨Nat.zero_le _, Nat.zero_le _⟩) hS (fun H locs hP hS => ?_)
  exact W.iret hx hb hr (fun t ht hW => ⟨⟨_, (hf_RiscHart_give (hf_Memory_reserve st a2) a1 (hf_Memory_read (hf_Memory_reserve st a2) 2 a2)).2, rfl, rfl, by show va_P D hcl _ t.heap; rw [ht]; exact hP⟩, hS.F ht⟩) hS.2.2 dHart_loadReserved_22
set_option maxHeartbeats 4000000 in
set_option maxRecDepth 100000 in
theorem hc_Memory_reservedAddress (l : Launch) {D : va_G} {cR cW cP : ClassId} {h0 h1 h2 h3 h4 : Nat} {st : HS} {G : Heap} (hP : va_P D hcl (hs_W cR cW cP h0 h1 h2 h3 h4 st) G)   : Met l yMem_reservedAddress (wq yMem_reservedAddress cMem_reservedAddress 1 (some .int)) ({ frames := 0, cells := 0, slots := 0, locals := 0 }) (mk_PK D hcl [(cR, .int), (cW, .int), (cP, .int)] G [.ref h1]) (mk_Qi G (hf_Memory_reservedAddress st)) 0 0 (fun _ => False) := by
  refine Met.ofW (cc := cMem_reservedAddress) (maxL := 1) (ret := (some .int)) (by decide) rfl ?_
  intro p e s m args below meth c s₁ B hml hv
  obtain ⟨rfl, hG, hK⟩ := hv
  subst hG
  have hx := B.exec
  have hb := B.bytes
  have hr := B.returns
  have hts := atoms_spec (ws := (wq yMem_reservedAddress cMem_reservedAddress 1 (some .int))) B.pre
  have hown : s.vm.findClass RMem = some m.cls := findClass_of_methodNamed B.named
  have hlocks := B.notSynchronized
  have hg : ∀ w ∈ lw_g, w.before _ s = true := fun w h => hts w (List.mem_cons_of_mem _ h)
  have hl := lv_entry ([.ref h1]) (n := 1) (Nat.le_of_ble_eq_true rfl)
  rw [lg_entry_eq]
  generalize (lg_sl ([.ref h1]) ++ List.replicate (1 - (lg_sl ([.ref h1])).length) Slot.unset).toArray = ls at hl ⊢
  have hl : lv_has ls 1 [(0, .ref h1)] := hl
  refine lv_aload_n hx hb dMem_reservedAddress_0 rfl (lv_at hl 0 rfl) ?_
  refine va_get (D := D) (ci := 1) (v := .int (hs_reserved st)) (C := RMem) (T := TMem) (N := 3) hx hb hg inMem hown hK hP 1 rfl rfl 2 (by decide) (hg _ tw_74) (fun _ h9 => h9) rfl dMem_reservedAddress_1 ?_
  exact W.iret hx hb hr (fun t ht hW => ⟨⟨_, (), rfl, rfl, ht⟩, mk_F ht⟩) (fun q h => nomatch h) dMem_reservedAddress_4
set_option maxHeartbeats 4000000 in
set_option maxRecDepth 100000 in
theorem hc_RiscHart_storeConditional (l : Launch) {D : va_G} {cR cW cP : ClassId} {h0 h1 h2 h3 h4 : Nat} {A : Nat → Prop} {st : HS} {G : Heap} (hP : va_P D hcl (hs_W cR cW cP h0 h1 h2 h3 h4 st) G) (hD : ∀ z, va_D A (hs_W cR cW cP h0 h1 h2 h3 h4 z)) (a1 : Int32) (a2 : Int32) (a3 : Int32) (hq1 : vp_in a1 32) : Met l yHart_storeConditional (wq yHart_storeConditional cHart_storeConditional 5 (some .int)) ({ frames := 2, cells := 0, slots := 0, locals := 45 }) (mk_PK D hcl [(cR, .int), (cW, .int), (cP, .int)] G [.ref h0, .int a1, .int a2, .int a3]) (mk_Wi (fun u t => va_P D hcl (hs_W cR cW cP h0 h1 h2 h3 h4 u) t) A (hf_RiscHart_storeConditional st a1 a2 a3)) 0 0 A := by
  refine Met.ofW (cc := cHart_storeConditional) (maxL := 5) (ret := (some .int)) (by decide) rfl ?_
  intro p e s m args below meth c s₁ B hml hv
  obtain ⟨rfl, hG, hK⟩ := hv
  subst hG
  have hx := B.exec
  have hb := B.bytes
  have hr := B.returns
  have hts := atoms_spec (ws := (wq yHart_storeConditional cHart_storeConditional 5 (some .int))) B.pre
  have hown : s.vm.findClass RHart = some m.cls := findClass_of_methodNamed B.named
  have hlocks := B.notSynchronized
  have hg : ∀ w ∈ lw_g, w.before _ s = true := fun w h => hts w (List.mem_cons_of_mem _ h)
  have hS : va_S A s.heap s.heap [] := va_S.rf
  have hl := lv_entry ([.ref h0, .int a1, .int a2, .int a3]) (n := 5) (Nat.le_of_ble_eq_true rfl)
  rw [lg_entry_eq]
  generalize (lg_sl ([.ref h0, .int a1, .int a2, .int a3]) ++ List.replicate (5 - (lg_sl ([.ref h0, .int a1, .int a2, .int a3])).length) Slot.unset).toArray = ls at hl ⊢
  have hl : lv_has ls 5 [(0, .ref h0), (1, .int a1), (2, .int a2), (3, .int a3)] := hl
  refine lv_aload_n hx hb dHart_storeConditional_0 rfl (lv_at hl 0 rfl) ?_
  refine va_get (D := D) (ci := 0) (v := .ref h1) (C := RHart) (T := THart) (N := 8) hx hb hg inHart hown hK hP 0 rfl rfl 0 (by decide) (hg _ tw_83) (fun _ h9 => h9) rfl dHart_storeConditional_1 ?_
  refine mk_callR (va_runV (As := []) (rest := []) ⟨hx, hb, hml, hown, hts⟩ (hc_Memory_reservedAddress l hP) (cwV 0 hts (mk_gV tw_295 tw_296 tw_297 tw_47 tw_298) rfl rfl rfl hdMem_reservedAddress ⟨Nat.le_of_ble_eq_true rfl, Nat.le_of_ble_eq_true rfl⟩) (mk_preVK hK (va_recv hK hP (ci := 1) (q0 := 1) rfl rfl)) rfl rfl hl.1 rfl (lv_room (Nat.le_of_ble_eq_true rfl)) dHart_storeConditional_4 ⟨Nat.zero_le _, Nat.zero_le _⟩) ?_
  refine lv_iload_n hx hb dHart_storeConditional_7 rfl (lv_at hl 2 rfl) ?_
  refine lv_icmp_ne (tgt := 15) hx hb dHart_storeConditional_8 (by decide) (fun c_1 => ?_) (fun c_1 => ?_)
  · refine lv_iconst (v := 0) hx hb dHart_storeConditional_15 (by decide) ?_
    refine lv_istore (lv' := [(4, .int 0), (0, .ref h0), (1, .int a1), (2, .int a2), (3, .int a3)]) hx hb dHart_storeConditional_16 hl (by decide) rfl (fun ls hl => ?_)
    refine lv_iload hx hb dHart_storeConditional_18 (lv_at hl 0 rfl) ?_
    refine lv_if_eq (tgt := 33) hx hb dHart_storeConditional_20 (by decide) (fun c_2 => ?_) (fun c_2 => ?_)
    · refine lv_aload_n hx hb dHart_storeConditional_33 rfl (lv_at hl 1 rfl) ?_
      refine va_get (D := D) (ci := 0) (v := .ref h1) (C := RHart) (T := THart) (N := 8) hx hb hg inHart hown hK hP 0 rfl rfl 0 (by decide) (hg _ tw_83) (fun _ h9 => h9) rfl dHart_storeConditional_34 ?_
      refine lv_iconst (v := (-1)) hx hb dHart_storeConditional_37 (by decide) ?_
      refine mk_callWv (va_runV (As := [.int (-1)]) (rest := []) ⟨hx, hb, hml, hown, hts⟩ (hc_Memory_reserve l hP hD (-1)) (cwV 1 hts (mk_gV tw_287 tw_288 tw_289 tw_47 tw_290) rfl rfl rfl hdMem_reserve ⟨Nat.le_of_ble_eq_true rfl, Nat.le_of_ble_eq_true rfl⟩) (mk_preVK hK (va_recv hK hP (ci := 1) (q0 := 1) rfl rfl)) rfl rfl hl.1 rfl (lv_room (Nat.le_of_ble_eq_true rfl)) dHart_storeConditional_38 ⟨Nat.zero_le _, Nat.zero_le _⟩) hS (fun H locs hP hS => ?_)
      refine lv_aload_n hx hb dHart_storeConditional_41 rfl (lv_at hl 1 rfl) ?_
      refine lv_iload_n hx hb dHart_storeConditional_42 rfl (lv_at hl 2 rfl) ?_
      refine lv_iload hx hb dHart_storeConditional_43 (lv_at hl 0 rfl) ?_
      refine lv_if_eq (tgt := 52) hx hb dHart_storeConditional_45 (by decide) (fun c_3 => ?_) (fun c_3 => ?_)
      · refine lv_iconst (v := 1) hx hb dHart_storeConditional_52 (by decide) ?_
        refine mk_callW (va_runV (As := [.int a1, .int 1]) (rest := []) ⟨hx, hb, hml, hown, hts⟩ (hc_RiscHart_give l hP hD a1 1 hq1) (cwV 2 hts (mk_gV tw_170 tw_172 tw_4 tw_46 tw_173) rfl rfl rfl hdHart_give ⟨Nat.le_of_ble_eq_true rfl, Nat.le_of_ble_eq_true rfl⟩) (mk_preVK hK (va_recv hK hP (ci := 0) (q0 := 0) rfl rfl)) rfl rfl hl.1 rfl (lv_room (Nat.le_of_ble_eq_true rfl)) dHart_storeConditional_53 ⟨Nat.zero_le _, Nat.zero_le _⟩) hS (fun H locs hP hS => ?_)
        exact W.iret hx hb hr (fun t ht hW => ⟨⟨_, (hf_RiscHart_give (hf_Memory_reserve st (-1)) a1 1).2, rfl, (by unfold hf_RiscHart_storeConditional; rw [if_neg c_1]), by show va_P D hcl _ t.heap; rw [ht]; exact hP⟩, hS.F ht⟩) hS.2.2 dHart_storeConditional_56
      · exact absurd c_3 (by decide)
    · exact absurd c_2 (by decide)
  · refine lv_iconst (v := 1) hx hb dHart_storeConditional_11 (by decide) ?_
    refine lv_goto (tgt := 16) hx hb dHart_storeConditional_12 (by decide) ?_
    refine lv_istore (lv' := [(4, .int 1), (0, .ref h0), (1, .int a1), (2, .int a2), (3, .int a3)]) hx hb dHart_storeConditional_16 hl (by decide) rfl (fun ls hl => ?_)
    refine lv_iload hx hb dHart_storeConditional_18 (lv_at hl 0 rfl) ?_
    refine lv_if_eq (tgt := 33) hx hb dHart_storeConditional_20 (by decide) (fun c_4 => ?_) (fun c_4 => ?_)
    · exact absurd c_4 (by decide)
    · refine lv_aload_n hx hb dHart_storeConditional_23 rfl (lv_at hl 1 rfl) ?_
      refine va_get (D := D) (ci := 0) (v := .ref h1) (C := RHart) (T := THart) (N := 8) hx hb hg inHart hown hK hP 0 rfl rfl 0 (by decide) (hg _ tw_83) (fun _ h9 => h9) rfl dHart_storeConditional_24 ?_
      refine lv_iconst (v := 2) hx hb dHart_storeConditional_27 (by decide) ?_
      refine lv_iload_n hx hb dHart_storeConditional_28 rfl (lv_at hl 3 rfl) ?_
      refine lv_iload_n hx hb dHart_storeConditional_29 rfl (lv_at hl 4 rfl) ?_
      refine mk_callWv (va_runV (As := [.int 2, .int a2, .int a3]) (rest := []) ⟨hx, hb, hml, hown, hts⟩ (hc_Memory_write l hP hD 2 a2 a3) (cwV 3 hts (mk_gV tw_240 tw_241 tw_242 tw_47 tw_243) rfl rfl rfl hdMem_write ⟨Nat.le_of_ble_eq_true rfl, Nat.le_of_ble_eq_true rfl⟩) (mk_preVK hK (va_recv hK hP (ci := 1) (q0 := 1) rfl rfl)) rfl rfl hl.1 rfl (lv_room (Nat.le_of_ble_eq_true rfl)) dHart_storeConditional_30 ⟨Nat.zero_le _, Nat.zero_le _⟩) hS (fun H locs hP hS => ?_)
      refine lv_aload_n hx hb dHart_storeConditional_33 rfl (lv_at hl 1 rfl) ?_
      refine va_get (D := D) (ci := 0) (v := .ref h1) (C := RHart) (T := THart) (N := 8) hx hb hg inHart hown hK hP 0 rfl rfl 0 (by decide) (hg _ tw_83) (fun _ h9 => h9) rfl dHart_storeConditional_34 ?_
      refine lv_iconst (v := (-1)) hx hb dHart_storeConditional_37 (by decide) ?_
      refine mk_callWv (va_runV (As := [.int (-1)]) (rest := []) ⟨hx, hb, hml, hown, hts⟩ (hc_Memory_reserve l hP hD (-1)) (cwV 1 hts (mk_gV tw_287 tw_288 tw_289 tw_47 tw_290) rfl rfl rfl hdMem_reserve ⟨Nat.le_of_ble_eq_true rfl, Nat.le_of_ble_eq_true rfl⟩) (mk_preVK hK (va_recv hK hP (ci := 1) (q0 := 1) rfl rfl)) rfl rfl hl.1 rfl (lv_room (Nat.le_of_ble_eq_true rfl)) dHart_storeConditional_38 ⟨Nat.zero_le _, Nat.zero_le _⟩) hS (fun H locs hP hS => ?_)
      refine lv_aload_n hx hb dHart_storeConditional_41 rfl (lv_at hl 1 rfl) ?_
      refine lv_iload_n hx hb dHart_storeConditional_42 rfl (lv_at hl 2 rfl) ?_
      refine lv_iload hx hb dHart_storeConditional_43 (lv_at hl 0 rfl) ?_
      refine lv_if_eq (tgt := 52) hx hb dHart_storeConditional_45 (by decide) (fun c_5 => ?_) (fun c_5 => ?_)
      · exact absurd c_5 (by decide)
      · refine lv_iconst (v := 0) hx hb dHart_storeConditional_48 (by decide) ?_
        refine lv_goto (tgt := 53) hx hb dHart_storeConditional_49 (by decide) ?_
        refine mk_callW (va_runV (As := [.int a1, .int 0]) (rest := []) ⟨hx, hb, hml, hown, hts⟩ (hc_RiscHart_give l hP hD a1 0 hq1) (cwV 2 hts (mk_gV tw_170 tw_172 tw_4 tw_46 tw_173) rfl rfl rfl hdHart_give ⟨Nat.le_of_ble_eq_true rfl, Nat.le_of_ble_eq_true rfl⟩) (mk_preVK hK (va_recv hK hP (ci := 0) (q0 := 0) rfl rfl)) rfl rfl hl.1 rfl (lv_room (Nat.le_of_ble_eq_true rfl)) dHart_storeConditional_53 ⟨Nat.zero_le _, Nat.zero_le _⟩) hS (fun H locs hP hS => ?_)
        exact W.iret hx hb hr (fun t ht hW => ⟨⟨_, (hf_RiscHart_give (hf_Memory_reserve (hf_Memory_write st 2 a2 a3) (-1)) a1 0).2, rfl, (by unfold hf_RiscHart_storeConditional; rw [if_pos c_1]), by show va_P D hcl _ t.heap; rw [ht]; exact hP⟩, hS.F ht⟩) hS.2.2 dHart_storeConditional_56
set_option maxHeartbeats 4000000 in
set_option maxRecDepth 100000 in
theorem hc_RiscHart_change (l : Launch) {D : va_G} {cR cW cP : ClassId} {h0 h1 h2 h3 h4 : Nat} {A : Nat → Prop} {st : HS} {G : Heap} (hP : va_P D hcl (hs_W cR cW cP h0 h1 h2 h3 h4 st) G) (hD : ∀ z, va_D A (hs_W cR cW cP h0 h1 h2 h3 h4 z)) (a1 : Int32) (a2 : Int32) (a3 : Int32) (a4 : Int32) (hq1 : vp_in a2 32) : Met l yHart_change (wq yHart_change cHart_change 6 (some .int)) ({ frames := 2, cells := 0, slots := 0, locals := 45 }) (mk_PK D hcl [(cR, .int), (cW, .int), (cP, .int)] G [.ref h0, .int a1, .int a2, .int a3, .int a4]) (mk_Wi (fun u t => va_P D hcl (hs_W cR cW cP h0 h1 h2 h3 h4 u) t) A (hf_RiscHart_change st a1 a2 a3 a4)) 0 0 A := by
  refine Met.ofW (cc := cHart_change) (maxL := 6) (ret := (some .int)) (by decide) rfl ?_
  intro p e s m args below meth c s₁ B hml hv
  obtain ⟨rfl, hG, hK⟩ := hv
  subst hG
  have hx := B.exec
  have hb := B.bytes
  have hr := B.returns
  have hts := atoms_spec (ws := (wq yHart_change cHart_change 6 (some .int))) B.pre
  have hown : s.vm.findClass RHart = some m.cls := findClass_of_methodNamed B.named
  have hlocks := B.notSynchronized
  have hg : ∀ w ∈ lw_g, w.before _ s = true := fun w h => hts w (List.mem_cons_of_mem _ h)
  have hS : va_S A s.heap s.heap [] := va_S.rf
  have hl := lv_entry ([.ref h0, .int a1, .int a2, .int a3, .int a4]) (n := 6) (Nat.le_of_ble_eq_true rfl)
  rw [lg_entry_eq]
  generalize (lg_sl ([.ref h0, .int a1, .int a2, .int a3, .int a4]) ++ List.replicate (6 - (lg_sl ([.ref h0, .int a1, .int a2, .int a3, .int a4])).length) Slot.unset).toArray = ls at hl ⊢
  have hl : lv_has ls 6 [(0, .ref h0), (1, .int a1), (2, .int a2), (3, .int a3), (4, .int a4)] := hl
  refine lv_aload_n hx hb dHart_change_0 rfl (lv_at hl 0 rfl) ?_
  refine va_get (D := D) (ci := 0) (v := .ref h1) (C := RHart) (T := THart) (N := 8) hx hb hg inHart hown hK hP 0 rfl rfl 0 (by decide) (hg _ tw_83) (fun _ h9 => h9) rfl dHart_change_1 ?_
  refine lv_iconst (v := 2) hx hb dHart_change_4 (by decide) ?_
  refine lv_iload_n hx hb dHart_change_5 rfl (lv_at hl 3 rfl) ?_
  refine mk_callR (va_runV (As := [.int 2, .int a3]) (rest := []) ⟨hx, hb, hml, hown, hts⟩ (hc_Memory_read l hP 2 a3) (cwV 2 hts (mk_gV tw_143 tw_144 tw_145 tw_47 tw_146) rfl rfl rfl hdMem_read ⟨Nat.le_of_ble_eq_true rfl, Nat.le_of_ble_eq_true rfl⟩) (mk_preVK hK (va_recv hK hP (ci := 1) (q0 := 1) rfl rfl)) rfl rfl hl.1 rfl (lv_room (Nat.le_of_ble_eq_true rfl)) dHart_change_6 ⟨Nat.zero_le _, Nat.zero_le _⟩) ?_
  refine lv_istore (lv' := [(5, .int (hf_Memory_read st 2 a3)), (0, .ref h0), (1, .int a1), (2, .int a2), (3, .int a3), (4, .int a4)]) hx hb dHart_change_9 hl (by decide) rfl (fun ls hl => ?_)
  refine lv_aload_n hx hb dHart_change_11 rfl (lv_at hl 1 rfl) ?_
  refine va_get (D := D) (ci := 0) (v := .ref h1) (C := RHart) (T := THart) (N := 8) hx hb hg inHart hown hK hP 0 rfl rfl 0 (by decide) (hg _ tw_83) (fun _ h9 => h9) rfl dHart_change_12 ?_
  refine lv_iconst (v := 2) hx hb dHart_change_15 (by decide) ?_
  refine lv_iload_n hx hb dHart_change_16 rfl (lv_at hl 4 rfl) ?_
  refine lv_iload_n hx hb dHart_change_17 rfl (lv_at hl 2 rfl) ?_
  refine lv_iload hx hb dHart_change_18 (lv_at hl 0 rfl) ?_
  refine lv_iload hx hb dHart_change_20 (lv_at hl 5 rfl) ?_
  refine mk_callR (va_runS (As := [.int a1, .int (hf_Memory_read st 2 a3), .int a4]) (rest := [.int a3, .int 2, .ref h1]) ⟨hx, hb, hml, hown, hts⟩ (hc_Arithmetic_changed l _ a1 (hf_Memory_read st 2 a3) a4) (va_cwS 3 hts (mk_gS tw_303 tw_304 tw_56 tw_305) rfl rfl rfl hdAr_changed.2 ⟨Nat.le_of_ble_eq_true rfl, Nat.le_of_ble_eq_true rfl⟩) mk_preS rfl rfl hl.1 rfl (lv_room (Nat.le_of_ble_eq_true rfl)) dHart_change_22 ⟨Nat.zero_le _, Nat.zero_le _⟩) ?_
  refine mk_callWv (va_runV (As := [.int 2, .int a3, .int (hf_Arithmetic_changed a1 (hf_Memory_read st 2 a3) a4)]) (rest := []) ⟨hx, hb, hml, hown, hts⟩ (hc_Memory_write l hP hD 2 a3 (hf_Arithmetic_changed a1 (hf_Memory_read st 2 a3) a4)) (cwV 3 hts (mk_gV tw_240 tw_241 tw_242 tw_47 tw_243) rfl rfl rfl hdMem_write ⟨Nat.le_of_ble_eq_true rfl, Nat.le_of_ble_eq_true rfl⟩) (mk_preVK hK (va_recv hK hP (ci := 1) (q0 := 1) rfl rfl)) rfl rfl hl.1 rfl (lv_room (Nat.le_of_ble_eq_true rfl)) dHart_change_25 ⟨Nat.zero_le _, Nat.zero_le _⟩) hS (fun H locs hP hS => ?_)
  refine lv_aload_n hx hb dHart_change_28 rfl (lv_at hl 1 rfl) ?_
  refine lv_iload_n hx hb dHart_change_29 rfl (lv_at hl 3 rfl) ?_
  refine lv_iload hx hb dHart_change_30 (lv_at hl 0 rfl) ?_
  refine mk_callW (va_runV (As := [.int a2, .int (hf_Memory_read st 2 a3)]) (rest := []) ⟨hx, hb, hml, hown, hts⟩ (hc_RiscHart_give l hP hD a2 (hf_Memory_read st 2 a3) hq1) (cwV 2 hts (mk_gV tw_170 tw_172 tw_4 tw_46 tw_173) rfl rfl rfl hdHart_give ⟨Nat.le_of_ble_eq_true rfl, Nat.le_of_ble_eq_true rfl⟩) (mk_preVK hK (va_recv hK hP (ci := 0) (q0 := 0) rfl rfl)) rfl rfl hl.1 rfl (lv_room (Nat.le_of_ble_eq_true rfl)) dHart_change_32 ⟨Nat.zero_le _, Nat.zero_le _⟩) hS (fun H locs hP hS => ?_)
  exact W.iret hx hb hr (fun t ht hW => ⟨⟨_, (hf_RiscHart_give (hf_Memory_write st 2 a3 (hf_Arithmetic_changed a1 (hf_Memory_read st 2 a3) a4)) a2 (hf_Memory_read st 2 a3)).2, rfl, rfl, by show va_P D hcl _ t.heap; rw [ht]; exact hP⟩, hS.F ht⟩) hS.2.2 dHart_change_35
set_option maxHeartbeats 4000000 in
set_option maxRecDepth 100000 in
theorem hc_RiscHart_longAtomic (l : Launch) {D : va_G} {cR cW cP : ClassId} {h0 h1 h2 h3 h4 : Nat} {A : Nat → Prop} {st : HS} {G : Heap} (hP : va_P D hcl (hs_W cR cW cP h0 h1 h2 h3 h4 st) G) (hD : ∀ z, va_D A (hs_W cR cW cP h0 h1 h2 h3 h4 z)) (a1 : Int32)  : Met l yHart_longAtomic (wq yHart_longAtomic cHart_longAtomic 6 (some .int)) ({ frames := 3, cells := 0, slots := 0, locals := 70 }) (mk_PK D hcl [(cR, .int), (cW, .int), (cP, .int)] G [.ref h0, .int a1]) (mk_Wi (fun u t => va_P D hcl (hs_W cR cW cP h0 h1 h2 h3 h4 u) t) A (hf_RiscHart_longAtomic st a1)) 0 0 A := by
  refine Met.ofW (cc := cHart_longAtomic) (maxL := 6) (ret := (some .int)) (by decide) rfl ?_
  intro p e s m args below meth c s₁ B hml hv
  obtain ⟨rfl, hG, hK⟩ := hv
  subst hG
  have hx := B.exec
  have hb := B.bytes
  have hr := B.returns
  have hts := atoms_spec (ws := (wq yHart_longAtomic cHart_longAtomic 6 (some .int))) B.pre
  have hown : s.vm.findClass RHart = some m.cls := findClass_of_methodNamed B.named
  have hlocks := B.notSynchronized
  have hg : ∀ w ∈ lw_g, w.before _ s = true := fun w h => hts w (List.mem_cons_of_mem _ h)
  have hS : va_S A s.heap s.heap [] := va_S.rf
  have hl := lv_entry ([.ref h0, .int a1]) (n := 6) (Nat.le_of_ble_eq_true rfl)
  rw [lg_entry_eq]
  generalize (lg_sl ([.ref h0, .int a1]) ++ List.replicate (6 - (lg_sl ([.ref h0, .int a1])).length) Slot.unset).toArray = ls at hl ⊢
  have hl : lv_has ls 6 [(0, .ref h0), (1, .int a1)] := hl
  refine lv_iload_n hx hb dHart_longAtomic_0 rfl (lv_at hl 1 rfl) ?_
  refine mk_callR (va_runS (As := [.int a1]) (rest := []) ⟨hx, hb, hml, hown, hts⟩ (hc_LongForm_isAtomic l _ a1) (va_cwS 1 hts (mk_gS tw_274 tw_275 tw_54 tw_276) rfl rfl rfl hdLF_isAtomic.2 ⟨Nat.le_of_ble_eq_true rfl, Nat.le_of_ble_eq_true rfl⟩) mk_preS rfl rfl hl.1 rfl (lv_room (Nat.le_of_ble_eq_true rfl)) dHart_longAtomic_1 ⟨Nat.zero_le _, Nat.zero_le _⟩) ?_
  refine lv_if_ne (tgt := 14) hx hb dHart_longAtomic_4 (by decide) (fun c_1 => ?_) (fun c_1 => ?_)
  · refine lv_iload_n hx hb dHart_longAtomic_14 rfl (lv_at hl 1 rfl) ?_
    refine mk_callR (va_runS (As := [.int a1]) (rest := []) ⟨hx, hb, hml, hown, hts⟩ (hc_LongForm_k l _ a1) (va_cwS 1 hts (mk_gS tw_282 tw_279 tw_54 tw_280) rfl rfl rfl hdLF_k.2 ⟨Nat.le_of_ble_eq_true rfl, Nat.le_of_ble_eq_true rfl⟩) mk_preS rfl rfl hl.1 rfl (lv_room (Nat.le_of_ble_eq_true rfl)) dHart_longAtomic_15 ⟨Nat.zero_le _, Nat.zero_le _⟩) ?_
    refine lv_istore_n (lv' := [(2, .int (hf_LongForm_k a1)), (0, .ref h0), (1, .int a1)]) hx hb dHart_longAtomic_18 rfl hl (by decide) rfl (fun ls hl => ?_)
    refine lv_aload_n hx hb dHart_longAtomic_19 rfl (lv_at hl 1 rfl) ?_
    refine va_get (D := D) (ci := 0) (v := .ref h2) (C := RHart) (T := THart) (N := 8) hx hb hg inHart hown hK hP 0 rfl rfl 1 (by decide) (hg _ tw_84) (fun _ h9 => h9) rfl dHart_longAtomic_20 ?_
    refine lv_iload_n hx hb dHart_longAtomic_23 rfl (lv_at hl 2 rfl) ?_
    refine mk_callR (va_runS (As := [.int a1]) (rest := [.ref h2]) ⟨hx, hb, hml, hown, hts⟩ (hc_LongForm_a l _ a1) (va_cwS 1 hts (mk_gS tw_191 tw_192 tw_54 tw_193) rfl rfl rfl hdLF_a.2 ⟨Nat.le_of_ble_eq_true rfl, Nat.le_of_ble_eq_true rfl⟩) mk_preS rfl rfl hl.1 rfl (lv_room (Nat.le_of_ble_eq_true rfl)) dHart_longAtomic_24 ⟨Nat.zero_le _, Nat.zero_le _⟩) ?_
    refine va_iald (D := D) (f := hs_regs st) hx hb hK hP 2 0 rfl rfl (in_LongForm_a _) dHart_longAtomic_27 ?_
    refine lv_istore_n (lv' := [(3, .int (hs_regs st ((hf_LongForm_a a1)).toNatClampNeg)), (2, .int (hf_LongForm_k a1)), (0, .ref h0), (1, .int a1)]) hx hb dHart_longAtomic_28 rfl hl (by decide) rfl (fun ls hl => ?_)
    refine lv_iconst (v := 2) hx hb dHart_longAtomic_29 (by decide) ?_
    refine lv_iload_n hx hb dHart_longAtomic_30 rfl (lv_at hl 0 rfl) ?_
    refine mk_callR (va_runS (As := [.int 2, .int (hs_regs st ((hf_LongForm_a a1)).toNatClampNeg)]) (rest := []) ⟨hx, hb, hml, hown, hts⟩ (hc_Memory_isMisaligned l _ 2 (hs_regs st ((hf_LongForm_a a1)).toNatClampNeg)) (va_cwS 2 hts (mk_gS tw_223 tw_129 tw_47 tw_130) rfl rfl rfl hdMem_isMisaligned.2 ⟨Nat.le_of_ble_eq_true rfl, Nat.le_of_ble_eq_true rfl⟩) mk_preS rfl rfl hl.1 rfl (lv_room (Nat.le_of_ble_eq_true rfl)) dHart_longAtomic_31 ⟨Nat.zero_le _, Nat.zero_le _⟩) ?_
    refine lv_if_eq (tgt := 44) hx hb dHart_longAtomic_34 (by decide) (fun c_2 => ?_) (fun c_2 => ?_)
    · refine lv_iload_n hx hb dHart_longAtomic_44 rfl (lv_at hl 1 rfl) ?_
      refine lv_iconst (v := 2) hx hb dHart_longAtomic_45 (by decide) ?_
      refine lv_icmp_eq (tgt := 69) hx hb dHart_longAtomic_46 (by decide) (fun c_3 => ?_) (fun c_3 => ?_)
      · refine lv_aload_n hx hb dHart_longAtomic_69 rfl (lv_at hl 2 rfl) ?_
        refine va_get (D := D) (ci := 0) (v := .ref h1) (C := RHart) (T := THart) (N := 8) hx hb hg inHart hown hK hP 0 rfl rfl 0 (by decide) (hg _ tw_83) (fun _ h9 => h9) rfl dHart_longAtomic_70 ?_
        refine lv_iconst (v := 1) hx hb dHart_longAtomic_73 (by decide) ?_
        refine lv_iload_n hx hb dHart_longAtomic_74 rfl (lv_at hl 0 rfl) ?_
        refine mk_callR (va_runV (As := [.int 1, .int (hs_regs st ((hf_LongForm_a a1)).toNatClampNeg)]) (rest := []) ⟨hx, hb, hml, hown, hts⟩ (hc_Memory_allows l hP 1 (hs_regs st ((hf_LongForm_a a1)).toNatClampNeg)) (cwV 2 hts (mk_gV tw_224 tw_132 tw_133 tw_47 tw_134) rfl rfl rfl hdMem_allows ⟨Nat.le_of_ble_eq_true rfl, Nat.le_of_ble_eq_true rfl⟩) (mk_preVK hK (va_recv hK hP (ci := 1) (q0 := 1) rfl rfl)) rfl rfl hl.1 rfl (lv_room (Nat.le_of_ble_eq_true rfl)) dHart_longAtomic_75 ⟨Nat.zero_le _, Nat.zero_le _⟩) ?_
        refine lv_if_ne (tgt := 89) hx hb dHart_longAtomic_78 (by decide) (fun c_4 => ?_) (fun c_4 => ?_)
        · refine lv_iload_n hx hb dHart_longAtomic_89 rfl (lv_at hl 3 rfl) ?_
          refine mk_callR (va_runS (As := [.int a1]) (rest := []) ⟨hx, hb, hml, hown, hts⟩ (hc_LongForm_d l _ a1) (va_cwS 1 hts (mk_gS tw_161 tw_162 tw_54 tw_163) rfl rfl rfl hdLF_d.2 ⟨Nat.le_of_ble_eq_true rfl, Nat.le_of_ble_eq_true rfl⟩) mk_preS rfl rfl hl.1 rfl (lv_room (Nat.le_of_ble_eq_true rfl)) dHart_longAtomic_90 ⟨Nat.zero_le _, Nat.zero_le _⟩) ?_
          refine lv_istore (lv' := [(4, .int (hf_LongForm_d a1)), (3, .int (hs_regs st ((hf_LongForm_a a1)).toNatClampNeg)), (2, .int (hf_LongForm_k a1)), (0, .ref h0), (1, .int a1)]) hx hb dHart_longAtomic_93 hl (by decide) rfl (fun ls hl => ?_)
          refine lv_aload_n hx hb dHart_longAtomic_95 rfl (lv_at hl 3 rfl) ?_
          refine va_get (D := D) (ci := 0) (v := .ref h2) (C := RHart) (T := THart) (N := 8) hx hb hg inHart hown hK hP 0 rfl rfl 1 (by decide) (hg _ tw_84) (fun _ h9 => h9) rfl dHart_longAtomic_96 ?_
          refine lv_iload_n hx hb dHart_longAtomic_99 rfl (lv_at hl 4 rfl) ?_
          refine mk_callR (va_runS (As := [.int a1]) (rest := [.ref h2]) ⟨hx, hb, hml, hown, hts⟩ (hc_LongForm_b l _ a1) (va_cwS 1 hts (mk_gS tw_201 tw_202 tw_54 tw_203) rfl rfl rfl hdLF_b.2 ⟨Nat.le_of_ble_eq_true rfl, Nat.le_of_ble_eq_true rfl⟩) mk_preS rfl rfl hl.1 rfl (lv_room (Nat.le_of_ble_eq_true rfl)) dHart_longAtomic_100 ⟨Nat.zero_le _, Nat.zero_le _⟩) ?_
          refine va_iald (D := D) (f := hs_regs st) hx hb hK hP 2 0 rfl rfl (in_LongForm_b _) dHart_longAtomic_103 ?_
          refine lv_istore (lv' := [(5, .int (hs_regs st ((hf_LongForm_b a1)).toNatClampNeg)), (4, .int (hf_LongForm_d a1)), (3, .int (hs_regs st ((hf_LongForm_a a1)).toNatClampNeg)), (2, .int (hf_LongForm_k a1)), (0, .ref h0), (1, .int a1)]) hx hb dHart_longAtomic_104 hl (by decide) rfl (fun ls hl => ?_)
          refine lv_iload_n hx hb dHart_longAtomic_106 rfl (lv_at hl 3 rfl) ?_
          refine lv_lookup (off := 25) (tgt := 132) hx hb dHart_longAtomic_107 (by decide) (by rw [c_3]; decide) (by decide) ?_
          refine lv_aload_n hx hb dHart_longAtomic_132 rfl (lv_at hl 4 rfl) ?_
          refine lv_iload hx hb dHart_longAtomic_133 (lv_at hl 1 rfl) ?_
          refine lv_iload_n hx hb dHart_longAtomic_135 rfl (lv_at hl 2 rfl) ?_
          refine mk_callW (va_runV (As := [.int (hf_LongForm_d a1), .int (hs_regs st ((hf_LongForm_a a1)).toNatClampNeg)]) (rest := []) ⟨hx, hb, hml, hown, hts⟩ (hc_RiscHart_loadReserved l hP hD (hf_LongForm_d a1) (hs_regs st ((hf_LongForm_a a1)).toNatClampNeg) (in_LongForm_d _)) (cwV 2 hts (mk_gV tw_283 tw_285 tw_16 tw_46 tw_286) rfl rfl rfl hdHart_loadReserved ⟨Nat.le_of_ble_eq_true rfl, Nat.le_of_ble_eq_true rfl⟩) (mk_preVK hK (va_recv hK hP (ci := 0) (q0 := 0) rfl rfl)) rfl rfl hl.1 rfl (lv_room (Nat.le_of_ble_eq_true rfl)) dHart_longAtomic_136 ⟨Nat.zero_le _, Nat.zero_le _⟩) hS (fun H locs hP hS => ?_)
          exact W.iret hx hb hr (fun t ht hW => ⟨⟨_, (hf_RiscHart_loadReserved st (hf_LongForm_d a1) (hs_regs st ((hf_LongForm_a a1)).toNatClampNeg)).2, rfl, (by unfold hf_RiscHart_longAtomic; rw [if_neg c_1, if_pos c_2, if_pos c_3, if_neg c_4]), by show va_P D hcl _ t.heap; rw [ht]; exact hP⟩, hS.F ht⟩) hS.2.2 dHart_longAtomic_139
        · refine lv_aload_n hx hb dHart_longAtomic_81 rfl (lv_at hl 2 rfl) ?_
          refine lv_bipush (v := 6) hx hb dHart_longAtomic_82 (by decide) ?_
          refine lv_iload_n hx hb dHart_longAtomic_84 rfl (lv_at hl 0 rfl) ?_
          refine mk_callW (va_runV (As := [.int 6, .int (hs_regs st ((hf_LongForm_a a1)).toNatClampNeg)]) (rest := []) ⟨hx, hb, hml, hown, hts⟩ (hc_RiscHart_trap l hP hD 6 (hs_regs st ((hf_LongForm_a a1)).toNatClampNeg)) (cwV 2 hts (mk_gV tw_139 tw_141 tw_1 tw_46 tw_142) rfl rfl rfl hdHart_trap ⟨Nat.le_of_ble_eq_true rfl, Nat.le_of_ble_eq_true rfl⟩) (mk_preVK hK (va_recv hK hP (ci := 0) (q0 := 0) rfl rfl)) rfl rfl hl.1 rfl (lv_room (Nat.le_of_ble_eq_true rfl)) dHart_longAtomic_85 ⟨Nat.zero_le _, Nat.zero_le _⟩) hS (fun H locs hP hS => ?_)
          exact W.iret hx hb hr (fun t ht hW => ⟨⟨_, (hf_RiscHart_trap st 6 (hs_regs st ((hf_LongForm_a a1)).toNatClampNeg)).2, rfl, (by unfold hf_RiscHart_longAtomic; rw [if_neg c_1, if_pos c_2, if_pos c_3, if_pos c_4]), by show va_P D hcl _ t.heap; rw [ht]; exact hP⟩, hS.F ht⟩) hS.2.2 dHart_longAtomic_88
      · refine lv_aload_n hx hb dHart_longAtomic_49 rfl (lv_at hl 2 rfl) ?_
        refine va_get (D := D) (ci := 0) (v := .ref h1) (C := RHart) (T := THart) (N := 8) hx hb hg inHart hown hK hP 0 rfl rfl 0 (by decide) (hg _ tw_83) (fun _ h9 => h9) rfl dHart_longAtomic_50 ?_
        refine lv_iconst (v := 2) hx hb dHart_longAtomic_53 (by decide) ?_
        refine lv_iload_n hx hb dHart_longAtomic_54 rfl (lv_at hl 0 rfl) ?_
        refine mk_callR (va_runV (As := [.int 2, .int (hs_regs st ((hf_LongForm_a a1)).toNatClampNeg)]) (rest := []) ⟨hx, hb, hml, hown, hts⟩ (hc_Memory_allows l hP 2 (hs_regs st ((hf_LongForm_a a1)).toNatClampNeg)) (cwV 2 hts (mk_gV tw_224 tw_132 tw_133 tw_47 tw_134) rfl rfl rfl hdMem_allows ⟨Nat.le_of_ble_eq_true rfl, Nat.le_of_ble_eq_true rfl⟩) (mk_preVK hK (va_recv hK hP (ci := 1) (q0 := 1) rfl rfl)) rfl rfl hl.1 rfl (lv_room (Nat.le_of_ble_eq_true rfl)) dHart_longAtomic_55 ⟨Nat.zero_le _, Nat.zero_le _⟩) ?_
        refine lv_if_ne (tgt := 69) hx hb dHart_longAtomic_58 (by decide) (fun c_5 => ?_) (fun c_5 => ?_)
        · refine lv_aload_n hx hb dHart_longAtomic_69 rfl (lv_at hl 2 rfl) ?_
          refine va_get (D := D) (ci := 0) (v := .ref h1) (C := RHart) (T := THart) (N := 8) hx hb hg inHart hown hK hP 0 rfl rfl 0 (by decide) (hg _ tw_83) (fun _ h9 => h9) rfl dHart_longAtomic_70 ?_
          refine lv_iconst (v := 1) hx hb dHart_longAtomic_73 (by decide) ?_
          refine lv_iload_n hx hb dHart_longAtomic_74 rfl (lv_at hl 0 rfl) ?_
          refine mk_callR (va_runV (As := [.int 1, .int (hs_regs st ((hf_LongForm_a a1)).toNatClampNeg)]) (rest := []) ⟨hx, hb, hml, hown, hts⟩ (hc_Memory_allows l hP 1 (hs_regs st ((hf_LongForm_a a1)).toNatClampNeg)) (cwV 2 hts (mk_gV tw_224 tw_132 tw_133 tw_47 tw_134) rfl rfl rfl hdMem_allows ⟨Nat.le_of_ble_eq_true rfl, Nat.le_of_ble_eq_true rfl⟩) (mk_preVK hK (va_recv hK hP (ci := 1) (q0 := 1) rfl rfl)) rfl rfl hl.1 rfl (lv_room (Nat.le_of_ble_eq_true rfl)) dHart_longAtomic_75 ⟨Nat.zero_le _, Nat.zero_le _⟩) ?_
          refine lv_if_ne (tgt := 89) hx hb dHart_longAtomic_78 (by decide) (fun c_6 => ?_) (fun c_6 => ?_)
          · refine lv_iload_n hx hb dHart_longAtomic_89 rfl (lv_at hl 3 rfl) ?_
            refine mk_callR (va_runS (As := [.int a1]) (rest := []) ⟨hx, hb, hml, hown, hts⟩ (hc_LongForm_d l _ a1) (va_cwS 1 hts (mk_gS tw_161 tw_162 tw_54 tw_163) rfl rfl rfl hdLF_d.2 ⟨Nat.le_of_ble_eq_true rfl, Nat.le_of_ble_eq_true rfl⟩) mk_preS rfl rfl hl.1 rfl (lv_room (Nat.le_of_ble_eq_true rfl)) dHart_longAtomic_90 ⟨Nat.zero_le _, Nat.zero_le _⟩) ?_
            refine lv_istore (lv' := [(4, .int (hf_LongForm_d a1)), (3, .int (hs_regs st ((hf_LongForm_a a1)).toNatClampNeg)), (2, .int (hf_LongForm_k a1)), (0, .ref h0), (1, .int a1)]) hx hb dHart_longAtomic_93 hl (by decide) rfl (fun ls hl => ?_)
            refine lv_aload_n hx hb dHart_longAtomic_95 rfl (lv_at hl 3 rfl) ?_
            refine va_get (D := D) (ci := 0) (v := .ref h2) (C := RHart) (T := THart) (N := 8) hx hb hg inHart hown hK hP 0 rfl rfl 1 (by decide) (hg _ tw_84) (fun _ h9 => h9) rfl dHart_longAtomic_96 ?_
            refine lv_iload_n hx hb dHart_longAtomic_99 rfl (lv_at hl 4 rfl) ?_
            refine mk_callR (va_runS (As := [.int a1]) (rest := [.ref h2]) ⟨hx, hb, hml, hown, hts⟩ (hc_LongForm_b l _ a1) (va_cwS 1 hts (mk_gS tw_201 tw_202 tw_54 tw_203) rfl rfl rfl hdLF_b.2 ⟨Nat.le_of_ble_eq_true rfl, Nat.le_of_ble_eq_true rfl⟩) mk_preS rfl rfl hl.1 rfl (lv_room (Nat.le_of_ble_eq_true rfl)) dHart_longAtomic_100 ⟨Nat.zero_le _, Nat.zero_le _⟩) ?_
            refine va_iald (D := D) (f := hs_regs st) hx hb hK hP 2 0 rfl rfl (in_LongForm_b _) dHart_longAtomic_103 ?_
            refine lv_istore (lv' := [(5, .int (hs_regs st ((hf_LongForm_b a1)).toNatClampNeg)), (4, .int (hf_LongForm_d a1)), (3, .int (hs_regs st ((hf_LongForm_a a1)).toNatClampNeg)), (2, .int (hf_LongForm_k a1)), (0, .ref h0), (1, .int a1)]) hx hb dHart_longAtomic_104 hl (by decide) rfl (fun ls hl => ?_)
            refine lv_iload_n hx hb dHart_longAtomic_106 rfl (lv_at hl 3 rfl) ?_
            by_cases c_7 : (hf_LongForm_k a1) = 2
            · refine lv_lookup (off := 25) (tgt := 132) hx hb dHart_longAtomic_107 (by decide) (by rw [c_7]; decide) (by decide) ?_
              refine lv_aload_n hx hb dHart_longAtomic_132 rfl (lv_at hl 4 rfl) ?_
              refine lv_iload hx hb dHart_longAtomic_133 (lv_at hl 1 rfl) ?_
              refine lv_iload_n hx hb dHart_longAtomic_135 rfl (lv_at hl 2 rfl) ?_
              refine mk_callW (va_runV (As := [.int (hf_LongForm_d a1), .int (hs_regs st ((hf_LongForm_a a1)).toNatClampNeg)]) (rest := []) ⟨hx, hb, hml, hown, hts⟩ (hc_RiscHart_loadReserved l hP hD (hf_LongForm_d a1) (hs_regs st ((hf_LongForm_a a1)).toNatClampNeg) (in_LongForm_d _)) (cwV 2 hts (mk_gV tw_283 tw_285 tw_16 tw_46 tw_286) rfl rfl rfl hdHart_loadReserved ⟨Nat.le_of_ble_eq_true rfl, Nat.le_of_ble_eq_true rfl⟩) (mk_preVK hK (va_recv hK hP (ci := 0) (q0 := 0) rfl rfl)) rfl rfl hl.1 rfl (lv_room (Nat.le_of_ble_eq_true rfl)) dHart_longAtomic_136 ⟨Nat.zero_le _, Nat.zero_le _⟩) hS (fun H locs hP hS => ?_)
              exact W.iret hx hb hr (fun t ht hW => ⟨⟨_, (hf_RiscHart_loadReserved st (hf_LongForm_d a1) (hs_regs st ((hf_LongForm_a a1)).toNatClampNeg)).2, rfl, (by unfold hf_RiscHart_longAtomic; rw [if_neg c_1, if_pos c_2, if_neg c_3, if_neg c_5, if_neg c_6, if_pos c_7]), by show va_P D hcl _ t.heap; rw [ht]; exact hP⟩, hS.F ht⟩) hS.2.2 dHart_longAtomic_139
            by_cases c_8 : (hf_LongForm_k a1) = 3
            · refine lv_lookup (off := 33) (tgt := 140) hx hb dHart_longAtomic_107 (by decide) (by rw [c_8]; decide) (by decide) ?_
              refine lv_aload_n hx hb dHart_longAtomic_140 rfl (lv_at hl 4 rfl) ?_
              refine lv_iload hx hb dHart_longAtomic_141 (lv_at hl 1 rfl) ?_
              refine lv_iload_n hx hb dHart_longAtomic_143 rfl (lv_at hl 2 rfl) ?_
              refine lv_iload hx hb dHart_longAtomic_144 (lv_at hl 0 rfl) ?_
              refine mk_callW (va_runV (As := [.int (hf_LongForm_d a1), .int (hs_regs st ((hf_LongForm_a a1)).toNatClampNeg), .int (hs_regs st ((hf_LongForm_b a1)).toNatClampNeg)]) (rest := []) ⟨hx, hb, hml, hown, hts⟩ (hc_RiscHart_storeConditional l hP hD (hf_LongForm_d a1) (hs_regs st ((hf_LongForm_a a1)).toNatClampNeg) (hs_regs st ((hf_LongForm_b a1)).toNatClampNeg) (in_LongForm_d _)) (cwV 3 hts (mk_gV tw_291 tw_293 tw_17 tw_46 tw_294) rfl rfl rfl hdHart_storeConditional ⟨Nat.le_of_ble_eq_true rfl, Nat.le_of_ble_eq_true rfl⟩) (mk_preVK hK (va_recv hK hP (ci := 0) (q0 := 0) rfl rfl)) rfl rfl hl.1 rfl (lv_room (Nat.le_of_ble_eq_true rfl)) dHart_longAtomic_146 ⟨Nat.zero_le _, Nat.zero_le _⟩) hS (fun H locs hP hS => ?_)
              exact W.iret hx hb hr (fun t ht hW => ⟨⟨_, (hf_RiscHart_storeConditional st (hf_LongForm_d a1) (hs_regs st ((hf_LongForm_a a1)).toNatClampNeg) (hs_regs st ((hf_LongForm_b a1)).toNatClampNeg)).2, rfl, (by unfold hf_RiscHart_longAtomic; rw [if_neg c_1, if_pos c_2, if_neg c_3, if_neg c_5, if_neg c_6, if_neg c_7, if_pos c_8]), by show va_P D hcl _ t.heap; rw [ht]; exact hP⟩, hS.F ht⟩) hS.2.2 dHart_longAtomic_149
            refine lv_lookup (off := 43) (tgt := 150) hx hb dHart_longAtomic_107 (by decide) ((lv_osw (a := 2) c_7 rfl).trans ((lv_osw (a := 3) c_8 rfl).trans (rfl))) (by decide) ?_
            refine lv_aload_n hx hb dHart_longAtomic_150 rfl (lv_at hl 4 rfl) ?_
            refine lv_iload_n hx hb dHart_longAtomic_151 rfl (lv_at hl 3 rfl) ?_
            refine lv_iload hx hb dHart_longAtomic_152 (lv_at hl 1 rfl) ?_
            refine lv_iload_n hx hb dHart_longAtomic_154 rfl (lv_at hl 2 rfl) ?_
            refine lv_iload hx hb dHart_longAtomic_155 (lv_at hl 0 rfl) ?_
            refine mk_callW (va_runV (As := [.int (hf_LongForm_k a1), .int (hf_LongForm_d a1), .int (hs_regs st ((hf_LongForm_a a1)).toNatClampNeg), .int (hs_regs st ((hf_LongForm_b a1)).toNatClampNeg)]) (rest := []) ⟨hx, hb, hml, hown, hts⟩ (hc_RiscHart_change l hP hD (hf_LongForm_k a1) (hf_LongForm_d a1) (hs_regs st ((hf_LongForm_a a1)).toNatClampNeg) (hs_regs st ((hf_LongForm_b a1)).toNatClampNeg) (in_LongForm_d _)) (cwV 4 hts (mk_gV tw_299 tw_301 tw_18 tw_46 tw_302) rfl rfl rfl hdHart_change ⟨Nat.le_of_ble_eq_true rfl, Nat.le_of_ble_eq_true rfl⟩) (mk_preVK hK (va_recv hK hP (ci := 0) (q0 := 0) rfl rfl)) rfl rfl hl.1 rfl (lv_room (Nat.le_of_ble_eq_true rfl)) dHart_longAtomic_157 ⟨Nat.zero_le _, Nat.zero_le _⟩) hS (fun H locs hP hS => ?_)
            exact W.iret hx hb hr (fun t ht hW => ⟨⟨_, (hf_RiscHart_change st (hf_LongForm_k a1) (hf_LongForm_d a1) (hs_regs st ((hf_LongForm_a a1)).toNatClampNeg) (hs_regs st ((hf_LongForm_b a1)).toNatClampNeg)).2, rfl, (by unfold hf_RiscHart_longAtomic; rw [if_neg c_1, if_pos c_2, if_neg c_3, if_neg c_5, if_neg c_6, if_neg c_7, if_neg c_8]), by show va_P D hcl _ t.heap; rw [ht]; exact hP⟩, hS.F ht⟩) hS.2.2 dHart_longAtomic_160
          · refine lv_aload_n hx hb dHart_longAtomic_81 rfl (lv_at hl 2 rfl) ?_
            refine lv_bipush (v := 6) hx hb dHart_longAtomic_82 (by decide) ?_
            refine lv_iload_n hx hb dHart_longAtomic_84 rfl (lv_at hl 0 rfl) ?_
            refine mk_callW (va_runV (As := [.int 6, .int (hs_regs st ((hf_LongForm_a a1)).toNatClampNeg)]) (rest := []) ⟨hx, hb, hml, hown, hts⟩ (hc_RiscHart_trap l hP hD 6 (hs_regs st ((hf_LongForm_a a1)).toNatClampNeg)) (cwV 2 hts (mk_gV tw_139 tw_141 tw_1 tw_46 tw_142) rfl rfl rfl hdHart_trap ⟨Nat.le_of_ble_eq_true rfl, Nat.le_of_ble_eq_true rfl⟩) (mk_preVK hK (va_recv hK hP (ci := 0) (q0 := 0) rfl rfl)) rfl rfl hl.1 rfl (lv_room (Nat.le_of_ble_eq_true rfl)) dHart_longAtomic_85 ⟨Nat.zero_le _, Nat.zero_le _⟩) hS (fun H locs hP hS => ?_)
            exact W.iret hx hb hr (fun t ht hW => ⟨⟨_, (hf_RiscHart_trap st 6 (hs_regs st ((hf_LongForm_a a1)).toNatClampNeg)).2, rfl, (by unfold hf_RiscHart_longAtomic; rw [if_neg c_1, if_pos c_2, if_neg c_3, if_neg c_5, if_pos c_6]), by show va_P D hcl _ t.heap; rw [ht]; exact hP⟩, hS.F ht⟩) hS.2.2 dHart_longAtomic_88
        · refine lv_aload_n hx hb dHart_longAtomic_61 rfl (lv_at hl 2 rfl) ?_
          refine lv_bipush (v := 7) hx hb dHart_longAtomic_62 (by decide) ?_
          refine lv_iload_n hx hb dHart_longAtomic_64 rfl (lv_at hl 0 rfl) ?_
          refine mk_callW (va_runV (As := [.int 7, .int (hs_regs st ((hf_LongForm_a a1)).toNatClampNeg)]) (rest := []) ⟨hx, hb, hml, hown, hts⟩ (hc_RiscHart_trap l hP hD 7 (hs_regs st ((hf_LongForm_a a1)).toNatClampNeg)) (cwV 2 hts (mk_gV tw_139 tw_141 tw_1 tw_46 tw_142) rfl rfl rfl hdHart_trap ⟨Nat.le_of_ble_eq_true rfl, Nat.le_of_ble_eq_true rfl⟩) (mk_preVK hK (va_recv hK hP (ci := 0) (q0 := 0) rfl rfl)) rfl rfl hl.1 rfl (lv_room (Nat.le_of_ble_eq_true rfl)) dHart_longAtomic_65 ⟨Nat.zero_le _, Nat.zero_le _⟩) hS (fun H locs hP hS => ?_)
          exact W.iret hx hb hr (fun t ht hW => ⟨⟨_, (hf_RiscHart_trap st 7 (hs_regs st ((hf_LongForm_a a1)).toNatClampNeg)).2, rfl, (by unfold hf_RiscHart_longAtomic; rw [if_neg c_1, if_pos c_2, if_neg c_3, if_pos c_5]), by show va_P D hcl _ t.heap; rw [ht]; exact hP⟩, hS.F ht⟩) hS.2.2 dHart_longAtomic_68
    · refine lv_aload_n hx hb dHart_longAtomic_37 rfl (lv_at hl 2 rfl) ?_
      refine lv_iconst (v := 5) hx hb dHart_longAtomic_38 (by decide) ?_
      refine lv_iload_n hx hb dHart_longAtomic_39 rfl (lv_at hl 0 rfl) ?_
      refine mk_callW (va_runV (As := [.int 5, .int (hs_regs st ((hf_LongForm_a a1)).toNatClampNeg)]) (rest := []) ⟨hx, hb, hml, hown, hts⟩ (hc_RiscHart_trap l hP hD 5 (hs_regs st ((hf_LongForm_a a1)).toNatClampNeg)) (cwV 2 hts (mk_gV tw_139 tw_141 tw_1 tw_46 tw_142) rfl rfl rfl hdHart_trap ⟨Nat.le_of_ble_eq_true rfl, Nat.le_of_ble_eq_true rfl⟩) (mk_preVK hK (va_recv hK hP (ci := 0) (q0 := 0) rfl rfl)) rfl rfl hl.1 rfl (lv_room (Nat.le_of_ble_eq_true rfl)) dHart_longAtomic_40 ⟨Nat.zero_le _, Nat.zero_le _⟩) hS (fun H locs hP hS => ?_)
      exact W.iret hx hb hr (fun t ht hW => ⟨⟨_, (hf_RiscHart_trap st 5 (hs_regs st ((hf_LongForm_a a1)).toNatClampNeg)).2, rfl, (by unfold hf_RiscHart_longAtomic; rw [if_neg c_1, if_neg c_2]), by show va_P D hcl _ t.heap; rw [ht]; exact hP⟩, hS.F ht⟩) hS.2.2 dHart_longAtomic_43
  · refine lv_aload_n hx hb dHart_longAtomic_7 rfl (lv_at hl 0 rfl) ?_
    refine lv_iconst (v := 2) hx hb dHart_longAtomic_8 (by decide) ?_
    refine lv_iload_n hx hb dHart_longAtomic_9 rfl (lv_at hl 1 rfl) ?_
    refine mk_callW (va_runV (As := [.int 2, .int a1]) (rest := []) ⟨hx, hb, hml, hown, hts⟩ (hc_RiscHart_trap l hP hD 2 a1) (cwV 2 hts (mk_gV tw_139 tw_141 tw_1 tw_46 tw_142) rfl rfl rfl hdHart_trap ⟨Nat.le_of_ble_eq_true rfl, Nat.le_of_ble_eq_true rfl⟩) (mk_preVK hK (va_recv hK hP (ci := 0) (q0 := 0) rfl rfl)) rfl rfl hl.1 rfl (lv_room (Nat.le_of_ble_eq_true rfl)) dHart_longAtomic_10 ⟨Nat.zero_le _, Nat.zero_le _⟩) hS (fun H locs hP hS => ?_)
    exact W.iret hx hb hr (fun t ht hW => ⟨⟨_, (hf_RiscHart_trap st 2 a1).2, rfl, (by unfold hf_RiscHart_longAtomic; rw [if_pos c_1]), by show va_P D hcl _ t.heap; rw [ht]; exact hP⟩, hS.F ht⟩) hS.2.2 dHart_longAtomic_13
set_option maxHeartbeats 4000000 in
set_option maxRecDepth 100000 in
theorem hc_RiscHart_readCounter (l : Launch) {D : va_G} {cR cW cP : ClassId} {h0 h1 h2 h3 h4 : Nat} {A : Nat → Prop} {st : HS} {G : Heap} (hP : va_P D hcl (hs_W cR cW cP h0 h1 h2 h3 h4 st) G) (hD : ∀ z, va_D A (hs_W cR cW cP h0 h1 h2 h3 h4 z)) (a1 : Int32)  : Met l yHart_readCounter (wq yHart_readCounter cHart_readCounter 3 (some .int)) ({ frames := 2, cells := 0, slots := 0, locals := 42 }) (mk_PK D hcl [(cR, .int), (cW, .int), (cP, .int)] G [.ref h0, .int a1]) (mk_Wi (fun u t => va_P D hcl (hs_W cR cW cP h0 h1 h2 h3 h4 u) t) A (hf_RiscHart_readCounter st a1)) 0 0 A := by
  refine Met.ofW (cc := cHart_readCounter) (maxL := 3) (ret := (some .int)) (by decide) rfl ?_
  intro p e s m args below meth c s₁ B hml hv
  obtain ⟨rfl, hG, hK⟩ := hv
  subst hG
  have hx := B.exec
  have hb := B.bytes
  have hr := B.returns
  have hts := atoms_spec (ws := (wq yHart_readCounter cHart_readCounter 3 (some .int))) B.pre
  have hown : s.vm.findClass RHart = some m.cls := findClass_of_methodNamed B.named
  have hlocks := B.notSynchronized
  have hg : ∀ w ∈ lw_g, w.before _ s = true := fun w h => hts w (List.mem_cons_of_mem _ h)
  have hS : va_S A s.heap s.heap [] := va_S.rf
  have hl := lv_entry ([.ref h0, .int a1]) (n := 3) (Nat.le_of_ble_eq_true rfl)
  rw [lg_entry_eq]
  generalize (lg_sl ([.ref h0, .int a1]) ++ List.replicate (3 - (lg_sl ([.ref h0, .int a1])).length) Slot.unset).toArray = ls at hl ⊢
  have hl : lv_has ls 3 [(0, .ref h0), (1, .int a1)] := hl
  refine lv_iload_n hx hb dHart_readCounter_0 rfl (lv_at hl 1 rfl) ?_
  refine mk_callR (va_runS (As := [.int a1]) (rest := []) ⟨hx, hb, hml, hown, hts⟩ (hc_LongForm_d l _ a1) (va_cwS 1 hts (mk_gS tw_161 tw_162 tw_54 tw_163) rfl rfl rfl hdLF_d.2 ⟨Nat.le_of_ble_eq_true rfl, Nat.le_of_ble_eq_true rfl⟩) mk_preS rfl rfl hl.1 rfl (lv_room (Nat.le_of_ble_eq_true rfl)) dHart_readCounter_1 ⟨Nat.zero_le _, Nat.zero_le _⟩) ?_
  refine lv_istore_n (lv' := [(2, .int (hf_LongForm_d a1)), (0, .ref h0), (1, .int a1)]) hx hb dHart_readCounter_4 rfl hl (by decide) rfl (fun ls hl => ?_)
  refine lv_iload_n hx hb dHart_readCounter_5 rfl (lv_at hl 2 rfl) ?_
  refine lv_bipush (v := 20) hx hb dHart_readCounter_6 (by decide) ?_
  refine lv_iushr (v := (ja_ushr a1 20)) hx hb dHart_readCounter_8 rfl ?_
  by_cases c_1 : (ja_ushr a1 20) = 3072
  · refine lv_lookup (off := 59) (tgt := 68) hx hb dHart_readCounter_9 (by decide) (by rw [c_1]; decide) (by decide) ?_
    refine lv_aload_n hx hb dHart_readCounter_68 rfl (lv_at hl 1 rfl) ?_
    refine lv_iload_n hx hb dHart_readCounter_69 rfl (lv_at hl 0 rfl) ?_
    refine lv_aload_n hx hb dHart_readCounter_70 rfl (lv_at hl 1 rfl) ?_
    refine va_get (D := D) (ci := 0) (v := .long (hs_retired st)) (C := RHart) (T := THart) (N := 8) hx hb hg inHart hown hK hP 0 rfl rfl 6 (by decide) (hg _ tw_89) (fun _ h9 => h9) rfl dHart_readCounter_71 ?_
    refine lv_l2i (v := (hs_retired st).toInt32) hx hb dHart_readCounter_74 rfl ?_
    refine mk_callW (va_runV (As := [.int (hf_LongForm_d a1), .int ((hs_retired st).toInt32)]) (rest := []) ⟨hx, hb, hml, hown, hts⟩ (hc_RiscHart_give l hP hD (hf_LongForm_d a1) ((hs_retired st).toInt32) (in_LongForm_d _)) (cwV 2 hts (mk_gV tw_170 tw_172 tw_4 tw_46 tw_173) rfl rfl rfl hdHart_give ⟨Nat.le_of_ble_eq_true rfl, Nat.le_of_ble_eq_true rfl⟩) (mk_preVK hK (va_recv hK hP (ci := 0) (q0 := 0) rfl rfl)) rfl rfl hl.1 rfl (lv_room (Nat.le_of_ble_eq_true rfl)) dHart_readCounter_75 ⟨Nat.zero_le _, Nat.zero_le _⟩) hS (fun H locs hP hS => ?_)
    exact W.iret hx hb hr (fun t ht hW => ⟨⟨_, (hf_RiscHart_give st (hf_LongForm_d a1) ((hs_retired st).toInt32)).2, rfl, (by unfold hf_RiscHart_readCounter; rw [if_pos c_1]), by show va_P D hcl _ t.heap; rw [ht]; exact hP⟩, hS.F ht⟩) hS.2.2 dHart_readCounter_78
  by_cases c_2 : (ja_ushr a1 20) = 3073
  · refine lv_lookup (off := 84) (tgt := 93) hx hb dHart_readCounter_9 (by decide) (by rw [c_2]; decide) (by decide) ?_
    refine lv_aload_n hx hb dHart_readCounter_93 rfl (lv_at hl 1 rfl) ?_
    refine lv_iload_n hx hb dHart_readCounter_94 rfl (lv_at hl 0 rfl) ?_
    refine lv_aload_n hx hb dHart_readCounter_95 rfl (lv_at hl 1 rfl) ?_
    refine va_get (D := D) (ci := 0) (v := .long (hs_time st)) (C := RHart) (T := THart) (N := 8) hx hb hg inHart hown hK hP 0 rfl rfl 7 (by decide) (hg _ tw_90) (fun _ h9 => h9) rfl dHart_readCounter_96 ?_
    refine lv_l2i (v := (hs_time st).toInt32) hx hb dHart_readCounter_99 rfl ?_
    refine mk_callW (va_runV (As := [.int (hf_LongForm_d a1), .int ((hs_time st).toInt32)]) (rest := []) ⟨hx, hb, hml, hown, hts⟩ (hc_RiscHart_give l hP hD (hf_LongForm_d a1) ((hs_time st).toInt32) (in_LongForm_d _)) (cwV 2 hts (mk_gV tw_170 tw_172 tw_4 tw_46 tw_173) rfl rfl rfl hdHart_give ⟨Nat.le_of_ble_eq_true rfl, Nat.le_of_ble_eq_true rfl⟩) (mk_preVK hK (va_recv hK hP (ci := 0) (q0 := 0) rfl rfl)) rfl rfl hl.1 rfl (lv_room (Nat.le_of_ble_eq_true rfl)) dHart_readCounter_100 ⟨Nat.zero_le _, Nat.zero_le _⟩) hS (fun H locs hP hS => ?_)
    exact W.iret hx hb hr (fun t ht hW => ⟨⟨_, (hf_RiscHart_give st (hf_LongForm_d a1) ((hs_time st).toInt32)).2, rfl, (by unfold hf_RiscHart_readCounter; rw [if_neg c_1, if_pos c_2]), by show va_P D hcl _ t.heap; rw [ht]; exact hP⟩, hS.F ht⟩) hS.2.2 dHart_readCounter_103
  by_cases c_3 : (ja_ushr a1 20) = 3074
  · refine lv_lookup (off := 59) (tgt := 68) hx hb dHart_readCounter_9 (by decide) (by rw [c_3]; decide) (by decide) ?_
    refine lv_aload_n hx hb dHart_readCounter_68 rfl (lv_at hl 1 rfl) ?_
    refine lv_iload_n hx hb dHart_readCounter_69 rfl (lv_at hl 0 rfl) ?_
    refine lv_aload_n hx hb dHart_readCounter_70 rfl (lv_at hl 1 rfl) ?_
    refine va_get (D := D) (ci := 0) (v := .long (hs_retired st)) (C := RHart) (T := THart) (N := 8) hx hb hg inHart hown hK hP 0 rfl rfl 6 (by decide) (hg _ tw_89) (fun _ h9 => h9) rfl dHart_readCounter_71 ?_
    refine lv_l2i (v := (hs_retired st).toInt32) hx hb dHart_readCounter_74 rfl ?_
    refine mk_callW (va_runV (As := [.int (hf_LongForm_d a1), .int ((hs_retired st).toInt32)]) (rest := []) ⟨hx, hb, hml, hown, hts⟩ (hc_RiscHart_give l hP hD (hf_LongForm_d a1) ((hs_retired st).toInt32) (in_LongForm_d _)) (cwV 2 hts (mk_gV tw_170 tw_172 tw_4 tw_46 tw_173) rfl rfl rfl hdHart_give ⟨Nat.le_of_ble_eq_true rfl, Nat.le_of_ble_eq_true rfl⟩) (mk_preVK hK (va_recv hK hP (ci := 0) (q0 := 0) rfl rfl)) rfl rfl hl.1 rfl (lv_room (Nat.le_of_ble_eq_true rfl)) dHart_readCounter_75 ⟨Nat.zero_le _, Nat.zero_le _⟩) hS (fun H locs hP hS => ?_)
    exact W.iret hx hb hr (fun t ht hW => ⟨⟨_, (hf_RiscHart_give st (hf_LongForm_d a1) ((hs_retired st).toInt32)).2, rfl, (by unfold hf_RiscHart_readCounter; rw [if_neg c_1, if_neg c_2, if_pos c_3]), by show va_P D hcl _ t.heap; rw [ht]; exact hP⟩, hS.F ht⟩) hS.2.2 dHart_readCounter_78
  by_cases c_4 : (ja_ushr a1 20) = 3200
  · refine lv_lookup (off := 70) (tgt := 79) hx hb dHart_readCounter_9 (by decide) (by rw [c_4]; decide) (by decide) ?_
    refine lv_aload_n hx hb dHart_readCounter_79 rfl (lv_at hl 1 rfl) ?_
    refine lv_iload_n hx hb dHart_readCounter_80 rfl (lv_at hl 0 rfl) ?_
    refine lv_aload_n hx hb dHart_readCounter_81 rfl (lv_at hl 1 rfl) ?_
    refine va_get (D := D) (ci := 0) (v := .long (hs_retired st)) (C := RHart) (T := THart) (N := 8) hx hb hg inHart hown hK hP 0 rfl rfl 6 (by decide) (hg _ tw_89) (fun _ h9 => h9) rfl dHart_readCounter_82 ?_
    refine lv_bipush (v := 32) hx hb dHart_readCounter_85 (by decide) ?_
    refine lv_lushr (v := (ja_lushr (hs_retired st) 32)) hx hb dHart_readCounter_87 rfl ?_
    refine lv_l2i (v := (ja_lushr (hs_retired st) 32).toInt32) hx hb dHart_readCounter_88 rfl ?_
    refine mk_callW (va_runV (As := [.int (hf_LongForm_d a1), .int ((ja_lushr (hs_retired st) 32).toInt32)]) (rest := []) ⟨hx, hb, hml, hown, hts⟩ (hc_RiscHart_give l hP hD (hf_LongForm_d a1) ((ja_lushr (hs_retired st) 32).toInt32) (in_LongForm_d _)) (cwV 2 hts (mk_gV tw_170 tw_172 tw_4 tw_46 tw_173) rfl rfl rfl hdHart_give ⟨Nat.le_of_ble_eq_true rfl, Nat.le_of_ble_eq_true rfl⟩) (mk_preVK hK (va_recv hK hP (ci := 0) (q0 := 0) rfl rfl)) rfl rfl hl.1 rfl (lv_room (Nat.le_of_ble_eq_true rfl)) dHart_readCounter_89 ⟨Nat.zero_le _, Nat.zero_le _⟩) hS (fun H locs hP hS => ?_)
    exact W.iret hx hb hr (fun t ht hW => ⟨⟨_, (hf_RiscHart_give st (hf_LongForm_d a1) ((ja_lushr (hs_retired st) 32).toInt32)).2, rfl, (by unfold hf_RiscHart_readCounter; rw [if_neg c_1, if_neg c_2, if_neg c_3, if_pos c_4]), by show va_P D hcl _ t.heap; rw [ht]; exact hP⟩, hS.F ht⟩) hS.2.2 dHart_readCounter_92
  by_cases c_5 : (ja_ushr a1 20) = 3201
  · refine lv_lookup (off := 95) (tgt := 104) hx hb dHart_readCounter_9 (by decide) (by rw [c_5]; decide) (by decide) ?_
    refine lv_aload_n hx hb dHart_readCounter_104 rfl (lv_at hl 1 rfl) ?_
    refine lv_iload_n hx hb dHart_readCounter_105 rfl (lv_at hl 0 rfl) ?_
    refine lv_aload_n hx hb dHart_readCounter_106 rfl (lv_at hl 1 rfl) ?_
    refine va_get (D := D) (ci := 0) (v := .long (hs_time st)) (C := RHart) (T := THart) (N := 8) hx hb hg inHart hown hK hP 0 rfl rfl 7 (by decide) (hg _ tw_90) (fun _ h9 => h9) rfl dHart_readCounter_107 ?_
    refine lv_bipush (v := 32) hx hb dHart_readCounter_110 (by decide) ?_
    refine lv_lushr (v := (ja_lushr (hs_time st) 32)) hx hb dHart_readCounter_112 rfl ?_
    refine lv_l2i (v := (ja_lushr (hs_time st) 32).toInt32) hx hb dHart_readCounter_113 rfl ?_
    refine mk_callW (va_runV (As := [.int (hf_LongForm_d a1), .int ((ja_lushr (hs_time st) 32).toInt32)]) (rest := []) ⟨hx, hb, hml, hown, hts⟩ (hc_RiscHart_give l hP hD (hf_LongForm_d a1) ((ja_lushr (hs_time st) 32).toInt32) (in_LongForm_d _)) (cwV 2 hts (mk_gV tw_170 tw_172 tw_4 tw_46 tw_173) rfl rfl rfl hdHart_give ⟨Nat.le_of_ble_eq_true rfl, Nat.le_of_ble_eq_true rfl⟩) (mk_preVK hK (va_recv hK hP (ci := 0) (q0 := 0) rfl rfl)) rfl rfl hl.1 rfl (lv_room (Nat.le_of_ble_eq_true rfl)) dHart_readCounter_114 ⟨Nat.zero_le _, Nat.zero_le _⟩) hS (fun H locs hP hS => ?_)
    exact W.iret hx hb hr (fun t ht hW => ⟨⟨_, (hf_RiscHart_give st (hf_LongForm_d a1) ((ja_lushr (hs_time st) 32).toInt32)).2, rfl, (by unfold hf_RiscHart_readCounter; rw [if_neg c_1, if_neg c_2, if_neg c_3, if_neg c_4, if_pos c_5]), by show va_P D hcl _ t.heap; rw [ht]; exact hP⟩, hS.F ht⟩) hS.2.2 dHart_readCounter_117
  by_cases c_6 : (ja_ushr a1 20) = 3202
  · refine lv_lookup (off := 70) (tgt := 79) hx hb dHart_readCounter_9 (by decide) (by rw [c_6]; decide) (by decide) ?_
    refine lv_aload_n hx hb dHart_readCounter_79 rfl (lv_at hl 1 rfl) ?_
    refine lv_iload_n hx hb dHart_readCounter_80 rfl (lv_at hl 0 rfl) ?_
    refine lv_aload_n hx hb dHart_readCounter_81 rfl (lv_at hl 1 rfl) ?_
    refine va_get (D := D) (ci := 0) (v := .long (hs_retired st)) (C := RHart) (T := THart) (N := 8) hx hb hg inHart hown hK hP 0 rfl rfl 6 (by decide) (hg _ tw_89) (fun _ h9 => h9) rfl dHart_readCounter_82 ?_
    refine lv_bipush (v := 32) hx hb dHart_readCounter_85 (by decide) ?_
    refine lv_lushr (v := (ja_lushr (hs_retired st) 32)) hx hb dHart_readCounter_87 rfl ?_
    refine lv_l2i (v := (ja_lushr (hs_retired st) 32).toInt32) hx hb dHart_readCounter_88 rfl ?_
    refine mk_callW (va_runV (As := [.int (hf_LongForm_d a1), .int ((ja_lushr (hs_retired st) 32).toInt32)]) (rest := []) ⟨hx, hb, hml, hown, hts⟩ (hc_RiscHart_give l hP hD (hf_LongForm_d a1) ((ja_lushr (hs_retired st) 32).toInt32) (in_LongForm_d _)) (cwV 2 hts (mk_gV tw_170 tw_172 tw_4 tw_46 tw_173) rfl rfl rfl hdHart_give ⟨Nat.le_of_ble_eq_true rfl, Nat.le_of_ble_eq_true rfl⟩) (mk_preVK hK (va_recv hK hP (ci := 0) (q0 := 0) rfl rfl)) rfl rfl hl.1 rfl (lv_room (Nat.le_of_ble_eq_true rfl)) dHart_readCounter_89 ⟨Nat.zero_le _, Nat.zero_le _⟩) hS (fun H locs hP hS => ?_)
    exact W.iret hx hb hr (fun t ht hW => ⟨⟨_, (hf_RiscHart_give st (hf_LongForm_d a1) ((ja_lushr (hs_retired st) 32).toInt32)).2, rfl, (by unfold hf_RiscHart_readCounter; rw [if_neg c_1, if_neg c_2, if_neg c_3, if_neg c_4, if_neg c_5, if_pos c_6]), by show va_P D hcl _ t.heap; rw [ht]; exact hP⟩, hS.F ht⟩) hS.2.2 dHart_readCounter_92
  refine lv_lookup (off := 109) (tgt := 118) hx hb dHart_readCounter_9 (by decide) ((lv_osw (a := 3072) c_1 rfl).trans ((lv_osw (a := 3073) c_2 rfl).trans ((lv_osw (a := 3074) c_3 rfl).trans ((lv_osw (a := 3200) c_4 rfl).trans ((lv_osw (a := 3201) c_5 rfl).trans ((lv_osw (a := 3202) c_6 rfl).trans (rfl))))))) (by decide) ?_
  refine lv_aload_n hx hb dHart_readCounter_118 rfl (lv_at hl 1 rfl) ?_
  refine lv_iconst (v := 2) hx hb dHart_readCounter_119 (by decide) ?_
  refine lv_iload_n hx hb dHart_readCounter_120 rfl (lv_at hl 2 rfl) ?_
  refine mk_callW (va_runV (As := [.int 2, .int a1]) (rest := []) ⟨hx, hb, hml, hown, hts⟩ (hc_RiscHart_trap l hP hD 2 a1) (cwV 2 hts (mk_gV tw_139 tw_141 tw_1 tw_46 tw_142) rfl rfl rfl hdHart_trap ⟨Nat.le_of_ble_eq_true rfl, Nat.le_of_ble_eq_true rfl⟩) (mk_preVK hK (va_recv hK hP (ci := 0) (q0 := 0) rfl rfl)) rfl rfl hl.1 rfl (lv_room (Nat.le_of_ble_eq_true rfl)) dHart_readCounter_121 ⟨Nat.zero_le _, Nat.zero_le _⟩) hS (fun H locs hP hS => ?_)
  exact W.iret hx hb hr (fun t ht hW => ⟨⟨_, (hf_RiscHart_trap st 2 a1).2, rfl, (by unfold hf_RiscHart_readCounter; rw [if_neg c_1, if_neg c_2, if_neg c_3, if_neg c_4, if_neg c_5, if_neg c_6]), by show va_P D hcl _ t.heap; rw [ht]; exact hP⟩, hS.F ht⟩) hS.2.2 dHart_readCounter_124
set_option maxHeartbeats 4000000 in
set_option maxRecDepth 100000 in
theorem hc_RiscHart_longSystem (l : Launch) {D : va_G} {cR cW cP : ClassId} {h0 h1 h2 h3 h4 : Nat} {A : Nat → Prop} {st : HS} {G : Heap} (hP : va_P D hcl (hs_W cR cW cP h0 h1 h2 h3 h4 st) G) (hD : ∀ z, va_D A (hs_W cR cW cP h0 h1 h2 h3 h4 z)) (a1 : Int32)  : Met l yHart_longSystem (wq yHart_longSystem cHart_longSystem 3 (some .int)) ({ frames := 3, cells := 0, slots := 0, locals := 64 }) (mk_PK D hcl [(cR, .int), (cW, .int), (cP, .int)] G [.ref h0, .int a1]) (mk_Wi (fun u t => va_P D hcl (hs_W cR cW cP h0 h1 h2 h3 h4 u) t) A (hf_RiscHart_longSystem st a1)) 0 0 A := by
  refine Met.ofW (cc := cHart_longSystem) (maxL := 3) (ret := (some .int)) (by decide) rfl ?_
  intro p e s m args below meth c s₁ B hml hv
  obtain ⟨rfl, hG, hK⟩ := hv
  subst hG
  have hx := B.exec
  have hb := B.bytes
  have hr := B.returns
  have hts := atoms_spec (ws := (wq yHart_longSystem cHart_longSystem 3 (some .int))) B.pre
  have hown : s.vm.findClass RHart = some m.cls := findClass_of_methodNamed B.named
  have hlocks := B.notSynchronized
  have hg : ∀ w ∈ lw_g, w.before _ s = true := fun w h => hts w (List.mem_cons_of_mem _ h)
  have hS : va_S A s.heap s.heap [] := va_S.rf
  have hl := lv_entry ([.ref h0, .int a1]) (n := 3) (Nat.le_of_ble_eq_true rfl)
  rw [lg_entry_eq]
  generalize (lg_sl ([.ref h0, .int a1]) ++ List.replicate (3 - (lg_sl ([.ref h0, .int a1])).length) Slot.unset).toArray = ls at hl ⊢
  have hl : lv_has ls 3 [(0, .ref h0), (1, .int a1)] := hl
  refine lv_iload_n hx hb dHart_longSystem_0 rfl (lv_at hl 1 rfl) ?_
  refine lv_bipush (v := 115) hx hb dHart_longSystem_1 (by decide) ?_
  refine lv_icmp_ne (tgt := 13) hx hb dHart_longSystem_3 (by decide) (fun c_1 => ?_) (fun c_1 => ?_)
  · refine lv_iload_n hx hb dHart_longSystem_13 rfl (lv_at hl 1 rfl) ?_
    refine lv_ldc (v := 1048691) hx hb hown (hg _ tw_310) dHart_longSystem_14 ?_
    refine lv_icmp_ne (tgt := 26) hx hb dHart_longSystem_16 (by decide) (fun c_2 => ?_) (fun c_2 => ?_)
    · refine lv_iload_n hx hb dHart_longSystem_26 rfl (lv_at hl 1 rfl) ?_
      refine mk_callR (va_runS (As := [.int a1]) (rest := []) ⟨hx, hb, hml, hown, hts⟩ (hc_LongForm_f l _ a1) (va_cwS 1 hts (mk_gS tw_188 tw_189 tw_54 tw_190) rfl rfl rfl hdLF_f.2 ⟨Nat.le_of_ble_eq_true rfl, Nat.le_of_ble_eq_true rfl⟩) mk_preS rfl rfl hl.1 rfl (lv_room (Nat.le_of_ble_eq_true rfl)) dHart_longSystem_27 ⟨Nat.zero_le _, Nat.zero_le _⟩) ?_
      refine lv_iconst (v := 2) hx hb dHart_longSystem_30 (by decide) ?_
      refine lv_iand hx hb dHart_longSystem_31 ?_
      refine lv_if_eq (tgt := 46) hx hb dHart_longSystem_32 (by decide) (fun c_3 => ?_) (fun c_3 => ?_)
      · refine lv_iconst (v := 0) hx hb dHart_longSystem_46 (by decide) ?_
        refine lv_istore_n (lv' := [(2, .int 0), (0, .ref h0), (1, .int a1)]) hx hb dHart_longSystem_47 rfl hl (by decide) rfl (fun ls hl => ?_)
        refine lv_iload_n hx hb dHart_longSystem_48 rfl (lv_at hl 0 rfl) ?_
        refine lv_if_eq (tgt := 60) hx hb dHart_longSystem_49 (by decide) (fun c_4 => ?_) (fun c_4 => ?_)
        · refine lv_aload_n hx hb dHart_longSystem_60 rfl (lv_at hl 1 rfl) ?_
          refine lv_iconst (v := 2) hx hb dHart_longSystem_61 (by decide) ?_
          refine lv_iload_n hx hb dHart_longSystem_62 rfl (lv_at hl 2 rfl) ?_
          refine mk_callW (va_runV (As := [.int 2, .int a1]) (rest := []) ⟨hx, hb, hml, hown, hts⟩ (hc_RiscHart_trap l hP hD 2 a1) (cwV 2 hts (mk_gV tw_139 tw_141 tw_1 tw_46 tw_142) rfl rfl rfl hdHart_trap ⟨Nat.le_of_ble_eq_true rfl, Nat.le_of_ble_eq_true rfl⟩) (mk_preVK hK (va_recv hK hP (ci := 0) (q0 := 0) rfl rfl)) rfl rfl hl.1 rfl (lv_room (Nat.le_of_ble_eq_true rfl)) dHart_longSystem_63 ⟨Nat.zero_le _, Nat.zero_le _⟩) hS (fun H locs hP hS => ?_)
          exact W.iret hx hb hr (fun t ht hW => ⟨⟨_, (hf_RiscHart_trap st 2 a1).2, rfl, (by unfold hf_RiscHart_longSystem; rw [if_neg c_1, if_neg c_2, if_pos c_3]), by show va_P D hcl _ t.heap; rw [ht]; exact hP⟩, hS.F ht⟩) hS.2.2 dHart_longSystem_66
        · exact absurd c_4 (by decide)
      · refine lv_iload_n hx hb dHart_longSystem_35 rfl (lv_at hl 1 rfl) ?_
        refine mk_callR (va_runS (As := [.int a1]) (rest := []) ⟨hx, hb, hml, hown, hts⟩ (hc_LongForm_a l _ a1) (va_cwS 1 hts (mk_gS tw_191 tw_192 tw_54 tw_193) rfl rfl rfl hdLF_a.2 ⟨Nat.le_of_ble_eq_true rfl, Nat.le_of_ble_eq_true rfl⟩) mk_preS rfl rfl hl.1 rfl (lv_room (Nat.le_of_ble_eq_true rfl)) dHart_longSystem_36 ⟨Nat.zero_le _, Nat.zero_le _⟩) ?_
        refine lv_if_ne (tgt := 46) hx hb dHart_longSystem_39 (by decide) (fun c_5 => ?_) (fun c_5 => ?_)
        · refine lv_iconst (v := 0) hx hb dHart_longSystem_46 (by decide) ?_
          refine lv_istore_n (lv' := [(2, .int 0), (0, .ref h0), (1, .int a1)]) hx hb dHart_longSystem_47 rfl hl (by decide) rfl (fun ls hl => ?_)
          refine lv_iload_n hx hb dHart_longSystem_48 rfl (lv_at hl 0 rfl) ?_
          refine lv_if_eq (tgt := 60) hx hb dHart_longSystem_49 (by decide) (fun c_6 => ?_) (fun c_6 => ?_)
          · refine lv_aload_n hx hb dHart_longSystem_60 rfl (lv_at hl 1 rfl) ?_
            refine lv_iconst (v := 2) hx hb dHart_longSystem_61 (by decide) ?_
            refine lv_iload_n hx hb dHart_longSystem_62 rfl (lv_at hl 2 rfl) ?_
            refine mk_callW (va_runV (As := [.int 2, .int a1]) (rest := []) ⟨hx, hb, hml, hown, hts⟩ (hc_RiscHart_trap l hP hD 2 a1) (cwV 2 hts (mk_gV tw_139 tw_141 tw_1 tw_46 tw_142) rfl rfl rfl hdHart_trap ⟨Nat.le_of_ble_eq_true rfl, Nat.le_of_ble_eq_true rfl⟩) (mk_preVK hK (va_recv hK hP (ci := 0) (q0 := 0) rfl rfl)) rfl rfl hl.1 rfl (lv_room (Nat.le_of_ble_eq_true rfl)) dHart_longSystem_63 ⟨Nat.zero_le _, Nat.zero_le _⟩) hS (fun H locs hP hS => ?_)
            exact W.iret hx hb hr (fun t ht hW => ⟨⟨_, (hf_RiscHart_trap st 2 a1).2, rfl, (by unfold hf_RiscHart_longSystem; rw [if_neg c_1, if_neg c_2, if_neg c_3, if_neg c_5]), by show va_P D hcl _ t.heap; rw [ht]; exact hP⟩, hS.F ht⟩) hS.2.2 dHart_longSystem_66
          · exact absurd c_6 (by decide)
        · refine lv_iconst (v := 1) hx hb dHart_longSystem_42 (by decide) ?_
          refine lv_goto (tgt := 47) hx hb dHart_longSystem_43 (by decide) ?_
          refine lv_istore_n (lv' := [(2, .int 1), (0, .ref h0), (1, .int a1)]) hx hb dHart_longSystem_47 rfl hl (by decide) rfl (fun ls hl => ?_)
          refine lv_iload_n hx hb dHart_longSystem_48 rfl (lv_at hl 0 rfl) ?_
          refine lv_if_eq (tgt := 60) hx hb dHart_longSystem_49 (by decide) (fun c_7 => ?_) (fun c_7 => ?_)
          · exact absurd c_7 (by decide)
          · refine lv_aload_n hx hb dHart_longSystem_52 rfl (lv_at hl 1 rfl) ?_
            refine lv_iload_n hx hb dHart_longSystem_53 rfl (lv_at hl 2 rfl) ?_
            refine mk_callW (va_runV (As := [.int a1]) (rest := []) ⟨hx, hb, hml, hown, hts⟩ (hc_RiscHart_readCounter l hP hD a1) (cwV 1 hts (mk_gV tw_311 tw_313 tw_20 tw_46 tw_314) rfl rfl rfl hdHart_readCounter ⟨Nat.le_of_ble_eq_true rfl, Nat.le_of_ble_eq_true rfl⟩) (mk_preVK hK (va_recv hK hP (ci := 0) (q0 := 0) rfl rfl)) rfl rfl hl.1 rfl (lv_room (Nat.le_of_ble_eq_true rfl)) dHart_longSystem_54 ⟨Nat.zero_le _, Nat.zero_le _⟩) hS (fun H locs hP hS => ?_)
            refine lv_goto (tgt := 66) hx hb dHart_longSystem_57 (by decide) ?_
            exact W.iret hx hb hr (fun t ht hW => ⟨⟨_, (hf_RiscHart_readCounter st a1).2, rfl, (by unfold hf_RiscHart_longSystem; rw [if_neg c_1, if_neg c_2, if_neg c_3, if_pos c_5]), by show va_P D hcl _ t.heap; rw [ht]; exact hP⟩, hS.F ht⟩) hS.2.2 dHart_longSystem_66
    · refine lv_aload_n hx hb dHart_longSystem_19 rfl (lv_at hl 0 rfl) ?_
      refine lv_iconst (v := 4) hx hb dHart_longSystem_20 (by decide) ?_
      refine lv_iconst (v := 0) hx hb dHart_longSystem_21 (by decide) ?_
      refine mk_callW (va_runV (As := [.int 4, .int 0]) (rest := []) ⟨hx, hb, hml, hown, hts⟩ (hc_RiscHart_trap l hP hD 4 0) (cwV 2 hts (mk_gV tw_139 tw_141 tw_1 tw_46 tw_142) rfl rfl rfl hdHart_trap ⟨Nat.le_of_ble_eq_true rfl, Nat.le_of_ble_eq_true rfl⟩) (mk_preVK hK (va_recv hK hP (ci := 0) (q0 := 0) rfl rfl)) rfl rfl hl.1 rfl (lv_room (Nat.le_of_ble_eq_true rfl)) dHart_longSystem_22 ⟨Nat.zero_le _, Nat.zero_le _⟩) hS (fun H locs hP hS => ?_)
      exact W.iret hx hb hr (fun t ht hW => ⟨⟨_, (hf_RiscHart_trap st 4 0).2, rfl, (by unfold hf_RiscHart_longSystem; rw [if_neg c_1, if_pos c_2]), by show va_P D hcl _ t.heap; rw [ht]; exact hP⟩, hS.F ht⟩) hS.2.2 dHart_longSystem_25
  · refine lv_aload_n hx hb dHart_longSystem_6 rfl (lv_at hl 0 rfl) ?_
    refine lv_iconst (v := 3) hx hb dHart_longSystem_7 (by decide) ?_
    refine lv_iconst (v := 0) hx hb dHart_longSystem_8 (by decide) ?_
    refine mk_callW (va_runV (As := [.int 3, .int 0]) (rest := []) ⟨hx, hb, hml, hown, hts⟩ (hc_RiscHart_trap l hP hD 3 0) (cwV 2 hts (mk_gV tw_139 tw_141 tw_1 tw_46 tw_142) rfl rfl rfl hdHart_trap ⟨Nat.le_of_ble_eq_true rfl, Nat.le_of_ble_eq_true rfl⟩) (mk_preVK hK (va_recv hK hP (ci := 0) (q0 := 0) rfl rfl)) rfl rfl hl.1 rfl (lv_room (Nat.le_of_ble_eq_true rfl)) dHart_longSystem_9 ⟨Nat.zero_le _, Nat.zero_le _⟩) hS (fun H locs hP hS => ?_)
    exact W.iret hx hb hr (fun t ht hW => ⟨⟨_, (hf_RiscHart_trap st 3 0).2, rfl, (by unfold hf_RiscHart_longSystem; rw [if_pos c_1]), by show va_P D hcl _ t.heap; rw [ht]; exact hP⟩, hS.F ht⟩) hS.2.2 dHart_longSystem_12
