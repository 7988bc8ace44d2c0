set_option maxHeartbeats 4000000 in
set_option maxRecDepth 100000 in
theorem hc_RiscHart_carryOutLong (l : Launch) {D : va_G} {cR cW cP : ClassId} {h0 h1 h2 h3 h4 : Nat} {A : Nat → Prop} {st : HS} {G : Heap} (hP : va_P D hcl (hs_W cR cW cP h0 h1 h2 h3 h4 st) G) (hD : ∀ z, va_D A (hs_W cR cW cP h0 h1 h2 h3 h4 z)) (a1 : Int32)  : Met l yHart_carryOutLong (wq yHart_carryOutLong cHart_carryOutLong 3 (some .int)) ({ frames := 4, cells := 0, slots := 0, locals := 95 }) (mk_PK D hcl [(cR, .int), (cW, .int), (cP, .int)] G [.ref h0, .int a1]) (mk_Wi (fun u t => va_P D hcl (hs_W cR cW cP h0 h1 h2 h3 h4 u) t) A (hf_RiscHart_carryOutLong st a1)) 0 0 A := by
  refine Met.ofW (cc := cHart_carryOutLong) (maxL := 3) (ret := (some .int)) (by decide) rfl ?_
  intro p e s m args below meth c s₁ B hml hv
  obtain ⟨rfl, hG, hK⟩ := hv
  subst hG
  have hx := B.exec
  have hb := B.bytes
  have hr := B.returns
  have hts := atoms_spec (ws := (wq yHart_carryOutLong cHart_carryOutLong 3 (some .int))) B.pre
  have hown : s.vm.findClass RHart = some m.cls := findClass_of_methodNamed B.named
  have hlocks := B.notSynchronized
  have hg : ∀ w ∈ lw_g, w.before _ s = true := fun w h => hts w (List.mem_cons_of_mem _ h)
  have hS : va_S A s.heap s.heap [] := va_S.rf
  have hl := lv_entry ([.ref h0, .int a1]) (n := 3) (Nat.le_of_ble_eq_true rfl)
  rw [lg_entry_eq]
  generalize (lg_sl ([.ref h0, .int a1]) ++ List.replicate (3 - (lg_sl ([.ref h0, .int a1])).length) Slot.unset).toArray = ls at hl ⊢
  have hl : lv_has ls 3 [(0, .ref h0), (1, .int a1)] := hl
  refine lv_iload_n hx hb dHart_carryOutLong_0 rfl (lv_at hl 1 rfl) ?_
  refine mk_callR (va_runS (As := [.int a1]) (rest := []) ⟨hx, hb, hml, hown, hts⟩ (hc_LongForm_d l _ a1) (va_cwS 1 hts (mk_gS tw_161 tw_162 tw_54 tw_163) rfl rfl rfl hdLF_d.2 ⟨Nat.le_of_ble_eq_true rfl, Nat.le_of_ble_eq_true rfl⟩) mk_preS rfl rfl hl.1 rfl (lv_room (Nat.le_of_ble_eq_true rfl)) dHart_carryOutLong_1 ⟨Nat.zero_le _, Nat.zero_le _⟩) ?_
  refine lv_istore_n (lv' := [(2, .int (hf_LongForm_d a1)), (0, .ref h0), (1, .int a1)]) hx hb dHart_carryOutLong_4 rfl hl (by decide) rfl (fun ls hl => ?_)
  refine lv_iload_n hx hb dHart_carryOutLong_5 rfl (lv_at hl 2 rfl) ?_
  refine lv_bipush (v := 127) hx hb dHart_carryOutLong_6 (by decide) ?_
  refine lv_iand hx hb dHart_carryOutLong_8 ?_
  by_cases c_1 : (a1 &&& 127) = 3
  · refine lv_lookup (off := 159) (tgt := 168) hx hb dHart_carryOutLong_9 (by decide) (by rw [c_1]; decide) (by decide) ?_
    refine lv_aload_n hx hb dHart_carryOutLong_168 rfl (lv_at hl 1 rfl) ?_
    refine lv_iload_n hx hb dHart_carryOutLong_169 rfl (lv_at hl 2 rfl) ?_
    refine mk_callW (va_runV (As := [.int a1]) (rest := []) ⟨hx, hb, hml, hown, hts⟩ (hc_RiscHart_longLoad l hP hD a1) (cwV 1 hts (mk_gV tw_215 tw_217 tw_9 tw_46 tw_218) rfl rfl rfl hdHart_longLoad ⟨Nat.le_of_ble_eq_true rfl, Nat.le_of_ble_eq_true rfl⟩) (mk_preVK hK (va_recv hK hP (ci := 0) (q0 := 0) rfl rfl)) rfl rfl hl.1 rfl (lv_room (Nat.le_of_ble_eq_true rfl)) dHart_carryOutLong_170 ⟨Nat.zero_le _, Nat.zero_le _⟩) hS (fun H locs hP hS => ?_)
    exact W.iret hx hb hr (fun t ht hW => ⟨⟨_, (hf_RiscHart_longLoad st a1).2, rfl, (by unfold hf_RiscHart_carryOutLong; rw [if_pos c_1]), by show va_P D hcl _ t.heap; rw [ht]; exact hP⟩, hS.F ht⟩) hS.2.2 dHart_carryOutLong_173
  by_cases c_2 : (a1 &&& 127) = 15
  · refine lv_lookup (off := 189) (tgt := 198) hx hb dHart_carryOutLong_9 (by decide) (by rw [c_2]; decide) (by decide) ?_
    refine lv_iload_n hx hb dHart_carryOutLong_198 rfl (lv_at hl 2 rfl) ?_
    refine mk_callR (va_runS (As := [.int a1]) (rest := []) ⟨hx, hb, hml, hown, hts⟩ (hc_LongForm_f l _ a1) (va_cwS 1 hts (mk_gS tw_188 tw_189 tw_54 tw_190) rfl rfl rfl hdLF_f.2 ⟨Nat.le_of_ble_eq_true rfl, Nat.le_of_ble_eq_true rfl⟩) mk_preS rfl rfl hl.1 rfl (lv_room (Nat.le_of_ble_eq_true rfl)) dHart_carryOutLong_199 ⟨Nat.zero_le _, Nat.zero_le _⟩) ?_
    refine lv_iconst (v := 1) hx hb dHart_carryOutLong_202 (by decide) ?_
    refine lv_icmp_gt (tgt := 210) hx hb dHart_carryOutLong_203 (by decide) (fun c_3 => ?_) (fun c_3 => ?_)
    · refine lv_aload_n hx hb dHart_carryOutLong_210 rfl (lv_at hl 1 rfl) ?_
      refine lv_iconst (v := 2) hx hb dHart_carryOutLong_211 (by decide) ?_
      refine lv_iload_n hx hb dHart_carryOutLong_212 rfl (lv_at hl 2 rfl) ?_
      refine mk_callW (va_runV (As := [.int 2, .int a1]) (rest := []) ⟨hx, hb, hml, hown, hts⟩ (hc_RiscHart_trap l hP hD 2 a1) (cwV 2 hts (mk_gV tw_139 tw_141 tw_1 tw_46 tw_142) rfl rfl rfl hdHart_trap ⟨Nat.le_of_ble_eq_true rfl, Nat.le_of_ble_eq_true rfl⟩) (mk_preVK hK (va_recv hK hP (ci := 0) (q0 := 0) rfl rfl)) rfl rfl hl.1 rfl (lv_room (Nat.le_of_ble_eq_true rfl)) dHart_carryOutLong_213 ⟨Nat.zero_le _, Nat.zero_le _⟩) hS (fun H locs hP hS => ?_)
      exact W.iret hx hb hr (fun t ht hW => ⟨⟨_, (hf_RiscHart_trap st 2 a1).2, rfl, (by unfold hf_RiscHart_carryOutLong; rw [if_neg c_1, if_pos c_2, if_pos c_3]), by show va_P D hcl _ t.heap; rw [ht]; exact hP⟩, hS.F ht⟩) hS.2.2 dHart_carryOutLong_216
    · refine lv_iconst (v := 0) hx hb dHart_carryOutLong_206 (by decide) ?_
      refine lv_goto (tgt := 216) hx hb dHart_carryOutLong_207 (by decide) ?_
      exact W.iret hx hb hr (fun t ht hW => ⟨⟨_, st, rfl, (by unfold hf_RiscHart_carryOutLong; rw [if_neg c_1, if_pos c_2, if_neg c_3]), by show va_P D hcl _ t.heap; rw [ht]; exact hP⟩, hS.F ht⟩) hS.2.2 dHart_carryOutLong_216
  by_cases c_4 : (a1 &&& 127) = 19
  · refine lv_lookup (off := 171) (tgt := 180) hx hb dHart_carryOutLong_9 (by decide) (by rw [c_4]; decide) (by decide) ?_
    refine lv_aload_n hx hb dHart_carryOutLong_180 rfl (lv_at hl 1 rfl) ?_
    refine lv_iload_n hx hb dHart_carryOutLong_181 rfl (lv_at hl 2 rfl) ?_
    refine mk_callW (va_runV (As := [.int a1]) (rest := []) ⟨hx, hb, hml, hown, hts⟩ (hc_RiscHart_longWithNumber l hP hD a1) (cwV 1 hts (mk_gV tw_247 tw_249 tw_13 tw_46 tw_250) rfl rfl rfl hdHart_longWithNumber ⟨Nat.le_of_ble_eq_true rfl, Nat.le_of_ble_eq_true rfl⟩) (mk_preVK hK (va_recv hK hP (ci := 0) (q0 := 0) rfl rfl)) rfl rfl hl.1 rfl (lv_room (Nat.le_of_ble_eq_true rfl)) dHart_carryOutLong_182 ⟨Nat.zero_le _, Nat.zero_le _⟩) hS (fun H locs hP hS => ?_)
    exact W.iret hx hb hr (fun t ht hW => ⟨⟨_, (hf_RiscHart_longWithNumber st a1).2, rfl, (by unfold hf_RiscHart_carryOutLong; rw [if_neg c_1, if_neg c_2, if_pos c_4]), by show va_P D hcl _ t.heap; rw [ht]; exact hP⟩, hS.F ht⟩) hS.2.2 dHart_carryOutLong_185
  by_cases c_5 : (a1 &&& 127) = 23
  · refine lv_lookup (off := 117) (tgt := 126) hx hb dHart_carryOutLong_9 (by decide) (by rw [c_5]; decide) (by decide) ?_
    refine lv_aload_n hx hb dHart_carryOutLong_126 rfl (lv_at hl 1 rfl) ?_
    refine lv_iload_n hx hb dHart_carryOutLong_127 rfl (lv_at hl 0 rfl) ?_
    refine lv_aload_n hx hb dHart_carryOutLong_128 rfl (lv_at hl 1 rfl) ?_
    refine va_get (D := D) (ci := 0) (v := .int (hs_place st)) (C := RHart) (T := THart) (N := 8) hx hb hg inHart hown hK hP 0 rfl rfl 2 (by decide) (hg _ tw_85) (fun _ h9 => h9) rfl dHart_carryOutLong_129 ?_
    refine lv_iload_n hx hb dHart_carryOutLong_132 rfl (lv_at hl 2 rfl) ?_
    refine mk_callR (va_runS (As := [.int a1]) (rest := [.int (hs_place st), .int (hf_LongForm_d a1), .ref h0]) ⟨hx, hb, hml, hown, hts⟩ (hc_LongForm_upperNumber l _ a1) (va_cwS 1 hts (mk_gS tw_167 tw_168 tw_54 tw_169) rfl rfl rfl hdLF_upperNumber.2 ⟨Nat.le_of_ble_eq_true rfl, Nat.le_of_ble_eq_true rfl⟩) mk_preS rfl rfl hl.1 rfl (lv_room (Nat.le_of_ble_eq_true rfl)) dHart_carryOutLong_133 ⟨Nat.zero_le _, Nat.zero_le _⟩) ?_
    refine lv_iadd hx hb dHart_carryOutLong_136 ?_
    refine mk_callW (va_runV (As := [.int (hf_LongForm_d a1), .int ((hs_place st) + (hf_LongForm_upperNumber a1))]) (rest := []) ⟨hx, hb, hml, hown, hts⟩ (hc_RiscHart_give l hP hD (hf_LongForm_d a1) ((hs_place st) + (hf_LongForm_upperNumber a1)) (in_LongForm_d _)) (cwV 2 hts (mk_gV tw_170 tw_172 tw_4 tw_46 tw_173) rfl rfl rfl hdHart_give ⟨Nat.le_of_ble_eq_true rfl, Nat.le_of_ble_eq_true rfl⟩) (mk_preVK hK (va_recv hK hP (ci := 0) (q0 := 0) rfl rfl)) rfl rfl hl.1 rfl (lv_room (Nat.le_of_ble_eq_true rfl)) dHart_carryOutLong_137 ⟨Nat.zero_le _, Nat.zero_le _⟩) hS (fun H locs hP hS => ?_)
    exact W.iret hx hb hr (fun t ht hW => ⟨⟨_, (hf_RiscHart_give st (hf_LongForm_d a1) ((hs_place st) + (hf_LongForm_upperNumber a1))).2, rfl, (by unfold hf_RiscHart_carryOutLong; rw [if_neg c_1, if_neg c_2, if_neg c_4, if_pos c_5]), by show va_P D hcl _ t.heap; rw [ht]; exact hP⟩, hS.F ht⟩) hS.2.2 dHart_carryOutLong_140
  by_cases c_6 : (a1 &&& 127) = 35
  · refine lv_lookup (off := 165) (tgt := 174) hx hb dHart_carryOutLong_9 (by decide) (by rw [c_6]; decide) (by decide) ?_
    refine lv_aload_n hx hb dHart_carryOutLong_174 rfl (lv_at hl 1 rfl) ?_
    refine lv_iload_n hx hb dHart_carryOutLong_175 rfl (lv_at hl 2 rfl) ?_
    refine mk_callW (va_runV (As := [.int a1]) (rest := []) ⟨hx, hb, hml, hown, hts⟩ (hc_RiscHart_longStore l hP hD a1) (cwV 1 hts (mk_gV tw_225 tw_227 tw_11 tw_46 tw_228) rfl rfl rfl hdHart_longStore ⟨Nat.le_of_ble_eq_true rfl, Nat.le_of_ble_eq_true rfl⟩) (mk_preVK hK (va_recv hK hP (ci := 0) (q0 := 0) rfl rfl)) rfl rfl hl.1 rfl (lv_room (Nat.le_of_ble_eq_true rfl)) dHart_carryOutLong_176 ⟨Nat.zero_le _, Nat.zero_le _⟩) hS (fun H locs hP hS => ?_)
    exact W.iret hx hb hr (fun t ht hW => ⟨⟨_, (hf_RiscHart_longStore st a1).2, rfl, (by unfold hf_RiscHart_carryOutLong; rw [if_neg c_1, if_neg c_2, if_neg c_4, if_neg c_5, if_pos c_6]), by show va_P D hcl _ t.heap; rw [ht]; exact hP⟩, hS.F ht⟩) hS.2.2 dHart_carryOutLong_179
  by_cases c_7 : (a1 &&& 127) = 47
  · refine lv_lookup (off := 183) (tgt := 192) hx hb dHart_carryOutLong_9 (by decide) (by rw [c_7]; decide) (by decide) ?_
    refine lv_aload_n hx hb dHart_carryOutLong_192 rfl (lv_at hl 1 rfl) ?_
    refine lv_iload_n hx hb dHart_carryOutLong_193 rfl (lv_at hl 2 rfl) ?_
    refine mk_callW (va_runV (As := [.int a1]) (rest := []) ⟨hx, hb, hml, hown, hts⟩ (hc_RiscHart_longAtomic l hP hD a1) (cwV 1 hts (mk_gV tw_270 tw_272 tw_15 tw_46 tw_273) rfl rfl rfl hdHart_longAtomic ⟨Nat.le_of_ble_eq_true rfl, Nat.le_of_ble_eq_true rfl⟩) (mk_preVK hK (va_recv hK hP (ci := 0) (q0 := 0) rfl rfl)) rfl rfl hl.1 rfl (lv_room (Nat.le_of_ble_eq_true rfl)) dHart_carryOutLong_194 ⟨Nat.zero_le _, Nat.zero_le _⟩) hS (fun H locs hP hS => ?_)
    exact W.iret hx hb hr (fun t ht hW => ⟨⟨_, (hf_RiscHart_longAtomic st a1).2, rfl, (by unfold hf_RiscHart_carryOutLong; rw [if_neg c_1, if_neg c_2, if_neg c_4, if_neg c_5, if_neg c_6, if_pos c_7]), by show va_P D hcl _ t.heap; rw [ht]; exact hP⟩, hS.F ht⟩) hS.2.2 dHart_carryOutLong_197
  by_cases c_8 : (a1 &&& 127) = 51
  · refine lv_lookup (off := 177) (tgt := 186) hx hb dHart_carryOutLong_9 (by decide) (by rw [c_8]; decide) (by decide) ?_
    refine lv_aload_n hx hb dHart_carryOutLong_186 rfl (lv_at hl 1 rfl) ?_
    refine lv_iload_n hx hb dHart_carryOutLong_187 rfl (lv_at hl 2 rfl) ?_
    refine mk_callW (va_runV (As := [.int a1]) (rest := []) ⟨hx, hb, hml, hown, hts⟩ (hc_RiscHart_longWithRegisters l hP hD a1) (cwV 1 hts (mk_gV tw_256 tw_258 tw_14 tw_46 tw_259) rfl rfl rfl hdHart_longWithRegisters ⟨Nat.le_of_ble_eq_true rfl, Nat.le_of_ble_eq_true rfl⟩) (mk_preVK hK (va_recv hK hP (ci := 0) (q0 := 0) rfl rfl)) rfl rfl hl.1 rfl (lv_room (Nat.le_of_ble_eq_true rfl)) dHart_carryOutLong_188 ⟨Nat.zero_le _, Nat.zero_le _⟩) hS (fun H locs hP hS => ?_)
    exact W.iret hx hb hr (fun t ht hW => ⟨⟨_, (hf_RiscHart_longWithRegisters st a1).2, rfl, (by unfold hf_RiscHart_carryOutLong; rw [if_neg c_1, if_neg c_2, if_neg c_4, if_neg c_5, if_neg c_6, if_neg c_7, if_pos c_8]), by show va_P D hcl _ t.heap; rw [ht]; exact hP⟩, hS.F ht⟩) hS.2.2 dHart_carryOutLong_191
  by_cases c_9 : (a1 &&& 127) = 55
  · refine lv_lookup (off := 107) (tgt := 116) hx hb dHart_carryOutLong_9 (by decide) (by rw [c_9]; decide) (by decide) ?_
    refine lv_aload_n hx hb dHart_carryOutLong_116 rfl (lv_at hl 1 rfl) ?_
    refine lv_iload_n hx hb dHart_carryOutLong_117 rfl (lv_at hl 0 rfl) ?_
    refine lv_iload_n hx hb dHart_carryOutLong_118 rfl (lv_at hl 2 rfl) ?_
    refine mk_callR (va_runS (As := [.int a1]) (rest := [.int (hf_LongForm_d a1), .ref h0]) ⟨hx, hb, hml, hown, hts⟩ (hc_LongForm_upperNumber l _ a1) (va_cwS 1 hts (mk_gS tw_167 tw_168 tw_54 tw_169) rfl rfl rfl hdLF_upperNumber.2 ⟨Nat.le_of_ble_eq_true rfl, Nat.le_of_ble_eq_true rfl⟩) mk_preS rfl rfl hl.1 rfl (lv_room (Nat.le_of_ble_eq_true rfl)) dHart_carryOutLong_119 ⟨Nat.zero_le _, Nat.zero_le _⟩) ?_
    refine mk_callW (va_runV (As := [.int (hf_LongForm_d a1), .int (hf_LongForm_upperNumber a1)]) (rest := []) ⟨hx, hb, hml, hown, hts⟩ (hc_RiscHart_give l hP hD (hf_LongForm_d a1) (hf_LongForm_upperNumber a1) (in_LongForm_d _)) (cwV 2 hts (mk_gV tw_170 tw_172 tw_4 tw_46 tw_173) rfl rfl rfl hdHart_give ⟨Nat.le_of_ble_eq_true rfl, Nat.le_of_ble_eq_true rfl⟩) (mk_preVK hK (va_recv hK hP (ci := 0) (q0 := 0) rfl rfl)) rfl rfl hl.1 rfl (lv_room (Nat.le_of_ble_eq_true rfl)) dHart_carryOutLong_122 ⟨Nat.zero_le _, Nat.zero_le _⟩) hS (fun H locs hP hS => ?_)
    exact W.iret hx hb hr (fun t ht hW => ⟨⟨_, (hf_RiscHart_give st (hf_LongForm_d a1) (hf_LongForm_upperNumber a1)).2, rfl, (by unfold hf_RiscHart_carryOutLong; rw [if_neg c_1, if_neg c_2, if_neg c_4, if_neg c_5, if_neg c_6, if_neg c_7, if_neg c_8, if_pos c_9]), by show va_P D hcl _ t.heap; rw [ht]; exact hP⟩, hS.F ht⟩) hS.2.2 dHart_carryOutLong_125
  by_cases c_10 : (a1 &&& 127) = 99
  · refine lv_lookup (off := 153) (tgt := 162) hx hb dHart_carryOutLong_9 (by decide) (by rw [c_10]; decide) (by decide) ?_
    refine lv_aload_n hx hb dHart_carryOutLong_162 rfl (lv_at hl 1 rfl) ?_
    refine lv_iload_n hx hb dHart_carryOutLong_163 rfl (lv_at hl 2 rfl) ?_
    refine mk_callW (va_runV (As := [.int a1]) (rest := []) ⟨hx, hb, hml, hown, hts⟩ (hc_RiscHart_longBranch l hP hD a1) (cwV 1 hts (mk_gV tw_197 tw_199 tw_7 tw_46 tw_200) rfl rfl rfl hdHart_longBranch ⟨Nat.le_of_ble_eq_true rfl, Nat.le_of_ble_eq_true rfl⟩) (mk_preVK hK (va_recv hK hP (ci := 0) (q0 := 0) rfl rfl)) rfl rfl hl.1 rfl (lv_room (Nat.le_of_ble_eq_true rfl)) dHart_carryOutLong_164 ⟨Nat.zero_le _, Nat.zero_le _⟩) hS (fun H locs hP hS => ?_)
    exact W.iret hx hb hr (fun t ht hW => ⟨⟨_, (hf_RiscHart_longBranch st a1).2, rfl, (by unfold hf_RiscHart_carryOutLong; rw [if_neg c_1, if_neg c_2, if_neg c_4, if_neg c_5, if_neg c_6, if_neg c_7, if_neg c_8, if_neg c_9, if_pos c_10]), by show va_P D hcl _ t.heap; rw [ht]; exact hP⟩, hS.F ht⟩) hS.2.2 dHart_carryOutLong_167
  by_cases c_11 : (a1 &&& 127) = 103
  · refine lv_lookup (off := 147) (tgt := 156) hx hb dHart_carryOutLong_9 (by decide) (by rw [c_11]; decide) (by decide) ?_
    refine lv_aload_n hx hb dHart_carryOutLong_156 rfl (lv_at hl 1 rfl) ?_
    refine lv_iload_n hx hb dHart_carryOutLong_157 rfl (lv_at hl 2 rfl) ?_
    refine mk_callW (va_runV (As := [.int a1]) (rest := []) ⟨hx, hb, hml, hown, hts⟩ (hc_RiscHart_longJumpToRegister l hP hD a1) (cwV 1 hts (mk_gV tw_184 tw_186 tw_6 tw_46 tw_187) rfl rfl rfl hdHart_longJumpToRegister ⟨Nat.le_of_ble_eq_true rfl, Nat.le_of_ble_eq_true rfl⟩) (mk_preVK hK (va_recv hK hP (ci := 0) (q0 := 0) rfl rfl)) rfl rfl hl.1 rfl (lv_room (Nat.le_of_ble_eq_true rfl)) dHart_carryOutLong_158 ⟨Nat.zero_le _, Nat.zero_le _⟩) hS (fun H locs hP hS => ?_)
    exact W.iret hx hb hr (fun t ht hW => ⟨⟨_, (hf_RiscHart_longJumpToRegister st a1).2, rfl, (by unfold hf_RiscHart_carryOutLong; rw [if_neg c_1, if_neg c_2, if_neg c_4, if_neg c_5, if_neg c_6, if_neg c_7, if_neg c_8, if_neg c_9, if_neg c_10, if_pos c_11]), by show va_P D hcl _ t.heap; rw [ht]; exact hP⟩, hS.F ht⟩) hS.2.2 dHart_carryOutLong_161
  by_cases c_12 : (a1 &&& 127) = 111
  · refine lv_lookup (off := 132) (tgt := 141) hx hb dHart_carryOutLong_9 (by decide) (by rw [c_12]; decide) (by decide) ?_
    refine lv_aload_n hx hb dHart_carryOutLong_141 rfl (lv_at hl 1 rfl) ?_
    refine lv_iload_n hx hb dHart_carryOutLong_142 rfl (lv_at hl 0 rfl) ?_
    refine lv_aload_n hx hb dHart_carryOutLong_143 rfl (lv_at hl 1 rfl) ?_
    refine va_get (D := D) (ci := 0) (v := .int (hs_place st)) (C := RHart) (T := THart) (N := 8) hx hb hg inHart hown hK hP 0 rfl rfl 2 (by decide) (hg _ tw_85) (fun _ h9 => h9) rfl dHart_carryOutLong_144 ?_
    refine lv_iload_n hx hb dHart_carryOutLong_147 rfl (lv_at hl 2 rfl) ?_
    refine mk_callR (va_runS (As := [.int a1]) (rest := [.int (hs_place st), .int (hf_LongForm_d a1), .ref h0]) ⟨hx, hb, hml, hown, hts⟩ (hc_LongForm_offsetJ l _ a1) (va_cwS 1 hts (mk_gS tw_174 tw_175 tw_54 tw_176) rfl rfl rfl hdLF_offsetJ.2 ⟨Nat.le_of_ble_eq_true rfl, Nat.le_of_ble_eq_true rfl⟩) mk_preS rfl rfl hl.1 rfl (lv_room (Nat.le_of_ble_eq_true rfl)) dHart_carryOutLong_148 ⟨Nat.zero_le _, Nat.zero_le _⟩) ?_
    refine lv_iadd hx hb dHart_carryOutLong_151 ?_
    refine mk_callW (va_runV (As := [.int (hf_LongForm_d a1), .int ((hs_place st) + (hf_LongForm_offsetJ a1))]) (rest := []) ⟨hx, hb, hml, hown, hts⟩ (hc_RiscHart_linkAndJump l hP hD (hf_LongForm_d a1) ((hs_place st) + (hf_LongForm_offsetJ a1)) (in_LongForm_d _)) (cwV 2 hts (mk_gV tw_180 tw_182 tw_5 tw_46 tw_183) rfl rfl rfl hdHart_linkAndJump ⟨Nat.le_of_ble_eq_true rfl, Nat.le_of_ble_eq_true rfl⟩) (mk_preVK hK (va_recv hK hP (ci := 0) (q0 := 0) rfl rfl)) rfl rfl hl.1 rfl (lv_room (Nat.le_of_ble_eq_true rfl)) dHart_carryOutLong_152 ⟨Nat.zero_le _, Nat.zero_le _⟩) hS (fun H locs hP hS => ?_)
    exact W.iret hx hb hr (fun t ht hW => ⟨⟨_, (hf_RiscHart_linkAndJump st (hf_LongForm_d a1) ((hs_place st) + (hf_LongForm_offsetJ a1))).2, rfl, (by unfold hf_RiscHart_carryOutLong; rw [if_neg c_1, if_neg c_2, if_neg c_4, if_neg c_5, if_neg c_6, if_neg c_7, if_neg c_8, if_neg c_9, if_neg c_10, if_neg c_11, if_pos c_12]), by show va_P D hcl _ t.heap; rw [ht]; exact hP⟩, hS.F ht⟩) hS.2.2 dHart_carryOutLong_155
  by_cases c_13 : (a1 &&& 127) = 115
  · refine lv_lookup (off := 208) (tgt := 217) hx hb dHart_carryOutLong_9 (by decide) (by rw [c_13]; decide) (by decide) ?_
    refine lv_aload_n hx hb dHart_carryOutLong_217 rfl (lv_at hl 1 rfl) ?_
    refine lv_iload_n hx hb dHart_carryOutLong_218 rfl (lv_at hl 2 rfl) ?_
    refine mk_callW (va_runV (As := [.int a1]) (rest := []) ⟨hx, hb, hml, hown, hts⟩ (hc_RiscHart_longSystem l hP hD a1) (cwV 1 hts (mk_gV tw_306 tw_308 tw_19 tw_46 tw_309) rfl rfl rfl hdHart_longSystem ⟨Nat.le_of_ble_eq_true rfl, Nat.le_of_ble_eq_true rfl⟩) (mk_preVK hK (va_recv hK hP (ci := 0) (q0 := 0) rfl rfl)) rfl rfl hl.1 rfl (lv_room (Nat.le_of_ble_eq_true rfl)) dHart_carryOutLong_219 ⟨Nat.zero_le _, Nat.zero_le _⟩) hS (fun H locs hP hS => ?_)
    exact W.iret hx hb hr (fun t ht hW => ⟨⟨_, (hf_RiscHart_longSystem st a1).2, rfl, (by unfold hf_RiscHart_carryOutLong; rw [if_neg c_1, if_neg c_2, if_neg c_4, if_neg c_5, if_neg c_6, if_neg c_7, if_neg c_8, if_neg c_9, if_neg c_10, if_neg c_11, if_neg c_12, if_pos c_13]), by show va_P D hcl _ t.heap; rw [ht]; exact hP⟩, hS.F ht⟩) hS.2.2 dHart_carryOutLong_222
  refine lv_lookup (off := 214) (tgt := 223) hx hb dHart_carryOutLong_9 (by decide) ((lv_osw (a := 3) c_1 rfl).trans ((lv_osw (a := 15) c_2 rfl).trans ((lv_osw (a := 19) c_4 rfl).trans ((lv_osw (a := 23) c_5 rfl).trans ((lv_osw (a := 35) c_6 rfl).trans ((lv_osw (a := 47) c_7 rfl).trans ((lv_osw (a := 51) c_8 rfl).trans ((lv_osw (a := 55) c_9 rfl).trans ((lv_osw (a := 99) c_10 rfl).trans ((lv_osw (a := 103) c_11 rfl).trans ((lv_osw (a := 111) c_12 rfl).trans ((lv_osw (a := 115) c_13 rfl).trans (rfl))))))))))))) (by decide) ?_
  refine lv_aload_n hx hb dHart_carryOutLong_223 rfl (lv_at hl 1 rfl) ?_
  refine lv_iconst (v := 2) hx hb dHart_carryOutLong_224 (by decide) ?_
  refine lv_iload_n hx hb dHart_carryOutLong_225 rfl (lv_at hl 2 rfl) ?_
  refine mk_callW (va_runV (As := [.int 2, .int a1]) (rest := []) ⟨hx, hb, hml, hown, hts⟩ (hc_RiscHart_trap l hP hD 2 a1) (cwV 2 hts (mk_gV tw_139 tw_141 tw_1 tw_46 tw_142) rfl rfl rfl hdHart_trap ⟨Nat.le_of_ble_eq_true rfl, Nat.le_of_ble_eq_true rfl⟩) (mk_preVK hK (va_recv hK hP (ci := 0) (q0 := 0) rfl rfl)) rfl rfl hl.1 rfl (lv_room (Nat.le_of_ble_eq_true rfl)) dHart_carryOutLong_226 ⟨Nat.zero_le _, Nat.zero_le _⟩) hS (fun H locs hP hS => ?_)
  exact W.iret hx hb hr (fun t ht hW => ⟨⟨_, (hf_RiscHart_trap st 2 a1).2, rfl, (by unfold hf_RiscHart_carryOutLong; rw [if_neg c_1, if_neg c_2, if_neg c_4, if_neg c_5, if_neg c_6, if_neg c_7, if_neg c_8, if_neg c_9, if_neg c_10, if_neg c_11, if_neg c_12, if_neg c_13]), by show va_P D hcl _ t.heap; rw [ht]; exact hP⟩, hS.F ht⟩) hS.2.2 dHart_carryOutLong_229
set_option maxHeartbeats 4000000 in
set_option maxRecDepth 100000 in
theorem hc_RiscHart_shortOfQ0 (l : Launch) {D : va_G} {cR cW cP : ClassId} {h0 h1 h2 h3 h4 : Nat} {A : Nat → Prop} {st : HS} {G : Heap} (hP : va_P D hcl (hs_W cR cW cP h0 h1 h2 h3 h4 st) G) (hD : ∀ z, va_D A (hs_W cR cW cP h0 h1 h2 h3 h4 z)) (a1 : Int32)  : Met l yHart_shortOfQ0 (wq yHart_shortOfQ0 cHart_shortOfQ0 5 (some .int)) ({ frames := 3, cells := 0, slots := 0, locals := 68 }) (mk_PK D hcl [(cR, .int), (cW, .int), (cP, .int)] G [.ref h0, .int a1]) (mk_Wi (fun u t => va_P D hcl (hs_W cR cW cP h0 h1 h2 h3 h4 u) t) A (hf_RiscHart_shortOfQ0 st a1)) 0 0 A := by
  refine Met.ofW (cc := cHart_shortOfQ0) (maxL := 5) (ret := (some .int)) (by decide) rfl ?_
  intro p e s m args below meth c s₁ B hml hv
  obtain ⟨rfl, hG, hK⟩ := hv
  subst hG
  have hx := B.exec
  have hb := B.bytes
  have hr := B.returns
  have hts := atoms_spec (ws := (wq yHart_shortOfQ0 cHart_shortOfQ0 5 (some .int))) B.pre
  have hown : s.vm.findClass RHart = some m.cls := findClass_of_methodNamed B.named
  have hlocks := B.notSynchronized
  have hg : ∀ w ∈ lw_g, w.before _ s = true := fun w h => hts w (List.mem_cons_of_mem _ h)
  have hS : va_S A s.heap s.heap [] := va_S.rf
  have hl := lv_entry ([.ref h0, .int a1]) (n := 5) (Nat.le_of_ble_eq_true rfl)
  rw [lg_entry_eq]
  generalize (lg_sl ([.ref h0, .int a1]) ++ List.replicate (5 - (lg_sl ([.ref h0, .int a1])).length) Slot.unset).toArray = ls at hl ⊢
  have hl : lv_has ls 5 [(0, .ref h0), (1, .int a1)] := hl
  refine lv_iload_n hx hb dHart_shortOfQ0_0 rfl (lv_at hl 1 rfl) ?_
  refine mk_callR (va_runS (As := [.int a1]) (rest := []) ⟨hx, hb, hml, hown, hts⟩ (hc_ShortForm_lowNear l _ a1) (va_cwS 1 hts (mk_gS tw_323 tw_324 tw_57 tw_325) rfl rfl rfl hdSF_lowNear.2 ⟨Nat.le_of_ble_eq_true rfl, Nat.le_of_ble_eq_true rfl⟩) mk_preS rfl rfl hl.1 rfl (lv_room (Nat.le_of_ble_eq_true rfl)) dHart_shortOfQ0_1 ⟨Nat.zero_le _, Nat.zero_le _⟩) ?_
  refine lv_istore_n (lv' := [(2, .int (hf_ShortForm_lowNear a1)), (0, .ref h0), (1, .int a1)]) hx hb dHart_shortOfQ0_4 rfl hl (by decide) rfl (fun ls hl => ?_)
  refine lv_aload_n hx hb dHart_shortOfQ0_5 rfl (lv_at hl 1 rfl) ?_
  refine va_get (D := D) (ci := 0) (v := .ref h2) (C := RHart) (T := THart) (N := 8) hx hb hg inHart hown hK hP 0 rfl rfl 1 (by decide) (hg _ tw_84) (fun _ h9 => h9) rfl dHart_shortOfQ0_6 ?_
  refine lv_iload_n hx hb dHart_shortOfQ0_9 rfl (lv_at hl 2 rfl) ?_
  refine mk_callR (va_runS (As := [.int a1]) (rest := [.ref h2]) ⟨hx, hb, hml, hown, hts⟩ (hc_ShortForm_highNear l _ a1) (va_cwS 1 hts (mk_gS tw_327 tw_328 tw_57 tw_329) rfl rfl rfl hdSF_highNear.2 ⟨Nat.le_of_ble_eq_true rfl, Nat.le_of_ble_eq_true rfl⟩) mk_preS rfl rfl hl.1 rfl (lv_room (Nat.le_of_ble_eq_true rfl)) dHart_shortOfQ0_10 ⟨Nat.zero_le _, Nat.zero_le _⟩) ?_
  refine va_iald (D := D) (f := hs_regs st) hx hb hK hP 2 0 rfl rfl (in_ShortForm_highNear _) dHart_shortOfQ0_13 ?_
  refine lv_iload_n hx hb dHart_shortOfQ0_14 rfl (lv_at hl 2 rfl) ?_
  refine mk_callR (va_runS (As := [.int a1]) (rest := [.int (hs_regs st ((hf_ShortForm_highNear a1)).toNatClampNeg)]) ⟨hx, hb, hml, hown, hts⟩ (hc_ShortForm_nearOffset l _ a1) (va_cwS 1 hts (mk_gS tw_330 tw_331 tw_57 tw_332) rfl rfl rfl hdSF_nearOffset.2 ⟨Nat.le_of_ble_eq_true rfl, Nat.le_of_ble_eq_true rfl⟩) mk_preS rfl rfl hl.1 rfl (lv_room (Nat.le_of_ble_eq_true rfl)) dHart_shortOfQ0_15 ⟨Nat.zero_le _, Nat.zero_le _⟩) ?_
  refine lv_iadd hx hb dHart_shortOfQ0_18 ?_
  refine lv_istore_n (lv' := [(3, .int ((hs_regs st ((hf_ShortForm_highNear a1)).toNatClampNeg) + (hf_ShortForm_nearOffset a1))), (2, .int (hf_ShortForm_lowNear a1)), (0, .ref h0), (1, .int a1)]) hx hb dHart_shortOfQ0_19 rfl hl (by decide) rfl (fun ls hl => ?_)
  refine lv_iload_n hx hb dHart_shortOfQ0_20 rfl (lv_at hl 3 rfl) ?_
  refine mk_callR (va_runS (As := [.int a1]) (rest := []) ⟨hx, hb, hml, hown, hts⟩ (hc_ShortForm_f l _ a1) (va_cwS 1 hts (mk_gS tw_333 tw_334 tw_57 tw_335) rfl rfl rfl hdSF_f.2 ⟨Nat.le_of_ble_eq_true rfl, Nat.le_of_ble_eq_true rfl⟩) mk_preS rfl rfl hl.1 rfl (lv_room (Nat.le_of_ble_eq_true rfl)) dHart_shortOfQ0_21 ⟨Nat.zero_le _, Nat.zero_le _⟩) ?_
  by_cases c_1 : (hf_ShortForm_f a1) = 0
  · refine lv_lookup (off := 36) (tgt := 60) hx hb dHart_shortOfQ0_24 (by decide) (by rw [c_1]; decide) (by decide) ?_
    refine lv_iload_n hx hb dHart_shortOfQ0_60 rfl (lv_at hl 3 rfl) ?_
    refine mk_callR (va_runS (As := [.int a1]) (rest := []) ⟨hx, hb, hml, hown, hts⟩ (hc_ShortForm_stackNumber l _ a1) (va_cwS 1 hts (mk_gS tw_336 tw_337 tw_57 tw_338) rfl rfl rfl hdSF_stackNumber.2 ⟨Nat.le_of_ble_eq_true rfl, Nat.le_of_ble_eq_true rfl⟩) mk_preS rfl rfl hl.1 rfl (lv_room (Nat.le_of_ble_eq_true rfl)) dHart_shortOfQ0_61 ⟨Nat.zero_le _, Nat.zero_le _⟩) ?_
    refine lv_istore (lv' := [(4, .int (hf_ShortForm_stackNumber a1)), (3, .int ((hs_regs st ((hf_ShortForm_highNear a1)).toNatClampNeg) + (hf_ShortForm_nearOffset a1))), (2, .int (hf_ShortForm_lowNear a1)), (0, .ref h0), (1, .int a1)]) hx hb dHart_shortOfQ0_64 hl (by decide) rfl (fun ls hl => ?_)
    refine lv_iload hx hb dHart_shortOfQ0_66 (lv_at hl 0 rfl) ?_
    refine lv_if_ne (tgt := 80) hx hb dHart_shortOfQ0_68 (by decide) (fun c_2 => ?_) (fun c_2 => ?_)
    · refine lv_aload_n hx hb dHart_shortOfQ0_80 rfl (lv_at hl 3 rfl) ?_
      refine lv_iload_n hx hb dHart_shortOfQ0_81 rfl (lv_at hl 2 rfl) ?_
      refine lv_aload_n hx hb dHart_shortOfQ0_82 rfl (lv_at hl 3 rfl) ?_
      refine va_get (D := D) (ci := 0) (v := .ref h2) (C := RHart) (T := THart) (N := 8) hx hb hg inHart hown hK hP 0 rfl rfl 1 (by decide) (hg _ tw_84) (fun _ h9 => h9) rfl dHart_shortOfQ0_83 ?_
      refine lv_iconst (v := 2) hx hb dHart_shortOfQ0_86 (by decide) ?_
      refine va_iald (D := D) (f := hs_regs st) hx hb hK hP 2 0 rfl rfl (in_k (by decide)) dHart_shortOfQ0_87 ?_
      refine lv_iload hx hb dHart_shortOfQ0_88 (lv_at hl 0 rfl) ?_
      refine lv_iadd hx hb dHart_shortOfQ0_90 ?_
      refine mk_callW (va_runV (As := [.int (hf_ShortForm_lowNear a1), .int ((hs_regs st (2 : Int32).toNatClampNeg) + (hf_ShortForm_stackNumber a1))]) (rest := []) ⟨hx, hb, hml, hown, hts⟩ (hc_RiscHart_give l hP hD (hf_ShortForm_lowNear a1) ((hs_regs st (2 : Int32).toNatClampNeg) + (hf_ShortForm_stackNumber a1)) (in_ShortForm_lowNear _)) (cwV 2 hts (mk_gV tw_170 tw_172 tw_4 tw_46 tw_173) rfl rfl rfl hdHart_give ⟨Nat.le_of_ble_eq_true rfl, Nat.le_of_ble_eq_true rfl⟩) (mk_preVK hK (va_recv hK hP (ci := 0) (q0 := 0) rfl rfl)) rfl rfl hl.1 rfl (lv_room (Nat.le_of_ble_eq_true rfl)) dHart_shortOfQ0_91 ⟨Nat.zero_le _, Nat.zero_le _⟩) hS (fun H locs hP hS => ?_)
      exact W.iret hx hb hr (fun t ht hW => ⟨⟨_, (hf_RiscHart_give st (hf_ShortForm_lowNear a1) ((hs_regs st (2 : Int32).toNatClampNeg) + (hf_ShortForm_stackNumber a1))).2, rfl, (by unfold hf_RiscHart_shortOfQ0; rw [if_pos c_1, if_neg c_2]), by show va_P D hcl _ t.heap; rw [ht]; exact hP⟩, hS.F ht⟩) hS.2.2 dHart_shortOfQ0_94
    · refine lv_aload_n hx hb dHart_shortOfQ0_71 rfl (lv_at hl 3 rfl) ?_
      refine lv_iconst (v := 2) hx hb dHart_shortOfQ0_72 (by decide) ?_
      refine lv_iload_n hx hb dHart_shortOfQ0_73 rfl (lv_at hl 4 rfl) ?_
      refine mk_callW (va_runV (As := [.int 2, .int a1]) (rest := []) ⟨hx, hb, hml, hown, hts⟩ (hc_RiscHart_trap l hP hD 2 a1) (cwV 2 hts (mk_gV tw_139 tw_141 tw_1 tw_46 tw_142) rfl rfl rfl hdHart_trap ⟨Nat.le_of_ble_eq_true rfl, Nat.le_of_ble_eq_true rfl⟩) (mk_preVK hK (va_recv hK hP (ci := 0) (q0 := 0) rfl rfl)) rfl rfl hl.1 rfl (lv_room (Nat.le_of_ble_eq_true rfl)) dHart_shortOfQ0_74 ⟨Nat.zero_le _, Nat.zero_le _⟩) hS (fun H locs hP hS => ?_)
      refine lv_goto (tgt := 94) hx hb dHart_shortOfQ0_77 (by decide) ?_
      exact W.iret hx hb hr (fun t ht hW => ⟨⟨_, (hf_RiscHart_trap st 2 a1).2, rfl, (by unfold hf_RiscHart_shortOfQ0; rw [if_pos c_1, if_pos c_2]), by show va_P D hcl _ t.heap; rw [ht]; exact hP⟩, hS.F ht⟩) hS.2.2 dHart_shortOfQ0_94
  by_cases c_3 : (hf_ShortForm_f a1) = 2
  · refine lv_lookup (off := 71) (tgt := 95) hx hb dHart_shortOfQ0_24 (by decide) (by rw [c_3]; decide) (by decide) ?_
    refine lv_aload_n hx hb dHart_shortOfQ0_95 rfl (lv_at hl 2 rfl) ?_
    refine lv_iconst (v := 2) hx hb dHart_shortOfQ0_96 (by decide) ?_
    refine lv_iload_n hx hb dHart_shortOfQ0_97 rfl (lv_at hl 1 rfl) ?_
    refine lv_iload_n hx hb dHart_shortOfQ0_98 rfl (lv_at hl 0 rfl) ?_
    refine mk_callW (va_runV (As := [.int 2, .int (hf_ShortForm_lowNear a1), .int ((hs_regs st ((hf_ShortForm_highNear a1)).toNatClampNeg) + (hf_ShortForm_nearOffset a1))]) (rest := []) ⟨hx, hb, hml, hown, hts⟩ (hc_RiscHart_load l hP hD 2 (hf_ShortForm_lowNear a1) ((hs_regs st ((hf_ShortForm_highNear a1)).toNatClampNeg) + (hf_ShortForm_nearOffset a1)) (in_ShortForm_lowNear _)) (cwV 3 hts (mk_gV tw_219 tw_221 tw_10 tw_46 tw_222) rfl rfl rfl hdHart_load ⟨Nat.le_of_ble_eq_true rfl, Nat.le_of_ble_eq_true rfl⟩) (mk_preVK hK (va_recv hK hP (ci := 0) (q0 := 0) rfl rfl)) rfl rfl hl.1 rfl (lv_room (Nat.le_of_ble_eq_true rfl)) dHart_shortOfQ0_99 ⟨Nat.zero_le _, Nat.zero_le _⟩) hS (fun H locs hP hS => ?_)
    exact W.iret hx hb hr (fun t ht hW => ⟨⟨_, (hf_RiscHart_load st 2 (hf_ShortForm_lowNear a1) ((hs_regs st ((hf_ShortForm_highNear a1)).toNatClampNeg) + (hf_ShortForm_nearOffset a1))).2, rfl, (by unfold hf_RiscHart_shortOfQ0; rw [if_neg c_1, if_pos c_3]), by show va_P D hcl _ t.heap; rw [ht]; exact hP⟩, hS.F ht⟩) hS.2.2 dHart_shortOfQ0_102
  by_cases c_4 : (hf_ShortForm_f a1) = 6
  · refine lv_lookup (off := 79) (tgt := 103) hx hb dHart_shortOfQ0_24 (by decide) (by rw [c_4]; decide) (by decide) ?_
    refine lv_aload_n hx hb dHart_shortOfQ0_103 rfl (lv_at hl 2 rfl) ?_
    refine lv_iconst (v := 2) hx hb dHart_shortOfQ0_104 (by decide) ?_
    refine lv_iload_n hx hb dHart_shortOfQ0_105 rfl (lv_at hl 0 rfl) ?_
    refine lv_aload_n hx hb dHart_shortOfQ0_106 rfl (lv_at hl 2 rfl) ?_
    refine va_get (D := D) (ci := 0) (v := .ref h2) (C := RHart) (T := THart) (N := 8) hx hb hg inHart hown hK hP 0 rfl rfl 1 (by decide) (hg _ tw_84) (fun _ h9 => h9) rfl dHart_shortOfQ0_107 ?_
    refine lv_iload_n hx hb dHart_shortOfQ0_110 rfl (lv_at hl 1 rfl) ?_
    refine va_iald (D := D) (f := hs_regs st) hx hb hK hP 2 0 rfl rfl (in_ShortForm_lowNear _) dHart_shortOfQ0_111 ?_
    refine mk_callW (va_runV (As := [.int 2, .int ((hs_regs st ((hf_ShortForm_highNear a1)).toNatClampNeg) + (hf_ShortForm_nearOffset a1)), .int (hs_regs st ((hf_ShortForm_lowNear a1)).toNatClampNeg)]) (rest := []) ⟨hx, hb, hml, hown, hts⟩ (hc_RiscHart_store l hP hD 2 ((hs_regs st ((hf_ShortForm_highNear a1)).toNatClampNeg) + (hf_ShortForm_nearOffset a1)) (hs_regs st ((hf_ShortForm_lowNear a1)).toNatClampNeg)) (cwV 3 hts (mk_gV tw_236 tw_238 tw_12 tw_46 tw_239) rfl rfl rfl hdHart_store ⟨Nat.le_of_ble_eq_true rfl, Nat.le_of_ble_eq_true rfl⟩) (mk_preVK hK (va_recv hK hP (ci := 0) (q0 := 0) rfl rfl)) rfl rfl hl.1 rfl (lv_room (Nat.le_of_ble_eq_true rfl)) dHart_shortOfQ0_112 ⟨Nat.zero_le _, Nat.zero_le _⟩) hS (fun H locs hP hS => ?_)
    exact W.iret hx hb hr (fun t ht hW => ⟨⟨_, (hf_RiscHart_store st 2 ((hs_regs st ((hf_ShortForm_highNear a1)).toNatClampNeg) + (hf_ShortForm_nearOffset a1)) (hs_regs st ((hf_ShortForm_lowNear a1)).toNatClampNeg)).2, rfl, (by unfold hf_RiscHart_shortOfQ0; rw [if_neg c_1, if_neg c_3, if_pos c_4]), by show va_P D hcl _ t.heap; rw [ht]; exact hP⟩, hS.F ht⟩) hS.2.2 dHart_shortOfQ0_115
  refine lv_lookup (off := 92) (tgt := 116) hx hb dHart_shortOfQ0_24 (by decide) ((lv_osw (a := 0) c_1 rfl).trans ((lv_osw (a := 2) c_3 rfl).trans ((lv_osw (a := 6) c_4 rfl).trans (rfl)))) (by decide) ?_
  refine lv_aload_n hx hb dHart_shortOfQ0_116 rfl (lv_at hl 2 rfl) ?_
  refine lv_iconst (v := 2) hx hb dHart_shortOfQ0_117 (by decide) ?_
  refine lv_iload_n hx hb dHart_shortOfQ0_118 rfl (lv_at hl 3 rfl) ?_
  refine mk_callW (va_runV (As := [.int 2, .int a1]) (rest := []) ⟨hx, hb, hml, hown, hts⟩ (hc_RiscHart_trap l hP hD 2 a1) (cwV 2 hts (mk_gV tw_139 tw_141 tw_1 tw_46 tw_142) rfl rfl rfl hdHart_trap ⟨Nat.le_of_ble_eq_true rfl, Nat.le_of_ble_eq_true rfl⟩) (mk_preVK hK (va_recv hK hP (ci := 0) (q0 := 0) rfl rfl)) rfl rfl hl.1 rfl (lv_room (Nat.le_of_ble_eq_true rfl)) dHart_shortOfQ0_119 ⟨Nat.zero_le _, Nat.zero_le _⟩) hS (fun H locs hP hS => ?_)
  exact W.iret hx hb hr (fun t ht hW => ⟨⟨_, (hf_RiscHart_trap st 2 a1).2, rfl, (by unfold hf_RiscHart_shortOfQ0; rw [if_neg c_1, if_neg c_3, if_neg c_4]), by show va_P D hcl _ t.heap; rw [ht]; exact hP⟩, hS.F ht⟩) hS.2.2 dHart_shortOfQ0_122
set_option maxHeartbeats 4000000 in
set_option maxRecDepth 100000 in
theorem hc_RiscHart_shortMoveStack (l : Launch) {D : va_G} {cR cW cP : ClassId} {h0 h1 h2 h3 h4 : Nat} {A : Nat → Prop} {st : HS} {G : Heap} (hP : va_P D hcl (hs_W cR cW cP h0 h1 h2 h3 h4 st) G) (hD : ∀ z, va_D A (hs_W cR cW cP h0 h1 h2 h3 h4 z)) (a1 : Int32)  : Met l yHart_shortMoveStack (wq yHart_shortMoveStack cHart_shortMoveStack 3 (some .int)) ({ frames := 2, cells := 0, slots := 0, locals := 43 }) (mk_PK D hcl [(cR, .int), (cW, .int), (cP, .int)] G [.ref h0, .int a1]) (mk_Wi (fun u t => va_P D hcl (hs_W cR cW cP h0 h1 h2 h3 h4 u) t) A (hf_RiscHart_shortMoveStack st a1)) 0 0 A := by
  refine Met.ofW (cc := cHart_shortMoveStack) (maxL := 3) (ret := (some .int)) (by decide) rfl ?_
  intro p e s m args below meth c s₁ B hml hv
  obtain ⟨rfl, hG, hK⟩ := hv
  subst hG
  have hx := B.exec
  have hb := B.bytes
  have hr := B.returns
  have hts := atoms_spec (ws := (wq yHart_shortMoveStack cHart_shortMoveStack 3 (some .int))) B.pre
  have hown : s.vm.findClass RHart = some m.cls := findClass_of_methodNamed B.named
  have hlocks := B.notSynchronized
  have hg : ∀ w ∈ lw_g, w.before _ s = true := fun w h => hts w (List.mem_cons_of_mem _ h)
  have hS : va_S A s.heap s.heap [] := va_S.rf
  have hl := lv_entry ([.ref h0, .int a1]) (n := 3) (Nat.le_of_ble_eq_true rfl)
  rw [lg_entry_eq]
  generalize (lg_sl ([.ref h0, .int a1]) ++ List.replicate (3 - (lg_sl ([.ref h0, .int a1])).length) Slot.unset).toArray = ls at hl ⊢
  have hl : lv_has ls 3 [(0, .ref h0), (1, .int a1)] := hl
  refine lv_iload_n hx hb dHart_shortMoveStack_0 rfl (lv_at hl 1 rfl) ?_
  refine mk_callR (va_runS (As := [.int a1]) (rest := []) ⟨hx, hb, hml, hown, hts⟩ (hc_ShortForm_stackMove l _ a1) (va_cwS 1 hts (mk_gS tw_357 tw_358 tw_57 tw_359) rfl rfl rfl hdSF_stackMove.2 ⟨Nat.le_of_ble_eq_true rfl, Nat.le_of_ble_eq_true rfl⟩) mk_preS rfl rfl hl.1 rfl (lv_room (Nat.le_of_ble_eq_true rfl)) dHart_shortMoveStack_1 ⟨Nat.zero_le _, Nat.zero_le _⟩) ?_
  refine lv_istore_n (lv' := [(2, .int (hf_ShortForm_stackMove a1)), (0, .ref h0), (1, .int a1)]) hx hb dHart_shortMoveStack_4 rfl hl (by decide) rfl (fun ls hl => ?_)
  refine lv_iload_n hx hb dHart_shortMoveStack_5 rfl (lv_at hl 0 rfl) ?_
  refine lv_if_ne (tgt := 18) hx hb dHart_shortMoveStack_6 (by decide) (fun c_1 => ?_) (fun c_1 => ?_)
  · refine lv_aload_n hx hb dHart_shortMoveStack_18 rfl (lv_at hl 1 rfl) ?_
    refine lv_iconst (v := 2) hx hb dHart_shortMoveStack_19 (by decide) ?_
    refine lv_aload_n hx hb dHart_shortMoveStack_20 rfl (lv_at hl 1 rfl) ?_
    refine va_get (D := D) (ci := 0) (v := .ref h2) (C := RHart) (T := THart) (N := 8) hx hb hg inHart hown hK hP 0 rfl rfl 1 (by decide) (hg _ tw_84) (fun _ h9 => h9) rfl dHart_shortMoveStack_21 ?_
    refine lv_iconst (v := 2) hx hb dHart_shortMoveStack_24 (by decide) ?_
    refine va_iald (D := D) (f := hs_regs st) hx hb hK hP 2 0 rfl rfl (in_k (by decide)) dHart_shortMoveStack_25 ?_
    refine lv_iload_n hx hb dHart_shortMoveStack_26 rfl (lv_at hl 0 rfl) ?_
    refine lv_iadd hx hb dHart_shortMoveStack_27 ?_
    refine mk_callW (va_runV (As := [.int 2, .int ((hs_regs st (2 : Int32).toNatClampNeg) + (hf_ShortForm_stackMove a1))]) (rest := []) ⟨hx, hb, hml, hown, hts⟩ (hc_RiscHart_give l hP hD 2 ((hs_regs st (2 : Int32).toNatClampNeg) + (hf_ShortForm_stackMove a1)) (in_k (by decide))) (cwV 2 hts (mk_gV tw_170 tw_172 tw_4 tw_46 tw_173) rfl rfl rfl hdHart_give ⟨Nat.le_of_ble_eq_true rfl, Nat.le_of_ble_eq_true rfl⟩) (mk_preVK hK (va_recv hK hP (ci := 0) (q0 := 0) rfl rfl)) rfl rfl hl.1 rfl (lv_room (Nat.le_of_ble_eq_true rfl)) dHart_shortMoveStack_28 ⟨Nat.zero_le _, Nat.zero_le _⟩) hS (fun H locs hP hS => ?_)
    exact W.iret hx hb hr (fun t ht hW => ⟨⟨_, (hf_RiscHart_give st 2 ((hs_regs st (2 : Int32).toNatClampNeg) + (hf_ShortForm_stackMove a1))).2, rfl, (by unfold hf_RiscHart_shortMoveStack; rw [if_neg c_1]), by show va_P D hcl _ t.heap; rw [ht]; exact hP⟩, hS.F ht⟩) hS.2.2 dHart_shortMoveStack_31
  · refine lv_aload_n hx hb dHart_shortMoveStack_9 rfl (lv_at hl 1 rfl) ?_
    refine lv_iconst (v := 2) hx hb dHart_shortMoveStack_10 (by decide) ?_
    refine lv_iload_n hx hb dHart_shortMoveStack_11 rfl (lv_at hl 2 rfl) ?_
    refine mk_callW (va_runV (As := [.int 2, .int a1]) (rest := []) ⟨hx, hb, hml, hown, hts⟩ (hc_RiscHart_trap l hP hD 2 a1) (cwV 2 hts (mk_gV tw_139 tw_141 tw_1 tw_46 tw_142) rfl rfl rfl hdHart_trap ⟨Nat.le_of_ble_eq_true rfl, Nat.le_of_ble_eq_true rfl⟩) (mk_preVK hK (va_recv hK hP (ci := 0) (q0 := 0) rfl rfl)) rfl rfl hl.1 rfl (lv_room (Nat.le_of_ble_eq_true rfl)) dHart_shortMoveStack_12 ⟨Nat.zero_le _, Nat.zero_le _⟩) hS (fun H locs hP hS => ?_)
    refine lv_goto (tgt := 31) hx hb dHart_shortMoveStack_15 (by decide) ?_
    exact W.iret hx hb hr (fun t ht hW => ⟨⟨_, (hf_RiscHart_trap st 2 a1).2, rfl, (by unfold hf_RiscHart_shortMoveStack; rw [if_pos c_1]), by show va_P D hcl _ t.heap; rw [ht]; exact hP⟩, hS.F ht⟩) hS.2.2 dHart_shortMoveStack_31
set_option maxHeartbeats 4000000 in
set_option maxRecDepth 100000 in
theorem hc_RiscHart_shortUpperNumber (l : Launch) {D : va_G} {cR cW cP : ClassId} {h0 h1 h2 h3 h4 : Nat} {A : Nat → Prop} {st : HS} {G : Heap} (hP : va_P D hcl (hs_W cR cW cP h0 h1 h2 h3 h4 st) G) (hD : ∀ z, va_D A (hs_W cR cW cP h0 h1 h2 h3 h4 z)) (a1 : Int32)  : Met l yHart_shortUpperNumber (wq yHart_shortUpperNumber cHart_shortUpperNumber 3 (some .int)) ({ frames := 2, cells := 0, slots := 0, locals := 42 }) (mk_PK D hcl [(cR, .int), (cW, .int), (cP, .int)] G [.ref h0, .int a1]) (mk_Wi (fun u t => va_P D hcl (hs_W cR cW cP h0 h1 h2 h3 h4 u) t) A (hf_RiscHart_shortUpperNumber st a1)) 0 0 A := by
  refine Met.ofW (cc := cHart_shortUpperNumber) (maxL := 3) (ret := (some .int)) (by decide) rfl ?_
  intro p e s m args below meth c s₁ B hml hv
  obtain ⟨rfl, hG, hK⟩ := hv
  subst hG
  have hx := B.exec
  have hb := B.bytes
  have hr := B.returns
  have hts := atoms_spec (ws := (wq yHart_shortUpperNumber cHart_shortUpperNumber 3 (some .int))) B.pre
  have hown : s.vm.findClass RHart = some m.cls := findClass_of_methodNamed B.named
  have hlocks := B.notSynchronized
  have hg : ∀ w ∈ lw_g, w.before _ s = true := fun w h => hts w (List.mem_cons_of_mem _ h)
  have hS : va_S A s.heap s.heap [] := va_S.rf
  have hl := lv_entry ([.ref h0, .int a1]) (n := 3) (Nat.le_of_ble_eq_true rfl)
  rw [lg_entry_eq]
  generalize (lg_sl ([.ref h0, .int a1]) ++ List.replicate (3 - (lg_sl ([.ref h0, .int a1])).length) Slot.unset).toArray = ls at hl ⊢
  have hl : lv_has ls 3 [(0, .ref h0), (1, .int a1)] := hl
  refine lv_iload_n hx hb dHart_shortUpperNumber_0 rfl (lv_at hl 1 rfl) ?_
  refine mk_callR (va_runS (As := [.int a1]) (rest := []) ⟨hx, hb, hml, hown, hts⟩ (hc_ShortForm_number l _ a1) (va_cwS 1 hts (mk_gS tw_346 tw_347 tw_57 tw_348) rfl rfl rfl hdSF_number.2 ⟨Nat.le_of_ble_eq_true rfl, Nat.le_of_ble_eq_true rfl⟩) mk_preS rfl rfl hl.1 rfl (lv_room (Nat.le_of_ble_eq_true rfl)) dHart_shortUpperNumber_1 ⟨Nat.zero_le _, Nat.zero_le _⟩) ?_
  refine lv_istore_n (lv' := [(2, .int (hf_ShortForm_number a1)), (0, .ref h0), (1, .int a1)]) hx hb dHart_shortUpperNumber_4 rfl hl (by decide) rfl (fun ls hl => ?_)
  refine lv_iload_n hx hb dHart_shortUpperNumber_5 rfl (lv_at hl 0 rfl) ?_
  refine lv_if_ne (tgt := 18) hx hb dHart_shortUpperNumber_6 (by decide) (fun c_1 => ?_) (fun c_1 => ?_)
  · refine lv_aload_n hx hb dHart_shortUpperNumber_18 rfl (lv_at hl 1 rfl) ?_
    refine lv_iload_n hx hb dHart_shortUpperNumber_19 rfl (lv_at hl 2 rfl) ?_
    refine mk_callR (va_runS (As := [.int a1]) (rest := [.ref h0]) ⟨hx, hb, hml, hown, hts⟩ (hc_ShortForm_d l _ a1) (va_cwS 1 hts (mk_gS tw_343 tw_344 tw_57 tw_345) rfl rfl rfl hdSF_d.2 ⟨Nat.le_of_ble_eq_true rfl, Nat.le_of_ble_eq_true rfl⟩) mk_preS rfl rfl hl.1 rfl (lv_room (Nat.le_of_ble_eq_true rfl)) dHart_shortUpperNumber_20 ⟨Nat.zero_le _, Nat.zero_le _⟩) ?_
    refine lv_iload_n hx hb dHart_shortUpperNumber_23 rfl (lv_at hl 0 rfl) ?_
    refine lv_bipush (v := 12) hx hb dHart_shortUpperNumber_24 (by decide) ?_
    refine lv_ishl hx hb dHart_shortUpperNumber_26 ?_
    refine mk_callW (va_runV (As := [.int (hf_ShortForm_d a1), .int ((hf_ShortForm_number a1) <<< (12 &&& 31))]) (rest := []) ⟨hx, hb, hml, hown, hts⟩ (hc_RiscHart_give l hP hD (hf_ShortForm_d a1) ((hf_ShortForm_number a1) <<< (12 &&& 31)) (in_ShortForm_d _)) (cwV 2 hts (mk_gV tw_170 tw_172 tw_4 tw_46 tw_173) rfl rfl rfl hdHart_give ⟨Nat.le_of_ble_eq_true rfl, Nat.le_of_ble_eq_true rfl⟩) (mk_preVK hK (va_recv hK hP (ci := 0) (q0 := 0) rfl rfl)) rfl rfl hl.1 rfl (lv_room (Nat.le_of_ble_eq_true rfl)) dHart_shortUpperNumber_27 ⟨Nat.zero_le _, Nat.zero_le _⟩) hS (fun H locs hP hS => ?_)
    exact W.iret hx hb hr (fun t ht hW => ⟨⟨_, (hf_RiscHart_give st (hf_ShortForm_d a1) ((hf_ShortForm_number a1) <<< (12 &&& 31))).2, rfl, (by unfold hf_RiscHart_shortUpperNumber; rw [if_neg c_1]), by show va_P D hcl _ t.heap; rw [ht]; exact hP⟩, hS.F ht⟩) hS.2.2 dHart_shortUpperNumber_30
  · refine lv_aload_n hx hb dHart_shortUpperNumber_9 rfl (lv_at hl 1 rfl) ?_
    refine lv_iconst (v := 2) hx hb dHart_shortUpperNumber_10 (by decide) ?_
    refine lv_iload_n hx hb dHart_shortUpperNumber_11 rfl (lv_at hl 2 rfl) ?_
    refine mk_callW (va_runV (As := [.int 2, .int a1]) (rest := []) ⟨hx, hb, hml, hown, hts⟩ (hc_RiscHart_trap l hP hD 2 a1) (cwV 2 hts (mk_gV tw_139 tw_141 tw_1 tw_46 tw_142) rfl rfl rfl hdHart_trap ⟨Nat.le_of_ble_eq_true rfl, Nat.le_of_ble_eq_true rfl⟩) (mk_preVK hK (va_recv hK hP (ci := 0) (q0 := 0) rfl rfl)) rfl rfl hl.1 rfl (lv_room (Nat.le_of_ble_eq_true rfl)) dHart_shortUpperNumber_12 ⟨Nat.zero_le _, Nat.zero_le _⟩) hS (fun H locs hP hS => ?_)
    refine lv_goto (tgt := 30) hx hb dHart_shortUpperNumber_15 (by decide) ?_
    exact W.iret hx hb hr (fun t ht hW => ⟨⟨_, (hf_RiscHart_trap st 2 a1).2, rfl, (by unfold hf_RiscHart_shortUpperNumber; rw [if_pos c_1]), by show va_P D hcl _ t.heap; rw [ht]; exact hP⟩, hS.F ht⟩) hS.2.2 dHart_shortUpperNumber_30
set_option maxHeartbeats 4000000 in
set_option maxRecDepth 100000 in
theorem hc_RiscHart_shortArithmetic (l : Launch) {D : va_G} {cR cW cP : ClassId} {h0 h1 h2 h3 h4 : Nat} {A : Nat → Prop} {st : HS} {G : Heap} (hP : va_P D hcl (hs_W cR cW cP h0 h1 h2 h3 h4 st) G) (hD : ∀ z, va_D A (hs_W cR cW cP h0 h1 h2 h3 h4 z)) (a1 : Int32)  : Met l yHart_shortArithmetic (wq yHart_shortArithmetic cHart_shortArithmetic 6 (some .int)) ({ frames := 2, cells := 0, slots := 0, locals := 42 }) (mk_PK D hcl [(cR, .int), (cW, .int), (cP, .int)] G [.ref h0, .int a1]) (mk_Wi (fun u t => va_P D hcl (hs_W cR cW cP h0 h1 h2 h3 h4 u) t) A (hf_RiscHart_shortArithmetic st a1)) 0 0 A := by
  refine Met.ofW (cc := cHart_shortArithmetic) (maxL := 6) (ret := (some .int)) (by decide) rfl ?_
  intro p e s m args below meth c s₁ B hml hv
  obtain ⟨rfl, hG, hK⟩ := hv
  subst hG
  have hx := B.exec
  have hb := B.bytes
  have hr := B.returns
  have hts := atoms_spec (ws := (wq yHart_shortArithmetic cHart_shortArithmetic 6 (some .int))) B.pre
  have hown : s.vm.findClass RHart = some m.cls := findClass_of_methodNamed B.named
  have hlocks := B.notSynchronized
  have hg : ∀ w ∈ lw_g, w.before _ s = true := fun w h => hts w (List.mem_cons_of_mem _ h)
  have hS : va_S A s.heap s.heap [] := va_S.rf
  have hl := lv_entry ([.ref h0, .int a1]) (n := 6) (Nat.le_of_ble_eq_true rfl)
  rw [lg_entry_eq]
  generalize (lg_sl ([.ref h0, .int a1]) ++ List.replicate (6 - (lg_sl ([.ref h0, .int a1])).length) Slot.unset).toArray = ls at hl ⊢
  have hl : lv_has ls 6 [(0, .ref h0), (1, .int a1)] := hl
  refine lv_iload_n hx hb dHart_shortArithmetic_0 rfl (lv_at hl 1 rfl) ?_
  refine mk_callR (va_runS (As := [.int a1]) (rest := []) ⟨hx, hb, hml, hown, hts⟩ (hc_ShortForm_highNear l _ a1) (va_cwS 1 hts (mk_gS tw_327 tw_328 tw_57 tw_329) rfl rfl rfl hdSF_highNear.2 ⟨Nat.le_of_ble_eq_true rfl, Nat.le_of_ble_eq_true rfl⟩) mk_preS rfl rfl hl.1 rfl (lv_room (Nat.le_of_ble_eq_true rfl)) dHart_shortArithmetic_1 ⟨Nat.zero_le _, Nat.zero_le _⟩) ?_
  refine lv_istore_n (lv' := [(2, .int (hf_ShortForm_highNear a1)), (0, .ref h0), (1, .int a1)]) hx hb dHart_shortArithmetic_4 rfl hl (by decide) rfl (fun ls hl => ?_)
  refine lv_aload_n hx hb dHart_shortArithmetic_5 rfl (lv_at hl 1 rfl) ?_
  refine va_get (D := D) (ci := 0) (v := .ref h2) (C := RHart) (T := THart) (N := 8) hx hb hg inHart hown hK hP 0 rfl rfl 1 (by decide) (hg _ tw_84) (fun _ h9 => h9) rfl dHart_shortArithmetic_6 ?_
  refine lv_iload_n hx hb dHart_shortArithmetic_9 rfl (lv_at hl 0 rfl) ?_
  refine va_iald (D := D) (f := hs_regs st) hx hb hK hP 2 0 rfl rfl (in_ShortForm_highNear _) dHart_shortArithmetic_10 ?_
  refine lv_istore_n (lv' := [(3, .int (hs_regs st ((hf_ShortForm_highNear a1)).toNatClampNeg)), (2, .int (hf_ShortForm_highNear a1)), (0, .ref h0), (1, .int a1)]) hx hb dHart_shortArithmetic_11 rfl hl (by decide) rfl (fun ls hl => ?_)
  refine lv_iload_n hx hb dHart_shortArithmetic_12 rfl (lv_at hl 3 rfl) ?_
  refine lv_bipush (v := 10) hx hb dHart_shortArithmetic_13 (by decide) ?_
  refine lv_iconst (v := 2) hx hb dHart_shortArithmetic_15 (by decide) ?_
  refine mk_callR (va_runS (As := [.int a1, .int 10, .int 2]) (rest := []) ⟨hx, hb, hml, hown, hts⟩ (hc_Bits_part l _ a1 10 2) (va_cwS 3 hts (mk_gS tw_368 tw_165 tw_55 tw_166) rfl rfl rfl hdBits_part.2 ⟨Nat.le_of_ble_eq_true rfl, Nat.le_of_ble_eq_true rfl⟩) mk_preS rfl rfl hl.1 rfl (lv_room (Nat.le_of_ble_eq_true rfl)) dHart_shortArithmetic_16 ⟨Nat.zero_le _, Nat.zero_le _⟩) ?_
  refine lv_istore (lv' := [(4, .int (hf_Bits_part a1 10 2)), (3, .int (hs_regs st ((hf_ShortForm_highNear a1)).toNatClampNeg)), (2, .int (hf_ShortForm_highNear a1)), (0, .ref h0), (1, .int a1)]) hx hb dHart_shortArithmetic_19 hl (by decide) rfl (fun ls hl => ?_)
  refine lv_iload hx hb dHart_shortArithmetic_21 (lv_at hl 0 rfl) ?_
  refine lv_iconst (v := 2) hx hb dHart_shortArithmetic_23 (by decide) ?_
  refine lv_icmp_ne (tgt := 39) hx hb dHart_shortArithmetic_24 (by decide) (fun c_1 => ?_) (fun c_1 => ?_)
  · refine lv_iload_n hx hb dHart_shortArithmetic_39 rfl (lv_at hl 4 rfl) ?_
    refine mk_callR (va_runS (As := [.int a1]) (rest := []) ⟨hx, hb, hml, hown, hts⟩ (hc_ShortForm_bit12 l _ a1) (va_cwS 1 hts (mk_gS tw_369 tw_370 tw_57 tw_371) rfl rfl rfl hdSF_bit12.2 ⟨Nat.le_of_ble_eq_true rfl, Nat.le_of_ble_eq_true rfl⟩) mk_preS rfl rfl hl.1 rfl (lv_room (Nat.le_of_ble_eq_true rfl)) dHart_shortArithmetic_40 ⟨Nat.zero_le _, Nat.zero_le _⟩) ?_
    refine lv_if_eq (tgt := 53) hx hb dHart_shortArithmetic_43 (by decide) (fun c_2 => ?_) (fun c_2 => ?_)
    · refine lv_aload_n hx hb dHart_shortArithmetic_53 rfl (lv_at hl 3 rfl) ?_
      refine va_get (D := D) (ci := 0) (v := .ref h2) (C := RHart) (T := THart) (N := 8) hx hb hg inHart hown hK hP 0 rfl rfl 1 (by decide) (hg _ tw_84) (fun _ h9 => h9) rfl dHart_shortArithmetic_54 ?_
      refine lv_iload_n hx hb dHart_shortArithmetic_57 rfl (lv_at hl 4 rfl) ?_
      refine mk_callR (va_runS (As := [.int a1]) (rest := [.ref h2]) ⟨hx, hb, hml, hown, hts⟩ (hc_ShortForm_lowNear l _ a1) (va_cwS 1 hts (mk_gS tw_323 tw_324 tw_57 tw_325) rfl rfl rfl hdSF_lowNear.2 ⟨Nat.le_of_ble_eq_true rfl, Nat.le_of_ble_eq_true rfl⟩) mk_preS rfl rfl hl.1 rfl (lv_room (Nat.le_of_ble_eq_true rfl)) dHart_shortArithmetic_58 ⟨Nat.zero_le _, Nat.zero_le _⟩) ?_
      refine va_iald (D := D) (f := hs_regs st) hx hb hK hP 2 0 rfl rfl (in_ShortForm_lowNear _) dHart_shortArithmetic_61 ?_
      refine lv_istore (lv' := [(5, .int (hs_regs st ((hf_ShortForm_lowNear a1)).toNatClampNeg)), (4, .int (hf_Bits_part a1 10 2)), (3, .int (hs_regs st ((hf_ShortForm_highNear a1)).toNatClampNeg)), (2, .int (hf_ShortForm_highNear a1)), (0, .ref h0), (1, .int a1)]) hx hb dHart_shortArithmetic_62 hl (by decide) rfl (fun ls hl => ?_)
      refine lv_iload hx hb dHart_shortArithmetic_64 (lv_at hl 1 rfl) ?_
      by_cases c_3 : (hf_Bits_part a1 10 2) = 0
      · refine lv_lookup (off := 26) (tgt := 92) hx hb dHart_shortArithmetic_66 (by decide) (by rw [c_3]; decide) (by decide) ?_
        refine lv_aload_n hx hb dHart_shortArithmetic_92 rfl (lv_at hl 4 rfl) ?_
        refine lv_iload_n hx hb dHart_shortArithmetic_93 rfl (lv_at hl 3 rfl) ?_
        refine lv_iload_n hx hb dHart_shortArithmetic_94 rfl (lv_at hl 2 rfl) ?_
        refine lv_iload_n hx hb dHart_shortArithmetic_95 rfl (lv_at hl 5 rfl) ?_
        refine mk_callR (va_runS (As := [.int a1]) (rest := [.int (hs_regs st ((hf_ShortForm_highNear a1)).toNatClampNeg), .int (hf_ShortForm_highNear a1), .ref h0]) ⟨hx, hb, hml, hown, hts⟩ (hc_ShortForm_b l _ a1) (va_cwS 1 hts (mk_gS tw_372 tw_373 tw_57 tw_374) rfl rfl rfl hdSF_b.2 ⟨Nat.le_of_ble_eq_true rfl, Nat.le_of_ble_eq_true rfl⟩) mk_preS rfl rfl hl.1 rfl (lv_room (Nat.le_of_ble_eq_true rfl)) dHart_shortArithmetic_96 ⟨Nat.zero_le _, Nat.zero_le _⟩) ?_
        refine lv_iushr (v := (ja_ushr (hs_regs st ((hf_ShortForm_highNear a1)).toNatClampNeg) (hf_ShortForm_b a1))) hx hb dHart_shortArithmetic_99 rfl ?_
        refine mk_callW (va_runV (As := [.int (hf_ShortForm_highNear a1), .int (ja_ushr (hs_regs st ((hf_ShortForm_highNear a1)).toNatClampNeg) (hf_ShortForm_b a1))]) (rest := []) ⟨hx, hb, hml, hown, hts⟩ (hc_RiscHart_give l hP hD (hf_ShortForm_highNear a1) (ja_ushr (hs_regs st ((hf_ShortForm_highNear a1)).toNatClampNeg) (hf_ShortForm_b a1)) (in_ShortForm_highNear _)) (cwV 2 hts (mk_gV tw_170 tw_172 tw_4 tw_46 tw_173) rfl rfl rfl hdHart_give ⟨Nat.le_of_ble_eq_true rfl, Nat.le_of_ble_eq_true rfl⟩) (mk_preVK hK (va_recv hK hP (ci := 0) (q0 := 0) rfl rfl)) rfl rfl hl.1 rfl (lv_room (Nat.le_of_ble_eq_true rfl)) dHart_shortArithmetic_100 ⟨Nat.zero_le _, Nat.zero_le _⟩) hS (fun H locs hP hS => ?_)
        exact W.iret hx hb hr (fun t ht hW => ⟨⟨_, (hf_RiscHart_give st (hf_ShortForm_highNear a1) (ja_ushr (hs_regs st ((hf_ShortForm_highNear a1)).toNatClampNeg) (hf_ShortForm_b a1))).2, rfl, (by unfold hf_RiscHart_shortArithmetic; rw [if_neg c_1, if_pos c_2, if_pos c_3]), by show va_P D hcl _ t.heap; rw [ht]; exact hP⟩, hS.F ht⟩) hS.2.2 dHart_shortArithmetic_103
      by_cases c_4 : (hf_Bits_part a1 10 2) = 1
      · refine lv_lookup (off := 38) (tgt := 104) hx hb dHart_shortArithmetic_66 (by decide) (by rw [c_4]; decide) (by decide) ?_
        refine lv_aload_n hx hb dHart_shortArithmetic_104 rfl (lv_at hl 4 rfl) ?_
        refine lv_iload_n hx hb dHart_shortArithmetic_105 rfl (lv_at hl 3 rfl) ?_
        refine lv_iload_n hx hb dHart_shortArithmetic_106 rfl (lv_at hl 2 rfl) ?_
        refine lv_iload_n hx hb dHart_shortArithmetic_107 rfl (lv_at hl 5 rfl) ?_
        refine mk_callR (va_runS (As := [.int a1]) (rest := [.int (hs_regs st ((hf_ShortForm_highNear a1)).toNatClampNeg), .int (hf_ShortForm_highNear a1), .ref h0]) ⟨hx, hb, hml, hown, hts⟩ (hc_ShortForm_b l _ a1) (va_cwS 1 hts (mk_gS tw_372 tw_373 tw_57 tw_374) rfl rfl rfl hdSF_b.2 ⟨Nat.le_of_ble_eq_true rfl, Nat.le_of_ble_eq_true rfl⟩) mk_preS rfl rfl hl.1 rfl (lv_room (Nat.le_of_ble_eq_true rfl)) dHart_shortArithmetic_108 ⟨Nat.zero_le _, Nat.zero_le _⟩) ?_
        refine lv_ishr hx hb dHart_shortArithmetic_111 ?_
        refine mk_callW (va_runV (As := [.int (hf_ShortForm_highNear a1), .int ((hs_regs st ((hf_ShortForm_highNear a1)).toNatClampNeg) >>> ((hf_ShortForm_b a1) &&& 31))]) (rest := []) ⟨hx, hb, hml, hown, hts⟩ (hc_RiscHart_give l hP hD (hf_ShortForm_highNear a1) ((hs_regs st ((hf_ShortForm_highNear a1)).toNatClampNeg) >>> ((hf_ShortForm_b a1) &&& 31)) (in_ShortForm_highNear _)) (cwV 2 hts (mk_gV tw_170 tw_172 tw_4 tw_46 tw_173) rfl rfl rfl hdHart_give ⟨Nat.le_of_ble_eq_true rfl, Nat.le_of_ble_eq_true rfl⟩) (mk_preVK hK (va_recv hK hP (ci := 0) (q0 := 0) rfl rfl)) rfl rfl hl.1 rfl (lv_room (Nat.le_of_ble_eq_true rfl)) dHart_shortArithmetic_112 ⟨Nat.zero_le _, Nat.zero_le _⟩) hS (fun H locs hP hS => ?_)
        exact W.iret hx hb hr (fun t ht hW => ⟨⟨_, (hf_RiscHart_give st (hf_ShortForm_highNear a1) ((hs_regs st ((hf_ShortForm_highNear a1)).toNatClampNeg) >>> ((hf_ShortForm_b a1) &&& 31))).2, rfl, (by unfold hf_RiscHart_shortArithmetic; rw [if_neg c_1, if_pos c_2, if_neg c_3, if_pos c_4]), by show va_P D hcl _ t.heap; rw [ht]; exact hP⟩, hS.F ht⟩) hS.2.2 dHart_shortArithmetic_115
      refine lv_lookup (off := 50) (tgt := 116) hx hb dHart_shortArithmetic_66 (by decide) ((lv_osw (a := 0) c_3 rfl).trans ((lv_osw (a := 1) c_4 rfl).trans (rfl))) (by decide) ?_
      refine lv_aload_n hx hb dHart_shortArithmetic_116 rfl (lv_at hl 4 rfl) ?_
      refine lv_iload_n hx hb dHart_shortArithmetic_117 rfl (lv_at hl 3 rfl) ?_
      refine lv_iload_n hx hb dHart_shortArithmetic_118 rfl (lv_at hl 5 rfl) ?_
      refine lv_iconst (v := 5) hx hb dHart_shortArithmetic_119 (by decide) ?_
      refine lv_iconst (v := 2) hx hb dHart_shortArithmetic_120 (by decide) ?_
      refine mk_callR (va_runS (As := [.int a1, .int 5, .int 2]) (rest := [.int (hf_ShortForm_highNear a1), .ref h0]) ⟨hx, hb, hml, hown, hts⟩ (hc_Bits_part l _ a1 5 2) (va_cwS 3 hts (mk_gS tw_368 tw_165 tw_55 tw_166) rfl rfl rfl hdBits_part.2 ⟨Nat.le_of_ble_eq_true rfl, Nat.le_of_ble_eq_true rfl⟩) mk_preS rfl rfl hl.1 rfl (lv_room (Nat.le_of_ble_eq_true rfl)) dHart_shortArithmetic_121 ⟨Nat.zero_le _, Nat.zero_le _⟩) ?_
      refine lv_iload_n hx hb dHart_shortArithmetic_124 rfl (lv_at hl 2 rfl) ?_
      refine lv_iload hx hb dHart_shortArithmetic_125 (lv_at hl 0 rfl) ?_
      refine mk_callR (va_runS (As := [.int (hf_Bits_part a1 5 2), .int (hs_regs st ((hf_ShortForm_highNear a1)).toNatClampNeg), .int (hs_regs st ((hf_ShortForm_lowNear a1)).toNatClampNeg)]) (rest := [.int (hf_ShortForm_highNear a1), .ref h0]) ⟨hx, hb, hml, hown, hts⟩ (hc_Arithmetic_ofTwoNear l _ (hf_Bits_part a1 5 2) (hs_regs st ((hf_ShortForm_highNear a1)).toNatClampNeg) (hs_regs st ((hf_ShortForm_lowNear a1)).toNatClampNeg)) (va_cwS 3 hts (mk_gS tw_375 tw_376 tw_56 tw_377) rfl rfl rfl hdAr_ofTwoNear.2 ⟨Nat.le_of_ble_eq_true rfl, Nat.le_of_ble_eq_true rfl⟩) mk_preS rfl rfl hl.1 rfl (lv_room (Nat.le_of_ble_eq_true rfl)) dHart_shortArithmetic_127 ⟨Nat.zero_le _, Nat.zero_le _⟩) ?_
      refine mk_callW (va_runV (As := [.int (hf_ShortForm_highNear a1), .int (hf_Arithmetic_ofTwoNear (hf_Bits_part a1 5 2) (hs_regs st ((hf_ShortForm_highNear a1)).toNatClampNeg) (hs_regs st ((hf_ShortForm_lowNear a1)).toNatClampNeg))]) (rest := []) ⟨hx, hb, hml, hown, hts⟩ (hc_RiscHart_give l hP hD (hf_ShortForm_highNear a1) (hf_Arithmetic_ofTwoNear (hf_Bits_part a1 5 2) (hs_regs st ((hf_ShortForm_highNear a1)).toNatClampNeg) (hs_regs st ((hf_ShortForm_lowNear a1)).toNatClampNeg)) (in_ShortForm_highNear _)) (cwV 2 hts (mk_gV tw_170 tw_172 tw_4 tw_46 tw_173) rfl rfl rfl hdHart_give ⟨Nat.le_of_ble_eq_true rfl, Nat.le_of_ble_eq_true rfl⟩) (mk_preVK hK (va_recv hK hP (ci := 0) (q0 := 0) rfl rfl)) rfl rfl hl.1 rfl (lv_room (Nat.le_of_ble_eq_true rfl)) dHart_shortArithmetic_130 ⟨Nat.zero_le _, Nat.zero_le _⟩) hS (fun H locs hP hS => ?_)
      exact W.iret hx hb hr (fun t ht hW => ⟨⟨_, (hf_RiscHart_give st (hf_ShortForm_highNear a1) (hf_Arithmetic_ofTwoNear (hf_Bits_part a1 5 2) (hs_regs st ((hf_ShortForm_highNear a1)).toNatClampNeg) (hs_regs st ((hf_ShortForm_lowNear a1)).toNatClampNeg))).2, rfl, (by unfold hf_RiscHart_shortArithmetic; rw [if_neg c_1, if_pos c_2, if_neg c_3, if_neg c_4]), by show va_P D hcl _ t.heap; rw [ht]; exact hP⟩, hS.F ht⟩) hS.2.2 dHart_shortArithmetic_133
    · refine lv_aload_n hx hb dHart_shortArithmetic_46 rfl (lv_at hl 3 rfl) ?_
      refine lv_iconst (v := 2) hx hb dHart_shortArithmetic_47 (by decide) ?_
      refine lv_iload_n hx hb dHart_shortArithmetic_48 rfl (lv_at hl 4 rfl) ?_
      refine mk_callW (va_runV (As := [.int 2, .int a1]) (rest := []) ⟨hx, hb, hml, hown, hts⟩ (hc_RiscHart_trap l hP hD 2 a1) (cwV 2 hts (mk_gV tw_139 tw_141 tw_1 tw_46 tw_142) rfl rfl rfl hdHart_trap ⟨Nat.le_of_ble_eq_true rfl, Nat.le_of_ble_eq_true rfl⟩) (mk_preVK hK (va_recv hK hP (ci := 0) (q0 := 0) rfl rfl)) rfl rfl hl.1 rfl (lv_room (Nat.le_of_ble_eq_true rfl)) dHart_shortArithmetic_49 ⟨Nat.zero_le _, Nat.zero_le _⟩) hS (fun H locs hP hS => ?_)
      exact W.iret hx hb hr (fun t ht hW => ⟨⟨_, (hf_RiscHart_trap st 2 a1).2, rfl, (by unfold hf_RiscHart_shortArithmetic; rw [if_neg c_1, if_neg c_2]), by show va_P D hcl _ t.heap; rw [ht]; exact hP⟩, hS.F ht⟩) hS.2.2 dHart_shortArithmetic_52
  · refine lv_aload_n hx hb dHart_shortArithmetic_27 rfl (lv_at hl 3 rfl) ?_
    refine lv_iload_n hx hb dHart_shortArithmetic_28 rfl (lv_at hl 2 rfl) ?_
    refine lv_iload_n hx hb dHart_shortArithmetic_29 rfl (lv_at hl 1 rfl) ?_
    refine lv_iload_n hx hb dHart_shortArithmetic_30 rfl (lv_at hl 4 rfl) ?_
    refine mk_callR (va_runS (As := [.int a1]) (rest := [.int (hs_regs st ((hf_ShortForm_highNear a1)).toNatClampNeg), .int (hf_ShortForm_highNear a1), .ref h0]) ⟨hx, hb, hml, hown, hts⟩ (hc_ShortForm_number l _ a1) (va_cwS 1 hts (mk_gS tw_346 tw_347 tw_57 tw_348) rfl rfl rfl hdSF_number.2 ⟨Nat.le_of_ble_eq_true rfl, Nat.le_of_ble_eq_true rfl⟩) mk_preS rfl rfl hl.1 rfl (lv_room (Nat.le_of_ble_eq_true rfl)) dHart_shortArithmetic_31 ⟨Nat.zero_le _, Nat.zero_le _⟩) ?_
    refine lv_iand hx hb dHart_shortArithmetic_34 ?_
    refine mk_callW (va_runV (As := [.int (hf_ShortForm_highNear a1), .int ((hs_regs st ((hf_ShortForm_highNear a1)).toNatClampNeg) &&& (hf_ShortForm_number a1))]) (rest := []) ⟨hx, hb, hml, hown, hts⟩ (hc_RiscHart_give l hP hD (hf_ShortForm_highNear a1) ((hs_regs st ((hf_ShortForm_highNear a1)).toNatClampNeg) &&& (hf_ShortForm_number a1)) (in_ShortForm_highNear _)) (cwV 2 hts (mk_gV tw_170 tw_172 tw_4 tw_46 tw_173) rfl rfl rfl hdHart_give ⟨Nat.le_of_ble_eq_true rfl, Nat.le_of_ble_eq_true rfl⟩) (mk_preVK hK (va_recv hK hP (ci := 0) (q0 := 0) rfl rfl)) rfl rfl hl.1 rfl (lv_room (Nat.le_of_ble_eq_true rfl)) dHart_shortArithmetic_35 ⟨Nat.zero_le _, Nat.zero_le _⟩) hS (fun H locs hP hS => ?_)
    exact W.iret hx hb hr (fun t ht hW => ⟨⟨_, (hf_RiscHart_give st (hf_ShortForm_highNear a1) ((hs_regs st ((hf_ShortForm_highNear a1)).toNatClampNeg) &&& (hf_ShortForm_number a1))).2, rfl, (by unfold hf_RiscHart_shortArithmetic; rw [if_pos c_1]), by show va_P D hcl _ t.heap; rw [ht]; exact hP⟩, hS.F ht⟩) hS.2.2 dHart_shortArithmetic_38
set_option maxHeartbeats 4000000 in
set_option maxRecDepth 100000 in
theorem hc_RiscHart_shortOfQ1 (l : Launch) {D : va_G} {cR cW cP : ClassId} {h0 h1 h2 h3 h4 : Nat} {A : Nat → Prop} {st : HS} {G : Heap} (hP : va_P D hcl (hs_W cR cW cP h0 h1 h2 h3 h4 st) G) (hD : ∀ z, va_D A (hs_W cR cW cP h0 h1 h2 h3 h4 z)) (a1 : Int32)  : Met l yHart_shortOfQ1 (wq yHart_shortOfQ1 cHart_shortOfQ1 4 (some .int)) ({ frames := 3, cells := 0, slots := 0, locals := 67 }) (mk_PK D hcl [(cR, .int), (cW, .int), (cP, .int)] G [.ref h0, .int a1]) (mk_Wi (fun u t => va_P D hcl (hs_W cR cW cP h0 h1 h2 h3 h4 u) t) A (hf_RiscHart_shortOfQ1 st a1)) 0 0 A := by
  refine Met.ofW (cc := cHart_shortOfQ1) (maxL := 4) (ret := (some .int)) (by decide) rfl ?_
  intro p e s m args below meth c s₁ B hml hv
  obtain ⟨rfl, hG, hK⟩ := hv
  subst hG
  have hx := B.exec
  have hb := B.bytes
  have hr := B.returns
  have hts := atoms_spec (ws := (wq yHart_shortOfQ1 cHart_shortOfQ1 4 (some .int))) B.pre
  have hown : s.vm.findClass RHart = some m.cls := findClass_of_methodNamed B.named
  have hlocks := B.notSynchronized
  have hg : ∀ w ∈ lw_g, w.before _ s = true := fun w h => hts w (List.mem_cons_of_mem _ h)
  have hS : va_S A s.heap s.heap [] := va_S.rf
  have hl := lv_entry ([.ref h0, .int a1]) (n := 4) (Nat.le_of_ble_eq_true rfl)
  rw [lg_entry_eq]
  generalize (lg_sl ([.ref h0, .int a1]) ++ List.replicate (4 - (lg_sl ([.ref h0, .int a1])).length) Slot.unset).toArray = ls at hl ⊢
  have hl : lv_has ls 4 [(0, .ref h0), (1, .int a1)] := hl
  refine lv_iload_n hx hb dHart_shortOfQ1_0 rfl (lv_at hl 1 rfl) ?_
  refine mk_callR (va_runS (As := [.int a1]) (rest := []) ⟨hx, hb, hml, hown, hts⟩ (hc_ShortForm_d l _ a1) (va_cwS 1 hts (mk_gS tw_343 tw_344 tw_57 tw_345) rfl rfl rfl hdSF_d.2 ⟨Nat.le_of_ble_eq_true rfl, Nat.le_of_ble_eq_true rfl⟩) mk_preS rfl rfl hl.1 rfl (lv_room (Nat.le_of_ble_eq_true rfl)) dHart_shortOfQ1_1 ⟨Nat.zero_le _, Nat.zero_le _⟩) ?_
  refine lv_istore_n (lv' := [(2, .int (hf_ShortForm_d a1)), (0, .ref h0), (1, .int a1)]) hx hb dHart_shortOfQ1_4 rfl hl (by decide) rfl (fun ls hl => ?_)
  refine lv_iload_n hx hb dHart_shortOfQ1_5 rfl (lv_at hl 2 rfl) ?_
  refine mk_callR (va_runS (As := [.int a1]) (rest := []) ⟨hx, hb, hml, hown, hts⟩ (hc_ShortForm_number l _ a1) (va_cwS 1 hts (mk_gS tw_346 tw_347 tw_57 tw_348) rfl rfl rfl hdSF_number.2 ⟨Nat.le_of_ble_eq_true rfl, Nat.le_of_ble_eq_true rfl⟩) mk_preS rfl rfl hl.1 rfl (lv_room (Nat.le_of_ble_eq_true rfl)) dHart_shortOfQ1_6 ⟨Nat.zero_le _, Nat.zero_le _⟩) ?_
  refine lv_istore_n (lv' := [(3, .int (hf_ShortForm_number a1)), (2, .int (hf_ShortForm_d a1)), (0, .ref h0), (1, .int a1)]) hx hb dHart_shortOfQ1_9 rfl hl (by decide) rfl (fun ls hl => ?_)
  refine lv_iload_n hx hb dHart_shortOfQ1_10 rfl (lv_at hl 3 rfl) ?_
  refine mk_callR (va_runS (As := [.int a1]) (rest := []) ⟨hx, hb, hml, hown, hts⟩ (hc_ShortForm_f l _ a1) (va_cwS 1 hts (mk_gS tw_333 tw_334 tw_57 tw_335) rfl rfl rfl hdSF_f.2 ⟨Nat.le_of_ble_eq_true rfl, Nat.le_of_ble_eq_true rfl⟩) mk_preS rfl rfl hl.1 rfl (lv_room (Nat.le_of_ble_eq_true rfl)) dHart_shortOfQ1_11 ⟨Nat.zero_le _, Nat.zero_le _⟩) ?_
  by_cases c_1 : (hf_ShortForm_f a1) = 0
  · refine lv_tableIn (tgt := 56) hx hb dHart_shortOfQ1_14 (by rw [c_1]; decide) (by rw [c_1]; decide) (by rw [c_1]; rfl) (by decide) ?_
    refine lv_aload_n hx hb dHart_shortOfQ1_56 rfl (lv_at hl 2 rfl) ?_
    refine lv_iload_n hx hb dHart_shortOfQ1_57 rfl (lv_at hl 1 rfl) ?_
    refine lv_aload_n hx hb dHart_shortOfQ1_58 rfl (lv_at hl 2 rfl) ?_
    refine va_get (D := D) (ci := 0) (v := .ref h2) (C := RHart) (T := THart) (N := 8) hx hb hg inHart hown hK hP 0 rfl rfl 1 (by decide) (hg _ tw_84) (fun _ h9 => h9) rfl dHart_shortOfQ1_59 ?_
    refine lv_iload_n hx hb dHart_shortOfQ1_62 rfl (lv_at hl 1 rfl) ?_
    refine va_iald (D := D) (f := hs_regs st) hx hb hK hP 2 0 rfl rfl (in_ShortForm_d _) dHart_shortOfQ1_63 ?_
    refine lv_iload_n hx hb dHart_shortOfQ1_64 rfl (lv_at hl 0 rfl) ?_
    refine lv_iadd hx hb dHart_shortOfQ1_65 ?_
    refine mk_callW (va_runV (As := [.int (hf_ShortForm_d a1), .int ((hs_regs st ((hf_ShortForm_d a1)).toNatClampNeg) + (hf_ShortForm_number a1))]) (rest := []) ⟨hx, hb, hml, hown, hts⟩ (hc_RiscHart_give l hP hD (hf_ShortForm_d a1) ((hs_regs st ((hf_ShortForm_d a1)).toNatClampNeg) + (hf_ShortForm_number a1)) (in_ShortForm_d _)) (cwV 2 hts (mk_gV tw_170 tw_172 tw_4 tw_46 tw_173) rfl rfl rfl hdHart_give ⟨Nat.le_of_ble_eq_true rfl, Nat.le_of_ble_eq_true rfl⟩) (mk_preVK hK (va_recv hK hP (ci := 0) (q0 := 0) rfl rfl)) rfl rfl hl.1 rfl (lv_room (Nat.le_of_ble_eq_true rfl)) dHart_shortOfQ1_66 ⟨Nat.zero_le _, Nat.zero_le _⟩) hS (fun H locs hP hS => ?_)
    exact W.iret hx hb hr (fun t ht hW => ⟨⟨_, (hf_RiscHart_give st (hf_ShortForm_d a1) ((hs_regs st ((hf_ShortForm_d a1)).toNatClampNeg) + (hf_ShortForm_number a1))).2, rfl, (by unfold hf_RiscHart_shortOfQ1; rw [if_pos c_1]), by show va_P D hcl _ t.heap; rw [ht]; exact hP⟩, hS.F ht⟩) hS.2.2 dHart_shortOfQ1_69
  by_cases c_2 : (hf_ShortForm_f a1) = 1
  · refine lv_tableIn (tgt := 70) hx hb dHart_shortOfQ1_14 (by rw [c_2]; decide) (by rw [c_2]; decide) (by rw [c_2]; rfl) (by decide) ?_
    refine lv_aload_n hx hb dHart_shortOfQ1_70 rfl (lv_at hl 2 rfl) ?_
    refine lv_iconst (v := 1) hx hb dHart_shortOfQ1_71 (by decide) ?_
    refine lv_aload_n hx hb dHart_shortOfQ1_72 rfl (lv_at hl 2 rfl) ?_
    refine va_get (D := D) (ci := 0) (v := .int (hs_place st)) (C := RHart) (T := THart) (N := 8) hx hb hg inHart hown hK hP 0 rfl rfl 2 (by decide) (hg _ tw_85) (fun _ h9 => h9) rfl dHart_shortOfQ1_73 ?_
    refine lv_iload_n hx hb dHart_shortOfQ1_76 rfl (lv_at hl 3 rfl) ?_
    refine mk_callR (va_runS (As := [.int a1]) (rest := [.int (hs_place st), .int 1, .ref h0]) ⟨hx, hb, hml, hown, hts⟩ (hc_ShortForm_offsetJ l _ a1) (va_cwS 1 hts (mk_gS tw_350 tw_351 tw_57 tw_352) rfl rfl rfl hdSF_offsetJ.2 ⟨Nat.le_of_ble_eq_true rfl, Nat.le_of_ble_eq_true rfl⟩) mk_preS rfl rfl hl.1 rfl (lv_room (Nat.le_of_ble_eq_true rfl)) dHart_shortOfQ1_77 ⟨Nat.zero_le _, Nat.zero_le _⟩) ?_
    refine lv_iadd hx hb dHart_shortOfQ1_80 ?_
    refine mk_callW (va_runV (As := [.int 1, .int ((hs_place st) + (hf_ShortForm_offsetJ a1))]) (rest := []) ⟨hx, hb, hml, hown, hts⟩ (hc_RiscHart_linkAndJump l hP hD 1 ((hs_place st) + (hf_ShortForm_offsetJ a1)) (in_k (by decide))) (cwV 2 hts (mk_gV tw_180 tw_182 tw_5 tw_46 tw_183) rfl rfl rfl hdHart_linkAndJump ⟨Nat.le_of_ble_eq_true rfl, Nat.le_of_ble_eq_true rfl⟩) (mk_preVK hK (va_recv hK hP (ci := 0) (q0 := 0) rfl rfl)) rfl rfl hl.1 rfl (lv_room (Nat.le_of_ble_eq_true rfl)) dHart_shortOfQ1_81 ⟨Nat.zero_le _, Nat.zero_le _⟩) hS (fun H locs hP hS => ?_)
    exact W.iret hx hb hr (fun t ht hW => ⟨⟨_, (hf_RiscHart_linkAndJump st 1 ((hs_place st) + (hf_ShortForm_offsetJ a1))).2, rfl, (by unfold hf_RiscHart_shortOfQ1; rw [if_neg c_1, if_pos c_2]), by show va_P D hcl _ t.heap; rw [ht]; exact hP⟩, hS.F ht⟩) hS.2.2 dHart_shortOfQ1_84
  by_cases c_3 : (hf_ShortForm_f a1) = 2
  · refine lv_tableIn (tgt := 85) hx hb dHart_shortOfQ1_14 (by rw [c_3]; decide) (by rw [c_3]; decide) (by rw [c_3]; rfl) (by decide) ?_
    refine lv_aload_n hx hb dHart_shortOfQ1_85 rfl (lv_at hl 2 rfl) ?_
    refine lv_iload_n hx hb dHart_shortOfQ1_86 rfl (lv_at hl 1 rfl) ?_
    refine lv_iload_n hx hb dHart_shortOfQ1_87 rfl (lv_at hl 0 rfl) ?_
    refine mk_callW (va_runV (As := [.int (hf_ShortForm_d a1), .int (hf_ShortForm_number a1)]) (rest := []) ⟨hx, hb, hml, hown, hts⟩ (hc_RiscHart_give l hP hD (hf_ShortForm_d a1) (hf_ShortForm_number a1) (in_ShortForm_d _)) (cwV 2 hts (mk_gV tw_170 tw_172 tw_4 tw_46 tw_173) rfl rfl rfl hdHart_give ⟨Nat.le_of_ble_eq_true rfl, Nat.le_of_ble_eq_true rfl⟩) (mk_preVK hK (va_recv hK hP (ci := 0) (q0 := 0) rfl rfl)) rfl rfl hl.1 rfl (lv_room (Nat.le_of_ble_eq_true rfl)) dHart_shortOfQ1_88 ⟨Nat.zero_le _, Nat.zero_le _⟩) hS (fun H locs hP hS => ?_)
    exact W.iret hx hb hr (fun t ht hW => ⟨⟨_, (hf_RiscHart_give st (hf_ShortForm_d a1) (hf_ShortForm_number a1)).2, rfl, (by unfold hf_RiscHart_shortOfQ1; rw [if_neg c_1, if_neg c_2, if_pos c_3]), by show va_P D hcl _ t.heap; rw [ht]; exact hP⟩, hS.F ht⟩) hS.2.2 dHart_shortOfQ1_91
  by_cases c_4 : (hf_ShortForm_f a1) = 3
  · refine lv_tableIn (tgt := 92) hx hb dHart_shortOfQ1_14 (by rw [c_4]; decide) (by rw [c_4]; decide) (by rw [c_4]; rfl) (by decide) ?_
    refine lv_iload_n hx hb dHart_shortOfQ1_92 rfl (lv_at hl 1 rfl) ?_
    refine lv_iconst (v := 2) hx hb dHart_shortOfQ1_93 (by decide) ?_
    refine lv_icmp_ne (tgt := 105) hx hb dHart_shortOfQ1_94 (by decide) (fun c_5 => ?_) (fun c_5 => ?_)
    · refine lv_aload_n hx hb dHart_shortOfQ1_105 rfl (lv_at hl 2 rfl) ?_
      refine lv_iload_n hx hb dHart_shortOfQ1_106 rfl (lv_at hl 3 rfl) ?_
      refine mk_callW (va_runV (As := [.int a1]) (rest := []) ⟨hx, hb, hml, hown, hts⟩ (hc_RiscHart_shortUpperNumber l hP hD a1) (cwV 1 hts (mk_gV tw_360 tw_362 tw_25 tw_46 tw_363) rfl rfl rfl hdHart_shortUpperNumber ⟨Nat.le_of_ble_eq_true rfl, Nat.le_of_ble_eq_true rfl⟩) (mk_preVK hK (va_recv hK hP (ci := 0) (q0 := 0) rfl rfl)) rfl rfl hl.1 rfl (lv_room (Nat.le_of_ble_eq_true rfl)) dHart_shortOfQ1_107 ⟨Nat.zero_le _, Nat.zero_le _⟩) hS (fun H locs hP hS => ?_)
      exact W.iret hx hb hr (fun t ht hW => ⟨⟨_, (hf_RiscHart_shortUpperNumber st a1).2, rfl, (by unfold hf_RiscHart_shortOfQ1; rw [if_neg c_1, if_neg c_2, if_neg c_3, if_pos c_4, if_neg c_5]), by show va_P D hcl _ t.heap; rw [ht]; exact hP⟩, hS.F ht⟩) hS.2.2 dHart_shortOfQ1_110
    · refine lv_aload_n hx hb dHart_shortOfQ1_97 rfl (lv_at hl 2 rfl) ?_
      refine lv_iload_n hx hb dHart_shortOfQ1_98 rfl (lv_at hl 3 rfl) ?_
      refine mk_callW (va_runV (As := [.int a1]) (rest := []) ⟨hx, hb, hml, hown, hts⟩ (hc_RiscHart_shortMoveStack l hP hD a1) (cwV 1 hts (mk_gV tw_353 tw_355 tw_24 tw_46 tw_356) rfl rfl rfl hdHart_shortMoveStack ⟨Nat.le_of_ble_eq_true rfl, Nat.le_of_ble_eq_true rfl⟩) (mk_preVK hK (va_recv hK hP (ci := 0) (q0 := 0) rfl rfl)) rfl rfl hl.1 rfl (lv_room (Nat.le_of_ble_eq_true rfl)) dHart_shortOfQ1_99 ⟨Nat.zero_le _, Nat.zero_le _⟩) hS (fun H locs hP hS => ?_)
      refine lv_goto (tgt := 110) hx hb dHart_shortOfQ1_102 (by decide) ?_
      exact W.iret hx hb hr (fun t ht hW => ⟨⟨_, (hf_RiscHart_shortMoveStack st a1).2, rfl, (by unfold hf_RiscHart_shortOfQ1; rw [if_neg c_1, if_neg c_2, if_neg c_3, if_pos c_4, if_pos c_5]), by show va_P D hcl _ t.heap; rw [ht]; exact hP⟩, hS.F ht⟩) hS.2.2 dHart_shortOfQ1_110
  by_cases c_6 : (hf_ShortForm_f a1) = 4
  · refine lv_tableIn (tgt := 111) hx hb dHart_shortOfQ1_14 (by rw [c_6]; decide) (by rw [c_6]; decide) (by rw [c_6]; rfl) (by decide) ?_
    refine lv_aload_n hx hb dHart_shortOfQ1_111 rfl (lv_at hl 2 rfl) ?_
    refine lv_iload_n hx hb dHart_shortOfQ1_112 rfl (lv_at hl 3 rfl) ?_
    refine mk_callW (va_runV (As := [.int a1]) (rest := []) ⟨hx, hb, hml, hown, hts⟩ (hc_RiscHart_shortArithmetic l hP hD a1) (cwV 1 hts (mk_gV tw_364 tw_366 tw_26 tw_46 tw_367) rfl rfl rfl hdHart_shortArithmetic ⟨Nat.le_of_ble_eq_true rfl, Nat.le_of_ble_eq_true rfl⟩) (mk_preVK hK (va_recv hK hP (ci := 0) (q0 := 0) rfl rfl)) rfl rfl hl.1 rfl (lv_room (Nat.le_of_ble_eq_true rfl)) dHart_shortOfQ1_113 ⟨Nat.zero_le _, Nat.zero_le _⟩) hS (fun H locs hP hS => ?_)
    exact W.iret hx hb hr (fun t ht hW => ⟨⟨_, (hf_RiscHart_shortArithmetic st a1).2, rfl, (by unfold hf_RiscHart_shortOfQ1; rw [if_neg c_1, if_neg c_2, if_neg c_3, if_neg c_4, if_pos c_6]), by show va_P D hcl _ t.heap; rw [ht]; exact hP⟩, hS.F ht⟩) hS.2.2 dHart_shortOfQ1_116
  by_cases c_7 : (hf_ShortForm_f a1) = 5
  · refine lv_tableIn (tgt := 117) hx hb dHart_shortOfQ1_14 (by rw [c_7]; decide) (by rw [c_7]; decide) (by rw [c_7]; rfl) (by decide) ?_
    refine lv_aload_n hx hb dHart_shortOfQ1_117 rfl (lv_at hl 2 rfl) ?_
    refine lv_iconst (v := 0) hx hb dHart_shortOfQ1_118 (by decide) ?_
    refine lv_aload_n hx hb dHart_shortOfQ1_119 rfl (lv_at hl 2 rfl) ?_
    refine va_get (D := D) (ci := 0) (v := .int (hs_place st)) (C := RHart) (T := THart) (N := 8) hx hb hg inHart hown hK hP 0 rfl rfl 2 (by decide) (hg _ tw_85) (fun _ h9 => h9) rfl dHart_shortOfQ1_120 ?_
    refine lv_iload_n hx hb dHart_shortOfQ1_123 rfl (lv_at hl 3 rfl) ?_
    refine mk_callR (va_runS (As := [.int a1]) (rest := [.int (hs_place st), .int 0, .ref h0]) ⟨hx, hb, hml, hown, hts⟩ (hc_ShortForm_offsetJ l _ a1) (va_cwS 1 hts (mk_gS tw_350 tw_351 tw_57 tw_352) rfl rfl rfl hdSF_offsetJ.2 ⟨Nat.le_of_ble_eq_true rfl, Nat.le_of_ble_eq_true rfl⟩) mk_preS rfl rfl hl.1 rfl (lv_room (Nat.le_of_ble_eq_true rfl)) dHart_shortOfQ1_124 ⟨Nat.zero_le _, Nat.zero_le _⟩) ?_
    refine lv_iadd hx hb dHart_shortOfQ1_127 ?_
    refine mk_callW (va_runV (As := [.int 0, .int ((hs_place st) + (hf_ShortForm_offsetJ a1))]) (rest := []) ⟨hx, hb, hml, hown, hts⟩ (hc_RiscHart_linkAndJump l hP hD 0 ((hs_place st) + (hf_ShortForm_offsetJ a1)) (in_k (by decide))) (cwV 2 hts (mk_gV tw_180 tw_182 tw_5 tw_46 tw_183) rfl rfl rfl hdHart_linkAndJump ⟨Nat.le_of_ble_eq_true rfl, Nat.le_of_ble_eq_true rfl⟩) (mk_preVK hK (va_recv hK hP (ci := 0) (q0 := 0) rfl rfl)) rfl rfl hl.1 rfl (lv_room (Nat.le_of_ble_eq_true rfl)) dHart_shortOfQ1_128 ⟨Nat.zero_le _, Nat.zero_le _⟩) hS (fun H locs hP hS => ?_)
    exact W.iret hx hb hr (fun t ht hW => ⟨⟨_, (hf_RiscHart_linkAndJump st 0 ((hs_place st) + (hf_ShortForm_offsetJ a1))).2, rfl, (by unfold hf_RiscHart_shortOfQ1; rw [if_neg c_1, if_neg c_2, if_neg c_3, if_neg c_4, if_neg c_6, if_pos c_7]), by show va_P D hcl _ t.heap; rw [ht]; exact hP⟩, hS.F ht⟩) hS.2.2 dHart_shortOfQ1_131
  by_cases c_8 : (hf_ShortForm_f a1) = 6
  · refine lv_tableIn (tgt := 132) hx hb dHart_shortOfQ1_14 (by rw [c_8]; decide) (by rw [c_8]; decide) (by rw [c_8]; rfl) (by decide) ?_
    refine lv_aload_n hx hb dHart_shortOfQ1_132 rfl (lv_at hl 2 rfl) ?_
    refine lv_aload_n hx hb dHart_shortOfQ1_133 rfl (lv_at hl 2 rfl) ?_
    refine va_get (D := D) (ci := 0) (v := .ref h2) (C := RHart) (T := THart) (N := 8) hx hb hg inHart hown hK hP 0 rfl rfl 1 (by decide) (hg _ tw_84) (fun _ h9 => h9) rfl dHart_shortOfQ1_134 ?_
    refine lv_iload_n hx hb dHart_shortOfQ1_137 rfl (lv_at hl 3 rfl) ?_
    refine mk_callR (va_runS (As := [.int a1]) (rest := [.ref h2, .ref h0]) ⟨hx, hb, hml, hown, hts⟩ (hc_ShortForm_highNear l _ a1) (va_cwS 1 hts (mk_gS tw_327 tw_328 tw_57 tw_329) rfl rfl rfl hdSF_highNear.2 ⟨Nat.le_of_ble_eq_true rfl, Nat.le_of_ble_eq_true rfl⟩) mk_preS rfl rfl hl.1 rfl (lv_room (Nat.le_of_ble_eq_true rfl)) dHart_shortOfQ1_138 ⟨Nat.zero_le _, Nat.zero_le _⟩) ?_
    refine va_iald (D := D) (f := hs_regs st) hx hb hK hP 2 0 rfl rfl (in_ShortForm_highNear _) dHart_shortOfQ1_141 ?_
    refine lv_if_ne (tgt := 149) hx hb dHart_shortOfQ1_142 (by decide) (fun c_9 => ?_) (fun c_9 => ?_)
    · refine lv_iconst (v := 0) hx hb dHart_shortOfQ1_149 (by decide) ?_
      refine lv_aload_n hx hb dHart_shortOfQ1_150 rfl (lv_at hl 2 rfl) ?_
      refine va_get (D := D) (ci := 0) (v := .int (hs_place st)) (C := RHart) (T := THart) (N := 8) hx hb hg inHart hown hK hP 0 rfl rfl 2 (by decide) (hg _ tw_85) (fun _ h9 => h9) rfl dHart_shortOfQ1_151 ?_
      refine lv_iload_n hx hb dHart_shortOfQ1_154 rfl (lv_at hl 3 rfl) ?_
      refine mk_callR (va_runS (As := [.int a1]) (rest := [.int (hs_place st), .int 0, .ref h0]) ⟨hx, hb, hml, hown, hts⟩ (hc_ShortForm_offsetT l _ a1) (va_cwS 1 hts (mk_gS tw_378 tw_379 tw_57 tw_380) rfl rfl rfl hdSF_offsetT.2 ⟨Nat.le_of_ble_eq_true rfl, Nat.le_of_ble_eq_true rfl⟩) mk_preS rfl rfl hl.1 rfl (lv_room (Nat.le_of_ble_eq_true rfl)) dHart_shortOfQ1_155 ⟨Nat.zero_le _, Nat.zero_le _⟩) ?_
      refine lv_iadd hx hb dHart_shortOfQ1_158 ?_
      refine mk_callW (va_runV (As := [.int 0, .int ((hs_place st) + (hf_ShortForm_offsetT a1))]) (rest := []) ⟨hx, hb, hml, hown, hts⟩ (hc_RiscHart_jumpIf l hP hD 0 ((hs_place st) + (hf_ShortForm_offsetT a1))) (cwV 2 hts (mk_gV tw_207 tw_209 tw_8 tw_46 tw_210) rfl rfl rfl hdHart_jumpIf ⟨Nat.le_of_ble_eq_true rfl, Nat.le_of_ble_eq_true rfl⟩) (mk_preVK hK (va_recv hK hP (ci := 0) (q0 := 0) rfl rfl)) rfl rfl hl.1 rfl (lv_room (Nat.le_of_ble_eq_true rfl)) dHart_shortOfQ1_159 ⟨Nat.zero_le _, Nat.zero_le _⟩) hS (fun H locs hP hS => ?_)
      exact W.iret hx hb hr (fun t ht hW => ⟨⟨_, (hf_RiscHart_jumpIf st 0 ((hs_place st) + (hf_ShortForm_offsetT a1))).2, rfl, (by unfold hf_RiscHart_shortOfQ1; rw [if_neg c_1, if_neg c_2, if_neg c_3, if_neg c_4, if_neg c_6, if_neg c_7, if_pos c_8, if_neg c_9]), by show va_P D hcl _ t.heap; rw [ht]; exact hP⟩, hS.F ht⟩) hS.2.2 dHart_shortOfQ1_162
    · refine lv_iconst (v := 1) hx hb dHart_shortOfQ1_145 (by decide) ?_
      refine lv_goto (tgt := 150) hx hb dHart_shortOfQ1_146 (by decide) ?_
      refine lv_aload_n hx hb dHart_shortOfQ1_150 rfl (lv_at hl 2 rfl) ?_
      refine va_get (D := D) (ci := 0) (v := .int (hs_place st)) (C := RHart) (T := THart) (N := 8) hx hb hg inHart hown hK hP 0 rfl rfl 2 (by decide) (hg _ tw_85) (fun _ h9 => h9) rfl dHart_shortOfQ1_151 ?_
      refine lv_iload_n hx hb dHart_shortOfQ1_154 rfl (lv_at hl 3 rfl) ?_
      refine mk_callR (va_runS (As := [.int a1]) (rest := [.int (hs_place st), .int 1, .ref h0]) ⟨hx, hb, hml, hown, hts⟩ (hc_ShortForm_offsetT l _ a1) (va_cwS 1 hts (mk_gS tw_378 tw_379 tw_57 tw_380) rfl rfl rfl hdSF_offsetT.2 ⟨Nat.le_of_ble_eq_true rfl, Nat.le_of_ble_eq_true rfl⟩) mk_preS rfl rfl hl.1 rfl (lv_room (Nat.le_of_ble_eq_true rfl)) dHart_shortOfQ1_155 ⟨Nat.zero_le _, Nat.zero_le _⟩) ?_
      refine lv_iadd hx hb dHart_shortOfQ1_158 ?_
      refine mk_callW (va_runV (As := [.int 1, .int ((hs_place st) + (hf_ShortForm_offsetT a1))]) (rest := []) ⟨hx, hb, hml, hown, hts⟩ (hc_RiscHart_jumpIf l hP hD 1 ((hs_place st) + (hf_ShortForm_offsetT a1))) (cwV 2 hts (mk_gV tw_207 tw_209 tw_8 tw_46 tw_210) rfl rfl rfl hdHart_jumpIf ⟨Nat.le_of_ble_eq_true rfl, Nat.le_of_ble_eq_true rfl⟩) (mk_preVK hK (va_recv hK hP (ci := 0) (q0 := 0) rfl rfl)) rfl rfl hl.1 rfl (lv_room (Nat.le_of_ble_eq_true rfl)) dHart_shortOfQ1_159 ⟨Nat.zero_le _, Nat.zero_le _⟩) hS (fun H locs hP hS => ?_)
      exact W.iret hx hb hr (fun t ht hW => ⟨⟨_, (hf_RiscHart_jumpIf st 1 ((hs_place st) + (hf_ShortForm_offsetT a1))).2, rfl, (by unfold hf_RiscHart_shortOfQ1; rw [if_neg c_1, if_neg c_2, if_neg c_3, if_neg c_4, if_neg c_6, if_neg c_7, if_pos c_8, if_pos c_9]), by show va_P D hcl _ t.heap; rw [ht]; exact hP⟩, hS.F ht⟩) hS.2.2 dHart_shortOfQ1_162
  refine mk_table (tgt := 163) hx hb dHart_shortOfQ1_14 (mk_gap (N := 7) [0, 1, 2, 3, 4, 5, 6] (by decide) (by decide) (by have q_1 := lv_neT (a := 0) c_1 rfl; have q_2 := lv_neT (a := 1) c_2 rfl; have q_3 := lv_neT (a := 2) c_3 rfl; have q_4 := lv_neT (a := 3) c_4 rfl; have q_6 := lv_neT (a := 4) c_6 rfl; have q_7 := lv_neT (a := 5) c_7 rfl; have q_8 := lv_neT (a := 6) c_8 rfl; intro n hn; simp only [List.mem_cons, List.not_mem_nil, or_false, not_or]; omega)) (by decide) ?_
  refine lv_aload_n hx hb dHart_shortOfQ1_163 rfl (lv_at hl 2 rfl) ?_
  refine lv_aload_n hx hb dHart_shortOfQ1_164 rfl (lv_at hl 2 rfl) ?_
  refine va_get (D := D) (ci := 0) (v := .ref h2) (C := RHart) (T := THart) (N := 8) hx hb hg inHart hown hK hP 0 rfl rfl 1 (by decide) (hg _ tw_84) (fun _ h9 => h9) rfl dHart_shortOfQ1_165 ?_
  refine lv_iload_n hx hb dHart_shortOfQ1_168 rfl (lv_at hl 3 rfl) ?_
  refine mk_callR (va_runS (As := [.int a1]) (rest := [.ref h2, .ref h0]) ⟨hx, hb, hml, hown, hts⟩ (hc_ShortForm_highNear l _ a1) (va_cwS 1 hts (mk_gS tw_327 tw_328 tw_57 tw_329) rfl rfl rfl hdSF_highNear.2 ⟨Nat.le_of_ble_eq_true rfl, Nat.le_of_ble_eq_true rfl⟩) mk_preS rfl rfl hl.1 rfl (lv_room (Nat.le_of_ble_eq_true rfl)) dHart_shortOfQ1_169 ⟨Nat.zero_le _, Nat.zero_le _⟩) ?_
  refine va_iald (D := D) (f := hs_regs st) hx hb hK hP 2 0 rfl rfl (in_ShortForm_highNear _) dHart_shortOfQ1_172 ?_
  refine lv_if_eq (tgt := 180) hx hb dHart_shortOfQ1_173 (by decide) (fun c_10 => ?_) (fun c_10 => ?_)
  · refine lv_iconst (v := 0) hx hb dHart_shortOfQ1_180 (by decide) ?_
    refine lv_aload_n hx hb dHart_shortOfQ1_181 rfl (lv_at hl 2 rfl) ?_
    refine va_get (D := D) (ci := 0) (v := .int (hs_place st)) (C := RHart) (T := THart) (N := 8) hx hb hg inHart hown hK hP 0 rfl rfl 2 (by decide) (hg _ tw_85) (fun _ h9 => h9) rfl dHart_shortOfQ1_182 ?_
    refine lv_iload_n hx hb dHart_shortOfQ1_185 rfl (lv_at hl 3 rfl) ?_
    refine mk_callR (va_runS (As := [.int a1]) (rest := [.int (hs_place st), .int 0, .ref h0]) ⟨hx, hb, hml, hown, hts⟩ (hc_ShortForm_offsetT l _ a1) (va_cwS 1 hts (mk_gS tw_378 tw_379 tw_57 tw_380) rfl rfl rfl hdSF_offsetT.2 ⟨Nat.le_of_ble_eq_true rfl, Nat.le_of_ble_eq_true rfl⟩) mk_preS rfl rfl hl.1 rfl (lv_room (Nat.le_of_ble_eq_true rfl)) dHart_shortOfQ1_186 ⟨Nat.zero_le _, Nat.zero_le _⟩) ?_
    refine lv_iadd hx hb dHart_shortOfQ1_189 ?_
    refine mk_callW (va_runV (As := [.int 0, .int ((hs_place st) + (hf_ShortForm_offsetT a1))]) (rest := []) ⟨hx, hb, hml, hown, hts⟩ (hc_RiscHart_jumpIf l hP hD 0 ((hs_place st) + (hf_ShortForm_offsetT a1))) (cwV 2 hts (mk_gV tw_207 tw_209 tw_8 tw_46 tw_210) rfl rfl rfl hdHart_jumpIf ⟨Nat.le_of_ble_eq_true rfl, Nat.le_of_ble_eq_true rfl⟩) (mk_preVK hK (va_recv hK hP (ci := 0) (q0 := 0) rfl rfl)) rfl rfl hl.1 rfl (lv_room (Nat.le_of_ble_eq_true rfl)) dHart_shortOfQ1_190 ⟨Nat.zero_le _, Nat.zero_le _⟩) hS (fun H locs hP hS => ?_)
    exact W.iret hx hb hr (fun t ht hW => ⟨⟨_, (hf_RiscHart_jumpIf st 0 ((hs_place st) + (hf_ShortForm_offsetT a1))).2, rfl, (by unfold hf_RiscHart_shortOfQ1; rw [if_neg c_1, if_neg c_2, if_neg c_3, if_neg c_4, if_neg c_6, if_neg c_7, if_neg c_8, if_pos c_10]), by show va_P D hcl _ t.heap; rw [ht]; exact hP⟩, hS.F ht⟩) hS.2.2 dHart_shortOfQ1_193
  · refine lv_iconst (v := 1) hx hb dHart_shortOfQ1_176 (by decide) ?_
    refine lv_goto (tgt := 181) hx hb dHart_shortOfQ1_177 (by decide) ?_
    refine lv_aload_n hx hb dHart_shortOfQ1_181 rfl (lv_at hl 2 rfl) ?_
    refine va_get (D := D) (ci := 0) (v := .int (hs_place st)) (C := RHart) (T := THart) (N := 8) hx hb hg inHart hown hK hP 0 rfl rfl 2 (by decide) (hg _ tw_85) (fun _ h9 => h9) rfl dHart_shortOfQ1_182 ?_
    refine lv_iload_n hx hb dHart_shortOfQ1_185 rfl (lv_at hl 3 rfl) ?_
    refine mk_callR (va_runS (As := [.int a1]) (rest := [.int (hs_place st), .int 1, .ref h0]) ⟨hx, hb, hml, hown, hts⟩ (hc_ShortForm_offsetT l _ a1) (va_cwS 1 hts (mk_gS tw_378 tw_379 tw_57 tw_380) rfl rfl rfl hdSF_offsetT.2 ⟨Nat.le_of_ble_eq_true rfl, Nat.le_of_ble_eq_true rfl⟩) mk_preS rfl rfl hl.1 rfl (lv_room (Nat.le_of_ble_eq_true rfl)) dHart_shortOfQ1_186 ⟨Nat.zero_le _, Nat.zero_le _⟩) ?_
    refine lv_iadd hx hb dHart_shortOfQ1_189 ?_
    refine mk_callW (va_runV (As := [.int 1, .int ((hs_place st) + (hf_ShortForm_offsetT a1))]) (rest := []) ⟨hx, hb, hml, hown, hts⟩ (hc_RiscHart_jumpIf l hP hD 1 ((hs_place st) + (hf_ShortForm_offsetT a1))) (cwV 2 hts (mk_gV tw_207 tw_209 tw_8 tw_46 tw_210) rfl rfl rfl hdHart_jumpIf ⟨Nat.le_of_ble_eq_true rfl, Nat.le_of_ble_eq_true rfl⟩) (mk_preVK hK (va_recv hK hP (ci := 0) (q0 := 0) rfl rfl)) rfl rfl hl.1 rfl (lv_room (Nat.le_of_ble_eq_true rfl)) dHart_shortOfQ1_190 ⟨Nat.zero_le _, Nat.zero_le _⟩) hS (fun H locs hP hS => ?_)
    exact W.iret hx hb hr (fun t ht hW => ⟨⟨_, (hf_RiscHart_jumpIf st 1 ((hs_place st) + (hf_ShortForm_offsetT a1))).2, rfl, (by unfold hf_RiscHart_shortOfQ1; rw [if_neg c_1, if_neg c_2, if_neg c_3, if_neg c_4, if_neg c_6, if_neg c_7, if_neg c_8, if_neg c_10]), by show va_P D hcl _ t.heap; rw [ht]; exact hP⟩, hS.F ht⟩) hS.2.2 dHart_shortOfQ1_193
set_option maxHeartbeats 4000000 in
set_option maxRecDepth 100000 in
theorem hc_RiscHart_shortJumpToRegister (l : Launch) {D : va_G} {cR cW cP : ClassId} {h0 h1 h2 h3 h4 : Nat} {A : Nat → Prop} {st : HS} {G : Heap} (hP : va_P D hcl (hs_W cR cW cP h0 h1 h2 h3 h4 st) G) (hD : ∀ z, va_D A (hs_W cR cW cP h0 h1 h2 h3 h4 z)) (a1 : Int32)  : Met l yHart_shortJumpToRegister (wq yHart_shortJumpToRegister cHart_shortJumpToRegister 4 (some .int)) ({ frames := 2, cells := 0, slots := 0, locals := 45 }) (mk_PK D hcl [(cR, .int), (cW, .int), (cP, .int)] G [.ref h0, .int a1]) (mk_Wi (fun u t => va_P D hcl (hs_W cR cW cP h0 h1 h2 h3 h4 u) t) A (hf_RiscHart_shortJumpToRegister st a1)) 0 0 A := by
  refine Met.ofW (cc := cHart_shortJumpToRegister) (maxL := 4) (ret := (some .int)) (by decide) rfl ?_
  intro p e s m args below meth c s₁ B hml hv
  obtain ⟨rfl, hG, hK⟩ := hv
  subst hG
  have hx := B.exec
  have hb := B.bytes
  have hr := B.returns
  have hts := atoms_spec (ws := (wq yHart_shortJumpToRegister cHart_shortJumpToRegister 4 (some .int))) B.pre
  have hown : s.vm.findClass RHart = some m.cls := findClass_of_methodNamed B.named
  have hlocks := B.notSynchronized
  have hg : ∀ w ∈ lw_g, w.before _ s = true := fun w h => hts w (List.mem_cons_of_mem _ h)
  have hS : va_S A s.heap s.heap [] := va_S.rf
  have hl := lv_entry ([.ref h0, .int a1]) (n := 4) (Nat.le_of_ble_eq_true rfl)
  rw [lg_entry_eq]
  generalize (lg_sl ([.ref h0, .int a1]) ++ List.replicate (4 - (lg_sl ([.ref h0, .int a1])).length) Slot.unset).toArray = ls at hl ⊢
  have hl : lv_has ls 4 [(0, .ref h0), (1, .int a1)] := hl
  refine lv_iload_n hx hb dHart_shortJumpToRegister_0 rfl (lv_at hl 1 rfl) ?_
  refine mk_callR (va_runS (As := [.int a1]) (rest := []) ⟨hx, hb, hml, hown, hts⟩ (hc_ShortForm_d l _ a1) (va_cwS 1 hts (mk_gS tw_343 tw_344 tw_57 tw_345) rfl rfl rfl hdSF_d.2 ⟨Nat.le_of_ble_eq_true rfl, Nat.le_of_ble_eq_true rfl⟩) mk_preS rfl rfl hl.1 rfl (lv_room (Nat.le_of_ble_eq_true rfl)) dHart_shortJumpToRegister_1 ⟨Nat.zero_le _, Nat.zero_le _⟩) ?_
  refine lv_istore_n (lv' := [(2, .int (hf_ShortForm_d a1)), (0, .ref h0), (1, .int a1)]) hx hb dHart_shortJumpToRegister_4 rfl hl (by decide) rfl (fun ls hl => ?_)
  refine lv_iload_n hx hb dHart_shortJumpToRegister_5 rfl (lv_at hl 2 rfl) ?_
  refine mk_callR (va_runS (As := [.int a1]) (rest := []) ⟨hx, hb, hml, hown, hts⟩ (hc_ShortForm_bit12 l _ a1) (va_cwS 1 hts (mk_gS tw_369 tw_370 tw_57 tw_371) rfl rfl rfl hdSF_bit12.2 ⟨Nat.le_of_ble_eq_true rfl, Nat.le_of_ble_eq_true rfl⟩) mk_preS rfl rfl hl.1 rfl (lv_room (Nat.le_of_ble_eq_true rfl)) dHart_shortJumpToRegister_6 ⟨Nat.zero_le _, Nat.zero_le _⟩) ?_
  refine lv_istore_n (lv' := [(3, .int (hf_ShortForm_bit12 a1)), (2, .int (hf_ShortForm_d a1)), (0, .ref h0), (1, .int a1)]) hx hb dHart_shortJumpToRegister_9 rfl hl (by decide) rfl (fun ls hl => ?_)
  refine lv_iload_n hx hb dHart_shortJumpToRegister_10 rfl (lv_at hl 1 rfl) ?_
  refine lv_if_ne (tgt := 34) hx hb dHart_shortJumpToRegister_11 (by decide) (fun c_1 => ?_) (fun c_1 => ?_)
  · refine lv_aload_n hx hb dHart_shortJumpToRegister_34 rfl (lv_at hl 2 rfl) ?_
    refine lv_iload_n hx hb dHart_shortJumpToRegister_35 rfl (lv_at hl 0 rfl) ?_
    refine lv_if_eq (tgt := 43) hx hb dHart_shortJumpToRegister_36 (by decide) (fun c_2 => ?_) (fun c_2 => ?_)
    · refine lv_iconst (v := 0) hx hb dHart_shortJumpToRegister_43 (by decide) ?_
      refine lv_aload_n hx hb dHart_shortJumpToRegister_44 rfl (lv_at hl 2 rfl) ?_
      refine va_get (D := D) (ci := 0) (v := .ref h2) (C := RHart) (T := THart) (N := 8) hx hb hg inHart hown hK hP 0 rfl rfl 1 (by decide) (hg _ tw_84) (fun _ h9 => h9) rfl dHart_shortJumpToRegister_45 ?_
      refine lv_iload_n hx hb dHart_shortJumpToRegister_48 rfl (lv_at hl 1 rfl) ?_
      refine va_iald (D := D) (f := hs_regs st) hx hb hK hP 2 0 rfl rfl (in_ShortForm_d _) dHart_shortJumpToRegister_49 ?_
      refine mk_callW (va_runV (As := [.int 0, .int (hs_regs st ((hf_ShortForm_d a1)).toNatClampNeg)]) (rest := []) ⟨hx, hb, hml, hown, hts⟩ (hc_RiscHart_linkAndJump l hP hD 0 (hs_regs st ((hf_ShortForm_d a1)).toNatClampNeg) (in_k (by decide))) (cwV 2 hts (mk_gV tw_180 tw_182 tw_5 tw_46 tw_183) rfl rfl rfl hdHart_linkAndJump ⟨Nat.le_of_ble_eq_true rfl, Nat.le_of_ble_eq_true rfl⟩) (mk_preVK hK (va_recv hK hP (ci := 0) (q0 := 0) rfl rfl)) rfl rfl hl.1 rfl (lv_room (Nat.le_of_ble_eq_true rfl)) dHart_shortJumpToRegister_50 ⟨Nat.zero_le _, Nat.zero_le _⟩) hS (fun H locs hP hS => ?_)
      exact W.iret hx hb hr (fun t ht hW => ⟨⟨_, (hf_RiscHart_linkAndJump st 0 (hs_regs st ((hf_ShortForm_d a1)).toNatClampNeg)).2, rfl, (by unfold hf_RiscHart_shortJumpToRegister; rw [if_neg c_1, if_pos c_2]), by show va_P D hcl _ t.heap; rw [ht]; exact hP⟩, hS.F ht⟩) hS.2.2 dHart_shortJumpToRegister_53
    · refine lv_iconst (v := 1) hx hb dHart_shortJumpToRegister_39 (by decide) ?_
      refine lv_goto (tgt := 44) hx hb dHart_shortJumpToRegister_40 (by decide) ?_
      refine lv_aload_n hx hb dHart_shortJumpToRegister_44 rfl (lv_at hl 2 rfl) ?_
      refine va_get (D := D) (ci := 0) (v := .ref h2) (C := RHart) (T := THart) (N := 8) hx hb hg inHart hown hK hP 0 rfl rfl 1 (by decide) (hg _ tw_84) (fun _ h9 => h9) rfl dHart_shortJumpToRegister_45 ?_
      refine lv_iload_n hx hb dHart_shortJumpToRegister_48 rfl (lv_at hl 1 rfl) ?_
      refine va_iald (D := D) (f := hs_regs st) hx hb hK hP 2 0 rfl rfl (in_ShortForm_d _) dHart_shortJumpToRegister_49 ?_
      refine mk_callW (va_runV (As := [.int 1, .int (hs_regs st ((hf_ShortForm_d a1)).toNatClampNeg)]) (rest := []) ⟨hx, hb, hml, hown, hts⟩ (hc_RiscHart_linkAndJump l hP hD 1 (hs_regs st ((hf_ShortForm_d a1)).toNatClampNeg) (in_k (by decide))) (cwV 2 hts (mk_gV tw_180 tw_182 tw_5 tw_46 tw_183) rfl rfl rfl hdHart_linkAndJump ⟨Nat.le_of_ble_eq_true rfl, Nat.le_of_ble_eq_true rfl⟩) (mk_preVK hK (va_recv hK hP (ci := 0) (q0 := 0) rfl rfl)) rfl rfl hl.1 rfl (lv_room (Nat.le_of_ble_eq_true rfl)) dHart_shortJumpToRegister_50 ⟨Nat.zero_le _, Nat.zero_le _⟩) hS (fun H locs hP hS => ?_)
      exact W.iret hx hb hr (fun t ht hW => ⟨⟨_, (hf_RiscHart_linkAndJump st 1 (hs_regs st ((hf_ShortForm_d a1)).toNatClampNeg)).2, rfl, (by unfold hf_RiscHart_shortJumpToRegister; rw [if_neg c_1, if_neg c_2]), by show va_P D hcl _ t.heap; rw [ht]; exact hP⟩, hS.F ht⟩) hS.2.2 dHart_shortJumpToRegister_53
  · refine lv_iload_n hx hb dHart_shortJumpToRegister_14 rfl (lv_at hl 0 rfl) ?_
    refine lv_if_eq (tgt := 27) hx hb dHart_shortJumpToRegister_15 (by decide) (fun c_3 => ?_) (fun c_3 => ?_)
    · refine lv_aload_n hx hb dHart_shortJumpToRegister_27 rfl (lv_at hl 2 rfl) ?_
      refine lv_iconst (v := 2) hx hb dHart_shortJumpToRegister_28 (by decide) ?_
      refine lv_iload_n hx hb dHart_shortJumpToRegister_29 rfl (lv_at hl 3 rfl) ?_
      refine mk_callW (va_runV (As := [.int 2, .int a1]) (rest := []) ⟨hx, hb, hml, hown, hts⟩ (hc_RiscHart_trap l hP hD 2 a1) (cwV 2 hts (mk_gV tw_139 tw_141 tw_1 tw_46 tw_142) rfl rfl rfl hdHart_trap ⟨Nat.le_of_ble_eq_true rfl, Nat.le_of_ble_eq_true rfl⟩) (mk_preVK hK (va_recv hK hP (ci := 0) (q0 := 0) rfl rfl)) rfl rfl hl.1 rfl (lv_room (Nat.le_of_ble_eq_true rfl)) dHart_shortJumpToRegister_30 ⟨Nat.zero_le _, Nat.zero_le _⟩) hS (fun H locs hP hS => ?_)
      exact W.iret hx hb hr (fun t ht hW => ⟨⟨_, (hf_RiscHart_trap st 2 a1).2, rfl, (by unfold hf_RiscHart_shortJumpToRegister; rw [if_pos c_1, if_pos c_3]), by show va_P D hcl _ t.heap; rw [ht]; exact hP⟩, hS.F ht⟩) hS.2.2 dHart_shortJumpToRegister_33
    · refine lv_aload_n hx hb dHart_shortJumpToRegister_18 rfl (lv_at hl 2 rfl) ?_
      refine lv_iconst (v := 4) hx hb dHart_shortJumpToRegister_19 (by decide) ?_
      refine lv_iconst (v := 0) hx hb dHart_shortJumpToRegister_20 (by decide) ?_
      refine mk_callW (va_runV (As := [.int 4, .int 0]) (rest := []) ⟨hx, hb, hml, hown, hts⟩ (hc_RiscHart_trap l hP hD 4 0) (cwV 2 hts (mk_gV tw_139 tw_141 tw_1 tw_46 tw_142) rfl rfl rfl hdHart_trap ⟨Nat.le_of_ble_eq_true rfl, Nat.le_of_ble_eq_true rfl⟩) (mk_preVK hK (va_recv hK hP (ci := 0) (q0 := 0) rfl rfl)) rfl rfl hl.1 rfl (lv_room (Nat.le_of_ble_eq_true rfl)) dHart_shortJumpToRegister_21 ⟨Nat.zero_le _, Nat.zero_le _⟩) hS (fun H locs hP hS => ?_)
      refine lv_goto (tgt := 33) hx hb dHart_shortJumpToRegister_24 (by decide) ?_
      exact W.iret hx hb hr (fun t ht hW => ⟨⟨_, (hf_RiscHart_trap st 4 0).2, rfl, (by unfold hf_RiscHart_shortJumpToRegister; rw [if_pos c_1, if_neg c_3]), by show va_P D hcl _ t.heap; rw [ht]; exact hP⟩, hS.F ht⟩) hS.2.2 dHart_shortJumpToRegister_33
set_option maxHeartbeats 4000000 in
set_option maxRecDepth 100000 in
theorem hc_RiscHart_shortMoveOrAdd (l : Launch) {D : va_G} {cR cW cP : ClassId} {h0 h1 h2 h3 h4 : Nat} {A : Nat → Prop} {st : HS} {G : Heap} (hP : va_P D hcl (hs_W cR cW cP h0 h1 h2 h3 h4 st) G) (hD : ∀ z, va_D A (hs_W cR cW cP h0 h1 h2 h3 h4 z)) (a1 : Int32)  : Met l yHart_shortMoveOrAdd (wq yHart_shortMoveOrAdd cHart_shortMoveOrAdd 4 (some .int)) ({ frames := 2, cells := 0, slots := 0, locals := 42 }) (mk_PK D hcl [(cR, .int), (cW, .int), (cP, .int)] G [.ref h0, .int a1]) (mk_Wi (fun u t => va_P D hcl (hs_W cR cW cP h0 h1 h2 h3 h4 u) t) A (hf_RiscHart_shortMoveOrAdd st a1)) 0 0 A := by
  refine Met.ofW (cc := cHart_shortMoveOrAdd) (maxL := 4) (ret := (some .int)) (by decide) rfl ?_
  intro p e s m args below meth c s₁ B hml hv
  obtain ⟨rfl, hG, hK⟩ := hv
  subst hG
  have hx := B.exec
  have hb := B.bytes
  have hr := B.returns
  have hts := atoms_spec (ws := (wq yHart_shortMoveOrAdd cHart_shortMoveOrAdd 4 (some .int))) B.pre
  have hown : s.vm.findClass RHart = some m.cls := findClass_of_methodNamed B.named
  have hlocks := B.notSynchronized
  have hg : ∀ w ∈ lw_g, w.before _ s = true := fun w h => hts w (List.mem_cons_of_mem _ h)
  have hS : va_S A s.heap s.heap [] := va_S.rf
  have hl := lv_entry ([.ref h0, .int a1]) (n := 4) (Nat.le_of_ble_eq_true rfl)
  rw [lg_entry_eq]
  generalize (lg_sl ([.ref h0, .int a1]) ++ List.replicate (4 - (lg_sl ([.ref h0, .int a1])).length) Slot.unset).toArray = ls at hl ⊢
  have hl : lv_has ls 4 [(0, .ref h0), (1, .int a1)] := hl
  refine lv_iload_n hx hb dHart_shortMoveOrAdd_0 rfl (lv_at hl 1 rfl) ?_
  refine mk_callR (va_runS (As := [.int a1]) (rest := []) ⟨hx, hb, hml, hown, hts⟩ (hc_ShortForm_d l _ a1) (va_cwS 1 hts (mk_gS tw_343 tw_344 tw_57 tw_345) rfl rfl rfl hdSF_d.2 ⟨Nat.le_of_ble_eq_true rfl, Nat.le_of_ble_eq_true rfl⟩) mk_preS rfl rfl hl.1 rfl (lv_room (Nat.le_of_ble_eq_true rfl)) dHart_shortMoveOrAdd_1 ⟨Nat.zero_le _, Nat.zero_le _⟩) ?_
  refine lv_istore_n (lv' := [(2, .int (hf_ShortForm_d a1)), (0, .ref h0), (1, .int a1)]) hx hb dHart_shortMoveOrAdd_4 rfl hl (by decide) rfl (fun ls hl => ?_)
  refine lv_aload_n hx hb dHart_shortMoveOrAdd_5 rfl (lv_at hl 1 rfl) ?_
  refine va_get (D := D) (ci := 0) (v := .ref h2) (C := RHart) (T := THart) (N := 8) hx hb hg inHart hown hK hP 0 rfl rfl 1 (by decide) (hg _ tw_84) (fun _ h9 => h9) rfl dHart_shortMoveOrAdd_6 ?_
  refine lv_iload_n hx hb dHart_shortMoveOrAdd_9 rfl (lv_at hl 2 rfl) ?_
  refine mk_callR (va_runS (As := [.int a1]) (rest := [.ref h2]) ⟨hx, hb, hml, hown, hts⟩ (hc_ShortForm_b l _ a1) (va_cwS 1 hts (mk_gS tw_372 tw_373 tw_57 tw_374) rfl rfl rfl hdSF_b.2 ⟨Nat.le_of_ble_eq_true rfl, Nat.le_of_ble_eq_true rfl⟩) mk_preS rfl rfl hl.1 rfl (lv_room (Nat.le_of_ble_eq_true rfl)) dHart_shortMoveOrAdd_10 ⟨Nat.zero_le _, Nat.zero_le _⟩) ?_
  refine va_iald (D := D) (f := hs_regs st) hx hb hK hP 2 0 rfl rfl (in_ShortForm_b _) dHart_shortMoveOrAdd_13 ?_
  refine lv_istore_n (lv' := [(3, .int (hs_regs st ((hf_ShortForm_b a1)).toNatClampNeg)), (2, .int (hf_ShortForm_d a1)), (0, .ref h0), (1, .int a1)]) hx hb dHart_shortMoveOrAdd_14 rfl hl (by decide) rfl (fun ls hl => ?_)
  refine lv_aload_n hx hb dHart_shortMoveOrAdd_15 rfl (lv_at hl 2 rfl) ?_
  refine lv_iload_n hx hb dHart_shortMoveOrAdd_16 rfl (lv_at hl 1 rfl) ?_
  refine lv_iload_n hx hb dHart_shortMoveOrAdd_17 rfl (lv_at hl 3 rfl) ?_
  refine mk_callR (va_runS (As := [.int a1]) (rest := [.int (hf_ShortForm_d a1), .ref h0]) ⟨hx, hb, hml, hown, hts⟩ (hc_ShortForm_bit12 l _ a1) (va_cwS 1 hts (mk_gS tw_369 tw_370 tw_57 tw_371) rfl rfl rfl hdSF_bit12.2 ⟨Nat.le_of_ble_eq_true rfl, Nat.le_of_ble_eq_true rfl⟩) mk_preS rfl rfl hl.1 rfl (lv_room (Nat.le_of_ble_eq_true rfl)) dHart_shortMoveOrAdd_18 ⟨Nat.zero_le _, Nat.zero_le _⟩) ?_
  refine lv_if_eq (tgt := 35) hx hb dHart_shortMoveOrAdd_21 (by decide) (fun c_1 => ?_) (fun c_1 => ?_)
  · refine lv_iload_n hx hb dHart_shortMoveOrAdd_35 rfl (lv_at hl 0 rfl) ?_
    refine mk_callW (va_runV (As := [.int (hf_ShortForm_d a1), .int (hs_regs st ((hf_ShortForm_b a1)).toNatClampNeg)]) (rest := []) ⟨hx, hb, hml, hown, hts⟩ (hc_RiscHart_give l hP hD (hf_ShortForm_d a1) (hs_regs st ((hf_ShortForm_b a1)).toNatClampNeg) (in_ShortForm_d _)) (cwV 2 hts (mk_gV tw_170 tw_172 tw_4 tw_46 tw_173) rfl rfl rfl hdHart_give ⟨Nat.le_of_ble_eq_true rfl, Nat.le_of_ble_eq_true rfl⟩) (mk_preVK hK (va_recv hK hP (ci := 0) (q0 := 0) rfl rfl)) rfl rfl hl.1 rfl (lv_room (Nat.le_of_ble_eq_true rfl)) dHart_shortMoveOrAdd_36 ⟨Nat.zero_le _, Nat.zero_le _⟩) hS (fun H locs hP hS => ?_)
    exact W.iret hx hb hr (fun t ht hW => ⟨⟨_, (hf_RiscHart_give st (hf_ShortForm_d a1) (hs_regs st ((hf_ShortForm_b a1)).toNatClampNeg)).2, rfl, (by unfold hf_RiscHart_shortMoveOrAdd; rw [if_pos c_1]), by show va_P D hcl _ t.heap; rw [ht]; exact hP⟩, hS.F ht⟩) hS.2.2 dHart_shortMoveOrAdd_39
  · refine lv_aload_n hx hb dHart_shortMoveOrAdd_24 rfl (lv_at hl 2 rfl) ?_
    refine va_get (D := D) (ci := 0) (v := .ref h2) (C := RHart) (T := THart) (N := 8) hx hb hg inHart hown hK hP 0 rfl rfl 1 (by decide) (hg _ tw_84) (fun _ h9 => h9) rfl dHart_shortMoveOrAdd_25 ?_
    refine lv_iload_n hx hb dHart_shortMoveOrAdd_28 rfl (lv_at hl 1 rfl) ?_
    refine va_iald (D := D) (f := hs_regs st) hx hb hK hP 2 0 rfl rfl (in_ShortForm_d _) dHart_shortMoveOrAdd_29 ?_
    refine lv_iload_n hx hb dHart_shortMoveOrAdd_30 rfl (lv_at hl 0 rfl) ?_
    refine lv_iadd hx hb dHart_shortMoveOrAdd_31 ?_
    refine lv_goto (tgt := 36) hx hb dHart_shortMoveOrAdd_32 (by decide) ?_
    refine mk_callW (va_runV (As := [.int (hf_ShortForm_d a1), .int ((hs_regs st ((hf_ShortForm_d a1)).toNatClampNeg) + (hs_regs st ((hf_ShortForm_b a1)).toNatClampNeg))]) (rest := []) ⟨hx, hb, hml, hown, hts⟩ (hc_RiscHart_give l hP hD (hf_ShortForm_d a1) ((hs_regs st ((hf_ShortForm_d a1)).toNatClampNeg) + (hs_regs st ((hf_ShortForm_b a1)).toNatClampNeg)) (in_ShortForm_d _)) (cwV 2 hts (mk_gV tw_170 tw_172 tw_4 tw_46 tw_173) rfl rfl rfl hdHart_give ⟨Nat.le_of_ble_eq_true rfl, Nat.le_of_ble_eq_true rfl⟩) (mk_preVK hK (va_recv hK hP (ci := 0) (q0 := 0) rfl rfl)) rfl rfl hl.1 rfl (lv_room (Nat.le_of_ble_eq_true rfl)) dHart_shortMoveOrAdd_36 ⟨Nat.zero_le _, Nat.zero_le _⟩) hS (fun H locs hP hS => ?_)
    exact W.iret hx hb hr (fun t ht hW => ⟨⟨_, (hf_RiscHart_give st (hf_ShortForm_d a1) ((hs_regs st ((hf_ShortForm_d a1)).toNatClampNeg) + (hs_regs st ((hf_ShortForm_b a1)).toNatClampNeg))).2, rfl, (by unfold hf_RiscHart_shortMoveOrAdd; rw [if_neg c_1]), by show va_P D hcl _ t.heap; rw [ht]; exact hP⟩, hS.F ht⟩) hS.2.2 dHart_shortMoveOrAdd_39
set_option maxHeartbeats 4000000 in
set_option maxRecDepth 100000 in
theorem hc_RiscHart_shortOfQ2 (l : Launch) {D : va_G} {cR cW cP : ClassId} {h0 h1 h2 h3 h4 : Nat} {A : Nat → Prop} {st : HS} {G : Heap} (hP : va_P D hcl (hs_W cR cW cP h0 h1 h2 h3 h4 st) G) (hD : ∀ z, va_D A (hs_W cR cW cP h0 h1 h2 h3 h4 z)) (a1 : Int32)  : Met l yHart_shortOfQ2 (wq yHart_shortOfQ2 cHart_shortOfQ2 4 (some .int)) ({ frames := 3, cells := 0, slots := 0, locals := 68 }) (mk_PK D hcl [(cR, .int), (cW, .int), (cP, .int)] G [.ref h0, .int a1]) (mk_Wi (fun u t => va_P D hcl (hs_W cR cW cP h0 h1 h2 h3 h4 u) t) A (hf_RiscHart_shortOfQ2 st a1)) 0 0 A := by
  refine Met.ofW (cc := cHart_shortOfQ2) (maxL := 4) (ret := (some .int)) (by decide) rfl ?_
  intro p e s m args below meth c s₁ B hml hv
  obtain ⟨rfl, hG, hK⟩ := hv
  subst hG
  have hx := B.exec
  have hb := B.bytes
  have hr := B.returns
  have hts := atoms_spec (ws := (wq yHart_shortOfQ2 cHart_shortOfQ2 4 (some .int))) B.pre
  have hown : s.vm.findClass RHart = some m.cls := findClass_of_methodNamed B.named
  have hlocks := B.notSynchronized
  have hg : ∀ w ∈ lw_g, w.before _ s = true := fun w h => hts w (List.mem_cons_of_mem _ h)
  have hS : va_S A s.heap s.heap [] := va_S.rf
  have hl := lv_entry ([.ref h0, .int a1]) (n := 4) (Nat.le_of_ble_eq_true rfl)
  rw [lg_entry_eq]
  generalize (lg_sl ([.ref h0, .int a1]) ++ List.replicate (4 - (lg_sl ([.ref h0, .int a1])).length) Slot.unset).toArray = ls at hl ⊢
  have hl : lv_has ls 4 [(0, .ref h0), (1, .int a1)] := hl
  refine lv_iload_n hx hb dHart_shortOfQ2_0 rfl (lv_at hl 1 rfl) ?_
  refine mk_callR (va_runS (As := [.int a1]) (rest := []) ⟨hx, hb, hml, hown, hts⟩ (hc_ShortForm_d l _ a1) (va_cwS 1 hts (mk_gS tw_343 tw_344 tw_57 tw_345) rfl rfl rfl hdSF_d.2 ⟨Nat.le_of_ble_eq_true rfl, Nat.le_of_ble_eq_true rfl⟩) mk_preS rfl rfl hl.1 rfl (lv_room (Nat.le_of_ble_eq_true rfl)) dHart_shortOfQ2_1 ⟨Nat.zero_le _, Nat.zero_le _⟩) ?_
  refine lv_istore_n (lv' := [(2, .int (hf_ShortForm_d a1)), (0, .ref h0), (1, .int a1)]) hx hb dHart_shortOfQ2_4 rfl hl (by decide) rfl (fun ls hl => ?_)
  refine lv_aload_n hx hb dHart_shortOfQ2_5 rfl (lv_at hl 1 rfl) ?_
  refine va_get (D := D) (ci := 0) (v := .ref h2) (C := RHart) (T := THart) (N := 8) hx hb hg inHart hown hK hP 0 rfl rfl 1 (by decide) (hg _ tw_84) (fun _ h9 => h9) rfl dHart_shortOfQ2_6 ?_
  refine lv_iconst (v := 2) hx hb dHart_shortOfQ2_9 (by decide) ?_
  refine va_iald (D := D) (f := hs_regs st) hx hb hK hP 2 0 rfl rfl (in_k (by decide)) dHart_shortOfQ2_10 ?_
  refine lv_istore_n (lv' := [(3, .int (hs_regs st (2 : Int32).toNatClampNeg)), (2, .int (hf_ShortForm_d a1)), (0, .ref h0), (1, .int a1)]) hx hb dHart_shortOfQ2_11 rfl hl (by decide) rfl (fun ls hl => ?_)
  refine lv_iload_n hx hb dHart_shortOfQ2_12 rfl (lv_at hl 3 rfl) ?_
  refine mk_callR (va_runS (As := [.int a1]) (rest := []) ⟨hx, hb, hml, hown, hts⟩ (hc_ShortForm_f l _ a1) (va_cwS 1 hts (mk_gS tw_333 tw_334 tw_57 tw_335) rfl rfl rfl hdSF_f.2 ⟨Nat.le_of_ble_eq_true rfl, Nat.le_of_ble_eq_true rfl⟩) mk_preS rfl rfl hl.1 rfl (lv_room (Nat.le_of_ble_eq_true rfl)) dHart_shortOfQ2_13 ⟨Nat.zero_le _, Nat.zero_le _⟩) ?_
  by_cases c_1 : (hf_ShortForm_f a1) = 0
  · refine lv_tableIn (tgt := 60) hx hb dHart_shortOfQ2_16 (by rw [c_1]; decide) (by rw [c_1]; decide) (by rw [c_1]; rfl) (by decide) ?_
    refine lv_iload_n hx hb dHart_shortOfQ2_60 rfl (lv_at hl 3 rfl) ?_
    refine mk_callR (va_runS (As := [.int a1]) (rest := []) ⟨hx, hb, hml, hown, hts⟩ (hc_ShortForm_bit12 l _ a1) (va_cwS 1 hts (mk_gS tw_369 tw_370 tw_57 tw_371) rfl rfl rfl hdSF_bit12.2 ⟨Nat.le_of_ble_eq_true rfl, Nat.le_of_ble_eq_true rfl⟩) mk_preS rfl rfl hl.1 rfl (lv_room (Nat.le_of_ble_eq_true rfl)) dHart_shortOfQ2_61 ⟨Nat.zero_le _, Nat.zero_le _⟩) ?_
    refine lv_if_eq (tgt := 76) hx hb dHart_shortOfQ2_64 (by decide) (fun c_2 => ?_) (fun c_2 => ?_)
    · refine lv_aload_n hx hb dHart_shortOfQ2_76 rfl (lv_at hl 2 rfl) ?_
      refine lv_iload_n hx hb dHart_shortOfQ2_77 rfl (lv_at hl 1 rfl) ?_
      refine lv_aload_n hx hb dHart_shortOfQ2_78 rfl (lv_at hl 2 rfl) ?_
      refine va_get (D := D) (ci := 0) (v := .ref h2) (C := RHart) (T := THart) (N := 8) hx hb hg inHart hown hK hP 0 rfl rfl 1 (by decide) (hg _ tw_84) (fun _ h9 => h9) rfl dHart_shortOfQ2_79 ?_
      refine lv_iload_n hx hb dHart_shortOfQ2_82 rfl (lv_at hl 1 rfl) ?_
      refine va_iald (D := D) (f := hs_regs st) hx hb hK hP 2 0 rfl rfl (in_ShortForm_d _) dHart_shortOfQ2_83 ?_
      refine lv_iload_n hx hb dHart_shortOfQ2_84 rfl (lv_at hl 3 rfl) ?_
      refine mk_callR (va_runS (As := [.int a1]) (rest := [.int (hs_regs st ((hf_ShortForm_d a1)).toNatClampNeg), .int (hf_ShortForm_d a1), .ref h0]) ⟨hx, hb, hml, hown, hts⟩ (hc_ShortForm_b l _ a1) (va_cwS 1 hts (mk_gS tw_372 tw_373 tw_57 tw_374) rfl rfl rfl hdSF_b.2 ⟨Nat.le_of_ble_eq_true rfl, Nat.le_of_ble_eq_true rfl⟩) mk_preS rfl rfl hl.1 rfl (lv_room (Nat.le_of_ble_eq_true rfl)) dHart_shortOfQ2_85 ⟨Nat.zero_le _, Nat.zero_le _⟩) ?_
      refine lv_ishl hx hb dHart_shortOfQ2_88 ?_
      refine mk_callW (va_runV (As := [.int (hf_ShortForm_d a1), .int ((hs_regs st ((hf_ShortForm_d a1)).toNatClampNeg) <<< ((hf_ShortForm_b a1) &&& 31))]) (rest := []) ⟨hx, hb, hml, hown, hts⟩ (hc_RiscHart_give l hP hD (hf_ShortForm_d a1) ((hs_regs st ((hf_ShortForm_d a1)).toNatClampNeg) <<< ((hf_ShortForm_b a1) &&& 31)) (in_ShortForm_d _)) (cwV 2 hts (mk_gV tw_170 tw_172 tw_4 tw_46 tw_173) rfl rfl rfl hdHart_give ⟨Nat.le_of_ble_eq_true rfl, Nat.le_of_ble_eq_true rfl⟩) (mk_preVK hK (va_recv hK hP (ci := 0) (q0 := 0) rfl rfl)) rfl rfl hl.1 rfl (lv_room (Nat.le_of_ble_eq_true rfl)) dHart_shortOfQ2_89 ⟨Nat.zero_le _, Nat.zero_le _⟩) hS (fun H locs hP hS => ?_)
      exact W.iret hx hb hr (fun t ht hW => ⟨⟨_, (hf_RiscHart_give st (hf_ShortForm_d a1) ((hs_regs st ((hf_ShortForm_d a1)).toNatClampNeg) <<< ((hf_ShortForm_b a1) &&& 31))).2, rfl, (by unfold hf_RiscHart_shortOfQ2; rw [if_pos c_1, if_pos c_2]), by show va_P D hcl _ t.heap; rw [ht]; exact hP⟩, hS.F ht⟩) hS.2.2 dHart_shortOfQ2_92
    · refine lv_aload_n hx hb dHart_shortOfQ2_67 rfl (lv_at hl 2 rfl) ?_
      refine lv_iconst (v := 2) hx hb dHart_shortOfQ2_68 (by decide) ?_
      refine lv_iload_n hx hb dHart_shortOfQ2_69 rfl (lv_at hl 3 rfl) ?_
      refine mk_callW (va_runV (As := [.int 2, .int a1]) (rest := []) ⟨hx, hb, hml, hown, hts⟩ (hc_RiscHart_trap l hP hD 2 a1) (cwV 2 hts (mk_gV tw_139 tw_141 tw_1 tw_46 tw_142) rfl rfl rfl hdHart_trap ⟨Nat.le_of_ble_eq_true rfl, Nat.le_of_ble_eq_true rfl⟩) (mk_preVK hK (va_recv hK hP (ci := 0) (q0 := 0) rfl rfl)) rfl rfl hl.1 rfl (lv_room (Nat.le_of_ble_eq_true rfl)) dHart_shortOfQ2_70 ⟨Nat.zero_le _, Nat.zero_le _⟩) hS (fun H locs hP hS => ?_)
      refine lv_goto (tgt := 92) hx hb dHart_shortOfQ2_73 (by decide) ?_
      exact W.iret hx hb hr (fun t ht hW => ⟨⟨_, (hf_RiscHart_trap st 2 a1).2, rfl, (by unfold hf_RiscHart_shortOfQ2; rw [if_pos c_1, if_neg c_2]), by show va_P D hcl _ t.heap; rw [ht]; exact hP⟩, hS.F ht⟩) hS.2.2 dHart_shortOfQ2_92
  by_cases c_3 : (hf_ShortForm_f a1) = 2
  · refine lv_tableIn (tgt := 93) hx hb dHart_shortOfQ2_16 (by rw [c_3]; decide) (by rw [c_3]; decide) (by rw [c_3]; rfl) (by decide) ?_
    refine lv_iload_n hx hb dHart_shortOfQ2_93 rfl (lv_at hl 1 rfl) ?_
    refine lv_if_ne (tgt := 106) hx hb dHart_shortOfQ2_94 (by decide) (fun c_4 => ?_) (fun c_4 => ?_)
    · refine lv_aload_n hx hb dHart_shortOfQ2_106 rfl (lv_at hl 2 rfl) ?_
      refine lv_iconst (v := 2) hx hb dHart_shortOfQ2_107 (by decide) ?_
      refine lv_iload_n hx hb dHart_shortOfQ2_108 rfl (lv_at hl 1 rfl) ?_
      refine lv_iload_n hx hb dHart_shortOfQ2_109 rfl (lv_at hl 0 rfl) ?_
      refine lv_iload_n hx hb dHart_shortOfQ2_110 rfl (lv_at hl 3 rfl) ?_
      refine mk_callR (va_runS (As := [.int a1]) (rest := [.int (hs_regs st (2 : Int32).toNatClampNeg), .int (hf_ShortForm_d a1), .int 2, .ref h0]) ⟨hx, hb, hml, hown, hts⟩ (hc_ShortForm_stackLoadOffset l _ a1) (va_cwS 1 hts (mk_gS tw_385 tw_386 tw_57 tw_387) rfl rfl rfl hdSF_stackLoadOffset.2 ⟨Nat.le_of_ble_eq_true rfl, Nat.le_of_ble_eq_true rfl⟩) mk_preS rfl rfl hl.1 rfl (lv_room (Nat.le_of_ble_eq_true rfl)) dHart_shortOfQ2_111 ⟨Nat.zero_le _, Nat.zero_le _⟩) ?_
      refine lv_iadd hx hb dHart_shortOfQ2_114 ?_
      refine mk_callW (va_runV (As := [.int 2, .int (hf_ShortForm_d a1), .int ((hs_regs st (2 : Int32).toNatClampNeg) + (hf_ShortForm_stackLoadOffset a1))]) (rest := []) ⟨hx, hb, hml, hown, hts⟩ (hc_RiscHart_load l hP hD 2 (hf_ShortForm_d a1) ((hs_regs st (2 : Int32).toNatClampNeg) + (hf_ShortForm_stackLoadOffset a1)) (in_ShortForm_d _)) (cwV 3 hts (mk_gV tw_219 tw_221 tw_10 tw_46 tw_222) rfl rfl rfl hdHart_load ⟨Nat.le_of_ble_eq_true rfl, Nat.le_of_ble_eq_true rfl⟩) (mk_preVK hK (va_recv hK hP (ci := 0) (q0 := 0) rfl rfl)) rfl rfl hl.1 rfl (lv_room (Nat.le_of_ble_eq_true rfl)) dHart_shortOfQ2_115 ⟨Nat.zero_le _, Nat.zero_le _⟩) hS (fun H locs hP hS => ?_)
      exact W.iret hx hb hr (fun t ht hW => ⟨⟨_, (hf_RiscHart_load st 2 (hf_ShortForm_d a1) ((hs_regs st (2 : Int32).toNatClampNeg) + (hf_ShortForm_stackLoadOffset a1))).2, rfl, (by unfold hf_RiscHart_shortOfQ2; rw [if_neg c_1, if_pos c_3, if_neg c_4]), by show va_P D hcl _ t.heap; rw [ht]; exact hP⟩, hS.F ht⟩) hS.2.2 dHart_shortOfQ2_118
    · refine lv_aload_n hx hb dHart_shortOfQ2_97 rfl (lv_at hl 2 rfl) ?_
      refine lv_iconst (v := 2) hx hb dHart_shortOfQ2_98 (by decide) ?_
      refine lv_iload_n hx hb dHart_shortOfQ2_99 rfl (lv_at hl 3 rfl) ?_
      refine mk_callW (va_runV (As := [.int 2, .int a1]) (rest := []) ⟨hx, hb, hml, hown, hts⟩ (hc_RiscHart_trap l hP hD 2 a1) (cwV 2 hts (mk_gV tw_139 tw_141 tw_1 tw_46 tw_142) rfl rfl rfl hdHart_trap ⟨Nat.le_of_ble_eq_true rfl, Nat.le_of_ble_eq_true rfl⟩) (mk_preVK hK (va_recv hK hP (ci := 0) (q0 := 0) rfl rfl)) rfl rfl hl.1 rfl (lv_room (Nat.le_of_ble_eq_true rfl)) dHart_shortOfQ2_100 ⟨Nat.zero_le _, Nat.zero_le _⟩) hS (fun H locs hP hS => ?_)
      refine lv_goto (tgt := 118) hx hb dHart_shortOfQ2_103 (by decide) ?_
      exact W.iret hx hb hr (fun t ht hW => ⟨⟨_, (hf_RiscHart_trap st 2 a1).2, rfl, (by unfold hf_RiscHart_shortOfQ2; rw [if_neg c_1, if_pos c_3, if_pos c_4]), by show va_P D hcl _ t.heap; rw [ht]; exact hP⟩, hS.F ht⟩) hS.2.2 dHart_shortOfQ2_118
  by_cases c_5 : (hf_ShortForm_f a1) = 4
  · refine lv_tableIn (tgt := 119) hx hb dHart_shortOfQ2_16 (by rw [c_5]; decide) (by rw [c_5]; decide) (by rw [c_5]; rfl) (by decide) ?_
    refine lv_iload_n hx hb dHart_shortOfQ2_119 rfl (lv_at hl 3 rfl) ?_
    refine mk_callR (va_runS (As := [.int a1]) (rest := []) ⟨hx, hb, hml, hown, hts⟩ (hc_ShortForm_b l _ a1) (va_cwS 1 hts (mk_gS tw_372 tw_373 tw_57 tw_374) rfl rfl rfl hdSF_b.2 ⟨Nat.le_of_ble_eq_true rfl, Nat.le_of_ble_eq_true rfl⟩) mk_preS rfl rfl hl.1 rfl (lv_room (Nat.le_of_ble_eq_true rfl)) dHart_shortOfQ2_120 ⟨Nat.zero_le _, Nat.zero_le _⟩) ?_
    refine lv_if_ne (tgt := 134) hx hb dHart_shortOfQ2_123 (by decide) (fun c_6 => ?_) (fun c_6 => ?_)
    · refine lv_aload_n hx hb dHart_shortOfQ2_134 rfl (lv_at hl 2 rfl) ?_
      refine lv_iload_n hx hb dHart_shortOfQ2_135 rfl (lv_at hl 3 rfl) ?_
      refine mk_callW (va_runV (As := [.int a1]) (rest := []) ⟨hx, hb, hml, hown, hts⟩ (hc_RiscHart_shortMoveOrAdd l hP hD a1) (cwV 1 hts (mk_gV tw_392 tw_394 tw_29 tw_46 tw_395) rfl rfl rfl hdHart_shortMoveOrAdd ⟨Nat.le_of_ble_eq_true rfl, Nat.le_of_ble_eq_true rfl⟩) (mk_preVK hK (va_recv hK hP (ci := 0) (q0 := 0) rfl rfl)) rfl rfl hl.1 rfl (lv_room (Nat.le_of_ble_eq_true rfl)) dHart_shortOfQ2_136 ⟨Nat.zero_le _, Nat.zero_le _⟩) hS (fun H locs hP hS => ?_)
      exact W.iret hx hb hr (fun t ht hW => ⟨⟨_, (hf_RiscHart_shortMoveOrAdd st a1).2, rfl, (by unfold hf_RiscHart_shortOfQ2; rw [if_neg c_1, if_neg c_3, if_pos c_5, if_neg c_6]), by show va_P D hcl _ t.heap; rw [ht]; exact hP⟩, hS.F ht⟩) hS.2.2 dHart_shortOfQ2_139
    · refine lv_aload_n hx hb dHart_shortOfQ2_126 rfl (lv_at hl 2 rfl) ?_
      refine lv_iload_n hx hb dHart_shortOfQ2_127 rfl (lv_at hl 3 rfl) ?_
      refine mk_callW (va_runV (As := [.int a1]) (rest := []) ⟨hx, hb, hml, hown, hts⟩ (hc_RiscHart_shortJumpToRegister l hP hD a1) (cwV 1 hts (mk_gV tw_388 tw_390 tw_28 tw_46 tw_391) rfl rfl rfl hdHart_shortJumpToRegister ⟨Nat.le_of_ble_eq_true rfl, Nat.le_of_ble_eq_true rfl⟩) (mk_preVK hK (va_recv hK hP (ci := 0) (q0 := 0) rfl rfl)) rfl rfl hl.1 rfl (lv_room (Nat.le_of_ble_eq_true rfl)) dHart_shortOfQ2_128 ⟨Nat.zero_le _, Nat.zero_le _⟩) hS (fun H locs hP hS => ?_)
      refine lv_goto (tgt := 139) hx hb dHart_shortOfQ2_131 (by decide) ?_
      exact W.iret hx hb hr (fun t ht hW => ⟨⟨_, (hf_RiscHart_shortJumpToRegister st a1).2, rfl, (by unfold hf_RiscHart_shortOfQ2; rw [if_neg c_1, if_neg c_3, if_pos c_5, if_pos c_6]), by show va_P D hcl _ t.heap; rw [ht]; exact hP⟩, hS.F ht⟩) hS.2.2 dHart_shortOfQ2_139
  by_cases c_7 : (hf_ShortForm_f a1) = 6
  · refine lv_tableIn (tgt := 140) hx hb dHart_shortOfQ2_16 (by rw [c_7]; decide) (by rw [c_7]; decide) (by rw [c_7]; rfl) (by decide) ?_
    refine lv_aload_n hx hb dHart_shortOfQ2_140 rfl (lv_at hl 2 rfl) ?_
    refine lv_iconst (v := 2) hx hb dHart_shortOfQ2_141 (by decide) ?_
    refine lv_iload_n hx hb dHart_shortOfQ2_142 rfl (lv_at hl 0 rfl) ?_
    refine lv_iload_n hx hb dHart_shortOfQ2_143 rfl (lv_at hl 3 rfl) ?_
    refine mk_callR (va_runS (As := [.int a1]) (rest := [.int (hs_regs st (2 : Int32).toNatClampNeg), .int 2, .ref h0]) ⟨hx, hb, hml, hown, hts⟩ (hc_ShortForm_stackStoreOffset l _ a1) (va_cwS 1 hts (mk_gS tw_396 tw_397 tw_57 tw_398) rfl rfl rfl hdSF_stackStoreOffset.2 ⟨Nat.le_of_ble_eq_true rfl, Nat.le_of_ble_eq_true rfl⟩) mk_preS rfl rfl hl.1 rfl (lv_room (Nat.le_of_ble_eq_true rfl)) dHart_shortOfQ2_144 ⟨Nat.zero_le _, Nat.zero_le _⟩) ?_
    refine lv_iadd hx hb dHart_shortOfQ2_147 ?_
    refine lv_aload_n hx hb dHart_shortOfQ2_148 rfl (lv_at hl 2 rfl) ?_
    refine va_get (D := D) (ci := 0) (v := .ref h2) (C := RHart) (T := THart) (N := 8) hx hb hg inHart hown hK hP 0 rfl rfl 1 (by decide) (hg _ tw_84) (fun _ h9 => h9) rfl dHart_shortOfQ2_149 ?_
    refine lv_iload_n hx hb dHart_shortOfQ2_152 rfl (lv_at hl 3 rfl) ?_
    refine mk_callR (va_runS (As := [.int a1]) (rest := [.ref h2, .int ((hs_regs st (2 : Int32).toNatClampNeg) + (hf_ShortForm_stackStoreOffset a1)), .int 2, .ref h0]) ⟨hx, hb, hml, hown, hts⟩ (hc_ShortForm_b l _ a1) (va_cwS 1 hts (mk_gS tw_372 tw_373 tw_57 tw_374) rfl rfl rfl hdSF_b.2 ⟨Nat.le_of_ble_eq_true rfl, Nat.le_of_ble_eq_true rfl⟩) mk_preS rfl rfl hl.1 rfl (lv_room (Nat.le_of_ble_eq_true rfl)) dHart_shortOfQ2_153 ⟨Nat.zero_le _, Nat.zero_le _⟩) ?_
    refine va_iald (D := D) (f := hs_regs st) hx hb hK hP 2 0 rfl rfl (in_ShortForm_b _) dHart_shortOfQ2_156 ?_
    refine mk_callW (va_runV (As := [.int 2, .int ((hs_regs st (2 : Int32).toNatClampNeg) + (hf_ShortForm_stackStoreOffset a1)), .int (hs_regs st ((hf_ShortForm_b a1)).toNatClampNeg)]) (rest := []) ⟨hx, hb, hml, hown, hts⟩ (hc_RiscHart_store l hP hD 2 ((hs_regs st (2 : Int32).toNatClampNeg) + (hf_ShortForm_stackStoreOffset a1)) (hs_regs st ((hf_ShortForm_b a1)).toNatClampNeg)) (cwV 3 hts (mk_gV tw_236 tw_238 tw_12 tw_46 tw_239) rfl rfl rfl hdHart_store ⟨Nat.le_of_ble_eq_true rfl, Nat.le_of_ble_eq_true rfl⟩) (mk_preVK hK (va_recv hK hP (ci := 0) (q0 := 0) rfl rfl)) rfl rfl hl.1 rfl (lv_room (Nat.le_of_ble_eq_true rfl)) dHart_shortOfQ2_157 ⟨Nat.zero_le _, Nat.zero_le _⟩) hS (fun H locs hP hS => ?_)
    exact W.iret hx hb hr (fun t ht hW => ⟨⟨_, (hf_RiscHart_store st 2 ((hs_regs st (2 : Int32).toNatClampNeg) + (hf_ShortForm_stackStoreOffset a1)) (hs_regs st ((hf_ShortForm_b a1)).toNatClampNeg)).2, rfl, (by unfold hf_RiscHart_shortOfQ2; rw [if_neg c_1, if_neg c_3, if_neg c_5, if_pos c_7]), by show va_P D hcl _ t.heap; rw [ht]; exact hP⟩, hS.F ht⟩) hS.2.2 dHart_shortOfQ2_160
  refine mk_table (tgt := 161) hx hb dHart_shortOfQ2_16 (mk_gap (N := 7) [0, 2, 4, 6] (by decide) (by decide) (by have q_1 := lv_neT (a := 0) c_1 rfl; have q_3 := lv_neT (a := 2) c_3 rfl; have q_5 := lv_neT (a := 4) c_5 rfl; have q_7 := lv_neT (a := 6) c_7 rfl; intro n hn; simp only [List.mem_cons, List.not_mem_nil, or_false, not_or]; omega)) (by decide) ?_
  refine lv_aload_n hx hb dHart_shortOfQ2_161 rfl (lv_at hl 2 rfl) ?_
  refine lv_iconst (v := 2) hx hb dHart_shortOfQ2_162 (by decide) ?_
  refine lv_iload_n hx hb dHart_shortOfQ2_163 rfl (lv_at hl 3 rfl) ?_
  refine mk_callW (va_runV (As := [.int 2, .int a1]) (rest := []) ⟨hx, hb, hml, hown, hts⟩ (hc_RiscHart_trap l hP hD 2 a1) (cwV 2 hts (mk_gV tw_139 tw_141 tw_1 tw_46 tw_142) rfl rfl rfl hdHart_trap ⟨Nat.le_of_ble_eq_true rfl, Nat.le_of_ble_eq_true rfl⟩) (mk_preVK hK (va_recv hK hP (ci := 0) (q0 := 0) rfl rfl)) rfl rfl hl.1 rfl (lv_room (Nat.le_of_ble_eq_true rfl)) dHart_shortOfQ2_164 ⟨Nat.zero_le _, Nat.zero_le _⟩) hS (fun H locs hP hS => ?_)
  exact W.iret hx hb hr (fun t ht hW => ⟨⟨_, (hf_RiscHart_trap st 2 a1).2, rfl, (by unfold hf_RiscHart_shortOfQ2; rw [if_neg c_1, if_neg c_3, if_neg c_5, if_neg c_7]), by show va_P D hcl _ t.heap; rw [ht]; exact hP⟩, hS.F ht⟩) hS.2.2 dHart_shortOfQ2_167
