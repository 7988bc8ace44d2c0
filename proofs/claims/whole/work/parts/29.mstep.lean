set_option maxHeartbeats 4000000 in
set_option maxRecDepth 100000 in
theorem mc_RiscHartModel_step (l : Launch) {D : va_G} {cB cO cX : ClassId} {m0 m1 m2 m3 : Nat} {A : Nat → Prop} {st : MS} {G : Heap} (hP : va_P D hcl (ms_W cB cO cX m0 m1 m2 m3 st) G) (hD : ∀ z, va_D A (ms_W cB cO cX m0 m1 m2 m3 z))   : Met l yMod_step (wq yMod_step cMod_step 2 (some .int)) ({ frames := 5, cells := 0, slots := 0, locals := 124 }) (mk_PK D hcl [(cB, .int), (cO, .int), (cX, .int)] G [.ref m0]) (mk_Wi (fun u t => va_P D hcl (ms_W cB cO cX m0 m1 m2 m3 u) t) A (mf_RiscHartModel_step st)) 0 0 A := by
  refine Met.ofW (cc := cMod_step) (maxL := 2) (ret := (some .int)) (by decide) rfl ?_
  intro p e s m args below meth c s₁ B hml hv
  obtain ⟨rfl, hG, hK⟩ := hv
  subst hG
  have hx := B.exec
  have hb := B.bytes
  have hr := B.returns
  have hts := atoms_spec (ws := (wq yMod_step cMod_step 2 (some .int))) B.pre
  have hown : s.vm.findClass RMod = some m.cls := findClass_of_methodNamed B.named
  have hlocks := B.notSynchronized
  have hg : ∀ w ∈ lw_g, w.before _ s = true := fun w h => hts w (List.mem_cons_of_mem _ h)
  have hS : va_S A s.heap s.heap [] := va_S.rf
  have hl := lv_entry ([.ref m0]) (n := 2) (Nat.le_of_ble_eq_true rfl)
  rw [lg_entry_eq]
  generalize (lg_sl ([.ref m0]) ++ List.replicate (2 - (lg_sl ([.ref m0])).length) Slot.unset).toArray = ls at hl ⊢
  have hl : lv_has ls 2 [(0, .ref m0)] := hl
  have tail_203 : ∀ (ls : Array Slot) (st1 : MS) (H : Heap) (locs : List Loc) (v1 : Int32), mf_RiscHartModel_step st = mf_RiscHartModel_step_t203 st1  v1 → va_P D hcl (ms_W cB cO cX m0 m1 m2 m3 st1) H → va_S A s.heap H locs → lv_has ls 2 [(0, .ref m0), (1, .int v1)] → W p l e (headSpec (wq yMod_step cMod_step 2 (some .int)) ({ frames := 5, cells := 0, slots := 0, locals := 124 })).room s m ([.ref m0] : List Value).toArray below meth c H locs 0 0 (MQ below (mk_Wi (fun u t => va_P D hcl (ms_W cB cO cX m0 m1 m2 m3 u) t) A (mf_RiscHartModel_step st)) ([.ref m0] : List Value).toArray s 0 0 A) (F0 m 203 ls []) := by
    clear hP hS hl
    intro ls st1 H locs v1 hv203 hP hS hl
    refine lv_aload_n hx hb dMod_step_203 rfl (lv_at hl 0 rfl) ?_
    refine va_get (D := D) (ci := 2) (v := .int (ms_met st1)) (C := RMod) (T := TMod) (N := 14) hx hb hg inMod hown hK hP 0 rfl rfl 13 (by decide) (hg _ tw_570) (fun _ h9 => h9) rfl dMod_step_204 ?_
    refine lv_if_le (tgt := 215) hx hb dMod_step_207 (by decide) (fun c_1 => ?_) (fun c_1 => ?_)
    · refine lv_aload_n hx hb dMod_step_215 rfl (lv_at hl 0 rfl) ?_
      refine lv_aload_n hx hb dMod_step_216 rfl (lv_at hl 0 rfl) ?_
      refine va_get (D := D) (ci := 2) (v := .int (ms_next st1)) (C := RMod) (T := TMod) (N := 14) hx hb hg inMod hown hK hP 0 rfl rfl 12 (by decide) (hg _ tw_569) (fun _ h9 => h9) rfl dMod_step_217 ?_
      refine lv_topi (fun y_2 ey_2 => ?_)
      refine va_put (D := D) (ci := 2) (v := .int y_2) (ty := .int) (C := RMod) (T := TMod) (N := 14) hx hb hg inMod tyMod tyMod_ok nmMod hown hK hP (hD _) hS 0 rfl rfl 4 (by decide) (hg _ tw_561) (fun _ h9 => h9) rfl (by decide +kernel) rfl rfl (Nat.le_of_ble_eq_true rfl) dMod_step_220 (fun H locs hP _ hS => ?_)
      have hP : va_P D hcl (ms_W cB cO cX m0 m1 m2 m3 (ms_set_place st1 y_2)) H := hP
      subst ey_2
      refine lv_aload_n hx hb dMod_step_223 rfl (lv_at hl 0 rfl) ?_
      refine lv_dup hx hb dMod_step_224 rfl ?_
      refine va_get (D := D) (ci := 2) (v := .long (ms_retired st1)) (C := RMod) (T := TMod) (N := 14) hx hb hg inMod hown hK hP 0 rfl rfl 8 (by decide) (hg _ tw_565) (fun _ h9 => h9) rfl dMod_step_225 ?_
      refine lv_lconst (v := 1) hx hb dMod_step_228 (by decide) ?_
      refine lv_ladd hx hb dMod_step_229 ?_
      refine lv_topl (fun y_3 ey_3 => ?_)
      obtain ⟨z_4, ez_4⟩ : ∃ z, z = (ms_set_place st1 (ms_next st1)) := ⟨_, rfl⟩
      rw [← ez_4] at hP
      refine va_put (D := D) (ci := 2) (v := .long y_3) (ty := .long) (C := RMod) (T := TMod) (N := 14) hx hb hg inMod tyMod tyMod_ok nmMod hown hK hP (hD _) hS 0 rfl rfl 8 (by decide) (hg _ tw_565) (fun _ h9 => h9) rfl (by decide +kernel) rfl rfl (Nat.le_of_ble_eq_true rfl) dMod_step_230 (fun H locs hP _ hS => ?_)
      have hP : va_P D hcl (ms_W cB cO cX m0 m1 m2 m3 (ms_set_retired z_4 y_3)) H := hP
      subst ey_3
      subst ez_4
      refine lv_iconst (v := 0) hx hb dMod_step_233 (by decide) ?_
      exact W.iret hx hb hr (fun t ht hW => ⟨⟨_, (ms_set_retired (ms_set_place st1 (ms_next st1)) ((ms_retired st1) + 1)), rfl, (by rw [hv203]; unfold mf_RiscHartModel_step_t203; rw [if_pos c_1]), by show va_P D hcl _ t.heap; rw [ht]; exact hP⟩, hS.F ht⟩) hS.2.2 dMod_step_234
    · refine lv_aload_n hx hb dMod_step_210 rfl (lv_at hl 0 rfl) ?_
      refine va_get (D := D) (ci := 2) (v := .int (ms_met st1)) (C := RMod) (T := TMod) (N := 14) hx hb hg inMod hown hK hP 0 rfl rfl 13 (by decide) (hg _ tw_570) (fun _ h9 => h9) rfl dMod_step_211 ?_
      exact W.iret hx hb hr (fun t ht hW => ⟨⟨_, st1, rfl, (by rw [hv203]; unfold mf_RiscHartModel_step_t203; rw [if_neg c_1]), by show va_P D hcl _ t.heap; rw [ht]; exact hP⟩, hS.F ht⟩) hS.2.2 dMod_step_214
  have tail_186 : ∀ (ls : Array Slot) (st1 : MS) (H : Heap) (locs : List Loc) (v1 : Int32), mf_RiscHartModel_step st = mf_RiscHartModel_step_t186 st1  v1 → va_P D hcl (ms_W cB cO cX m0 m1 m2 m3 st1) H → va_S A s.heap H locs → lv_has ls 2 [(0, .ref m0), (1, .int v1)] → W p l e (headSpec (wq yMod_step cMod_step 2 (some .int)) ({ frames := 5, cells := 0, slots := 0, locals := 124 })).room s m ([.ref m0] : List Value).toArray below meth c H locs 0 0 (MQ below (mk_Wi (fun u t => va_P D hcl (ms_W cB cO cX m0 m1 m2 m3 u) t) A (mf_RiscHartModel_step st)) ([.ref m0] : List Value).toArray s 0 0 A) (F0 m 186 ls []) := by
    clear hP hS hl
    intro ls st1 H locs v1 hv186 hP hS hl
    refine lv_iload_n hx hb dMod_step_186 rfl (lv_at hl 1 rfl) ?_
    refine lv_if_ne (tgt := 198) hx hb dMod_step_187 (by decide) (fun c_5 => ?_) (fun c_5 => ?_)
    · refine lv_aload_n hx hb dMod_step_198 rfl (lv_at hl 0 rfl) ?_
      refine lv_iload_n hx hb dMod_step_199 rfl (lv_at hl 1 rfl) ?_
      refine mk_callWv (va_runV (As := [.int v1]) (rest := []) ⟨hx, hb, hml, hown, hts⟩ (mc_RiscHartModel_carry l hP hD v1) (cwV 1 hts (mk_gV tw_709 tw_711 tw_37 tw_48 tw_712) rfl rfl rfl hdMod_carry ⟨Nat.le_of_ble_eq_true rfl, Nat.le_of_ble_eq_true rfl⟩) (mk_preVK hK (va_recv hK hP (ci := 2) (q0 := 0) rfl rfl)) rfl rfl hl.1 rfl (lv_room (Nat.le_of_ble_eq_true rfl)) dMod_step_200 ⟨Nat.zero_le _, Nat.zero_le _⟩) hS (fun H locs hP hS => ?_)
      exact tail_203 ls (mf_RiscHartModel_carry st1 v1) _ _ v1 (hv186.trans (by unfold mf_RiscHartModel_step_t186; rw [if_neg c_5])) hP hS (lv_sub hl [0, 1] rfl)
    · refine lv_aload_n hx hb dMod_step_190 rfl (lv_at hl 0 rfl) ?_
      refine mk_callW (va_runV (As := []) (rest := []) ⟨hx, hb, hml, hown, hts⟩ (mc_RiscHartModel_illegal l hP hD) (cwV 0 hts (mk_gV tw_705 tw_707 tw_36 tw_48 tw_708) rfl rfl rfl hdMod_illegal ⟨Nat.le_of_ble_eq_true rfl, Nat.le_of_ble_eq_true rfl⟩) (mk_preVK hK (va_recv hK hP (ci := 2) (q0 := 0) rfl rfl)) rfl rfl hl.1 rfl (lv_room (Nat.le_of_ble_eq_true rfl)) dMod_step_191 ⟨Nat.zero_le _, Nat.zero_le _⟩) hS (fun H locs hP hS => ?_)
      refine lv_pop hx hb dMod_step_194 rfl ?_
      refine lv_goto (tgt := 203) hx hb dMod_step_195 (by decide) ?_
      exact tail_203 ls ((mf_RiscHartModel_illegal st1).2) _ _ v1 (hv186.trans (by unfold mf_RiscHartModel_step_t186; rw [if_pos c_5])) hP hS (lv_sub hl [0, 1] rfl)
  have tail_150 : ∀ (ls : Array Slot) (st1 : MS) (H : Heap) (locs : List Loc) , mf_RiscHartModel_step st = mf_RiscHartModel_step_t150 st1   → va_P D hcl (ms_W cB cO cX m0 m1 m2 m3 st1) H → va_S A s.heap H locs → lv_has ls 2 [(0, .ref m0)] → W p l e (headSpec (wq yMod_step cMod_step 2 (some .int)) ({ frames := 5, cells := 0, slots := 0, locals := 124 })).room s m ([.ref m0] : List Value).toArray below meth c H locs 0 0 (MQ below (mk_Wi (fun u t => va_P D hcl (ms_W cB cO cX m0 m1 m2 m3 u) t) A (mf_RiscHartModel_step st)) ([.ref m0] : List Value).toArray s 0 0 A) (F0 m 150 ls []) := by
    clear hP hS hl
    intro ls st1 H locs  hv150 hP hS hl
    refine lv_aload_n hx hb dMod_step_150 rfl (lv_at hl 0 rfl) ?_
    refine lv_aload_n hx hb dMod_step_151 rfl (lv_at hl 0 rfl) ?_
    refine va_get (D := D) (ci := 2) (v := .int (ms_place st1)) (C := RMod) (T := TMod) (N := 14) hx hb hg inMod hown hK hP 0 rfl rfl 4 (by decide) (hg _ tw_561) (fun _ h9 => h9) rfl dMod_step_152 ?_
    refine lv_aload_n hx hb dMod_step_155 rfl (lv_at hl 0 rfl) ?_
    refine va_get (D := D) (ci := 2) (v := .int (ms_length st1)) (C := RMod) (T := TMod) (N := 14) hx hb hg inMod hown hK hP 0 rfl rfl 11 (by decide) (hg _ tw_568) (fun _ h9 => h9) rfl dMod_step_156 ?_
    refine lv_iadd hx hb dMod_step_159 ?_
    refine lv_topi (fun y_6 ey_6 => ?_)
    refine va_put (D := D) (ci := 2) (v := .int y_6) (ty := .int) (C := RMod) (T := TMod) (N := 14) hx hb hg inMod tyMod tyMod_ok nmMod hown hK hP (hD _) hS 0 rfl rfl 12 (by decide) (hg _ tw_569) (fun _ h9 => h9) rfl (by decide +kernel) rfl rfl (Nat.le_of_ble_eq_true rfl) dMod_step_160 (fun H locs hP _ hS => ?_)
    have hP : va_P D hcl (ms_W cB cO cX m0 m1 m2 m3 (ms_set_next st1 y_6)) H := hP
    subst ey_6
    refine lv_aload_n hx hb dMod_step_163 rfl (lv_at hl 0 rfl) ?_
    refine va_get (D := D) (ci := 2) (v := .int (ms_length st1)) (C := RMod) (T := TMod) (N := 14) hx hb hg inMod hown hK hP 0 rfl rfl 11 (by decide) (hg _ tw_568) (fun _ h9 => h9) rfl dMod_step_164 ?_
    refine lv_iconst (v := 4) hx hb dMod_step_167 (by decide) ?_
    refine lv_icmp_ne (tgt := 178) hx hb dMod_step_168 (by decide) (fun c_7 => ?_) (fun c_7 => ?_)
    · refine lv_aload_n hx hb dMod_step_178 rfl (lv_at hl 0 rfl) ?_
      refine va_get (D := D) (ci := 2) (v := .int (ms_bits st1)) (C := RMod) (T := TMod) (N := 14) hx hb hg inMod hown hK hP 0 rfl rfl 10 (by decide) (hg _ tw_567) (fun _ h9 => h9) rfl dMod_step_179 ?_
      refine mk_callR (va_runS (As := [.int (ms_bits st1)]) (rest := []) ⟨hx, hb, hml, hown, hts⟩ (mc_RiscHartModel_expand l _ (ms_bits st1)) (va_cwS 1 hts (mk_gS tw_665 tw_666 tw_48 tw_667) rfl rfl rfl hdMod_expand.2 ⟨Nat.le_of_ble_eq_true rfl, Nat.le_of_ble_eq_true rfl⟩) mk_preS rfl rfl hl.1 rfl (lv_room (Nat.le_of_ble_eq_true rfl)) dMod_step_182 ⟨Nat.zero_le _, Nat.zero_le _⟩) ?_
      refine lv_istore_n (lv' := [(1, .int (mf_RiscHartModel_expand (ms_bits st1))), (0, .ref m0)]) hx hb dMod_step_185 rfl hl (by decide) rfl (fun ls hl => ?_)
      exact tail_186 ls (ms_set_next st1 ((ms_place st1) + (ms_length st1))) _ _ (mf_RiscHartModel_expand (ms_bits st1)) (hv150.trans (by unfold mf_RiscHartModel_step_t150; rw [if_neg c_7])) hP hS (lv_sub hl [1, 0] rfl)
    · refine lv_aload_n hx hb dMod_step_171 rfl (lv_at hl 0 rfl) ?_
      refine va_get (D := D) (ci := 2) (v := .int (ms_bits st1)) (C := RMod) (T := TMod) (N := 14) hx hb hg inMod hown hK hP 0 rfl rfl 10 (by decide) (hg _ tw_567) (fun _ h9 => h9) rfl dMod_step_172 ?_
      refine lv_goto (tgt := 185) hx hb dMod_step_175 (by decide) ?_
      refine lv_istore_n (lv' := [(1, .int (ms_bits st1)), (0, .ref m0)]) hx hb dMod_step_185 rfl hl (by decide) rfl (fun ls hl => ?_)
      exact tail_186 ls (ms_set_next st1 ((ms_place st1) + (ms_length st1))) _ _ (ms_bits st1) (hv150.trans (by unfold mf_RiscHartModel_step_t150; rw [if_pos c_7])) hP hS (lv_sub hl [1, 0] rfl)
  have tail_10 : ∀ (ls : Array Slot) (st1 : MS) (H : Heap) (locs : List Loc) , mf_RiscHartModel_step st = mf_RiscHartModel_step_t10 st1   → va_P D hcl (ms_W cB cO cX m0 m1 m2 m3 st1) H → va_S A s.heap H locs → lv_has ls 2 [(0, .ref m0)] → W p l e (headSpec (wq yMod_step cMod_step 2 (some .int)) ({ frames := 5, cells := 0, slots := 0, locals := 124 })).room s m ([.ref m0] : List Value).toArray below meth c H locs 0 0 (MQ below (mk_Wi (fun u t => va_P D hcl (ms_W cB cO cX m0 m1 m2 m3 u) t) A (mf_RiscHartModel_step st)) ([.ref m0] : List Value).toArray s 0 0 A) (F0 m 10 ls []) := by
    clear hP hS hl
    intro ls st1 H locs  hv10 hP hS hl
    refine lv_aload_n hx hb dMod_step_10 rfl (lv_at hl 0 rfl) ?_
    refine va_get (D := D) (ci := 2) (v := .int (ms_place st1)) (C := RMod) (T := TMod) (N := 14) hx hb hg inMod hown hK hP 0 rfl rfl 4 (by decide) (hg _ tw_561) (fun _ h9 => h9) rfl dMod_step_11 ?_
    refine lv_iconst (v := 1) hx hb dMod_step_14 (by decide) ?_
    refine lv_iand hx hb dMod_step_15 ?_
    refine lv_iconst (v := 1) hx hb dMod_step_16 (by decide) ?_
    refine lv_icmp_eq (tgt := 31) hx hb dMod_step_17 (by decide) (fun c_8 => ?_) (fun c_8 => ?_)
    · refine lv_aload_n hx hb dMod_step_31 rfl (lv_at hl 0 rfl) ?_
      refine lv_iconst (v := 1) hx hb dMod_step_32 (by decide) ?_
      refine lv_aload_n hx hb dMod_step_33 rfl (lv_at hl 0 rfl) ?_
      refine va_get (D := D) (ci := 2) (v := .int (ms_place st1)) (C := RMod) (T := TMod) (N := 14) hx hb hg inMod hown hK hP 0 rfl rfl 4 (by decide) (hg _ tw_561) (fun _ h9 => h9) rfl dMod_step_34 ?_
      refine mk_callW (va_runV (As := [.int 1, .int (ms_place st1)]) (rest := []) ⟨hx, hb, hml, hown, hts⟩ (mc_RiscHartModel_trap l hP hD 1 (ms_place st1)) (cwV 2 hts (mk_gV tw_657 tw_659 tw_34 tw_48 tw_660) rfl rfl rfl hdMod_trap ⟨Nat.le_of_ble_eq_true rfl, Nat.le_of_ble_eq_true rfl⟩) (mk_preVK hK (va_recv hK hP (ci := 2) (q0 := 0) rfl rfl)) rfl rfl hl.1 rfl (lv_room (Nat.le_of_ble_eq_true rfl)) dMod_step_37 ⟨Nat.zero_le _, Nat.zero_le _⟩) hS (fun H locs hP hS => ?_)
      refine lv_pop hx hb dMod_step_40 rfl ?_
      refine lv_aload_n hx hb dMod_step_41 rfl (lv_at hl 0 rfl) ?_
      refine va_get (D := D) (ci := 2) (v := .int (ms_met ((mf_RiscHartModel_trap st1 1 (ms_place st1)).2))) (C := RMod) (T := TMod) (N := 14) hx hb hg inMod hown hK hP 0 rfl rfl 13 (by decide) (hg _ tw_570) (fun _ h9 => h9) rfl dMod_step_42 ?_
      exact W.iret hx hb hr (fun t ht hW => ⟨⟨_, (mf_RiscHartModel_trap st1 1 (ms_place st1)).2, rfl, (by rw [hv10]; unfold mf_RiscHartModel_step_t10; rw [if_pos c_8]), by show va_P D hcl _ t.heap; rw [ht]; exact hP⟩, hS.F ht⟩) hS.2.2 dMod_step_45
    · refine lv_aload_n hx hb dMod_step_20 rfl (lv_at hl 0 rfl) ?_
      refine lv_aload_n hx hb dMod_step_21 rfl (lv_at hl 0 rfl) ?_
      refine va_get (D := D) (ci := 2) (v := .int (ms_place st1)) (C := RMod) (T := TMod) (N := 14) hx hb hg inMod hown hK hP 0 rfl rfl 4 (by decide) (hg _ tw_561) (fun _ h9 => h9) rfl dMod_step_22 ?_
      refine mk_callR (va_runV (As := [.int (ms_place st1)]) (rest := []) ⟨hx, hb, hml, hown, hts⟩ (mc_RiscHartModel_fetches l hP (ms_place st1)) (cwV 1 hts (mk_gV tw_649 tw_651 tw_32 tw_48 tw_652) rfl rfl rfl hdMod_fetches ⟨Nat.le_of_ble_eq_true rfl, Nat.le_of_ble_eq_true rfl⟩) (mk_preVK hK (va_recv hK hP (ci := 2) (q0 := 0) rfl rfl)) rfl rfl hl.1 rfl (lv_room (Nat.le_of_ble_eq_true rfl)) dMod_step_25 ⟨Nat.zero_le _, Nat.zero_le _⟩) ?_
      refine lv_if_ne (tgt := 46) hx hb dMod_step_28 (by decide) (fun c_9 => ?_) (fun c_9 => ?_)
      · refine lv_aload_n hx hb dMod_step_46 rfl (lv_at hl 0 rfl) ?_
        refine lv_aload_n hx hb dMod_step_47 rfl (lv_at hl 0 rfl) ?_
        refine lv_aload_n hx hb dMod_step_48 rfl (lv_at hl 0 rfl) ?_
        refine va_get (D := D) (ci := 2) (v := .int (ms_place st1)) (C := RMod) (T := TMod) (N := 14) hx hb hg inMod hown hK hP 0 rfl rfl 4 (by decide) (hg _ tw_561) (fun _ h9 => h9) rfl dMod_step_49 ?_
        refine mk_callR (va_runV (As := [.int (ms_place st1)]) (rest := [.ref m0]) ⟨hx, hb, hml, hown, hts⟩ (mc_RiscHartModel_half l hP (ms_place st1) (in_fet1 c_9) (in_fet2 c_9)) (cwV 1 hts (mk_gV tw_661 tw_663 tw_35 tw_48 tw_664) rfl rfl rfl hdMod_half ⟨Nat.le_of_ble_eq_true rfl, Nat.le_of_ble_eq_true rfl⟩) (mk_preVK hK (va_recv hK hP (ci := 2) (q0 := 0) rfl rfl)) rfl rfl hl.1 rfl (lv_room (Nat.le_of_ble_eq_true rfl)) dMod_step_52 ⟨Nat.zero_le _, Nat.zero_le _⟩) ?_
        refine lv_topi (fun y_10 ey_10 => ?_)
        refine va_put (D := D) (ci := 2) (v := .int y_10) (ty := .int) (C := RMod) (T := TMod) (N := 14) hx hb hg inMod tyMod tyMod_ok nmMod hown hK hP (hD _) hS 0 rfl rfl 10 (by decide) (hg _ tw_567) (fun _ h9 => h9) rfl (by decide +kernel) rfl rfl (Nat.le_of_ble_eq_true rfl) dMod_step_55 (fun H locs hP _ hS => ?_)
        have hP : va_P D hcl (ms_W cB cO cX m0 m1 m2 m3 (ms_set_bits st1 y_10)) H := hP
        subst ey_10
        refine lv_aload_n hx hb dMod_step_58 rfl (lv_at hl 0 rfl) ?_
        refine lv_aload_n hx hb dMod_step_59 rfl (lv_at hl 0 rfl) ?_
        refine va_get (D := D) (ci := 2) (v := .int (mf_RiscHartModel_half st1 (ms_place st1))) (C := RMod) (T := TMod) (N := 14) hx hb hg inMod hown hK hP 0 rfl rfl 10 (by decide) (hg _ tw_567) (fun _ h9 => h9) rfl dMod_step_60 ?_
        refine lv_iconst (v := 3) hx hb dMod_step_63 (by decide) ?_
        refine lv_iand hx hb dMod_step_64 ?_
        refine lv_iconst (v := 3) hx hb dMod_step_65 (by decide) ?_
        refine lv_icmp_ne (tgt := 73) hx hb dMod_step_66 (by decide) (fun c_11 => ?_) (fun c_11 => ?_)
        · refine lv_iconst (v := 2) hx hb dMod_step_73 (by decide) ?_
          obtain ⟨z_12, ez_12⟩ : ∃ z, z = (ms_set_bits st1 (mf_RiscHartModel_half st1 (ms_place st1))) := ⟨_, rfl⟩
          rw [← ez_12] at hP
          refine va_put (D := D) (ci := 2) (v := .int 2) (ty := .int) (C := RMod) (T := TMod) (N := 14) hx hb hg inMod tyMod tyMod_ok nmMod hown hK hP (hD _) hS 0 rfl rfl 11 (by decide) (hg _ tw_568) (fun _ h9 => h9) rfl (by decide +kernel) rfl rfl (Nat.le_of_ble_eq_true rfl) dMod_step_74 (fun H locs hP _ hS => ?_)
          have hP : va_P D hcl (ms_W cB cO cX m0 m1 m2 m3 (ms_set_length z_12 2)) H := hP
          subst ez_12
          refine lv_aload_n hx hb dMod_step_77 rfl (lv_at hl 0 rfl) ?_
          refine va_get (D := D) (ci := 2) (v := .int 2) (C := RMod) (T := TMod) (N := 14) hx hb hg inMod hown hK hP 0 rfl rfl 11 (by decide) (hg _ tw_568) (fun _ h9 => h9) rfl dMod_step_78 ?_
          refine lv_iconst (v := 4) hx hb dMod_step_81 (by decide) ?_
          refine lv_icmp_ne (tgt := 113) hx hb dMod_step_82 (by decide) (fun c_13 => ?_) (fun c_13 => ?_)
          · refine lv_aload_n hx hb dMod_step_113 rfl (lv_at hl 0 rfl) ?_
            refine lv_aload_n hx hb dMod_step_114 rfl (lv_at hl 0 rfl) ?_
            refine va_get (D := D) (ci := 2) (v := .int 2) (C := RMod) (T := TMod) (N := 14) hx hb hg inMod hown hK hP 0 rfl rfl 11 (by decide) (hg _ tw_568) (fun _ h9 => h9) rfl dMod_step_115 ?_
            refine lv_iconst (v := 4) hx hb dMod_step_118 (by decide) ?_
            refine lv_icmp_ne (tgt := 143) hx hb dMod_step_119 (by decide) (fun c_14 => ?_) (fun c_14 => ?_)
            · refine lv_aload_n hx hb dMod_step_143 rfl (lv_at hl 0 rfl) ?_
              refine va_get (D := D) (ci := 2) (v := .int (mf_RiscHartModel_half st1 (ms_place st1))) (C := RMod) (T := TMod) (N := 14) hx hb hg inMod hown hK hP 0 rfl rfl 10 (by decide) (hg _ tw_567) (fun _ h9 => h9) rfl dMod_step_144 ?_
              refine lv_topi (fun y_15 ey_15 => ?_)
              obtain ⟨z_16, ez_16⟩ : ∃ z, z = (ms_set_length (ms_set_bits st1 (mf_RiscHartModel_half st1 (ms_place st1))) 2) := ⟨_, rfl⟩
              rw [← ez_16] at hP
              refine va_put (D := D) (ci := 2) (v := .int y_15) (ty := .int) (C := RMod) (T := TMod) (N := 14) hx hb hg inMod tyMod tyMod_ok nmMod hown hK hP (hD _) hS 0 rfl rfl 10 (by decide) (hg _ tw_567) (fun _ h9 => h9) rfl (by decide +kernel) rfl rfl (Nat.le_of_ble_eq_true rfl) dMod_step_147 (fun H locs hP _ hS => ?_)
              have hP : va_P D hcl (ms_W cB cO cX m0 m1 m2 m3 (ms_set_bits z_16 y_15)) H := hP
              subst ey_15
              subst ez_16
              exact tail_150 ls (ms_set_bits (ms_set_length (ms_set_bits st1 (mf_RiscHartModel_half st1 (ms_place st1))) 2) (mf_RiscHartModel_half st1 (ms_place st1))) _ _  (hv10.trans (by unfold mf_RiscHartModel_step_t10; rw [if_neg c_8, if_neg c_9, if_neg c_11])) hP hS (lv_sub hl [0] rfl)
            · exact absurd c_14 (by decide)
          · exact absurd c_13 (by decide)
        · refine lv_iconst (v := 4) hx hb dMod_step_69 (by decide) ?_
          refine lv_goto (tgt := 74) hx hb dMod_step_70 (by decide) ?_
          obtain ⟨z_17, ez_17⟩ : ∃ z, z = (ms_set_bits st1 (mf_RiscHartModel_half st1 (ms_place st1))) := ⟨_, rfl⟩
          rw [← ez_17] at hP
          refine va_put (D := D) (ci := 2) (v := .int 4) (ty := .int) (C := RMod) (T := TMod) (N := 14) hx hb hg inMod tyMod tyMod_ok nmMod hown hK hP (hD _) hS 0 rfl rfl 11 (by decide) (hg _ tw_568) (fun _ h9 => h9) rfl (by decide +kernel) rfl rfl (Nat.le_of_ble_eq_true rfl) dMod_step_74 (fun H locs hP _ hS => ?_)
          have hP : va_P D hcl (ms_W cB cO cX m0 m1 m2 m3 (ms_set_length z_17 4)) H := hP
          subst ez_17
          refine lv_aload_n hx hb dMod_step_77 rfl (lv_at hl 0 rfl) ?_
          refine va_get (D := D) (ci := 2) (v := .int 4) (C := RMod) (T := TMod) (N := 14) hx hb hg inMod hown hK hP 0 rfl rfl 11 (by decide) (hg _ tw_568) (fun _ h9 => h9) rfl dMod_step_78 ?_
          refine lv_iconst (v := 4) hx hb dMod_step_81 (by decide) ?_
          refine lv_icmp_ne (tgt := 113) hx hb dMod_step_82 (by decide) (fun c_18 => ?_) (fun c_18 => ?_)
          · exact absurd c_18 (by decide)
          · refine lv_aload_n hx hb dMod_step_85 rfl (lv_at hl 0 rfl) ?_
            refine lv_aload_n hx hb dMod_step_86 rfl (lv_at hl 0 rfl) ?_
            refine va_get (D := D) (ci := 2) (v := .int (ms_place st1)) (C := RMod) (T := TMod) (N := 14) hx hb hg inMod hown hK hP 0 rfl rfl 4 (by decide) (hg _ tw_561) (fun _ h9 => h9) rfl dMod_step_87 ?_
            refine lv_iconst (v := 2) hx hb dMod_step_90 (by decide) ?_
            refine lv_iadd hx hb dMod_step_91 ?_
            refine mk_callR (va_runV (As := [.int ((ms_place st1) + 2)]) (rest := []) ⟨hx, hb, hml, hown, hts⟩ (mc_RiscHartModel_fetches l hP ((ms_place st1) + 2)) (cwV 1 hts (mk_gV tw_649 tw_651 tw_32 tw_48 tw_652) rfl rfl rfl hdMod_fetches ⟨Nat.le_of_ble_eq_true rfl, Nat.le_of_ble_eq_true rfl⟩) (mk_preVK hK (va_recv hK hP (ci := 2) (q0 := 0) rfl rfl)) rfl rfl hl.1 rfl (lv_room (Nat.le_of_ble_eq_true rfl)) dMod_step_92 ⟨Nat.zero_le _, Nat.zero_le _⟩) ?_
            refine lv_if_ne (tgt := 113) hx hb dMod_step_95 (by decide) (fun c_19 => ?_) (fun c_19 => ?_)
            · refine lv_aload_n hx hb dMod_step_113 rfl (lv_at hl 0 rfl) ?_
              refine lv_aload_n hx hb dMod_step_114 rfl (lv_at hl 0 rfl) ?_
              refine va_get (D := D) (ci := 2) (v := .int 4) (C := RMod) (T := TMod) (N := 14) hx hb hg inMod hown hK hP 0 rfl rfl 11 (by decide) (hg _ tw_568) (fun _ h9 => h9) rfl dMod_step_115 ?_
              refine lv_iconst (v := 4) hx hb dMod_step_118 (by decide) ?_
              refine lv_icmp_ne (tgt := 143) hx hb dMod_step_119 (by decide) (fun c_20 => ?_) (fun c_20 => ?_)
              · exact absurd c_20 (by decide)
              · refine lv_aload_n hx hb dMod_step_122 rfl (lv_at hl 0 rfl) ?_
                refine va_get (D := D) (ci := 2) (v := .int (mf_RiscHartModel_half st1 (ms_place st1))) (C := RMod) (T := TMod) (N := 14) hx hb hg inMod hown hK hP 0 rfl rfl 10 (by decide) (hg _ tw_567) (fun _ h9 => h9) rfl dMod_step_123 ?_
                refine lv_aload_n hx hb dMod_step_126 rfl (lv_at hl 0 rfl) ?_
                refine lv_aload_n hx hb dMod_step_127 rfl (lv_at hl 0 rfl) ?_
                refine va_get (D := D) (ci := 2) (v := .int (ms_place st1)) (C := RMod) (T := TMod) (N := 14) hx hb hg inMod hown hK hP 0 rfl rfl 4 (by decide) (hg _ tw_561) (fun _ h9 => h9) rfl dMod_step_128 ?_
                refine lv_iconst (v := 2) hx hb dMod_step_131 (by decide) ?_
                refine lv_iadd hx hb dMod_step_132 ?_
                refine mk_callR (va_runV (As := [.int ((ms_place st1) + 2)]) (rest := [.int (mf_RiscHartModel_half st1 (ms_place st1)), .ref m0]) ⟨hx, hb, hml, hown, hts⟩ (mc_RiscHartModel_half l hP ((ms_place st1) + 2) (in_fet1 c_19) (in_fet2 c_19)) (cwV 1 hts (mk_gV tw_661 tw_663 tw_35 tw_48 tw_664) rfl rfl rfl hdMod_half ⟨Nat.le_of_ble_eq_true rfl, Nat.le_of_ble_eq_true rfl⟩) (mk_preVK hK (va_recv hK hP (ci := 2) (q0 := 0) rfl rfl)) rfl rfl hl.1 rfl (lv_room (Nat.le_of_ble_eq_true rfl)) dMod_step_133 ⟨Nat.zero_le _, Nat.zero_le _⟩) ?_
                refine lv_bipush (v := 16) hx hb dMod_step_136 (by decide) ?_
                refine lv_ishl hx hb dMod_step_138 ?_
                refine lv_ior hx hb dMod_step_139 ?_
                refine lv_goto (tgt := 147) hx hb dMod_step_140 (by decide) ?_
                refine lv_topi (fun y_21 ey_21 => ?_)
                obtain ⟨z_22, ez_22⟩ : ∃ z, z = (ms_set_length (ms_set_bits st1 (mf_RiscHartModel_half st1 (ms_place st1))) 4) := ⟨_, rfl⟩
                rw [← ez_22] at hP
                refine va_put (D := D) (ci := 2) (v := .int y_21) (ty := .int) (C := RMod) (T := TMod) (N := 14) hx hb hg inMod tyMod tyMod_ok nmMod hown hK hP (hD _) hS 0 rfl rfl 10 (by decide) (hg _ tw_567) (fun _ h9 => h9) rfl (by decide +kernel) rfl rfl (Nat.le_of_ble_eq_true rfl) dMod_step_147 (fun H locs hP _ hS => ?_)
                have hP : va_P D hcl (ms_W cB cO cX m0 m1 m2 m3 (ms_set_bits z_22 y_21)) H := hP
                subst ey_21
                subst ez_22
                exact tail_150 ls (ms_set_bits (ms_set_length (ms_set_bits st1 (mf_RiscHartModel_half st1 (ms_place st1))) 4) ((mf_RiscHartModel_half st1 (ms_place st1)) ||| ((mf_RiscHartModel_half (ms_set_length (ms_set_bits st1 (mf_RiscHartModel_half st1 (ms_place st1))) 4) ((ms_place st1) + 2)) <<< (16 &&& 31)))) _ _  (hv10.trans (by unfold mf_RiscHartModel_step_t10; rw [if_neg c_8, if_neg c_9, if_pos c_11, if_neg c_19])) hP hS (lv_sub hl [0] rfl)
            · refine lv_aload_n hx hb dMod_step_98 rfl (lv_at hl 0 rfl) ?_
              refine lv_iconst (v := 1) hx hb dMod_step_99 (by decide) ?_
              refine lv_aload_n hx hb dMod_step_100 rfl (lv_at hl 0 rfl) ?_
              refine va_get (D := D) (ci := 2) (v := .int (ms_place st1)) (C := RMod) (T := TMod) (N := 14) hx hb hg inMod hown hK hP 0 rfl rfl 4 (by decide) (hg _ tw_561) (fun _ h9 => h9) rfl dMod_step_101 ?_
              refine mk_callW (va_runV (As := [.int 1, .int (ms_place st1)]) (rest := []) ⟨hx, hb, hml, hown, hts⟩ (mc_RiscHartModel_trap l hP hD 1 (ms_place st1)) (cwV 2 hts (mk_gV tw_657 tw_659 tw_34 tw_48 tw_660) rfl rfl rfl hdMod_trap ⟨Nat.le_of_ble_eq_true rfl, Nat.le_of_ble_eq_true rfl⟩) (mk_preVK hK (va_recv hK hP (ci := 2) (q0 := 0) rfl rfl)) rfl rfl hl.1 rfl (lv_room (Nat.le_of_ble_eq_true rfl)) dMod_step_104 ⟨Nat.zero_le _, Nat.zero_le _⟩) hS (fun H locs hP hS => ?_)
              refine lv_pop hx hb dMod_step_107 rfl ?_
              refine lv_aload_n hx hb dMod_step_108 rfl (lv_at hl 0 rfl) ?_
              refine va_get (D := D) (ci := 2) (v := .int (ms_met ((mf_RiscHartModel_trap (ms_set_length (ms_set_bits st1 (mf_RiscHartModel_half st1 (ms_place st1))) 4) 1 (ms_place st1)).2))) (C := RMod) (T := TMod) (N := 14) hx hb hg inMod hown hK hP 0 rfl rfl 13 (by decide) (hg _ tw_570) (fun _ h9 => h9) rfl dMod_step_109 ?_
              exact W.iret hx hb hr (fun t ht hW => ⟨⟨_, (mf_RiscHartModel_trap (ms_set_length (ms_set_bits st1 (mf_RiscHartModel_half st1 (ms_place st1))) 4) 1 (ms_place st1)).2, rfl, (by rw [hv10]; unfold mf_RiscHartModel_step_t10; rw [if_neg c_8, if_neg c_9, if_pos c_11, if_pos c_19]), by show va_P D hcl _ t.heap; rw [ht]; exact hP⟩, hS.F ht⟩) hS.2.2 dMod_step_112
      · refine lv_aload_n hx hb dMod_step_31 rfl (lv_at hl 0 rfl) ?_
        refine lv_iconst (v := 1) hx hb dMod_step_32 (by decide) ?_
        refine lv_aload_n hx hb dMod_step_33 rfl (lv_at hl 0 rfl) ?_
        refine va_get (D := D) (ci := 2) (v := .int (ms_place st1)) (C := RMod) (T := TMod) (N := 14) hx hb hg inMod hown hK hP 0 rfl rfl 4 (by decide) (hg _ tw_561) (fun _ h9 => h9) rfl dMod_step_34 ?_
        refine mk_callW (va_runV (As := [.int 1, .int (ms_place st1)]) (rest := []) ⟨hx, hb, hml, hown, hts⟩ (mc_RiscHartModel_trap l hP hD 1 (ms_place st1)) (cwV 2 hts (mk_gV tw_657 tw_659 tw_34 tw_48 tw_660) rfl rfl rfl hdMod_trap ⟨Nat.le_of_ble_eq_true rfl, Nat.le_of_ble_eq_true rfl⟩) (mk_preVK hK (va_recv hK hP (ci := 2) (q0 := 0) rfl rfl)) rfl rfl hl.1 rfl (lv_room (Nat.le_of_ble_eq_true rfl)) dMod_step_37 ⟨Nat.zero_le _, Nat.zero_le _⟩) hS (fun H locs hP hS => ?_)
        refine lv_pop hx hb dMod_step_40 rfl ?_
        refine lv_aload_n hx hb dMod_step_41 rfl (lv_at hl 0 rfl) ?_
        refine va_get (D := D) (ci := 2) (v := .int (ms_met ((mf_RiscHartModel_trap st1 1 (ms_place st1)).2))) (C := RMod) (T := TMod) (N := 14) hx hb hg inMod hown hK hP 0 rfl rfl 13 (by decide) (hg _ tw_570) (fun _ h9 => h9) rfl dMod_step_42 ?_
        exact W.iret hx hb hr (fun t ht hW => ⟨⟨_, (mf_RiscHartModel_trap st1 1 (ms_place st1)).2, rfl, (by rw [hv10]; unfold mf_RiscHartModel_step_t10; rw [if_neg c_8, if_pos c_9]), by show va_P D hcl _ t.heap; rw [ht]; exact hP⟩, hS.F ht⟩) hS.2.2 dMod_step_45
  refine lv_aload_n hx hb dMod_step_0 rfl (lv_at hl 0 rfl) ?_
  refine lv_iconst (v := 0) hx hb dMod_step_1 (by decide) ?_
  refine va_put (D := D) (ci := 2) (v := .int 0) (ty := .int) (C := RMod) (T := TMod) (N := 14) hx hb hg inMod tyMod tyMod_ok nmMod hown hK hP (hD _) hS 0 rfl rfl 0 (by decide) (hg _ tw_557) (fun _ h9 => h9) rfl (by decide +kernel) rfl rfl (Nat.le_of_ble_eq_true rfl) dMod_step_2 (fun H locs hP _ hS => ?_)
  have hP : va_P D hcl (ms_W cB cO cX m0 m1 m2 m3 (ms_set_code st 0)) H := hP
  refine lv_aload_n hx hb dMod_step_5 rfl (lv_at hl 0 rfl) ?_
  refine lv_iconst (v := 0) hx hb dMod_step_6 (by decide) ?_
  obtain ⟨z_23, ez_23⟩ : ∃ z, z = (ms_set_code st 0) := ⟨_, rfl⟩
  rw [← ez_23] at hP
  refine va_put (D := D) (ci := 2) (v := .int 0) (ty := .int) (C := RMod) (T := TMod) (N := 14) hx hb hg inMod tyMod tyMod_ok nmMod hown hK hP (hD _) hS 0 rfl rfl 13 (by decide) (hg _ tw_570) (fun _ h9 => h9) rfl (by decide +kernel) rfl rfl (Nat.le_of_ble_eq_true rfl) dMod_step_7 (fun H locs hP _ hS => ?_)
  have hP : va_P D hcl (ms_W cB cO cX m0 m1 m2 m3 (ms_set_met z_23 0)) H := hP
  subst ez_23
  exact tail_10 ls (ms_set_met (ms_set_code st 0) 0) _ _  (by unfold mf_RiscHartModel_step; rfl) hP hS (lv_sub hl [0] rfl)
