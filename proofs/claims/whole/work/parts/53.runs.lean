theorem runH_go (k j : Nat) (z : HS) (c : (hf_RiscHart_carryOutNext z).1 = 0) : ((nI (j + (runH (k + 1) z).1), (runH (k + 1) z).2) : Int32 × HS) = (nI (j + 1 + (runH k (hf_RiscHart_carryOutNext z).2).1), (runH k (hf_RiscHart_carryOutNext z).2).2) := by
  unfold runH
  rw [if_pos c]
  show (nI (j + (_ + 1)), _) = _
  rw [Nat.add_comm _ 1, ← Nat.add_assoc]
  cases k <;> rfl
theorem runH_stop (k j : Nat) (z : HS) (c : ¬ (hf_RiscHart_carryOutNext z).1 = 0) : ((nI (j + (runH (k + 1) z).1), (runH (k + 1) z).2) : Int32 × HS) = (nI j, (hf_RiscHart_carryOutNext z).2) := by
  unfold runH
  rw [if_neg c]
  rfl
theorem runM_go (k j : Nat) (z : MS) (c : (mf_RiscHartModel_step z).1 = 0) : ((nI (j + (runM (k + 1) z).1), (runM (k + 1) z).2) : Int32 × MS) = (nI (j + 1 + (runM k (mf_RiscHartModel_step z).2).1), (runM k (mf_RiscHartModel_step z).2).2) := by
  unfold runM
  rw [if_pos c]
  show (nI (j + (_ + 1)), _) = _
  rw [Nat.add_comm _ 1, ← Nat.add_assoc]
  cases k <;> rfl
theorem runM_stop (k j : Nat) (z : MS) (c : ¬ (mf_RiscHartModel_step z).1 = 0) : ((nI (j + (runM (k + 1) z).1), (runM (k + 1) z).2) : Int32 × MS) = (nI j, (mf_RiscHartModel_step z).2) := by
  unfold runM
  rw [if_neg c]
  rfl
set_option maxHeartbeats 4000000 in
set_option maxRecDepth 100000 in
theorem hc_RiscHart_run (l : Launch) {D : va_G} {cR cW cP : ClassId} {h0 h1 h2 h3 h4 : Nat} {A : Nat → Prop} {st : HS} {G : Heap} (hP : va_P D hcl (hs_W cR cW cP h0 h1 h2 h3 h4 st) G) (hD : ∀ z, va_D A (hs_W cR cW cP h0 h1 h2 h3 h4 z)) (a1 : Int32) (hn1 : ¬ a1 < 0) (hn2 : a1 ≤ 2000) : Met l yHart_run (wq yHart_run cHart_run 3 (some .int)) ({ frames := 6, cells := 0, slots := 0, locals := 140 }) (mk_PK D hcl [(cR, .int), (cW, .int), (cP, .int)] G [.ref h0, .int a1]) (mk_Wi (fun u t => va_P D hcl (hs_W cR cW cP h0 h1 h2 h3 h4 u) t) A (hf_run st a1)) 0 0 A := by
  obtain ⟨N, hN, rfl⟩ := lt_of (n := 2001) (by omega) hn1 (Int32.lt_of_le_of_lt hn2 (by decide))
  refine Met.ofW (cc := cHart_run) (maxL := 3) (ret := (some .int)) (by decide) rfl ?_
  intro p e s m args below meth c s₁ B hml hv
  obtain ⟨rfl, hG, hK⟩ := hv
  subst hG
  have hx := B.exec
  have hb := B.bytes
  have hr := B.returns
  have hts := atoms_spec (ws := (wq yHart_run cHart_run 3 (some .int))) B.pre
  have hown : s.vm.findClass RHart = some m.cls := findClass_of_methodNamed B.named
  have hlocks := B.notSynchronized
  have hg : ∀ w ∈ lw_g, w.before _ s = true := fun w h => hts w (List.mem_cons_of_mem _ h)
  have hS : va_S A s.heap s.heap [] := va_S.rf
  have hl := lv_entry ([.ref h0, .int (nI N)]) (n := 3) (Nat.le_of_ble_eq_true rfl)
  rw [lg_entry_eq]
  generalize (lg_sl ([.ref h0, .int (nI N)]) ++ List.replicate (3 - (lg_sl ([.ref h0, .int (nI N)])).length) Slot.unset).toArray = ls at hl ⊢
  have hl : lv_has ls 3 [(0, .ref h0), (1, .int (nI N))] := hl
  have loop : ∀ (k j : Nat) (z : HS) (H : Heap) (locs : List Loc) (ls : Array Slot), j + k = N → hf_run st (nI N) = (nI (j + (runH k z).1), (runH k z).2) → va_P D hcl (hs_W cR cW cP h0 h1 h2 h3 h4 z) H → va_S A s.heap H locs → lv_has ls 3 [(2, .int (nI j)), (0, .ref h0), (1, .int (nI N))] → W p l e (headSpec (wq yHart_run cHart_run 3 (some .int)) ({ frames := 6, cells := 0, slots := 0, locals := 140 })).room s m ([.ref h0, .int (nI N)] : List Value).toArray below meth c H locs 0 0 (MQ below (mk_Wi (fun u t => va_P D hcl (hs_W cR cW cP h0 h1 h2 h3 h4 u) t) A (hf_run st (nI N))) ([.ref h0, .int (nI N)] : List Value).toArray s 0 0 A) (F0 m 23 ls []) := by
    clear hP hS hl
    intro k
    induction k with
    | zero =>
      intro j z H locs ls hj hf hP hS hl
      refine lv_iload_n hx hb dHart_run_23 rfl (lv_at hl 0 rfl) ?_
      refine lv_iload_n hx hb dHart_run_24 rfl (lv_at hl 2 rfl) ?_
      refine lv_icmp_ge (tgt := 43) hx hb dHart_run_25 (by decide) (fun c_1 => ?_) (fun c_1 => ?_)
      · refine lv_iload_n hx hb dHart_run_43 rfl (lv_at hl 2 rfl) ?_
        exact W.iret hx hb hr (fun t ht hW => ⟨⟨_, z, rfl, (by rw [hf]; show (nI N, z) = (nI (j + 0), z); rw [hj]), by show va_P D hcl _ t.heap; rw [ht]; exact hP⟩, hS.F ht⟩) hS.2.2 dHart_run_44
      · exact absurd (nI_le (by omega) (by omega)) c_1
    | succ k ih =>
      intro j z H locs ls hj hf hP hS hl
      refine lv_iload_n hx hb dHart_run_23 rfl (lv_at hl 0 rfl) ?_
      refine lv_iload_n hx hb dHart_run_24 rfl (lv_at hl 2 rfl) ?_
      refine lv_icmp_ge (tgt := 43) hx hb dHart_run_25 (by decide) (fun c_1 => ?_) (fun c_1 => ?_)
      · exact absurd c_1 (nI_ge (by omega) (by omega))
      · refine lv_aload_n hx hb dHart_run_28 rfl (lv_at hl 1 rfl) ?_
        refine mk_callW (va_runV (As := []) (rest := []) ⟨hx, hb, hml, hown, hts⟩ (hc_RiscHart_carryOutNext l hP hD) (cwV 0 hts (mk_gV tw_120 tw_122 tw_0 tw_46 tw_123) rfl rfl rfl hdHart_carryOutNext ⟨Nat.le_of_ble_eq_true rfl, Nat.le_of_ble_eq_true rfl⟩) (mk_preVK hK (va_recv hK hP (ci := 0) (q0 := 0) rfl rfl)) rfl rfl hl.1 rfl (lv_room (Nat.le_of_ble_eq_true rfl)) dHart_run_29 ⟨Nat.zero_le _, Nat.zero_le _⟩) hS (fun H locs hP hS => ?_)
        refine lv_if_eq (tgt := 37) hx hb dHart_run_32 (by decide) (fun c_2 => ?_) (fun c_2 => ?_)
        · refine lv_iinc (v := nI (j + 1)) (lv' := [(2, .int (nI (j + 1))), (0, .ref h0), (1, .int (nI N))]) hx hb dHart_run_37 hl (k := 0) rfl (by rw [nI_succ]; rfl) (by decide) rfl (fun ls hl => ?_)
          refine lv_goto (tgt := 23) hx hb dHart_run_40 (by decide) ?_
          exact ih (j + 1) _ _ _ _ (by omega) (hf.trans (runH_go k j z c_2)) hP hS hl
        · refine lv_iload_n hx hb dHart_run_35 rfl (lv_at hl 0 rfl) ?_
          exact W.iret hx hb hr (fun t ht hW => ⟨⟨_, (hf_RiscHart_carryOutNext z).2, rfl, (hf.trans (runH_stop k j z c_2)).symm, by show va_P D hcl _ t.heap; rw [ht]; exact hP⟩, hS.F ht⟩) hS.2.2 dHart_run_36
  refine lv_iload_n hx hb dHart_run_0 rfl (lv_at hl 1 rfl) ?_
  refine lv_if_lt (tgt := 11) hx hb dHart_run_1 (by decide) (fun c_1 => absurd c_1 hn1) (fun c_1 => ?_)
  refine lv_iload_n hx hb dHart_run_4 rfl (lv_at hl 1 rfl) ?_
  refine lv_sipush (v := 2000) hx hb dHart_run_5 (by decide) ?_
  refine lv_icmp_le (tgt := 21) hx hb dHart_run_8 (by decide) (fun c_2 => ?_) (fun c_2 => absurd hn2 c_2)
  refine lv_iconst (v := 0) hx hb dHart_run_21 (by decide) ?_
  refine lv_istore_n (lv' := [(2, .int 0), (0, .ref h0), (1, .int (nI N))]) hx hb dHart_run_22 rfl hl (by decide) rfl (fun ls hl => ?_)
  exact loop N 0 st s.heap [] ls (by omega) (by unfold hf_run; rw [nI_clamp (by omega), Nat.zero_add]) hP hS hl
set_option maxHeartbeats 4000000 in
set_option maxRecDepth 100000 in
theorem mc_RiscHartModel_run (l : Launch) {D : va_G} {cB cO cX : ClassId} {m0 m1 m2 m3 : Nat} {A : Nat → Prop} {st : MS} {G : Heap} (hP : va_P D hcl (ms_W cB cO cX m0 m1 m2 m3 st) G) (hD : ∀ z, va_D A (ms_W cB cO cX m0 m1 m2 m3 z)) (a1 : Int32)  : Met l yMod_run (wq yMod_run cMod_run 3 (some .int)) ({ frames := 6, cells := 0, slots := 0, locals := 145 }) (mk_PK D hcl [(cB, .int), (cO, .int), (cX, .int)] G [.ref m0, .int a1]) (mk_Wi (fun u t => va_P D hcl (ms_W cB cO cX m0 m1 m2 m3 u) t) A (mf_run st a1)) 0 0 A := by
  refine Met.ofW (cc := cMod_run) (maxL := 3) (ret := (some .int)) (by decide) rfl ?_
  intro p e s m args below meth c s₁ B hml hv
  obtain ⟨rfl, hG, hK⟩ := hv
  subst hG
  have hx := B.exec
  have hb := B.bytes
  have hr := B.returns
  have hts := atoms_spec (ws := (wq yMod_run cMod_run 3 (some .int))) B.pre
  have hown : s.vm.findClass RMod = some m.cls := findClass_of_methodNamed B.named
  have hlocks := B.notSynchronized
  have hg : ∀ w ∈ lw_g, w.before _ s = true := fun w h => hts w (List.mem_cons_of_mem _ h)
  have hS : va_S A s.heap s.heap [] := va_S.rf
  have hl := lv_entry ([.ref m0, .int a1]) (n := 3) (Nat.le_of_ble_eq_true rfl)
  rw [lg_entry_eq]
  generalize (lg_sl ([.ref m0, .int a1]) ++ List.replicate (3 - (lg_sl ([.ref m0, .int a1])).length) Slot.unset).toArray = ls at hl ⊢
  have hl : lv_has ls 3 [(0, .ref m0), (1, .int a1)] := hl
  refine lv_aload_n hx hb dMod_run_0 rfl (lv_at hl 0 rfl) ?_
  refine lv_iload_n hx hb dMod_run_1 rfl (lv_at hl 1 rfl) ?_
  refine lv_iconst (v := 0) hx hb dMod_run_2 (by decide) ?_
  refine lv_sipush (v := 2000) hx hb dMod_run_3 (by decide) ?_
  refine mk_callR (va_runS (As := [.int a1, .int 0, .int 2000]) (rest := [.ref m0]) ⟨hx, hb, hml, hown, hts⟩ (mc_RiscHartModel_in l _ a1 0 2000) (va_cwS 3 hts (mk_gS tw_609 tw_610 tw_48 tw_611) rfl rfl rfl hdMod_in.2 ⟨Nat.le_of_ble_eq_true rfl, Nat.le_of_ble_eq_true rfl⟩) mk_preS rfl rfl hl.1 rfl (lv_room (Nat.le_of_ble_eq_true rfl)) dMod_run_6 ⟨Nat.zero_le _, Nat.zero_le _⟩) ?_
  refine lv_if_eq (tgt := 16) hx hb dMod_run_9 (by decide) (fun c_1 => ?_) (fun c_1 => ?_)
  · refine lv_iconst (v := 1) hx hb dMod_run_16 (by decide) ?_
    refine va_put (D := D) (ci := 2) (v := .int 1) (ty := .int) (C := RMod) (T := TMod) (N := 14) hx hb hg inMod tyMod tyMod_ok nmMod hown hK hP (hD _) hS 0 rfl rfl 0 (by decide) (hg _ tw_557) (fun _ h9 => h9) rfl (by decide +kernel) rfl rfl (Nat.le_of_ble_eq_true rfl) dMod_run_17 (fun H locs hP _ hS => ?_)
    have hP : va_P D hcl (ms_W cB cO cX m0 m1 m2 m3 (ms_set_code st 1)) H := hP
    refine lv_aload_n hx hb dMod_run_20 rfl (lv_at hl 0 rfl) ?_
    refine va_get (D := D) (ci := 2) (v := .int 1) (C := RMod) (T := TMod) (N := 14) hx hb hg inMod hown hK hP 0 rfl rfl 0 (by decide) (hg _ tw_557) (fun _ h9 => h9) rfl dMod_run_21 ?_
    refine lv_if_le (tgt := 29) hx hb dMod_run_24 (by decide) (fun c_2 => ?_) (fun c_2 => ?_)
    · exact absurd c_2 (by decide)
    · refine lv_iconst (v := 0) hx hb dMod_run_27 (by decide) ?_
      exact W.iret hx hb hr (fun t ht hW => ⟨⟨_, (ms_set_code st 1), rfl, (by unfold mf_run; rw [if_pos c_1]), by show va_P D hcl _ t.heap; rw [ht]; exact hP⟩, hS.F ht⟩) hS.2.2 dMod_run_28
  · refine lv_iconst (v := 0) hx hb dMod_run_12 (by decide) ?_
    refine lv_goto (tgt := 17) hx hb dMod_run_13 (by decide) ?_
    refine va_put (D := D) (ci := 2) (v := .int 0) (ty := .int) (C := RMod) (T := TMod) (N := 14) hx hb hg inMod tyMod tyMod_ok nmMod hown hK hP (hD _) hS 0 rfl rfl 0 (by decide) (hg _ tw_557) (fun _ h9 => h9) rfl (by decide +kernel) rfl rfl (Nat.le_of_ble_eq_true rfl) dMod_run_17 (fun H locs hP _ hS => ?_)
    have hP : va_P D hcl (ms_W cB cO cX m0 m1 m2 m3 (ms_set_code st 0)) H := hP
    refine lv_aload_n hx hb dMod_run_20 rfl (lv_at hl 0 rfl) ?_
    refine va_get (D := D) (ci := 2) (v := .int 0) (C := RMod) (T := TMod) (N := 14) hx hb hg inMod hown hK hP 0 rfl rfl 0 (by decide) (hg _ tw_557) (fun _ h9 => h9) rfl dMod_run_21 ?_
    refine lv_if_le (tgt := 29) hx hb dMod_run_24 (by decide) (fun c_3 => ?_) (fun c_3 => ?_)
    · refine lv_iconst (v := 0) hx hb dMod_run_29 (by decide) ?_
      refine lv_istore_n (lv' := [(2, .int 0), (0, .ref m0), (1, .int a1)]) hx hb dMod_run_30 rfl hl (by decide) rfl (fun ls hl => ?_)
      obtain ⟨N, hN, rfl⟩ := (in_iff (n := 2000) (by omega)).mp c_1
      have loop : ∀ (k j : Nat) (z : MS) (H : Heap) (locs : List Loc) (ls : Array Slot), j + k = N → mf_run st (nI N) = (nI (j + (runM k z).1), (runM k z).2) → va_P D hcl (ms_W cB cO cX m0 m1 m2 m3 z) H → va_S A s.heap H locs → lv_has ls 3 [(2, .int (nI j)), (0, .ref m0), (1, .int (nI N))] → W p l e (headSpec (wq yMod_run cMod_run 3 (some .int)) ({ frames := 6, cells := 0, slots := 0, locals := 145 })).room s m ([.ref m0, .int (nI N)] : List Value).toArray below meth c H locs 0 0 (MQ below (mk_Wi (fun u t => va_P D hcl (ms_W cB cO cX m0 m1 m2 m3 u) t) A (mf_run st (nI N))) ([.ref m0, .int (nI N)] : List Value).toArray s 0 0 A) (F0 m 31 ls []) := by
        clear hP hS hl
        intro k
        induction k with
        | zero =>
          intro j z H locs ls hj hf hP hS hl
          refine lv_iload_n hx hb dMod_run_31 rfl (lv_at hl 0 rfl) ?_
          refine lv_iload_n hx hb dMod_run_32 rfl (lv_at hl 2 rfl) ?_
          refine lv_icmp_ge (tgt := 49) hx hb dMod_run_33 (by decide) (fun c_1 => ?_) (fun c_1 => ?_)
          · refine lv_iload_n hx hb dMod_run_49 rfl (lv_at hl 0 rfl) ?_
            exact W.iret hx hb hr (fun t ht hW => ⟨⟨_, z, rfl, (by rw [hf]; show (nI j, z) = (nI (j + 0), z); rw [Nat.add_zero]), by show va_P D hcl _ t.heap; rw [ht]; exact hP⟩, hS.F ht⟩) hS.2.2 dMod_run_50
          · exact absurd (nI_le (by omega) (by omega)) c_1
        | succ k ih =>
          intro j z H locs ls hj hf hP hS hl
          refine lv_iload_n hx hb dMod_run_31 rfl (lv_at hl 0 rfl) ?_
          refine lv_iload_n hx hb dMod_run_32 rfl (lv_at hl 2 rfl) ?_
          refine lv_icmp_ge (tgt := 49) hx hb dMod_run_33 (by decide) (fun c_1 => ?_) (fun c_1 => ?_)
          · exact absurd c_1 (nI_ge (by omega) (by omega))
          · refine lv_aload_n hx hb dMod_run_36 rfl (lv_at hl 1 rfl) ?_
            refine mk_callW (va_runV (As := []) (rest := []) ⟨hx, hb, hml, hown, hts⟩ (mc_RiscHartModel_step l hP hD) (cwV 0 hts (mk_gV tw_755 tw_646 tw_647 tw_48 tw_648) rfl rfl rfl hdMod_step ⟨Nat.le_of_ble_eq_true rfl, Nat.le_of_ble_eq_true rfl⟩) (mk_preVK hK (va_recv hK hP (ci := 2) (q0 := 0) rfl rfl)) rfl rfl hl.1 rfl (lv_room (Nat.le_of_ble_eq_true rfl)) dMod_run_37 ⟨Nat.zero_le _, Nat.zero_le _⟩) hS (fun H locs hP hS => ?_)
            refine lv_if_ne (tgt := 49) hx hb dMod_run_40 (by decide) (fun c_2 => ?_) (fun c_2 => ?_)
            · refine lv_iload_n hx hb dMod_run_49 rfl (lv_at hl 0 rfl) ?_
              exact W.iret hx hb hr (fun t ht hW => ⟨⟨_, (mf_RiscHartModel_step z).2, rfl, (hf.trans (runM_stop k j z c_2)).symm, by show va_P D hcl _ t.heap; rw [ht]; exact hP⟩, hS.F ht⟩) hS.2.2 dMod_run_50
            · refine lv_iinc (v := nI (j + 1)) (lv' := [(2, .int (nI (j + 1))), (0, .ref m0), (1, .int (nI N))]) hx hb dMod_run_43 hl (k := 0) rfl (by rw [nI_succ]; rfl) (by decide) rfl (fun ls hl => ?_)
              refine lv_goto (tgt := 31) hx hb dMod_run_46 (by decide) ?_
              exact ih (j + 1) _ _ _ _ (by omega) (hf.trans (runM_go k j z c_2)) hP hS hl
      exact loop N 0 (ms_set_code st 0) _ _ ls (by omega) (by unfold mf_run; rw [if_neg c_1, nI_clamp (by omega), Nat.zero_add]) hP hS hl
    · exact absurd c_3 (by decide)
