theorem in_lo2 {a : Int32} {n : Nat} (hn : n < 2 ^ 31) (h1 : ¬ a < 0) (h2 : a < nI n) : vp_in a n := by
  obtain ⟨j, hj, rfl⟩ := lt_of hn h1 h2
  exact nI_in hj hn
def hf_RiscHart_poke (st : HS) (a1 : Int32) (a2 : Int32) : HS :=
  (hf_Memory_write st 0 a1 a2)
def hf_RiscHart_plant (st : HS) (a1 : Int32) (a2 : Int32) : HS :=
  (hf_Memory_write st 2 a1 a2)
def hf_RiscHart_peek (st : HS) (a1 : Int32) : Int32 :=
  (hf_Memory_read st 4 a1)
def hf_RiscHart_rights (st : HS) (a1 : Int32) (a2 : Int32) : Int32 × HS :=
  (hf_Memory_exchangeRights st a1 a2)
def hf_RiscHart_set (st : HS) (a1 : Int32) (a2 : Int32) : Int32 × HS :=
  if a1 = 0 then
    (0, (hf_RiscHart_give st a1 a2).2)
  else
    (1, (hf_RiscHart_give st a1 a2).2)
def hf_RiscHart_register (st : HS) (a1 : Int32) : Int32 :=
  (hs_regs st (a1).toNatClampNeg)
def hf_RiscHart_count (st : HS) (a1 : Int32) : Int64 :=
  if a1 = 0 then
    (hs_place st).toInt64
  else
    if a1 = 1 then
      (hs_cause st).toInt64
    else
      if a1 = 2 then
        (hs_value st).toInt64
      else
        if a1 = 3 then
          (hs_retired st)
        else
          if a1 = 4 then
            (hf_Memory_reservedAddress st).toInt64
          else
            0
theorem set_0 {z : HS} {a v : Int32} (h : (hf_RiscHart_set z a v).1 = 0) : a = 0 := by
  unfold hf_RiscHart_set at h
  by_cases c : a = 0
  · exact c
  · rw [if_neg c] at h; exact absurd (show (1 : Int32) = 0 from h) (by decide)
theorem set_1 {z : HS} {a v : Int32} (h : ¬ (hf_RiscHart_set z a v).1 = 0) : ¬ a = 0 := fun c => h (by unfold hf_RiscHart_set; rw [if_pos c])
theorem set_s {z : HS} {a v : Int32} : (hf_RiscHart_set z a v).2 = (hf_RiscHart_give z a v).2 := by
  unfold hf_RiscHart_set
  by_cases c : a = 0
  · rw [if_pos c]
  · rw [if_neg c]
theorem count_f {z : HS} {k : Int32} (h : five k) : hf_RiscHart_count z k = hf_count z k := by
  unfold hf_RiscHart_count hf_count
  rcases h with rfl | rfl | rfl | rfl | rfl <;> rfl
set_option maxHeartbeats 4000000 in
set_option maxRecDepth 100000 in
theorem hc_RiscHart_poke (l : Launch) {D : va_G} {cR cW cP : ClassId} {h0 h1 h2 h3 h4 : Nat} {A : Nat → Prop} {st : HS} {G : Heap} (hP : va_P D hcl (hs_W cR cW cP h0 h1 h2 h3 h4 st) G) (hD : ∀ z, va_D A (hs_W cR cW cP h0 h1 h2 h3 h4 z)) (a1 : Int32) (a2 : Int32) (hn1 : ¬ (hf_Memory_holds a1) = 0) : Met l yHart_poke (wq yHart_poke cHart_poke 3 none) ({ frames := 2, cells := 0, slots := 0, locals := 45 }) (mk_PK D hcl [(cR, .int), (cW, .int), (cP, .int)] G [.ref h0, .int a1, .int a2]) (mk_Wv (fun u t => va_P D hcl (hs_W cR cW cP h0 h1 h2 h3 h4 u) t) A (hf_RiscHart_poke st a1 a2)) 0 0 A := by
  refine Met.ofW (cc := cHart_poke) (maxL := 3) (ret := none) (by decide) rfl ?_
  intro p e s m args below meth c s₁ B hml hv
  obtain ⟨rfl, hG, hK⟩ := hv
  subst hG
  have hx := B.exec
  have hb := B.bytes
  have hr := B.returns
  have hts := atoms_spec (ws := (wq yHart_poke cHart_poke 3 none)) B.pre
  have hown : s.vm.findClass RHart = some m.cls := findClass_of_methodNamed B.named
  have hlocks := B.notSynchronized
  have hg : ∀ w ∈ lw_g, w.before _ s = true := fun w h => hts w (List.mem_cons_of_mem _ h)
  have hS : va_S A s.heap s.heap [] := va_S.rf
  have hl := lv_entry ([.ref h0, .int a1, .int a2]) (n := 3) (Nat.le_of_ble_eq_true rfl)
  rw [lg_entry_eq]
  generalize (lg_sl ([.ref h0, .int a1, .int a2]) ++ List.replicate (3 - (lg_sl ([.ref h0, .int a1, .int a2])).length) Slot.unset).toArray = ls at hl ⊢
  have hl : lv_has ls 3 [(0, .ref h0), (1, .int a1), (2, .int a2)] := hl
  refine lv_iload_n hx hb dHart_poke_0 rfl (lv_at hl 1 rfl) ?_
  refine mk_callR (va_runS (As := [.int a1]) (rest := []) ⟨hx, hb, hml, hown, hts⟩ (hc_Memory_holds l _ a1) (va_cwS 1 hts (mk_gS tw_407 tw_136 tw_47 tw_137) rfl rfl rfl hdMem_holds.2 ⟨Nat.le_of_ble_eq_true rfl, Nat.le_of_ble_eq_true rfl⟩) mk_preS rfl rfl hl.1 rfl (lv_room (Nat.le_of_ble_eq_true rfl)) dHart_poke_1 ⟨Nat.zero_le _, Nat.zero_le _⟩) ?_
  refine lv_if_ne (tgt := 17) hx hb dHart_poke_4 (by decide) (fun c_1 => ?_) (fun c_1 => ?_)
  · refine lv_aload_n hx hb dHart_poke_17 rfl (lv_at hl 0 rfl) ?_
    refine va_get (D := D) (ci := 0) (v := .ref h1) (C := RHart) (T := THart) (N := 8) hx hb hg inHart hown hK hP 0 rfl rfl 0 (by decide) (hg _ tw_83) (fun _ h9 => h9) rfl dHart_poke_18 ?_
    refine lv_iconst (v := 0) hx hb dHart_poke_21 (by decide) ?_
    refine lv_iload_n hx hb dHart_poke_22 rfl (lv_at hl 1 rfl) ?_
    refine lv_iload_n hx hb dHart_poke_23 rfl (lv_at hl 2 rfl) ?_
    refine mk_callWv (va_runV (As := [.int 0, .int a1, .int a2]) (rest := []) ⟨hx, hb, hml, hown, hts⟩ (hc_Memory_write l hP hD 0 a1 a2) (cwV 3 hts (mk_gV tw_240 tw_241 tw_242 tw_47 tw_243) rfl rfl rfl hdMem_write ⟨Nat.le_of_ble_eq_true rfl, Nat.le_of_ble_eq_true rfl⟩) (mk_preVK hK (va_recv hK hP (ci := 1) (q0 := 1) rfl rfl)) rfl rfl hl.1 rfl (lv_room (Nat.le_of_ble_eq_true rfl)) dHart_poke_24 ⟨Nat.zero_le _, Nat.zero_le _⟩) hS (fun H locs hP hS => ?_)
    exact W.vret hx hb hr (fun t ht hW => ⟨⟨(hf_Memory_write st 0 a1 a2), rfl, rfl, by show va_P D hcl _ t.heap; rw [ht]; exact hP⟩, hS.F ht⟩) hS.2.2 dHart_poke_27
  · exact absurd c_1 hn1
set_option maxHeartbeats 4000000 in
set_option maxRecDepth 100000 in
theorem hc_RiscHart_plant (l : Launch) {D : va_G} {cR cW cP : ClassId} {h0 h1 h2 h3 h4 : Nat} {A : Nat → Prop} {st : HS} {G : Heap} (hP : va_P D hcl (hs_W cR cW cP h0 h1 h2 h3 h4 st) G) (hD : ∀ z, va_D A (hs_W cR cW cP h0 h1 h2 h3 h4 z)) (a1 : Int32) (a2 : Int32) (hn1 : ¬ (hf_Memory_holds a1) = 0) (hn2 : (hf_Memory_isMisaligned 2 a1) = 0) : Met l yHart_plant (wq yHart_plant cHart_plant 3 none) ({ frames := 2, cells := 0, slots := 0, locals := 45 }) (mk_PK D hcl [(cR, .int), (cW, .int), (cP, .int)] G [.ref h0, .int a1, .int a2]) (mk_Wv (fun u t => va_P D hcl (hs_W cR cW cP h0 h1 h2 h3 h4 u) t) A (hf_RiscHart_plant st a1 a2)) 0 0 A := by
  refine Met.ofW (cc := cHart_plant) (maxL := 3) (ret := none) (by decide) rfl ?_
  intro p e s m args below meth c s₁ B hml hv
  obtain ⟨rfl, hG, hK⟩ := hv
  subst hG
  have hx := B.exec
  have hb := B.bytes
  have hr := B.returns
  have hts := atoms_spec (ws := (wq yHart_plant cHart_plant 3 none)) B.pre
  have hown : s.vm.findClass RHart = some m.cls := findClass_of_methodNamed B.named
  have hlocks := B.notSynchronized
  have hg : ∀ w ∈ lw_g, w.before _ s = true := fun w h => hts w (List.mem_cons_of_mem _ h)
  have hS : va_S A s.heap s.heap [] := va_S.rf
  have hl := lv_entry ([.ref h0, .int a1, .int a2]) (n := 3) (Nat.le_of_ble_eq_true rfl)
  rw [lg_entry_eq]
  generalize (lg_sl ([.ref h0, .int a1, .int a2]) ++ List.replicate (3 - (lg_sl ([.ref h0, .int a1, .int a2])).length) Slot.unset).toArray = ls at hl ⊢
  have hl : lv_has ls 3 [(0, .ref h0), (1, .int a1), (2, .int a2)] := hl
  refine lv_iload_n hx hb dHart_plant_0 rfl (lv_at hl 1 rfl) ?_
  refine mk_callR (va_runS (As := [.int a1]) (rest := []) ⟨hx, hb, hml, hown, hts⟩ (hc_Memory_holds l _ a1) (va_cwS 1 hts (mk_gS tw_407 tw_136 tw_47 tw_137) rfl rfl rfl hdMem_holds.2 ⟨Nat.le_of_ble_eq_true rfl, Nat.le_of_ble_eq_true rfl⟩) mk_preS rfl rfl hl.1 rfl (lv_room (Nat.le_of_ble_eq_true rfl)) dHart_plant_1 ⟨Nat.zero_le _, Nat.zero_le _⟩) ?_
  refine lv_if_eq (tgt := 15) hx hb dHart_plant_4 (by decide) (fun c_1 => ?_) (fun c_1 => ?_)
  · exact absurd c_1 hn1
  · refine lv_iconst (v := 2) hx hb dHart_plant_7 (by decide) ?_
    refine lv_iload_n hx hb dHart_plant_8 rfl (lv_at hl 1 rfl) ?_
    refine mk_callR (va_runS (As := [.int 2, .int a1]) (rest := []) ⟨hx, hb, hml, hown, hts⟩ (hc_Memory_isMisaligned l _ 2 a1) (va_cwS 2 hts (mk_gS tw_223 tw_129 tw_47 tw_130) rfl rfl rfl hdMem_isMisaligned.2 ⟨Nat.le_of_ble_eq_true rfl, Nat.le_of_ble_eq_true rfl⟩) mk_preS rfl rfl hl.1 rfl (lv_room (Nat.le_of_ble_eq_true rfl)) dHart_plant_9 ⟨Nat.zero_le _, Nat.zero_le _⟩) ?_
    refine lv_if_eq (tgt := 25) hx hb dHart_plant_12 (by decide) (fun c_2 => ?_) (fun c_2 => ?_)
    · refine lv_aload_n hx hb dHart_plant_25 rfl (lv_at hl 0 rfl) ?_
      refine va_get (D := D) (ci := 0) (v := .ref h1) (C := RHart) (T := THart) (N := 8) hx hb hg inHart hown hK hP 0 rfl rfl 0 (by decide) (hg _ tw_83) (fun _ h9 => h9) rfl dHart_plant_26 ?_
      refine lv_iconst (v := 2) hx hb dHart_plant_29 (by decide) ?_
      refine lv_iload_n hx hb dHart_plant_30 rfl (lv_at hl 1 rfl) ?_
      refine lv_iload_n hx hb dHart_plant_31 rfl (lv_at hl 2 rfl) ?_
      refine mk_callWv (va_runV (As := [.int 2, .int a1, .int a2]) (rest := []) ⟨hx, hb, hml, hown, hts⟩ (hc_Memory_write l hP hD 2 a1 a2) (cwV 3 hts (mk_gV tw_240 tw_241 tw_242 tw_47 tw_243) rfl rfl rfl hdMem_write ⟨Nat.le_of_ble_eq_true rfl, Nat.le_of_ble_eq_true rfl⟩) (mk_preVK hK (va_recv hK hP (ci := 1) (q0 := 1) rfl rfl)) rfl rfl hl.1 rfl (lv_room (Nat.le_of_ble_eq_true rfl)) dHart_plant_32 ⟨Nat.zero_le _, Nat.zero_le _⟩) hS (fun H locs hP hS => ?_)
      exact W.vret hx hb hr (fun t ht hW => ⟨⟨(hf_Memory_write st 2 a1 a2), rfl, rfl, by show va_P D hcl _ t.heap; rw [ht]; exact hP⟩, hS.F ht⟩) hS.2.2 dHart_plant_35
    · exact absurd hn2 c_2
set_option maxHeartbeats 4000000 in
set_option maxRecDepth 100000 in
theorem hc_RiscHart_peek (l : Launch) {D : va_G} {cR cW cP : ClassId} {h0 h1 h2 h3 h4 : Nat} {st : HS} {G : Heap} (hP : va_P D hcl (hs_W cR cW cP h0 h1 h2 h3 h4 st) G) (a1 : Int32) (hn1 : ¬ (hf_Memory_holds a1) = 0) : Met l yHart_peek (wq yHart_peek cHart_peek 2 (some .int)) ({ frames := 2, cells := 0, slots := 0, locals := 44 }) (mk_PK D hcl [(cR, .int), (cW, .int), (cP, .int)] G [.ref h0, .int a1]) (mk_Qi G (hf_RiscHart_peek st a1)) 0 0 (fun _ => False) := by
  refine Met.ofW (cc := cHart_peek) (maxL := 2) (ret := (some .int)) (by decide) rfl ?_
  intro p e s m args below meth c s₁ B hml hv
  obtain ⟨rfl, hG, hK⟩ := hv
  subst hG
  have hx := B.exec
  have hb := B.bytes
  have hr := B.returns
  have hts := atoms_spec (ws := (wq yHart_peek cHart_peek 2 (some .int))) B.pre
  have hown : s.vm.findClass RHart = some m.cls := findClass_of_methodNamed B.named
  have hlocks := B.notSynchronized
  have hg : ∀ w ∈ lw_g, w.before _ s = true := fun w h => hts w (List.mem_cons_of_mem _ h)
  have hl := lv_entry ([.ref h0, .int a1]) (n := 2) (Nat.le_of_ble_eq_true rfl)
  rw [lg_entry_eq]
  generalize (lg_sl ([.ref h0, .int a1]) ++ List.replicate (2 - (lg_sl ([.ref h0, .int a1])).length) Slot.unset).toArray = ls at hl ⊢
  have hl : lv_has ls 2 [(0, .ref h0), (1, .int a1)] := hl
  refine lv_iload_n hx hb dHart_peek_0 rfl (lv_at hl 1 rfl) ?_
  refine mk_callR (va_runS (As := [.int a1]) (rest := []) ⟨hx, hb, hml, hown, hts⟩ (hc_Memory_holds l s.heap a1) (va_cwS 1 hts (mk_gS tw_407 tw_136 tw_47 tw_137) rfl rfl rfl hdMem_holds.2 ⟨Nat.le_of_ble_eq_true rfl, Nat.le_of_ble_eq_true rfl⟩) mk_preS rfl rfl hl.1 rfl (lv_room (Nat.le_of_ble_eq_true rfl)) dHart_peek_1 ⟨Nat.zero_le _, Nat.zero_le _⟩) ?_
  refine lv_if_ne (tgt := 17) hx hb dHart_peek_4 (by decide) (fun c_1 => ?_) (fun c_1 => ?_)
  · refine lv_aload_n hx hb dHart_peek_17 rfl (lv_at hl 0 rfl) ?_
    refine va_get (D := D) (ci := 0) (v := .ref h1) (C := RHart) (T := THart) (N := 8) hx hb hg inHart hown hK hP 0 rfl rfl 0 (by decide) (hg _ tw_83) (fun _ h9 => h9) rfl dHart_peek_18 ?_
    refine lv_iconst (v := 4) hx hb dHart_peek_21 (by decide) ?_
    refine lv_iload_n hx hb dHart_peek_22 rfl (lv_at hl 1 rfl) ?_
    refine mk_callR (va_runV (As := [.int 4, .int a1]) (rest := []) ⟨hx, hb, hml, hown, hts⟩ (hc_Memory_read l hP 4 a1) (cwV 2 hts (mk_gV tw_143 tw_144 tw_145 tw_47 tw_146) rfl rfl rfl hdMem_read ⟨Nat.le_of_ble_eq_true rfl, Nat.le_of_ble_eq_true rfl⟩) (mk_preVK hK (va_recv hK hP (ci := 1) (q0 := 1) rfl rfl)) rfl rfl hl.1 rfl (lv_room (Nat.le_of_ble_eq_true rfl)) dHart_peek_23 ⟨Nat.zero_le _, Nat.zero_le _⟩) ?_
    exact W.iret hx hb hr (fun t ht hW => ⟨⟨_, (), rfl, rfl, ht⟩, mk_F ht⟩) (fun q h => nomatch h) dHart_peek_26
  · exact absurd c_1 hn1
set_option maxHeartbeats 4000000 in
set_option maxRecDepth 100000 in
theorem hc_RiscHart_rights (l : Launch) {D : va_G} {cR cW cP : ClassId} {h0 h1 h2 h3 h4 : Nat} {A : Nat → Prop} {st : HS} {G : Heap} (hP : va_P D hcl (hs_W cR cW cP h0 h1 h2 h3 h4 st) G) (hD : ∀ z, va_D A (hs_W cR cW cP h0 h1 h2 h3 h4 z)) (a1 : Int32) (a2 : Int32) (hn1 : ¬ a1 < 0) (hn2 : a1 < 64) (hn3 : ¬ a2 < 0) (hn4 : a2 ≤ 7) : Met l yHart_rights (wq yHart_rights cHart_rights 3 (some .int)) ({ frames := 1, cells := 0, slots := 0, locals := 23 }) (mk_PK D hcl [(cR, .int), (cW, .int), (cP, .int)] G [.ref h0, .int a1, .int a2]) (mk_Wi (fun u t => va_P D hcl (hs_W cR cW cP h0 h1 h2 h3 h4 u) t) A (hf_RiscHart_rights st a1 a2)) 0 0 A := by
  refine Met.ofW (cc := cHart_rights) (maxL := 3) (ret := (some .int)) (by decide) rfl ?_
  intro p e s m args below meth c s₁ B hml hv
  obtain ⟨rfl, hG, hK⟩ := hv
  subst hG
  have hx := B.exec
  have hb := B.bytes
  have hr := B.returns
  have hts := atoms_spec (ws := (wq yHart_rights cHart_rights 3 (some .int))) B.pre
  have hown : s.vm.findClass RHart = some m.cls := findClass_of_methodNamed B.named
  have hlocks := B.notSynchronized
  have hg : ∀ w ∈ lw_g, w.before _ s = true := fun w h => hts w (List.mem_cons_of_mem _ h)
  have hS : va_S A s.heap s.heap [] := va_S.rf
  have hl := lv_entry ([.ref h0, .int a1, .int a2]) (n := 3) (Nat.le_of_ble_eq_true rfl)
  rw [lg_entry_eq]
  generalize (lg_sl ([.ref h0, .int a1, .int a2]) ++ List.replicate (3 - (lg_sl ([.ref h0, .int a1, .int a2])).length) Slot.unset).toArray = ls at hl ⊢
  have hl : lv_has ls 3 [(0, .ref h0), (1, .int a1), (2, .int a2)] := hl
  refine lv_iload_n hx hb dHart_rights_0 rfl (lv_at hl 1 rfl) ?_
  refine lv_if_lt (tgt := 10) hx hb dHart_rights_1 (by decide) (fun c_1 => ?_) (fun c_1 => ?_)
  · exact absurd c_1 hn1
  · refine lv_iload_n hx hb dHart_rights_4 rfl (lv_at hl 1 rfl) ?_
    refine lv_bipush (v := 64) hx hb dHart_rights_5 (by decide) ?_
    refine lv_icmp_lt (tgt := 20) hx hb dHart_rights_7 (by decide) (fun c_2 => ?_) (fun c_2 => ?_)
    · refine lv_iload_n hx hb dHart_rights_20 rfl (lv_at hl 2 rfl) ?_
      refine lv_if_lt (tgt := 30) hx hb dHart_rights_21 (by decide) (fun c_3 => ?_) (fun c_3 => ?_)
      · exact absurd c_3 hn3
      · refine lv_iload_n hx hb dHart_rights_24 rfl (lv_at hl 2 rfl) ?_
        refine lv_bipush (v := 7) hx hb dHart_rights_25 (by decide) ?_
        refine lv_icmp_le (tgt := 40) hx hb dHart_rights_27 (by decide) (fun c_4 => ?_) (fun c_4 => ?_)
        · refine lv_aload_n hx hb dHart_rights_40 rfl (lv_at hl 0 rfl) ?_
          refine va_get (D := D) (ci := 0) (v := .ref h1) (C := RHart) (T := THart) (N := 8) hx hb hg inHart hown hK hP 0 rfl rfl 0 (by decide) (hg _ tw_83) (fun _ h9 => h9) rfl dHart_rights_41 ?_
          refine lv_iload_n hx hb dHart_rights_44 rfl (lv_at hl 1 rfl) ?_
          refine lv_iload_n hx hb dHart_rights_45 rfl (lv_at hl 2 rfl) ?_
          refine mk_callW (va_runV (As := [.int a1, .int a2]) (rest := []) ⟨hx, hb, hml, hown, hts⟩ (hc_Memory_exchangeRights l hP hD a1 a2 (in_lo2 (n := 64) (by decide) hn1 hn2)) (cwV 2 hts (mk_gV tw_515 tw_516 tw_517 tw_47 tw_518) rfl rfl rfl hdMem_exchangeRights ⟨Nat.le_of_ble_eq_true rfl, Nat.le_of_ble_eq_true rfl⟩) (mk_preVK hK (va_recv hK hP (ci := 1) (q0 := 1) rfl rfl)) rfl rfl hl.1 rfl (lv_room (Nat.le_of_ble_eq_true rfl)) dHart_rights_46 ⟨Nat.zero_le _, Nat.zero_le _⟩) hS (fun H locs hP hS => ?_)
          exact W.iret hx hb hr (fun t ht hW => ⟨⟨_, (hf_Memory_exchangeRights st a1 a2).2, rfl, rfl, by show va_P D hcl _ t.heap; rw [ht]; exact hP⟩, hS.F ht⟩) hS.2.2 dHart_rights_49
        · exact absurd hn4 c_4
    · exact absurd hn2 c_2
set_option maxHeartbeats 4000000 in
set_option maxRecDepth 100000 in
theorem hc_RiscHart_set (l : Launch) {D : va_G} {cR cW cP : ClassId} {h0 h1 h2 h3 h4 : Nat} {A : Nat → Prop} {st : HS} {G : Heap} (hP : va_P D hcl (hs_W cR cW cP h0 h1 h2 h3 h4 st) G) (hD : ∀ z, va_D A (hs_W cR cW cP h0 h1 h2 h3 h4 z)) (a1 : Int32) (a2 : Int32) (hn1 : ¬ a1 < 0) (hn2 : a1 < 32) : Met l yHart_set (wq yHart_set cHart_set 3 (some .boolean)) ({ frames := 1, cells := 0, slots := 0, locals := 22 }) (mk_PK D hcl [(cR, .int), (cW, .int), (cP, .int)] G [.ref h0, .int a1, .int a2]) (mk_Wi (fun u t => va_P D hcl (hs_W cR cW cP h0 h1 h2 h3 h4 u) t) A (hf_RiscHart_set st a1 a2)) 0 0 A := by
  refine Met.ofW (cc := cHart_set) (maxL := 3) (ret := (some .boolean)) (by decide) rfl ?_
  intro p e s m args below meth c s₁ B hml hv
  obtain ⟨rfl, hG, hK⟩ := hv
  subst hG
  have hx := B.exec
  have hb := B.bytes
  have hr := B.returns
  have hts := atoms_spec (ws := (wq yHart_set cHart_set 3 (some .boolean))) B.pre
  have hown : s.vm.findClass RHart = some m.cls := findClass_of_methodNamed B.named
  have hlocks := B.notSynchronized
  have hg : ∀ w ∈ lw_g, w.before _ s = true := fun w h => hts w (List.mem_cons_of_mem _ h)
  have hS : va_S A s.heap s.heap [] := va_S.rf
  have hl := lv_entry ([.ref h0, .int a1, .int a2]) (n := 3) (Nat.le_of_ble_eq_true rfl)
  rw [lg_entry_eq]
  generalize (lg_sl ([.ref h0, .int a1, .int a2]) ++ List.replicate (3 - (lg_sl ([.ref h0, .int a1, .int a2])).length) Slot.unset).toArray = ls at hl ⊢
  have hl : lv_has ls 3 [(0, .ref h0), (1, .int a1), (2, .int a2)] := hl
  refine lv_iload_n hx hb dHart_set_0 rfl (lv_at hl 1 rfl) ?_
  refine lv_if_lt (tgt := 10) hx hb dHart_set_1 (by decide) (fun c_1 => ?_) (fun c_1 => ?_)
  · exact absurd c_1 hn1
  · refine lv_iload_n hx hb dHart_set_4 rfl (lv_at hl 1 rfl) ?_
    refine lv_bipush (v := 32) hx hb dHart_set_5 (by decide) ?_
    refine lv_icmp_lt (tgt := 20) hx hb dHart_set_7 (by decide) (fun c_2 => ?_) (fun c_2 => ?_)
    · refine lv_aload_n hx hb dHart_set_20 rfl (lv_at hl 0 rfl) ?_
      refine lv_iload_n hx hb dHart_set_21 rfl (lv_at hl 1 rfl) ?_
      refine lv_iload_n hx hb dHart_set_22 rfl (lv_at hl 2 rfl) ?_
      refine mk_callW (va_runV (As := [.int a1, .int a2]) (rest := []) ⟨hx, hb, hml, hown, hts⟩ (hc_RiscHart_give l hP hD a1 a2 (in_lo2 (n := 32) (by decide) hn1 hn2)) (cwV 2 hts (mk_gV tw_170 tw_172 tw_4 tw_46 tw_173) rfl rfl rfl hdHart_give ⟨Nat.le_of_ble_eq_true rfl, Nat.le_of_ble_eq_true rfl⟩) (mk_preVK hK (va_recv hK hP (ci := 0) (q0 := 0) rfl rfl)) rfl rfl hl.1 rfl (lv_room (Nat.le_of_ble_eq_true rfl)) dHart_set_23 ⟨Nat.zero_le _, Nat.zero_le _⟩) hS (fun H locs hP hS => ?_)
      refine lv_pop hx hb dHart_set_26 rfl ?_
      refine lv_iload_n hx hb dHart_set_27 rfl (lv_at hl 1 rfl) ?_
      refine lv_if_eq (tgt := 35) hx hb dHart_set_28 (by decide) (fun c_3 => ?_) (fun c_3 => ?_)
      · refine lv_iconst (v := 0) hx hb dHart_set_35 (by decide) ?_
        exact W.zret hx hb hr rfl (fun t ht hW => ⟨⟨_, (hf_RiscHart_give st a1 a2).2, rfl, (by unfold hf_RiscHart_set; rw [if_pos c_3]), by show va_P D hcl _ t.heap; rw [ht]; exact hP⟩, hS.F ht⟩) hS.2.2 dHart_set_36
      · refine lv_iconst (v := 1) hx hb dHart_set_31 (by decide) ?_
        refine lv_goto (tgt := 36) hx hb dHart_set_32 (by decide) ?_
        exact W.zret hx hb hr rfl (fun t ht hW => ⟨⟨_, (hf_RiscHart_give st a1 a2).2, rfl, (by unfold hf_RiscHart_set; rw [if_neg c_3]), by show va_P D hcl _ t.heap; rw [ht]; exact hP⟩, hS.F ht⟩) hS.2.2 dHart_set_36
    · exact absurd hn2 c_2
set_option maxHeartbeats 4000000 in
set_option maxRecDepth 100000 in
theorem hc_RiscHart_register (l : Launch) {D : va_G} {cR cW cP : ClassId} {h0 h1 h2 h3 h4 : Nat} {st : HS} {G : Heap} (hP : va_P D hcl (hs_W cR cW cP h0 h1 h2 h3 h4 st) G) (a1 : Int32) (hn1 : ¬ a1 < 0) (hn2 : a1 < 32) : Met l yHart_register (wq yHart_register cHart_register 2 (some .int)) ({ frames := 0, cells := 0, slots := 0, locals := 0 }) (mk_PK D hcl [(cR, .int), (cW, .int), (cP, .int)] G [.ref h0, .int a1]) (mk_Qi G (hf_RiscHart_register st a1)) 0 0 (fun _ => False) := by
  refine Met.ofW (cc := cHart_register) (maxL := 2) (ret := (some .int)) (by decide) rfl ?_
  intro p e s m args below meth c s₁ B hml hv
  obtain ⟨rfl, hG, hK⟩ := hv
  subst hG
  have hx := B.exec
  have hb := B.bytes
  have hr := B.returns
  have hts := atoms_spec (ws := (wq yHart_register cHart_register 2 (some .int))) B.pre
  have hown : s.vm.findClass RHart = some m.cls := findClass_of_methodNamed B.named
  have hlocks := B.notSynchronized
  have hg : ∀ w ∈ lw_g, w.before _ s = true := fun w h => hts w (List.mem_cons_of_mem _ h)
  have hl := lv_entry ([.ref h0, .int a1]) (n := 2) (Nat.le_of_ble_eq_true rfl)
  rw [lg_entry_eq]
  generalize (lg_sl ([.ref h0, .int a1]) ++ List.replicate (2 - (lg_sl ([.ref h0, .int a1])).length) Slot.unset).toArray = ls at hl ⊢
  have hl : lv_has ls 2 [(0, .ref h0), (1, .int a1)] := hl
  refine lv_iload_n hx hb dHart_register_0 rfl (lv_at hl 1 rfl) ?_
  refine lv_if_lt (tgt := 10) hx hb dHart_register_1 (by decide) (fun c_1 => ?_) (fun c_1 => ?_)
  · exact absurd c_1 hn1
  · refine lv_iload_n hx hb dHart_register_4 rfl (lv_at hl 1 rfl) ?_
    refine lv_bipush (v := 32) hx hb dHart_register_5 (by decide) ?_
    refine lv_icmp_lt (tgt := 20) hx hb dHart_register_7 (by decide) (fun c_2 => ?_) (fun c_2 => ?_)
    · refine lv_aload_n hx hb dHart_register_20 rfl (lv_at hl 0 rfl) ?_
      refine va_get (D := D) (ci := 0) (v := .ref h2) (C := RHart) (T := THart) (N := 8) hx hb hg inHart hown hK hP 0 rfl rfl 1 (by decide) (hg _ tw_84) (fun _ h9 => h9) rfl dHart_register_21 ?_
      refine lv_iload_n hx hb dHart_register_24 rfl (lv_at hl 1 rfl) ?_
      refine va_iald (D := D) (f := hs_regs st) hx hb hK hP 2 0 rfl rfl (in_lo2 (n := 32) (by decide) hn1 hn2) dHart_register_25 ?_
      exact W.iret hx hb hr (fun t ht hW => ⟨⟨_, (), rfl, rfl, ht⟩, mk_F ht⟩) (fun q h => nomatch h) dHart_register_26
    · exact absurd hn2 c_2
set_option maxHeartbeats 4000000 in
set_option maxRecDepth 100000 in
theorem hc_RiscHart_count (l : Launch) {D : va_G} {cR cW cP : ClassId} {h0 h1 h2 h3 h4 : Nat} {st : HS} {G : Heap} (hP : va_P D hcl (hs_W cR cW cP h0 h1 h2 h3 h4 st) G) (a1 : Int32) (hn : five a1) : Met l yHart_count (wq yHart_count cHart_count 2 (some .long)) ({ frames := 1, cells := 0, slots := 0, locals := 20 }) (mk_PK D hcl [(cR, .int), (cW, .int), (cP, .int)] G [.ref h0, .int a1]) (mk_Ql G (hf_RiscHart_count st a1)) 0 0 (fun _ => False) := by
  refine Met.ofW (cc := cHart_count) (maxL := 2) (ret := (some .long)) (by decide) rfl ?_
  intro p e s m args below meth c s₁ B hml hv
  obtain ⟨rfl, hG, hK⟩ := hv
  subst hG
  have hx := B.exec
  have hb := B.bytes
  have hr := B.returns
  have hts := atoms_spec (ws := (wq yHart_count cHart_count 2 (some .long))) B.pre
  have hown : s.vm.findClass RHart = some m.cls := findClass_of_methodNamed B.named
  have hlocks := B.notSynchronized
  have hg : ∀ w ∈ lw_g, w.before _ s = true := fun w h => hts w (List.mem_cons_of_mem _ h)
  have hl := lv_entry ([.ref h0, .int a1]) (n := 2) (Nat.le_of_ble_eq_true rfl)
  rw [lg_entry_eq]
  generalize (lg_sl ([.ref h0, .int a1]) ++ List.replicate (2 - (lg_sl ([.ref h0, .int a1])).length) Slot.unset).toArray = ls at hl ⊢
  have hl : lv_has ls 2 [(0, .ref h0), (1, .int a1)] := hl
  refine lv_iload_n hx hb dHart_count_0 rfl (lv_at hl 1 rfl) ?_
  by_cases c_1 : a1 = 0
  · refine lv_tableIn (tgt := 36) hx hb dHart_count_1 (by rw [c_1]; decide) (by rw [c_1]; decide) (by rw [c_1]; rfl) (by decide) ?_
    refine lv_aload_n hx hb dHart_count_36 rfl (lv_at hl 0 rfl) ?_
    refine va_get (D := D) (ci := 0) (v := .int (hs_place st)) (C := RHart) (T := THart) (N := 8) hx hb hg inHart hown hK hP 0 rfl rfl 2 (by decide) (hg _ tw_85) (fun _ h9 => h9) rfl dHart_count_37 ?_
    refine lv_i2l (v := (hs_place st).toInt64) hx hb dHart_count_40 rfl ?_
    exact W.lret hx hb hr (fun t ht hW => ⟨⟨_, (), rfl, (by unfold hf_RiscHart_count; rw [if_pos c_1]), ht⟩, mk_F ht⟩) (fun q h => nomatch h) dHart_count_41
  by_cases c_2 : a1 = 1
  · refine lv_tableIn (tgt := 42) hx hb dHart_count_1 (by rw [c_2]; decide) (by rw [c_2]; decide) (by rw [c_2]; rfl) (by decide) ?_
    refine lv_aload_n hx hb dHart_count_42 rfl (lv_at hl 0 rfl) ?_
    refine va_get (D := D) (ci := 0) (v := .int (hs_cause st)) (C := RHart) (T := THart) (N := 8) hx hb hg inHart hown hK hP 0 rfl rfl 4 (by decide) (hg _ tw_87) (fun _ h9 => h9) rfl dHart_count_43 ?_
    refine lv_i2l (v := (hs_cause st).toInt64) hx hb dHart_count_46 rfl ?_
    exact W.lret hx hb hr (fun t ht hW => ⟨⟨_, (), rfl, (by unfold hf_RiscHart_count; rw [if_neg c_1, if_pos c_2]), ht⟩, mk_F ht⟩) (fun q h => nomatch h) dHart_count_47
  by_cases c_3 : a1 = 2
  · refine lv_tableIn (tgt := 48) hx hb dHart_count_1 (by rw [c_3]; decide) (by rw [c_3]; decide) (by rw [c_3]; rfl) (by decide) ?_
    refine lv_aload_n hx hb dHart_count_48 rfl (lv_at hl 0 rfl) ?_
    refine va_get (D := D) (ci := 0) (v := .int (hs_value st)) (C := RHart) (T := THart) (N := 8) hx hb hg inHart hown hK hP 0 rfl rfl 5 (by decide) (hg _ tw_88) (fun _ h9 => h9) rfl dHart_count_49 ?_
    refine lv_i2l (v := (hs_value st).toInt64) hx hb dHart_count_52 rfl ?_
    exact W.lret hx hb hr (fun t ht hW => ⟨⟨_, (), rfl, (by unfold hf_RiscHart_count; rw [if_neg c_1, if_neg c_2, if_pos c_3]), ht⟩, mk_F ht⟩) (fun q h => nomatch h) dHart_count_53
  by_cases c_4 : a1 = 3
  · refine lv_tableIn (tgt := 54) hx hb dHart_count_1 (by rw [c_4]; decide) (by rw [c_4]; decide) (by rw [c_4]; rfl) (by decide) ?_
    refine lv_aload_n hx hb dHart_count_54 rfl (lv_at hl 0 rfl) ?_
    refine va_get (D := D) (ci := 0) (v := .long (hs_retired st)) (C := RHart) (T := THart) (N := 8) hx hb hg inHart hown hK hP 0 rfl rfl 6 (by decide) (hg _ tw_89) (fun _ h9 => h9) rfl dHart_count_55 ?_
    exact W.lret hx hb hr (fun t ht hW => ⟨⟨_, (), rfl, (by unfold hf_RiscHart_count; rw [if_neg c_1, if_neg c_2, if_neg c_3, if_pos c_4]), ht⟩, mk_F ht⟩) (fun q h => nomatch h) dHart_count_58
  by_cases c_5 : a1 = 4
  · refine lv_tableIn (tgt := 59) hx hb dHart_count_1 (by rw [c_5]; decide) (by rw [c_5]; decide) (by rw [c_5]; rfl) (by decide) ?_
    refine lv_aload_n hx hb dHart_count_59 rfl (lv_at hl 0 rfl) ?_
    refine va_get (D := D) (ci := 0) (v := .ref h1) (C := RHart) (T := THart) (N := 8) hx hb hg inHart hown hK hP 0 rfl rfl 0 (by decide) (hg _ tw_83) (fun _ h9 => h9) rfl dHart_count_60 ?_
    refine mk_callR (va_runV (As := []) (rest := []) ⟨hx, hb, hml, hown, hts⟩ (hc_Memory_reservedAddress l hP) (cwV 0 hts (mk_gV tw_295 tw_296 tw_297 tw_47 tw_298) rfl rfl rfl hdMem_reservedAddress ⟨Nat.le_of_ble_eq_true rfl, Nat.le_of_ble_eq_true rfl⟩) (mk_preVK hK (va_recv hK hP (ci := 1) (q0 := 1) rfl rfl)) rfl rfl hl.1 rfl (lv_room (Nat.le_of_ble_eq_true rfl)) dHart_count_63 ⟨Nat.zero_le _, Nat.zero_le _⟩) ?_
    refine lv_i2l (v := (hf_Memory_reservedAddress st).toInt64) hx hb dHart_count_66 rfl ?_
    exact W.lret hx hb hr (fun t ht hW => ⟨⟨_, (), rfl, (by unfold hf_RiscHart_count; rw [if_neg c_1, if_neg c_2, if_neg c_3, if_neg c_4, if_pos c_5]), ht⟩, mk_F ht⟩) (fun q h => nomatch h) dHart_count_67
  refine mk_table (tgt := 68) hx hb dHart_count_1 (mk_gap (N := 5) [0, 1, 2, 3, 4] (by decide) (by decide) (by have q_1 := lv_neT (a := 0) c_1 rfl; have q_2 := lv_neT (a := 1) c_2 rfl; have q_3 := lv_neT (a := 2) c_3 rfl; have q_4 := lv_neT (a := 3) c_4 rfl; have q_5 := lv_neT (a := 4) c_5 rfl; intro n hn; simp only [List.mem_cons, List.not_mem_nil, or_false, not_or]; omega)) (by decide) ?_
  exact absurd hn (fun q => q.elim c_1 (fun q => q.elim c_2 (fun q => q.elim c_3 (fun q => q.elim c_4 c_5))))
