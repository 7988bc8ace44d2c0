def g64 (j : Nat) : Nat → Int32 := fun i => if i < j then 7 else 0
theorem g64_0 : g64 0 = fun _ => 0 := funext fun i => if_neg (Nat.not_lt_zero i)
theorem g64_upd {j : Nat} (hj : j < 64) : upd (g64 j) (nI j).toNatClampNeg 7 = g64 (j + 1) := by
  rw [nI_clamp (by omega)]
  funext i
  rw [upd_at]
  unfold g64
  by_cases q : i = j
  · rw [if_pos q, if_pos (by omega)]
  · rw [if_neg q]
    by_cases q2 : i < j
    · rw [if_pos q2, if_pos (by omega)]
    · rw [if_neg q2, if_neg (by omega)]
theorem in_64 {j : Nat} (hj : j < 64) : vp_in (nI j) 64 := nI_in hj (by omega)
def hs0 : HS := (fun _ => 0, fun _ => 0, g64 64, -1, 0, 0, 0, 0, 0, 0)
def ms0 : MS := (fun _ => 0, g64 64, fun _ => 0, 0, 0, 0, 0, -1, 0, 0, 0, 0, 0, 0)
abbrev memE (h1 : Nat) : va_W := [(h1, .inr (1, [.null, .null, .int 0]))]
abbrev hartE (h0 : Nat) : va_W := [(h0, .inr (0, [.null, .null, .int 0, .int 0, .int 0, .int 0, .long 0, .long 0]))]
abbrev modE (m0 : Nat) : va_W := [(m0, .inr (2, [.int 0, .null, .null, .null, .int 0, .int 0, .int 0, .int 0, .long 0, .long 0, .int 0, .int 0, .int 0, .int 0]))]
theorem one_D {A : Nat → Prop} {h : Nat} {e : va_E} (hA : A h) : va_D A [(h, e)] := by
  refine ⟨fun i j p q hp hq _ => ?_, fun k q hk => ?_⟩
  · have h1 := (List.getElem?_eq_some_iff.mp hp).1
    have h2 := (List.getElem?_eq_some_iff.mp hq).1
    simp only [List.length_cons, List.length_nil] at h1 h2
    omega
  · cases k with
    | zero => cases hk; exact hA
    | succ k => cases hk
abbrev mem_W (h1 : Nat) (u : ClassId × ClassId × Nat × Nat) : va_W := [(h1, .inr (1, [.ref u.2.2.1, .ref u.2.2.2, .int (-1)])), (u.2.2.1, .inl (u.1, 16384, .inl (fun _ => 0))), (u.2.2.2, .inl (u.2.1, 64, .inl (g64 64)))]

theorem dk_D {A : Nat → Prop} {ws ws' : va_W} (h : va_D A ws) (e : ws'.map (·.1) = ws.map (·.1)) : va_D A ws' := by
  refine dk_of h e (fun a ha => ?_)
  rw [e] at ha
  obtain ⟨q, hq, rfl⟩ := List.mem_map.mp ha
  obtain ⟨i, hi⟩ := List.getElem?_of_mem hq
  exact h.2 i q hi

set_option maxHeartbeats 4000000 in
set_option maxRecDepth 100000 in
theorem hc_Memory_init (l : Launch) {D : va_G} {G : Heap} {h1 : Nat} (hP : va_P D hcl (memE h1) G) : Met l yMem_init (wq yMem_init cMem_init 2 none) ({ frames := 1, cells := 2, slots := 16448, locals := 40 }) (mk_PK D hcl [] G [.ref h1]) (va_Qv (S := ClassId × ClassId × Nat × Nat) (fun _ => True) (fun u t => va_P D hcl (mem_W h1 u) t.heap ∧ va_D (va_A (memE h1) G.size) (mem_W h1 u) ∧ va_K D hcl [(u.1, .int), (u.2.1, .int)] t) (va_A (memE h1) G.size)) 2 16448 (va_A (memE h1) G.size) := by
  refine Met.ofW (cc := cMem_init) (maxL := 2) (ret := none) (by decide) rfl ?_
  intro p e s m args below meth c s₁ B hml hv
  obtain ⟨rfl, hG, hK⟩ := hv
  subst hG
  have hx := B.exec
  have hb := B.bytes
  have hr := B.returns
  have hts := atoms_spec (ws := wq yMem_init cMem_init 2 none) B.pre
  have hown : s.vm.findClass RMem = some m.cls := findClass_of_methodNamed B.named
  have hlocks := B.notSynchronized
  have hnm : meth.name = "<init>" := (name_of_methodNamed B.named B.method).1
  have hg : ∀ w ∈ lw_g, w.before _ s = true := fun w h => hts w (List.mem_cons_of_mem _ h)
  have hl := lv_entry ([.ref h1]) (n := 2) (Nat.le_of_ble_eq_true rfl)
  rw [lg_entry_eq]
  generalize (lg_sl ([.ref h1]) ++ List.replicate (2 - (lg_sl ([.ref h1])).length) Slot.unset).toArray = ls at hl ⊢
  have hl : lv_has ls 2 [(0, .ref h1)] := hl
  have hS : va_S (va_A (memE h1) s.heap.size) s.heap s.heap [] := va_S.rf
  have hD : va_D (va_A (memE h1) s.heap.size) (memE h1) := one_D (Or.inl ⟨0, _, rfl⟩)
  have hA : ∀ q, s.heap.size ≤ q → (va_A (memE h1) s.heap.size) q := fun q h => Or.inr h
  refine lv_aload_n hx hb dMem_init_0 rfl (lv_at hl 0 rfl) ?_
  refine W.objInit hx hb hown (hg _ tw_71) (hg _ tw_64) (hg _ tw_65) rfl (hl.1.trans hml.symm) rfl dMem_init_1 (Nat.le_of_ble_eq_true rfl) (Nat.le_of_ble_eq_true rfl) ?_
  refine lv_aload_n hx hb dMem_init_4 rfl (lv_at hl 0 rfl) ?_
  refine lv_sipush (v := 16384) hx hb dMem_init_5 (by decide) ?_
  refine va_newa (atype := .int) (ty := .int) (a0 := (16384, .inl (fun _ => 0))) hx hb (hg _ tw_82) rfl hK hP hD hS hA (fun _ => rfl) (by decide) (by decide) (by decide) (Nat.le_of_ble_eq_true rfl) (Nat.le_of_ble_eq_true rfl) dMem_init_8 (fun q3 cW H hK hP hD hS => ?_)
  have hP : va_P D hcl [(h1, .inr (1, [.null, .null, .int 0])), (q3, .inl (cW, 16384, .inl (fun _ => 0)))] H := hP
  refine va_putF (D := D) (ci := 1) (v := .ref q3) (ty := .array .int) (C := RMem) (T := TMem) (N := 3) hx hb hg inMem tyMem tyMem_ok nmMem hown hK hP hD hS 0 rfl rfl 0 (by decide) (hg _ tw_72) (fun _ h9 => h9) rfl hnm rfl (by decide +kernel) rfl rfl (Nat.le_of_ble_eq_true rfl) dMem_init_10 (fun H locs hP hD hS => ?_)
  have hP : va_P D hcl [(h1, .inr (1, [.ref q3, .null, .int 0])), (q3, .inl (cW, 16384, .inl (fun _ => 0)))] H := hP
  refine lv_aload_n hx hb dMem_init_13 rfl (lv_at hl 0 rfl) ?_
  refine lv_bipush (v := 64) hx hb dMem_init_14 (by decide) ?_
  refine va_newa (atype := .int) (ty := .int) (a0 := (64, .inl (fun _ => 0))) hx hb (hg _ tw_82) rfl hK hP hD hS hA (fun _ => rfl) (by decide) (by decide) (by decide) (Nat.le_of_ble_eq_true rfl) (Nat.le_of_ble_eq_true rfl) dMem_init_16 (fun q4 cP H hK hP hD hS => ?_)
  refine va_putF (D := D) (ci := 1) (v := .ref q4) (ty := .array .int) (C := RMem) (T := TMem) (N := 3) hx hb hg inMem tyMem tyMem_ok nmMem hown hK hP hD hS 0 rfl rfl 1 (by decide) (hg _ tw_73) (fun _ h9 => h9) rfl hnm rfl (by decide +kernel) rfl rfl (Nat.le_of_ble_eq_true rfl) dMem_init_18 (fun H locs hP hD hS => ?_)
  have hP : va_P D hcl [(h1, .inr (1, [.ref q3, .ref q4, .int 0])), (q3, .inl (cW, 16384, .inl (fun _ => 0))), (q4, .inl (cP, 64, .inl (fun _ => 0)))] H := hP
  have hK : va_K D hcl [(cW, .int), (cP, .int)] s := hK
  have loop : ∀ (n j : Nat) (H : Heap) (locs : List Loc) (ls : Array Slot), j + n = 64 → va_P D hcl ([(h1, .inr (1, [.ref q3, .ref q4, .int 0])), (q3, .inl (cW, 16384, .inl (fun _ => 0))), (q4, .inl (cP, 64, .inl (g64 j)))]) H → va_S (va_A (memE h1) s.heap.size) s.heap H locs → lv_has ls 2 [(1, .int (nI j)), (0, .ref h1)] → W p l e (headSpec (wq yMem_init cMem_init 2 none) ({ frames := 1, cells := 2, slots := 16448, locals := 40 })).room s m ([.ref h1] : List Value).toArray below meth c H locs 2 16448 (MQ below (va_Qv (S := ClassId × ClassId × Nat × Nat) (fun _ => True) (fun u t => va_P D hcl (mem_W h1 u) t.heap ∧ va_D (va_A (memE h1) s.heap.size) (mem_W h1 u) ∧ va_K D hcl [(u.1, .int), (u.2.1, .int)] t) (va_A (memE h1) s.heap.size)) ([.ref h1] : List Value).toArray s 2 16448 (va_A (memE h1) s.heap.size)) (F0 m 23 ls []) := by
    have hDf : ∀ f : Nat → Int32, va_D (va_A (memE h1) s.heap.size) ([(h1, .inr (1, [.ref q3, .ref q4, .int 0])), (q3, .inl (cW, 16384, .inl (fun _ => 0))), (q4, .inl (cP, 64, .inl (f)))]) := fun f => dk_D hD rfl
    clear hP hS hl hD
    intro n
    induction n with
    | zero =>
      intro j H locs ls hj hP hS hl
      have hj : j = 64 := by omega
      subst hj
      refine lv_iload_n hx hb dMem_init_23 rfl (lv_at hl 0 rfl) ?_
      refine lv_bipush (v := 64) hx hb dMem_init_24 (by decide) ?_
      refine lv_icmp_ge (tgt := 43) hx hb dMem_init_26 (by decide) (fun c_1 => ?_) (fun c_1 => absurd (show (64 : Int32) ≤ nI 64 by decide) c_1)
      have hD := hDf (g64 64)
      refine lv_aload_n hx hb dMem_init_43 rfl (lv_at hl 1 rfl) ?_
      refine lv_iconst (v := (-1)) hx hb dMem_init_44 (by decide) ?_
      refine va_put (D := D) (ci := 1) (v := .int (-1)) (ty := .int) (C := RMem) (T := TMem) (N := 3) hx hb hg inMem tyMem tyMem_ok nmMem hown hK hP hD hS 0 rfl rfl 2 (by decide) (hg _ tw_74) (fun _ h9 => h9) rfl (by decide +kernel) rfl rfl (Nat.le_of_ble_eq_true rfl) dMem_init_45 (fun H locs hP hD hS => ?_)
      exact W.vret hx hb hr (fun t ht hW => ⟨⟨(cW, cP, q3, q4), rfl, trivial, (by show va_P D hcl (mem_W h1 (cW, cP, q3, q4)) t.heap; rw [ht]; exact hP), hD, va_K.moved hW.alike hK⟩, hS.F ht⟩) hS.2.2 dMem_init_48
    | succ n ih =>
      intro j H locs ls hj hP hS hl
      refine lv_iload_n hx hb dMem_init_23 rfl (lv_at hl 0 rfl) ?_
      refine lv_bipush (v := 64) hx hb dMem_init_24 (by decide) ?_
      refine lv_icmp_ge (tgt := 43) hx hb dMem_init_26 (by decide) (fun c_1 => absurd c_1 (show ¬ nI 64 ≤ nI j from nI_ge (by omega) (by omega))) (fun c_1 => ?_)
      refine lv_aload_n hx hb dMem_init_29 rfl (lv_at hl 1 rfl) ?_
      refine va_get (D := D) (ci := 1) (v := .ref q4) (C := RMem) (T := TMem) (N := 3) hx hb hg inMem hown hK hP 0 rfl rfl 1 (by decide) (hg _ tw_73) (fun _ h9 => h9) rfl dMem_init_30 ?_
      refine lv_iload_n hx hb dMem_init_33 rfl (lv_at hl 0 rfl) ?_
      refine lv_bipush (v := 7) hx hb dMem_init_34 (by decide) ?_
      refine va_iast (D := D) (f := g64 j) hx hb hK hP (hDf _) hS 2 1 rfl rfl (in_64 (by omega)) dMem_init_36 (fun H locs hP _ hS => ?_)
      have hP : va_P D hcl ([(h1, .inr (1, [.ref q3, .ref q4, .int 0])), (q3, .inl (cW, 16384, .inl (fun _ => 0))), (q4, .inl (cP, 64, .inl (upd (g64 j) (nI j).toNatClampNeg 7)))]) H := hP
      rw [g64_upd (by omega)] at hP
      refine lv_iinc (v := nI (j + 1)) (lv' := [(1, .int (nI (j + 1))), (0, .ref h1)]) hx hb dMem_init_37 hl (k := 0) rfl (by rw [nI_succ]; rfl) (by decide) rfl (fun ls hl => ?_)
      refine lv_goto (tgt := 23) hx hb dMem_init_40 (by decide) ?_
      exact ih (j + 1) _ _ _ (by omega) hP hS hl
  refine lv_iconst (v := 0) hx hb dMem_init_21 (by decide) ?_
  refine lv_istore_n (lv' := [(1, .int 0), (0, .ref h1)]) hx hb dMem_init_22 rfl hl (by decide) rfl (fun ls hl => ?_)
  exact loop 64 0 _ _ ls (by omega) (by rw [g64_0]; exact hP) hS hl
set_option maxHeartbeats 4000000 in
set_option maxRecDepth 100000 in
theorem hc_RiscHart_init (l : Launch) {D : va_G} {G : Heap} {h0 : Nat} (hP : va_P D hcl (hartE h0) G) : Met l yHart_init (wq yHart_init cHart_init 1 none) ({ frames := 2, cells := 4, slots := 16483, locals := 62 }) (mk_PK D hcl [] G [.ref h0]) (va_Qv (S := ClassId × ClassId × ClassId × Nat × Nat × Nat × Nat) (fun _ => True) (fun u t => va_P D hcl (hs_W u.1 u.2.1 u.2.2.1 h0 u.2.2.2.1 u.2.2.2.2.1 u.2.2.2.2.2.1 u.2.2.2.2.2.2 hs0) t.heap ∧ va_D (va_A (hartE h0) G.size) (hs_W u.1 u.2.1 u.2.2.1 h0 u.2.2.2.1 u.2.2.2.2.1 u.2.2.2.2.2.1 u.2.2.2.2.2.2 hs0) ∧ va_K D hcl [(u.1, .int), (u.2.1, .int), (u.2.2.1, .int)] t) (va_A (hartE h0) G.size)) 4 16483 (va_A (hartE h0) G.size) := by
  refine Met.ofW (cc := cHart_init) (maxL := 1) (ret := none) (by decide) rfl ?_
  intro p e s m args below meth c s₁ B hml hv
  obtain ⟨rfl, hG, hK⟩ := hv
  subst hG
  have hx := B.exec
  have hb := B.bytes
  have hr := B.returns
  have hts := atoms_spec (ws := wq yHart_init cHart_init 1 none) B.pre
  have hown : s.vm.findClass RHart = some m.cls := findClass_of_methodNamed B.named
  have hlocks := B.notSynchronized
  have hnm : meth.name = "<init>" := (name_of_methodNamed B.named B.method).1
  have hg : ∀ w ∈ lw_g, w.before _ s = true := fun w h => hts w (List.mem_cons_of_mem _ h)
  have hl := lv_entry ([.ref h0]) (n := 1) (Nat.le_of_ble_eq_true rfl)
  rw [lg_entry_eq]
  generalize (lg_sl ([.ref h0]) ++ List.replicate (1 - (lg_sl ([.ref h0])).length) Slot.unset).toArray = ls at hl ⊢
  have hl : lv_has ls 1 [(0, .ref h0)] := hl
  have hS : va_S (va_A (hartE h0) s.heap.size) s.heap s.heap [] := va_S.rf
  have hD : va_D (va_A (hartE h0) s.heap.size) (hartE h0) := one_D (Or.inl ⟨0, _, rfl⟩)
  have hA : ∀ q, s.heap.size ≤ q → (va_A (hartE h0) s.heap.size) q := fun q h => Or.inr h
  refine lv_aload_n hx hb dHart_init_0 rfl (lv_at hl 0 rfl) ?_
  refine W.objInit hx hb hown (hg _ tw_63) (hg _ tw_64) (hg _ tw_65) rfl (hl.1.trans hml.symm) rfl dHart_init_1 (Nat.le_of_ble_eq_true rfl) (Nat.le_of_ble_eq_true rfl) ?_
  refine lv_aload_n hx hb dHart_init_4 rfl (lv_at hl 0 rfl) ?_
  refine va_new (D := D) (ci := 1) (fs := [.null, .null, .int 0]) (C := RMem) (T := TMem) (N := 3) hx hb hg inMem tyMem tyMem_ok hown (hg _ tw_66) (hg _ tw_67) (hg _ tw_47) hK hP hD hS hA rfl (by decide) (Nat.le_of_ble_eq_true rfl) (Nat.le_of_ble_eq_true rfl) dHart_init_5 (fun q1 H hP hD hS => ?_)
  have hP : va_P D hcl [(h0, .inr (0, [.null, .null, .int 0, .int 0, .int 0, .int 0, .long 0, .long 0])), (q1, .inr (1, [.null, .null, .int 0]))] H := hP
  refine lv_dup hx hb dHart_init_8 rfl ?_
  have hPm : va_P D hcl (memE q1) H := hP.sub [1] rfl
  refine va_callv (va_runI (b := q1) (As := []) (rest := [.ref q1, .ref h0]) ⟨hx, hb, hml, hown, hts⟩ (hc_Memory_init l hPm) (cwI 0 hts (mk_gI tw_70) rfl rfl rfl (hg _ tw_47) (hg _ tw_68) (hg _ tw_69) rfl hdMem_init.2 ⟨Nat.le_of_ble_eq_true rfl, Nat.le_of_ble_eq_true rfl⟩) (mk_preSK hK) rfl rfl hl.1 rfl (lv_room (Nat.le_of_ble_eq_true rfl)) dHart_init_9 ⟨Nat.le_of_ble_eq_true rfl, Nat.le_of_ble_eq_true rfl⟩) hS (fun q _ h => va_free hD hS hA [1] rfl q h) (va_free hD hS hA [1] rfl) (fun u t H1 locs1 ht hal _ hB hz hk hS1 => ?_)
  obtain ⟨hP1, hD1, hK1⟩ := hB
  rw [ht] at hP1
  have hK := va_K.moved hal.symm hK1
  obtain ⟨cW, cP, q3, q4⟩ := u
  obtain ⟨hP, hD⟩ := va_join (wr := [(h0, .inr (0, [.null, .null, .int 0, .int 0, .int 0, .int 0, .long 0, .long 0]))]) hP hD [1] [0] rfl rfl (by decide) (by decide) hk (va_free hD hS hA [1] rfl) hP1 hD1
  clear hS
  have hS := hS1
  have hP : va_P D hcl [(h0, .inr (0, [.null, .null, .int 0, .int 0, .int 0, .int 0, .long 0, .long 0])), (q1, .inr (1, [.ref q3, .ref q4, .int (-1)])), (q3, .inl (cW, 16384, .inl (fun _ => 0))), (q4, .inl (cP, 64, .inl (g64 64)))] H1 := hP
  refine va_putF (D := D) (ci := 0) (v := .ref q1) (ty := .object "RiscHart$Memory") (C := RHart) (T := THart) (N := 8) hx hb hg inHart tyHart tyHart_ok nmHart hown hK hP hD hS 0 rfl rfl 0 (by decide) (hg _ tw_83) (fun _ h9 => h9) rfl hnm rfl (by decide +kernel) rfl rfl (Nat.le_of_ble_eq_true rfl) dHart_init_12 (fun H locs hP hD hS => ?_)
  have hP : va_P D hcl [(h0, .inr (0, [.ref q1, .null, .int 0, .int 0, .int 0, .int 0, .long 0, .long 0])), (q1, .inr (1, [.ref q3, .ref q4, .int (-1)])), (q3, .inl (cW, 16384, .inl (fun _ => 0))), (q4, .inl (cP, 64, .inl (g64 64)))] H := hP
  refine lv_aload_n hx hb dHart_init_15 rfl (lv_at hl 0 rfl) ?_
  refine lv_bipush (v := 32) hx hb dHart_init_16 (by decide) ?_
  refine va_newa (atype := .int) (ty := .int) (a0 := (32, .inl (fun _ => 0))) hx hb (hg _ tw_82) rfl hK hP hD hS hA (fun _ => rfl) (by decide) (by decide) (by decide) (Nat.le_of_ble_eq_true rfl) (Nat.le_of_ble_eq_true rfl) dHart_init_18 (fun q2 cR H hK hP hD hS => ?_)
  refine va_putF (D := D) (ci := 0) (v := .ref q2) (ty := .array .int) (C := RHart) (T := THart) (N := 8) hx hb hg inHart tyHart tyHart_ok nmHart hown hK hP hD hS 0 rfl rfl 1 (by decide) (hg _ tw_84) (fun _ h9 => h9) rfl hnm rfl (by decide +kernel) rfl rfl (Nat.le_of_ble_eq_true rfl) dHart_init_20 (fun H locs hP hD hS => ?_)
  have hP : va_P D hcl [(h0, .inr (0, [.ref q1, .ref q2, .int 0, .int 0, .int 0, .int 0, .long 0, .long 0])), (q1, .inr (1, [.ref q3, .ref q4, .int (-1)])), (q3, .inl (cW, 16384, .inl (fun _ => 0))), (q4, .inl (cP, 64, .inl (g64 64))), (q2, .inl (cR, 32, .inl (fun _ => 0)))] H := hP
  have hK : va_K D hcl [(cR, .int), (cW, .int), (cP, .int)] s := hK.sub [2, 0, 1] rfl
  have hP2 : va_P D hcl (hs_W cR cW cP h0 q1 q2 q3 q4 hs0) H := hP.sub [0, 1, 4, 2, 3] rfl
  have hD2 : va_D (va_A (hartE h0) s.heap.size) (hs_W cR cW cP h0 q1 q2 q3 q4 hs0) := hD.sub [0, 1, 4, 2, 3] (by decide) rfl
  exact W.vret hx hb hr (fun t ht hW => ⟨⟨(cR, cW, cP, q1, q2, q3, q4), rfl, trivial, (by show va_P D hcl (hs_W cR cW cP h0 q1 q2 q3 q4 hs0) t.heap; rw [ht]; exact hP2), hD2, va_K.moved hW.alike hK⟩, hS.F ht⟩) hS.2.2 dHart_init_23
set_option maxHeartbeats 4000000 in
set_option maxRecDepth 100000 in
theorem mc_RiscHartModel_init (l : Launch) {D : va_G} {G : Heap} {m0 : Nat} (hP : va_P D hcl (modE m0) G) : Met l yMod_init (wq yMod_init cMod_init 2 none) ({ frames := 1, cells := 3, slots := 65632, locals := 40 }) (mk_PK D hcl [] G [.ref m0]) (va_Qv (S := ClassId × ClassId × ClassId × Nat × Nat × Nat) (fun _ => True) (fun u t => va_P D hcl (ms_W u.1 u.2.1 u.2.2.1 m0 u.2.2.2.1 u.2.2.2.2.1 u.2.2.2.2.2 ms0) t.heap ∧ va_D (va_A (modE m0) G.size) (ms_W u.1 u.2.1 u.2.2.1 m0 u.2.2.2.1 u.2.2.2.2.1 u.2.2.2.2.2 ms0) ∧ va_K D hcl [(u.1, .int), (u.2.1, .int), (u.2.2.1, .int)] t) (va_A (modE m0) G.size)) 3 65632 (va_A (modE m0) G.size) := by
  refine Met.ofW (cc := cMod_init) (maxL := 2) (ret := none) (by decide) rfl ?_
  intro p e s m args below meth c s₁ B hml hv
  obtain ⟨rfl, hG, hK⟩ := hv
  subst hG
  have hx := B.exec
  have hb := B.bytes
  have hr := B.returns
  have hts := atoms_spec (ws := wq yMod_init cMod_init 2 none) B.pre
  have hown : s.vm.findClass RMod = some m.cls := findClass_of_methodNamed B.named
  have hlocks := B.notSynchronized
  have hnm : meth.name = "<init>" := (name_of_methodNamed B.named B.method).1
  have hg : ∀ w ∈ lw_g, w.before _ s = true := fun w h => hts w (List.mem_cons_of_mem _ h)
  have hl := lv_entry ([.ref m0]) (n := 2) (Nat.le_of_ble_eq_true rfl)
  rw [lg_entry_eq]
  generalize (lg_sl ([.ref m0]) ++ List.replicate (2 - (lg_sl ([.ref m0])).length) Slot.unset).toArray = ls at hl ⊢
  have hl : lv_has ls 2 [(0, .ref m0)] := hl
  have hS : va_S (va_A (modE m0) s.heap.size) s.heap s.heap [] := va_S.rf
  have hD : va_D (va_A (modE m0) s.heap.size) (modE m0) := one_D (Or.inl ⟨0, _, rfl⟩)
  have hA : ∀ q, s.heap.size ≤ q → (va_A (modE m0) s.heap.size) q := fun q h => Or.inr h
  refine lv_aload_n hx hb dMod_init_0 rfl (lv_at hl 0 rfl) ?_
  refine W.objInit hx hb hown (hg _ tw_555) (hg _ tw_64) (hg _ tw_65) rfl (hl.1.trans hml.symm) rfl dMod_init_1 (Nat.le_of_ble_eq_true rfl) (Nat.le_of_ble_eq_true rfl) ?_
  refine lv_aload_n hx hb dMod_init_4 rfl (lv_at hl 0 rfl) ?_
  refine lv_ldc (v := 65536) hx hb hown (hg _ tw_556) dMod_init_5 ?_
  refine va_newa (atype := .int) (ty := .int) (a0 := (65536, .inl (fun _ => 0))) hx hb (hg _ tw_82) rfl hK hP hD hS hA (fun _ => rfl) (by decide) (by decide) (by decide) (Nat.le_of_ble_eq_true rfl) (Nat.le_of_ble_eq_true rfl) dMod_init_7 (fun q1 cB H hK hP hD hS => ?_)
  refine va_putF (D := D) (ci := 2) (v := .ref q1) (ty := .array .int) (C := RMod) (T := TMod) (N := 14) hx hb hg inMod tyMod tyMod_ok nmMod hown hK hP hD hS 0 rfl rfl 1 (by decide) (hg _ tw_558) (fun _ h9 => h9) rfl hnm rfl (by decide +kernel) rfl rfl (Nat.le_of_ble_eq_true rfl) dMod_init_9 (fun H locs hP hD hS => ?_)
  have hP : va_P D hcl [(m0, .inr (2, [.int 0, .ref q1, .null, .null, .int 0, .int 0, .int 0, .int 0, .long 0, .long 0, .int 0, .int 0, .int 0, .int 0])), (q1, .inl (cB, 65536, .inl (fun _ => 0)))] H := hP
  refine lv_aload_n hx hb dMod_init_12 rfl (lv_at hl 0 rfl) ?_
  refine lv_bipush (v := 64) hx hb dMod_init_13 (by decide) ?_
  refine va_newa (atype := .int) (ty := .int) (a0 := (64, .inl (fun _ => 0))) hx hb (hg _ tw_82) rfl hK hP hD hS hA (fun _ => rfl) (by decide) (by decide) (by decide) (Nat.le_of_ble_eq_true rfl) (Nat.le_of_ble_eq_true rfl) dMod_init_15 (fun q2 cO H hK hP hD hS => ?_)
  refine va_putF (D := D) (ci := 2) (v := .ref q2) (ty := .array .int) (C := RMod) (T := TMod) (N := 14) hx hb hg inMod tyMod tyMod_ok nmMod hown hK hP hD hS 0 rfl rfl 2 (by decide) (hg _ tw_559) (fun _ h9 => h9) rfl hnm rfl (by decide +kernel) rfl rfl (Nat.le_of_ble_eq_true rfl) dMod_init_17 (fun H locs hP hD hS => ?_)
  have hP : va_P D hcl [(m0, .inr (2, [.int 0, .ref q1, .ref q2, .null, .int 0, .int 0, .int 0, .int 0, .long 0, .long 0, .int 0, .int 0, .int 0, .int 0])), (q1, .inl (cB, 65536, .inl (fun _ => 0))), (q2, .inl (cO, 64, .inl (fun _ => 0)))] H := hP
  refine lv_aload_n hx hb dMod_init_20 rfl (lv_at hl 0 rfl) ?_
  refine lv_bipush (v := 32) hx hb dMod_init_21 (by decide) ?_
  refine va_newa (atype := .int) (ty := .int) (a0 := (32, .inl (fun _ => 0))) hx hb (hg _ tw_82) rfl hK hP hD hS hA (fun _ => rfl) (by decide) (by decide) (by decide) (Nat.le_of_ble_eq_true rfl) (Nat.le_of_ble_eq_true rfl) dMod_init_23 (fun q3 cX H hK hP hD hS => ?_)
  refine va_putF (D := D) (ci := 2) (v := .ref q3) (ty := .array .int) (C := RMod) (T := TMod) (N := 14) hx hb hg inMod tyMod tyMod_ok nmMod hown hK hP hD hS 0 rfl rfl 3 (by decide) (hg _ tw_560) (fun _ h9 => h9) rfl hnm rfl (by decide +kernel) rfl rfl (Nat.le_of_ble_eq_true rfl) dMod_init_25 (fun H locs hP hD hS => ?_)
  have hP : va_P D hcl [(m0, .inr (2, [.int 0, .ref q1, .ref q2, .ref q3, .int 0, .int 0, .int 0, .int 0, .long 0, .long 0, .int 0, .int 0, .int 0, .int 0])), (q1, .inl (cB, 65536, .inl (fun _ => 0))), (q2, .inl (cO, 64, .inl (fun _ => 0))), (q3, .inl (cX, 32, .inl (fun _ => 0)))] H := hP
  refine lv_aload_n hx hb dMod_init_28 rfl (lv_at hl 0 rfl) ?_
  refine lv_iconst (v := (-1)) hx hb dMod_init_29 (by decide) ?_
  refine va_put (D := D) (ci := 2) (v := .int (-1)) (ty := .int) (C := RMod) (T := TMod) (N := 14) hx hb hg inMod tyMod tyMod_ok nmMod hown hK hP hD hS 0 rfl rfl 7 (by decide) (hg _ tw_564) (fun _ h9 => h9) rfl (by decide +kernel) rfl rfl (Nat.le_of_ble_eq_true rfl) dMod_init_30 (fun H locs hP hD hS => ?_)
  have hP : va_P D hcl [(m0, .inr (2, [.int 0, .ref q1, .ref q2, .ref q3, .int 0, .int 0, .int 0, .int (-1), .long 0, .long 0, .int 0, .int 0, .int 0, .int 0])), (q1, .inl (cB, 65536, .inl (fun _ => 0))), (q2, .inl (cO, 64, .inl (fun _ => 0))), (q3, .inl (cX, 32, .inl (fun _ => 0)))] H := hP
  have hK : va_K D hcl [(cB, .int), (cO, .int), (cX, .int)] s := hK
  have loop : ∀ (n j : Nat) (H : Heap) (locs : List Loc) (ls : Array Slot), j + n = 64 → va_P D hcl ([(m0, .inr (2, [.int 0, .ref q1, .ref q2, .ref q3, .int 0, .int 0, .int 0, .int (-1), .long 0, .long 0, .int 0, .int 0, .int 0, .int 0])), (q1, .inl (cB, 65536, .inl (fun _ => 0))), (q2, .inl (cO, 64, .inl (g64 j))), (q3, .inl (cX, 32, .inl (fun _ => 0)))]) H → va_S (va_A (modE m0) s.heap.size) s.heap H locs → lv_has ls 2 [(1, .int (nI j)), (0, .ref m0)] → W p l e (headSpec (wq yMod_init cMod_init 2 none) ({ frames := 1, cells := 3, slots := 65632, locals := 40 })).room s m ([.ref m0] : List Value).toArray below meth c H locs 3 65632 (MQ below (va_Qv (S := ClassId × ClassId × ClassId × Nat × Nat × Nat) (fun _ => True) (fun u t => va_P D hcl (ms_W u.1 u.2.1 u.2.2.1 m0 u.2.2.2.1 u.2.2.2.2.1 u.2.2.2.2.2 ms0) t.heap ∧ va_D (va_A (modE m0) s.heap.size) (ms_W u.1 u.2.1 u.2.2.1 m0 u.2.2.2.1 u.2.2.2.2.1 u.2.2.2.2.2 ms0) ∧ va_K D hcl [(u.1, .int), (u.2.1, .int), (u.2.2.1, .int)] t) (va_A (modE m0) s.heap.size)) ([.ref m0] : List Value).toArray s 3 65632 (va_A (modE m0) s.heap.size)) (F0 m 35 ls []) := by
    have hDf : ∀ f : Nat → Int32, va_D (va_A (modE m0) s.heap.size) ([(m0, .inr (2, [.int 0, .ref q1, .ref q2, .ref q3, .int 0, .int 0, .int 0, .int (-1), .long 0, .long 0, .int 0, .int 0, .int 0, .int 0])), (q1, .inl (cB, 65536, .inl (fun _ => 0))), (q2, .inl (cO, 64, .inl (f))), (q3, .inl (cX, 32, .inl (fun _ => 0)))]) := fun f => dk_D hD rfl
    clear hP hS hl hD
    intro n
    induction n with
    | zero =>
      intro j H locs ls hj hP hS hl
      have hj : j = 64 := by omega
      subst hj
      refine lv_iload_n hx hb dMod_init_35 rfl (lv_at hl 0 rfl) ?_
      refine lv_bipush (v := 64) hx hb dMod_init_36 (by decide) ?_
      refine lv_icmp_ge (tgt := 55) hx hb dMod_init_38 (by decide) (fun c_1 => ?_) (fun c_1 => absurd (show (64 : Int32) ≤ nI 64 by decide) c_1)
      have hD := hDf (g64 64)
      exact W.vret hx hb hr (fun t ht hW => ⟨⟨(cB, cO, cX, q1, q2, q3), rfl, trivial, (by show va_P D hcl (ms_W cB cO cX m0 q1 q2 q3 ms0) t.heap; rw [ht]; exact hP), hD, va_K.moved hW.alike hK⟩, hS.F ht⟩) hS.2.2 dMod_init_55
    | succ n ih =>
      intro j H locs ls hj hP hS hl
      refine lv_iload_n hx hb dMod_init_35 rfl (lv_at hl 0 rfl) ?_
      refine lv_bipush (v := 64) hx hb dMod_init_36 (by decide) ?_
      refine lv_icmp_ge (tgt := 55) hx hb dMod_init_38 (by decide) (fun c_1 => absurd c_1 (show ¬ nI 64 ≤ nI j from nI_ge (by omega) (by omega))) (fun c_1 => ?_)
      refine lv_aload_n hx hb dMod_init_41 rfl (lv_at hl 1 rfl) ?_
      refine va_get (D := D) (ci := 2) (v := .ref q2) (C := RMod) (T := TMod) (N := 14) hx hb hg inMod hown hK hP 0 rfl rfl 2 (by decide) (hg _ tw_559) (fun _ h9 => h9) rfl dMod_init_42 ?_
      refine lv_iload_n hx hb dMod_init_45 rfl (lv_at hl 0 rfl) ?_
      refine lv_bipush (v := 7) hx hb dMod_init_46 (by decide) ?_
      refine va_iast (D := D) (f := g64 j) hx hb hK hP (hDf _) hS 2 1 rfl rfl (in_64 (by omega)) dMod_init_48 (fun H locs hP _ hS => ?_)
      have hP : va_P D hcl ([(m0, .inr (2, [.int 0, .ref q1, .ref q2, .ref q3, .int 0, .int 0, .int 0, .int (-1), .long 0, .long 0, .int 0, .int 0, .int 0, .int 0])), (q1, .inl (cB, 65536, .inl (fun _ => 0))), (q2, .inl (cO, 64, .inl (upd (g64 j) (nI j).toNatClampNeg 7))), (q3, .inl (cX, 32, .inl (fun _ => 0)))]) H := hP
      rw [g64_upd (by omega)] at hP
      refine lv_iinc (v := nI (j + 1)) (lv' := [(1, .int (nI (j + 1))), (0, .ref m0)]) hx hb dMod_init_49 hl (k := 0) rfl (by rw [nI_succ]; rfl) (by decide) rfl (fun ls hl => ?_)
      refine lv_goto (tgt := 35) hx hb dMod_init_52 (by decide) ?_
      exact ih (j + 1) _ _ _ (by omega) hP hS hl
  refine lv_iconst (v := 0) hx hb dMod_init_33 (by decide) ?_
  refine lv_istore_n (lv' := [(1, .int 0), (0, .ref m0)]) hx hb dMod_init_34 rfl hl (by decide) rfl (fun ls hl => ?_)
  exact loop 64 0 _ _ ls (by omega) (by rw [g64_0]; exact hP) hS hl
