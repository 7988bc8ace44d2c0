theorem lim_lt {L j : Nat} (hL : L < 2 ^ 30) (hj : j < 2 ^ 28) : (nI L - 3 < nI (3 * j)) ↔ L < 3 * j + 3 := by
  rw [Int32.lt_iff_toInt_lt, Int32.toInt_sub, nI_toInt (by omega), nI_toInt (by omega), show (3 : Int32).toInt = 3 from rfl]
  have e : ((L : Int) - 3).bmod (2 ^ 32) = L - 3 := by
    rw [Int.bmod_def]
    split <;> omega
  rw [e]
  omega
theorem nI_3 (j : Nat) : nI (3 * j) + Int32.ofInt 3 = nI (3 * (j + 1)) := by
  show nI (3 * j) + nI 3 = _
  rw [nI_add]
  rfl
theorem lw_tr {l : Launch} (h : l.flags = flags0) : l.stackTraces = false := by
  unfold Launch.stackTraces
  rw [h]
  decide
set_option maxHeartbeats 4000000 in
set_option maxRecDepth 100000 in
theorem lw_loop {p : Program} {e : Env} {s : State} {m : MethodId} {below : List Frame} {meth : Method} {c : Code} (l : Launch) (htr : l.stackTraces = false) {b L : Nat} {xs : Nat → Int32} (hLb : L ≤ 1536) (C0 : lw_At p s m meth c b L xs) {D : va_G} {cR cW cP cB cO cX cL : ClassId} {h0 h1 h2 h3 h4 m0 m1 m2 m3 o0 : Nat}
    (hZ : th_ZA (fun q : Nat => s.heap.size ≤ q) s s.heap) (hK : va_K D hcl [(cR, .int), (cW, .int), (cP, .int), (cB, .int), (cO, .int), (cX, .int), (cL, .long)] s) (hD : ∀ z y f, va_D (fun q : Nat => s.heap.size ≤ q) (jw cR cW cP cB cO cX cL h0 h1 h2 h3 h4 m0 m1 m2 m3 o0 z y f)) :
    ∀ (n j : Nat) (z : HS) (y : MS) (f : Nat → Int64) (H : Heap) (locs : List Loc) (ls : Array Slot), j + n = L / 3 → Rel z y → va_P D hcl (jw cR cW cP cB cO cX cL h0 h1 h2 h3 h4 m0 m1 m2 m3 o0 z y f) H → va_S (fun q : Nat => s.heap.size ≤ q) s.heap H locs → lv_has ls 8 [(4, .int (nI (3 * j))), (1, .ref h0), (2, .ref m0), (3, .ref o0), (0, .ref b)] → W p l e room_1 s m #[Value.ref b] below meth c H locs (10 + j) (82138 + 6 * j) (lw_Z below #[Value.ref b] s) (F0 m 23 ls []) := by
  obtain ⟨hx, hb, hr, hml, hown, hts0, hX, hbl, hlocks, hgv⟩ := id C0
  have hg : ∀ w ∈ lw_g, w.before #[Value.ref b] s = true := fun w h => hts0 w (List.mem_filter.mp h).1
  have hts : ∀ w ∈ Cond.initialized "RiscHart" :: lw_g, w.before #[Value.ref b] s = true := fun w h => (List.mem_cons.mp h).elim (fun q => by rw [q]; exact hg _ tw_46) (hg w)
  have hbA : ¬ (fun q : Nat => s.heap.size ≤ q) b := Nat.not_le.mpr hbl
  intro n
  induction n with
  | zero =>
    intro j z y f H locs ls hj hR hP hS hl
    refine lv_iload hx hb dLaw_law_23 (lv_at hl 0 rfl) ?_
    refine lv_aload_n hx hb dLaw_law_25 rfl (lv_at hl 4 rfl) ?_
    refine va_slen hx hb hX hbl hbA hS dLaw_law_26 ?_
    refine lv_iconst (v := 3) hx hb dLaw_law_27 (by decide) ?_
    refine lv_isub hx hb dLaw_law_28 ?_
    refine lv_icmp_gt (tgt := 655) hx hb dLaw_law_29 (by decide) (fun c_1 => ?_) (fun c_1 => ?_)
    · refine lv_iconst (v := 1) hx hb dLaw_law_655 (by decide) ?_
      refine va_forget (fun q hq => hS.2.2 q hq) ?_
      refine W.widen (k := 601024) (n := 7293034) (by omega) (by omega) ?_
      exact lw_ret hx hb hr hlocks dLaw_law_656
    · exact absurd ((lim_lt (L := L) (j := j) (by omega) (by omega)).mpr (by omega)) c_1
  | succ n ih =>
    intro j z y f H locs ls hj hR hP hS hl
    refine lv_iload hx hb dLaw_law_23 (lv_at hl 0 rfl) ?_
    refine lv_aload_n hx hb dLaw_law_25 rfl (lv_at hl 4 rfl) ?_
    refine va_slen hx hb hX hbl hbA hS dLaw_law_26 ?_
    refine lv_iconst (v := 3) hx hb dLaw_law_27 (by decide) ?_
    refine lv_isub hx hb dLaw_law_28 ?_
    refine lv_icmp_gt (tgt := 655) hx hb dLaw_law_29 (by decide) (fun c_1 => ?_) (fun c_1 => ?_)
    · exact absurd ((lim_lt (L := L) (j := j) (by omega) (by omega)).mp c_1) (by omega)
    · refine lw_round htr (Nat.le_of_ble_eq_true rfl) (Nat.le_of_ble_eq_true rfl) hx hb hml hown hg hts hK hZ hX hbl hbA (by omega) (by omega) hD (show 10 + (j + 1) ≤ 601024 by omega) (show 82138 + 6 * (j + 1) ≤ 7293034 by omega) rfl rfl rfl hR hP hS hl (fun z y f H locs ls hR hP hS hl => ?_)
      refine lv_iinc (v := nI (3 * (j + 1))) (lv' := [(4, .int (nI (3 * (j + 1)))), (1, .ref h0), (2, .ref m0), (3, .ref o0), (0, .ref b)]) hx hb dLaw_law_649 hl (k := 0) rfl (nI_3 j) (by decide) rfl (fun ls hl => ?_)
      refine lv_goto (tgt := 23) hx hb dLaw_law_652 (by decide) ?_
      exact ih (j + 1) z y f H locs ls (by omega) hR hP hS hl
set_option maxHeartbeats 4000000 in
set_option maxRecDepth 100000 in
theorem whole_start {p : Program} {e : Env} {s : State} {m : MethodId} {below : List Frame} {meth : Method} {c : Code} (l : Launch) (htr : l.stackTraces = false) {b L : Nat} {xs : Nat → Int32} (hL : L ≤ 1536) (C0 : lw_At p s m meth c b L xs) : W p l e room_1 s m #[Value.ref b] below meth c s.heap [] 0 0 (lw_Z below #[Value.ref b] s) (entryFrame m ([Value.ref b] : List Value).toArray 8) := by
  obtain ⟨hx, hb, hr, hml, hown, hts0, hX, hbl, hlocks, hgv⟩ := id C0
  have hg : ∀ w ∈ lw_g, w.before #[Value.ref b] s = true := fun w h => hts0 w (List.mem_filter.mp h).1
  have hts : ∀ w ∈ Cond.initialized "RiscHart" :: lw_g, w.before #[Value.ref b] s = true := fun w h => (List.mem_cons.mp h).elim (fun q => by rw [q]; exact hg _ tw_46) (hg w)
  have hA : ∀ q : Nat, s.heap.size ≤ q → (fun q : Nat => s.heap.size ≤ q) q := fun _ h => h
  have hfl := flat_of_before _ hgv
  have hnl : ∀ a : Nat, a < s.heap.size → ¬ (fun q : Nat => s.heap.size ≤ q) a := fun a h => Nat.not_le.mpr h
  have hcH : ∃ cH, s.vm.findClass RHart = some cH := by
    obtain ⟨cH, kH, h, -⟩ := Cond.instantiable_spec (hg _ tw_59)
    exact ⟨cH, h⟩
  obtain ⟨cH, hcH⟩ := hcH
  have hZ : th_ZA (fun q : Nat => s.heap.size ≤ q) s s.heap := ⟨⟨va_Zqof (hts0 _ lw_z1) (hts0 _ lw_z3) (hfl _ lw_z4) hnl, va_Zqof (hts0 _ lw_z2) (hts0 _ lw_z3) (hfl _ lw_z5) hnl⟩, ⟨th_LS.of (hts0 _ lw_z1) hnl, th_LS.of (hts0 _ lw_z2) hnl⟩, fun w hw => va_Nw.of (th_tw_on w hw) (hts0 w (lw_z6 w hw)), lw_z7 hcH hts0⟩
  obtain ⟨c0, iS0, hKn0⟩ := u_known (C := RHart) (T := THart) (N := 8) (n := 8) hg inHart (hg _ tw_59)
  obtain ⟨c1, iS1, hKn1⟩ := u_known (C := RMem) (T := TMem) (N := 3) (n := 3) hg inMem (hg _ tw_67)
  obtain ⟨c2, iS2, hKn2⟩ := u_known (C := RMod) (T := TMod) (N := 14) (n := 14) hg inMod (hg _ tw_551)
  obtain ⟨dC, dI, hKc⟩ : ∃ (dC : Nat → ClassId) (dI : Nat → Nat → Nat), ∀ (k : Nat) (q : vw_C), hcl[k]? = some q → u_Kn s q.1 q.2.1 q.2.2 (dC k) (dI k) := by
    refine ⟨fun k => if k = 0 then c0 else if k = 1 then c1 else c2, fun k => if k = 0 then iS0 else if k = 1 then iS1 else iS2, ?_⟩
    intro k q hq
    match k, hq with
    | 0, hq => cases hq; exact hKn0
    | 1, hq => cases hq; exact hKn1
    | 2, hq => cases hq; exact hKn2
    | k + 3, hq => simp [hcl] at hq
  have hS : va_S (fun q : Nat => s.heap.size ≤ q) s.heap s.heap [] := va_S.rf
  have hK : va_K (dC, dI) hcl [] s := ⟨hKc, fun k q h => by simp at h⟩
  have hP : va_P (dC, dI) hcl [] s.heap := fun k q h => by simp at h
  have hD : va_D (fun q : Nat => s.heap.size ≤ q) [] := ⟨fun i j p q h => by simp at h, fun k q h => by simp at h⟩
  have hl := lv_entry ([.ref b]) (n := 8) (Nat.le_of_ble_eq_true rfl)
  rw [lg_entry_eq]
  generalize (lg_sl ([.ref b]) ++ List.replicate (8 - (lg_sl ([.ref b])).length) Slot.unset).toArray = ls at hl ⊢
  have hl : lv_has ls 8 [(0, .ref b)] := hl
  refine va_new (D := (dC, dI)) (ci := 0) (fs := [.null, .null, .int 0, .int 0, .int 0, .int 0, .long 0, .long 0]) (C := RHart) (T := THart) (N := 8) hx hb hg inHart tyHart tyHart_ok hown (hg _ tw_58) (hg _ tw_59) (hg _ tw_46) hK hP hD hS hA rfl (by decide) (Nat.le_of_ble_eq_true rfl) (Nat.le_of_ble_eq_true rfl) dLaw_law_0 (fun h0 H hP hD hS => ?_)
  have hP : va_P (dC, dI) hcl (hartE h0) H := hP
  refine lv_dup hx hb dLaw_law_3 rfl ?_
  refine va_callv (va_runI (b := h0) (As := []) (rest := [.ref h0]) ⟨hx, hb, hml, hown, hts⟩ (hc_RiscHart_init l hP) (cwI 0 hts (mk_gI tw_62) rfl rfl rfl (hg _ tw_46) (hg _ tw_60) (hg _ tw_61) rfl hdHart_init.2 ⟨(Nat.le_of_ble_eq_true rfl), (Nat.le_of_ble_eq_true rfl)⟩) (mk_preSK (hK.sub (tys' := []) [] rfl)) rfl rfl hl.1 rfl (lv_room (Nat.le_of_ble_eq_true rfl)) dLaw_law_4 ⟨(Nat.le_of_ble_eq_true rfl), (Nat.le_of_ble_eq_true rfl)⟩) hS (fun q _ h => va_free hD hS hA [0] rfl q h) (va_free hD hS hA [0] rfl) (fun u t H1 locs1 ht hal _ hB hz hk hS1 => ?_)
  obtain ⟨hP1, hD1, hK1⟩ := hB
  rw [ht] at hP1
  have hK := va_K.moved hal.symm hK1
  obtain ⟨cR, cW, cP, h1, h2, h3, h4⟩ := u
  obtain ⟨hP, hD⟩ := va_join (wr := []) (w1 := hs_W cR cW cP h0 h1 h2 h3 h4 hs0) hP hD [0] [] rfl rfl (by decide) (by decide) hk (va_free hD hS hA [0] rfl) hP1 hD1
  have hP : va_P (dC, dI) hcl (hs_W cR cW cP h0 h1 h2 h3 h4 hs0) H1 := hP
  have hD : va_D (fun q : Nat => s.heap.size ≤ q) (hs_W cR cW cP h0 h1 h2 h3 h4 hs0) := hD
  clear hS hP1 hD1 hK1
  have hS := hS1
  have hK : va_K (dC, dI) hcl [(cR, .int), (cW, .int), (cP, .int)] s := hK
  refine lv_astore_n (lv' := [(1, .ref h0), (0, .ref b)]) hx hb dLaw_law_7 rfl hl (by decide) rfl (fun ls hl => ?_)
  refine va_new (D := (dC, dI)) (ci := 2) (fs := [.int 0, .null, .null, .null, .int 0, .int 0, .int 0, .int 0, .long 0, .long 0, .int 0, .int 0, .int 0, .int 0]) (C := RMod) (T := TMod) (N := 14) hx hb hg inMod tyMod tyMod_ok hown (hg _ tw_550) (hg _ tw_551) (hg _ tw_48) hK hP hD hS hA rfl (by decide) (Nat.le_of_ble_eq_true rfl) (Nat.le_of_ble_eq_true rfl) dLaw_law_8 (fun m0 H hP hD hS => ?_)
  refine lv_dup hx hb dLaw_law_11 rfl ?_
  refine va_callv (va_runI (b := m0) (As := []) (rest := [.ref m0]) ⟨hx, hb, hml, hown, hts⟩ (mc_RiscHartModel_init l (hP.sub [5] rfl)) (cwI 0 hts (mk_gI tw_554) rfl rfl rfl (hg _ tw_48) (hg _ tw_552) (hg _ tw_553) rfl hdMod_init.2 ⟨(Nat.le_of_ble_eq_true rfl), (Nat.le_of_ble_eq_true rfl)⟩) (mk_preSK (hK.sub (tys' := []) [] rfl)) rfl rfl hl.1 rfl (lv_room (Nat.le_of_ble_eq_true rfl)) dLaw_law_12 ⟨(Nat.le_of_ble_eq_true rfl), (Nat.le_of_ble_eq_true rfl)⟩) hS (fun q _ h => va_free hD hS hA [5] rfl q h) (va_free hD hS hA [5] rfl) (fun u t H1 locs1 ht hal _ hB hz hk hS1 => ?_)
  obtain ⟨hP1, hD1, hK1⟩ := hB
  rw [ht] at hP1
  have hK1 := va_K.moved hal.symm hK1
  obtain ⟨cB, cO, cX, m1, m2, m3⟩ := u
  obtain ⟨hP, hD⟩ := va_join (wr := hs_W cR cW cP h0 h1 h2 h3 h4 hs0) (w1 := ms_W cB cO cX m0 m1 m2 m3 ms0) hP hD [5] [0, 1, 2, 3, 4] rfl rfl (by decide) (by decide) hk (va_free hD hS hA [5] rfl) hP1 hD1
  clear hS hP1 hD1
  have hS := hS1
  have hK := hK.app hK1
  refine lv_astore_n (lv' := [(2, .ref m0), (1, .ref h0), (0, .ref b)]) hx hb dLaw_law_15 rfl hl (by decide) rfl (fun ls hl => ?_)
  refine lv_iconst (v := 1) hx hb dLaw_law_16 (by decide) ?_
  refine va_newa (atype := .long) (ty := .long) (a0 := (1, .inr (.inl (fun _ => 0)))) hx hb (hg _ tw_761) rfl hK hP hD hS hA (fun _ => rfl) (by decide) (by decide) (by decide) (Nat.le_of_ble_eq_true rfl) (Nat.le_of_ble_eq_true rfl) dLaw_law_17 (fun o0 cL H hK hP hD hS => ?_)
  refine lv_astore_n (lv' := [(3, .ref o0), (2, .ref m0), (1, .ref h0), (0, .ref b)]) hx hb dLaw_law_19 rfl hl (by decide) rfl (fun ls hl => ?_)
  refine lv_iconst (v := 0) hx hb dLaw_law_20 (by decide) ?_
  refine lv_istore (lv' := [(4, .int 0), (3, .ref o0), (2, .ref m0), (1, .ref h0), (0, .ref b)]) hx hb dLaw_law_21 hl (by decide) rfl (fun ls hl => ?_)
  have hP : va_P (dC, dI) hcl (jw cR cW cP cB cO cX cL h0 h1 h2 h3 h4 m0 m1 m2 m3 o0 hs0 ms0 (fun _ => 0)) H := hP
  have hD : va_D (fun q : Nat => s.heap.size ≤ q) (jw cR cW cP cB cO cX cL h0 h1 h2 h3 h4 m0 m1 m2 m3 o0 hs0 ms0 (fun _ => 0)) := hD
  have hK : va_K (dC, dI) hcl [(cR, .int), (cW, .int), (cP, .int), (cB, .int), (cO, .int), (cX, .int), (cL, .long)] s := hK
  refine W.cs (cells' := 10 + 0) (slots' := 82138 + 6 * 0) rfl rfl ?_
  exact lw_loop l htr hL C0 hZ hK (fun z y f => dk_D hD rfl) (L / 3) 0 hs0 ms0 (fun _ => 0) H _ ls (by omega) Rel0 hP hS (lv_sub hl [0, 3, 2, 1, 4] rfl)
