set_option maxHeartbeats 16000000 in
set_option maxRecDepth 100000 in
theorem lw_round {p : Program} {l : Launch} {e : Env} {R : Room} {s : State} {m : MethodId} {args : Array Value} {below : List Frame} {meth : Method} {c : Code} {Q : State → Prop} {A : Nat → Prop} {D : va_G} {cR cW cP cB cO cX cL : ClassId} {h0 h1 h2 h3 h4 m0 m1 m2 m3 o0 b L j : Nat} {xs : Nat → Int32}
    (htr : l.stackTraces = false) (hRf : 10 ≤ R.frames) (hRl : 370 ≤ R.locals) (hx : p.tables.exec = Jvm.exec) (hb : c.code = code) (hml : c.maxLocals = 8) (hown : s.vm.findClass RLaw = some m.cls) (hg : ∀ w ∈ lw_g, w.before args s = true) (hts : ∀ w ∈ Cond.initialized "RiscHart" :: lw_g, w.before args s = true)
    (hK : va_K D hcl [(cR, .int), (cW, .int), (cP, .int), (cB, .int), (cO, .int), (cX, .int), (cL, .long)] s) (hZ : th_ZA A s s.heap) (hX : va_X b L xs s s.heap) (hbl : b < s.heap.size) (hbA : ¬ A b) (hLb : L < 2 ^ 31) (hj : 3 * j + 2 < L)
    (hD : ∀ z y f, va_D A (jw cR cW cP cB cO cX cL h0 h1 h2 h3 h4 m0 m1 m2 m3 o0 z y f)) (hc : 10 + (j + 1) ≤ R.cells) (hs : 82138 + 6 * (j + 1) ≤ R.slots)
    {z : HS} {y : MS} {f : Nat → Int64} {H : Heap} {locs : List Loc} {ls : Array Slot} {v0 v1 v2 : Int32} (hv0 : xs (nI (3 * j)).toNatClampNeg = v0) (hv1 : xs (nI (3 * j) + 1).toNatClampNeg = v1) (hv2 : xs (nI (3 * j) + 2).toNatClampNeg = v2) (hR : Rel z y) (hP : va_P D hcl (jw cR cW cP cB cO cX cL h0 h1 h2 h3 h4 m0 m1 m2 m3 o0 z y f) H) (hS : va_S A s.heap H locs) (hl : lv_has ls 8 [(4, .int (nI (3 * j))), (1, .ref h0), (2, .ref m0), (3, .ref o0), (0, .ref b)])
    (tail : ∀ (z : HS) (y : MS) (f : Nat → Int64) (H : Heap) (locs : List Loc) (ls : Array Slot), Rel z y → va_P D hcl (jw cR cW cP cB cO cX cL h0 h1 h2 h3 h4 m0 m1 m2 m3 o0 z y f) H → va_S A s.heap H locs → lv_has ls 8 [(4, .int (nI (3 * j))), (1, .ref h0), (2, .ref m0), (3, .ref o0), (0, .ref b)] → W p l e R s m args below meth c H locs (10 + (j + 1)) (82138 + 6 * (j + 1)) Q (F0 m 649 ls [])) :
    W p l e R s m args below meth c H locs (10 + j) (82138 + 6 * j) Q (F0 m 32 ls []) := by
  refine lv_aload_n hx hb dLaw_law_32 rfl (lv_at hl 4 rfl) ?_
  refine lv_iload hx hb dLaw_law_33 (lv_at hl 0 rfl) ?_
  refine sc_ld hx hb hX hbl hbA hS (nI_in (by omega) hLb) hv0 dLaw_law_35 ?_
  refine lv_bipush (v := 15) hx hb dLaw_law_36 (by decide) ?_
  refine lv_iand hx hb dLaw_law_38 ?_
  by_cases c_1 : (v0 &&& 15) = 0
  · refine lv_tableIn (tgt := 96) hx hb dLaw_law_39 (by rw [c_1]; decide) (by rw [c_1]; decide) (by rw [c_1]; rfl) (by decide) ?_
    refine lv_aload_n hx hb dLaw_law_96 rfl (lv_at hl 1 rfl) ?_
    refine lv_aload_n hx hb dLaw_law_97 rfl (lv_at hl 4 rfl) ?_
    refine lv_iload hx hb dLaw_law_98 (lv_at hl 0 rfl) ?_
    refine lv_iconst (v := 1) hx hb dLaw_law_100 (by decide) ?_
    refine lv_iadd hx hb dLaw_law_101 ?_
    refine sc_ld hx hb hX hbl hbA hS (sc_in (k := 1) (by omega) hLb) hv1 dLaw_law_102 ?_
    refine lv_aload_n hx hb dLaw_law_103 rfl (lv_at hl 4 rfl) ?_
    refine lv_iload hx hb dLaw_law_104 (lv_at hl 0 rfl) ?_
    refine lv_iconst (v := 2) hx hb dLaw_law_106 (by decide) ?_
    refine lv_iadd hx hb dLaw_law_107 ?_
    refine sc_ld hx hb hX hbl hbA hS (sc_in (k := 2) (by omega) hLb) hv2 dLaw_law_108 ?_
    refine va_calli (post := fun r u => (r, u) = lf_poke z v1 v2) (B := fun u t => va_P D hcl (hs_W cR cW cP h0 h1 h2 h3 h4 u) t.heap) (th_runS (As := [.ref h0, .int v1, .int v2]) (rest := []) hx hb hml hown hg (lc_poke l htr (hP.sub [0, 1, 2, 3, 4] rfl) (jw_H (hD z y f)) v1 v2) tw_399 tw_400 tw_45 tw_401 rfl rfl hdLaw_poke.2 ⟨Nat.le_trans (Nat.le_of_ble_eq_true rfl) hRf, Nat.le_trans (Nat.le_of_ble_eq_true rfl) hRl⟩ (mk_preSZ (hK.sub [0, 1, 2] rfl) (th_ZS hZ hS)) rfl rfl hl.1 rfl (lv_room (Nat.le_of_ble_eq_true rfl)) dLaw_law_109 ⟨hc, hs⟩) hS (fun q _ h => jw_AH (hD z y f) h) (fun q h => jw_AH (hD z y f) h) (fun r u t H locs ht _ hw hB _ hk hS => ?_)
    have hw : (r, u) = lf_poke z v1 v2 := hw
    have hB : va_P D hcl (hs_W cR cW cP h0 h1 h2 h3 h4 u) t.heap := hB
    rw [ht] at hB
    have hP := jn_H hP (hD z y f) hB hk
    clear hB
    refine lv_istore (lv' := [(5, .int r), (4, .int (nI (3 * j))), (1, .ref h0), (2, .ref m0), (3, .ref o0), (0, .ref b)]) hx hb dLaw_law_112 hl (by decide) rfl (fun ls hl => ?_)
    refine lv_aload_n hx hb dLaw_law_114 rfl (lv_at hl 3 rfl) ?_
    refine lv_aload_n hx hb dLaw_law_115 rfl (lv_at hl 5 rfl) ?_
    refine lv_iload hx hb dLaw_law_116 (lv_at hl 1 rfl) ?_
    refine lv_iconst (v := 1) hx hb dLaw_law_118 (by decide) ?_
    refine lv_iadd hx hb dLaw_law_119 ?_
    refine sc_ld hx hb hX hbl hbA hS (sc_in (k := 1) (by omega) hLb) hv1 dLaw_law_120 ?_
    refine lv_aload_n hx hb dLaw_law_121 rfl (lv_at hl 5 rfl) ?_
    refine lv_iload hx hb dLaw_law_122 (lv_at hl 1 rfl) ?_
    refine lv_iconst (v := 2) hx hb dLaw_law_124 (by decide) ?_
    refine lv_iadd hx hb dLaw_law_125 ?_
    refine sc_ld hx hb hX hbl hbA hS (sc_in (k := 2) (by omega) hLb) hv2 dLaw_law_126 ?_
    refine va_callv (post := fun u => u = mf_RiscHartModel_poke y v1 v2) (B := fun u t => va_P D hcl (ms_W cB cO cX m0 m1 m2 m3 u) t.heap) (va_runV (As := [.int v1, .int v2]) (rest := []) ⟨hx, hb, hml, hown, hts⟩ (mc_RiscHartModel_poke l (hP.sub [5, 6, 7, 8] rfl) (jw_M (hD u y f)) v1 v2) (cwV 2 hts (mk_gV tw_604 tw_605 tw_606 tw_48 tw_607) rfl rfl rfl hdMod_poke ⟨Nat.le_trans (Nat.le_of_ble_eq_true rfl) hRf, Nat.le_trans (Nat.le_of_ble_eq_true rfl) hRl⟩) (mk_preVK (hK.sub [3, 4, 5] rfl) (va_recv hK hP (ci := 2) (q0 := 5) rfl rfl)) rfl rfl hl.1 rfl (lv_room (Nat.le_of_ble_eq_true rfl)) dLaw_law_127 ⟨hc, hs⟩) hS (fun q _ h => jw_AM (hD u y f) h) (fun q h => jw_AM (hD u y f) h) (fun y1 t H locs ht _ hwm hB _ hk hS => ?_)
    have hwm : y1 = mf_RiscHartModel_poke y v1 v2 := hwm
    have hB : va_P D hcl (ms_W cB cO cX m0 m1 m2 m3 y1) t.heap := hB
    rw [ht] at hB
    have hP := jn_M hP (hD u y f) hB hk
    clear hB
    have hL := LW_poke hR v1 v2
    rw [← hw, ← hwm] at hL
    have hL : r = ms_code y1 ∧ Rel u y1 := hL
    have hR := hL.2
    refine lv_aload_n hx hb dLaw_law_130 rfl (lv_at hl 3 rfl) ?_
    refine mk_callR (va_runV (As := []) (rest := []) ⟨hx, hb, hml, hown, hts⟩ (mc_RiscHartModel_thrown l (hP.sub [5, 6, 7, 8] rfl) ) (cwV 0 hts (mk_gV tw_600 tw_601 tw_602 tw_48 tw_603) rfl rfl rfl hdMod_thrown ⟨Nat.le_trans (Nat.le_of_ble_eq_true rfl) hRf, Nat.le_trans (Nat.le_of_ble_eq_true rfl) hRl⟩) (mk_preVK (hK.sub [3, 4, 5] rfl) (va_recv hK hP (ci := 2) (q0 := 5) rfl rfl)) rfl rfl hl.1 rfl (lv_room (Nat.le_of_ble_eq_true rfl)) dLaw_law_131 ⟨hc, hs⟩) ?_
    refine lv_iload hx hb dLaw_law_134 (lv_at hl 0 rfl) ?_
    refine lv_icmp_eq (tgt := 141) hx hb dLaw_law_136 (by decide) (fun c_2 => ?_) (fun c_2 => ?_)
    · refine lv_goto (tgt := 649) hx hb dLaw_law_141 (by decide) ?_
      exact tail u y1 f _ _ ls hR hP hS (lv_sub hl [1, 2, 3, 4, 5] rfl)
    · exact absurd (show mf_RiscHartModel_thrown y1 = r from hL.1.symm) c_2
  by_cases c_3 : (v0 &&& 15) = 1
  · refine lv_tableIn (tgt := 144) hx hb dLaw_law_39 (by rw [c_3]; decide) (by rw [c_3]; decide) (by rw [c_3]; rfl) (by decide) ?_
    refine lv_aload_n hx hb dLaw_law_144 rfl (lv_at hl 1 rfl) ?_
    refine lv_aload_n hx hb dLaw_law_145 rfl (lv_at hl 4 rfl) ?_
    refine lv_iload hx hb dLaw_law_146 (lv_at hl 0 rfl) ?_
    refine lv_iconst (v := 1) hx hb dLaw_law_148 (by decide) ?_
    refine lv_iadd hx hb dLaw_law_149 ?_
    refine sc_ld hx hb hX hbl hbA hS (sc_in (k := 1) (by omega) hLb) hv1 dLaw_law_150 ?_
    refine lv_aload_n hx hb dLaw_law_151 rfl (lv_at hl 4 rfl) ?_
    refine lv_iload hx hb dLaw_law_152 (lv_at hl 0 rfl) ?_
    refine lv_iconst (v := 2) hx hb dLaw_law_154 (by decide) ?_
    refine lv_iadd hx hb dLaw_law_155 ?_
    refine sc_ld hx hb hX hbl hbA hS (sc_in (k := 2) (by omega) hLb) hv2 dLaw_law_156 ?_
    refine va_calli (post := fun r u => (r, u) = lf_plant z v1 v2) (B := fun u t => va_P D hcl (hs_W cR cW cP h0 h1 h2 h3 h4 u) t.heap) (th_runS (As := [.ref h0, .int v1, .int v2]) (rest := []) hx hb hml hown hg (lc_plant l htr (hP.sub [0, 1, 2, 3, 4] rfl) (jw_H (hD z y f)) v1 v2) tw_475 tw_476 tw_45 tw_477 rfl rfl hdLaw_plant.2 ⟨Nat.le_trans (Nat.le_of_ble_eq_true rfl) hRf, Nat.le_trans (Nat.le_of_ble_eq_true rfl) hRl⟩ (mk_preSZ (hK.sub [0, 1, 2] rfl) (th_ZS hZ hS)) rfl rfl hl.1 rfl (lv_room (Nat.le_of_ble_eq_true rfl)) dLaw_law_157 ⟨hc, hs⟩) hS (fun q _ h => jw_AH (hD z y f) h) (fun q h => jw_AH (hD z y f) h) (fun r u t H locs ht _ hw hB _ hk hS => ?_)
    have hw : (r, u) = lf_plant z v1 v2 := hw
    have hB : va_P D hcl (hs_W cR cW cP h0 h1 h2 h3 h4 u) t.heap := hB
    rw [ht] at hB
    have hP := jn_H hP (hD z y f) hB hk
    clear hB
    refine lv_istore (lv' := [(5, .int r), (4, .int (nI (3 * j))), (1, .ref h0), (2, .ref m0), (3, .ref o0), (0, .ref b)]) hx hb dLaw_law_160 hl (by decide) rfl (fun ls hl => ?_)
    refine lv_aload_n hx hb dLaw_law_162 rfl (lv_at hl 3 rfl) ?_
    refine lv_aload_n hx hb dLaw_law_163 rfl (lv_at hl 5 rfl) ?_
    refine lv_iload hx hb dLaw_law_164 (lv_at hl 1 rfl) ?_
    refine lv_iconst (v := 1) hx hb dLaw_law_166 (by decide) ?_
    refine lv_iadd hx hb dLaw_law_167 ?_
    refine sc_ld hx hb hX hbl hbA hS (sc_in (k := 1) (by omega) hLb) hv1 dLaw_law_168 ?_
    refine lv_aload_n hx hb dLaw_law_169 rfl (lv_at hl 5 rfl) ?_
    refine lv_iload hx hb dLaw_law_170 (lv_at hl 1 rfl) ?_
    refine lv_iconst (v := 2) hx hb dLaw_law_172 (by decide) ?_
    refine lv_iadd hx hb dLaw_law_173 ?_
    refine sc_ld hx hb hX hbl hbA hS (sc_in (k := 2) (by omega) hLb) hv2 dLaw_law_174 ?_
    refine va_callv (post := fun u => u = mf_RiscHartModel_plant y v1 v2) (B := fun u t => va_P D hcl (ms_W cB cO cX m0 m1 m2 m3 u) t.heap) (va_runV (As := [.int v1, .int v2]) (rest := []) ⟨hx, hb, hml, hown, hts⟩ (mc_RiscHartModel_plant l (hP.sub [5, 6, 7, 8] rfl) (jw_M (hD u y f)) v1 v2) (cwV 2 hts (mk_gV tw_616 tw_617 tw_618 tw_48 tw_619) rfl rfl rfl hdMod_plant ⟨Nat.le_trans (Nat.le_of_ble_eq_true rfl) hRf, Nat.le_trans (Nat.le_of_ble_eq_true rfl) hRl⟩) (mk_preVK (hK.sub [3, 4, 5] rfl) (va_recv hK hP (ci := 2) (q0 := 5) rfl rfl)) rfl rfl hl.1 rfl (lv_room (Nat.le_of_ble_eq_true rfl)) dLaw_law_175 ⟨hc, hs⟩) hS (fun q _ h => jw_AM (hD u y f) h) (fun q h => jw_AM (hD u y f) h) (fun y1 t H locs ht _ hwm hB _ hk hS => ?_)
    have hwm : y1 = mf_RiscHartModel_plant y v1 v2 := hwm
    have hB : va_P D hcl (ms_W cB cO cX m0 m1 m2 m3 y1) t.heap := hB
    rw [ht] at hB
    have hP := jn_M hP (hD u y f) hB hk
    clear hB
    have hL := LW_plant hR v1 v2
    rw [← hw, ← hwm] at hL
    have hL : r = ms_code y1 ∧ Rel u y1 := hL
    have hR := hL.2
    refine lv_aload_n hx hb dLaw_law_178 rfl (lv_at hl 3 rfl) ?_
    refine mk_callR (va_runV (As := []) (rest := []) ⟨hx, hb, hml, hown, hts⟩ (mc_RiscHartModel_thrown l (hP.sub [5, 6, 7, 8] rfl) ) (cwV 0 hts (mk_gV tw_600 tw_601 tw_602 tw_48 tw_603) rfl rfl rfl hdMod_thrown ⟨Nat.le_trans (Nat.le_of_ble_eq_true rfl) hRf, Nat.le_trans (Nat.le_of_ble_eq_true rfl) hRl⟩) (mk_preVK (hK.sub [3, 4, 5] rfl) (va_recv hK hP (ci := 2) (q0 := 5) rfl rfl)) rfl rfl hl.1 rfl (lv_room (Nat.le_of_ble_eq_true rfl)) dLaw_law_179 ⟨hc, hs⟩) ?_
    refine lv_iload hx hb dLaw_law_182 (lv_at hl 0 rfl) ?_
    refine lv_icmp_eq (tgt := 189) hx hb dLaw_law_184 (by decide) (fun c_4 => ?_) (fun c_4 => ?_)
    · refine lv_goto (tgt := 649) hx hb dLaw_law_189 (by decide) ?_
      exact tail u y1 f _ _ ls hR hP hS (lv_sub hl [1, 2, 3, 4, 5] rfl)
    · exact absurd (show mf_RiscHartModel_thrown y1 = r from hL.1.symm) c_4
  by_cases c_5 : (v0 &&& 15) = 2
  · refine lv_tableIn (tgt := 192) hx hb dLaw_law_39 (by rw [c_5]; decide) (by rw [c_5]; decide) (by rw [c_5]; rfl) (by decide) ?_
    refine lv_aload_n hx hb dLaw_law_192 rfl (lv_at hl 1 rfl) ?_
    refine lv_aload_n hx hb dLaw_law_193 rfl (lv_at hl 4 rfl) ?_
    refine lv_iload hx hb dLaw_law_194 (lv_at hl 0 rfl) ?_
    refine lv_iconst (v := 1) hx hb dLaw_law_196 (by decide) ?_
    refine lv_iadd hx hb dLaw_law_197 ?_
    refine sc_ld hx hb hX hbl hbA hS (sc_in (k := 1) (by omega) hLb) hv1 dLaw_law_198 ?_
    refine lv_aload_n hx hb dLaw_law_199 rfl (lv_at hl 3 rfl) ?_
    refine va_calli (post := fun r u => (r, u) = lf_peek z f v1) (B := fun u t => va_P D hcl (wo_W cR cW cP cL h0 h1 h2 h3 h4 o0 u.1 u.2) t.heap) (th_runS (As := [.ref h0, .int v1, .ref o0]) (rest := []) hx hb hml hown hg (lc_peek l htr (hP.sub [0, 1, 2, 3, 4, 9] rfl) (jw_O (hD z y f)) v1) tw_483 tw_484 tw_45 tw_485 rfl rfl hdLaw_peek.2 ⟨Nat.le_trans (Nat.le_of_ble_eq_true rfl) hRf, Nat.le_trans (Nat.le_of_ble_eq_true rfl) hRl⟩ (mk_preSZ (hK.sub [0, 1, 2, 6] rfl) (th_ZS hZ hS)) rfl rfl hl.1 rfl (lv_room (Nat.le_of_ble_eq_true rfl)) dLaw_law_200 ⟨hc, hs⟩) hS (fun q _ h => jw_AW (hD z y f) h) (fun q h => jw_AW (hD z y f) h) (fun r u t H locs ht _ hw hB _ hk hS => ?_)
    have hw : (r, u) = lf_peek z f v1 := hw
    have hB : va_P D hcl (wo_W cR cW cP cL h0 h1 h2 h3 h4 o0 u.1 u.2) t.heap := hB
    rw [ht] at hB
    have hP := jn_O hP (hD z y f) hB hk
    clear hB
    refine lv_istore (lv' := [(5, .int r), (4, .int (nI (3 * j))), (1, .ref h0), (2, .ref m0), (3, .ref o0), (0, .ref b)]) hx hb dLaw_law_203 hl (by decide) rfl (fun ls hl => ?_)
    refine lv_aload_n hx hb dLaw_law_205 rfl (lv_at hl 3 rfl) ?_
    refine lv_aload_n hx hb dLaw_law_206 rfl (lv_at hl 5 rfl) ?_
    refine lv_iload hx hb dLaw_law_207 (lv_at hl 1 rfl) ?_
    refine lv_iconst (v := 1) hx hb dLaw_law_209 (by decide) ?_
    refine lv_iadd hx hb dLaw_law_210 ?_
    refine sc_ld hx hb hX hbl hbA hS (sc_in (k := 1) (by omega) hLb) hv1 dLaw_law_211 ?_
    refine va_calli (post := fun r u => (r, u) = mf_RiscHartModel_peek y v1) (B := fun u t => va_P D hcl (ms_W cB cO cX m0 m1 m2 m3 u) t.heap) (va_runV (As := [.int v1]) (rest := []) ⟨hx, hb, hml, hown, hts⟩ (mc_RiscHartModel_peek l (hP.sub [5, 6, 7, 8] rfl) (jw_M (hD u.1 y u.2)) v1) (cwV 1 hts (mk_gV tw_621 tw_622 tw_623 tw_48 tw_624) rfl rfl rfl hdMod_peek ⟨Nat.le_trans (Nat.le_of_ble_eq_true rfl) hRf, Nat.le_trans (Nat.le_of_ble_eq_true rfl) hRl⟩) (mk_preVK (hK.sub [3, 4, 5] rfl) (va_recv hK hP (ci := 2) (q0 := 5) rfl rfl)) rfl rfl hl.1 rfl (lv_room (Nat.le_of_ble_eq_true rfl)) dLaw_law_212 ⟨hc, hs⟩) hS (fun q _ h => jw_AM (hD u.1 y u.2) h) (fun q h => jw_AM (hD u.1 y u.2) h) (fun b1 y1 t H locs ht _ hwm hB _ hk hS => ?_)
    have hwm : (b1, y1) = mf_RiscHartModel_peek y v1 := hwm
    have hB : va_P D hcl (ms_W cB cO cX m0 m1 m2 m3 y1) t.heap := hB
    rw [ht] at hB
    have hP := jn_M hP (hD u.1 y u.2) hB hk
    clear hB
    have hL := LW_peek hR f v1
    rw [← hw, ← hwm] at hL
    have hL : r = ms_code y1 ∧ Rel u.1 y1 ∧ (r = 0 → u.2 0 = b1.toInt64) := hL
    have hR := hL.2.1
    refine lv_istore (lv' := [(6, .int b1), (5, .int r), (4, .int (nI (3 * j))), (1, .ref h0), (2, .ref m0), (3, .ref o0), (0, .ref b)]) hx hb dLaw_law_215 hl (by decide) rfl (fun ls hl => ?_)
    refine lv_aload_n hx hb dLaw_law_217 rfl (lv_at hl 4 rfl) ?_
    refine mk_callR (va_runV (As := []) (rest := []) ⟨hx, hb, hml, hown, hts⟩ (mc_RiscHartModel_thrown l (hP.sub [5, 6, 7, 8] rfl) ) (cwV 0 hts (mk_gV tw_600 tw_601 tw_602 tw_48 tw_603) rfl rfl rfl hdMod_thrown ⟨Nat.le_trans (Nat.le_of_ble_eq_true rfl) hRf, Nat.le_trans (Nat.le_of_ble_eq_true rfl) hRl⟩) (mk_preVK (hK.sub [3, 4, 5] rfl) (va_recv hK hP (ci := 2) (q0 := 5) rfl rfl)) rfl rfl hl.1 rfl (lv_room (Nat.le_of_ble_eq_true rfl)) dLaw_law_218 ⟨hc, hs⟩) ?_
    refine lv_iload hx hb dLaw_law_221 (lv_at hl 1 rfl) ?_
    refine lv_icmp_eq (tgt := 228) hx hb dLaw_law_223 (by decide) (fun c_6 => ?_) (fun c_6 => ?_)
    · refine lv_iload hx hb dLaw_law_228 (lv_at hl 1 rfl) ?_
      refine lv_if_ne (tgt := 245) hx hb dLaw_law_230 (by decide) (fun c_7 => ?_) (fun c_7 => ?_)
      · refine lv_goto (tgt := 649) hx hb dLaw_law_245 (by decide) ?_
        exact tail u.1 y1 u.2 _ _ ls hR hP hS (lv_sub hl [2, 3, 4, 5, 6] rfl)
      · refine lv_aload_n hx hb dLaw_law_233 rfl (lv_at hl 5 rfl) ?_
        refine lv_iconst (v := 0) hx hb dLaw_law_234 (by decide) ?_
        refine va_lald (D := D) (f := u.2) hx hb hK hP 9 6 rfl rfl (in_k (by decide)) dLaw_law_235 ?_
        refine lv_iload hx hb dLaw_law_236 (lv_at hl 0 rfl) ?_
        refine lv_i2l (v := b1.toInt64) hx hb dLaw_law_238 rfl ?_
        refine W.lcmp hx hb dLaw_law_239 ?_
        refine lv_if_eq (tgt := 245) hx hb dLaw_law_240 (by decide) (fun c_8 => ?_) (fun c_8 => ?_)
        · refine lv_goto (tgt := 649) hx hb dLaw_law_245 (by decide) ?_
          exact tail u.1 y1 u.2 _ _ ls hR hP hS (lv_sub hl [2, 3, 4, 5, 6] rfl)
        · exact absurd (lw_cmp (hL.2.2 c_7)) c_8
    · exact absurd (show mf_RiscHartModel_thrown y1 = r from hL.1.symm) c_6
  by_cases c_9 : (v0 &&& 15) = 3
  · refine lv_tableIn (tgt := 248) hx hb dLaw_law_39 (by rw [c_9]; decide) (by rw [c_9]; decide) (by rw [c_9]; rfl) (by decide) ?_
    refine lv_aload_n hx hb dLaw_law_248 rfl (lv_at hl 1 rfl) ?_
    refine lv_aload_n hx hb dLaw_law_249 rfl (lv_at hl 4 rfl) ?_
    refine lv_iload hx hb dLaw_law_250 (lv_at hl 0 rfl) ?_
    refine lv_iconst (v := 1) hx hb dLaw_law_252 (by decide) ?_
    refine lv_iadd hx hb dLaw_law_253 ?_
    refine sc_ld hx hb hX hbl hbA hS (sc_in (k := 1) (by omega) hLb) hv1 dLaw_law_254 ?_
    refine lv_aload_n hx hb dLaw_law_255 rfl (lv_at hl 4 rfl) ?_
    refine lv_iload hx hb dLaw_law_256 (lv_at hl 0 rfl) ?_
    refine lv_iconst (v := 2) hx hb dLaw_law_258 (by decide) ?_
    refine lv_iadd hx hb dLaw_law_259 ?_
    refine sc_ld hx hb hX hbl hbA hS (sc_in (k := 2) (by omega) hLb) hv2 dLaw_law_260 ?_
    refine lv_aload_n hx hb dLaw_law_261 rfl (lv_at hl 3 rfl) ?_
    refine va_calli (post := fun r u => (r, u) = lf_rights z f v1 v2) (B := fun u t => va_P D hcl (wo_W cR cW cP cL h0 h1 h2 h3 h4 o0 u.1 u.2) t.heap) (th_runS (As := [.ref h0, .int v1, .int v2, .ref o0]) (rest := []) hx hb hml hown hg (lc_rights l htr (hP.sub [0, 1, 2, 3, 4, 9] rfl) (jw_O (hD z y f)) v1 v2) tw_490 tw_491 tw_45 tw_492 rfl rfl hdLaw_rights.2 ⟨Nat.le_trans (Nat.le_of_ble_eq_true rfl) hRf, Nat.le_trans (Nat.le_of_ble_eq_true rfl) hRl⟩ (mk_preSZ (hK.sub [0, 1, 2, 6] rfl) (th_ZS hZ hS)) rfl rfl hl.1 rfl (lv_room (Nat.le_of_ble_eq_true rfl)) dLaw_law_262 ⟨hc, hs⟩) hS (fun q _ h => jw_AW (hD z y f) h) (fun q h => jw_AW (hD z y f) h) (fun r u t H locs ht _ hw hB _ hk hS => ?_)
    have hw : (r, u) = lf_rights z f v1 v2 := hw
    have hB : va_P D hcl (wo_W cR cW cP cL h0 h1 h2 h3 h4 o0 u.1 u.2) t.heap := hB
    rw [ht] at hB
    have hP := jn_O hP (hD z y f) hB hk
    clear hB
    refine lv_istore (lv' := [(5, .int r), (4, .int (nI (3 * j))), (1, .ref h0), (2, .ref m0), (3, .ref o0), (0, .ref b)]) hx hb dLaw_law_265 hl (by decide) rfl (fun ls hl => ?_)
    refine lv_aload_n hx hb dLaw_law_267 rfl (lv_at hl 3 rfl) ?_
    refine lv_aload_n hx hb dLaw_law_268 rfl (lv_at hl 5 rfl) ?_
    refine lv_iload hx hb dLaw_law_269 (lv_at hl 1 rfl) ?_
    refine lv_iconst (v := 1) hx hb dLaw_law_271 (by decide) ?_
    refine lv_iadd hx hb dLaw_law_272 ?_
    refine sc_ld hx hb hX hbl hbA hS (sc_in (k := 1) (by omega) hLb) hv1 dLaw_law_273 ?_
    refine lv_aload_n hx hb dLaw_law_274 rfl (lv_at hl 5 rfl) ?_
    refine lv_iload hx hb dLaw_law_275 (lv_at hl 1 rfl) ?_
    refine lv_iconst (v := 2) hx hb dLaw_law_277 (by decide) ?_
    refine lv_iadd hx hb dLaw_law_278 ?_
    refine sc_ld hx hb hX hbl hbA hS (sc_in (k := 2) (by omega) hLb) hv2 dLaw_law_279 ?_
    refine va_calli (post := fun r u => (r, u) = mf_RiscHartModel_rights y v1 v2) (B := fun u t => va_P D hcl (ms_W cB cO cX m0 m1 m2 m3 u) t.heap) (va_runV (As := [.int v1, .int v2]) (rest := []) ⟨hx, hb, hml, hown, hts⟩ (mc_RiscHartModel_rights l (hP.sub [5, 6, 7, 8] rfl) (jw_M (hD u.1 y u.2)) v1 v2) (cwV 2 hts (mk_gV tw_625 tw_626 tw_627 tw_48 tw_628) rfl rfl rfl hdMod_rights ⟨Nat.le_trans (Nat.le_of_ble_eq_true rfl) hRf, Nat.le_trans (Nat.le_of_ble_eq_true rfl) hRl⟩) (mk_preVK (hK.sub [3, 4, 5] rfl) (va_recv hK hP (ci := 2) (q0 := 5) rfl rfl)) rfl rfl hl.1 rfl (lv_room (Nat.le_of_ble_eq_true rfl)) dLaw_law_280 ⟨hc, hs⟩) hS (fun q _ h => jw_AM (hD u.1 y u.2) h) (fun q h => jw_AM (hD u.1 y u.2) h) (fun b1 y1 t H locs ht _ hwm hB _ hk hS => ?_)
    have hwm : (b1, y1) = mf_RiscHartModel_rights y v1 v2 := hwm
    have hB : va_P D hcl (ms_W cB cO cX m0 m1 m2 m3 y1) t.heap := hB
    rw [ht] at hB
    have hP := jn_M hP (hD u.1 y u.2) hB hk
    clear hB
    have hL := LW_rights hR f v1 v2
    rw [← hw, ← hwm] at hL
    have hL : r = ms_code y1 ∧ Rel u.1 y1 ∧ (r = 0 → u.2 0 = b1.toInt64) := hL
    have hR := hL.2.1
    refine lv_istore (lv' := [(6, .int b1), (5, .int r), (4, .int (nI (3 * j))), (1, .ref h0), (2, .ref m0), (3, .ref o0), (0, .ref b)]) hx hb dLaw_law_283 hl (by decide) rfl (fun ls hl => ?_)
    refine lv_aload_n hx hb dLaw_law_285 rfl (lv_at hl 4 rfl) ?_
    refine mk_callR (va_runV (As := []) (rest := []) ⟨hx, hb, hml, hown, hts⟩ (mc_RiscHartModel_thrown l (hP.sub [5, 6, 7, 8] rfl) ) (cwV 0 hts (mk_gV tw_600 tw_601 tw_602 tw_48 tw_603) rfl rfl rfl hdMod_thrown ⟨Nat.le_trans (Nat.le_of_ble_eq_true rfl) hRf, Nat.le_trans (Nat.le_of_ble_eq_true rfl) hRl⟩) (mk_preVK (hK.sub [3, 4, 5] rfl) (va_recv hK hP (ci := 2) (q0 := 5) rfl rfl)) rfl rfl hl.1 rfl (lv_room (Nat.le_of_ble_eq_true rfl)) dLaw_law_286 ⟨hc, hs⟩) ?_
    refine lv_iload hx hb dLaw_law_289 (lv_at hl 1 rfl) ?_
    refine lv_icmp_eq (tgt := 296) hx hb dLaw_law_291 (by decide) (fun c_10 => ?_) (fun c_10 => ?_)
    · refine lv_iload hx hb dLaw_law_296 (lv_at hl 1 rfl) ?_
      refine lv_if_ne (tgt := 313) hx hb dLaw_law_298 (by decide) (fun c_11 => ?_) (fun c_11 => ?_)
      · refine lv_goto (tgt := 649) hx hb dLaw_law_313 (by decide) ?_
        exact tail u.1 y1 u.2 _ _ ls hR hP hS (lv_sub hl [2, 3, 4, 5, 6] rfl)
      · refine lv_aload_n hx hb dLaw_law_301 rfl (lv_at hl 5 rfl) ?_
        refine lv_iconst (v := 0) hx hb dLaw_law_302 (by decide) ?_
        refine va_lald (D := D) (f := u.2) hx hb hK hP 9 6 rfl rfl (in_k (by decide)) dLaw_law_303 ?_
        refine lv_iload hx hb dLaw_law_304 (lv_at hl 0 rfl) ?_
        refine lv_i2l (v := b1.toInt64) hx hb dLaw_law_306 rfl ?_
        refine W.lcmp hx hb dLaw_law_307 ?_
        refine lv_if_eq (tgt := 313) hx hb dLaw_law_308 (by decide) (fun c_12 => ?_) (fun c_12 => ?_)
        · refine lv_goto (tgt := 649) hx hb dLaw_law_313 (by decide) ?_
          exact tail u.1 y1 u.2 _ _ ls hR hP hS (lv_sub hl [2, 3, 4, 5, 6] rfl)
        · exact absurd (lw_cmp (hL.2.2 c_11)) c_12
    · exact absurd (show mf_RiscHartModel_thrown y1 = r from hL.1.symm) c_10
  by_cases c_13 : (v0 &&& 15) = 4
  · refine lv_tableIn (tgt := 316) hx hb dLaw_law_39 (by rw [c_13]; decide) (by rw [c_13]; decide) (by rw [c_13]; rfl) (by decide) ?_
    refine lv_aload_n hx hb dLaw_law_316 rfl (lv_at hl 1 rfl) ?_
    refine lv_aload_n hx hb dLaw_law_317 rfl (lv_at hl 4 rfl) ?_
    refine lv_iload hx hb dLaw_law_318 (lv_at hl 0 rfl) ?_
    refine lv_iconst (v := 1) hx hb dLaw_law_320 (by decide) ?_
    refine lv_iadd hx hb dLaw_law_321 ?_
    refine sc_ld hx hb hX hbl hbA hS (sc_in (k := 1) (by omega) hLb) hv1 dLaw_law_322 ?_
    refine lv_aload_n hx hb dLaw_law_323 rfl (lv_at hl 4 rfl) ?_
    refine lv_iload hx hb dLaw_law_324 (lv_at hl 0 rfl) ?_
    refine lv_iconst (v := 2) hx hb dLaw_law_326 (by decide) ?_
    refine lv_iadd hx hb dLaw_law_327 ?_
    refine sc_ld hx hb hX hbl hbA hS (sc_in (k := 2) (by omega) hLb) hv2 dLaw_law_328 ?_
    refine lv_aload_n hx hb dLaw_law_329 rfl (lv_at hl 3 rfl) ?_
    refine va_calli (post := fun r u => (r, u) = lf_set z f v1 v2) (B := fun u t => va_P D hcl (wo_W cR cW cP cL h0 h1 h2 h3 h4 o0 u.1 u.2) t.heap) (th_runS (As := [.ref h0, .int v1, .int v2, .ref o0]) (rest := []) hx hb hml hown hg (lc_set l htr (hP.sub [0, 1, 2, 3, 4, 9] rfl) (jw_O (hD z y f)) v1 v2) tw_519 tw_520 tw_45 tw_521 rfl rfl hdLaw_set.2 ⟨Nat.le_trans (Nat.le_of_ble_eq_true rfl) hRf, Nat.le_trans (Nat.le_of_ble_eq_true rfl) hRl⟩ (mk_preSZ (hK.sub [0, 1, 2, 6] rfl) (th_ZS hZ hS)) rfl rfl hl.1 rfl (lv_room (Nat.le_of_ble_eq_true rfl)) dLaw_law_330 ⟨hc, hs⟩) hS (fun q _ h => jw_AW (hD z y f) h) (fun q h => jw_AW (hD z y f) h) (fun r u t H locs ht _ hw hB _ hk hS => ?_)
    have hw : (r, u) = lf_set z f v1 v2 := hw
    have hB : va_P D hcl (wo_W cR cW cP cL h0 h1 h2 h3 h4 o0 u.1 u.2) t.heap := hB
    rw [ht] at hB
    have hP := jn_O hP (hD z y f) hB hk
    clear hB
    refine lv_istore (lv' := [(5, .int r), (4, .int (nI (3 * j))), (1, .ref h0), (2, .ref m0), (3, .ref o0), (0, .ref b)]) hx hb dLaw_law_333 hl (by decide) rfl (fun ls hl => ?_)
    refine lv_aload_n hx hb dLaw_law_335 rfl (lv_at hl 3 rfl) ?_
    refine lv_aload_n hx hb dLaw_law_336 rfl (lv_at hl 5 rfl) ?_
    refine lv_iload hx hb dLaw_law_337 (lv_at hl 1 rfl) ?_
    refine lv_iconst (v := 1) hx hb dLaw_law_339 (by decide) ?_
    refine lv_iadd hx hb dLaw_law_340 ?_
    refine sc_ld hx hb hX hbl hbA hS (sc_in (k := 1) (by omega) hLb) hv1 dLaw_law_341 ?_
    refine lv_aload_n hx hb dLaw_law_342 rfl (lv_at hl 5 rfl) ?_
    refine lv_iload hx hb dLaw_law_343 (lv_at hl 1 rfl) ?_
    refine lv_iconst (v := 2) hx hb dLaw_law_345 (by decide) ?_
    refine lv_iadd hx hb dLaw_law_346 ?_
    refine sc_ld hx hb hX hbl hbA hS (sc_in (k := 2) (by omega) hLb) hv2 dLaw_law_347 ?_
    refine va_calli (post := fun r u => (r, u) = mf_RiscHartModel_set y v1 v2) (B := fun u t => va_P D hcl (ms_W cB cO cX m0 m1 m2 m3 u) t.heap) (va_runV (As := [.int v1, .int v2]) (rest := []) ⟨hx, hb, hml, hown, hts⟩ (mc_RiscHartModel_set l (hP.sub [5, 6, 7, 8] rfl) (jw_M (hD u.1 y u.2)) v1 v2) (cwV 2 hts (mk_gV tw_629 tw_630 tw_631 tw_48 tw_632) rfl rfl rfl hdMod_set ⟨Nat.le_trans (Nat.le_of_ble_eq_true rfl) hRf, Nat.le_trans (Nat.le_of_ble_eq_true rfl) hRl⟩) (mk_preVK (hK.sub [3, 4, 5] rfl) (va_recv hK hP (ci := 2) (q0 := 5) rfl rfl)) rfl rfl hl.1 rfl (lv_room (Nat.le_of_ble_eq_true rfl)) dLaw_law_348 ⟨hc, hs⟩) hS (fun q _ h => jw_AM (hD u.1 y u.2) h) (fun q h => jw_AM (hD u.1 y u.2) h) (fun b1 y1 t H locs ht _ hwm hB _ hk hS => ?_)
    have hwm : (b1, y1) = mf_RiscHartModel_set y v1 v2 := hwm
    have hB : va_P D hcl (ms_W cB cO cX m0 m1 m2 m3 y1) t.heap := hB
    rw [ht] at hB
    have hP := jn_M hP (hD u.1 y u.2) hB hk
    clear hB
    have hL := LW_set hR f v1 v2
    rw [← hw, ← hwm] at hL
    have hL : r = ms_code y1 ∧ Rel u.1 y1 ∧ (r = 0 → u.2 0 = (if b1 = 0 then 0 else 1)) := hL
    have hR := hL.2.1
    refine lv_istore (lv' := [(6, .int b1), (5, .int r), (4, .int (nI (3 * j))), (1, .ref h0), (2, .ref m0), (3, .ref o0), (0, .ref b)]) hx hb dLaw_law_351 hl (by decide) rfl (fun ls hl => ?_)
    refine lv_aload_n hx hb dLaw_law_353 rfl (lv_at hl 4 rfl) ?_
    refine mk_callR (va_runV (As := []) (rest := []) ⟨hx, hb, hml, hown, hts⟩ (mc_RiscHartModel_thrown l (hP.sub [5, 6, 7, 8] rfl) ) (cwV 0 hts (mk_gV tw_600 tw_601 tw_602 tw_48 tw_603) rfl rfl rfl hdMod_thrown ⟨Nat.le_trans (Nat.le_of_ble_eq_true rfl) hRf, Nat.le_trans (Nat.le_of_ble_eq_true rfl) hRl⟩) (mk_preVK (hK.sub [3, 4, 5] rfl) (va_recv hK hP (ci := 2) (q0 := 5) rfl rfl)) rfl rfl hl.1 rfl (lv_room (Nat.le_of_ble_eq_true rfl)) dLaw_law_354 ⟨hc, hs⟩) ?_
    refine lv_iload hx hb dLaw_law_357 (lv_at hl 1 rfl) ?_
    refine lv_icmp_eq (tgt := 364) hx hb dLaw_law_359 (by decide) (fun c_14 => ?_) (fun c_14 => ?_)
    · refine lv_iload hx hb dLaw_law_364 (lv_at hl 1 rfl) ?_
      refine lv_if_ne (tgt := 388) hx hb dLaw_law_366 (by decide) (fun c_15 => ?_) (fun c_15 => ?_)
      · refine lv_goto (tgt := 649) hx hb dLaw_law_388 (by decide) ?_
        exact tail u.1 y1 u.2 _ _ ls hR hP hS (lv_sub hl [2, 3, 4, 5, 6] rfl)
      · refine lv_aload_n hx hb dLaw_law_369 rfl (lv_at hl 5 rfl) ?_
        refine lv_iconst (v := 0) hx hb dLaw_law_370 (by decide) ?_
        refine va_lald (D := D) (f := u.2) hx hb hK hP 9 6 rfl rfl (in_k (by decide)) dLaw_law_371 ?_
        refine lv_iload hx hb dLaw_law_372 (lv_at hl 0 rfl) ?_
        refine lv_if_eq (tgt := 381) hx hb dLaw_law_374 (by decide) (fun c_16 => ?_) (fun c_16 => ?_)
        · refine lv_lconst (v := 0) hx hb dLaw_law_381 (by decide) ?_
          refine W.lcmp hx hb dLaw_law_382 ?_
          refine lv_if_eq (tgt := 388) hx hb dLaw_law_383 (by decide) (fun c_17 => ?_) (fun c_17 => ?_)
          · refine lv_goto (tgt := 649) hx hb dLaw_law_388 (by decide) ?_
            exact tail u.1 y1 u.2 _ _ ls hR hP hS (lv_sub hl [2, 3, 4, 5, 6] rfl)
          · exact absurd (lw_cmp ((hL.2.2 c_15).trans (if_pos c_16))) c_17
        · refine lv_lconst (v := 1) hx hb dLaw_law_377 (by decide) ?_
          refine lv_goto (tgt := 382) hx hb dLaw_law_378 (by decide) ?_
          refine W.lcmp hx hb dLaw_law_382 ?_
          refine lv_if_eq (tgt := 388) hx hb dLaw_law_383 (by decide) (fun c_18 => ?_) (fun c_18 => ?_)
          · refine lv_goto (tgt := 649) hx hb dLaw_law_388 (by decide) ?_
            exact tail u.1 y1 u.2 _ _ ls hR hP hS (lv_sub hl [2, 3, 4, 5, 6] rfl)
          · exact absurd (lw_cmp ((hL.2.2 c_15).trans (if_neg c_16))) c_18
    · exact absurd (show mf_RiscHartModel_thrown y1 = r from hL.1.symm) c_14
  by_cases c_19 : (v0 &&& 15) = 5
  · refine lv_tableIn (tgt := 391) hx hb dLaw_law_39 (by rw [c_19]; decide) (by rw [c_19]; decide) (by rw [c_19]; rfl) (by decide) ?_
    refine lv_aload_n hx hb dLaw_law_391 rfl (lv_at hl 1 rfl) ?_
    refine lv_aload_n hx hb dLaw_law_392 rfl (lv_at hl 4 rfl) ?_
    refine lv_iload hx hb dLaw_law_393 (lv_at hl 0 rfl) ?_
    refine lv_iconst (v := 1) hx hb dLaw_law_395 (by decide) ?_
    refine lv_iadd hx hb dLaw_law_396 ?_
    refine sc_ld hx hb hX hbl hbA hS (sc_in (k := 1) (by omega) hLb) hv1 dLaw_law_397 ?_
    refine lv_aload_n hx hb dLaw_law_398 rfl (lv_at hl 3 rfl) ?_
    refine va_calli (post := fun r u => (r, u) = lf_register z f v1) (B := fun u t => va_P D hcl (wo_W cR cW cP cL h0 h1 h2 h3 h4 o0 u.1 u.2) t.heap) (th_runS (As := [.ref h0, .int v1, .ref o0]) (rest := []) hx hb hml hown hg (lc_register l htr (hP.sub [0, 1, 2, 3, 4, 9] rfl) (jw_O (hD z y f)) v1) tw_527 tw_528 tw_45 tw_529 rfl rfl hdLaw_register.2 ⟨Nat.le_trans (Nat.le_of_ble_eq_true rfl) hRf, Nat.le_trans (Nat.le_of_ble_eq_true rfl) hRl⟩ (mk_preSZ (hK.sub [0, 1, 2, 6] rfl) (th_ZS hZ hS)) rfl rfl hl.1 rfl (lv_room (Nat.le_of_ble_eq_true rfl)) dLaw_law_399 ⟨hc, hs⟩) hS (fun q _ h => jw_AW (hD z y f) h) (fun q h => jw_AW (hD z y f) h) (fun r u t H locs ht _ hw hB _ hk hS => ?_)
    have hw : (r, u) = lf_register z f v1 := hw
    have hB : va_P D hcl (wo_W cR cW cP cL h0 h1 h2 h3 h4 o0 u.1 u.2) t.heap := hB
    rw [ht] at hB
    have hP := jn_O hP (hD z y f) hB hk
    clear hB
    refine lv_istore (lv' := [(5, .int r), (4, .int (nI (3 * j))), (1, .ref h0), (2, .ref m0), (3, .ref o0), (0, .ref b)]) hx hb dLaw_law_402 hl (by decide) rfl (fun ls hl => ?_)
    refine lv_aload_n hx hb dLaw_law_404 rfl (lv_at hl 3 rfl) ?_
    refine lv_aload_n hx hb dLaw_law_405 rfl (lv_at hl 5 rfl) ?_
    refine lv_iload hx hb dLaw_law_406 (lv_at hl 1 rfl) ?_
    refine lv_iconst (v := 1) hx hb dLaw_law_408 (by decide) ?_
    refine lv_iadd hx hb dLaw_law_409 ?_
    refine sc_ld hx hb hX hbl hbA hS (sc_in (k := 1) (by omega) hLb) hv1 dLaw_law_410 ?_
    refine va_calli (post := fun r u => (r, u) = mf_RiscHartModel_register y v1) (B := fun u t => va_P D hcl (ms_W cB cO cX m0 m1 m2 m3 u) t.heap) (va_runV (As := [.int v1]) (rest := []) ⟨hx, hb, hml, hown, hts⟩ (mc_RiscHartModel_register l (hP.sub [5, 6, 7, 8] rfl) (jw_M (hD u.1 y u.2)) v1) (cwV 1 hts (mk_gV tw_633 tw_634 tw_635 tw_48 tw_636) rfl rfl rfl hdMod_register ⟨Nat.le_trans (Nat.le_of_ble_eq_true rfl) hRf, Nat.le_trans (Nat.le_of_ble_eq_true rfl) hRl⟩) (mk_preVK (hK.sub [3, 4, 5] rfl) (va_recv hK hP (ci := 2) (q0 := 5) rfl rfl)) rfl rfl hl.1 rfl (lv_room (Nat.le_of_ble_eq_true rfl)) dLaw_law_411 ⟨hc, hs⟩) hS (fun q _ h => jw_AM (hD u.1 y u.2) h) (fun q h => jw_AM (hD u.1 y u.2) h) (fun b1 y1 t H locs ht _ hwm hB _ hk hS => ?_)
    have hwm : (b1, y1) = mf_RiscHartModel_register y v1 := hwm
    have hB : va_P D hcl (ms_W cB cO cX m0 m1 m2 m3 y1) t.heap := hB
    rw [ht] at hB
    have hP := jn_M hP (hD u.1 y u.2) hB hk
    clear hB
    have hL := LW_register hR f v1
    rw [← hw, ← hwm] at hL
    have hL : r = ms_code y1 ∧ Rel u.1 y1 ∧ (r = 0 → u.2 0 = b1.toInt64) := hL
    have hR := hL.2.1
    refine lv_istore (lv' := [(6, .int b1), (5, .int r), (4, .int (nI (3 * j))), (1, .ref h0), (2, .ref m0), (3, .ref o0), (0, .ref b)]) hx hb dLaw_law_414 hl (by decide) rfl (fun ls hl => ?_)
    refine lv_aload_n hx hb dLaw_law_416 rfl (lv_at hl 4 rfl) ?_
    refine mk_callR (va_runV (As := []) (rest := []) ⟨hx, hb, hml, hown, hts⟩ (mc_RiscHartModel_thrown l (hP.sub [5, 6, 7, 8] rfl) ) (cwV 0 hts (mk_gV tw_600 tw_601 tw_602 tw_48 tw_603) rfl rfl rfl hdMod_thrown ⟨Nat.le_trans (Nat.le_of_ble_eq_true rfl) hRf, Nat.le_trans (Nat.le_of_ble_eq_true rfl) hRl⟩) (mk_preVK (hK.sub [3, 4, 5] rfl) (va_recv hK hP (ci := 2) (q0 := 5) rfl rfl)) rfl rfl hl.1 rfl (lv_room (Nat.le_of_ble_eq_true rfl)) dLaw_law_417 ⟨hc, hs⟩) ?_
    refine lv_iload hx hb dLaw_law_420 (lv_at hl 1 rfl) ?_
    refine lv_icmp_eq (tgt := 427) hx hb dLaw_law_422 (by decide) (fun c_20 => ?_) (fun c_20 => ?_)
    · refine lv_iload hx hb dLaw_law_427 (lv_at hl 1 rfl) ?_
      refine lv_if_ne (tgt := 444) hx hb dLaw_law_429 (by decide) (fun c_21 => ?_) (fun c_21 => ?_)
      · refine lv_goto (tgt := 649) hx hb dLaw_law_444 (by decide) ?_
        exact tail u.1 y1 u.2 _ _ ls hR hP hS (lv_sub hl [2, 3, 4, 5, 6] rfl)
      · refine lv_aload_n hx hb dLaw_law_432 rfl (lv_at hl 5 rfl) ?_
        refine lv_iconst (v := 0) hx hb dLaw_law_433 (by decide) ?_
        refine va_lald (D := D) (f := u.2) hx hb hK hP 9 6 rfl rfl (in_k (by decide)) dLaw_law_434 ?_
        refine lv_iload hx hb dLaw_law_435 (lv_at hl 0 rfl) ?_
        refine lv_i2l (v := b1.toInt64) hx hb dLaw_law_437 rfl ?_
        refine W.lcmp hx hb dLaw_law_438 ?_
        refine lv_if_eq (tgt := 444) hx hb dLaw_law_439 (by decide) (fun c_22 => ?_) (fun c_22 => ?_)
        · refine lv_goto (tgt := 649) hx hb dLaw_law_444 (by decide) ?_
          exact tail u.1 y1 u.2 _ _ ls hR hP hS (lv_sub hl [2, 3, 4, 5, 6] rfl)
        · exact absurd (lw_cmp (hL.2.2 c_21)) c_22
    · exact absurd (show mf_RiscHartModel_thrown y1 = r from hL.1.symm) c_20
  by_cases c_23 : (v0 &&& 15) = 6
  · refine lv_tableIn (tgt := 447) hx hb dLaw_law_39 (by rw [c_23]; decide) (by rw [c_23]; decide) (by rw [c_23]; rfl) (by decide) ?_
    refine lv_aload_n hx hb dLaw_law_447 rfl (lv_at hl 1 rfl) ?_
    refine lv_aload_n hx hb dLaw_law_448 rfl (lv_at hl 4 rfl) ?_
    refine lv_iload hx hb dLaw_law_449 (lv_at hl 0 rfl) ?_
    refine lv_iconst (v := 1) hx hb dLaw_law_451 (by decide) ?_
    refine lv_iadd hx hb dLaw_law_452 ?_
    refine sc_ld hx hb hX hbl hbA hS (sc_in (k := 1) (by omega) hLb) hv1 dLaw_law_453 ?_
    refine va_callv (post := fun u => u = hf_RiscHart_jump z v1) (B := fun u t => va_P D hcl (hs_W cR cW cP h0 h1 h2 h3 h4 u) t.heap) (va_runV (As := [.int v1]) (rest := []) ⟨hx, hb, hml, hown, hts⟩ (hc_RiscHart_jump l (hP.sub [0, 1, 2, 3, 4] rfl) (jw_H (hD z y f)) v1) (cwV 1 hts (mk_gV tw_108 tw_109 tw_110 tw_46 tw_111) rfl rfl rfl hdHart_jump ⟨Nat.le_trans (Nat.le_of_ble_eq_true rfl) hRf, Nat.le_trans (Nat.le_of_ble_eq_true rfl) hRl⟩) (mk_preVK (hK.sub [0, 1, 2] rfl) (va_recv hK hP (ci := 0) (q0 := 0) rfl rfl)) rfl rfl hl.1 rfl (lv_room (Nat.le_of_ble_eq_true rfl)) dLaw_law_454 ⟨Nat.le_of_succ_le hc, Nat.le_trans (Nat.le_add_right _ 6) hs⟩) hS (fun q _ h => jw_AH (hD z y f) h) (fun q h => jw_AH (hD z y f) h) (fun z1 t H locs ht _ hwh hB _ hk hS => ?_)
    have hwh : z1 = hf_RiscHart_jump z v1 := hwh
    have hB : va_P D hcl (hs_W cR cW cP h0 h1 h2 h3 h4 z1) t.heap := hB
    rw [ht] at hB
    have hP := jn_H hP (hD z y f) hB hk
    clear hB
    refine lv_aload_n hx hb dLaw_law_457 rfl (lv_at hl 2 rfl) ?_
    refine lv_aload_n hx hb dLaw_law_458 rfl (lv_at hl 4 rfl) ?_
    refine lv_iload hx hb dLaw_law_459 (lv_at hl 0 rfl) ?_
    refine lv_iconst (v := 1) hx hb dLaw_law_461 (by decide) ?_
    refine lv_iadd hx hb dLaw_law_462 ?_
    refine sc_ld hx hb hX hbl hbA hS (sc_in (k := 1) (by omega) hLb) hv1 dLaw_law_463 ?_
    refine va_callv (post := fun u => u = mf_RiscHartModel_jump y v1) (B := fun u t => va_P D hcl (ms_W cB cO cX m0 m1 m2 m3 u) t.heap) (va_runV (As := [.int v1]) (rest := []) ⟨hx, hb, hml, hown, hts⟩ (mc_RiscHartModel_jump l (hP.sub [5, 6, 7, 8] rfl) (jw_M (hD z1 y f)) v1) (cwV 1 hts (mk_gV tw_637 tw_638 tw_639 tw_48 tw_640) rfl rfl rfl hdMod_jump ⟨Nat.le_trans (Nat.le_of_ble_eq_true rfl) hRf, Nat.le_trans (Nat.le_of_ble_eq_true rfl) hRl⟩) (mk_preVK (hK.sub [3, 4, 5] rfl) (va_recv hK hP (ci := 2) (q0 := 5) rfl rfl)) rfl rfl hl.1 rfl (lv_room (Nat.le_of_ble_eq_true rfl)) dLaw_law_464 ⟨Nat.le_of_succ_le hc, Nat.le_trans (Nat.le_add_right _ 6) hs⟩) hS (fun q _ h => jw_AM (hD z1 y f) h) (fun q h => jw_AM (hD z1 y f) h) (fun y1 t H locs ht _ hwm hB _ hk hS => ?_)
    have hwm : y1 = mf_RiscHartModel_jump y v1 := hwm
    have hB : va_P D hcl (ms_W cB cO cX m0 m1 m2 m3 y1) t.heap := hB
    rw [ht] at hB
    have hP := jn_M hP (hD z1 y f) hB hk
    clear hB
    have hR : Rel z1 y1 := by rw [hwh, hwm]; exact jump_ok hR v1
    refine lv_goto (tgt := 649) hx hb dLaw_law_467 (by decide) ?_
    refine W.widen (k := 10 + (j + 1)) (n := 82138 + 6 * (j + 1)) (Nat.le_succ _) (Nat.le_add_right _ 6) ?_
    exact tail z1 y1 f _ _ ls hR hP hS (lv_sub hl [0, 1, 2, 3, 4] rfl)
  by_cases c_24 : (v0 &&& 15) = 7
  · refine lv_tableIn (tgt := 470) hx hb dLaw_law_39 (by rw [c_24]; decide) (by rw [c_24]; decide) (by rw [c_24]; rfl) (by decide) ?_
    refine lv_aload_n hx hb dLaw_law_470 rfl (lv_at hl 1 rfl) ?_
    refine lv_aload_n hx hb dLaw_law_471 rfl (lv_at hl 4 rfl) ?_
    refine lv_iload hx hb dLaw_law_472 (lv_at hl 0 rfl) ?_
    refine lv_iconst (v := 1) hx hb dLaw_law_474 (by decide) ?_
    refine lv_iadd hx hb dLaw_law_475 ?_
    refine sc_ld hx hb hX hbl hbA hS (sc_in (k := 1) (by omega) hLb) hv1 dLaw_law_476 ?_
    refine lv_i2l (v := v1.toInt64) hx hb dLaw_law_477 rfl ?_
    refine lv_bipush (v := 32) hx hb dLaw_law_478 (by decide) ?_
    refine lv_lshl (v := (ja_lshl v1.toInt64 32)) hx hb dLaw_law_480 rfl ?_
    refine lv_aload_n hx hb dLaw_law_481 rfl (lv_at hl 4 rfl) ?_
    refine lv_iload hx hb dLaw_law_482 (lv_at hl 0 rfl) ?_
    refine lv_iconst (v := 2) hx hb dLaw_law_484 (by decide) ?_
    refine lv_iadd hx hb dLaw_law_485 ?_
    refine sc_ld hx hb hX hbl hbA hS (sc_in (k := 2) (by omega) hLb) hv2 dLaw_law_486 ?_
    refine lv_i2l (v := v2.toInt64) hx hb dLaw_law_487 rfl ?_
    refine lv_ldc2 (v := 4294967295) hx hb hown (hg _ tw_760) dLaw_law_488 ?_
    refine lv_land hx hb dLaw_law_491 ?_
    refine lv_lor hx hb dLaw_law_492 ?_
    refine va_callv (post := fun u => u = hf_RiscHart_clock z ((ja_lshl v1.toInt64 32) ||| (v2.toInt64 &&& 4294967295))) (B := fun u t => va_P D hcl (hs_W cR cW cP h0 h1 h2 h3 h4 u) t.heap) (va_runV (As := [.long ((ja_lshl v1.toInt64 32) ||| (v2.toInt64 &&& 4294967295))]) (rest := []) ⟨hx, hb, hml, hown, hts⟩ (hc_RiscHart_clock l (hP.sub [0, 1, 2, 3, 4] rfl) (jw_H (hD z y f)) ((ja_lshl v1.toInt64 32) ||| (v2.toInt64 &&& 4294967295))) (cwV 1 hts (mk_gV tw_112 tw_113 tw_114 tw_46 tw_115) rfl rfl rfl hdHart_clock ⟨Nat.le_trans (Nat.le_of_ble_eq_true rfl) hRf, Nat.le_trans (Nat.le_of_ble_eq_true rfl) hRl⟩) (mk_preVK (hK.sub [0, 1, 2] rfl) (va_recv hK hP (ci := 0) (q0 := 0) rfl rfl)) rfl rfl hl.1 rfl (lv_room (Nat.le_of_ble_eq_true rfl)) dLaw_law_493 ⟨Nat.le_of_succ_le hc, Nat.le_trans (Nat.le_add_right _ 6) hs⟩) hS (fun q _ h => jw_AH (hD z y f) h) (fun q h => jw_AH (hD z y f) h) (fun z1 t H locs ht _ hwh hB _ hk hS => ?_)
    have hwh : z1 = hf_RiscHart_clock z ((ja_lshl v1.toInt64 32) ||| (v2.toInt64 &&& 4294967295)) := hwh
    have hB : va_P D hcl (hs_W cR cW cP h0 h1 h2 h3 h4 z1) t.heap := hB
    rw [ht] at hB
    have hP := jn_H hP (hD z y f) hB hk
    clear hB
    refine lv_aload_n hx hb dLaw_law_496 rfl (lv_at hl 2 rfl) ?_
    refine lv_aload_n hx hb dLaw_law_497 rfl (lv_at hl 4 rfl) ?_
    refine lv_iload hx hb dLaw_law_498 (lv_at hl 0 rfl) ?_
    refine lv_iconst (v := 1) hx hb dLaw_law_500 (by decide) ?_
    refine lv_iadd hx hb dLaw_law_501 ?_
    refine sc_ld hx hb hX hbl hbA hS (sc_in (k := 1) (by omega) hLb) hv1 dLaw_law_502 ?_
    refine lv_i2l (v := v1.toInt64) hx hb dLaw_law_503 rfl ?_
    refine lv_bipush (v := 32) hx hb dLaw_law_504 (by decide) ?_
    refine lv_lshl (v := (ja_lshl v1.toInt64 32)) hx hb dLaw_law_506 rfl ?_
    refine lv_aload_n hx hb dLaw_law_507 rfl (lv_at hl 4 rfl) ?_
    refine lv_iload hx hb dLaw_law_508 (lv_at hl 0 rfl) ?_
    refine lv_iconst (v := 2) hx hb dLaw_law_510 (by decide) ?_
    refine lv_iadd hx hb dLaw_law_511 ?_
    refine sc_ld hx hb hX hbl hbA hS (sc_in (k := 2) (by omega) hLb) hv2 dLaw_law_512 ?_
    refine lv_i2l (v := v2.toInt64) hx hb dLaw_law_513 rfl ?_
    refine lv_ldc2 (v := 4294967295) hx hb hown (hg _ tw_760) dLaw_law_514 ?_
    refine lv_land hx hb dLaw_law_517 ?_
    refine lv_lor hx hb dLaw_law_518 ?_
    refine va_callv (post := fun u => u = mf_RiscHartModel_clock y ((ja_lshl v1.toInt64 32) ||| (v2.toInt64 &&& 4294967295))) (B := fun u t => va_P D hcl (ms_W cB cO cX m0 m1 m2 m3 u) t.heap) (va_runV (As := [.long ((ja_lshl v1.toInt64 32) ||| (v2.toInt64 &&& 4294967295))]) (rest := []) ⟨hx, hb, hml, hown, hts⟩ (mc_RiscHartModel_clock l (hP.sub [5, 6, 7, 8] rfl) (jw_M (hD z1 y f)) ((ja_lshl v1.toInt64 32) ||| (v2.toInt64 &&& 4294967295))) (cwV 1 hts (mk_gV tw_641 tw_642 tw_643 tw_48 tw_644) rfl rfl rfl hdMod_clock ⟨Nat.le_trans (Nat.le_of_ble_eq_true rfl) hRf, Nat.le_trans (Nat.le_of_ble_eq_true rfl) hRl⟩) (mk_preVK (hK.sub [3, 4, 5] rfl) (va_recv hK hP (ci := 2) (q0 := 5) rfl rfl)) rfl rfl hl.1 rfl (lv_room (Nat.le_of_ble_eq_true rfl)) dLaw_law_519 ⟨Nat.le_of_succ_le hc, Nat.le_trans (Nat.le_add_right _ 6) hs⟩) hS (fun q _ h => jw_AM (hD z1 y f) h) (fun q h => jw_AM (hD z1 y f) h) (fun y1 t H locs ht _ hwm hB _ hk hS => ?_)
    have hwm : y1 = mf_RiscHartModel_clock y ((ja_lshl v1.toInt64 32) ||| (v2.toInt64 &&& 4294967295)) := hwm
    have hB : va_P D hcl (ms_W cB cO cX m0 m1 m2 m3 y1) t.heap := hB
    rw [ht] at hB
    have hP := jn_M hP (hD z1 y f) hB hk
    clear hB
    have hR : Rel z1 y1 := by rw [hwh, hwm]; exact clock_ok hR ((ja_lshl v1.toInt64 32) ||| (v2.toInt64 &&& 4294967295))
    refine lv_goto (tgt := 649) hx hb dLaw_law_522 (by decide) ?_
    refine W.widen (k := 10 + (j + 1)) (n := 82138 + 6 * (j + 1)) (Nat.le_succ _) (Nat.le_add_right _ 6) ?_
    exact tail z1 y1 f _ _ ls hR hP hS (lv_sub hl [0, 1, 2, 3, 4] rfl)
  by_cases c_25 : (v0 &&& 15) = 8
  · refine lv_tableIn (tgt := 525) hx hb dLaw_law_39 (by rw [c_25]; decide) (by rw [c_25]; decide) (by rw [c_25]; rfl) (by decide) ?_
    refine lv_aload_n hx hb dLaw_law_525 rfl (lv_at hl 1 rfl) ?_
    refine va_calli (post := fun r u => (r, u) = hf_RiscHart_step z) (B := fun u t => va_P D hcl (hs_W cR cW cP h0 h1 h2 h3 h4 u) t.heap) (va_runV (As := []) (rest := []) ⟨hx, hb, hml, hown, hts⟩ (hc_RiscHart_step l (hP.sub [0, 1, 2, 3, 4] rfl) (jw_H (hD z y f)) ) (cwV 0 hts (mk_gV tw_116 tw_117 tw_118 tw_46 tw_119) rfl rfl rfl hdHart_step ⟨Nat.le_trans (Nat.le_of_ble_eq_true rfl) hRf, Nat.le_trans (Nat.le_of_ble_eq_true rfl) hRl⟩) (mk_preVK (hK.sub [0, 1, 2] rfl) (va_recv hK hP (ci := 0) (q0 := 0) rfl rfl)) rfl rfl hl.1 rfl (lv_room (Nat.le_of_ble_eq_true rfl)) dLaw_law_526 ⟨Nat.le_of_succ_le hc, Nat.le_trans (Nat.le_add_right _ 6) hs⟩) hS (fun q _ h => jw_AH (hD z y f) h) (fun q h => jw_AH (hD z y f) h) (fun r0 z1 t H locs ht _ hwh hB _ hk hS => ?_)
    have hwh : (r0, z1) = hf_RiscHart_step z := hwh
    have hB : va_P D hcl (hs_W cR cW cP h0 h1 h2 h3 h4 z1) t.heap := hB
    rw [ht] at hB
    have hP := jn_H hP (hD z y f) hB hk
    clear hB
    refine lv_aload_n hx hb dLaw_law_529 rfl (lv_at hl 2 rfl) ?_
    refine va_calli (post := fun r u => (r, u) = mf_RiscHartModel_step y) (B := fun u t => va_P D hcl (ms_W cB cO cX m0 m1 m2 m3 u) t.heap) (va_runV (As := []) (rest := [.int r0]) ⟨hx, hb, hml, hown, hts⟩ (mc_RiscHartModel_step l (hP.sub [5, 6, 7, 8] rfl) (jw_M (hD z1 y f)) ) (cwV 0 hts (mk_gV tw_645 tw_646 tw_647 tw_48 tw_648) rfl rfl rfl hdMod_step ⟨Nat.le_trans (Nat.le_of_ble_eq_true rfl) hRf, Nat.le_trans (Nat.le_of_ble_eq_true rfl) hRl⟩) (mk_preVK (hK.sub [3, 4, 5] rfl) (va_recv hK hP (ci := 2) (q0 := 5) rfl rfl)) rfl rfl hl.1 rfl (lv_room (Nat.le_of_ble_eq_true rfl)) dLaw_law_530 ⟨Nat.le_of_succ_le hc, Nat.le_trans (Nat.le_add_right _ 6) hs⟩) hS (fun q _ h => jw_AM (hD z1 y f) h) (fun q h => jw_AM (hD z1 y f) h) (fun b1 y1 t H locs ht _ hwm hB _ hk hS => ?_)
    have hwm : (b1, y1) = mf_RiscHartModel_step y := hwm
    have hB : va_P D hcl (ms_W cB cO cX m0 m1 m2 m3 y1) t.heap := hB
    rw [ht] at hB
    have hP := jn_M hP (hD z1 y f) hB hk
    clear hB
    have hL := step_eq hR
    have hL : r0 = b1 ∧ Rel z1 y1 := by
      rw [show hf_RiscHart_carryOutNext z = (r0, z1) from hwh.symm, ← hwm] at hL
      exact hL
    have hR := hL.2
    refine lv_icmp_eq (tgt := 649) hx hb dLaw_law_533 (by decide) (fun c_26 => ?_) (fun c_26 => ?_)
    · refine W.widen (k := 10 + (j + 1)) (n := 82138 + 6 * (j + 1)) (Nat.le_succ _) (Nat.le_add_right _ 6) ?_
      exact tail z1 y1 f _ _ ls hR hP hS (lv_sub hl [0, 1, 2, 3, 4] rfl)
    · exact absurd hL.1 c_26
  by_cases c_27 : (v0 &&& 15) = 9
  · refine lv_tableIn (tgt := 538) hx hb dLaw_law_39 (by rw [c_27]; decide) (by rw [c_27]; decide) (by rw [c_27]; rfl) (by decide) ?_
    refine lv_aload_n hx hb dLaw_law_538 rfl (lv_at hl 1 rfl) ?_
    refine lv_aload_n hx hb dLaw_law_539 rfl (lv_at hl 4 rfl) ?_
    refine lv_iload hx hb dLaw_law_540 (lv_at hl 0 rfl) ?_
    refine lv_iconst (v := 1) hx hb dLaw_law_542 (by decide) ?_
    refine lv_iadd hx hb dLaw_law_543 ?_
    refine sc_ld hx hb hX hbl hbA hS (sc_in (k := 1) (by omega) hLb) hv1 dLaw_law_544 ?_
    refine lv_aload_n hx hb dLaw_law_545 rfl (lv_at hl 3 rfl) ?_
    refine va_calli (post := fun r u => (r, u) = lf_run z f v1) (B := fun u t => va_P D hcl (wo_W cR cW cP cL h0 h1 h2 h3 h4 o0 u.1 u.2) t.heap) (th_runS (As := [.ref h0, .int v1, .ref o0]) (rest := []) hx hb hml hown hg (lc_run l htr (hP.sub [0, 1, 2, 3, 4, 9] rfl) (jw_O (hD z y f)) v1) tw_534 tw_535 tw_45 tw_536 rfl rfl hdLaw_run.2 ⟨Nat.le_trans (Nat.le_of_ble_eq_true rfl) hRf, Nat.le_trans (Nat.le_of_ble_eq_true rfl) hRl⟩ (mk_preSZ (hK.sub [0, 1, 2, 6] rfl) (th_ZS hZ hS)) rfl rfl hl.1 rfl (lv_room (Nat.le_of_ble_eq_true rfl)) dLaw_law_546 ⟨hc, hs⟩) hS (fun q _ h => jw_AW (hD z y f) h) (fun q h => jw_AW (hD z y f) h) (fun r u t H locs ht _ hw hB _ hk hS => ?_)
    have hw : (r, u) = lf_run z f v1 := hw
    have hB : va_P D hcl (wo_W cR cW cP cL h0 h1 h2 h3 h4 o0 u.1 u.2) t.heap := hB
    rw [ht] at hB
    have hP := jn_O hP (hD z y f) hB hk
    clear hB
    refine lv_istore (lv' := [(5, .int r), (4, .int (nI (3 * j))), (1, .ref h0), (2, .ref m0), (3, .ref o0), (0, .ref b)]) hx hb dLaw_law_549 hl (by decide) rfl (fun ls hl => ?_)
    refine lv_aload_n hx hb dLaw_law_551 rfl (lv_at hl 3 rfl) ?_
    refine lv_aload_n hx hb dLaw_law_552 rfl (lv_at hl 5 rfl) ?_
    refine lv_iload hx hb dLaw_law_553 (lv_at hl 1 rfl) ?_
    refine lv_iconst (v := 1) hx hb dLaw_law_555 (by decide) ?_
    refine lv_iadd hx hb dLaw_law_556 ?_
    refine sc_ld hx hb hX hbl hbA hS (sc_in (k := 1) (by omega) hLb) hv1 dLaw_law_557 ?_
    refine va_calli (post := fun r u => (r, u) = mf_run y v1) (B := fun u t => va_P D hcl (ms_W cB cO cX m0 m1 m2 m3 u) t.heap) (va_runV (As := [.int v1]) (rest := []) ⟨hx, hb, hml, hown, hts⟩ (mc_RiscHartModel_run l (hP.sub [5, 6, 7, 8] rfl) (jw_M (hD u.1 y u.2)) v1) (cwV 1 hts (mk_gV tw_751 tw_752 tw_753 tw_48 tw_754) rfl rfl rfl hdMod_run ⟨Nat.le_trans (Nat.le_of_ble_eq_true rfl) hRf, Nat.le_trans (Nat.le_of_ble_eq_true rfl) hRl⟩) (mk_preVK (hK.sub [3, 4, 5] rfl) (va_recv hK hP (ci := 2) (q0 := 5) rfl rfl)) rfl rfl hl.1 rfl (lv_room (Nat.le_of_ble_eq_true rfl)) dLaw_law_558 ⟨hc, hs⟩) hS (fun q _ h => jw_AM (hD u.1 y u.2) h) (fun q h => jw_AM (hD u.1 y u.2) h) (fun b1 y1 t H locs ht _ hwm hB _ hk hS => ?_)
    have hwm : (b1, y1) = mf_run y v1 := hwm
    have hB : va_P D hcl (ms_W cB cO cX m0 m1 m2 m3 y1) t.heap := hB
    rw [ht] at hB
    have hP := jn_M hP (hD u.1 y u.2) hB hk
    clear hB
    have hL := LW_run hR f v1
    rw [← hw, ← hwm] at hL
    have hL : r = ms_code y1 ∧ Rel u.1 y1 ∧ (r = 0 → u.2 0 = b1.toInt64) := hL
    have hR := hL.2.1
    refine lv_istore (lv' := [(6, .int b1), (5, .int r), (4, .int (nI (3 * j))), (1, .ref h0), (2, .ref m0), (3, .ref o0), (0, .ref b)]) hx hb dLaw_law_561 hl (by decide) rfl (fun ls hl => ?_)
    refine lv_aload_n hx hb dLaw_law_563 rfl (lv_at hl 4 rfl) ?_
    refine mk_callR (va_runV (As := []) (rest := []) ⟨hx, hb, hml, hown, hts⟩ (mc_RiscHartModel_thrown l (hP.sub [5, 6, 7, 8] rfl) ) (cwV 0 hts (mk_gV tw_600 tw_601 tw_602 tw_48 tw_603) rfl rfl rfl hdMod_thrown ⟨Nat.le_trans (Nat.le_of_ble_eq_true rfl) hRf, Nat.le_trans (Nat.le_of_ble_eq_true rfl) hRl⟩) (mk_preVK (hK.sub [3, 4, 5] rfl) (va_recv hK hP (ci := 2) (q0 := 5) rfl rfl)) rfl rfl hl.1 rfl (lv_room (Nat.le_of_ble_eq_true rfl)) dLaw_law_564 ⟨hc, hs⟩) ?_
    refine lv_iload hx hb dLaw_law_567 (lv_at hl 1 rfl) ?_
    refine lv_icmp_eq (tgt := 574) hx hb dLaw_law_569 (by decide) (fun c_28 => ?_) (fun c_28 => ?_)
    · refine lv_iload hx hb dLaw_law_574 (lv_at hl 1 rfl) ?_
      refine lv_if_ne (tgt := 591) hx hb dLaw_law_576 (by decide) (fun c_29 => ?_) (fun c_29 => ?_)
      · refine lv_goto (tgt := 649) hx hb dLaw_law_591 (by decide) ?_
        exact tail u.1 y1 u.2 _ _ ls hR hP hS (lv_sub hl [2, 3, 4, 5, 6] rfl)
      · refine lv_aload_n hx hb dLaw_law_579 rfl (lv_at hl 5 rfl) ?_
        refine lv_iconst (v := 0) hx hb dLaw_law_580 (by decide) ?_
        refine va_lald (D := D) (f := u.2) hx hb hK hP 9 6 rfl rfl (in_k (by decide)) dLaw_law_581 ?_
        refine lv_iload hx hb dLaw_law_582 (lv_at hl 0 rfl) ?_
        refine lv_i2l (v := b1.toInt64) hx hb dLaw_law_584 rfl ?_
        refine W.lcmp hx hb dLaw_law_585 ?_
        refine lv_if_eq (tgt := 591) hx hb dLaw_law_586 (by decide) (fun c_30 => ?_) (fun c_30 => ?_)
        · refine lv_goto (tgt := 649) hx hb dLaw_law_591 (by decide) ?_
          exact tail u.1 y1 u.2 _ _ ls hR hP hS (lv_sub hl [2, 3, 4, 5, 6] rfl)
        · exact absurd (lw_cmp (hL.2.2 c_29)) c_30
    · exact absurd (show mf_RiscHartModel_thrown y1 = r from hL.1.symm) c_28
  by_cases c_31 : (v0 &&& 15) = 10
  · refine lv_tableIn (tgt := 594) hx hb dLaw_law_39 (by rw [c_31]; decide) (by rw [c_31]; decide) (by rw [c_31]; rfl) (by decide) ?_
    refine lv_aload_n hx hb dLaw_law_594 rfl (lv_at hl 1 rfl) ?_
    refine lv_aload_n hx hb dLaw_law_595 rfl (lv_at hl 4 rfl) ?_
    refine lv_iload hx hb dLaw_law_596 (lv_at hl 0 rfl) ?_
    refine lv_iconst (v := 1) hx hb dLaw_law_598 (by decide) ?_
    refine lv_iadd hx hb dLaw_law_599 ?_
    refine sc_ld hx hb hX hbl hbA hS (sc_in (k := 1) (by omega) hLb) hv1 dLaw_law_600 ?_
    refine lv_aload_n hx hb dLaw_law_601 rfl (lv_at hl 3 rfl) ?_
    refine va_calli (post := fun r u => (r, u) = lf_count z f v1) (B := fun u t => va_P D hcl (wo_W cR cW cP cL h0 h1 h2 h3 h4 o0 u.1 u.2) t.heap) (th_runS (As := [.ref h0, .int v1, .ref o0]) (rest := []) hx hb hml hown hg (lc_count l htr (hP.sub [0, 1, 2, 3, 4, 9] rfl) (jw_O (hD z y f)) v1) tw_542 tw_543 tw_45 tw_544 rfl rfl hdLaw_count.2 ⟨Nat.le_trans (Nat.le_of_ble_eq_true rfl) hRf, Nat.le_trans (Nat.le_of_ble_eq_true rfl) hRl⟩ (mk_preSZ (hK.sub [0, 1, 2, 6] rfl) (th_ZS hZ hS)) rfl rfl hl.1 rfl (lv_room (Nat.le_of_ble_eq_true rfl)) dLaw_law_602 ⟨hc, hs⟩) hS (fun q _ h => jw_AW (hD z y f) h) (fun q h => jw_AW (hD z y f) h) (fun r u t H locs ht _ hw hB _ hk hS => ?_)
    have hw : (r, u) = lf_count z f v1 := hw
    have hB : va_P D hcl (wo_W cR cW cP cL h0 h1 h2 h3 h4 o0 u.1 u.2) t.heap := hB
    rw [ht] at hB
    have hP := jn_O hP (hD z y f) hB hk
    clear hB
    refine lv_istore (lv' := [(5, .int r), (4, .int (nI (3 * j))), (1, .ref h0), (2, .ref m0), (3, .ref o0), (0, .ref b)]) hx hb dLaw_law_605 hl (by decide) rfl (fun ls hl => ?_)
    refine lv_aload_n hx hb dLaw_law_607 rfl (lv_at hl 3 rfl) ?_
    refine lv_aload_n hx hb dLaw_law_608 rfl (lv_at hl 5 rfl) ?_
    refine lv_iload hx hb dLaw_law_609 (lv_at hl 1 rfl) ?_
    refine lv_iconst (v := 1) hx hb dLaw_law_611 (by decide) ?_
    refine lv_iadd hx hb dLaw_law_612 ?_
    refine sc_ld hx hb hX hbl hbA hS (sc_in (k := 1) (by omega) hLb) hv1 dLaw_law_613 ?_
    refine va_calll (post := fun r u => (r, u) = mf_RiscHartModel_count y v1) (B := fun u t => va_P D hcl (ms_W cB cO cX m0 m1 m2 m3 u) t.heap) (va_runV (As := [.int v1]) (rest := []) ⟨hx, hb, hml, hown, hts⟩ (mc_RiscHartModel_count l (hP.sub [5, 6, 7, 8] rfl) (jw_M (hD u.1 y u.2)) v1) (cwV 1 hts (mk_gV tw_756 tw_757 tw_758 tw_48 tw_759) rfl rfl rfl hdMod_count ⟨Nat.le_trans (Nat.le_of_ble_eq_true rfl) hRf, Nat.le_trans (Nat.le_of_ble_eq_true rfl) hRl⟩) (mk_preVK (hK.sub [3, 4, 5] rfl) (va_recv hK hP (ci := 2) (q0 := 5) rfl rfl)) rfl rfl hl.1 rfl (lv_room (Nat.le_of_ble_eq_true rfl)) dLaw_law_614 ⟨hc, hs⟩) hS (fun q _ h => jw_AM (hD u.1 y u.2) h) (fun q h => jw_AM (hD u.1 y u.2) h) (fun b1 y1 t H locs ht _ hwm hB _ hk hS => ?_)
    have hwm : (b1, y1) = mf_RiscHartModel_count y v1 := hwm
    have hB : va_P D hcl (ms_W cB cO cX m0 m1 m2 m3 y1) t.heap := hB
    rw [ht] at hB
    have hP := jn_M hP (hD u.1 y u.2) hB hk
    clear hB
    have hL := LW_count hR f v1
    rw [← hw, ← hwm] at hL
    have hL : r = ms_code y1 ∧ Rel u.1 y1 ∧ (r = 0 → u.2 0 = b1) := hL
    have hR := hL.2.1
    refine lv_lstore (lv' := [(6, .long b1), (5, .int r), (4, .int (nI (3 * j))), (1, .ref h0), (2, .ref m0), (3, .ref o0), (0, .ref b)]) hx hb dLaw_law_617 hl (by decide) rfl (fun ls hl => ?_)
    refine lv_aload_n hx hb dLaw_law_619 rfl (lv_at hl 4 rfl) ?_
    refine mk_callR (va_runV (As := []) (rest := []) ⟨hx, hb, hml, hown, hts⟩ (mc_RiscHartModel_thrown l (hP.sub [5, 6, 7, 8] rfl) ) (cwV 0 hts (mk_gV tw_600 tw_601 tw_602 tw_48 tw_603) rfl rfl rfl hdMod_thrown ⟨Nat.le_trans (Nat.le_of_ble_eq_true rfl) hRf, Nat.le_trans (Nat.le_of_ble_eq_true rfl) hRl⟩) (mk_preVK (hK.sub [3, 4, 5] rfl) (va_recv hK hP (ci := 2) (q0 := 5) rfl rfl)) rfl rfl hl.1 rfl (lv_room (Nat.le_of_ble_eq_true rfl)) dLaw_law_620 ⟨hc, hs⟩) ?_
    refine lv_iload hx hb dLaw_law_623 (lv_at hl 1 rfl) ?_
    refine lv_icmp_eq (tgt := 630) hx hb dLaw_law_625 (by decide) (fun c_32 => ?_) (fun c_32 => ?_)
    · refine lv_iload hx hb dLaw_law_630 (lv_at hl 1 rfl) ?_
      refine lv_if_ne (tgt := 646) hx hb dLaw_law_632 (by decide) (fun c_33 => ?_) (fun c_33 => ?_)
      · refine lv_goto (tgt := 649) hx hb dLaw_law_646 (by decide) ?_
        exact tail u.1 y1 u.2 _ _ ls hR hP hS (lv_sub hl [2, 3, 4, 5, 6] rfl)
      · refine lv_aload_n hx hb dLaw_law_635 rfl (lv_at hl 5 rfl) ?_
        refine lv_iconst (v := 0) hx hb dLaw_law_636 (by decide) ?_
        refine va_lald (D := D) (f := u.2) hx hb hK hP 9 6 rfl rfl (in_k (by decide)) dLaw_law_637 ?_
        refine lv_lload hx hb dLaw_law_638 (lv_at hl 0 rfl) ?_
        refine W.lcmp hx hb dLaw_law_640 ?_
        refine lv_if_eq (tgt := 646) hx hb dLaw_law_641 (by decide) (fun c_34 => ?_) (fun c_34 => ?_)
        · refine lv_goto (tgt := 649) hx hb dLaw_law_646 (by decide) ?_
          exact tail u.1 y1 u.2 _ _ ls hR hP hS (lv_sub hl [2, 3, 4, 5, 6] rfl)
        · exact absurd (lw_cmp (hL.2.2 c_33)) c_34
    · exact absurd (show mf_RiscHartModel_thrown y1 = r from hL.1.symm) c_32
  refine mk_table (tgt := 649) hx hb dLaw_law_39 (mk_gap (N := 11) [0, 1, 2, 3, 4, 5, 6, 7, 8, 9, 10] (by decide) (by decide) (by have q_1 := lv_neT (a := 0) c_1 rfl; have q_3 := lv_neT (a := 1) c_3 rfl; have q_5 := lv_neT (a := 2) c_5 rfl; have q_9 := lv_neT (a := 3) c_9 rfl; have q_13 := lv_neT (a := 4) c_13 rfl; have q_19 := lv_neT (a := 5) c_19 rfl; have q_23 := lv_neT (a := 6) c_23 rfl; have q_24 := lv_neT (a := 7) c_24 rfl; have q_25 := lv_neT (a := 8) c_25 rfl; have q_27 := lv_neT (a := 9) c_27 rfl; have q_31 := lv_neT (a := 10) c_31 rfl; intro n hn; simp only [List.mem_cons, List.not_mem_nil, or_false, not_or]; omega)) (by decide) ?_
  refine W.widen (k := 10 + (j + 1)) (n := 82138 + 6 * (j + 1)) (Nat.le_succ _) (Nat.le_add_right _ 6) ?_
  exact tail z y f _ _ ls hR hP hS (lv_sub hl [0, 1, 2, 3, 4] rfl)
