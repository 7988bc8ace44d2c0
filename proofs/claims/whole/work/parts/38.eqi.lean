theorem half_m {z : HS} {y : MS} (h : Rel z y) {j : Nat} (hj : j + 1 < 65536) : mf_RiscHartModel_half y (nI j) = byteOf z j ||| (byteOf z (j + 1) <<< ((8 : Int32) &&& 31)) := by
  unfold mf_RiscHartModel_half
  rw [nI_clamp (by omega), show (nI j + 1).toNatClampNeg = j + 1 from by_clamp 1 (by omega), h.2.2.1 j (by omega), h.2.2.1 (j + 1) hj]
theorem word_m {z : HS} {y : MS} (h : Rel z y) {j : Nat} (hj : j + 3 < 65536) (h4 : j % 4 = 0) : mf_RiscHartModel_half y (nI j) ||| (mf_RiscHartModel_half y (nI j + 2) <<< ((16 : Int32) &&& 31)) = hf_Memory_read z 2 (nI j) := by
  rw [show nI j + 2 = nI (j + 2) from nI_add j 2, half_m h (by omega), half_m h (j := j + 2) (by omega)]
  exact word_bytes z (by omega) h4
theorem resv_rel {z : HS} {y : MS} {w : Int32} (h : RelD z y w) (r : Int32) (hr : okr r) : RelD (hs_set_reserved z r) (ms_set_reserved y r) w := by
  obtain ⟨⟨h1, h2, h3, h4, h5, h6, h7, h8, h9, h10, h11⟩, hb, hm, hw, hp⟩ := h
  exact ⟨⟨h1, h2, h3, h4, h5, h6, h7, rfl, h9, h10, hr⟩, hb, hm, hw, hp⟩
theorem wr_resv (z : HS) (f v : Int32) {j : Nat} (hj : j < 65536) : hs_set_reserved (hf_Memory_write z f (nI j) v) (-1) = hf_Memory_write (hs_set_reserved z (-1)) f (nI j) v := by
  unfold hf_Memory_write
  rw [and_m4 hj]
  rw [if_neg (show ¬ hs_reserved (hs_set_reserved z (-1)) = nI (4 * (j / 4)) from m1_ne (by omega))]
  by_cases h : hs_reserved z = nI (4 * (j / 4))
  · rw [if_pos h]; rfl
  · rw [if_neg h]; rfl
theorem chg_eq {k : Int32} (hk : k = 0 ∨ k = 1 ∨ k = 4 ∨ k = 8 ∨ k = 12 ∨ k = 16 ∨ k = 20 ∨ k = 24 ∨ k = 28) (v b : Int32) : hf_Arithmetic_changed k v b = mf_RiscHartModel_changed k v b := by
  unfold hf_Arithmetic_changed mf_RiscHartModel_changed mf_RiscHartModel_changed_t41 hf_Arithmetic_isBelow
  rcases hk with rfl | rfl | rfl | rfl | rfl | rfl | rfl | rfl | rfl
  · simp
  · simp
  · simp
  · simp
  · simp
  · by_cases c : b ≤ v <;> simp [c]
  · by_cases c : b ≤ v <;> simp [c]
  · by_cases c : 0 ≤ lg_cmp (v.toInt64 &&& 4294967295) (b.toInt64 &&& 4294967295) <;> simp [c]
  · by_cases c : 0 ≤ lg_cmp (v.toInt64 &&& 4294967295) (b.toInt64 &&& 4294967295) <;> simp [c]
theorem put_rel {z : HS} {y : MS} {w : Int32} (h : RelD z y w) (a v : Int32) (h1 : hf_Memory_isMisaligned 2 a = 0) (h2 : ¬ hf_Memory_allows z 2 a = 0) : RelD (hf_Memory_write z 2 a v) (mf_RiscHartModel_put y 2 a v) w := by
  obtain ⟨p1, p2, p3, p4, p5, p6⟩ := put_ok h.1 (f := 2) (M := 4) (by omega) a v h1 h2
  refine ⟨p1, ?_, ?_, ?_, ?_⟩
  · exact p5.trans (h.2.1.trans p2.symm)
  · exact p3.trans h.2.2.1
  · exact p4.trans h.2.2.2.1
  · exact (congrArg ev p6).mpr h.2.2.2.2
theorem allows_resv (z : HS) (r a : Int32) (c : Int32) : hf_Memory_allows (hs_set_reserved z c) r a = hf_Memory_allows z r a := rfl
theorem read_resv (z : HS) (f a c : Int32) : hf_Memory_read (hs_set_reserved z c) f a = hf_Memory_read z f a := rfl
theorem at_al {z : HS} {a : Int32} {r : Int32} (h1 : hf_Memory_isMisaligned 2 a = 0) (h2 : ¬ hf_Memory_allows z r a = 0) : ∃ j, j + 3 < 65536 ∧ j % 4 = 0 ∧ a = nI j := by
  have hh : ¬ hf_Memory_holds a = 0 := fun q => h2 (by unfold hf_Memory_allows; rw [if_pos q])
  obtain ⟨j, hj, rfl⟩ := ja_holds hh
  have := al (f := 2) (M := 4) (by omega) (by omega) h1
  exact ⟨j, by omega, this, rfl⟩
/-- load reserved -/
theorem sim_lr {z : HS} {y : MS} {w : Int32} (h : RelD z y w) (d a : Int32) (hd : vp_in d 32) (h1 : hf_Memory_isMisaligned 2 a = 0) (h2 : ¬ hf_Memory_allows z 1 a = 0) : Out (hf_RiscHart_loadReserved z d a).1 (hf_RiscHart_loadReserved z d a).2 (mf_RiscHartModel_give (ms_set_reserved y a) d (mf_RiscHartModel_half y a ||| (mf_RiscHartModel_half y (a + 2) <<< ((16 : Int32) &&& 31)))) := by
  obtain ⟨j, hj, h4, rfl⟩ := at_al h1 h2
  rw [word_m h.1 hj h4]
  exact sim_give (resv_rel h (nI j) (Or.inr ⟨j / 4, by omega, by congr 1; omega⟩)) d _ hd
theorem sim_sc {z : HS} {y : MS} {w : Int32} (h : RelD z y w) (d a b : Int32) (hd : vp_in d 32) (h1 : hf_Memory_isMisaligned 2 a = 0) (h2 : ¬ hf_Memory_allows z 2 a = 0) (w' f' v6 v7 : Int32) :
    Out (hf_RiscHart_storeConditional z d a b).1 (hf_RiscHart_storeConditional z d a b).2 (mf_RiscHartModel_give (if ms_reserved y = a then mf_RiscHartModel_atomic_t186 y w' f' 3 a b v6 v7 1 else mf_RiscHartModel_atomic_t186 y w' f' 3 a b v6 v7 0).2 d (if ms_reserved y = a then mf_RiscHartModel_atomic_t186 y w' f' 3 a b v6 v7 1 else mf_RiscHartModel_atomic_t186 y w' f' 3 a b v6 v7 0).1) := by
  obtain ⟨j, hj, h4, rfl⟩ := at_al h1 h2
  have hR : ms_reserved y = hs_reserved z := h.1.2.2.2.2.2.2.2.1
  have h' := resv_rel h (-1) (Or.inl rfl)
  unfold hf_RiscHart_storeConditional
  by_cases c : hs_reserved z = nI j
  · rw [show hf_Memory_reservedAddress z = hs_reserved z from rfl, if_pos c, if_pos (hR.trans c)]
    rw [show mf_RiscHartModel_atomic_t186 y w' f' 3 (nI j) b v6 v7 1 = (0, mf_RiscHartModel_put (ms_set_reserved y (-1)) 2 (nI j) b) by unfold mf_RiscHartModel_atomic_t186; rw [if_pos rfl, if_neg (by decide)]]
    rw [show hf_Memory_reserve (hf_Memory_write z 2 (nI j) b) (-1) = hs_set_reserved (hf_Memory_write z 2 (nI j) b) (-1) from rfl, wr_resv z 2 b (by omega)]
    exact sim_give (put_rel h' (nI j) b h1 (by rw [allows_resv]; exact h2)) d 0 hd
  · rw [show hf_Memory_reservedAddress z = hs_reserved z from rfl, if_neg c, if_neg (fun q => c (hR.symm.trans q))]
    rw [show mf_RiscHartModel_atomic_t186 y w' f' 3 (nI j) b v6 v7 0 = (1, ms_set_reserved y (-1)) by unfold mf_RiscHartModel_atomic_t186; rw [if_pos rfl, if_pos rfl]]
    exact sim_give h' d 1 hd
theorem sim_chg {z : HS} {y : MS} {w : Int32} (h : RelD z y w) {k : Int32} (hk : k = 0 ∨ k = 1 ∨ k = 4 ∨ k = 8 ∨ k = 12 ∨ k = 16 ∨ k = 20 ∨ k = 24 ∨ k = 28) (d a b : Int32) (hd : vp_in d 32) (h1 : hf_Memory_isMisaligned 2 a = 0) (h2 : ¬ hf_Memory_allows z 2 a = 0) (w' f' v6 v8 : Int32) :
    Out (hf_RiscHart_change z k d a b).1 (hf_RiscHart_change z k d a b).2 (mf_RiscHartModel_give (mf_RiscHartModel_atomic_t186 y w' f' k a b v6 (mf_RiscHartModel_half y a ||| (mf_RiscHartModel_half y (a + 2) <<< ((16 : Int32) &&& 31))) v8).2 d (mf_RiscHartModel_atomic_t186 y w' f' k a b v6 (mf_RiscHartModel_half y a ||| (mf_RiscHartModel_half y (a + 2) <<< ((16 : Int32) &&& 31))) v8).1) := by
  obtain ⟨j, hj, h4, rfl⟩ := at_al h1 h2
  have h3 : ¬ k = 3 := by rcases hk with rfl | rfl | rfl | rfl | rfl | rfl | rfl | rfl | rfl <;> decide
  rw [word_m h.1 hj h4]
  unfold hf_RiscHart_change
  rw [show ∀ v7, mf_RiscHartModel_atomic_t186 y w' f' k (nI j) b v6 v7 v8 = (v7, mf_RiscHartModel_put y 2 (nI j) (mf_RiscHartModel_changed k v7 b)) from fun v7 => by unfold mf_RiscHartModel_atomic_t186; rw [if_neg h3]]
  rw [chg_eq hk]
  exact sim_give (put_rel h (nI j) _ h1 h2) d _ hd
theorem kn_set {k : Int32} (hk : ∃ j : Nat, j < 32 ∧ k = nI j) (h : ¬ kn k = 0) (h2 : ¬ k = 2) (h3 : ¬ k = 3) : k = 0 ∨ k = 1 ∨ k = 4 ∨ k = 8 ∨ k = 12 ∨ k = 16 ∨ k = 20 ∨ k = 24 ∨ k = 28 := by
  rcases k32 hk with rfl | rfl | rfl | rfl | rfl | rfl | rfl | rfl | rfl | rfl | rfl | rfl | rfl | rfl | rfl | rfl | rfl | rfl | rfl | rfl | rfl | rfl | rfl | rfl | rfl | rfl | rfl | rfl | rfl | rfl | rfl | rfl <;> first | decide | exact absurd rfl h2 | exact absurd rfl h3 | exact absurd (by decide) h
theorem t48_ill (y : MS) {w f k : Int32} (a b : Int32) {v6 : Int32} (h : ¬ (f = 2 ∧ ¬ v6 = 0 ∧ (k = 2 → mf_RiscHartModel_part w 20 5 = 0))) : mf_RiscHartModel_atomic_t48 y w f k a b v6 = mf_RiscHartModel_illegal y := by
  unfold mf_RiscHartModel_atomic_t48
  by_cases hf : f = 2
  · rw [if_pos hf]
    by_cases hv : v6 = 0
    · rw [if_pos hv]
    · rw [if_neg hv]
      by_cases hk : k = 2
      · rw [if_pos hk, if_neg (fun q => h ⟨hf, hv, fun _ => (b_le0 w).mp q⟩)]
      · exact absurd ⟨hf, hv, fun q => absurd q hk⟩ h
  · rw [if_neg hf]
theorem L_atomic {z : HS} {y : MS} {w : Int32} (h : RelD z y w) : Out (hf_RiscHart_longAtomic z w).1 (hf_RiscHart_longAtomic z w).2 (mf_RiscHartModel_give (mf_RiscHartModel_atomic y w (hf_LongForm_f w) (hf_LongForm_k w) (hs_regs z (hf_LongForm_a w).toNatClampNeg) (hs_regs z (hf_LongForm_b w).toNatClampNeg)).2 (hf_LongForm_d w) (mf_RiscHartModel_atomic y w (hf_LongForm_f w) (hf_LongForm_k w) (hs_regs z (hf_LongForm_a w).toNatClampNeg) (hs_regs z (hf_LongForm_b w).toNatClampNeg)).1) := by
  rw [at_kn]
  unfold hf_RiscHart_longAtomic
  generalize hs_regs z (hf_LongForm_a w).toNatClampNeg = a
  generalize hs_regs z (hf_LongForm_b w).toNatClampNeg = b
  have hd := in_LongForm_d w
  have hm1 : mf_RiscHartModel_may y a 1 = hf_Memory_allows z 1 a := may_eq h.1 a 1 (by omega)
  have hm2 : mf_RiscHartModel_may y a 2 = hf_Memory_allows z 2 a := may_eq h.1 a 2 (by omega)
  by_cases hA : hf_LongForm_isAtomic w = 0
  · rw [if_pos hA, t48_ill y a b ((isA_iff w).mp hA)]
    exact give_ill h (hf_LongForm_d w) (mf_RiscHartModel_illegal y).1
  · rw [if_neg hA]
    have hA2 : hf_LongForm_f w = 2 ∧ ¬ kn (hf_LongForm_k w) = 0 ∧ (hf_LongForm_k w = 2 → hf_LongForm_b w = 0) := Classical.not_not.mp (fun q => hA ((isA_iff w).mpr q))
    obtain ⟨f2, hkn, hb2⟩ := hA2
    unfold mf_RiscHartModel_atomic_t48
    rw [if_pos f2, if_neg hkn]
    by_cases k2 : hf_LongForm_k w = 2
    · rw [if_pos k2, if_pos k2, if_pos ((b_le0 w).mpr (hb2 k2))]
      by_cases c1 : hf_Memory_isMisaligned 2 a = 0
      · rw [if_pos c1, if_pos ((mis4_iff a).mpr c1), hm1]
        by_cases c2 : hf_Memory_allows z 1 a = 0
        · rw [if_pos c2, if_pos c2, give_trapped _ _ (by show ¬ (6 : Int32) = 0; decide)]; exact sim_trap h 6 a (by decide)
        · rw [if_neg c2, if_neg c2]; exact sim_lr h _ a hd c1 c2
      · rw [if_neg c1, if_neg (fun q => c1 ((mis4_iff a).mp q)), give_trapped _ _ (by show ¬ (5 : Int32) = 0; decide)]; exact sim_trap h 5 a (by decide)
    · rw [if_neg k2, if_neg k2, if_neg k2]
      by_cases c1 : hf_Memory_isMisaligned 2 a = 0
      · rw [if_pos c1, if_pos ((mis4_iff a).mpr c1), hm1, hm2]
        by_cases c3 : hf_Memory_allows z 2 a = 0
        · rw [if_pos c3, if_pos c3, give_trapped _ _ (by show ¬ (7 : Int32) = 0; decide)]; exact sim_trap h 7 a (by decide)
        · rw [if_neg c3, if_neg c3]
          by_cases c2 : hf_Memory_allows z 1 a = 0
          · rw [if_pos c2, if_pos c2, give_trapped _ _ (by show ¬ (6 : Int32) = 0; decide)]; exact sim_trap h 6 a (by decide)
          · rw [if_neg c2, if_neg c2]
            by_cases k3 : hf_LongForm_k w = 3
            · rw [if_pos k3, k3]; exact sim_sc h _ a b hd c1 c3 _ _ _ _
            · rw [if_neg k3]
              have hks := kn_set (small_part w 27 5 (by omega)) hkn k2 k3
              by_cases c4 : ms_reserved y = a
              · rw [if_pos c4]; exact sim_chg h hks _ a b hd c1 c3 _ _ _ _
              · rw [if_neg c4]; exact sim_chg h hks _ a b hd c1 c3 _ _ _ _
      · rw [if_neg c1, if_neg (fun q => c1 ((mis4_iff a).mp q)), give_trapped _ _ (by show ¬ (5 : Int32) = 0; decide)]; exact sim_trap h 5 a (by decide)
/-- a long instruction on both sides -/
theorem sim_long {z : HS} {y : MS} {w : Int32} (h : RelD z y w) : Out (hf_RiscHart_carryOutLong z w).1 (hf_RiscHart_carryOutLong z w).2 (mf_RiscHartModel_carry y w) := by
  have hA := rA h.1 w
  have hB := rB h.1 w
  have hpl : ms_place y = hs_place z := h.1.2.2.2.2.1
  have hd := in_LongForm_d w
  unfold hf_RiscHart_carryOutLong mf_RiscHartModel_carry
  rw [op_eq]
  by_cases o3 : mf_RiscHartModel_part w 0 7 = 3
  · rw [if_pos o3, if_pos o3]; exact L_load h
  rw [if_neg o3, if_neg o3]
  by_cases o15 : mf_RiscHartModel_part w 0 7 = 15
  · rw [if_pos o15, if_pos o15, ← LF_f]
    rcases f8 w with e | e | e | e | e | e | e | e <;> rw [e]
    · rw [if_neg (show ¬ (1 : Int32) < 0 by decide), if_pos (show (0 : Int32) ≤ 1 by decide)]; exact sim_none h
    · rw [if_neg (show ¬ (1 : Int32) < 1 by decide), if_pos (show (1 : Int32) ≤ 1 by decide)]; exact sim_none h
    · rw [if_pos (show (1 : Int32) < 2 by decide), if_neg (show ¬ (2 : Int32) ≤ 1 by decide)]; exact sim_illegal h
    · rw [if_pos (show (1 : Int32) < 3 by decide), if_neg (show ¬ (3 : Int32) ≤ 1 by decide)]; exact sim_illegal h
    · rw [if_pos (show (1 : Int32) < 4 by decide), if_neg (show ¬ (4 : Int32) ≤ 1 by decide)]; exact sim_illegal h
    · rw [if_pos (show (1 : Int32) < 5 by decide), if_neg (show ¬ (5 : Int32) ≤ 1 by decide)]; exact sim_illegal h
    · rw [if_pos (show (1 : Int32) < 6 by decide), if_neg (show ¬ (6 : Int32) ≤ 1 by decide)]; exact sim_illegal h
    · rw [if_pos (show (1 : Int32) < 7 by decide), if_neg (show ¬ (7 : Int32) ≤ 1 by decide)]; exact sim_illegal h
  rw [if_neg o15, if_neg o15]
  by_cases o19 : mf_RiscHartModel_part w 0 7 = 19
  · rw [if_pos o19, if_pos o19]; exact L_num h
  rw [if_neg o19, if_neg o19]
  by_cases o23 : mf_RiscHartModel_part w 0 7 = 23
  · rw [if_pos o23, if_pos o23, hpl]; exact sim_give h _ _ hd
  rw [if_neg o23, if_neg o23]
  by_cases o35 : mf_RiscHartModel_part w 0 7 = 35
  · rw [if_pos o35, if_pos o35]; exact L_store h
  rw [if_neg o35, if_neg o35]
  by_cases o47 : mf_RiscHartModel_part w 0 7 = 47
  · rw [if_pos o47, if_pos o47, LF_k2, hA, hB]; exact L_atomic h
  rw [if_neg o47, if_neg o47]
  by_cases o51 : mf_RiscHartModel_part w 0 7 = 51
  · rw [if_pos o51, if_pos o51, hA, hB]; exact L_reg h
  rw [if_neg o51, if_neg o51]
  by_cases o55 : mf_RiscHartModel_part w 0 7 = 55
  · rw [if_pos o55, if_pos o55]; exact sim_give h _ _ hd
  rw [if_neg o55, if_neg o55]
  by_cases o99 : mf_RiscHartModel_part w 0 7 = 99
  · rw [if_pos o99, if_pos o99, hA, hB]; exact L_branch h
  rw [if_neg o99, if_neg o99]
  by_cases o103 : mf_RiscHartModel_part w 0 7 = 103
  · rw [if_pos o103, if_pos o103]; exact L_jalr h
  rw [if_neg o103, if_neg o103]
  by_cases o111 : mf_RiscHartModel_part w 0 7 = 111
  · rw [if_pos o111, if_pos o111]; exact L_jal h _ _ hd (ev_J w)
  rw [if_neg o111, if_neg o111]
  by_cases o115 : mf_RiscHartModel_part w 0 7 = 115
  · rw [if_pos o115, if_pos o115]; exact L_sys h
  rw [if_neg o115, if_neg o115]
  exact sim_illegal h
