/-! one operation on both sides -/
theorem sim_link {z : HS} {y : MS} {w : Int32} (h : RelD z y w) (d t : Int32) (hd : vp_in d 32) : Out (hf_RiscHart_linkAndJump z d t).1 (hf_RiscHart_linkAndJump z d t).2 (ms_set_next (mf_RiscHartModel_give y d (ms_next y)) (t &&& (-2))) := by
  obtain ⟨⟨h1, h2, h3, h4, h5, h6, h7, h8, h9, h10, h11⟩, hb, hm, hw, hp⟩ := h
  obtain ⟨j, hj, rfl⟩ := vp_in_of hd (by omega)
  unfold hf_RiscHart_linkAndJump hf_RiscHart_give mf_RiscHartModel_give
  rw [hb]
  by_cases h0 : j = 0
  · subst h0
    rw [if_pos nI_0, if_pos hm, if_pos (by decide)]
    exact ⟨⟨h1, h2, h3, h4, h5, h6, h7, h8, h9, h10, h11⟩, hm, fun _ => rfl, Or.inl rfl⟩
  · rw [if_neg (nI_ne0 (by omega) (by omega)), if_pos hm, if_neg (nI_nle (by omega) (by omega))]
    refine ⟨⟨fun i hi => ?_, ?_, h3, h4, h5, h6, h7, h8, h9, h10, h11⟩, hm, fun _ => rfl, Or.inl rfl⟩
    · show upd (ms_x y) _ _ i = upd (hs_regs z) _ _ i
      unfold upd
      rw [h1 i hi]
    · show upd (hs_regs z) (nI j).toNatClampNeg _ 0 = 0
      unfold upd
      rw [nI_clamp (by omega), if_neg (by omega)]
      exact h2
theorem give_0 (y : MS) (v : Int32) : mf_RiscHartModel_give y 0 v = y := by
  unfold mf_RiscHartModel_give
  by_cases h : ms_met y = 0
  · rw [if_pos h, if_pos (by decide)]
  · rw [if_neg h]
theorem sim_none {z : HS} {y : MS} {w : Int32} (h : RelD z y w) : Out 0 z y := ⟨h.1, h.2.2.1, fun _ => h.2.1, Or.inl rfl⟩
theorem sim_jump {z : HS} {y : MS} {w : Int32} (h : RelD z y w) (t : Int32) (ht : ev t) : Out (hf_RiscHart_linkAndJump z 0 t).1 (hf_RiscHart_linkAndJump z 0 t).2 (ms_set_next y t) := by
  have := sim_link h 0 t (in_k (by decide))
  rw [give_0, ev_and ht] at this
  exact this
/-- a decision: holds (0 or not) on one side, a proposition on the other -/
theorem sim_if {z : HS} {y : MS} {w : Int32} (h : RelD z y w) (c t : Int32) (ht : ev t) : Out (hf_RiscHart_jumpIf z c t).1 (hf_RiscHart_jumpIf z c t).2 (if c = 0 then y else ms_set_next y t) := by
  unfold hf_RiscHart_jumpIf
  by_cases h0 : c = 0
  · rw [if_pos h0, if_pos h0]; exact sim_none h
  · rw [if_neg h0, if_neg h0]; exact sim_jump h t ht
/-! bytes, one by one -/
theorem by_clamp {j : Nat} (k : Nat) (hj : j + k < 2 ^ 31) : (nI j + nI k).toNatClampNeg = j + k := by rw [nI_add, nI_clamp hj]
theorem sx8 (x : Int32) : x.toInt8.toInt32 = ((x &&& 255) <<< (nI 24 &&& 31)) >>> (nI 24 &&& 31) := by
  refine b_ext (fun i hi => ?_)
  rw [b_sshr 24 (by omega) _ hi, show (31 : Nat) = 24 + 7 from rfl]
  have key : ∀ j, j < 8 → bt ((x &&& 255) <<< (nI 24 &&& 31)) (24 + j) = bt x j := by
    intro j hj
    rw [b_shl 24 (by omega) _ (by omega), b_and, b_255]
    simp [hj]
  have lhs : bt (x.toInt8.toInt32) i = if i < 8 then bt x i else bt x 7 := by
    unfold bt
    rw [Int8.toBitVec_toInt32, BitVec.getLsbD_signExtend]
    simp only [Int32.toBitVec_toInt8, BitVec.getLsbD_setWidth, BitVec.msb_eq_getLsbD_last]
    by_cases h8 : i < 8
    · simp [h8, hi, BitVec.getElem_signExtend]
    · simp [h8, hi, BitVec.getElem_signExtend]
  rw [lhs]
  by_cases h8 : i < 8
  · rw [if_pos h8, if_pos (by omega), key i h8]
  · rw [if_neg h8, if_neg (by omega), key 7 (by omega)]
theorem sx16 (x : Int32) : x.toInt16.toInt32 = ((x &&& 65535) <<< (nI 16 &&& 31)) >>> (nI 16 &&& 31) := by
  refine b_ext (fun i hi => ?_)
  rw [b_sshr 16 (by omega) _ hi, show (31 : Nat) = 16 + 15 from rfl]
  have key : ∀ j, j < 16 → bt ((x &&& 65535) <<< (nI 16 &&& 31)) (16 + j) = bt x j := by
    intro j hj
    rw [b_shl 16 (by omega) _ (by omega), b_and, b_65535]
    simp [hj]
  have lhs : bt (x.toInt16.toInt32) i = if i < 16 then bt x i else bt x 15 := by
    unfold bt
    rw [Int16.toBitVec_toInt32, BitVec.getLsbD_signExtend]
    simp only [Int32.toBitVec_toInt16, BitVec.getLsbD_setWidth, BitVec.msb_eq_getLsbD_last]
    by_cases h8 : i < 16
    · simp [h8, hi, BitVec.getElem_signExtend]
    · simp [h8, hi, BitVec.getElem_signExtend]
  rw [lhs]
  by_cases h8 : i < 16
  · rw [if_pos h8, if_pos (by omega), key i h8]
  · rw [if_neg h8, if_neg (by omega), key 15 (by omega)]
theorem or0 (x : Int32) : (0 : Int32) ||| x = x := by
  refine b_ext (fun i _ => ?_)
  rw [b_or, b_0, Bool.false_or]
theorem shl0 (x : Int32) : x <<< (((8 : Int32) * 0) &&& 31) = x := by
  refine b_ext (fun i hi => ?_)
  refine (b_shl 0 (by omega) x hi).trans ?_
  simp
theorem word4 (z : HS) {j : Nat} (hj : j < 65536) (he : j % 4 = 0) : ((byteOf z j ||| (byteOf z (j + 1) <<< (((8 : Int32) * 1) &&& 31))) ||| (byteOf z (j + 2) <<< (((8 : Int32) * 2) &&& 31))) ||| (byteOf z (j + 3) <<< (((8 : Int32) * 3) &&& 31)) = hf_Memory_read z 2 (nI j) := by
  obtain ⟨n, hn, h⟩ := wb_of32 (hs_words z (j / 4))
  have h2 : hs_words z ((j + 2) / 4) = nI n := by rw [show (j + 2) / 4 = j / 4 by omega]; exact h
  have h3 : hs_words z ((j + 3) / 4) = nI n := by rw [show (j + 3) / 4 = j / 4 by omega]; exact h
  rw [show byteOf z j ||| (byteOf z (j + 1) <<< (((8 : Int32) * 1) &&& 31)) = hf_Memory_read z 5 (nI j) from half_bytes z hj (by omega), rd5, rd2, wIx hj, shIx j hj, h, he, ush_nI hn _ (by omega), byte_nI hn h2, byte_nI hn h3, show (j + 2) % 4 = 2 by omega, show (j + 3) % 4 = 3 by omega]
  rw [show nI (n / 2 ^ (8 * 0)) &&& 65535 = nI (n % 65536) from (pk_andN (by omega) 16 (by decide)).trans (by simp)]
  rw [show nI (n / 2 ^ (8 * 2) % 256) <<< (((8 : Int32) * 2) &&& 31) = nI (n / 2 ^ (8 * 2) % 256 * 2 ^ 16) from shl_nI _ 16 (by omega), or_add 16 (Nat.mod_lt _ (by omega))]
  rw [show nI (n / 2 ^ (8 * 3) % 256) <<< (((8 : Int32) * 3) &&& 31) = nI (n / 2 ^ (8 * 3) % 256 * 2 ^ 24) from shl_nI _ 24 (by omega), or_add 24 (by omega)]
  congr 1
  omega
/-- the reference's load, where nothing is wrong -/
theorem load_ok {z : HS} {y : MS} (h : Rel z y) {f : Nat} (hf : f = 0 ∨ f = 1 ∨ f = 2 ∨ f = 4 ∨ f = 5) {a : Int32} (hmis : hf_Memory_isMisaligned (nI f) a = 0) (hall : ¬ hf_Memory_allows z 1 a = 0) : mf_RiscHartModel_load y (nI f) a = (hf_Memory_read z (nI f) a, y) := by
  have hm1 := (mis_iff (nI f) a).mpr hmis
  have hmay : mf_RiscHartModel_may y a 1 = hf_Memory_allows z 1 a := may_eq h a 1 (by omega)
  have hmay2 : ¬ mf_RiscHartModel_may y a 1 = 0 := by rw [hmay]; exact hall
  obtain ⟨j, hj, rfl⟩ := m_may hmay2
  have hB : ∀ k, j + k < 65536 → ms_bytes y (nI j + nI k).toNatClampNeg = byteOf z (j + k) := fun k hk => by
    rw [by_clamp k (by omega)]; exact h.2.2.1 _ hk
  have hB0 : ms_bytes y (nI j + 0).toNatClampNeg = byteOf z j := hB 0 (by omega)
  unfold mf_RiscHartModel_load
  rcases hf with rfl | rfl | rfl | rfl | rfl
  · rw [if_neg (by decide), if_pos (by decide), if_pos hm1, if_neg hmay2, if_neg (by decide), if_pos (by decide), if_neg (by decide), hB0]
    rw [show hf_Memory_read z (nI 0) (nI j) = _ from rd0 z (nI j), wIx (by omega), shIx j (by omega), sx8, or0, shl0]
    rfl
  · have he : j % 2 = 0 := by
      obtain ⟨m, hm, e⟩ := m_many (nI 1)
      have e2 : m = 2 := by
        have e3 : nI m = nI 2 := by rw [← e]; decide
        exact nI_inj (by omega) (by omega) e3
      rw [e, e2] at hm1
      exact (rem_iff (by omega) (by omega)).mp hm1
    have hB1 : ms_bytes y (nI j + 1).toNatClampNeg = byteOf z (j + 1) := hB 1 (by omega)
    rw [if_neg (by decide), if_pos (by decide), if_pos hm1, if_neg hmay2, if_neg (by decide), if_neg (by decide), if_pos (by decide), if_neg (by decide), hB0, hB1]
    rw [show hf_Memory_read z (nI 1) (nI j) = _ from rd1 z (nI j), sx16, or0, shl0]
    rw [show byteOf z j ||| (byteOf z (j + 1) <<< (((8 : Int32) * 1) &&& 31)) = hf_Memory_read z 5 (nI j) from half_bytes z (by omega) he, rd5]
    rfl
  · have he : j % 4 = 0 := by
      obtain ⟨m, hm, e⟩ := m_many (nI 2)
      have e2 : m = 4 := by
        have e3 : nI m = nI 4 := by rw [← e]; decide
        exact nI_inj (by omega) (by omega) e3
      rw [e, e2] at hm1
      exact (rem_iff (by omega) (by omega)).mp hm1
    have hB1 : ms_bytes y (nI j + 1).toNatClampNeg = byteOf z (j + 1) := hB 1 (by omega)
    have hB2 : ms_bytes y (nI j + 2).toNatClampNeg = byteOf z (j + 2) := hB 2 (by omega)
    have hB3 : ms_bytes y (nI j + 3).toNatClampNeg = byteOf z (j + 3) := hB 3 (by omega)
    rw [if_neg (by decide), if_pos (by decide), if_pos hm1, if_neg hmay2, if_neg (by decide), if_neg (by decide), if_neg (by decide), if_neg (by decide), if_pos (by decide), if_pos (by decide), hB0, hB1, hB2, hB3]
    rw [or0, shl0, word4 z (by omega) he]
    rfl
  · rw [if_neg (by decide), if_pos (by decide), if_pos hm1, if_neg hmay2, if_neg (by decide), if_pos (by decide), if_pos (by decide), hB0]
    rw [show hf_Memory_read z (nI 4) (nI j) = _ from rd4 z (nI j), wIx (by omega), shIx j (by omega), or0, shl0]
    rfl
  · have he : j % 2 = 0 := by
      obtain ⟨m, hm, e⟩ := m_many (nI 5)
      have e2 : m = 2 := by
        have e3 : nI m = nI 2 := by rw [← e]; decide
        exact nI_inj (by omega) (by omega) e3
      rw [e, e2] at hm1
      exact (rem_iff (by omega) (by omega)).mp hm1
    have hB1 : ms_bytes y (nI j + 1).toNatClampNeg = byteOf z (j + 1) := hB 1 (by omega)
    rw [if_neg (by decide), if_pos (by decide), if_pos hm1, if_neg hmay2, if_neg (by decide), if_neg (by decide), if_pos (by decide), if_pos (by decide), hB0, hB1]
    rw [or0, shl0]
    rw [show byteOf z j ||| (byteOf z (j + 1) <<< (((8 : Int32) * 1) &&& 31)) = hf_Memory_read z 5 (nI j) from half_bytes z (by omega) he]
    rfl
theorem sim_load {z : HS} {y : MS} {w : Int32} (h : RelD z y w) {f : Nat} (hf : f = 0 ∨ f = 1 ∨ f = 2 ∨ f = 4 ∨ f = 5) (d a : Int32) (hd : vp_in d 32) : Out (hf_RiscHart_load z (nI f) d a).1 (hf_RiscHart_load z (nI f) d a).2 (mf_RiscHartModel_give (mf_RiscHartModel_load y (nI f) a).2 d (mf_RiscHartModel_load y (nI f) a).1) := by
  have hmay : mf_RiscHartModel_may y a 1 = hf_Memory_allows z 1 a := may_eq h.1 a 1 (by omega)
  unfold hf_RiscHart_load
  have h3 : ¬ nI f = 3 := by rcases hf with rfl | rfl | rfl | rfl | rfl <;> decide
  have h5 : nI f ≤ 5 := by rcases hf with rfl | rfl | rfl | rfl | rfl <;> decide
  by_cases h1 : hf_Memory_isMisaligned (nI f) a = 0
  · rw [if_pos h1]
    by_cases h2 : hf_Memory_allows z 1 a = 0
    · rw [if_pos h2]
      have e : mf_RiscHartModel_load y (nI f) a = mf_RiscHartModel_trap y 6 a := by
        unfold mf_RiscHartModel_load
        rw [if_neg h3, if_pos h5, if_pos ((mis_iff (nI f) a).mpr h1), if_pos (by rw [hmay]; exact h2)]
      rw [e, give_trapped _ _ (by show ¬ (6 : Int32) = 0; decide)]
      exact sim_trap h 6 a (by decide)
    · rw [if_neg h2, load_ok h.1 hf h1 h2]
      exact sim_give h d _ hd
  · rw [if_neg h1]
    have e : mf_RiscHartModel_load y (nI f) a = mf_RiscHartModel_trap y 5 a := by
      unfold mf_RiscHartModel_load
      rw [if_neg h3, if_pos h5, if_neg (fun q => h1 ((mis_iff (nI f) a).mp q))]
    rw [e, give_trapped _ _ (by show ¬ (5 : Int32) = 0; decide)]
    exact sim_trap h 5 a (by decide)
