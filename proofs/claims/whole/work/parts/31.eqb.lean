/-! how the two sides' states hang together -/
def byteOf (z : HS) (j : Nat) : Int32 := ja_ushr (hs_words z (j / 4)) (nI (8 * (j % 4))) &&& 255
def Rel (z : HS) (y : MS) : Prop :=
  (∀ i, i < 32 → ms_x y i = hs_regs z i) ∧ hs_regs z 0 = 0 ∧ (∀ j, j < 65536 → ms_bytes y j = byteOf z j) ∧ (∀ p, p < 64 → ms_open y p = hs_rights z p ∧ ∃ r, r < 8 ∧ hs_rights z p = nI r) ∧
  ms_place y = hs_place z ∧ ms_cause y = hs_cause z ∧ ms_value y = hs_value z ∧ ms_reserved y = hs_reserved z ∧ ms_retired y = hs_retired z ∧ ms_clock y = hs_time z ∧
  (hs_reserved z = -1 ∨ ∃ k, k < 16384 ∧ hs_reserved z = nI (4 * k))
theorem wIx {j : Nat} (hj : j < 65536) : (hf_Memory_wordIndex (nI j)).toNatClampNeg = j / 4 := by
  show (ja_ushr (nI j &&& 65535) (nI 2)).toNatClampNeg = _
  rw [pk_andN (by omega) 16 (by decide), Nat.mod_eq_of_lt hj, ush_nI (by omega) 2 (by omega), nI_clamp (by omega)]
theorem shIx (j : Nat) (hj : j < 65536) : hf_Memory_shiftOf (nI j) = nI (8 * (j % 4)) := by
  show (nI j &&& 3) <<< (nI 3 &&& 31) = _
  rw [pk_andN (by omega) 2 (by decide), shl_nI _ 3 (by omega), Nat.mul_comm]
theorem byte_nI {z : HS} {j n : Nat} (hn : n < 2 ^ 32) (h : hs_words z (j / 4) = nI n) : byteOf z j = nI (n / 2 ^ (8 * (j % 4)) % 256) := by
  unfold byteOf
  rw [h, ush_nI hn _ (by omega)]
  exact pk_andN (Nat.lt_of_le_of_lt (Nat.div_le_self _ _) hn) 8 (by decide)
theorem rd0 (z : HS) (a : Int32) : hf_Memory_read z 0 a = (ja_ushr (hs_words z (hf_Memory_wordIndex a).toNatClampNeg) (hf_Memory_shiftOf a)).toInt8.toInt32 := by
  unfold hf_Memory_read; rw [if_pos rfl]
theorem rd1 (z : HS) (a : Int32) : hf_Memory_read z 1 a = (ja_ushr (hs_words z (hf_Memory_wordIndex a).toNatClampNeg) (hf_Memory_shiftOf a)).toInt16.toInt32 := by
  unfold hf_Memory_read; rw [if_neg (by decide), if_pos rfl]
theorem rd4 (z : HS) (a : Int32) : hf_Memory_read z 4 a = ja_ushr (hs_words z (hf_Memory_wordIndex a).toNatClampNeg) (hf_Memory_shiftOf a) &&& 255 := by
  unfold hf_Memory_read; rw [if_neg (by decide), if_neg (by decide), if_pos rfl]
theorem rd5 (z : HS) (a : Int32) : hf_Memory_read z 5 a = ja_ushr (hs_words z (hf_Memory_wordIndex a).toNatClampNeg) (hf_Memory_shiftOf a) &&& 65535 := by
  unfold hf_Memory_read; rw [if_neg (by decide), if_neg (by decide), if_neg (by decide), if_pos rfl]
theorem rd2 (z : HS) (a : Int32) : hf_Memory_read z 2 a = hs_words z (hf_Memory_wordIndex a).toNatClampNeg := by
  unfold hf_Memory_read; rw [if_neg (by decide), if_neg (by decide), if_neg (by decide), if_neg (by decide)]
/-- a half, as the reference puts it together -/
theorem half_bytes (z : HS) {j : Nat} (hj : j < 65536) (he : j % 2 = 0) : byteOf z j ||| (byteOf z (j + 1) <<< ((8 : Int32) &&& 31)) = hf_Memory_read z 5 (nI j) := by
  obtain ⟨n, hn, h⟩ := wb_of32 (hs_words z (j / 4))
  have h1 : hs_words z ((j + 1) / 4) = nI n := by rw [show (j + 1) / 4 = j / 4 by omega]; exact h
  rw [byte_nI hn h, byte_nI hn h1, rd5, wIx hj, shIx j hj, h, ush_nI hn _ (by omega)]
  refine Eq.trans (congrArg (_ ||| ·) (shl_nI _ 8 (by omega))) ?_
  rw [or_add 8 (Nat.mod_lt _ (by omega))]
  refine Eq.trans ?_ (pk_andN (Nat.lt_of_le_of_lt (Nat.div_le_self _ _) hn) 16 (by decide)).symm
  congr 1
  rcases (show j % 4 = 0 ∨ j % 4 = 2 by omega) with h4 | h4
  · rw [h4, show (j + 1) % 4 = 1 by omega]; omega
  · rw [h4, show (j + 1) % 4 = 3 by omega]; omega
theorem word_bytes (z : HS) {j : Nat} (hj : j < 65536) (he : j % 4 = 0) : (byteOf z j ||| (byteOf z (j + 1) <<< ((8 : Int32) &&& 31))) ||| ((byteOf z (j + 2) ||| (byteOf z (j + 3) <<< ((8 : Int32) &&& 31))) <<< ((16 : Int32) &&& 31)) = hf_Memory_read z 2 (nI j) := by
  obtain ⟨n, hn, h⟩ := wb_of32 (hs_words z (j / 4))
  rw [half_bytes z hj (by omega), half_bytes z (j := j + 2) (by omega) (by omega), rd5, rd5, rd2, wIx hj, shIx j hj, wIx (j := j + 2) (by omega), shIx (j + 2) (by omega), show (j + 2) / 4 = j / 4 by omega, h, he, show (j + 2) % 4 = 2 by omega, ush_nI hn _ (by omega), ush_nI hn _ (by omega)]
  rw [show nI (n / 2 ^ (8 * 0)) &&& 65535 = nI (n % 65536) from (pk_andN (by omega) 16 (by decide)).trans (by simp)]
  rw [show nI (n / 2 ^ (8 * 2)) &&& 65535 = nI (n / 65536 % 65536) from (pk_andN (by omega) 16 (by decide)).trans (by simp)]
  refine Eq.trans (congrArg (_ ||| ·) (shl_nI _ 16 (by omega))) ?_
  rw [or_add 16 (Nat.mod_lt _ (by omega))]
  congr 1
  omega
theorem holds_in (a : Int32) : mf_RiscHartModel_in a 0 65535 = hf_Memory_holds a := rfl
theorem may_eq {z : HS} {y : MS} (h : Rel z y) (a : Int32) (r : Nat) (hr : r < 8) : mf_RiscHartModel_may y a (nI r) = hf_Memory_allows z (nI r) a := by
  unfold mf_RiscHartModel_may hf_Memory_allows
  rw [holds_in]
  by_cases h1 : hf_Memory_holds a = 0
  · rw [if_pos h1, if_pos h1]
  · rw [if_neg h1, if_neg h1]
    obtain ⟨j, hj, rfl⟩ := ja_holds h1
    have e1 : nI j / 1024 = nI (j / 1024) := pk_div (d := 1024) (by omega) (by omega) (by omega)
    have e2 : ja_ushr (nI j) 10 = nI (j / 1024) := ush_nI (by omega) 10 (by omega)
    rw [e1, e2, nI_clamp (by omega)]
    obtain ⟨e3, q, hq, e4⟩ := h.2.2.2.1 (j / 1024) (by omega)
    rw [e3, e4]
    have e5 : nI q &&& nI r = nI (q &&& r) := Int32.toBitVec_inj.mp (by
      rw [Int32.toBitVec_and]
      show BitVec.ofNat 32 q &&& BitVec.ofNat 32 r = BitVec.ofNat 32 (q &&& r)
      apply BitVec.eq_of_toNat_eq
      simp [Nat.and_mod_two_pow])
    have hb : q &&& r < 8 := Nat.lt_of_le_of_lt Nat.and_le_left hq
    rw [e5]
    by_cases h2 : q &&& r = 0
    · rw [h2, if_pos (by decide), if_pos nI_0]
    · rw [if_neg (nI_nle (by omega) (by omega)), if_neg (nI_ne0 (by omega) (by omega))]
theorem toInt_nI {n : Nat} (hn : n < 2 ^ 32) : (nI n).toInt = if n < 2 ^ 31 then (n : Int) else (n : Int) - 2 ^ 32 := by
  show (nI n).toBitVec.toInt = _
  rw [BitVec.toInt_eq_toNat_cond, pk_tn hn]
  by_cases h : n < 2 ^ 31
  · rw [if_pos (by omega), if_pos h]
  · rw [if_neg (by omega), if_neg h]; rfl
theorem rem_iff {n m : Nat} (hn : n < 2 ^ 32) (hm : m = 1 ∨ m = 2 ∨ m = 4 ∨ m = 8) : nI n - nI n / nI m * nI m = 0 ↔ n % m = 0 := by
  have hM : (nI m).toInt = m := nI_toInt (by omega)
  have hd : (nI n / nI m).toInt = (nI n).toInt.tdiv m := by
    rw [Int32.toInt_div_of_ne_right _ _ (fun h => by
      have h1 := congrArg Int32.toInt h
      rw [hM, show Int32.toInt (-1) = -1 from by decide] at h1
      omega), hM]
  have ha := toInt_nI hn
  generalize (nI n).toInt = a at hd ha
  have hq : ∃ q : Int, a.tdiv m = q ∧ ((0 ≤ a ∧ q = a / m) ∨ (a < 0 ∧ q = -((-a) / m))) := by
    rcases Int.lt_or_le a 0 with h | h
    · refine ⟨_, rfl, Or.inr ⟨h, ?_⟩⟩
      have e1 : a = -(-a) := by omega
      rw [e1, Int.neg_tdiv, Int.tdiv_eq_ediv_of_nonneg (by omega)]
      congr 2
      omega
    · exact ⟨_, rfl, Or.inl ⟨h, Int.tdiv_eq_ediv_of_nonneg h⟩⟩
  obtain ⟨q, hq1, hq2⟩ := hq
  rw [hq1] at hd
  have hb1 : -2 ^ 31 ≤ a ∧ a < 2 ^ 31 := by
    by_cases h : n < 2 ^ 31
    · rw [if_pos h] at ha; omega
    · rw [if_neg h] at ha; omega
  have hp : (nI n / nI m * nI m).toInt = q * m := by
    rw [Int32.toInt_mul, hd, hM]
    refine Int.bmod_eq_of_le ?_ ?_ <;> rcases hm with rfl | rfl | rfl | rfl <;> omega
  have hs : (nI n - nI n / nI m * nI m).toInt = a - q * m := by
    rw [Int32.toInt_sub, hp]
    have ha2 : (nI n).toInt = a := by rw [toInt_nI hn]; exact ha.symm
    rw [ha2]
    refine Int.bmod_eq_of_le ?_ ?_ <;> rcases hm with rfl | rfl | rfl | rfl <;> omega
  rw [← Int32.toInt_inj, hs, Int32.toInt_zero]
  by_cases h : n < 2 ^ 31
  · rw [if_pos h] at ha
    rcases hm with rfl | rfl | rfl | rfl <;> omega
  · rw [if_neg h] at ha
    rcases hm with rfl | rfl | rfl | rfl <;> omega
theorem and_iff {n m : Nat} (hn : n < 2 ^ 32) (hm : m = 1 ∨ m = 2 ∨ m = 4 ∨ m = 8) : nI n &&& (nI m - 1) = 0 ↔ n % m = 0 := by
  rcases hm with rfl | rfl | rfl | rfl
  · rw [show nI n &&& (nI 1 - 1) = nI (n % 1) from pk_andN hn 0 (by decide), Nat.mod_one]; exact ⟨fun _ => rfl, fun _ => nI_0⟩
  · rw [show nI n &&& (nI 2 - 1) = nI (n % 2) from pk_andN hn 1 (by decide)]
    exact ⟨fun h => (nI_eq (b := 0) (by omega) (by omega)).mp h, fun h => by rw [h]; rfl⟩
  · rw [show nI n &&& (nI 4 - 1) = nI (n % 4) from pk_andN hn 2 (by decide)]
    exact ⟨fun h => (nI_eq (b := 0) (by omega) (by omega)).mp h, fun h => by rw [h]; rfl⟩
  · rw [show nI n &&& (nI 8 - 1) = nI (n % 8) from pk_andN hn 3 (by decide)]
    exact ⟨fun h => (nI_eq (b := 0) (by omega) (by omega)).mp h, fun h => by rw [h]; rfl⟩
theorem mis_iff (f a : Int32) : (a - a / ((1 : Int32) <<< ((f &&& 3) &&& 31)) * ((1 : Int32) <<< ((f &&& 3) &&& 31))) = 0 ↔ hf_Memory_isMisaligned f a = 0 := by
  obtain ⟨m, hm, e⟩ := m_many f
  obtain ⟨n, hn, rfl⟩ := wb_of32 a
  unfold hf_Memory_isMisaligned
  rw [e, rem_iff hn hm, ← and_iff hn hm]
  by_cases h : nI n &&& (nI m - 1) = 0
  · rw [if_pos h]; exact ⟨fun _ => rfl, fun _ => h⟩
  · rw [if_neg h]; exact ⟨fun q => absurd q h, fun q => absurd q (by decide)⟩
theorem mis4_iff (a : Int32) : (a - a / 4 * 4) = 0 ↔ hf_Memory_isMisaligned 2 a = 0 := mis_iff 2 a
/-- what holds while an instruction is carried out: of the short or long bits w -/
def RelD (z : HS) (y : MS) (w : Int32) : Prop := Rel z y ∧ hs_behind z = ms_next y ∧ ms_met y = 0 ∧ ms_bits y = w ∧ ev (hs_place z)
/-- .. and behind it: c what came of it -/
def Out (c : Int32) (z : HS) (y : MS) : Prop := Rel z y ∧ ms_met y = c ∧ (c = 0 → hs_behind z = ms_next y) ∧ (c = 0 ∨ 0 < c)
theorem in_lt {x : Int32} {n : Nat} (h : vp_in x n) : x.toNatClampNeg < n := Nat.not_le.mp fun q => h (Or.inr q)
theorem sim_trap {z : HS} {y : MS} {w : Int32} (h : RelD z y w) (c v : Int32) (hc : 0 < c) : Out (hf_RiscHart_trap z c v).1 (hf_RiscHart_trap z c v).2 (mf_RiscHartModel_trap y c v).2 := by
  obtain ⟨⟨h1, h2, h3, h4, h5, h6, h7, h8, h9, h10, h11⟩, -⟩ := h
  refine ⟨⟨h1, h2, h3, h4, h5, rfl, rfl, h8, h9, h10, h11⟩, rfl, fun e => ?_, Or.inr hc⟩
  exfalso
  have e1 : c = 0 := e
  subst e1
  exact absurd hc (by decide)
theorem sim_illegal {z : HS} {y : MS} {w : Int32} (h : RelD z y w) : Out (hf_RiscHart_trap z 2 w).1 (hf_RiscHart_trap z 2 w).2 (mf_RiscHartModel_illegal y).2 := by
  have e : mf_RiscHartModel_illegal y = mf_RiscHartModel_trap y 2 w := by unfold mf_RiscHartModel_illegal; rw [h.2.2.2.1]
  rw [e]
  exact sim_trap h 2 w (by decide)
theorem sim_give {z : HS} {y : MS} {w : Int32} (h : RelD z y w) (d v : Int32) (hd : vp_in d 32) : Out (hf_RiscHart_give z d v).1 (hf_RiscHart_give z d v).2 (mf_RiscHartModel_give y d v) := by
  obtain ⟨⟨h1, h2, h3, h4, h5, h6, h7, h8, h9, h10, h11⟩, hb, hm, hw, hp⟩ := h
  obtain ⟨j, hj, rfl⟩ := vp_in_of hd (by omega)
  unfold hf_RiscHart_give mf_RiscHartModel_give
  by_cases h0 : j = 0
  · subst h0
    rw [if_pos nI_0, if_pos hm, if_pos (by decide)]
    exact ⟨⟨h1, h2, h3, h4, h5, h6, h7, h8, h9, h10, h11⟩, hm, fun _ => hb, Or.inl rfl⟩
  · rw [if_neg (nI_ne0 (by omega) (by omega)), if_pos hm, if_neg (nI_nle (by omega) (by omega))]
    refine ⟨⟨fun i hi => ?_, ?_, h3, h4, h5, h6, h7, h8, h9, h10, h11⟩, hm, fun _ => hb, Or.inl rfl⟩
    · show upd (ms_x y) _ v i = upd (hs_regs z) _ v i
      unfold upd
      rw [h1 i hi]
    · show upd (hs_regs z) (nI j).toNatClampNeg v 0 = 0
      unfold upd
      rw [nI_clamp (by omega), if_neg (by omega)]
      exact h2
/-- a give behind a trap does nothing -/
theorem give_trapped {y : MS} (d v : Int32) (h : ¬ ms_met y = 0) : mf_RiscHartModel_give y d v = y := by
  unfold mf_RiscHartModel_give
  rw [if_neg h]
