/-! branches put together -/
theorem br_nI {f a n : Nat} (hf : f < 8) (ha : a < 32) (hn : n < 2 ^ 32) : mf_RiscHartModel_branch (nI f) (nI a) (nI n) = nI (99 + n / 2 ^ 11 % 2 ^ 1 * 2 ^ 7 + n / 2 ^ 1 % 2 ^ 4 * 2 ^ 8 + f * 2 ^ 12 + a * 2 ^ 15 + n / 2 ^ 5 % 2 ^ 6 * 2 ^ 25 + n / 2 ^ 12 % 2 ^ 1 * 2 ^ 31) := by
  unfold mf_RiscHartModel_branch
  rw [show mf_RiscHartModel_bit (nI n) 11 1 7 = _ from bit_nI hn 11 1 7 (by omega) (by omega) (by omega), show mf_RiscHartModel_bit (nI n) 1 4 8 = _ from bit_nI hn 1 4 8 (by omega) (by omega) (by omega), show mf_RiscHartModel_bit (nI n) 5 6 25 = _ from bit_nI hn 5 6 25 (by omega) (by omega) (by omega), show mf_RiscHartModel_bit (nI n) 12 1 31 = _ from bit_nI hn 12 1 31 (by omega) (by omega) (by omega), show nI f <<< ((12 : Int32) &&& 31) = nI (f * 2 ^ 12) from shl_nI f 12 (by omega), show nI a <<< ((15 : Int32) &&& 31) = nI (a * 2 ^ 15) from shl_nI a 15 (by omega)]
  rw [show (99 : Int32) = nI 99 from rfl, or_add 7 (by omega), or_add 8 (by omega), or_add 12 (by omega), or_add 15 (by omega), or_add 25 (by omega), or_add 31 (by omega)]
theorem bf {f a A B C E : Nat} (hf : f < 8) (ha : a < 32) (bA : A < 2) (bB : B < 16) (bC : C < 64) (bE : E < 2) :
    (99 + A * 2 ^ 7 + B * 2 ^ 8 + f * 2 ^ 12 + a * 2 ^ 15 + C * 2 ^ 25 + E * 2 ^ 31) / 2 ^ 31 % 2 ^ 1 = E ∧ (99 + A * 2 ^ 7 + B * 2 ^ 8 + f * 2 ^ 12 + a * 2 ^ 15 + C * 2 ^ 25 + E * 2 ^ 31) / 2 ^ 7 % 2 ^ 1 = A ∧ (99 + A * 2 ^ 7 + B * 2 ^ 8 + f * 2 ^ 12 + a * 2 ^ 15 + C * 2 ^ 25 + E * 2 ^ 31) / 2 ^ 25 % 2 ^ 6 = C ∧ (99 + A * 2 ^ 7 + B * 2 ^ 8 + f * 2 ^ 12 + a * 2 ^ 15 + C * 2 ^ 25 + E * 2 ^ 31) / 2 ^ 8 % 2 ^ 4 = B ∧
    (99 + A * 2 ^ 7 + B * 2 ^ 8 + f * 2 ^ 12 + a * 2 ^ 15 + C * 2 ^ 25 + E * 2 ^ 31) / 2 ^ 0 % 2 ^ 7 = 99 ∧ (99 + A * 2 ^ 7 + B * 2 ^ 8 + f * 2 ^ 12 + a * 2 ^ 15 + C * 2 ^ 25 + E * 2 ^ 31) / 2 ^ 12 % 2 ^ 3 = f ∧ (99 + A * 2 ^ 7 + B * 2 ^ 8 + f * 2 ^ 12 + a * 2 ^ 15 + C * 2 ^ 25 + E * 2 ^ 31) / 2 ^ 15 % 2 ^ 5 = a ∧ (99 + A * 2 ^ 7 + B * 2 ^ 8 + f * 2 ^ 12 + a * 2 ^ 15 + C * 2 ^ 25 + E * 2 ^ 31) / 2 ^ 20 % 2 ^ 5 = 0 ∧ 99 + A * 2 ^ 7 + B * 2 ^ 8 + f * 2 ^ 12 + a * 2 ^ 15 + C * 2 ^ 25 + E * 2 ^ 31 < 2 ^ 32 := by
  have hb : 99 + A * 2 ^ 7 + B * 2 ^ 8 + f * 2 ^ 12 + a * 2 ^ 15 + C * 2 ^ 25 + E * 2 ^ 31 < 2 ^ 32 := by omega
  have e31 : (99 + A * 2 ^ 7 + B * 2 ^ 8 + f * 2 ^ 12 + a * 2 ^ 15 + C * 2 ^ 25 + E * 2 ^ 31) / 2 ^ 31 = E := by omega
  have e25 : (99 + A * 2 ^ 7 + B * 2 ^ 8 + f * 2 ^ 12 + a * 2 ^ 15 + C * 2 ^ 25 + E * 2 ^ 31) / 2 ^ 25 = C + E * 64 := by omega
  have e20 : (99 + A * 2 ^ 7 + B * 2 ^ 8 + f * 2 ^ 12 + a * 2 ^ 15 + C * 2 ^ 25 + E * 2 ^ 31) / 2 ^ 20 = (C + E * 64) * 32 := by omega
  have e15 : (99 + A * 2 ^ 7 + B * 2 ^ 8 + f * 2 ^ 12 + a * 2 ^ 15 + C * 2 ^ 25 + E * 2 ^ 31) / 2 ^ 15 = a + (C + E * 64) * 1024 := by omega
  have e12 : (99 + A * 2 ^ 7 + B * 2 ^ 8 + f * 2 ^ 12 + a * 2 ^ 15 + C * 2 ^ 25 + E * 2 ^ 31) / 2 ^ 12 = f + (a + (C + E * 64) * 1024) * 8 := by omega
  have e8 : (99 + A * 2 ^ 7 + B * 2 ^ 8 + f * 2 ^ 12 + a * 2 ^ 15 + C * 2 ^ 25 + E * 2 ^ 31) / 2 ^ 8 = B + (f + (a + (C + E * 64) * 1024) * 8) * 16 := by omega
  have e7 : (99 + A * 2 ^ 7 + B * 2 ^ 8 + f * 2 ^ 12 + a * 2 ^ 15 + C * 2 ^ 25 + E * 2 ^ 31) / 2 ^ 7 = A + (B + (f + (a + (C + E * 64) * 1024) * 8) * 16) * 2 := by omega
  rw [e31, e25, e20, e15, e12, e8, e7]
  exact ⟨by omega, by omega, by omega, by omega, by omega, by omega, by omega, by omega, hb⟩
theorem tsum {n : Nat} (he : n % 2 = 0) : ((n / 2 ^ 12 % 2 ^ 1 * 2 + n / 2 ^ 11 % 2 ^ 1) * 2 ^ 6 + n / 2 ^ 5 % 2 ^ 6) * 2 ^ 5 + n / 2 ^ 1 % 2 ^ 4 * 2 ^ 1 = n % 2 ^ 13 := by
  have h1 : n % 2 ^ 13 = n / 2 ^ 5 % 2 ^ 8 * 2 ^ 5 + n % 2 ^ 5 := by omega
  have h2 : n % 2 ^ 5 = n / 2 ^ 1 % 2 ^ 4 * 2 ^ 1 := by omega
  have h3 : n / 2 ^ 5 % 2 ^ 8 = n / 2 ^ 11 % 2 ^ 2 * 2 ^ 6 + n / 2 ^ 5 % 2 ^ 6 := by omega
  have h4 : n / 2 ^ 11 % 2 ^ 2 = n / 2 ^ 12 % 2 ^ 1 * 2 + n / 2 ^ 11 % 2 ^ 1 := by omega
  rw [h1, h2, h3, h4]
theorem br_parts {f a n : Nat} (hf : f < 8) (ha : a < 32) (hn : n < 2 ^ 32) (he : n % 2 = 0) (hr : n < 2 ^ 12 ∨ 2 ^ 32 - 2 ^ 12 ≤ n) :
    let w := mf_RiscHartModel_branch (nI f) (nI a) (nI n)
    mf_RiscHartModel_part w 0 7 = 99 ∧ mf_RiscHartModel_part w 12 3 = nI f ∧ mf_RiscHartModel_part w 15 5 = nI a ∧ mf_RiscHartModel_part w 20 5 = nI 0 ∧ hf_LongForm_offsetT w = nI n := by
  intro w
  have hw : w = _ := br_nI hf ha hn
  rw [hw, LF_T]
  obtain ⟨A, hA⟩ : ∃ A, A = n / 2 ^ 11 % 2 ^ 1 := ⟨_, rfl⟩
  obtain ⟨B, hB⟩ : ∃ B, B = n / 2 ^ 1 % 2 ^ 4 := ⟨_, rfl⟩
  obtain ⟨C, hC⟩ : ∃ C, C = n / 2 ^ 5 % 2 ^ 6 := ⟨_, rfl⟩
  obtain ⟨E, hE⟩ : ∃ E, E = n / 2 ^ 12 % 2 ^ 1 := ⟨_, rfl⟩
  rw [← hA, ← hB, ← hC, ← hE]
  have bA : A < 2 := by omega
  have bB : B < 16 := by omega
  have bC : C < 64 := by omega
  have bE : E < 2 := by omega
  have hs : ((E * 2 + A) * 2 ^ 6 + C) * 2 ^ 5 + B * 2 ^ 1 = n % 2 ^ 13 := by rw [hE, hA, hB, hC]; exact tsum he
  clear hA hB hC hE
  obtain ⟨e31, e7, e25, e8, e0, e12, e15, e20, hb⟩ := bf hf ha bA bB bC bE
  generalize 99 + A * 2 ^ 7 + B * 2 ^ 8 + f * 2 ^ 12 + a * 2 ^ 15 + C * 2 ^ 25 + E * 2 ^ 31 = m at *
  refine ⟨w_part hb (lo := 0) (k := 7) (v := 99) (by omega) (by omega) e0, w_part hb (lo := 12) (k := 3) (by omega) (by omega) e12, w_part hb (lo := 15) (k := 5) (by omega) (by omega) e15, w_part hb (lo := 20) (k := 5) (v := 0) (by omega) (by omega) e20, ?_⟩
  rw [show mf_RiscHartModel_bit (nI m) 31 1 12 = nI (E * 2 ^ 12) from bw hb (lo := 31) (k := 1) (to := 12) (by omega) (by omega) (by omega) e31, show mf_RiscHartModel_bit (nI m) 7 1 11 = nI (A * 2 ^ 11) from bw hb (lo := 7) (k := 1) (to := 11) (by omega) (by omega) (by omega) e7, show mf_RiscHartModel_bit (nI m) 25 6 5 = nI (C * 2 ^ 5) from bw hb (lo := 25) (k := 6) (to := 5) (by omega) (by omega) (by omega) e25, show mf_RiscHartModel_bit (nI m) 8 4 1 = nI (B * 2 ^ 1) from bw hb (lo := 8) (k := 4) (to := 1) (by omega) (by omega) (by omega) e8]
  clear e31 e7 e25 e8 e0 e12 e15 e20 hb
  rw [or_add' 12 (by omega), show E * 2 ^ 12 + A * 2 ^ 11 = (E * 2 + A) * 2 ^ 11 by omega, or_add' 11 (by omega), show (E * 2 + A) * 2 ^ 11 + C * 2 ^ 5 = ((E * 2 + A) * 2 ^ 6 + C) * 2 ^ 5 by omega, or_add' 5 (by omega), hs]
  exact sgn13 hn hr
theorem dec01 (y : MS) (w f a b : Int32) (hf : f = 0 ∨ f = 1) : mf_RiscHartModel_decide y w f a b = if a = b then mf_RiscHartModel_decide_t87 y w f a b (a.toInt64 &&& 4294967295) (b.toInt64 &&& 4294967295) 1 else mf_RiscHartModel_decide_t87 y w f a b (a.toInt64 &&& 4294967295) (b.toInt64 &&& 4294967295) 0 := by
  unfold mf_RiscHartModel_decide
  rcases hf with rfl | rfl
  · rw [if_neg (show ¬ (0 : Int32) = 2 by decide), if_neg (show ¬ (0 : Int32) = 3 by decide), if_neg (show ¬ (2 : Int32) ≤ 0 by decide)]
  · rw [if_neg (show ¬ (1 : Int32) = 2 by decide), if_neg (show ¬ (1 : Int32) = 3 by decide), if_neg (show ¬ (2 : Int32) ≤ 1 by decide)]
theorem S_bz {z : HS} {y : MS} {bb : Int32} (h : RelD z y bb) {a n : Nat} (ha : a < 32) (hn : n < 2 ^ 32) (he : n % 2 = 0) (hr : n < 2 ^ 12 ∨ 2 ^ 32 - 2 ^ 12 ≤ n) : Sx (if hs_regs z a = 0 then hf_RiscHart_jumpIf z 1 (hs_place z + nI n) else hf_RiscHart_jumpIf z 0 (hs_place z + nI n)) y (mf_RiscHartModel_branch 0 (nI a) (nI n)) := by
  obtain ⟨p0, p12, p15, p20, pT⟩ := br_parts (f := 0) (by omega) ha hn he hr
  show Sx _ y (mf_RiscHartModel_branch (nI 0) (nI a) (nI n))
  generalize mf_RiscHartModel_branch (nI 0) (nI a) (nI n) = w at *
  refine Sx_ne (by rw [p0]; decide) ?_
  rw [carry99 y p0, p12, p15, p20, nI_clamp (by omega), nI_clamp (by omega), h.1.1 a ha, h.1.1 0 (by omega), h.1.2.1, ← pT, dec01 y w (nI 0) _ _ (Or.inl rfl)]
  by_cases c : hs_regs z a = 0
  · rw [if_pos c, if_pos c]; exact dec_out h w 1 (d87e (by decide) ..)
  · rw [if_neg c, if_neg c]; exact dec_out h w 0 (d87e (by decide) ..)
theorem S_bnz {z : HS} {y : MS} {bb : Int32} (h : RelD z y bb) {a n : Nat} (ha : a < 32) (hn : n < 2 ^ 32) (he : n % 2 = 0) (hr : n < 2 ^ 12 ∨ 2 ^ 32 - 2 ^ 12 ≤ n) : Sx (if hs_regs z a = 0 then hf_RiscHart_jumpIf z 0 (hs_place z + nI n) else hf_RiscHart_jumpIf z 1 (hs_place z + nI n)) y (mf_RiscHartModel_branch 1 (nI a) (nI n)) := by
  obtain ⟨p0, p12, p15, p20, pT⟩ := br_parts (f := 1) (by omega) ha hn he hr
  show Sx _ y (mf_RiscHartModel_branch (nI 1) (nI a) (nI n))
  generalize mf_RiscHartModel_branch (nI 1) (nI a) (nI n) = w at *
  refine Sx_ne (by rw [p0]; decide) ?_
  rw [carry99 y p0, p12, p15, p20, nI_clamp (by omega), nI_clamp (by omega), h.1.1 a ha, h.1.1 0 (by omega), h.1.2.1, ← pT, dec01 y w (nI 1) _ _ (Or.inr rfl)]
  by_cases c : hs_regs z a = 0
  · rw [if_pos c, if_pos c]; exact dec_out h w 0 ((d87o (by decide) ..).trans rfl)
  · rw [if_neg c, if_neg c]; exact dec_out h w 1 ((d87o (by decide) ..).trans rfl)
