/-! the long instructions on both sides -/
theorem reg_eq {z : HS} {y : MS} (h : Rel z y) {x : Int32} (hx : vp_in x 32) : ms_x y x.toNatClampNeg = hs_regs z x.toNatClampNeg := h.1 _ (in_lt hx)
theorem rA {z : HS} {y : MS} (h : Rel z y) (w : Int32) : ms_x y (mf_RiscHartModel_part w 15 5).toNatClampNeg = hs_regs z (hf_LongForm_a w).toNatClampNeg := reg_eq h (in_mpart5 w 15)
theorem rB {z : HS} {y : MS} (h : Rel z y) (w : Int32) : ms_x y (mf_RiscHartModel_part w 20 5).toNatClampNeg = hs_regs z (hf_LongForm_b w).toNatClampNeg := reg_eq h (in_mpart5 w 20)
theorem met_ill (y : MS) : ¬ ms_met (mf_RiscHartModel_illegal y).2 = 0 := by show ¬ (2 : Int32) = 0; decide
theorem give_ill {z : HS} {y : MS} {w : Int32} (h : RelD z y w) (d v : Int32) : Out (hf_RiscHart_trap z 2 w).1 (hf_RiscHart_trap z 2 w).2 (mf_RiscHartModel_give (mf_RiscHartModel_illegal y).2 d v) := by
  rw [give_trapped _ _ (met_ill y)]; exact sim_illegal h
theorem j8 {x : Int32} (h : ∃ j : Nat, j < 8 ∧ x = nI j) : x = 0 ∨ x = 1 ∨ x = 2 ∨ x = 3 ∨ x = 4 ∨ x = 5 ∨ x = 6 ∨ x = 7 := by
  obtain ⟨j, hj, rfl⟩ := h
  rcases (show j = 0 ∨ j = 1 ∨ j = 2 ∨ j = 3 ∨ j = 4 ∨ j = 5 ∨ j = 6 ∨ j = 7 by omega) with rfl | rfl | rfl | rfl | rfl | rfl | rfl | rfl
  · exact Or.inl rfl
  · exact Or.inr (Or.inl rfl)
  · exact Or.inr (Or.inr (Or.inl rfl))
  · exact Or.inr (Or.inr (Or.inr (Or.inl rfl)))
  · exact Or.inr (Or.inr (Or.inr (Or.inr (Or.inl rfl))))
  · exact Or.inr (Or.inr (Or.inr (Or.inr (Or.inr (Or.inl rfl)))))
  · exact Or.inr (Or.inr (Or.inr (Or.inr (Or.inr (Or.inr (Or.inl rfl))))))
  · exact Or.inr (Or.inr (Or.inr (Or.inr (Or.inr (Or.inr (Or.inr rfl))))))
theorem f8 (w : Int32) : hf_LongForm_f w = 0 ∨ hf_LongForm_f w = 1 ∨ hf_LongForm_f w = 2 ∨ hf_LongForm_f w = 3 ∨ hf_LongForm_f w = 4 ∨ hf_LongForm_f w = 5 ∨ hf_LongForm_f w = 6 ∨ hf_LongForm_f w = 7 := j8 (small_part w 12 3 (by omega))
theorem L_load {z : HS} {y : MS} {w : Int32} (h : RelD z y w) : Out (hf_RiscHart_longLoad z w).1 (hf_RiscHart_longLoad z w).2 (mf_RiscHartModel_give (mf_RiscHartModel_load y (mf_RiscHartModel_part w 12 3) (ms_x y (mf_RiscHartModel_part w 15 5).toNatClampNeg + (w >>> ((20 : Int32) &&& 31)))).2 (mf_RiscHartModel_part w 7 5) (mf_RiscHartModel_load y (mf_RiscHartModel_part w 12 3) (ms_x y (mf_RiscHartModel_part w 15 5).toNatClampNeg + (w >>> ((20 : Int32) &&& 31)))).1) := by
  rw [rA h.1, ← LF_f, ← LF_d]
  unfold hf_RiscHart_longLoad
  show Out _ _ (mf_RiscHartModel_give (mf_RiscHartModel_load y (hf_LongForm_f w) (hs_regs z (hf_LongForm_a w).toNatClampNeg + hf_LongForm_numberI w)).2 _ (mf_RiscHartModel_load y (hf_LongForm_f w) (hs_regs z (hf_LongForm_a w).toNatClampNeg + hf_LongForm_numberI w)).1)
  generalize hs_regs z (hf_LongForm_a w).toNatClampNeg + hf_LongForm_numberI w = a
  have ill : ∀ f : Int32, (f = 3 ∨ f = 6 ∨ f = 7) → mf_RiscHartModel_load y f a = mf_RiscHartModel_illegal y := by
    intro f hf
    unfold mf_RiscHartModel_load
    rcases hf with rfl | rfl | rfl
    · rw [if_pos rfl]
    · rw [if_neg (by decide), if_neg (by decide)]
    · rw [if_neg (by decide), if_neg (by decide)]
  rcases f8 w with e | e | e | e | e | e | e | e <;> rw [e]
  · rw [if_neg (by decide), if_pos (by decide)]; exact sim_load h (f := 0) (by omega) _ _ (in_LongForm_d w)
  · rw [if_neg (by decide), if_pos (by decide)]; exact sim_load h (f := 1) (by omega) _ _ (in_LongForm_d w)
  · rw [if_neg (by decide), if_pos (by decide)]; exact sim_load h (f := 2) (by omega) _ _ (in_LongForm_d w)
  · rw [if_pos rfl, ill 3 (Or.inl rfl)]; exact give_ill h _ _
  · rw [if_neg (by decide), if_pos (by decide)]; exact sim_load h (f := 4) (by omega) _ _ (in_LongForm_d w)
  · rw [if_neg (by decide), if_pos (by decide)]; exact sim_load h (f := 5) (by omega) _ _ (in_LongForm_d w)
  · rw [if_neg (by decide), if_neg (by decide), ill 6 (Or.inr (Or.inl rfl))]; exact give_ill h _ _
  · rw [if_neg (by decide), if_neg (by decide), ill 7 (Or.inr (Or.inr rfl))]; exact give_ill h _ _
theorem L_store {z : HS} {y : MS} {w : Int32} (h : RelD z y w) : Out (hf_RiscHart_longStore z w).1 (hf_RiscHart_longStore z w).2 (mf_RiscHartModel_put y (mf_RiscHartModel_part w 12 3) (ms_x y (mf_RiscHartModel_part w 15 5).toNatClampNeg + (((w >>> ((20 : Int32) &&& 31)) &&& (-32)) ||| mf_RiscHartModel_part w 7 5)) (ms_x y (mf_RiscHartModel_part w 20 5).toNatClampNeg)) := by
  rw [rA h.1, rB h.1, ← S_eq, ← LF_f]
  unfold hf_RiscHart_longStore
  generalize hs_regs z (hf_LongForm_a w).toNatClampNeg + hf_LongForm_numberS w = a
  generalize hs_regs z (hf_LongForm_b w).toNatClampNeg = v
  have ill : ∀ f : Int32, ¬ f ≤ 2 → mf_RiscHartModel_put y f a v = (mf_RiscHartModel_illegal y).2 := by
    intro f hf
    unfold mf_RiscHartModel_put
    rw [if_neg hf]
  rcases f8 w with e | e | e | e | e | e | e | e <;> rw [e]
  · rw [if_pos (by decide)]; exact sim_store h (f := 0) (M := 1) (by omega) _ _
  · rw [if_pos (by decide)]; exact sim_store h (f := 1) (M := 2) (by omega) _ _
  · rw [if_pos (by decide)]; exact sim_store h (f := 2) (M := 4) (by omega) _ _
  · rw [if_neg (by decide), ill 3 (by decide)]; exact sim_illegal h
  · rw [if_neg (by decide), ill 4 (by decide)]; exact sim_illegal h
  · rw [if_neg (by decide), ill 5 (by decide)]; exact sim_illegal h
  · rw [if_neg (by decide), ill 6 (by decide)]; exact sim_illegal h
  · rw [if_neg (by decide), ill 7 (by decide)]; exact sim_illegal h
theorem below_01 (a b : Int32) : (if hf_Arithmetic_isBelow a b = 0 then (0 : Int32) else 1) = if 0 ≤ lg_cmp (a.toInt64 &&& 4294967295) (b.toInt64 &&& 4294967295) then 0 else 1 := by
  unfold hf_Arithmetic_isBelow
  by_cases h : 0 ≤ lg_cmp (a.toInt64 &&& 4294967295) (b.toInt64 &&& 4294967295)
  · rw [if_pos h, if_pos rfl]
  · rw [if_neg h, if_neg (by decide)]
theorem plain_0 (a b : Int32) : hf_Arithmetic_plain 0 a b = a + b := by unfold hf_Arithmetic_plain; rw [if_pos rfl]
theorem reck_0 (a b : Int32) : mf_RiscHartModel_reckoned 0 a b = a + b := by unfold mf_RiscHartModel_reckoned; rw [if_pos rfl]
theorem plain_2 (a b : Int32) : hf_Arithmetic_plain 2 a b = if b ≤ a then 0 else 1 := by unfold hf_Arithmetic_plain; rw [if_neg (by decide), if_neg (by decide), if_pos rfl]
theorem reck_2 (a b : Int32) : mf_RiscHartModel_reckoned 2 a b = if b ≤ a then 0 else 1 := by unfold mf_RiscHartModel_reckoned; rw [if_neg (by decide), if_pos rfl]
theorem plain_4 (a b : Int32) : hf_Arithmetic_plain 4 a b = a ^^^ b := by unfold hf_Arithmetic_plain; rw [if_neg (by decide), if_neg (by decide), if_neg (by decide), if_neg (by decide), if_pos rfl]
theorem reck_4 (a b : Int32) : mf_RiscHartModel_reckoned 4 a b = a ^^^ b := by unfold mf_RiscHartModel_reckoned; rw [if_neg (by decide), if_neg (by decide), if_neg (by decide), if_pos rfl]
theorem plain_6 (a b : Int32) : hf_Arithmetic_plain 6 a b = a ||| b := by unfold hf_Arithmetic_plain; rw [if_neg (by decide), if_neg (by decide), if_neg (by decide), if_neg (by decide), if_neg (by decide), if_neg (by decide), if_pos rfl]
theorem reck_6 (a b : Int32) : mf_RiscHartModel_reckoned 6 a b = a ||| b := by unfold mf_RiscHartModel_reckoned; rw [if_neg (by decide), if_neg (by decide), if_neg (by decide), if_neg (by decide), if_pos rfl]
theorem plain_7 (a b : Int32) : hf_Arithmetic_plain 7 a b = a &&& b := by unfold hf_Arithmetic_plain; rw [if_neg (by decide), if_neg (by decide), if_neg (by decide), if_neg (by decide), if_neg (by decide), if_neg (by decide), if_neg (by decide)]
theorem reck_7 (a b : Int32) : mf_RiscHartModel_reckoned 7 a b = a &&& b := by unfold mf_RiscHartModel_reckoned; rw [if_neg (by decide), if_neg (by decide), if_neg (by decide), if_neg (by decide), if_neg (by decide)]
theorem plain_3 (a b : Int32) : hf_Arithmetic_plain 3 a b = if hf_Arithmetic_isBelow a b = 0 then 0 else 1 := by unfold hf_Arithmetic_plain; rw [if_neg (by decide), if_neg (by decide), if_neg (by decide), if_pos rfl]
theorem reck_3 (a b : Int32) : mf_RiscHartModel_reckoned 3 a b = if 0 ≤ lg_cmp (a.toInt64 &&& 4294967295) (b.toInt64 &&& 4294967295) then 0 else 1 := by unfold mf_RiscHartModel_reckoned; rw [if_neg (by decide), if_neg (by decide), if_pos rfl]
theorem plain_reck {f : Int32} (hf : f = 0 ∨ f = 2 ∨ f = 3 ∨ f = 4 ∨ f = 6 ∨ f = 7) (a b : Int32) : hf_Arithmetic_plain f a b = mf_RiscHartModel_reckoned f a b := by
  rcases hf with rfl | rfl | rfl | rfl | rfl | rfl
  · rw [plain_0, reck_0]
  · rw [plain_2, reck_2]
  · rw [plain_3, reck_3, below_01]
  · rw [plain_4, reck_4]
  · rw [plain_6, reck_6]
  · rw [plain_7, reck_7]
theorem plain_1 (a b : Int32) : hf_Arithmetic_plain 1 a b = a <<< ((b &&& 31) &&& 31) := by unfold hf_Arithmetic_plain; rw [if_neg (by decide), if_pos rfl]
theorem plain_5 (a b : Int32) : hf_Arithmetic_plain 5 a b = ja_ushr a (b &&& 31) := by
  unfold hf_Arithmetic_plain; rw [if_neg (by decide), if_neg (by decide), if_neg (by decide), if_neg (by decide), if_neg (by decide), if_pos rfl]
theorem shd_1 (y : MS) (a n : Int32) : mf_RiscHartModel_shifted y 1 0 a n = (a <<< (n &&& 31), y) := by unfold mf_RiscHartModel_shifted; rw [if_pos rfl, if_pos rfl]
theorem shd_5 (y : MS) (a n : Int32) : mf_RiscHartModel_shifted y 5 0 a n = (ja_ushr a n, y) := by unfold mf_RiscHartModel_shifted; rw [if_neg (by decide), if_pos rfl, if_pos rfl]
theorem shd_532 (y : MS) (a n : Int32) : mf_RiscHartModel_shifted y 5 32 a n = (a >>> (n &&& 31), y) := by unfold mf_RiscHartModel_shifted; rw [if_neg (by decide), if_pos rfl, if_neg (by decide), if_pos rfl]
theorem shd_i1 (y : MS) {g : Int32} (hg : ¬ g = 0) (a n : Int32) : mf_RiscHartModel_shifted y 1 g a n = mf_RiscHartModel_illegal y := by unfold mf_RiscHartModel_shifted; rw [if_pos rfl, if_neg hg]
theorem shd_i5 (y : MS) {g : Int32} (hg : ¬ g = 0) (hg2 : ¬ g = 32) (a n : Int32) : mf_RiscHartModel_shifted y 5 g a n = mf_RiscHartModel_illegal y := by unfold mf_RiscHartModel_shifted; rw [if_neg (by decide), if_pos rfl, if_neg hg, if_neg hg2]
theorem shd_in (y : MS) {f : Int32} (h1 : ¬ f = 1) (h5 : ¬ f = 5) (g a n : Int32) : mf_RiscHartModel_shifted y f g a n = mf_RiscHartModel_illegal y := by unfold mf_RiscHartModel_shifted; rw [if_neg h1, if_neg h5]
/-- the case 0x13 of the reference's carry -/
def m13 (y : MS) (w : Int32) : MS := if mf_RiscHartModel_part w 12 3 = 1 then (mf_RiscHartModel_give ((mf_RiscHartModel_shifted y (mf_RiscHartModel_part w 12 3) (mf_RiscHartModel_part w 25 7) (ms_x y (mf_RiscHartModel_part w 15 5).toNatClampNeg) (mf_RiscHartModel_part w 20 5)).2) (mf_RiscHartModel_part w 7 5) ((mf_RiscHartModel_shifted y (mf_RiscHartModel_part w 12 3) (mf_RiscHartModel_part w 25 7) (ms_x y (mf_RiscHartModel_part w 15 5).toNatClampNeg) (mf_RiscHartModel_part w 20 5)).1)) else if mf_RiscHartModel_part w 12 3 = 5 then (mf_RiscHartModel_give ((mf_RiscHartModel_shifted y (mf_RiscHartModel_part w 12 3) (mf_RiscHartModel_part w 25 7) (ms_x y (mf_RiscHartModel_part w 15 5).toNatClampNeg) (mf_RiscHartModel_part w 20 5)).2) (mf_RiscHartModel_part w 7 5) ((mf_RiscHartModel_shifted y (mf_RiscHartModel_part w 12 3) (mf_RiscHartModel_part w 25 7) (ms_x y (mf_RiscHartModel_part w 15 5).toNatClampNeg) (mf_RiscHartModel_part w 20 5)).1)) else (mf_RiscHartModel_give y (mf_RiscHartModel_part w 7 5) (mf_RiscHartModel_reckoned (mf_RiscHartModel_part w 12 3) (ms_x y (mf_RiscHartModel_part w 15 5).toNatClampNeg) (w >>> ((20 : Int32) &&& 31))))
theorem L_num {z : HS} {y : MS} {w : Int32} (h : RelD z y w) : Out (hf_RiscHart_longWithNumber z w).1 (hf_RiscHart_longWithNumber z w).2 (m13 y w) := by
  unfold m13
  rw [rA h.1, ← LF_f, ← LF_d, ← LF_g, ← LF_b, ← show hf_LongForm_numberI w = w >>> ((20 : Int32) &&& 31) from rfl]
  have hI : hf_LongForm_numberI w &&& 31 = hf_LongForm_b w := I31 w
  unfold hf_RiscHart_longWithNumber
  generalize hs_regs z (hf_LongForm_a w).toNatClampNeg = a
  have hd := in_LongForm_d w
  rcases f8 w with e | e | e | e | e | e | e | e <;> rw [e]
  · rw [if_neg (by decide), if_neg (by decide), if_neg (by decide), if_neg (by decide), plain_reck (by decide)]; exact sim_give h _ _ hd
  · rw [if_neg (by decide), if_pos rfl, if_pos rfl]
    by_cases hg : hf_LongForm_g w = 0
    · rw [if_pos hg, hg, shd_1, plain_1, hI]; exact sim_give h _ _ hd
    · rw [if_neg hg, shd_i1 y hg]; exact give_ill h _ _
  · rw [if_neg (by decide), if_neg (by decide), if_neg (by decide), if_neg (by decide), plain_reck (by decide)]; exact sim_give h _ _ hd
  · rw [if_neg (by decide), if_neg (by decide), if_neg (by decide), if_neg (by decide), plain_reck (by decide)]; exact sim_give h _ _ hd
  · rw [if_neg (by decide), if_neg (by decide), if_neg (by decide), if_neg (by decide), plain_reck (by decide)]; exact sim_give h _ _ hd
  · simp only [if_pos (rfl : (5 : Int32) = 5), if_neg (show ¬ (5 : Int32) = 1 by decide)]
    by_cases hg2 : hf_LongForm_g w = 32
    · rw [if_pos hg2, hg2, shd_532]; exact sim_give h _ _ hd
    · rw [if_neg hg2]
      by_cases hg : hf_LongForm_g w = 0
      · rw [if_pos hg, hg, shd_5, plain_5, hI]; exact sim_give h _ _ hd
      · rw [if_neg hg, shd_i5 y hg hg2]; exact give_ill h (hf_LongForm_d w) (mf_RiscHartModel_illegal y).1
  · rw [if_neg (by decide), if_neg (by decide), if_neg (by decide), if_neg (by decide), plain_reck (by decide)]; exact sim_give h _ _ hd
  · rw [if_neg (by decide), if_neg (by decide), if_neg (by decide), if_neg (by decide), plain_reck (by decide)]; exact sim_give h _ _ hd
theorem sh32 (X : Int64) : (ja_lushr X 32).toInt32 = (ja_lshr X 32).toInt32 := by
  refine b_ext (fun i hi => ?_)
  unfold bt ja_lushr ja_lshr
  rw [Int64.toBitVec_toInt32, Int64.toBitVec_toInt32, Int64.toBitVec_shiftRight]
  show ((X.toUInt64 >>> ((32 : Int32).toInt64.toUInt64 &&& Int64.toUInt64 63)).toBitVec.signExtend 32).getLsbD i = ((X.toBitVec.sshiftRight (((32 : Int32).toInt64 &&& 63).toBitVec.smod 64).toNat).signExtend 32).getLsbD i
  rw [UInt64.toBitVec_shiftRight]
  show ((X.toBitVec >>> (((32 : Int32).toInt64.toUInt64 &&& Int64.toUInt64 63).toBitVec % 64).toNat).signExtend 32).getLsbD i = _
  rw [show ((((32 : Int32).toInt64.toUInt64 &&& Int64.toUInt64 63).toBitVec % 64).toNat) = 32 from by decide, show ((((32 : Int32).toInt64 &&& 63).toBitVec.smod 64).toNat) = 32 from by decide]
  rw [BitVec.getLsbD_signExtend, BitVec.getLsbD_signExtend, BitVec.getLsbD_ushiftRight, BitVec.getLsbD_sshiftRight]
  simp [hi, show i < 64 by omega, show 32 + i < 64 by omega]
theorem cmp0 (x : Int64) : lg_cmp x 0 = 0 ↔ x = 0 := by
  constructor
  · intro h
    by_cases e : x = 0
    · exact e
    · exfalso
      unfold lg_cmp at h
      by_cases g : x > 0
      · rw [if_pos g] at h; exact absurd h (by decide)
      · rw [if_neg g, if_neg e] at h; exact absurd h (by decide)
  · intro h; rw [h]; decide
theorem lo32 (x : Int32) : (x.toInt64 &&& 4294967295).toInt32 = x := by
  rw [Int64.toInt32_and, Int32.toInt32_toInt64, show Int64.toInt32 4294967295 = -1 from by decide, Int32.and_neg_one]
theorem mul_eq {f : Int32} (hf : f = 0 ∨ f = 1 ∨ f = 2 ∨ f = 3 ∨ f = 4 ∨ f = 5 ∨ f = 6 ∨ f = 7) (a b : Int32) : hf_Arithmetic_multipliedOrDivided f a b = mf_RiscHartModel_multiplied f a b := by
  have z1 : b = 0 → b.toInt64 = 0 := fun e => by rw [e]; decide
  have z2 : b = 0 → b.toInt64 &&& 4294967295 = 0 := fun e => by rw [e]; decide
  have n1 : ∀ h : ¬ b = 0, ¬ lg_cmp b.toInt64 0 = 0 := fun h q => nz_i2l h ((cmp0 _).mp q)
  have n2 : ∀ h : ¬ b = 0, ¬ lg_cmp (b.toInt64 &&& 4294967295) 0 = 0 := fun h q => nz_lo h ((cmp0 _).mp q)
  unfold hf_Arithmetic_multipliedOrDivided mf_RiscHartModel_multiplied hf_Arithmetic_quotient hf_Arithmetic_remainder
  rcases hf with rfl | rfl | rfl | rfl | rfl | rfl | rfl | rfl
  · simp
  · simp only [show ((1 : Int32) = 0) = False from by decide, if_false, if_true]; exact sh32 _
  · simp only [show ((2 : Int32) = 0) = False from by decide, show ((2 : Int32) = 1) = False from by decide, if_false, if_true]; exact sh32 _
  · simp only [show ((3 : Int32) = 0) = False from by decide, show ((3 : Int32) = 1) = False from by decide, show ((3 : Int32) = 2) = False from by decide, if_false, if_true]
  · simp only [show ((4 : Int32) = 0) = False from by decide, show ((4 : Int32) = 1) = False from by decide, show ((4 : Int32) = 2) = False from by decide, show ((4 : Int32) = 3) = False from by decide, if_false, if_true]
    by_cases h : b = 0
    · rw [if_pos h, if_pos ((cmp0 _).mpr (z1 h))]; decide
    · rw [if_neg h, if_neg (n1 h)]
  · simp only [show ((5 : Int32) = 0) = False from by decide, show ((5 : Int32) = 1) = False from by decide, show ((5 : Int32) = 2) = False from by decide, show ((5 : Int32) = 3) = False from by decide, show ((5 : Int32) = 4) = False from by decide, if_false, if_true]
    by_cases h : b = 0
    · rw [if_pos h, if_pos ((cmp0 _).mpr (z2 h))]; decide
    · rw [if_neg h, if_neg (n2 h)]
  · simp only [show ((6 : Int32) = 0) = False from by decide, show ((6 : Int32) = 1) = False from by decide, show ((6 : Int32) = 2) = False from by decide, show ((6 : Int32) = 3) = False from by decide, show ((6 : Int32) = 4) = False from by decide, show ((6 : Int32) = 5) = False from by decide, if_false, if_true]
    by_cases h : b = 0
    · rw [if_pos h, if_pos ((cmp0 _).mpr (z1 h)), Int32.toInt32_toInt64]
    · rw [if_neg h, if_neg (n1 h)]
  · simp only [show ((7 : Int32) = 0) = False from by decide, show ((7 : Int32) = 1) = False from by decide, show ((7 : Int32) = 2) = False from by decide, show ((7 : Int32) = 3) = False from by decide, show ((7 : Int32) = 4) = False from by decide, show ((7 : Int32) = 5) = False from by decide, show ((7 : Int32) = 6) = False from by decide, if_false, if_true]
    by_cases h : b = 0
    · rw [if_pos h, if_pos ((cmp0 _).mpr (z2 h)), lo32]
    · rw [if_neg h, if_neg (n2 h)]
