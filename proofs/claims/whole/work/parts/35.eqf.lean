/-! the long instructions, on -/
def m33 (y : MS) (w f g a b d : Int32) : MS := if g = 1 then (mf_RiscHartModel_give y d (mf_RiscHartModel_multiplied f a b)) else if g = 0 then if f = 1 then (mf_RiscHartModel_give ((mf_RiscHartModel_shifted y f g a (b &&& 31)).2) d ((mf_RiscHartModel_shifted y f g a (b &&& 31)).1)) else if f = 5 then (mf_RiscHartModel_give ((mf_RiscHartModel_shifted y f g a (b &&& 31)).2) d ((mf_RiscHartModel_shifted y f g a (b &&& 31)).1)) else (mf_RiscHartModel_give y d (mf_RiscHartModel_reckoned f a b)) else if g = 32 then if f = 0 then (mf_RiscHartModel_give y d (a - b)) else (mf_RiscHartModel_give ((mf_RiscHartModel_shifted y f g a (b &&& 31)).2) d ((mf_RiscHartModel_shifted y f g a (b &&& 31)).1)) else (mf_RiscHartModel_give ((mf_RiscHartModel_shifted y f g a (b &&& 31)).2) d ((mf_RiscHartModel_shifted y f g a (b &&& 31)).1))
theorem shd_bad (y : MS) {f g : Int32} (hg : ¬ g = 0) (hn : ¬ (f = 5 ∧ g = 32)) (a n : Int32) : mf_RiscHartModel_shifted y f g a n = mf_RiscHartModel_illegal y := by
  unfold mf_RiscHartModel_shifted
  by_cases h1 : f = 1
  · rw [if_pos h1, if_neg hg]
  · rw [if_neg h1]
    by_cases h5 : f = 5
    · rw [if_pos h5, if_neg hg, if_neg (fun q => hn ⟨h5, q⟩)]
    · rw [if_neg h5]
theorem L_reg {z : HS} {y : MS} {w : Int32} (h : RelD z y w) : Out (hf_RiscHart_longWithRegisters z w).1 (hf_RiscHart_longWithRegisters z w).2 (m33 y w (hf_LongForm_f w) (hf_LongForm_g w) (hs_regs z (hf_LongForm_a w).toNatClampNeg) (hs_regs z (hf_LongForm_b w).toNatClampNeg) (hf_LongForm_d w)) := by
  unfold m33 hf_RiscHart_longWithRegisters
  generalize hs_regs z (hf_LongForm_a w).toNatClampNeg = a
  generalize hs_regs z (hf_LongForm_b w).toNatClampNeg = b
  have hd := in_LongForm_d w
  by_cases g0 : hf_LongForm_g w = 0
  · rw [if_pos g0, if_neg (by rw [g0]; decide), if_pos g0, g0]
    rcases f8 w with e | e | e | e | e | e | e | e <;> rw [e]
    · rw [if_neg (by decide), if_neg (by decide), plain_reck (by decide)]; exact sim_give h _ _ hd
    · rw [if_pos rfl, shd_1, plain_1]; exact sim_give h _ _ hd
    · rw [if_neg (by decide), if_neg (by decide), plain_reck (by decide)]; exact sim_give h _ _ hd
    · rw [if_neg (by decide), if_neg (by decide), plain_reck (by decide)]; exact sim_give h _ _ hd
    · rw [if_neg (by decide), if_neg (by decide), plain_reck (by decide)]; exact sim_give h _ _ hd
    · rw [if_neg (by decide), if_pos rfl, shd_5, plain_5]; exact sim_give h _ _ hd
    · rw [if_neg (by decide), if_neg (by decide), plain_reck (by decide)]; exact sim_give h _ _ hd
    · rw [if_neg (by decide), if_neg (by decide), plain_reck (by decide)]; exact sim_give h _ _ hd
  · rw [if_neg g0]
    by_cases g1 : hf_LongForm_g w = 1
    · rw [if_pos g1, if_pos g1, mul_eq (f8 w)]; exact sim_give h _ _ hd
    · rw [if_neg g1, if_neg g1, if_neg g0]
      by_cases g32 : hf_LongForm_g w = 32
      · rw [if_pos g32, if_pos g32]
        by_cases f0 : hf_LongForm_f w = 0
        · rw [if_pos f0, if_pos f0]; exact sim_give h _ _ hd
        · rw [if_neg f0, if_neg f0]
          by_cases f5 : hf_LongForm_f w = 5
          · rw [if_pos f5, f5, g32, shd_532]; exact sim_give h _ _ hd
          · rw [if_neg f5, shd_bad y g0 (fun q => f5 q.1)]; exact give_ill h (hf_LongForm_d w) (mf_RiscHartModel_illegal y).1
      · rw [if_neg g32, if_neg g32, shd_bad y g0 (fun q => g32 q.2)]; exact give_ill h (hf_LongForm_d w) (mf_RiscHartModel_illegal y).1
theorem ev_bit (w : Int32) (lo k to : Int32) (n : Nat) (hn : to = nI n) (h0 : 0 < n) (h1 : n < 32) : ev (mf_RiscHartModel_bit w lo k to) := by
  unfold mf_RiscHartModel_bit
  rw [hn]
  exact ev_shl _ n h0 h1
theorem ev_sgn {x : Int32} (k : Int32) (n : Nat) (hk : (32 : Int32) - k = nI n) (hn : n < 32) (h : ev x) : ev (mf_RiscHartModel_signed x k) := by
  unfold mf_RiscHartModel_signed
  rw [hk]
  exact ev_signed n hn h
theorem ev_J (w : Int32) : ev (hf_LongForm_offsetJ w) := by
  rw [LF_J]
  exact ev_sgn 21 11 (by decide) (by omega) (ev_or (ev_or (ev_or (ev_bit w 31 1 20 20 rfl (by omega) (by omega)) (ev_bit w 12 8 12 12 rfl (by omega) (by omega))) (ev_bit w 20 1 11 11 rfl (by omega) (by omega))) (ev_bit w 21 10 1 1 rfl (by omega) (by omega)))
theorem ev_T (w : Int32) : ev (hf_LongForm_offsetT w) := by
  rw [LF_T]
  exact ev_sgn 13 19 (by decide) (by omega) (ev_or (ev_or (ev_or (ev_bit w 31 1 12 12 rfl (by omega) (by omega)) (ev_bit w 7 1 11 11 rfl (by omega) (by omega))) (ev_bit w 25 6 5 5 rfl (by omega) (by omega))) (ev_bit w 8 4 1 1 rfl (by omega) (by omega)))
theorem give_place (y : MS) (d v : Int32) : ms_place (mf_RiscHartModel_give y d v) = ms_place y := by
  unfold mf_RiscHartModel_give
  split
  · split <;> rfl
  · rfl
theorem L_jal {z : HS} {y : MS} {b : Int32} (h : RelD z y b) (d J : Int32) (hd : vp_in d 32) (hJ : ev J) : Out (hf_RiscHart_linkAndJump z d (hs_place z + J)).1 (hf_RiscHart_linkAndJump z d (hs_place z + J)).2 (ms_set_next (mf_RiscHartModel_give y d (ms_next y)) (ms_place (mf_RiscHartModel_give y d (ms_next y)) + J)) := by
  have := sim_link h d (hs_place z + J) hd
  rw [ev_and (ev_add h.2.2.2.2 hJ)] at this
  rw [give_place, h.1.2.2.2.2.1]
  exact this
theorem out_next {c : Int32} {z : HS} {y : MS} (h : Out c z y) (hc : ¬ c = 0) (x : Int32) : Out c z (ms_set_next y x) := by
  obtain ⟨q1, q2, q3, q4⟩ := h
  exact ⟨q1, q2, fun e => absurd e hc, q4⟩
theorem L_jalr {z : HS} {y : MS} {w : Int32} (h : RelD z y w) : Out (hf_RiscHart_longJumpToRegister z w).1 (hf_RiscHart_longJumpToRegister z w).2 (if mf_RiscHartModel_part w 12 3 = 0 then (ms_set_next (mf_RiscHartModel_give y (mf_RiscHartModel_part w 7 5) (ms_next y)) ((ms_x y (mf_RiscHartModel_part w 15 5).toNatClampNeg + (w >>> ((20 : Int32) &&& 31))) &&& (-2))) else (ms_set_next (mf_RiscHartModel_give ((mf_RiscHartModel_illegal y).2) (mf_RiscHartModel_part w 7 5) (ms_next ((mf_RiscHartModel_illegal y).2))) ((ms_x y (mf_RiscHartModel_part w 15 5).toNatClampNeg + (w >>> ((20 : Int32) &&& 31))) &&& (-2)))) := by
  rw [rA h.1, ← LF_f, ← LF_d]
  unfold hf_RiscHart_longJumpToRegister
  by_cases f0 : hf_LongForm_f w = 0
  · rw [if_pos f0, if_pos f0]
    exact sim_link h _ _ (in_LongForm_d w)
  · rw [if_neg f0, if_neg f0, give_trapped _ _ (met_ill y)]
    exact out_next (sim_illegal h) (by show ¬ (2 : Int32) = 0; decide) _
theorem dec_out {z : HS} {y : MS} {b : Int32} (h : RelD z y b) (w : Int32) (c : Int32) {y' : MS} (hy : y' = if c = 0 then y else ms_set_next y (ms_place y + hf_LongForm_offsetT w)) : Out (hf_RiscHart_jumpIf z c (hs_place z + hf_LongForm_offsetT w)).1 (hf_RiscHart_jumpIf z c (hs_place z + hf_LongForm_offsetT w)).2 y' := by
  rw [hy, h.1.2.2.2.2.1]
  exact sim_if h c _ (ev_add h.2.2.2.2 (ev_T w))
theorem d106 (y : MS) (w f a b : Int32) (u v : Int64) (c : Int32) : mf_RiscHartModel_decide_t106 y w f a b u v c = if c = 0 then y else ms_set_next y (ms_place y + hf_LongForm_offsetT w) := rfl
theorem d87e {f : Int32} (hf : ¬ f &&& 1 = 1) (y : MS) (w a b : Int32) (u v : Int64) (c : Int32) : mf_RiscHartModel_decide_t87 y w f a b u v c = if c = 0 then y else ms_set_next y (ms_place y + hf_LongForm_offsetT w) := by
  unfold mf_RiscHartModel_decide_t87; rw [if_neg hf]; rfl
theorem d87o {f : Int32} (hf : f &&& 1 = 1) (y : MS) (w a b : Int32) (u v : Int64) (c : Int32) : mf_RiscHartModel_decide_t87 y w f a b u v c = if (if c = 0 then (1 : Int32) else 0) = 0 then y else ms_set_next y (ms_place y + hf_LongForm_offsetT w) := by
  unfold mf_RiscHartModel_decide_t87; rw [if_pos hf]
  by_cases h : c = 0
  · rw [if_pos h, if_pos h]; rfl
  · rw [if_neg h, if_neg h]; rfl
theorem L_branch {z : HS} {y : MS} {w : Int32} (h : RelD z y w) : Out (hf_RiscHart_longBranch z w).1 (hf_RiscHart_longBranch z w).2 (mf_RiscHartModel_decide y w (hf_LongForm_f w) (hs_regs z (hf_LongForm_a w).toNatClampNeg) (hs_regs z (hf_LongForm_b w).toNatClampNeg)) := by
  unfold hf_RiscHart_longBranch
  generalize hs_regs z (hf_LongForm_a w).toNatClampNeg = a
  generalize hs_regs z (hf_LongForm_b w).toNatClampNeg = b
  unfold mf_RiscHartModel_decide
  rcases f8 w with e | e | e | e | e | e | e | e <;> rw [e]
  · simp only [show ((0 : Int32) = 2) = False from by decide, show ((0 : Int32) = 3) = False from by decide, show ((2 : Int32) ≤ 0) = False from by decide, if_true, if_false]
    by_cases c : a = b
    · rw [if_pos c, if_pos c]; exact dec_out h w 1 (d87e (by decide) ..)
    · rw [if_neg c, if_neg c]; exact dec_out h w 0 (d87e (by decide) ..)
  · simp only [show ((1 : Int32) = 0) = False from by decide, show ((1 : Int32) = 2) = False from by decide, show ((1 : Int32) = 3) = False from by decide, show ((2 : Int32) ≤ 1) = False from by decide, if_true, if_false]
    by_cases c : a = b
    · rw [if_pos c, if_pos c]; exact dec_out h w 0 ((d87o (by decide) ..).trans rfl)
    · rw [if_neg c, if_neg c]; exact dec_out h w 1 ((d87o (by decide) ..).trans rfl)
  · simp only [show ((2 : Int32) = 0) = False from by decide, show ((2 : Int32) = 1) = False from by decide, show ((2 : Int32) = 4) = False from by decide, show ((2 : Int32) = 5) = False from by decide, show ((2 : Int32) = 6) = False from by decide, show ((2 : Int32) = 7) = False from by decide, if_true, if_false]
    exact sim_illegal h
  · simp only [show ((3 : Int32) = 0) = False from by decide, show ((3 : Int32) = 1) = False from by decide, show ((3 : Int32) = 2) = False from by decide, show ((3 : Int32) = 4) = False from by decide, show ((3 : Int32) = 5) = False from by decide, show ((3 : Int32) = 6) = False from by decide, show ((3 : Int32) = 7) = False from by decide, if_true, if_false]
    exact sim_illegal h
  · simp only [show ((4 : Int32) = 0) = False from by decide, show ((4 : Int32) = 1) = False from by decide, show ((4 : Int32) = 2) = False from by decide, show ((4 : Int32) = 3) = False from by decide, show ((2 : Int32) ≤ 4) = True from by decide, show ((6 : Int32) ≤ 4) = False from by decide, if_true, if_false]
    by_cases c : b ≤ a
    · rw [if_pos c, if_pos c]; exact dec_out h w 0 (d87e (by decide) ..)
    · rw [if_neg c, if_neg c]; exact dec_out h w 1 (d87e (by decide) ..)
  · simp only [show ((5 : Int32) = 0) = False from by decide, show ((5 : Int32) = 1) = False from by decide, show ((5 : Int32) = 4) = False from by decide, show ((5 : Int32) = 2) = False from by decide, show ((5 : Int32) = 3) = False from by decide, show ((2 : Int32) ≤ 5) = True from by decide, show ((6 : Int32) ≤ 5) = False from by decide, if_true, if_false]
    by_cases c : a < b
    · rw [if_pos c, if_neg (Int32.not_le.mpr c)]; exact dec_out h w 0 ((d87o (by decide) ..).trans rfl)
    · rw [if_neg c, if_pos (Int32.not_lt.mp c)]; exact dec_out h w 1 ((d87o (by decide) ..).trans rfl)
  · simp only [show ((6 : Int32) = 0) = False from by decide, show ((6 : Int32) = 1) = False from by decide, show ((6 : Int32) = 4) = False from by decide, show ((6 : Int32) = 5) = False from by decide, show ((6 : Int32) = 2) = False from by decide, show ((6 : Int32) = 3) = False from by decide, show ((2 : Int32) ≤ 6) = True from by decide, show ((6 : Int32) ≤ 6) = True from by decide, if_true, if_false]
    unfold hf_Arithmetic_isBelow
    by_cases c : 0 ≤ lg_cmp (a.toInt64 &&& 4294967295) (b.toInt64 &&& 4294967295)
    · rw [if_pos c, if_pos c]; exact dec_out h w 0 (d87e (by decide) ..)
    · rw [if_neg c, if_neg c]; exact dec_out h w 1 (d87e (by decide) ..)
  · simp only [show ((7 : Int32) = 0) = False from by decide, show ((7 : Int32) = 1) = False from by decide, show ((7 : Int32) = 4) = False from by decide, show ((7 : Int32) = 5) = False from by decide, show ((7 : Int32) = 6) = False from by decide, show ((7 : Int32) = 2) = False from by decide, show ((7 : Int32) = 3) = False from by decide, show ((2 : Int32) ≤ 7) = True from by decide, show ((6 : Int32) ≤ 7) = True from by decide, if_true, if_false]
    unfold hf_Arithmetic_isBelow
    by_cases c : 0 ≤ lg_cmp (a.toInt64 &&& 4294967295) (b.toInt64 &&& 4294967295)
    · rw [if_pos c, if_pos rfl, if_pos c]; exact dec_out h w 1 ((d87o (by decide) ..).trans rfl)
    · rw [if_neg c, if_neg (by decide), if_neg c]; exact dec_out h w 0 ((d87o (by decide) ..).trans rfl)
