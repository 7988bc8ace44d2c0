/-! the short instructions -/
def lt2 (x : Int32) (k : Nat) : Prop := ∃ m : Nat, m < 2 ^ k ∧ x = nI m
theorem lt2_or {x y : Int32} {k : Nat} (hx : lt2 x k) (hy : lt2 y k) : lt2 (x ||| y) k := by
  obtain ⟨a, ha, rfl⟩ := hx
  obtain ⟨b, hb, rfl⟩ := hy
  exact ⟨a ||| b, Nat.or_lt_two_pow ha hb, nI_or a b⟩
theorem lt2_bit (w lo j' to' : Int32) (j to k : Nat) (e1 : j' = nI j) (e2 : to' = nI to) (hj : j < 31) (hto : to < 32) (hk : j + to ≤ k) : lt2 (mf_RiscHartModel_bit w lo j' to') k := by
  subst e1 e2
  obtain ⟨m, hm, e⟩ := small_part w lo j hj
  refine ⟨m * 2 ^ to, ?_, ?_⟩
  · refine Nat.lt_of_lt_of_le ?_ (Nat.pow_le_pow_right (by omega) hk)
    rw [Nat.pow_add]
    exact Nat.mul_lt_mul_of_pos_right hm (Nat.two_pow_pos _)
  · show mf_RiscHartModel_part w lo (nI j) <<< (nI to &&& 31) = _
    rw [e]
    exact shl_nI m to hto
theorem lt2_part (w lo j' : Int32) (j k : Nat) (e1 : j' = nI j) (hj : j < 31) (hk : j ≤ k) : lt2 (mf_RiscHartModel_part w lo j') k := by
  subst e1
  obtain ⟨m, hm, e⟩ := small_part w lo j hj
  exact ⟨m, Nat.lt_of_lt_of_le hm (Nat.pow_le_pow_right (by omega) hk), e⟩
theorem lt2_even {x : Int32} {n : Nat} (hn : n < 2 ^ 32) (e : x = nI n) (h : ev x) : n % 2 = 0 := by
  rw [e, ev_iff, pk_tn hn] at h
  exact h
theorem sg6 {m : Nat} (hm : m < 2 ^ 6) : ∃ n, n < 2 ^ 32 ∧ (n < 2 ^ 5 ∨ 2 ^ 32 - 2 ^ 5 ≤ n) ∧ mf_RiscHartModel_signed (nI m) 6 = nI n := by
  by_cases c : m < 2 ^ 5
  · refine ⟨m, by omega, Or.inl c, ?_⟩
    unfold mf_RiscHartModel_signed
    rw [show (32 : Int32) - 6 = nI 26 from by decide, shl_nI _ 26 (by omega), ← Int32.toInt_inj, toInt_nI (by omega)]
    refine (pk_shr _ _ 26 (by decide)).trans ?_
    rw [toInt_nI (by omega), Int.shiftRight_eq_div_pow, if_pos (by omega), if_pos (by omega)]
    omega
  · refine ⟨m + 2 ^ 32 - 2 ^ 6, by omega, Or.inr (by omega), ?_⟩
    unfold mf_RiscHartModel_signed
    rw [show (32 : Int32) - 6 = nI 26 from by decide, shl_nI _ 26 (by omega), ← Int32.toInt_inj, toInt_nI (by omega)]
    refine (pk_shr _ _ 26 (by decide)).trans ?_
    rw [toInt_nI (by omega), Int.shiftRight_eq_div_pow, if_neg (by omega), if_neg (by omega)]
    omega
theorem sg9 {m : Nat} (hm : m < 2 ^ 9) : ∃ n, n < 2 ^ 32 ∧ (n < 2 ^ 8 ∨ 2 ^ 32 - 2 ^ 8 ≤ n) ∧ mf_RiscHartModel_signed (nI m) 9 = nI n := by
  by_cases c : m < 2 ^ 8
  · refine ⟨m, by omega, Or.inl c, ?_⟩
    unfold mf_RiscHartModel_signed
    rw [show (32 : Int32) - 9 = nI 23 from by decide, shl_nI _ 23 (by omega), ← Int32.toInt_inj, toInt_nI (by omega)]
    refine (pk_shr _ _ 23 (by decide)).trans ?_
    rw [toInt_nI (by omega), Int.shiftRight_eq_div_pow, if_pos (by omega), if_pos (by omega)]
    omega
  · refine ⟨m + 2 ^ 32 - 2 ^ 9, by omega, Or.inr (by omega), ?_⟩
    unfold mf_RiscHartModel_signed
    rw [show (32 : Int32) - 9 = nI 23 from by decide, shl_nI _ 23 (by omega), ← Int32.toInt_inj, toInt_nI (by omega)]
    refine (pk_shr _ _ 23 (by decide)).trans ?_
    rw [toInt_nI (by omega), Int.shiftRight_eq_div_pow, if_neg (by omega), if_neg (by omega)]
    omega
theorem sg10 {m : Nat} (hm : m < 2 ^ 10) : ∃ n, n < 2 ^ 32 ∧ (n < 2 ^ 9 ∨ 2 ^ 32 - 2 ^ 9 ≤ n) ∧ mf_RiscHartModel_signed (nI m) 10 = nI n := by
  by_cases c : m < 2 ^ 9
  · refine ⟨m, by omega, Or.inl c, ?_⟩
    unfold mf_RiscHartModel_signed
    rw [show (32 : Int32) - 10 = nI 22 from by decide, shl_nI _ 22 (by omega), ← Int32.toInt_inj, toInt_nI (by omega)]
    refine (pk_shr _ _ 22 (by decide)).trans ?_
    rw [toInt_nI (by omega), Int.shiftRight_eq_div_pow, if_pos (by omega), if_pos (by omega)]
    omega
  · refine ⟨m + 2 ^ 32 - 2 ^ 10, by omega, Or.inr (by omega), ?_⟩
    unfold mf_RiscHartModel_signed
    rw [show (32 : Int32) - 10 = nI 22 from by decide, shl_nI _ 22 (by omega), ← Int32.toInt_inj, toInt_nI (by omega)]
    refine (pk_shr _ _ 22 (by decide)).trans ?_
    rw [toInt_nI (by omega), Int.shiftRight_eq_div_pow, if_neg (by omega), if_neg (by omega)]
    omega
theorem sg12 {m : Nat} (hm : m < 2 ^ 12) : ∃ n, n < 2 ^ 32 ∧ (n < 2 ^ 11 ∨ 2 ^ 32 - 2 ^ 11 ≤ n) ∧ mf_RiscHartModel_signed (nI m) 12 = nI n := by
  by_cases c : m < 2 ^ 11
  · refine ⟨m, by omega, Or.inl c, ?_⟩
    unfold mf_RiscHartModel_signed
    rw [show (32 : Int32) - 12 = nI 20 from by decide, shl_nI _ 20 (by omega), ← Int32.toInt_inj, toInt_nI (by omega)]
    refine (pk_shr _ _ 20 (by decide)).trans ?_
    rw [toInt_nI (by omega), Int.shiftRight_eq_div_pow, if_pos (by omega), if_pos (by omega)]
    omega
  · refine ⟨m + 2 ^ 32 - 2 ^ 12, by omega, Or.inr (by omega), ?_⟩
    unfold mf_RiscHartModel_signed
    rw [show (32 : Int32) - 12 = nI 20 from by decide, shl_nI _ 20 (by omega), ← Int32.toInt_inj, toInt_nI (by omega)]
    refine (pk_shr _ _ 20 (by decide)).trans ?_
    rw [toInt_nI (by omega), Int.shiftRight_eq_div_pow, if_neg (by omega), if_neg (by omega)]
    omega
theorem sN (h : Int32) : small12 (hf_ShortForm_number h) := by
  have l : lt2 (mf_RiscHartModel_bit h 12 1 5 ||| mf_RiscHartModel_part h 2 5) 6 := lt2_or (lt2_bit h 12 1 5 1 5 6 rfl rfl (by omega) (by omega) (by omega)) (lt2_part h 2 5 5 6 rfl (by omega) (by omega))
  obtain ⟨m, hm, e⟩ := l
  obtain ⟨n, hn, hr, e2⟩ := sg6 hm
  refine ⟨n, hn, by omega, ?_⟩
  show mf_RiscHartModel_signed (mf_RiscHartModel_bit h 12 1 5 ||| mf_RiscHartModel_part h 2 5) 6 = _
  rw [e, e2]
theorem sM (h : Int32) : small12 (hf_ShortForm_stackMove h) := by
  have l : lt2 (((((mf_RiscHartModel_bit h 12 1 9) ||| (mf_RiscHartModel_bit h 6 1 4)) ||| (mf_RiscHartModel_bit h 5 1 6)) ||| (mf_RiscHartModel_bit h 3 2 7)) ||| (mf_RiscHartModel_bit h 2 1 5)) 10 :=
    lt2_or (lt2_or (lt2_or (lt2_or (lt2_bit h 12 1 9 1 9 10 rfl rfl (by omega) (by omega) (by omega)) (lt2_bit h 6 1 4 1 4 10 rfl rfl (by omega) (by omega) (by omega))) (lt2_bit h 5 1 6 1 6 10 rfl rfl (by omega) (by omega) (by omega))) (lt2_bit h 3 2 7 2 7 10 rfl rfl (by omega) (by omega) (by omega))) (lt2_bit h 2 1 5 1 5 10 rfl rfl (by omega) (by omega) (by omega))
  obtain ⟨m, hm, e⟩ := l
  obtain ⟨n, hn, hr, e2⟩ := sg10 hm
  refine ⟨n, hn, by omega, ?_⟩
  show mf_RiscHartModel_signed (((((mf_RiscHartModel_bit h 12 1 9) ||| (mf_RiscHartModel_bit h 6 1 4)) ||| (mf_RiscHartModel_bit h 5 1 6)) ||| (mf_RiscHartModel_bit h 3 2 7)) ||| (mf_RiscHartModel_bit h 2 1 5)) 10 = _
  rw [e, e2]
theorem sJ (h : Int32) : ∃ n, n < 2 ^ 32 ∧ n % 2 = 0 ∧ (n < 2 ^ 20 ∨ 2 ^ 32 - 2 ^ 20 ≤ n) ∧ hf_ShortForm_offsetJ h = nI n := by
  have l : lt2 ((((((((mf_RiscHartModel_bit h 12 1 11) ||| (mf_RiscHartModel_bit h 11 1 4)) ||| (mf_RiscHartModel_bit h 9 2 8)) ||| (mf_RiscHartModel_bit h 8 1 10)) ||| (mf_RiscHartModel_bit h 7 1 6)) ||| (mf_RiscHartModel_bit h 6 1 7)) ||| (mf_RiscHartModel_bit h 3 3 1)) ||| (mf_RiscHartModel_bit h 2 1 5)) 12 :=
    lt2_or (lt2_or (lt2_or (lt2_or (lt2_or (lt2_or (lt2_or (lt2_bit h 12 1 11 1 11 12 rfl rfl (by omega) (by omega) (by omega)) (lt2_bit h 11 1 4 1 4 12 rfl rfl (by omega) (by omega) (by omega))) (lt2_bit h 9 2 8 2 8 12 rfl rfl (by omega) (by omega) (by omega))) (lt2_bit h 8 1 10 1 10 12 rfl rfl (by omega) (by omega) (by omega))) (lt2_bit h 7 1 6 1 6 12 rfl rfl (by omega) (by omega) (by omega))) (lt2_bit h 6 1 7 1 7 12 rfl rfl (by omega) (by omega) (by omega))) (lt2_bit h 3 3 1 3 1 12 rfl rfl (by omega) (by omega) (by omega))) (lt2_bit h 2 1 5 1 5 12 rfl rfl (by omega) (by omega) (by omega))
  have v : ev (hf_ShortForm_offsetJ h) := ev_sgn 12 20 (by decide) (by omega) (ev_or (ev_or (ev_or (ev_or (ev_or (ev_or (ev_or (ev_bit h 12 1 11 11 rfl (by omega) (by omega)) (ev_bit h 11 1 4 4 rfl (by omega) (by omega))) (ev_bit h 9 2 8 8 rfl (by omega) (by omega))) (ev_bit h 8 1 10 10 rfl (by omega) (by omega))) (ev_bit h 7 1 6 6 rfl (by omega) (by omega))) (ev_bit h 6 1 7 7 rfl (by omega) (by omega))) (ev_bit h 3 3 1 1 rfl (by omega) (by omega))) (ev_bit h 2 1 5 5 rfl (by omega) (by omega)))
  obtain ⟨m, hm, e⟩ := l
  obtain ⟨n, hn, hr, e2⟩ := sg12 hm
  have e3 : hf_ShortForm_offsetJ h = nI n := by
    show mf_RiscHartModel_signed ((((((((mf_RiscHartModel_bit h 12 1 11) ||| (mf_RiscHartModel_bit h 11 1 4)) ||| (mf_RiscHartModel_bit h 9 2 8)) ||| (mf_RiscHartModel_bit h 8 1 10)) ||| (mf_RiscHartModel_bit h 7 1 6)) ||| (mf_RiscHartModel_bit h 6 1 7)) ||| (mf_RiscHartModel_bit h 3 3 1)) ||| (mf_RiscHartModel_bit h 2 1 5)) 12 = _
    rw [e, e2]
  exact ⟨n, hn, lt2_even hn e3 v, by omega, e3⟩
theorem sT (h : Int32) : ∃ n, n < 2 ^ 32 ∧ n % 2 = 0 ∧ (n < 2 ^ 12 ∨ 2 ^ 32 - 2 ^ 12 ≤ n) ∧ hf_ShortForm_offsetT h = nI n := by
  have l : lt2 (((((mf_RiscHartModel_bit h 12 1 8) ||| (mf_RiscHartModel_bit h 10 2 3)) ||| (mf_RiscHartModel_bit h 5 2 6)) ||| (mf_RiscHartModel_bit h 3 2 1)) ||| (mf_RiscHartModel_bit h 2 1 5)) 9 :=
    lt2_or (lt2_or (lt2_or (lt2_or (lt2_bit h 12 1 8 1 8 9 rfl rfl (by omega) (by omega) (by omega)) (lt2_bit h 10 2 3 2 3 9 rfl rfl (by omega) (by omega) (by omega))) (lt2_bit h 5 2 6 2 6 9 rfl rfl (by omega) (by omega) (by omega))) (lt2_bit h 3 2 1 2 1 9 rfl rfl (by omega) (by omega) (by omega))) (lt2_bit h 2 1 5 1 5 9 rfl rfl (by omega) (by omega) (by omega))
  have v : ev (hf_ShortForm_offsetT h) := ev_sgn 9 23 (by decide) (by omega) (ev_or (ev_or (ev_or (ev_or (ev_bit h 12 1 8 8 rfl (by omega) (by omega)) (ev_bit h 10 2 3 3 rfl (by omega) (by omega))) (ev_bit h 5 2 6 6 rfl (by omega) (by omega))) (ev_bit h 3 2 1 1 rfl (by omega) (by omega))) (ev_bit h 2 1 5 5 rfl (by omega) (by omega)))
  obtain ⟨m, hm, e⟩ := l
  obtain ⟨n, hn, hr, e2⟩ := sg9 hm
  have e3 : hf_ShortForm_offsetT h = nI n := by
    show mf_RiscHartModel_signed (((((mf_RiscHartModel_bit h 12 1 8) ||| (mf_RiscHartModel_bit h 10 2 3)) ||| (mf_RiscHartModel_bit h 5 2 6)) ||| (mf_RiscHartModel_bit h 3 2 1)) ||| (mf_RiscHartModel_bit h 2 1 5)) 9 = _
    rw [e, e2]
  exact ⟨n, hn, lt2_even hn e3 v, by omega, e3⟩
theorem uS (h : Int32) : lt2 (hf_ShortForm_stackNumber h) 10 :=
  lt2_or (lt2_or (lt2_or (lt2_bit h 11 2 4 2 4 10 rfl rfl (by omega) (by omega) (by omega)) (lt2_bit h 7 4 6 4 6 10 rfl rfl (by omega) (by omega) (by omega))) (lt2_bit h 6 1 2 1 2 10 rfl rfl (by omega) (by omega) (by omega))) (lt2_bit h 5 1 3 1 3 10 rfl rfl (by omega) (by omega) (by omega))
theorem uN (h : Int32) : lt2 (hf_ShortForm_nearOffset h) 10 :=
  lt2_or (lt2_or (lt2_bit h 10 3 3 3 3 10 rfl rfl (by omega) (by omega) (by omega)) (lt2_bit h 6 1 2 1 2 10 rfl rfl (by omega) (by omega) (by omega))) (lt2_bit h 5 1 6 1 6 10 rfl rfl (by omega) (by omega) (by omega))
theorem uL (h : Int32) : lt2 (hf_ShortForm_stackLoadOffset h) 10 :=
  lt2_or (lt2_or (lt2_bit h 12 1 5 1 5 10 rfl rfl (by omega) (by omega) (by omega)) (lt2_bit h 4 3 2 3 2 10 rfl rfl (by omega) (by omega) (by omega))) (lt2_bit h 2 2 6 2 6 10 rfl rfl (by omega) (by omega) (by omega))
theorem uP (h : Int32) : lt2 (hf_ShortForm_stackStoreOffset h) 10 :=
  lt2_or (lt2_bit h 9 4 2 4 2 10 rfl rfl (by omega) (by omega) (by omega)) (lt2_bit h 7 2 6 2 6 10 rfl rfl (by omega) (by omega) (by omega))
theorem u12 {v : Int32} (h : lt2 v 10) : small12 v := by
  obtain ⟨m, hm, e⟩ := h
  exact ⟨m, by omega, by omega, e⟩
theorem near_nI (w lo : Int32) : ∃ j, j < 32 ∧ 8 + mf_RiscHartModel_part w lo 3 = nI j := by
  obtain ⟨m, hm, e⟩ := small_part w lo 3 (by omega)
  refine ⟨8 + m, by omega, ?_⟩
  rw [show mf_RiscHartModel_part w lo 3 = nI m from e, show (8 : Int32) = nI 8 from rfl, nI_add]
theorem lowN (w : Int32) : ∃ j, j < 32 ∧ hf_ShortForm_lowNear w = nI j := near_nI w 2
theorem highN (w : Int32) : ∃ j, j < 32 ∧ hf_ShortForm_highNear w = nI j := near_nI w 7
theorem dN (w : Int32) : ∃ j, j < 32 ∧ hf_ShortForm_d w = nI j := small_part w 7 5 (by omega)
theorem bN (w : Int32) : ∃ j, j < 32 ∧ hf_ShortForm_b w = nI j := small_part w 2 5 (by omega)
theorem q_eq (w : Int32) : mf_RiscHartModel_part w 0 2 = w &&& 3 := by
  obtain ⟨n, hn, rfl⟩ := wb_of32 w
  refine (part_nI hn 0 2 (by omega) (by omega)).trans ?_
  refine Eq.trans ?_ (pk_andN hn 2 (by decide)).symm
  rw [Nat.pow_zero, Nat.div_one]
theorem clamp2 : (2 : Int32).toNatClampNeg = 2 := by decide
