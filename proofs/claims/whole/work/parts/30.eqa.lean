/-! ===== Int32 by its bits: bt x i ===== -/
def bt (x : Int32) (i : Nat) : Bool := x.toBitVec.getLsbD i
theorem b_ext {x y : Int32} (h : ∀ i, i < 32 → bt x i = bt y i) : x = y := Int32.toBitVec_inj.mp (BitVec.eq_of_getLsbD_eq (fun i hi => h i hi))
theorem b_or (x y : Int32) (i : Nat) : bt (x ||| y) i = (bt x i || bt y i) := by unfold bt; rw [Int32.toBitVec_or, BitVec.getLsbD_or]
theorem b_and (x y : Int32) (i : Nat) : bt (x &&& y) i = (bt x i && bt y i) := by unfold bt; rw [Int32.toBitVec_and, BitVec.getLsbD_and]
theorem b_xor (x y : Int32) (i : Nat) : bt (x ^^^ y) i = (bt x i ^^ bt y i) := by unfold bt; rw [Int32.toBitVec_xor, BitVec.getLsbD_xor]
theorem b_big {x : Int32} {i : Nat} (h : 32 ≤ i) : bt x i = false := BitVec.getLsbD_of_ge _ _ h
theorem b_255 (i : Nat) : bt 255 i = decide (i < 8) := by
  rcases Nat.lt_or_ge i 32 with h | h
  · exact (by decide +kernel : ∀ i, i < 32 → bt 255 i = decide (i < 8)) i h
  · rw [b_big h, decide_eq_false (by omega)]
theorem b_65535 (i : Nat) : bt 65535 i = decide (i < 16) := by
  rcases Nat.lt_or_ge i 32 with h | h
  · exact (by decide +kernel : ∀ i, i < 32 → bt 65535 i = decide (i < 16)) i h
  · rw [b_big h, decide_eq_false (by omega)]
theorem b_m1 : ∀ i, i < 32 → bt (-1) i = true := by decide +kernel
theorem b_0 (i : Nat) : bt 0 i = false := BitVec.getLsbD_zero
theorem s_l : ∀ n, n < 32 → ((nI n &&& 31).toBitVec.smod 32).toNat = n := by decide +kernel
theorem s_u : ∀ n, n < 32 → (((nI n).toUInt32 &&& Int32.toUInt32 31).toBitVec % 32).toNat = n := by decide +kernel
theorem b_shl (n : Nat) (hn : n < 32) (x : Int32) {i : Nat} (hi : i < 32) : bt (x <<< (nI n &&& 31)) i = (decide (n ≤ i) && bt x (i - n)) := by
  unfold bt
  rw [Int32.toBitVec_shiftLeft]
  show (x.toBitVec <<< ((nI n &&& 31).toBitVec.smod 32).toNat).getLsbD i = _
  rw [s_l n hn, BitVec.getLsbD_shiftLeft]
  rcases Nat.lt_or_ge i n with h | h
  · simp [h, Nat.not_le.mpr h]
  · simp [hi, h, Nat.not_lt.mpr h]
theorem b_ushr (n : Nat) (hn : n < 32) (x : Int32) (i : Nat) : bt ((x.toUInt32 >>> ((nI n).toUInt32 &&& Int32.toUInt32 31)).toInt32) i = bt x (n + i) := by
  show (x.toUInt32 >>> ((nI n).toUInt32 &&& Int32.toUInt32 31)).toBitVec.getLsbD i = x.toUInt32.toBitVec.getLsbD (n + i)
  rw [UInt32.toBitVec_shiftRight]
  show (x.toUInt32.toBitVec >>> (((nI n).toUInt32 &&& Int32.toUInt32 31).toBitVec % 32).toNat).getLsbD i = _
  rw [s_u n hn, BitVec.getLsbD_ushiftRight]
theorem b_sshr (n : Nat) (hn : n < 32) (x : Int32) {i : Nat} (hi : i < 32) : bt (x >>> (nI n &&& 31)) i = if n + i < 32 then bt x (n + i) else bt x 31 := by
  unfold bt
  rw [Int32.toBitVec_shiftRight]
  show (x.toBitVec.sshiftRight ((nI n &&& 31).toBitVec.smod 32).toNat).getLsbD i = _
  rw [s_l n hn, BitVec.getLsbD_sshiftRight, BitVec.msb_eq_getLsbD_last]
  simp [hi]
/-! numbers by their Nat: parts, shifts, ors -/
theorem wb_of32 (x : Int32) : ∃ n, n < 2 ^ 32 ∧ x = nI n := ⟨x.toBitVec.toNat, x.toBitVec.isLt, Int32.toBitVec_inj.mp (by show _ = BitVec.ofNat 32 _; simp)⟩
theorem nI_mod (n : Nat) : nI n = nI (n % 2 ^ 32) := Int32.toBitVec_inj.mp (by
  show BitVec.ofNat 32 n = BitVec.ofNat 32 (n % 2 ^ 32)
  apply BitVec.eq_of_toNat_eq
  simp)
theorem nI_inj {a b : Nat} (ha : a < 2 ^ 32) (hb : b < 2 ^ 32) (h : nI a = nI b) : a = b := by
  have := congrArg (fun x : Int32 => x.toBitVec.toNat) h
  simpa [pk_tn ha, pk_tn hb] using this
theorem nI_or (a b : Nat) : nI a ||| nI b = nI (a ||| b) := Int32.toBitVec_inj.mp (by
  rw [Int32.toBitVec_or]
  show BitVec.ofNat 32 a ||| BitVec.ofNat 32 b = BitVec.ofNat 32 (a ||| b)
  apply BitVec.eq_of_toNat_eq
  simp [Nat.or_mod_two_pow])
theorem or_add {a b : Nat} (k : Nat) (ha : a < 2 ^ k) : nI a ||| nI (b * 2 ^ k) = nI (a + b * 2 ^ k) := by
  rw [nI_or, Nat.or_comm, Nat.add_comm, ← Nat.shiftLeft_eq, ← Nat.shiftLeft_add_eq_or_of_lt ha]
theorem ush_nI {n : Nat} (hn : n < 2 ^ 32) (k : Nat) (hk : k < 32) : ja_ushr (nI n) (nI k) = nI (n / 2 ^ k) := by
  unfold ja_ushr
  exact pk_ushrN hn (nI k) k (s_u k hk)
theorem shl_nI (n k : Nat) (hk : k < 32) : nI n <<< (nI k &&& 31) = nI (n * 2 ^ k) := by
  apply Int32.toBitVec_inj.mp
  apply BitVec.eq_of_toNat_eq
  rw [pk_shl (nI n) (nI k &&& 31) k (s_l k hk)]
  show (BitVec.ofNat 32 n).toNat * 2 ^ k % 2 ^ 32 = (BitVec.ofNat 32 (n * 2 ^ k)).toNat
  simp [Nat.mod_mul_mod]
theorem msk_nI : ∀ k, k < 31 → (((1 : Int32) <<< (nI k &&& 31)) - 1).toBitVec.toNat = 2 ^ k - 1 := by decide +kernel
theorem part_nI {n : Nat} (hn : n < 2 ^ 32) (lo k : Nat) (hlo : lo < 32) (hk : k < 31) : mf_RiscHartModel_part (nI n) (nI lo) (nI k) = nI (n / 2 ^ lo % 2 ^ k) := by
  show ja_ushr (nI n) (nI lo) &&& (((1 : Int32) <<< (nI k &&& 31)) - 1) = _
  rw [ush_nI hn lo hlo]
  exact pk_andN (Nat.lt_of_le_of_lt (Nat.div_le_self _ _) hn) k (msk_nI k hk)
/-- the parts of both sides are one function -/
theorem part_eq (w lo k : Int32) : hf_Bits_part w lo k = mf_RiscHartModel_part w lo k := rfl
theorem signed_eq (v k : Int32) : hf_Bits_signed v k = mf_RiscHartModel_signed v k := rfl
theorem LF_d (w : Int32) : hf_LongForm_d w = mf_RiscHartModel_part w 7 5 := rfl
theorem LF_f (w : Int32) : hf_LongForm_f w = mf_RiscHartModel_part w 12 3 := rfl
theorem LF_a (w : Int32) : hf_LongForm_a w = mf_RiscHartModel_part w 15 5 := rfl
theorem LF_b (w : Int32) : hf_LongForm_b w = mf_RiscHartModel_part w 20 5 := rfl
theorem LF_g (w : Int32) : hf_LongForm_g w = mf_RiscHartModel_part w 25 7 := rfl
theorem LF_k (w : Int32) : hf_LongForm_k w = mf_RiscHartModel_part w 27 5 := rfl
theorem LF_J (w : Int32) : hf_LongForm_offsetJ w = mf_RiscHartModel_signed ((((mf_RiscHartModel_bit w 31 1 20) ||| (mf_RiscHartModel_bit w 12 8 12)) ||| (mf_RiscHartModel_bit w 20 1 11)) ||| (mf_RiscHartModel_bit w 21 10 1)) 21 := rfl
theorem LF_T (w : Int32) : hf_LongForm_offsetT w = mf_RiscHartModel_signed ((((mf_RiscHartModel_bit w 31 1 12) ||| (mf_RiscHartModel_bit w 7 1 11)) ||| (mf_RiscHartModel_bit w 25 6 5)) ||| (mf_RiscHartModel_bit w 8 4 1)) 13 := rfl
theorem op_eq (w : Int32) : w &&& 127 = mf_RiscHartModel_part w 0 7 := by
  obtain ⟨n, hn, rfl⟩ := wb_of32 w
  refine (pk_andN hn 7 (by decide)).trans ?_
  refine Eq.trans ?_ (part_nI hn 0 7 (by omega) (by omega)).symm
  rw [Nat.pow_zero, Nat.div_one]
theorem LF_k2 (w : Int32) : mf_RiscHartModel_part w 25 7 >>> ((2 : Int32) &&& 31) = mf_RiscHartModel_part w 27 5 := by
  obtain ⟨n, hn, rfl⟩ := wb_of32 w
  refine (congrArg (· >>> ((2 : Int32) &&& 31)) (part_nI hn 25 7 (by omega) (by omega))).trans ?_
  refine Eq.trans ?_ (part_nI hn 27 5 (by omega) (by omega)).symm
  have h : n / 2 ^ 25 % 2 ^ 7 < 2 ^ 31 := Nat.lt_of_lt_of_le (Nat.mod_lt _ (by omega)) (by omega)
  rw [pk_shrN h _ 2 (by decide)]
  congr 1
  omega
theorem small_part (w lo : Int32) (k : Nat) (hk : k < 31) : ∃ j : Nat, j < 2 ^ k ∧ mf_RiscHartModel_part w lo (nI k) = nI j :=
  pk_andE (ja_ushr w lo) k (msk_nI k hk)
/-- I & 31 is the part of five bits from 20 on -/
theorem I31 (w : Int32) : (w >>> ((20 : Int32) &&& 31)) &&& 31 = mf_RiscHartModel_part w 20 5 := by
  refine b_ext (fun i hi => ?_)
  show bt ((w >>> (nI 20 &&& 31)) &&& 31) i = bt (ja_ushr w (nI 20) &&& 31) i
  rw [b_and, b_and, b_sshr 20 (by omega) w hi]
  unfold ja_ushr
  rw [b_ushr 20 (by omega)]
  by_cases h : 20 + i < 32
  · rw [if_pos h]
  · have h31 : ∀ i, i < 32 → ¬ 20 + i < 32 → bt 31 i = false := by decide +kernel
    rw [h31 i hi h, Bool.and_false, Bool.and_false]
theorem b_31 : ∀ i, i < 32 → bt 31 i = decide (i < 5) := by decide +kernel
theorem b_127 : ∀ i, i < 32 → bt 127 i = decide (i < 7) := by decide +kernel
theorem b_m32 : ∀ i, i < 32 → bt (-32) i = decide (5 ≤ i) := by decide +kernel
/-- the immediate S of both sides -/
theorem S_eq (w : Int32) : hf_LongForm_numberS w = ((w >>> ((20 : Int32) &&& 31)) &&& (-32)) ||| mf_RiscHartModel_part w 7 5 := by
  refine b_ext (fun i hi => ?_)
  show bt (((((ja_ushr w (nI 25) &&& 127) <<< (nI 5 &&& 31)) ||| (ja_ushr w (nI 7) &&& 31)) <<< (nI 20 &&& 31)) >>> (nI 20 &&& 31)) i = bt (((w >>> (nI 20 &&& 31)) &&& (-32)) ||| (ja_ushr w (nI 7) &&& 31)) i
  rw [b_sshr 20 (by omega) _ hi]
  have key : ∀ j, j < 12 → bt ((((ja_ushr w (nI 25) &&& 127) <<< (nI 5 &&& 31)) ||| (ja_ushr w (nI 7) &&& 31)) <<< (nI 20 &&& 31)) (20 + j) = if j < 5 then bt w (7 + j) else bt w (20 + j) := by
    intro j hj
    rw [b_shl 20 (by omega) _ (by omega), b_or, b_shl 5 (by omega) _ (by omega), b_and, b_and, b_127 _ (by omega), b_31 _ (by omega)]
    unfold ja_ushr
    rw [b_ushr 25 (by omega), b_ushr 7 (by omega)]
    by_cases h5 : j < 5
    · simp [h5, show ¬ 5 ≤ j by omega]
    · rw [if_neg h5]
      simp [h5, show 5 ≤ j by omega, show j - 5 < 7 by omega, show 25 + (j - 5) = 20 + j by omega]
  rw [b_or, b_and, b_and, b_sshr 20 (by omega) w hi, b_m32 i hi, b_31 i hi]
  unfold ja_ushr
  rw [b_ushr 7 (by omega)]
  by_cases h : 20 + i < 32
  · rw [if_pos h, if_pos h]
    have := key i (by omega)
    unfold ja_ushr at this
    rw [this]
    by_cases h5 : i < 5
    · simp [h5, show ¬ 5 ≤ i by omega]
    · simp [h5, show 5 ≤ i by omega]
  · rw [if_neg h, if_neg h]
    have := key 11 (by omega)
    unfold ja_ushr at this
    rw [show (31 : Nat) = 20 + 11 from rfl, this]
    simp [show ¬ i < 5 by omega, show 5 ≤ i by omega]
/-- even numbers -/
def ev (x : Int32) : Prop := bt x 0 = false
theorem ev_or {x y : Int32} (hx : ev x) (hy : ev y) : ev (x ||| y) := by unfold ev; rw [b_or, hx, hy]; rfl
theorem ev_shl (x : Int32) (k : Nat) (hk : 0 < k) (hk2 : k < 32) : ev (x <<< (nI k &&& 31)) := by
  unfold ev
  rw [b_shl k hk2 x (by omega), decide_eq_false (by omega)]; rfl
theorem ev_signed {x : Int32} (k : Nat) (hk : k < 32) (h : ev x) : ev ((x <<< (nI k &&& 31)) >>> (nI k &&& 31)) := by
  unfold ev
  rw [b_sshr k hk _ (by omega), if_pos (by omega), b_shl k hk _ (by omega), show k + 0 - k = 0 by omega, h, Bool.and_false]
theorem ev_iff (x : Int32) : ev x ↔ x.toBitVec.toNat % 2 = 0 := by
  unfold ev bt
  rw [BitVec.getLsbD, Nat.testBit_zero]
  simp
theorem ev_add {x y : Int32} (hx : ev x) (hy : ev y) : ev (x + y) := by
  rw [ev_iff] at *
  rw [Int32.toBitVec_add, BitVec.toNat_add]
  omega
theorem b_m2 : ∀ i, i < 32 → bt (-2) i = decide (1 ≤ i) := by decide +kernel
theorem ev_and {x : Int32} (h : ev x) : x &&& (-2) = x := by
  refine b_ext (fun i hi => ?_)
  rw [b_and, b_m2 i hi]
  by_cases h0 : i = 0
  · subst h0; rw [h]; rfl
  · rw [decide_eq_true (by omega), Bool.and_true]
theorem ev_of {x : Int32} (h : ¬ x &&& 1 = 1) : ev x := by
  unfold ev
  cases hb : bt x 0 with
  | false => rfl
  | true =>
    exfalso
    apply h
    refine b_ext (fun i hi => ?_)
    have h1 : ∀ i, i < 32 → bt 1 i = decide (i = 0) := by decide +kernel
    rw [b_and, h1 i hi]
    by_cases h0 : i = 0
    · subst h0; rw [hb]; rfl
    · rw [decide_eq_false h0, Bool.and_false]
