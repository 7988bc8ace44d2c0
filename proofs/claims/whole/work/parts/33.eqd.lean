/-! stores on both sides -/
def rsv (r : Int32) (j : Nat) : Int32 := if r = nI (4 * (j / 4)) then -1 else r
def okr (r : Int32) : Prop := r = -1 ∨ ∃ k, k < 16384 ∧ r = nI (4 * k)
theorem okr_rsv {r : Int32} (h : okr r) (j : Nat) : okr (rsv r j) := by
  unfold rsv
  by_cases e : r = nI (4 * (j / 4))
  · rw [if_pos e]; exact Or.inl rfl
  · rw [if_neg e]; exact h
theorem m1_ne {n : Nat} (h : n < 2 ^ 31) : ¬ (-1 : Int32) = nI n := fun e => by
  have := congrArg Int32.toInt e
  rw [nI_toInt h, show Int32.toInt (-1) = -1 from by decide] at this
  omega
theorem rsv_rsv {r : Int32} {j q : Nat} (hj : j < 65536) (h : q / 4 = j / 4) : rsv (rsv r j) q = rsv r j := by
  unfold rsv
  rw [h]
  by_cases e : r = nI (4 * (j / 4))
  · rw [if_pos e, if_neg (m1_ne (by omega))]
  · rw [if_neg e, if_neg e]
theorem write_m {y : MS} {q : Nat} (hq : q < 65536) (hr : okr (ms_reserved y)) (x : Int32) : mf_RiscHartModel_write y (nI q) x = ms_set_reserved (ms_set_byte y (nI q) (x &&& 255)) (rsv (ms_reserved y) q) := by
  unfold mf_RiscHartModel_write rsv
  rcases hr with h | ⟨k, hk, h⟩
  · rw [if_pos h, if_neg (by rw [h]; exact m1_ne (by omega))]
    rfl
  · have e0 : ¬ ms_reserved y = -1 := by rw [h]; exact fun e => m1_ne (n := 4 * k) (by omega) e.symm
    have e1 : nI q / 4 = nI (q / 4) := pk_div (d := 4) (by omega) (by omega) (by omega)
    have e2 : ms_reserved y / 4 = nI k := by
      rw [h]
      refine (pk_div (d := 4) (by omega) (by omega) (by omega)).trans ?_
      congr 1
      omega
    rw [if_neg e0, e1, e2]
    by_cases e : q / 4 = k
    · rw [if_pos (by rw [e]), if_pos (by rw [h, e])]
    · rw [if_neg (fun q9 => e (nI_inj (by omega) (by omega) q9)), if_neg (by
        rw [h]
        exact fun q9 => e (by have := nI_inj (by omega) (by omega) q9; omega))]
      rfl
theorem mask_bt {f : Nat} {M : Nat} (hf : (f = 0 ∧ M = 1) ∨ (f = 1 ∧ M = 2) ∨ (f = 2 ∧ M = 4)) {i : Nat} (hi : i < 32) : bt (hf_Memory_maskOf (nI f)) i = decide (i < 8 * M) := by
  rcases hf with ⟨rfl, rfl⟩ | ⟨rfl, rfl⟩ | ⟨rfl, rfl⟩
  · exact b_255 i
  · exact b_65535 i
  · exact (b_m1 i hi).trans (decide_eq_true (by omega)).symm
/-- the word behind a write, bit by bit -/
theorem wr_bt (old v : Int32) {f M s : Nat} (hf : (f = 0 ∧ M = 1) ∨ (f = 1 ∧ M = 2) ∨ (f = 2 ∧ M = 4)) (hs : s < 32) {k : Nat} (hk : k < 32) :
    bt ((old &&& ((hf_Memory_maskOf (nI f) <<< (nI s &&& 31)) ^^^ (-1))) ||| ((v <<< (nI s &&& 31)) &&& (hf_Memory_maskOf (nI f) <<< (nI s &&& 31)))) k = if s ≤ k ∧ k - s < 8 * M then bt v (k - s) else bt old k := by
  rw [b_or, b_and, b_and, b_xor, b_m1 k hk, b_shl s hs _ hk, b_shl s hs _ hk, mask_bt hf (by omega)]
  by_cases h1 : s ≤ k
  · by_cases h2 : k - s < 8 * M
    · rw [if_pos ⟨h1, h2⟩]; simp [h1, h2]
    · rw [if_neg (fun q => h2 q.2)]; simp [h1, h2]
  · rw [if_neg (fun q => h1 q.1)]; simp [h1]
theorem byte_bt (z : HS) (j : Nat) {i : Nat} : bt (byteOf z j) i = (bt (hs_words z (j / 4)) (8 * (j % 4) + i) && decide (i < 8)) := by
  unfold byteOf ja_ushr
  rw [b_and, b_255, b_ushr _ (by omega)]
/-- what a write leaves of each byte -/
theorem wr_byte (z : HS) (v : Int32) {f M j : Nat} (hf : (f = 0 ∧ M = 1) ∨ (f = 1 ∧ M = 2) ∨ (f = 2 ∧ M = 4)) (hj : j < 65536) (ha : j % M = 0) (q : Nat) (hq : q < 65536) :
    byteOf (hf_Memory_write z (nI f) (nI j) v) q = if j ≤ q ∧ q < j + M then (v >>> (nI (8 * (q - j)) &&& 31)) &&& 255 else byteOf z q := by
  have hw : hs_words (hf_Memory_write z (nI f) (nI j) v) = upd (hs_words z) (j / 4) ((hs_words z (j / 4) &&& ((hf_Memory_maskOf (nI f) <<< (nI (8 * (j % 4)) &&& 31)) ^^^ (-1))) ||| ((v <<< (nI (8 * (j % 4)) &&& 31)) &&& (hf_Memory_maskOf (nI f) <<< (nI (8 * (j % 4)) &&& 31)))) := by
    rw [← shIx j hj, ← wIx hj]
    unfold hf_Memory_write
    split <;> rfl
  have hM : M = 1 ∨ M = 2 ∨ M = 4 := by omega
  refine b_ext (fun i hi => ?_)
  rw [byte_bt, hw]
  unfold upd
  by_cases hi8 : i < 8
  · by_cases hqj : q / 4 = j / 4
    · rw [if_pos hqj, wr_bt _ _ hf (by omega) (by omega)]
      by_cases hc : j ≤ q ∧ q < j + M
      · rw [if_pos hc, if_pos (by omega), b_and, b_255, b_sshr _ (by omega) _ hi, if_pos (by omega), show 8 * (q % 4) + i - 8 * (j % 4) = 8 * (q - j) + i by omega]
      · rw [if_neg hc, if_neg (by rcases hM with rfl | rfl | rfl <;> omega), byte_bt, hqj]
    · rw [if_neg hqj, if_neg (by rcases hM with rfl | rfl | rfl <;> omega), byte_bt]
  · rw [decide_eq_false hi8, Bool.and_false]
    by_cases hc : j ≤ q ∧ q < j + M
    · rw [if_pos hc, b_and, b_255, decide_eq_false hi8, Bool.and_false]
    · rw [if_neg hc, byte_bt, decide_eq_false hi8, Bool.and_false]
theorem and_m4 {j : Nat} (hj : j < 65536) : nI j &&& (-4) = nI (4 * (j / 4)) := by
  refine b_ext (fun i hi => ?_)
  have h4 : ∀ i, i < 32 → bt (-4) i = decide (2 ≤ i) := by decide +kernel
  rw [b_and, h4 i hi]
  show ((nI j).toBitVec.getLsbD i && _) = (nI (4 * (j / 4))).toBitVec.getLsbD i
  rw [BitVec.getLsbD, BitVec.getLsbD, pk_tn (by omega), pk_tn (by omega), show 4 * (j / 4) = (j >>> 2) <<< 2 by rw [Nat.shiftLeft_eq, Nat.shiftRight_eq_div_pow]; omega, Nat.testBit_shiftLeft, Nat.testBit_shiftRight]
  by_cases h2 : 2 ≤ i
  · simp [h2, show 2 + (i - 2) = i by omega]
  · simp [h2]
theorem wr_rest (z : HS) (v : Int32) (f : Int32) {j : Nat} (hj : j < 65536) : hs_reserved (hf_Memory_write z f (nI j) v) = rsv (hs_reserved z) j ∧ hs_regs (hf_Memory_write z f (nI j) v) = hs_regs z ∧ hs_rights (hf_Memory_write z f (nI j) v) = hs_rights z ∧ hs_place (hf_Memory_write z f (nI j) v) = hs_place z ∧ hs_behind (hf_Memory_write z f (nI j) v) = hs_behind z ∧ hs_cause (hf_Memory_write z f (nI j) v) = hs_cause z ∧ hs_value (hf_Memory_write z f (nI j) v) = hs_value z ∧ hs_retired (hf_Memory_write z f (nI j) v) = hs_retired z ∧ hs_time (hf_Memory_write z f (nI j) v) = hs_time z := by
  unfold hf_Memory_write rsv
  rw [and_m4 hj]
  by_cases h : hs_reserved z = nI (4 * (j / 4))
  · rw [if_pos h, if_pos h]; exact ⟨rfl, rfl, rfl, rfl, rfl, rfl, rfl, rfl, rfl⟩
  · rw [if_neg h, if_neg h]; exact ⟨rfl, rfl, rfl, rfl, rfl, rfl, rfl, rfl, rfl⟩
/-- bytes written one behind the other, seen from the reference -/
theorem upd_at (b : Nat → Int32) (k : Nat) (x : Int32) (q : Nat) : upd b k x q = if q = k then x else b q := rfl
/-- the two sides behind a store of M bytes -/
theorem sim_write {z : HS} {y y' : MS} (h : Rel z y) (v : Int32) {f M j : Nat} (hf : (f = 0 ∧ M = 1) ∨ (f = 1 ∧ M = 2) ∨ (f = 2 ∧ M = 4)) (hj : j < 65536) (ha : j % M = 0)
    (hy : ms_x y' = ms_x y ∧ ms_open y' = ms_open y ∧ ms_place y' = ms_place y ∧ ms_cause y' = ms_cause y ∧ ms_value y' = ms_value y ∧ ms_retired y' = ms_retired y ∧ ms_clock y' = ms_clock y)
    (hr : ms_reserved y' = rsv (ms_reserved y) j) (hb : ∀ q, q < 65536 → ms_bytes y' q = if j ≤ q ∧ q < j + M then (v >>> (nI (8 * (q - j)) &&& 31)) &&& 255 else ms_bytes y q) : Rel (hf_Memory_write z (nI f) (nI j) v) y' := by
  obtain ⟨h1, h2, h3, h4, h5, h6, h7, h8, h9, h10, h11⟩ := h
  obtain ⟨w1, w2, w3, w4, w5, w6, w7, w8, w9⟩ := wr_rest z v (nI f) hj
  obtain ⟨y1, y2, y3, y4, y5, y6, y7⟩ := hy
  refine ⟨fun i hi => ?_, ?_, fun q hq => ?_, fun p hp => ?_, ?_, ?_, ?_, ?_, ?_, ?_, ?_⟩
  · rw [y1, w2]; exact h1 i hi
  · rw [w2]; exact h2
  · rw [hb q hq, wr_byte z v hf hj ha q hq, h3 q hq]
  · rw [y2, w3]; exact h4 p hp
  · rw [y3, w4]; exact h5
  · rw [y4, w6]; exact h6
  · rw [y5, w7]; exact h7
  · rw [hr, w1, h8]
  · rw [y6, w8]; exact h9
  · rw [y7, w9]; exact h10
  · rw [w1]; exact okr_rsv h11 j
theorem wr1 {y : MS} {j : Nat} (hj : j < 65536) (hr : okr (ms_reserved y)) (v : Int32) : ∃ y', mf_RiscHartModel_write y (nI j) v = y' ∧ (ms_x y' = ms_x y ∧ ms_open y' = ms_open y ∧ ms_place y' = ms_place y ∧ ms_cause y' = ms_cause y ∧ ms_value y' = ms_value y ∧ ms_retired y' = ms_retired y ∧ ms_clock y' = ms_clock y) ∧ (ms_reserved y' = rsv (ms_reserved y) j ∧ ms_next y' = ms_next y ∧ ms_met y' = ms_met y ∧ ms_code y' = ms_code y ∧ ms_bits y' = ms_bits y) ∧ ∀ q, ms_bytes y' q = if q = j then v &&& 255 else ms_bytes y q := by
  refine ⟨_, rfl, ?_⟩
  rw [write_m hj hr]
  refine ⟨⟨rfl, rfl, rfl, rfl, rfl, rfl, rfl⟩, ⟨rfl, rfl, rfl, rfl, rfl⟩, fun q => ?_⟩
  show upd (ms_bytes y) (nI j).toNatClampNeg _ q = _
  rw [nI_clamp (by omega)]
  rfl
/-- four bytes, two, one: what the reference's writes leave -/
theorem wr4 {y : MS} {j : Nat} (hj : j + 3 < 65536) (h4 : j % 4 = 0) (hr : okr (ms_reserved y)) (v : Int32) : ∃ y', mf_RiscHartModel_write (mf_RiscHartModel_write (mf_RiscHartModel_write (mf_RiscHartModel_write y (nI j + 0) (v >>> (((8 : Int32) * 0) &&& 31))) (nI j + 1) (v >>> (((8 : Int32) * 1) &&& 31))) (nI j + 2) (v >>> (((8 : Int32) * 2) &&& 31))) (nI j + 3) (v >>> (((8 : Int32) * 3) &&& 31)) = y' ∧ (ms_x y' = ms_x y ∧ ms_open y' = ms_open y ∧ ms_place y' = ms_place y ∧ ms_cause y' = ms_cause y ∧ ms_value y' = ms_value y ∧ ms_retired y' = ms_retired y ∧ ms_clock y' = ms_clock y) ∧ (ms_reserved y' = rsv (ms_reserved y) j ∧ ms_next y' = ms_next y ∧ ms_met y' = ms_met y ∧ ms_code y' = ms_code y ∧ ms_bits y' = ms_bits y) ∧ ∀ q, ms_bytes y' q = if j ≤ q ∧ q < j + 4 then (v >>> (nI (8 * (q - j)) &&& 31)) &&& 255 else ms_bytes y q := by
  rw [show nI j + 0 = nI (j + 0) from nI_add j 0, show nI j + 1 = nI (j + 1) from nI_add j 1, show nI j + 2 = nI (j + 2) from nI_add j 2, show nI j + 3 = nI (j + 3) from nI_add j 3]
  obtain ⟨y1, e1, a1, b1, c1⟩ := wr1 (y := y) (j := j + 0) (by omega) hr (v >>> (((8 : Int32) * 0) &&& 31))
  obtain ⟨y2, e2, a2, b2, c2⟩ := wr1 (y := y1) (j := j + 1) (by omega) (by rw [b1.1]; exact okr_rsv hr _) (v >>> (((8 : Int32) * 1) &&& 31))
  obtain ⟨y3, e3, a3, b3, c3⟩ := wr1 (y := y2) (j := j + 2) (by omega) (by rw [b2.1, b1.1]; exact okr_rsv (okr_rsv hr _) _) (v >>> (((8 : Int32) * 2) &&& 31))
  obtain ⟨y4, e4, a4, b4, c4⟩ := wr1 (y := y3) (j := j + 3) (by omega) (by rw [b3.1, b2.1, b1.1]; exact okr_rsv (okr_rsv (okr_rsv hr _) _) _) (v >>> (((8 : Int32) * 3) &&& 31))
  refine ⟨y4, by rw [e1, e2, e3, e4], ?_, ?_, fun q => ?_⟩
  · rw [a4.1, a3.1, a2.1, a1.1, a4.2.1, a3.2.1, a2.2.1, a1.2.1, a4.2.2.1, a3.2.2.1, a2.2.2.1, a1.2.2.1, a4.2.2.2.1, a3.2.2.2.1, a2.2.2.2.1, a1.2.2.2.1, a4.2.2.2.2.1, a3.2.2.2.2.1, a2.2.2.2.2.1, a1.2.2.2.2.1, a4.2.2.2.2.2.1, a3.2.2.2.2.2.1, a2.2.2.2.2.2.1, a1.2.2.2.2.2.1, a4.2.2.2.2.2.2, a3.2.2.2.2.2.2, a2.2.2.2.2.2.2, a1.2.2.2.2.2.2]
    exact ⟨rfl, rfl, rfl, rfl, rfl, rfl, rfl⟩
  · refine ⟨?_, ?_, ?_, ?_, ?_⟩
    · rw [b4.1, b3.1, b2.1, b1.1, Nat.add_zero, rsv_rsv (by omega) (by omega), rsv_rsv (by omega) (by omega), rsv_rsv (by omega) (by omega)]
    · rw [b4.2.1, b3.2.1, b2.2.1, b1.2.1]
    · rw [b4.2.2.1, b3.2.2.1, b2.2.2.1, b1.2.2.1]
    · rw [b4.2.2.2.1, b3.2.2.2.1, b2.2.2.2.1, b1.2.2.2.1]
    · rw [b4.2.2.2.2, b3.2.2.2.2, b2.2.2.2.2, b1.2.2.2.2]
  · rw [c4, c3, c2, c1]
    by_cases q3 : q = j + 3
    · subst q3
      rw [if_pos rfl, if_pos (by omega), show 8 * (j + 3 - j) = 24 by omega]; rfl
    · rw [if_neg q3]
      by_cases q2 : q = j + 2
      · subst q2
        rw [if_pos rfl, if_pos (by omega), show 8 * (j + 2 - j) = 16 by omega]; rfl
      · rw [if_neg q2]
        by_cases q1 : q = j + 1
        · subst q1
          rw [if_pos rfl, if_pos (by omega), show 8 * (j + 1 - j) = 8 by omega]; rfl
        · rw [if_neg q1]
          by_cases q0 : q = j + 0
          · rw [if_pos q0, if_pos (by omega), show 8 * (q - j) = 0 by omega]; rfl
          · rw [if_neg q0, if_neg (by omega)]
theorem wr2 {y : MS} {j : Nat} (hj : j + 1 < 65536) (h4 : j % 2 = 0) (hr : okr (ms_reserved y)) (v : Int32) : ∃ y', mf_RiscHartModel_write (mf_RiscHartModel_write y (nI j + 0) (v >>> (((8 : Int32) * 0) &&& 31))) (nI j + 1) (v >>> (((8 : Int32) * 1) &&& 31)) = y' ∧ (ms_x y' = ms_x y ∧ ms_open y' = ms_open y ∧ ms_place y' = ms_place y ∧ ms_cause y' = ms_cause y ∧ ms_value y' = ms_value y ∧ ms_retired y' = ms_retired y ∧ ms_clock y' = ms_clock y) ∧ (ms_reserved y' = rsv (ms_reserved y) j ∧ ms_next y' = ms_next y ∧ ms_met y' = ms_met y ∧ ms_code y' = ms_code y ∧ ms_bits y' = ms_bits y) ∧ ∀ q, ms_bytes y' q = if j ≤ q ∧ q < j + 2 then (v >>> (nI (8 * (q - j)) &&& 31)) &&& 255 else ms_bytes y q := by
  rw [show nI j + 0 = nI (j + 0) from nI_add j 0, show nI j + 1 = nI (j + 1) from nI_add j 1]
  obtain ⟨y1, e1, a1, b1, c1⟩ := wr1 (y := y) (j := j + 0) (by omega) hr (v >>> (((8 : Int32) * 0) &&& 31))
  obtain ⟨y2, e2, a2, b2, c2⟩ := wr1 (y := y1) (j := j + 1) (by omega) (by rw [b1.1]; exact okr_rsv hr _) (v >>> (((8 : Int32) * 1) &&& 31))
  refine ⟨y2, by rw [e1, e2], ?_, ?_, fun q => ?_⟩
  · rw [a2.1, a1.1, a2.2.1, a1.2.1, a2.2.2.1, a1.2.2.1, a2.2.2.2.1, a1.2.2.2.1, a2.2.2.2.2.1, a1.2.2.2.2.1, a2.2.2.2.2.2.1, a1.2.2.2.2.2.1, a2.2.2.2.2.2.2, a1.2.2.2.2.2.2]
    exact ⟨rfl, rfl, rfl, rfl, rfl, rfl, rfl⟩
  · refine ⟨?_, ?_, ?_, ?_, ?_⟩
    · rw [b2.1, b1.1, Nat.add_zero, rsv_rsv (by omega) (by omega)]
    · rw [b2.2.1, b1.2.1]
    · rw [b2.2.2.1, b1.2.2.1]
    · rw [b2.2.2.2.1, b1.2.2.2.1]
    · rw [b2.2.2.2.2, b1.2.2.2.2]
  · rw [c2, c1]
    by_cases q1 : q = j + 1
    · subst q1
      rw [if_pos rfl, if_pos (by omega), show 8 * (j + 1 - j) = 8 by omega]; rfl
    · rw [if_neg q1]
      by_cases q0 : q = j + 0
      · rw [if_pos q0, if_pos (by omega), show 8 * (q - j) = 0 by omega]; rfl
      · rw [if_neg q0, if_neg (by omega)]
theorem wr1' {y : MS} {j : Nat} (hj : j < 65536) (hr : okr (ms_reserved y)) (v : Int32) : ∃ y', mf_RiscHartModel_write y (nI j + 0) (v >>> (((8 : Int32) * 0) &&& 31)) = y' ∧ (ms_x y' = ms_x y ∧ ms_open y' = ms_open y ∧ ms_place y' = ms_place y ∧ ms_cause y' = ms_cause y ∧ ms_value y' = ms_value y ∧ ms_retired y' = ms_retired y ∧ ms_clock y' = ms_clock y) ∧ (ms_reserved y' = rsv (ms_reserved y) j ∧ ms_next y' = ms_next y ∧ ms_met y' = ms_met y ∧ ms_code y' = ms_code y ∧ ms_bits y' = ms_bits y) ∧ ∀ q, ms_bytes y' q = if j ≤ q ∧ q < j + 1 then (v >>> (nI (8 * (q - j)) &&& 31)) &&& 255 else ms_bytes y q := by
  rw [show nI j + 0 = nI (j + 0) from nI_add j 0]
  obtain ⟨y1, e1, a1, b1, c1⟩ := wr1 (y := y) (j := j + 0) (by omega) hr (v >>> (((8 : Int32) * 0) &&& 31))
  refine ⟨y1, e1, a1, b1, fun q => ?_⟩
  rw [c1]
  by_cases q0 : q = j + 0
  · rw [if_pos q0, if_pos (by omega), show 8 * (q - j) = 0 by omega]; rfl
  · rw [if_neg q0, if_neg (by omega)]
theorem al {f M j : Nat} (hf : (f = 0 ∧ M = 1) ∨ (f = 1 ∧ M = 2) ∨ (f = 2 ∧ M = 4)) (hj : j < 65536) (h : hf_Memory_isMisaligned (nI f) (nI j) = 0) : j % M = 0 := by
  have h1 := (mis_iff (nI f) (nI j)).mpr h
  obtain ⟨m, hm, e⟩ := m_many (nI f)
  have e2 : m = M := by
    have e3 : nI m = nI M := by rw [← e]; rcases hf with ⟨rfl, rfl⟩ | ⟨rfl, rfl⟩ | ⟨rfl, rfl⟩ <;> decide
    exact nI_inj (by omega) (by omega) e3
  rw [e, e2] at h1
  exact (rem_iff (by omega) (by omega)).mp h1
/-- put, where nothing is wrong -/
theorem put_ok {z : HS} {y : MS} (h : Rel z y) {f M : Nat} (hf : (f = 0 ∧ M = 1) ∨ (f = 1 ∧ M = 2) ∨ (f = 2 ∧ M = 4)) (a v : Int32) (h1 : hf_Memory_isMisaligned (nI f) a = 0) (h2 : ¬ hf_Memory_allows z 2 a = 0) :
    Rel (hf_Memory_write z (nI f) a v) (mf_RiscHartModel_put y (nI f) a v) ∧ ms_next (mf_RiscHartModel_put y (nI f) a v) = ms_next y ∧ ms_met (mf_RiscHartModel_put y (nI f) a v) = ms_met y ∧ ms_bits (mf_RiscHartModel_put y (nI f) a v) = ms_bits y ∧ hs_behind (hf_Memory_write z (nI f) a v) = hs_behind z ∧ hs_place (hf_Memory_write z (nI f) a v) = hs_place z := by
  have hmay : mf_RiscHartModel_may y a 2 = hf_Memory_allows z 2 a := may_eq h a 2 (by omega)
  have hmay2 : ¬ mf_RiscHartModel_may y a 2 = 0 := by rw [hmay]; exact h2
  have hm1 := (mis_iff (nI f) a).mpr h1
  obtain ⟨j, hj, rfl⟩ := m_may hmay2
  have ha := al hf (by omega) h1
  have hr : okr (ms_reserved y) := by rw [h.2.2.2.2.2.2.2.1]; exact h.2.2.2.2.2.2.2.2.2.2
  obtain ⟨w1, w2, w3, w4, w5, w6⟩ := wr_rest z v (nI f) (j := j) (by omega)
  refine ⟨?_, ?_, ?_, ?_, w5, w4⟩ <;> unfold mf_RiscHartModel_put <;> rcases hf with ⟨rfl, rfl⟩ | ⟨rfl, rfl⟩ | ⟨rfl, rfl⟩
  · obtain ⟨y', e, a1, b1, c1⟩ := wr1' (y := y) (j := j) (by omega) hr v
    rw [if_pos (by decide), if_pos hm1, if_neg hmay2, if_neg (by decide), if_pos (by decide), e]
    exact sim_write h v (Or.inl ⟨rfl, rfl⟩) (by omega) ha a1 b1.1 (fun q _ => c1 q)
  · obtain ⟨y', e, a1, b1, c1⟩ := wr2 (y := y) (j := j) (by omega) ha hr v
    rw [if_pos (by decide), if_pos hm1, if_neg hmay2, if_neg (by decide), if_neg (by decide), if_pos (by decide), e]
    exact sim_write h v (Or.inr (Or.inl ⟨rfl, rfl⟩)) (by omega) ha a1 b1.1 (fun q _ => c1 q)
  · obtain ⟨y', e, a1, b1, c1⟩ := wr4 (y := y) (j := j) (by omega) ha hr v
    rw [if_pos (by decide), if_pos hm1, if_neg hmay2, if_neg (by decide), if_neg (by decide), if_neg (by decide), if_neg (by decide), if_pos (by decide), e]
    exact sim_write h v (Or.inr (Or.inr ⟨rfl, rfl⟩)) (by omega) ha a1 b1.1 (fun q _ => c1 q)
  · obtain ⟨y', e, a1, b1, c1⟩ := wr1' (y := y) (j := j) (by omega) hr v
    rw [if_pos (by decide), if_pos hm1, if_neg hmay2, if_neg (by decide), if_pos (by decide), e]; exact b1.2.1
  · obtain ⟨y', e, a1, b1, c1⟩ := wr2 (y := y) (j := j) (by omega) ha hr v
    rw [if_pos (by decide), if_pos hm1, if_neg hmay2, if_neg (by decide), if_neg (by decide), if_pos (by decide), e]; exact b1.2.1
  · obtain ⟨y', e, a1, b1, c1⟩ := wr4 (y := y) (j := j) (by omega) ha hr v
    rw [if_pos (by decide), if_pos hm1, if_neg hmay2, if_neg (by decide), if_neg (by decide), if_neg (by decide), if_neg (by decide), if_pos (by decide), e]; exact b1.2.1
  · obtain ⟨y', e, a1, b1, c1⟩ := wr1' (y := y) (j := j) (by omega) hr v
    rw [if_pos (by decide), if_pos hm1, if_neg hmay2, if_neg (by decide), if_pos (by decide), e]; exact b1.2.2.1
  · obtain ⟨y', e, a1, b1, c1⟩ := wr2 (y := y) (j := j) (by omega) ha hr v
    rw [if_pos (by decide), if_pos hm1, if_neg hmay2, if_neg (by decide), if_neg (by decide), if_pos (by decide), e]; exact b1.2.2.1
  · obtain ⟨y', e, a1, b1, c1⟩ := wr4 (y := y) (j := j) (by omega) ha hr v
    rw [if_pos (by decide), if_pos hm1, if_neg hmay2, if_neg (by decide), if_neg (by decide), if_neg (by decide), if_neg (by decide), if_pos (by decide), e]; exact b1.2.2.1
  · obtain ⟨y', e, a1, b1, c1⟩ := wr1' (y := y) (j := j) (by omega) hr v
    rw [if_pos (by decide), if_pos hm1, if_neg hmay2, if_neg (by decide), if_pos (by decide), e]; exact b1.2.2.2.2
  · obtain ⟨y', e, a1, b1, c1⟩ := wr2 (y := y) (j := j) (by omega) ha hr v
    rw [if_pos (by decide), if_pos hm1, if_neg hmay2, if_neg (by decide), if_neg (by decide), if_pos (by decide), e]; exact b1.2.2.2.2
  · obtain ⟨y', e, a1, b1, c1⟩ := wr4 (y := y) (j := j) (by omega) ha hr v
    rw [if_pos (by decide), if_pos hm1, if_neg hmay2, if_neg (by decide), if_neg (by decide), if_neg (by decide), if_neg (by decide), if_pos (by decide), e]; exact b1.2.2.2.2
theorem sim_store {z : HS} {y : MS} {w : Int32} (h : RelD z y w) {f M : Nat} (hf : (f = 0 ∧ M = 1) ∨ (f = 1 ∧ M = 2) ∨ (f = 2 ∧ M = 4)) (a v : Int32) : Out (hf_RiscHart_store z (nI f) a v).1 (hf_RiscHart_store z (nI f) a v).2 (mf_RiscHartModel_put y (nI f) a v) := by
  have hmay : mf_RiscHartModel_may y a 2 = hf_Memory_allows z 2 a := may_eq h.1 a 2 (by omega)
  have h2' : nI f ≤ 2 := by rcases hf with ⟨rfl, rfl⟩ | ⟨rfl, rfl⟩ | ⟨rfl, rfl⟩ <;> decide
  unfold hf_RiscHart_store
  by_cases h1 : hf_Memory_isMisaligned (nI f) a = 0
  · rw [if_pos h1]
    by_cases h2 : hf_Memory_allows z 2 a = 0
    · rw [if_pos h2]
      have e : mf_RiscHartModel_put y (nI f) a v = (mf_RiscHartModel_trap y 7 a).2 := by
        unfold mf_RiscHartModel_put
        rw [if_pos h2', if_pos ((mis_iff (nI f) a).mpr h1), if_pos (by rw [hmay]; exact h2)]
      rw [e]
      exact sim_trap h 7 a (by decide)
    · rw [if_neg h2]
      obtain ⟨p1, p2, p3, p4, p5, p6⟩ := put_ok h.1 hf a v h1 h2
      exact ⟨p1, by rw [p3]; exact h.2.2.1, fun _ => by rw [p2, p5]; exact h.2.1, Or.inl rfl⟩
  · rw [if_neg h1]
    have e : mf_RiscHartModel_put y (nI f) a v = (mf_RiscHartModel_trap y 5 a).2 := by
      unfold mf_RiscHartModel_put
      rw [if_pos h2', if_neg (fun q => h1 ((mis_iff (nI f) a).mp q))]
    rw [e]
    exact sim_trap h 5 a (by decide)
