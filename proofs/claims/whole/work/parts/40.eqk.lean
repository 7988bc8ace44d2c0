/-! the short instructions: a word put together, carried out -/
def small12 (v : Int32) : Prop := ∃ n : Nat, n < 2 ^ 32 ∧ (n < 2048 ∨ 2 ^ 32 - 2048 ≤ n) ∧ v = nI n
def Sx (c : Int32 × HS) (y : MS) (W : Int32) : Prop := Out c.1 c.2 (if W = 0 then (mf_RiscHartModel_illegal y).2 else mf_RiscHartModel_carry y W)
theorem Sx_ill {z : HS} {y : MS} {b : Int32} (h : RelD z y b) : Sx (hf_RiscHart_trap z 2 b) y 0 := by
  unfold Sx
  rw [if_pos rfl]
  exact sim_illegal h
theorem Sx_ne {c : Int32 × HS} {y : MS} {W : Int32} (hop : ¬ mf_RiscHartModel_part W 0 7 = 0) (h : Out c.1 c.2 (mf_RiscHartModel_carry y W)) : Sx c y W := by
  unfold Sx
  rw [if_neg (fun q => hop (by rw [q]; decide))]
  exact h
theorem S_addi {z : HS} {y : MS} {b : Int32} (h : RelD z y b) {d a : Nat} (hd : d < 32) (ha : a < 32) {v : Int32} (hv : small12 v) : Sx (hf_RiscHart_give z (nI d) (hs_regs z a + v)) y (mf_RiscHartModel_immediate 19 0 (nI d) (nI a) v) := by
  obtain ⟨n, hn, hr, rfl⟩ := hv
  obtain ⟨p0, p7, p12, p15, p20, p25, pI⟩ := imm_parts (op := 19) (f := 0) (by omega) (by omega) hd ha hn hr
  show Sx _ y (mf_RiscHartModel_immediate (nI 19) (nI 0) (nI d) (nI a) (nI n))
  refine Sx_ne (by rw [p0]; decide) ?_
  rw [carry19 y p0]
  unfold m13
  rw [p12, if_neg (by decide), if_neg (by decide), p7, p15, pI, nI_clamp (by omega), h.1.1 a ha, show mf_RiscHartModel_reckoned (nI 0) (hs_regs z a) (nI n) = _ from reck_0 _ _]
  exact sim_give h _ _ (vp_in_nI hd (by omega))
theorem S_andi {z : HS} {y : MS} {b : Int32} (h : RelD z y b) {d a : Nat} (hd : d < 32) (ha : a < 32) {v : Int32} (hv : small12 v) : Sx (hf_RiscHart_give z (nI d) (hs_regs z a &&& v)) y (mf_RiscHartModel_immediate 19 7 (nI d) (nI a) v) := by
  obtain ⟨n, hn, hr, rfl⟩ := hv
  obtain ⟨p0, p7, p12, p15, p20, p25, pI⟩ := imm_parts (op := 19) (f := 7) (by omega) (by omega) hd ha hn hr
  show Sx _ y (mf_RiscHartModel_immediate (nI 19) (nI 7) (nI d) (nI a) (nI n))
  refine Sx_ne (by rw [p0]; decide) ?_
  rw [carry19 y p0]
  unfold m13
  rw [p12, if_neg (by decide), if_neg (by decide), p7, p15, pI, nI_clamp (by omega), h.1.1 a ha, show mf_RiscHartModel_reckoned (nI 7) (hs_regs z a) (nI n) = _ from reck_7 _ _]
  exact sim_give h _ _ (vp_in_nI hd (by omega))
theorem S_slli {z : HS} {y : MS} {b : Int32} (h : RelD z y b) {d a s : Nat} (hd : d < 32) (ha : a < 32) (hs : s < 32) : Sx (hf_RiscHart_give z (nI d) (hs_regs z a <<< (nI s &&& 31))) y (mf_RiscHartModel_immediate 19 1 (nI d) (nI a) (nI s)) := by
  obtain ⟨p0, p7, p12, p15, p20, p25, pI⟩ := imm_parts (op := 19) (f := 1) (by omega) (by omega) hd ha (n := s) (by omega) (by omega)
  show Sx _ y (mf_RiscHartModel_immediate (nI 19) (nI 1) (nI d) (nI a) (nI s))
  refine Sx_ne (by rw [p0]; decide) ?_
  rw [carry19 y p0]
  unfold m13
  rw [p12, if_pos (by decide), p7, p15, p20, p25, nI_clamp (by omega), h.1.1 a ha, show s % 4096 / 32 = 0 by omega, show s % 32 = s by omega, show mf_RiscHartModel_shifted y (nI 1) (nI 0) (hs_regs z a) (nI s) = _ from shd_1 y _ _]
  exact sim_give h _ _ (vp_in_nI hd (by omega))
theorem S_srli {z : HS} {y : MS} {b : Int32} (h : RelD z y b) {d a s : Nat} (hd : d < 32) (ha : a < 32) (hs : s < 32) : Sx (hf_RiscHart_give z (nI d) (ja_ushr (hs_regs z a) (nI s))) y (mf_RiscHartModel_immediate 19 5 (nI d) (nI a) (nI s)) := by
  obtain ⟨p0, p7, p12, p15, p20, p25, pI⟩ := imm_parts (op := 19) (f := 5) (by omega) (by omega) hd ha (n := s) (by omega) (by omega)
  show Sx _ y (mf_RiscHartModel_immediate (nI 19) (nI 5) (nI d) (nI a) (nI s))
  refine Sx_ne (by rw [p0]; decide) ?_
  rw [carry19 y p0]
  unfold m13
  rw [p12, if_neg (by decide), if_pos (by decide), p7, p15, p20, p25, nI_clamp (by omega), h.1.1 a ha, show s % 4096 / 32 = 0 by omega, show s % 32 = s by omega, show mf_RiscHartModel_shifted y (nI 5) (nI 0) (hs_regs z a) (nI s) = _ from shd_5 y _ _]
  exact sim_give h _ _ (vp_in_nI hd (by omega))
theorem S_srai {z : HS} {y : MS} {b : Int32} (h : RelD z y b) {d a s : Nat} (hd : d < 32) (ha : a < 32) (hs : s < 32) : Sx (hf_RiscHart_give z (nI d) (hs_regs z a >>> (nI s &&& 31))) y (mf_RiscHartModel_immediate 19 5 (nI d) (nI a) (nI (s + 1024))) := by
  obtain ⟨p0, p7, p12, p15, p20, p25, pI⟩ := imm_parts (op := 19) (f := 5) (by omega) (by omega) hd ha (n := s + 1024) (by omega) (by omega)
  show Sx _ y (mf_RiscHartModel_immediate (nI 19) (nI 5) (nI d) (nI a) (nI (s + 1024)))
  refine Sx_ne (by rw [p0]; decide) ?_
  rw [carry19 y p0]
  unfold m13
  rw [p12, if_neg (by decide), if_pos (by decide), p7, p15, p20, p25, nI_clamp (by omega), h.1.1 a ha, show (s + 1024) % 4096 / 32 = 32 by omega, show (s + 1024) % 32 = s by omega, show mf_RiscHartModel_shifted y (nI 5) (nI 32) (hs_regs z a) (nI s) = _ from shd_532 y _ _]
  exact sim_give h _ _ (vp_in_nI hd (by omega))
theorem S_lw {z : HS} {y : MS} {b : Int32} (h : RelD z y b) {d a : Nat} (hd : d < 32) (ha : a < 32) {v : Int32} (hv : small12 v) : Sx (hf_RiscHart_load z 2 (nI d) (hs_regs z a + v)) y (mf_RiscHartModel_immediate 3 2 (nI d) (nI a) v) := by
  obtain ⟨n, hn, hr, rfl⟩ := hv
  obtain ⟨p0, p7, p12, p15, p20, p25, pI⟩ := imm_parts (op := 3) (f := 2) (by omega) (by omega) hd ha hn hr
  show Sx _ y (mf_RiscHartModel_immediate (nI 3) (nI 2) (nI d) (nI a) (nI n))
  refine Sx_ne (by rw [p0]; decide) ?_
  rw [carry3 y p0, p12, p7, p15, pI, nI_clamp (by omega), h.1.1 a ha]
  exact sim_load h (f := 2) (by omega) _ _ (vp_in_nI hd (by omega))
theorem S_jalr {z : HS} {y : MS} {b : Int32} (h : RelD z y b) {d a : Nat} (hd : d < 32) (ha : a < 32) : Sx (hf_RiscHart_linkAndJump z (nI d) (hs_regs z a)) y (mf_RiscHartModel_immediate 103 0 (nI d) (nI a) 0) := by
  obtain ⟨p0, p7, p12, p15, p20, p25, pI⟩ := imm_parts (op := 103) (f := 0) (by omega) (by omega) hd ha (n := 0) (by omega) (by omega)
  show Sx _ y (mf_RiscHartModel_immediate (nI 103) (nI 0) (nI d) (nI a) (nI 0))
  refine Sx_ne (by rw [p0]; decide) ?_
  rw [carry103 y p0 p12, p7, p15, pI, nI_clamp (by omega), h.1.1 a ha, show hs_regs z a + nI 0 = hs_regs z a from Int32.add_zero _]
  exact sim_link h _ _ (vp_in_nI hd (by omega))
theorem r_parts {f g d a b : Nat} (hf : f < 8) (hg : g < 128) (hd : d < 32) (ha : a < 32) (hb : b < 32) :
    let w := mf_RiscHartModel_registers (nI f) (nI g) (nI d) (nI a) (nI b)
    mf_RiscHartModel_part w 0 7 = nI 51 ∧ mf_RiscHartModel_part w 7 5 = nI d ∧ mf_RiscHartModel_part w 12 3 = nI f ∧ mf_RiscHartModel_part w 15 5 = nI a ∧ mf_RiscHartModel_part w 20 5 = nI b ∧ mf_RiscHartModel_part w 25 7 = nI g := by
  intro w
  have hw : w = nI (51 + d * 2 ^ 7 + f * 2 ^ 12 + a * 2 ^ 15 + b * 2 ^ 20 + g * 2 ^ 25) := reg_nI hf hg hd ha hb
  rw [hw]
  have hbd : 51 + d * 2 ^ 7 + f * 2 ^ 12 + a * 2 ^ 15 + b * 2 ^ 20 + g * 2 ^ 25 < 2 ^ 32 := by omega
  exact ⟨w_part hbd (lo := 0) (k := 7) (by omega) (by omega) (by omega), w_part hbd (lo := 7) (k := 5) (by omega) (by omega) (by omega), w_part hbd (lo := 12) (k := 3) (by omega) (by omega) (by omega), w_part hbd (lo := 15) (k := 5) (by omega) (by omega) (by omega), w_part hbd (lo := 20) (k := 5) (by omega) (by omega) (by omega), w_part hbd (lo := 25) (k := 7) (by omega) (by omega) (by omega)⟩
theorem S_sub {z : HS} {y : MS} {bb : Int32} (h : RelD z y bb) {d a b : Nat} (hd : d < 32) (ha : a < 32) (hb : b < 32) : Sx (hf_RiscHart_give z (nI d) (hs_regs z a - hs_regs z b)) y (mf_RiscHartModel_registers 0 32 (nI d) (nI a) (nI b)) := by
  obtain ⟨p0, p7, p12, p15, p20, p25⟩ := r_parts (f := 0) (g := 32) (by omega) (by omega) hd ha hb
  show Sx _ y (mf_RiscHartModel_registers (nI 0) (nI 32) (nI d) (nI a) (nI b))
  refine Sx_ne (by rw [p0]; decide) ?_
  rw [carry51 y p0, p7, p12, p15, p20, p25, nI_clamp (by omega), nI_clamp (by omega), h.1.1 a ha, h.1.1 b hb]
  unfold m33
  rw [if_neg (by decide), if_neg (by decide), if_pos (by decide), if_pos (by decide)]
  exact sim_give h _ _ (vp_in_nI hd (by omega))
theorem S_rr {z : HS} {y : MS} {bb : Int32} (h : RelD z y bb) {f d a b : Nat} (hf : f = 0 ∨ f = 4 ∨ f = 6 ∨ f = 7) (hd : d < 32) (ha : a < 32) (hb : b < 32) : Sx (hf_RiscHart_give z (nI d) (mf_RiscHartModel_reckoned (nI f) (hs_regs z a) (hs_regs z b))) y (mf_RiscHartModel_registers (nI f) 0 (nI d) (nI a) (nI b)) := by
  obtain ⟨p0, p7, p12, p15, p20, p25⟩ := r_parts (f := f) (g := 0) (by omega) (by omega) hd ha hb
  show Sx _ y (mf_RiscHartModel_registers (nI f) (nI 0) (nI d) (nI a) (nI b))
  refine Sx_ne (by rw [p0]; decide) ?_
  rw [carry51 y p0, p7, p12, p15, p20, p25, nI_clamp (by omega), nI_clamp (by omega), h.1.1 a ha, h.1.1 b hb]
  unfold m33
  rw [if_neg (by decide), if_pos (by decide), if_neg (by rcases hf with rfl | rfl | rfl | rfl <;> decide), if_neg (by rcases hf with rfl | rfl | rfl | rfl <;> decide)]
  exact sim_give h _ _ (vp_in_nI hd (by omega))
theorem or_add' {a b : Nat} (k : Nat) (ha : a < 2 ^ k) : nI (b * 2 ^ k) ||| nI a = nI (b * 2 ^ k + a) := by
  rw [nI_or, Nat.or_comm, ← nI_or, or_add k ha, Nat.add_comm]
theorem and_hi {m : Nat} (hm : m < 2 ^ 32) (k : Nat) {x : Int32} (hx : ∀ i, i < 32 → bt x i = decide (k ≤ i)) : nI m &&& x = nI (m / 2 ^ k * 2 ^ k) := by
  refine b_ext (fun i hi => ?_)
  rw [b_and, hx i hi]
  have hb : m / 2 ^ k * 2 ^ k < 2 ^ 32 := Nat.lt_of_le_of_lt (Nat.div_mul_le_self m (2 ^ k)) hm
  show ((nI m).toBitVec.getLsbD i && _) = (nI (m / 2 ^ k * 2 ^ k)).toBitVec.getLsbD i
  rw [BitVec.getLsbD, BitVec.getLsbD, pk_tn hm, pk_tn hb, show m / 2 ^ k * 2 ^ k = (m >>> k) <<< k by rw [Nat.shiftLeft_eq, Nat.shiftRight_eq_div_pow], Nat.testBit_shiftLeft, Nat.testBit_shiftRight]
  by_cases h2 : k ≤ i
  · simp [h2, show k + (i - k) = i by omega]
  · simp [h2]
theorem b_m4096 : ∀ i, i < 32 → bt (-4096) i = decide (12 ≤ i) := by decide +kernel
theorem S_sw {z : HS} {y : MS} {bb : Int32} (h : RelD z y bb) {a b n : Nat} (ha : a < 32) (hb : b < 32) (hn : n < 2048) : Sx (hf_RiscHart_store z 2 (hs_regs z a + nI n) (hs_regs z b)) y (mf_RiscHartModel_store (nI a) (nI b) (nI n)) := by
  have hbd : 35 + n % 32 * 2 ^ 7 + 2 * 2 ^ 12 + a * 2 ^ 15 + b * 2 ^ 20 + n / 32 * 2 ^ 25 < 2 ^ 31 := by omega
  rw [st_nI ha hb (by omega)]
  have p0 := w_part (w := 35 + n % 32 * 2 ^ 7 + 2 * 2 ^ 12 + a * 2 ^ 15 + b * 2 ^ 20 + n / 32 * 2 ^ 25) (by omega) (lo := 0) (k := 7) (v := 35) (by omega) (by omega) (by omega)
  have p7 := w_part (w := 35 + n % 32 * 2 ^ 7 + 2 * 2 ^ 12 + a * 2 ^ 15 + b * 2 ^ 20 + n / 32 * 2 ^ 25) (by omega) (lo := 7) (k := 5) (v := n % 32) (by omega) (by omega) (by omega)
  have p12 := w_part (w := 35 + n % 32 * 2 ^ 7 + 2 * 2 ^ 12 + a * 2 ^ 15 + b * 2 ^ 20 + n / 32 * 2 ^ 25) (by omega) (lo := 12) (k := 3) (v := 2) (by omega) (by omega) (by omega)
  have p15 := w_part (w := 35 + n % 32 * 2 ^ 7 + 2 * 2 ^ 12 + a * 2 ^ 15 + b * 2 ^ 20 + n / 32 * 2 ^ 25) (by omega) (lo := 15) (k := 5) (v := a) (by omega) (by omega) (by omega)
  have p20 := w_part (w := 35 + n % 32 * 2 ^ 7 + 2 * 2 ^ 12 + a * 2 ^ 15 + b * 2 ^ 20 + n / 32 * 2 ^ 25) (by omega) (lo := 20) (k := 5) (v := b) (by omega) (by omega) (by rw [show (35 + n % 32 * 2 ^ 7 + 2 * 2 ^ 12 + a * 2 ^ 15 + b * 2 ^ 20 + n / 32 * 2 ^ 25) / 2 ^ 20 = b + n / 32 * 32 by omega]; omega)
  have pS : ((nI (35 + n % 32 * 2 ^ 7 + 2 * 2 ^ 12 + a * 2 ^ 15 + b * 2 ^ 20 + n / 32 * 2 ^ 25) >>> ((20 : Int32) &&& 31)) &&& (-32)) = nI (n / 32 * 2 ^ 5) := by
    rw [pk_shrN hbd _ 20 (by decide), and_hi (by omega) 5 b_m32]
    congr 1
    omega
  generalize 35 + n % 32 * 2 ^ 7 + 2 * 2 ^ 12 + a * 2 ^ 15 + b * 2 ^ 20 + n / 32 * 2 ^ 25 = m at *
  have p0' : mf_RiscHartModel_part (nI m) 0 7 = 35 := p0
  refine Sx_ne (by rw [p0']; decide) ?_
  rw [carry35 y p0', pS]
  rw [show mf_RiscHartModel_part (nI m) 12 3 = nI 2 from p12, show mf_RiscHartModel_part (nI m) 15 5 = nI a from p15, show mf_RiscHartModel_part (nI m) 20 5 = nI b from p20, show mf_RiscHartModel_part (nI m) 7 5 = nI (n % 32) from p7, or_add' 5 (by omega), nI_clamp (by omega), nI_clamp (by omega), h.1.1 a ha, h.1.1 b hb, show n / 32 * 2 ^ 5 + n % 32 = n by omega]
  exact sim_store h (f := 2) (M := 4) (by omega) _ _
theorem S_lui {z : HS} {y : MS} {bb : Int32} (h : RelD z y bb) {d : Nat} (hd : d < 32) (v : Int32) : Sx (hf_RiscHart_give z (nI d) (v <<< ((12 : Int32) &&& 31))) y (((55 : Int32) ||| (nI d <<< ((7 : Int32) &&& 31))) ||| (v <<< ((12 : Int32) &&& 31))) := by
  obtain ⟨n, hn, rfl⟩ := wb_of32 v
  have e12 : nI n <<< ((12 : Int32) &&& 31) = nI (n % 2 ^ 20 * 2 ^ 12) := by
    refine (shl_nI n 12 (by omega)).trans ?_
    rw [nI_mod (n * 2 ^ 12)]
    congr 1
    omega
  rw [e12, show nI d <<< ((7 : Int32) &&& 31) = nI (d * 2 ^ 7) from shl_nI d 7 (by omega), show (55 : Int32) = nI 55 from rfl, or_add 7 (by omega), or_add 12 (by omega)]
  have hbd : 55 + d * 2 ^ 7 + n % 2 ^ 20 * 2 ^ 12 < 2 ^ 32 := by omega
  have p0 : mf_RiscHartModel_part (nI (55 + d * 2 ^ 7 + n % 2 ^ 20 * 2 ^ 12)) 0 7 = 55 := w_part hbd (lo := 0) (k := 7) (v := 55) (by omega) (by omega) (by omega)
  have p7 : mf_RiscHartModel_part (nI (55 + d * 2 ^ 7 + n % 2 ^ 20 * 2 ^ 12)) 7 5 = nI d := w_part hbd (lo := 7) (k := 5) (v := d) (by omega) (by omega) (by omega)
  refine Sx_ne (by rw [p0]; decide) ?_
  rw [carry55 y p0, p7, and_hi hbd 12 b_m4096, show (55 + d * 2 ^ 7 + n % 2 ^ 20 * 2 ^ 12) / 2 ^ 12 * 2 ^ 12 = n % 2 ^ 20 * 2 ^ 12 by omega]
  exact sim_give h _ _ (vp_in_nI hd (by omega))
/-- signed numbers of 21 and of 13 bits out of their own bits -/
theorem sgn21 {n : Nat} (hn : n < 2 ^ 32) (hr : n < 2 ^ 20 ∨ 2 ^ 32 - 2 ^ 20 ≤ n) : mf_RiscHartModel_signed (nI (n % 2 ^ 21)) 21 = nI n := by
  unfold mf_RiscHartModel_signed
  rw [show (32 : Int32) - 21 = nI 11 from by decide, shl_nI _ 11 (by omega), ← Int32.toInt_inj, toInt_nI hn]
  refine (pk_shr _ _ 11 (by decide)).trans ?_
  rw [toInt_nI (by omega), Int.shiftRight_eq_div_pow]
  rcases hr with h | h
  · rw [if_pos (by omega), if_pos (by omega)]; omega
  · rw [if_neg (by omega), if_neg (by omega)]; omega
theorem sgn13 {n : Nat} (hn : n < 2 ^ 32) (hr : n < 2 ^ 12 ∨ 2 ^ 32 - 2 ^ 12 ≤ n) : mf_RiscHartModel_signed (nI (n % 2 ^ 13)) 13 = nI n := by
  unfold mf_RiscHartModel_signed
  rw [show (32 : Int32) - 13 = nI 19 from by decide, shl_nI _ 19 (by omega), ← Int32.toInt_inj, toInt_nI hn]
  refine (pk_shr _ _ 19 (by decide)).trans ?_
  rw [toInt_nI (by omega), Int.shiftRight_eq_div_pow]
  rcases hr with h | h
  · rw [if_pos (by omega), if_pos (by omega)]; omega
  · rw [if_neg (by omega), if_neg (by omega)]; omega
theorem link_nI {d n : Nat} (hd : d < 32) (hn : n < 2 ^ 32) : mf_RiscHartModel_link (nI d) (nI n) = nI (111 + d * 2 ^ 7 + n / 2 ^ 12 % 2 ^ 8 * 2 ^ 12 + n / 2 ^ 11 % 2 ^ 1 * 2 ^ 20 + n / 2 ^ 1 % 2 ^ 10 * 2 ^ 21 + n / 2 ^ 20 % 2 ^ 1 * 2 ^ 31) := by
  unfold mf_RiscHartModel_link
  rw [show mf_RiscHartModel_bit (nI n) 12 8 12 = _ from bit_nI hn 12 8 12 (by omega) (by omega) (by omega), show mf_RiscHartModel_bit (nI n) 11 1 20 = _ from bit_nI hn 11 1 20 (by omega) (by omega) (by omega), show mf_RiscHartModel_bit (nI n) 1 10 21 = _ from bit_nI hn 1 10 21 (by omega) (by omega) (by omega), show mf_RiscHartModel_bit (nI n) 20 1 31 = _ from bit_nI hn 20 1 31 (by omega) (by omega) (by omega), show nI d <<< ((7 : Int32) &&& 31) = nI (d * 2 ^ 7) from shl_nI d 7 (by omega)]
  rw [show (111 : Int32) = nI 111 from rfl, or_add 7 (by omega), or_add 12 (by omega), or_add 20 (by omega), or_add 21 (by omega), or_add 31 (by omega)]
theorem bw {m : Nat} (hm : m < 2 ^ 32) {lo k to v : Nat} (hlo : lo < 32) (hk : k < 31) (hto : to < 32) (hv : m / 2 ^ lo % 2 ^ k = v) : mf_RiscHartModel_bit (nI m) (nI lo) (nI k) (nI to) = nI (v * 2 ^ to) := by
  rw [bit_nI hm lo k to hlo hk hto, hv]
theorem jf {d A B C E : Nat} (hd : d < 32) (bA : A < 256) (bB : B < 2) (bC : C < 1024) (bE : E < 2) : (111 + d * 2 ^ 7 + A * 2 ^ 12 + B * 2 ^ 20 + C * 2 ^ 21 + E * 2 ^ 31) / 2 ^ 31 % 2 ^ 1 = E ∧ (111 + d * 2 ^ 7 + A * 2 ^ 12 + B * 2 ^ 20 + C * 2 ^ 21 + E * 2 ^ 31) / 2 ^ 12 % 2 ^ 8 = A ∧ (111 + d * 2 ^ 7 + A * 2 ^ 12 + B * 2 ^ 20 + C * 2 ^ 21 + E * 2 ^ 31) / 2 ^ 20 % 2 ^ 1 = B ∧ (111 + d * 2 ^ 7 + A * 2 ^ 12 + B * 2 ^ 20 + C * 2 ^ 21 + E * 2 ^ 31) / 2 ^ 21 % 2 ^ 10 = C := by
  have e31 : (111 + d * 2 ^ 7 + A * 2 ^ 12 + B * 2 ^ 20 + C * 2 ^ 21 + E * 2 ^ 31) / 2 ^ 31 = E := by omega
  have e12 : (111 + d * 2 ^ 7 + A * 2 ^ 12 + B * 2 ^ 20 + C * 2 ^ 21 + E * 2 ^ 31) / 2 ^ 12 = A + (B + C * 2 + E * 2048) * 256 := by omega
  have e20 : (111 + d * 2 ^ 7 + A * 2 ^ 12 + B * 2 ^ 20 + C * 2 ^ 21 + E * 2 ^ 31) / 2 ^ 20 = B + (C + E * 1024) * 2 := by omega
  have e21 : (111 + d * 2 ^ 7 + A * 2 ^ 12 + B * 2 ^ 20 + C * 2 ^ 21 + E * 2 ^ 31) / 2 ^ 21 = C + E * 1024 := by omega
  rw [e31, e12, e20, e21]
  exact ⟨by omega, by omega, by omega, by omega⟩
theorem jsum {n : Nat} (he : n % 2 = 0) : ((n / 2 ^ 20 % 2 ^ 1 * 2 ^ 8 + n / 2 ^ 12 % 2 ^ 8) * 2 + n / 2 ^ 11 % 2 ^ 1) * 2 ^ 11 + n / 2 ^ 1 % 2 ^ 10 * 2 ^ 1 = n % 2 ^ 21 := by
  have h1 : n % 2 ^ 21 = n / 2 ^ 11 % 2 ^ 10 * 2 ^ 11 + n % 2 ^ 11 := by omega
  have h2 : n % 2 ^ 11 = n / 2 ^ 1 % 2 ^ 10 * 2 ^ 1 := by omega
  have h3 : n / 2 ^ 11 % 2 ^ 10 = n / 2 ^ 12 % 2 ^ 9 * 2 + n / 2 ^ 11 % 2 ^ 1 := by omega
  have h4 : n / 2 ^ 12 % 2 ^ 9 = n / 2 ^ 20 % 2 ^ 1 * 2 ^ 8 + n / 2 ^ 12 % 2 ^ 8 := by omega
  rw [h1, h2, h3, h4]
theorem J_of {d n : Nat} (hd : d < 32) (hn : n < 2 ^ 32) (he : n % 2 = 0) (hr : n < 2 ^ 20 ∨ 2 ^ 32 - 2 ^ 20 ≤ n) : hf_LongForm_offsetJ (mf_RiscHartModel_link (nI d) (nI n)) = nI n := by
  rw [LF_J, link_nI hd hn]
  obtain ⟨A, hA⟩ : ∃ A, A = n / 2 ^ 12 % 2 ^ 8 := ⟨_, rfl⟩
  obtain ⟨B, hB⟩ : ∃ B, B = n / 2 ^ 11 % 2 ^ 1 := ⟨_, rfl⟩
  obtain ⟨C, hC⟩ : ∃ C, C = n / 2 ^ 1 % 2 ^ 10 := ⟨_, rfl⟩
  obtain ⟨E, hE⟩ : ∃ E, E = n / 2 ^ 20 % 2 ^ 1 := ⟨_, rfl⟩
  rw [← hA, ← hB, ← hC, ← hE]
  have bA : A < 256 := by omega
  have bB : B < 2 := by omega
  have bC : C < 1024 := by omega
  have bE : E < 2 := by omega
  obtain ⟨j31, j12, j20, j21⟩ := jf hd bA bB bC bE
  have hb : 111 + d * 2 ^ 7 + A * 2 ^ 12 + B * 2 ^ 20 + C * 2 ^ 21 + E * 2 ^ 31 < 2 ^ 32 := by clear hA hB hC hE j31 j12 j20 j21; omega
  rw [show mf_RiscHartModel_bit (nI (111 + d * 2 ^ 7 + A * 2 ^ 12 + B * 2 ^ 20 + C * 2 ^ 21 + E * 2 ^ 31)) 31 1 20 = nI (E * 2 ^ 20) from bw hb (lo := 31) (k := 1) (to := 20) (by omega) (by omega) (by omega) j31, show mf_RiscHartModel_bit (nI (111 + d * 2 ^ 7 + A * 2 ^ 12 + B * 2 ^ 20 + C * 2 ^ 21 + E * 2 ^ 31)) 12 8 12 = nI (A * 2 ^ 12) from bw hb (lo := 12) (k := 8) (to := 12) (by omega) (by omega) (by omega) j12, show mf_RiscHartModel_bit (nI (111 + d * 2 ^ 7 + A * 2 ^ 12 + B * 2 ^ 20 + C * 2 ^ 21 + E * 2 ^ 31)) 20 1 11 = nI (B * 2 ^ 11) from bw hb (lo := 20) (k := 1) (to := 11) (by omega) (by omega) (by omega) j20, show mf_RiscHartModel_bit (nI (111 + d * 2 ^ 7 + A * 2 ^ 12 + B * 2 ^ 20 + C * 2 ^ 21 + E * 2 ^ 31)) 21 10 1 = nI (C * 2 ^ 1) from bw hb (lo := 21) (k := 10) (to := 1) (by omega) (by omega) (by omega) j21]
  clear hb j31 j12 j20 j21
  rw [or_add' 20 (by omega), show E * 2 ^ 20 + A * 2 ^ 12 = (E * 2 ^ 8 + A) * 2 ^ 12 by omega, or_add' 12 (by omega), show (E * 2 ^ 8 + A) * 2 ^ 12 + B * 2 ^ 11 = ((E * 2 ^ 8 + A) * 2 + B) * 2 ^ 11 by omega, or_add' 11 (by omega), show ((E * 2 ^ 8 + A) * 2 + B) * 2 ^ 11 + C * 2 ^ 1 = n % 2 ^ 21 by rw [hE, hA, hB, hC]; exact jsum he]
  exact sgn21 hn hr
theorem S_jal {z : HS} {y : MS} {bb : Int32} (h : RelD z y bb) {d n : Nat} (hd : d < 32) (hn : n < 2 ^ 32) (he : n % 2 = 0) (hr : n < 2 ^ 20 ∨ 2 ^ 32 - 2 ^ 20 ≤ n) : Sx (hf_RiscHart_linkAndJump z (nI d) (hs_place z + nI n)) y (mf_RiscHartModel_link (nI d) (nI n)) := by
  have hJ := J_of hd hn he hr
  have hb : 111 + d * 2 ^ 7 + n / 2 ^ 12 % 2 ^ 8 * 2 ^ 12 + n / 2 ^ 11 % 2 ^ 1 * 2 ^ 20 + n / 2 ^ 1 % 2 ^ 10 * 2 ^ 21 + n / 2 ^ 20 % 2 ^ 1 * 2 ^ 31 < 2 ^ 32 := by omega
  have p0 : mf_RiscHartModel_part (mf_RiscHartModel_link (nI d) (nI n)) 0 7 = 111 := by rw [link_nI hd hn]; exact w_part hb (lo := 0) (k := 7) (v := 111) (by omega) (by omega) (by omega)
  have p7 : mf_RiscHartModel_part (mf_RiscHartModel_link (nI d) (nI n)) 7 5 = nI d := by rw [link_nI hd hn]; exact w_part hb (lo := 7) (k := 5) (v := d) (by omega) (by omega) (by omega)
  refine Sx_ne (by rw [p0]; decide) ?_
  rw [carry111 y p0, p7, hJ]
  exact L_jal h _ _ (vp_in_nI hd (by omega)) ((ev_iff _).mpr (by rw [pk_tn hn]; exact he))
