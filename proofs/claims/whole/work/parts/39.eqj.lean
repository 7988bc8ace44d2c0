/-! words that the reference puts together -/
theorem hi12 (n : Nat) : nI n <<< ((20 : Int32) &&& 31) = nI (n % 4096 * 2 ^ 20) := by
  refine (shl_nI n 20 (by omega)).trans ?_
  rw [nI_mod (n * 2 ^ 20)]
  congr 1
  omega
theorem imm_nI {op f d a : Nat} (ho : op < 128) (hf : f < 8) (hd : d < 32) (ha : a < 32) (n : Nat) : mf_RiscHartModel_immediate (nI op) (nI f) (nI d) (nI a) (nI n) = nI (op + d * 2 ^ 7 + f * 2 ^ 12 + a * 2 ^ 15 + n % 4096 * 2 ^ 20) := by
  unfold mf_RiscHartModel_immediate
  rw [hi12, show nI d <<< ((7 : Int32) &&& 31) = nI (d * 2 ^ 7) from shl_nI d 7 (by omega), show nI f <<< ((12 : Int32) &&& 31) = nI (f * 2 ^ 12) from shl_nI f 12 (by omega), show nI a <<< ((15 : Int32) &&& 31) = nI (a * 2 ^ 15) from shl_nI a 15 (by omega)]
  rw [or_add 7 (by omega), or_add 12 (by omega), or_add 15 (by omega), or_add 20 (by omega)]
theorem reg_nI {f g d a b : Nat} (hf : f < 8) (hg : g < 128) (hd : d < 32) (ha : a < 32) (hb : b < 32) : mf_RiscHartModel_registers (nI f) (nI g) (nI d) (nI a) (nI b) = nI (51 + d * 2 ^ 7 + f * 2 ^ 12 + a * 2 ^ 15 + b * 2 ^ 20 + g * 2 ^ 25) := by
  unfold mf_RiscHartModel_registers
  rw [show nI d <<< ((7 : Int32) &&& 31) = nI (d * 2 ^ 7) from shl_nI d 7 (by omega), show nI f <<< ((12 : Int32) &&& 31) = nI (f * 2 ^ 12) from shl_nI f 12 (by omega), show nI a <<< ((15 : Int32) &&& 31) = nI (a * 2 ^ 15) from shl_nI a 15 (by omega), show nI b <<< ((20 : Int32) &&& 31) = nI (b * 2 ^ 20) from shl_nI b 20 (by omega), show nI g <<< ((25 : Int32) &&& 31) = nI (g * 2 ^ 25) from shl_nI g 25 (by omega)]
  rw [show (51 : Int32) = nI 51 from rfl, or_add 7 (by omega), or_add 12 (by omega), or_add 15 (by omega), or_add 20 (by omega), or_add 25 (by omega)]
theorem bit_nI {n : Nat} (hn : n < 2 ^ 32) (lo k to : Nat) (hlo : lo < 32) (hk : k < 31) (hto : to < 32) : mf_RiscHartModel_bit (nI n) (nI lo) (nI k) (nI to) = nI (n / 2 ^ lo % 2 ^ k * 2 ^ to) := by
  unfold mf_RiscHartModel_bit
  rw [part_nI hn lo k hlo hk]
  exact shl_nI _ to hto
theorem st_nI {a b n : Nat} (ha : a < 32) (hb : b < 32) (hn : n < 4096) : mf_RiscHartModel_store (nI a) (nI b) (nI n) = nI (35 + n % 32 * 2 ^ 7 + 2 * 2 ^ 12 + a * 2 ^ 15 + b * 2 ^ 20 + n / 32 * 2 ^ 25) := by
  unfold mf_RiscHartModel_store
  rw [show mf_RiscHartModel_bit (nI n) 0 5 7 = nI (n % 32 * 2 ^ 7) from (bit_nI (by omega) 0 5 7 (by omega) (by omega) (by omega)).trans (by congr 2; omega), show mf_RiscHartModel_bit (nI n) 5 7 25 = nI (n / 32 * 2 ^ 25) from (bit_nI (by omega) 5 7 25 (by omega) (by omega) (by omega)).trans (by congr 2; omega), show nI a <<< ((15 : Int32) &&& 31) = nI (a * 2 ^ 15) from shl_nI a 15 (by omega), show nI b <<< ((20 : Int32) &&& 31) = nI (b * 2 ^ 20) from shl_nI b 20 (by omega)]
  rw [show (35 : Int32) = nI 35 from rfl, show (8192 : Int32) = nI (2 * 2 ^ 12) from rfl, or_add 7 (by omega), or_add 12 (by omega), or_add 15 (by omega), or_add 20 (by omega), or_add 25 (by omega)]
/-- its parts -/
theorem w_part {w : Nat} (hw : w < 2 ^ 32) {lo k v : Nat} (hlo : lo < 32) (hk : k < 31) (hv : w / 2 ^ lo % 2 ^ k = v) : mf_RiscHartModel_part (nI w) (nI lo) (nI k) = nI v := by
  rw [part_nI hw lo k hlo hk, hv]
/-- a signed number of k bits, cut out of its own bits -/
theorem sar_nI {w : Nat} (hw : w < 2 ^ 32) (v : Int32) (hv : v.toInt = (if w / 2 ^ 20 < 2048 then (w / 2 ^ 20 : Int) else (w / 2 ^ 20 : Int) - 4096)) : nI w >>> ((20 : Int32) &&& 31) = v := by
  rw [← Int32.toInt_inj, hv]
  refine (pk_shr (nI w) _ 20 (by decide)).trans ?_
  rw [toInt_nI hw, Int.shiftRight_eq_div_pow]
  by_cases h : w < 2 ^ 31
  · rw [if_pos h, if_pos (by omega)]; omega
  · rw [if_neg h, if_neg (by omega)]; omega
theorem imm_parts {op f d a : Nat} (ho : op < 128) (hf : f < 8) (hd : d < 32) (ha : a < 32) {n : Nat} (hn : n < 2 ^ 32) (hr : n < 2048 ∨ 2 ^ 32 - 2048 ≤ n) :
    let w := mf_RiscHartModel_immediate (nI op) (nI f) (nI d) (nI a) (nI n)
    mf_RiscHartModel_part w 0 7 = nI op ∧ mf_RiscHartModel_part w 7 5 = nI d ∧ mf_RiscHartModel_part w 12 3 = nI f ∧ mf_RiscHartModel_part w 15 5 = nI a ∧ mf_RiscHartModel_part w 20 5 = nI (n % 32) ∧ mf_RiscHartModel_part w 25 7 = nI (n % 4096 / 32) ∧ w >>> ((20 : Int32) &&& 31) = nI n := by
  intro w
  have hw : w = nI (op + d * 2 ^ 7 + f * 2 ^ 12 + a * 2 ^ 15 + n % 4096 * 2 ^ 20) := imm_nI ho hf hd ha n
  rw [hw]
  have hb : op + d * 2 ^ 7 + f * 2 ^ 12 + a * 2 ^ 15 + n % 4096 * 2 ^ 20 < 2 ^ 32 := by omega
  refine ⟨w_part hb (lo := 0) (k := 7) (by omega) (by omega) (by omega), w_part hb (lo := 7) (k := 5) (by omega) (by omega) (by omega), w_part hb (lo := 12) (k := 3) (by omega) (by omega) (by omega), w_part hb (lo := 15) (k := 5) (by omega) (by omega) (by omega), w_part hb (lo := 20) (k := 5) (by omega) (by omega) (by omega), w_part hb (lo := 25) (k := 7) (by omega) (by omega) (by omega), ?_⟩
  refine sar_nI hb _ ?_
  rw [toInt_nI hn]
  have e : (op + d * 2 ^ 7 + f * 2 ^ 12 + a * 2 ^ 15 + n % 4096 * 2 ^ 20) / 2 ^ 20 = n % 4096 := by omega
  rcases hr with h | h
  · rw [if_pos (by omega), if_pos (by omega)]; omega
  · rw [if_neg (by omega), if_neg (by omega)]; omega
/-- carry, by the opcode -/
theorem carry3 (y : MS) {w : Int32} (h : mf_RiscHartModel_part w 0 7 = 3) : mf_RiscHartModel_carry y w = mf_RiscHartModel_give (mf_RiscHartModel_load y (mf_RiscHartModel_part w 12 3) (ms_x y (mf_RiscHartModel_part w 15 5).toNatClampNeg + (w >>> ((20 : Int32) &&& 31)))).2 (mf_RiscHartModel_part w 7 5) (mf_RiscHartModel_load y (mf_RiscHartModel_part w 12 3) (ms_x y (mf_RiscHartModel_part w 15 5).toNatClampNeg + (w >>> ((20 : Int32) &&& 31)))).1 := by
  unfold mf_RiscHartModel_carry; rw [if_pos h]
theorem carry19 (y : MS) {w : Int32} (h : mf_RiscHartModel_part w 0 7 = 19) : mf_RiscHartModel_carry y w = m13 y w := by
  unfold mf_RiscHartModel_carry; rw [if_neg (by rw [h]; decide), if_neg (by rw [h]; decide), if_pos h]; rfl
theorem carry35 (y : MS) {w : Int32} (h : mf_RiscHartModel_part w 0 7 = 35) : mf_RiscHartModel_carry y w = mf_RiscHartModel_put y (mf_RiscHartModel_part w 12 3) (ms_x y (mf_RiscHartModel_part w 15 5).toNatClampNeg + (((w >>> ((20 : Int32) &&& 31)) &&& (-32)) ||| mf_RiscHartModel_part w 7 5)) (ms_x y (mf_RiscHartModel_part w 20 5).toNatClampNeg) := by
  unfold mf_RiscHartModel_carry; rw [if_neg (by rw [h]; decide), if_neg (by rw [h]; decide), if_neg (by rw [h]; decide), if_neg (by rw [h]; decide), if_pos h]
theorem carry51 (y : MS) {w : Int32} (h : mf_RiscHartModel_part w 0 7 = 51) : mf_RiscHartModel_carry y w = m33 y w (mf_RiscHartModel_part w 12 3) (mf_RiscHartModel_part w 25 7) (ms_x y (mf_RiscHartModel_part w 15 5).toNatClampNeg) (ms_x y (mf_RiscHartModel_part w 20 5).toNatClampNeg) (mf_RiscHartModel_part w 7 5) := by
  unfold mf_RiscHartModel_carry; rw [if_neg (by rw [h]; decide), if_neg (by rw [h]; decide), if_neg (by rw [h]; decide), if_neg (by rw [h]; decide), if_neg (by rw [h]; decide), if_neg (by rw [h]; decide), if_pos h]; rfl
theorem carry55 (y : MS) {w : Int32} (h : mf_RiscHartModel_part w 0 7 = 55) : mf_RiscHartModel_carry y w = mf_RiscHartModel_give y (mf_RiscHartModel_part w 7 5) (w &&& (-4096)) := by
  unfold mf_RiscHartModel_carry; rw [if_neg (by rw [h]; decide), if_neg (by rw [h]; decide), if_neg (by rw [h]; decide), if_neg (by rw [h]; decide), if_neg (by rw [h]; decide), if_neg (by rw [h]; decide), if_neg (by rw [h]; decide), if_pos h]
theorem carry99 (y : MS) {w : Int32} (h : mf_RiscHartModel_part w 0 7 = 99) : mf_RiscHartModel_carry y w = mf_RiscHartModel_decide y w (mf_RiscHartModel_part w 12 3) (ms_x y (mf_RiscHartModel_part w 15 5).toNatClampNeg) (ms_x y (mf_RiscHartModel_part w 20 5).toNatClampNeg) := by
  unfold mf_RiscHartModel_carry; rw [if_neg (by rw [h]; decide), if_neg (by rw [h]; decide), if_neg (by rw [h]; decide), if_neg (by rw [h]; decide), if_neg (by rw [h]; decide), if_neg (by rw [h]; decide), if_neg (by rw [h]; decide), if_neg (by rw [h]; decide), if_pos h]
theorem carry103 (y : MS) {w : Int32} (h : mf_RiscHartModel_part w 0 7 = 103) (hf : mf_RiscHartModel_part w 12 3 = 0) : mf_RiscHartModel_carry y w = ms_set_next (mf_RiscHartModel_give y (mf_RiscHartModel_part w 7 5) (ms_next y)) ((ms_x y (mf_RiscHartModel_part w 15 5).toNatClampNeg + (w >>> ((20 : Int32) &&& 31))) &&& (-2)) := by
  unfold mf_RiscHartModel_carry; rw [if_neg (by rw [h]; decide), if_neg (by rw [h]; decide), if_neg (by rw [h]; decide), if_neg (by rw [h]; decide), if_neg (by rw [h]; decide), if_neg (by rw [h]; decide), if_neg (by rw [h]; decide), if_neg (by rw [h]; decide), if_neg (by rw [h]; decide), if_pos h, if_pos hf]
theorem carry111 (y : MS) {w : Int32} (h : mf_RiscHartModel_part w 0 7 = 111) : mf_RiscHartModel_carry y w = ms_set_next (mf_RiscHartModel_give y (mf_RiscHartModel_part w 7 5) (ms_next y)) (ms_place (mf_RiscHartModel_give y (mf_RiscHartModel_part w 7 5) (ms_next y)) + hf_LongForm_offsetJ w) := by
  unfold mf_RiscHartModel_carry; rw [if_neg (by rw [h]; decide), if_neg (by rw [h]; decide), if_neg (by rw [h]; decide), if_neg (by rw [h]; decide), if_neg (by rw [h]; decide), if_neg (by rw [h]; decide), if_neg (by rw [h]; decide), if_neg (by rw [h]; decide), if_neg (by rw [h]; decide), if_neg (by rw [h]; decide), if_pos h]; rfl
theorem carry_brk (y : MS) : mf_RiscHartModel_carry y 1048691 = (mf_RiscHartModel_trap y 4 0).2 := by
  unfold mf_RiscHartModel_carry
  rw [if_neg (by decide), if_neg (by decide), if_neg (by decide), if_neg (by decide), if_neg (by decide), if_neg (by decide), if_neg (by decide), if_neg (by decide), if_neg (by decide), if_neg (by decide), if_neg (by decide), if_pos (by decide)]
  rw [show mf_RiscHartModel_system y 1048691 (mf_RiscHartModel_part 1048691 12 3) = mf_RiscHartModel_trap y 4 0 by rw [sys_eq, if_neg (by decide), if_pos rfl]]
  exact give_trapped _ _ (by show ¬ (4 : Int32) = 0; decide)
