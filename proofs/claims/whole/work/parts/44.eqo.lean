/-! the reference's code lives through a step -/
theorem cd_next (y : MS) (v : Int32) : ms_code (ms_set_next y v) = ms_code y := rfl
theorem cd_resv (y : MS) (v : Int32) : ms_code (ms_set_reserved y v) = ms_code y := rfl
theorem cd_trap (y : MS) (c v : Int32) : ms_code (mf_RiscHartModel_trap y c v).2 = ms_code y := rfl
theorem cd_ill (y : MS) : ms_code (mf_RiscHartModel_illegal y).2 = ms_code y := rfl
theorem cd_write (y : MS) (a v : Int32) : ms_code (mf_RiscHartModel_write y a v) = ms_code y := by
  unfold mf_RiscHartModel_write
  rw [apply_ite ms_code, apply_ite ms_code]
  show (if _ then ms_code y else if _ then ms_code y else ms_code y) = ms_code y
  rw [ite_self, ite_self]
theorem cd_give (y : MS) (d v : Int32) : ms_code (mf_RiscHartModel_give y d v) = ms_code y := by
  unfold mf_RiscHartModel_give
  rw [apply_ite ms_code, apply_ite ms_code]
  show (if _ then (if _ then ms_code y else ms_code y) else ms_code y) = ms_code y
  rw [ite_self, ite_self]
theorem cd_put (y : MS) (f a v : Int32) : ms_code (mf_RiscHartModel_put y f a v) = ms_code y := by
  unfold mf_RiscHartModel_put
  simp only [apply_ite ms_code, cd_write, cd_trap, cd_ill, ite_self]
theorem cd_load (y : MS) (f a : Int32) : ms_code (mf_RiscHartModel_load y f a).2 = ms_code y := by
  unfold mf_RiscHartModel_load
  simp only [apply_ite Prod.snd, apply_ite ms_code, cd_trap, cd_ill, ite_self]
theorem cd_shifted (y : MS) (f g a n : Int32) : ms_code (mf_RiscHartModel_shifted y f g a n).2 = ms_code y := by
  unfold mf_RiscHartModel_shifted
  simp only [apply_ite Prod.snd, apply_ite ms_code, cd_trap, cd_ill, ite_self]
theorem cd_t186 (y : MS) (a1 a2 a3 a4 a5 v6 v7 v8 : Int32) : ms_code (mf_RiscHartModel_atomic_t186 y a1 a2 a3 a4 a5 v6 v7 v8).2 = ms_code y := by
  unfold mf_RiscHartModel_atomic_t186
  simp only [apply_ite Prod.snd, apply_ite ms_code, cd_put, cd_resv, cd_trap, cd_ill, ite_self]
theorem cd_t48 (y : MS) (a1 a2 a3 a4 a5 v6 : Int32) : ms_code (mf_RiscHartModel_atomic_t48 y a1 a2 a3 a4 a5 v6).2 = ms_code y := by
  unfold mf_RiscHartModel_atomic_t48
  simp only [apply_ite Prod.snd, apply_ite ms_code, cd_t186, cd_resv, cd_trap, cd_ill, ite_self]
theorem cd_atomic (y : MS) (a1 a2 a3 a4 a5 : Int32) : ms_code (mf_RiscHartModel_atomic y a1 a2 a3 a4 a5).2 = ms_code y := by
  rw [at_kn]; exact cd_t48 ..
theorem cd_t110 (y : MS) (a1 a2 v3 v4 : Int32) : ms_code (mf_RiscHartModel_system_t110 y a1 a2 v3 v4).2 = ms_code y := by
  unfold mf_RiscHartModel_system_t110 mf_RiscHartModel_system_t130
  simp only [apply_ite Prod.snd, apply_ite ms_code, cd_ill, ite_self]
theorem cd_system (y : MS) (a1 a2 : Int32) : ms_code (mf_RiscHartModel_system y a1 a2).2 = ms_code y := by
  rw [sys_eq]
  unfold mcnt
  simp only [apply_ite Prod.snd, apply_ite ms_code, cd_t110, cd_trap, cd_ill, ite_self]
theorem cd_decide (y : MS) (w f a b : Int32) : ms_code (mf_RiscHartModel_decide y w f a b) = ms_code y := by
  unfold mf_RiscHartModel_decide mf_RiscHartModel_decide_t87 mf_RiscHartModel_decide_t106
  simp only [apply_ite ms_code, cd_next, cd_ill, ite_self]
theorem cd_carry (y : MS) (w : Int32) : ms_code (mf_RiscHartModel_carry y w) = ms_code y := by
  unfold mf_RiscHartModel_carry
  simp only [apply_ite ms_code, cd_give, cd_next, cd_ill, cd_put, cd_load, cd_shifted, cd_atomic, cd_system, cd_decide, ite_self]
theorem cd_203 (y : MS) (v : Int32) : ms_code (mf_RiscHartModel_step_t203 y v).2 = ms_code y := by
  unfold mf_RiscHartModel_step_t203
  rw [apply_ite Prod.snd, apply_ite ms_code]
  show (if _ then ms_code y else ms_code y) = _
  rw [ite_self]
theorem cd_s186 (y : MS) (v : Int32) : ms_code (mf_RiscHartModel_step_t186 y v).2 = ms_code y := by
  unfold mf_RiscHartModel_step_t186
  rw [apply_ite Prod.snd, apply_ite ms_code, cd_203, cd_203, cd_carry, cd_ill, ite_self]
theorem cd_150 (y : MS) : ms_code (mf_RiscHartModel_step_t150 y).2 = ms_code y := by
  unfold mf_RiscHartModel_step_t150
  rw [apply_ite Prod.snd, apply_ite ms_code, cd_s186, cd_s186, cd_next, ite_self]
theorem cd_bits (y : MS) (v : Int32) : ms_code (ms_set_bits y v) = ms_code y := rfl
theorem cd_length (y : MS) (v : Int32) : ms_code (ms_set_length y v) = ms_code y := rfl
theorem cd_t10 (y : MS) : ms_code (mf_RiscHartModel_step_t10 y).2 = ms_code y := by
  unfold mf_RiscHartModel_step_t10
  simp only [apply_ite Prod.snd, apply_ite ms_code, cd_150, cd_bits, cd_length, cd_trap, ite_self]
theorem cd_step (y : MS) : ms_code (mf_RiscHartModel_step y).2 = 0 := by
  unfold mf_RiscHartModel_step
  exact cd_t10 _
