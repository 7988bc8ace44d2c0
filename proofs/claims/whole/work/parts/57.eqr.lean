/-! what a wrapper of the law answers, against the reference -/
theorem updL_0 (f : Nat → Int64) (x : Int64) : vp_updL f 0 x 0 = x := by simp [vp_updL]
theorem updL_eq {f : Nat → Int64} {x y : Int64} (h : x = y) : vp_updL f 0 x 0 = y := (updL_0 f x).trans h
theorem LW_poke {z : HS} {y : MS} (h : Rel z y) (a v : Int32) : (lf_poke z a v).1 = ms_code (mf_RiscHartModel_poke y a v) ∧ Rel (lf_poke z a v).2 (mf_RiscHartModel_poke y a v) := by
  unfold lf_poke
  by_cases c : (¬ (hf_Memory_holds a) = 0)
  · rw [if_pos c]
    have q := poke_ok h v c
    exact ⟨q.1.symm, q.2⟩
  · rw [if_neg c]
    have q := poke_no h v (sp_poke c)
    exact ⟨q.1.symm, q.2⟩
theorem LW_plant {z : HS} {y : MS} (h : Rel z y) (a v : Int32) : (lf_plant z a v).1 = ms_code (mf_RiscHartModel_plant y a v) ∧ Rel (lf_plant z a v).2 (mf_RiscHartModel_plant y a v) := by
  unfold lf_plant
  by_cases c : (¬ (hf_Memory_holds a) = 0) ∧ ((hf_Memory_isMisaligned 2 a) = 0)
  · rw [if_pos c]
    have q := plant_ok h v c.1 c.2
    exact ⟨q.1.symm, q.2⟩
  · rw [if_neg c]
    have q := plant_no h v ((sp_plant c).imp id (fun q => q.2))
    exact ⟨q.1.symm, q.2⟩
theorem LW_peek {z : HS} {y : MS} (h : Rel z y) (f : Nat → Int64) (a : Int32) : (lf_peek z f a).1 = ms_code (mf_RiscHartModel_peek y a).2 ∧ Rel (lf_peek z f a).2.1 (mf_RiscHartModel_peek y a).2 ∧ ((lf_peek z f a).1 = 0 → (lf_peek z f a).2.2 0 = (mf_RiscHartModel_peek y a).1.toInt64) := by
  unfold lf_peek
  by_cases c : (¬ (hf_Memory_holds a) = 0)
  · rw [if_pos c]
    have q := peek_ok h c
    exact ⟨q.2.1.symm, q.2.2, fun _ => updL_eq (f := f) (x := (hf_Memory_read z 4 a).toInt64) (congrArg Int32.toInt64 q.1)⟩
  · rw [if_neg c]
    have q := peek_no h (sp_peek c)
    exact ⟨q.1.symm, q.2, fun k => absurd (show (1 : Int32) = 0 from k) (by decide)⟩
theorem LW_rights {z : HS} {y : MS} (h : Rel z y) (f : Nat → Int64) (a r : Int32) : (lf_rights z f a r).1 = ms_code (mf_RiscHartModel_rights y a r).2 ∧ Rel (lf_rights z f a r).2.1 (mf_RiscHartModel_rights y a r).2 ∧ ((lf_rights z f a r).1 = 0 → (lf_rights z f a r).2.2 0 = (mf_RiscHartModel_rights y a r).1.toInt64) := by
  unfold lf_rights
  by_cases c : (¬ a < 0) ∧ (a < 64) ∧ (¬ r < 0) ∧ (r ≤ 7)
  · rw [if_pos c]
    have q := rights_ok h c.1 c.2.1 c.2.2.1 c.2.2.2
    exact ⟨q.2.1.symm, q.2.2, fun _ => updL_eq (f := f) (x := (hf_Memory_exchangeRights z a r).1.toInt64) (congrArg Int32.toInt64 q.1)⟩
  · rw [if_neg c]
    have q := rights_no h (p := a) (r := r) (by
      rcases sp_rights c with q | ⟨-, q⟩ | ⟨-, -, q⟩ | ⟨-, -, -, q⟩
      · exact Or.inl (Or.inl q)
      · exact Or.inl (Or.inr (Int32.not_lt.mp q))
      · exact Or.inr (Or.inl q)
      · exact Or.inr (Or.inr (Int32.not_le.mp q)))
    exact ⟨q.1.symm, q.2, fun k => absurd (show (1 : Int32) = 0 from k) (by decide)⟩
theorem LW_set {z : HS} {y : MS} (h : Rel z y) (f : Nat → Int64) (r v : Int32) : (lf_set z f r v).1 = ms_code (mf_RiscHartModel_set y r v).2 ∧ Rel (lf_set z f r v).2.1 (mf_RiscHartModel_set y r v).2 ∧ ((lf_set z f r v).1 = 0 → (lf_set z f r v).2.2 0 = if (mf_RiscHartModel_set y r v).1 = 0 then 0 else 1) := by
  unfold lf_set
  by_cases c : (¬ r < 0) ∧ (r < 32)
  · rw [if_pos c]
    have q := set_ok h v c.1 c.2
    refine ⟨q.2.1.symm, q.2.2, fun _ => updL_eq (f := f) (x := if r = 0 then 0 else 1) ?_⟩
    rw [← q.1]
    by_cases c0 : r = 0
    · rw [if_pos c0, if_pos (if_pos c0)]
    · rw [if_neg c0, if_neg (by rw [if_neg c0]; decide)]
  · rw [if_neg c]
    have q := set_no h v (r := r) ((sp_set c).imp id (fun q => Int32.not_lt.mp q.2))
    exact ⟨q.1.symm, q.2, fun k => absurd (show (1 : Int32) = 0 from k) (by decide)⟩
theorem LW_register {z : HS} {y : MS} (h : Rel z y) (f : Nat → Int64) (r : Int32) : (lf_register z f r).1 = ms_code (mf_RiscHartModel_register y r).2 ∧ Rel (lf_register z f r).2.1 (mf_RiscHartModel_register y r).2 ∧ ((lf_register z f r).1 = 0 → (lf_register z f r).2.2 0 = (mf_RiscHartModel_register y r).1.toInt64) := by
  unfold lf_register
  by_cases c : (¬ r < 0) ∧ (r < 32)
  · rw [if_pos c]
    have q := reg_ok h c.1 c.2
    exact ⟨q.2.1.symm, q.2.2, fun _ => updL_eq (f := f) (x := (hs_regs z r.toNatClampNeg).toInt64) (congrArg Int32.toInt64 q.1)⟩
  · rw [if_neg c]
    have q := reg_no h (r := r) ((sp_register c).imp id (fun q => Int32.not_lt.mp q.2))
    exact ⟨q.1.symm, q.2, fun k => absurd (show (1 : Int32) = 0 from k) (by decide)⟩
theorem LW_run {z : HS} {y : MS} (h : Rel z y) (f : Nat → Int64) (n : Int32) : (lf_run z f n).1 = ms_code (mf_run y n).2 ∧ Rel (lf_run z f n).2.1 (mf_run y n).2 ∧ ((lf_run z f n).1 = 0 → (lf_run z f n).2.2 0 = (mf_run y n).1.toInt64) := by
  unfold lf_run
  by_cases c : (¬ n < 0) ∧ (n ≤ 2000)
  · rw [if_pos c]
    have q := run_ok h c.1 c.2
    exact ⟨q.2.1.symm, q.2.2, fun _ => updL_eq (f := f) (x := (hf_run z n).1.toInt64) (congrArg Int32.toInt64 q.1)⟩
  · rw [if_neg c]
    have q := run_no h (n := n) ((sp_run c).imp id (fun q => Int32.not_le.mp q.2))
    exact ⟨q.1.symm, q.2, fun k => absurd (show (1 : Int32) = 0 from k) (by decide)⟩
theorem LW_count {z : HS} {y : MS} (h : Rel z y) (f : Nat → Int64) (k : Int32) : (lf_count z f k).1 = ms_code (mf_RiscHartModel_count y k).2 ∧ Rel (lf_count z f k).2.1 (mf_RiscHartModel_count y k).2 ∧ ((lf_count z f k).1 = 0 → (lf_count z f k).2.2 0 = (mf_RiscHartModel_count y k).1) := by
  unfold lf_count
  by_cases c : five k
  · rw [if_pos c]
    have q := count_ok h c
    exact ⟨q.2.1.symm, q.2.2, fun _ => updL_eq (f := f) (x := hf_count z k) q.1⟩
  · rw [if_neg c]
    have q := count_no h c
    exact ⟨q.1.symm, q.2, fun k => absurd (show (1 : Int32) = 0 from k) (by decide)⟩
theorem Rel0 : Rel hs0 ms0 := by
  refine ⟨fun _ _ => rfl, rfl, fun j _ => ?_, fun p hp => ⟨rfl, 7, by omega, if_pos hp⟩, rfl, rfl, rfl, rfl, rfl, rfl, Or.inl rfl⟩
  show (0 : Int32) = byteOf hs0 j
  have : byteOf hs0 j = ja_ushr 0 (nI (8 * (j % 4))) &&& 255 := rfl
  rw [this, show ja_ushr 0 (nI (8 * (j % 4))) = nI (0 / 2 ^ (8 * (j % 4))) from ush_nI (n := 0) (by omega) _ (by omega), Nat.zero_div]
  rfl
