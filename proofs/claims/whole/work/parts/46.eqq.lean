/-! the other calls on both sides -/
theorem okr_of {z : HS} {y : MS} (h : Rel z y) : okr (ms_reserved y) := by rw [h.2.2.2.2.2.2.2.1]; exact h.2.2.2.2.2.2.2.2.2.2
theorem poke_no {z : HS} {y : MS} (h : Rel z y) {a : Int32} (v : Int32) (c : hf_Memory_holds a = 0) : ms_code (mf_RiscHartModel_poke y a v) = 1 ∧ Rel z (mf_RiscHartModel_poke y a v) := by
  unfold mf_RiscHartModel_poke
  rw [if_pos (show mf_RiscHartModel_in a 0 65535 = 0 from c)]
  exact ⟨rfl, h⟩
theorem poke_ok {z : HS} {y : MS} (h : Rel z y) {a : Int32} (v : Int32) (c : ¬ hf_Memory_holds a = 0) : ms_code (mf_RiscHartModel_poke y a v) = 0 ∧ Rel (hf_Memory_write z 0 a v) (mf_RiscHartModel_poke y a v) := by
  unfold mf_RiscHartModel_poke
  rw [if_neg (show ¬ mf_RiscHartModel_in a 0 65535 = 0 from c)]
  obtain ⟨j, hj, rfl⟩ := ja_holds c
  have h' : Rel z (ms_set_code y 0) := h
  obtain ⟨y', e, a1, b1, c1⟩ := wr1 (y := ms_set_code y 0) (j := j) (by omega) (okr_of h) v
  rw [e]
  refine ⟨b1.2.2.2.1, sim_write (f := 0) (M := 1) h' v (Or.inl ⟨rfl, rfl⟩) (by omega) (Nat.mod_one _) a1 b1.1 (fun q _ => ?_)⟩
  rw [c1 q]
  by_cases hq : q = j
  · subst hq
    rw [if_pos rfl, if_pos (by omega), Nat.sub_self]
    rw [show v >>> (nI (8 * 0) &&& 31) = v from by
      refine b_ext (fun i hi => ?_)
      rw [b_sshr 0 (by omega) v hi, if_pos (by omega), Nat.zero_add]]
  · rw [if_neg hq, if_neg (by omega)]
theorem in_iff {a : Int32} {n : Nat} (hn : n < 2 ^ 31) : ¬ mf_RiscHartModel_in a 0 (nI n) = 0 ↔ ∃ j : Nat, j ≤ n ∧ a = nI j := by
  unfold mf_RiscHartModel_in
  constructor
  · intro h
    by_cases h1 : a < 0
    · exact absurd (if_pos h1) h
    · rw [if_neg h1] at h
      by_cases h2 : nI n < a
      · exact absurd (if_pos h2) h
      · obtain ⟨j, hj, e⟩ := nI_of h1
        refine ⟨j, ?_, e⟩
        rw [e] at h2
        exact Nat.not_lt.mp fun q => h2 (nI_lt q hj)
  · rintro ⟨j, hj, rfl⟩
    rw [if_neg (nI_pos (by omega)), if_neg (nI_nlt hj hn)]
    decide
theorem plant_no {z : HS} {y : MS} (h : Rel z y) {a : Int32} (v : Int32) (c : hf_Memory_holds a = 0 ∨ ¬ hf_Memory_isMisaligned 2 a = 0) : ms_code (mf_RiscHartModel_plant y a v) = 1 ∧ Rel z (mf_RiscHartModel_plant y a v) := by
  unfold mf_RiscHartModel_plant
  by_cases c1 : mf_RiscHartModel_in a 0 65532 = 0
  · rw [if_pos c1]; exact ⟨rfl, h⟩
  · rw [if_neg c1]
    have c2 : ¬ (a - a / 4 * 4) = 0 := by
      intro q
      rcases c with c | c
      · obtain ⟨j, hj, e⟩ := (in_iff (n := 65532) (by omega)).mp c1
        exact absurd c ((in_iff (n := 65535) (by omega)).mpr ⟨j, by omega, e⟩)
      · exact c ((mis4_iff a).mp q)
    rw [if_neg c2]; exact ⟨rfl, h⟩
theorem code_wr {y : MS} {q : Nat} (hq : q < 65536) (hr : okr (ms_reserved y)) (v : Int32) : ms_code (mf_RiscHartModel_write y (nI q) v) = ms_code y ∧ okr (ms_reserved (mf_RiscHartModel_write y (nI q) v)) := by
  obtain ⟨y', e, a1, b1, c1⟩ := wr1 (y := y) (j := q) hq hr v
  rw [e]
  exact ⟨b1.2.2.2.1, by rw [b1.1]; exact okr_rsv hr q⟩
theorem plant_ok {z : HS} {y : MS} (h : Rel z y) {a : Int32} (v : Int32) (c : ¬ hf_Memory_holds a = 0) (c2 : hf_Memory_isMisaligned 2 a = 0) : ms_code (mf_RiscHartModel_plant y a v) = 0 ∧ Rel (hf_Memory_write z 2 a v) (mf_RiscHartModel_plant y a v) := by
  obtain ⟨j, hj, rfl⟩ := ja_holds c
  have ha : j % 4 = 0 := al (f := 2) (M := 4) (Or.inr (Or.inr ⟨rfl, rfl⟩)) (by omega) c2
  unfold mf_RiscHartModel_plant
  rw [if_neg (show ¬ mf_RiscHartModel_in (nI j) 0 65532 = 0 from (in_iff (n := 65532) (by omega)).mpr ⟨j, by omega, rfl⟩), if_pos ((mis4_iff (nI j)).mpr c2)]
  have h' : Rel z (ms_set_code y 0) := h
  have h0 : ms_code (ms_set_code y 0) = 0 := rfl
  generalize ms_set_code y 0 = y0 at h' h0
  obtain ⟨y', e, a1, b1, c1⟩ := wr4 (y := y0) (j := j) (by omega) ha (okr_of h') v
  have k1 := code_wr (y := y0) (q := j + 0) (by omega) (okr_of h') (v >>> (((8 : Int32) * 0) &&& 31))
  have k2 := code_wr (q := j + 1) (by omega) k1.2 (v >>> (((8 : Int32) * 1) &&& 31))
  have k3 := code_wr (q := j + 2) (by omega) k2.2 (v >>> (((8 : Int32) * 2) &&& 31))
  have q0 : nI j + 0 = nI (j + 0) := nI_add j 0
  have q1 : nI j + 1 = nI (j + 1) := nI_add j 1
  have q2 : nI j + 2 = nI (j + 2) := nI_add j 2
  rw [← q0] at k1 k2 k3
  rw [← q1] at k2 k3
  rw [← q2] at k3
  rw [if_pos (by rw [k1.1]; exact h0), if_pos (by rw [k2.1, k1.1]; exact h0), if_pos (by rw [k3.1, k2.1, k1.1]; exact h0), e]
  exact ⟨by rw [b1.2.2.2.1]; exact h0, sim_write (f := 2) (M := 4) h' v (Or.inr (Or.inr ⟨rfl, rfl⟩)) (by omega) ha a1 b1.1 (fun q _ => c1 q)⟩
theorem peek_no {z : HS} {y : MS} (h : Rel z y) {a : Int32} (c : hf_Memory_holds a = 0) : ms_code (mf_RiscHartModel_peek y a).2 = 1 ∧ Rel z (mf_RiscHartModel_peek y a).2 := by
  unfold mf_RiscHartModel_peek
  rw [if_pos (show mf_RiscHartModel_in a 0 65535 = 0 from c)]
  exact ⟨rfl, h⟩
theorem peek_ok {z : HS} {y : MS} (h : Rel z y) {a : Int32} (c : ¬ hf_Memory_holds a = 0) : hf_Memory_read z 4 a = (mf_RiscHartModel_peek y a).1 ∧ ms_code (mf_RiscHartModel_peek y a).2 = 0 ∧ Rel z (mf_RiscHartModel_peek y a).2 := by
  unfold mf_RiscHartModel_peek
  rw [if_neg (show ¬ mf_RiscHartModel_in a 0 65535 = 0 from c)]
  refine ⟨?_, rfl, h⟩
  obtain ⟨j, hj, rfl⟩ := ja_holds c
  rw [rd4, wIx (by omega), shIx j (by omega)]
  show _ = ms_bytes y (nI j).toNatClampNeg
  rw [nI_clamp (by omega), h.2.2.1 j (by omega)]
  rfl
theorem in_lo {a : Int32} {n : Nat} (hn : n < 2 ^ 31) (h : a < 0 ∨ nI n < a) : mf_RiscHartModel_in a 0 (nI n) = 0 := by
  unfold mf_RiscHartModel_in
  by_cases h1 : a < 0
  · rw [if_pos h1]
  · rw [if_neg h1, if_pos (h.resolve_left h1)]
theorem ge_gt {a : Int32} {n : Nat} (hn : n + 1 < 2 ^ 31) (h : nI (n + 1) ≤ a) : nI n < a := Int32.lt_of_lt_of_le (nI_lt (Nat.lt_succ_self n) hn) h
theorem rights_no {z : HS} {y : MS} (h : Rel z y) {p r : Int32} (c : (p < 0 ∨ 64 ≤ p) ∨ (r < 0 ∨ 7 < r)) : ms_code (mf_RiscHartModel_rights y p r).2 = 1 ∧ Rel z (mf_RiscHartModel_rights y p r).2 := by
  unfold mf_RiscHartModel_rights
  by_cases c1 : mf_RiscHartModel_in p 0 63 = 0
  · rw [if_pos c1]; exact ⟨rfl, h⟩
  · rw [if_neg c1, if_pos (show mf_RiscHartModel_in r 0 7 = 0 from in_lo (n := 7) (by omega) (c.resolve_left fun q => c1 (in_lo (n := 63) (by omega) (q.imp id (ge_gt (n := 63) (by omega))))))]
    exact ⟨rfl, h⟩
theorem lt_of {a : Int32} {n : Nat} (hn : n < 2 ^ 31) (h1 : ¬ a < 0) (h2 : a < nI n) : ∃ j : Nat, j < n ∧ a = nI j := by
  obtain ⟨j, hj, rfl⟩ := nI_of h1
  refine ⟨j, Nat.not_le.mp fun q => nI_nlt (a := j) (b := n) q hj h2, rfl⟩
theorem rights_ok {z : HS} {y : MS} (h : Rel z y) {p r : Int32} (c1 : ¬ p < 0) (c2 : p < 64) (c3 : ¬ r < 0) (c4 : r ≤ 7) : (hf_Memory_exchangeRights z p r).1 = (mf_RiscHartModel_rights y p r).1 ∧ ms_code (mf_RiscHartModel_rights y p r).2 = 0 ∧ Rel (hf_Memory_exchangeRights z p r).2 (mf_RiscHartModel_rights y p r).2 := by
  obtain ⟨j, hj, rfl⟩ := lt_of (n := 64) (by omega) c1 c2
  obtain ⟨k, hk, rfl⟩ := lt_of (n := 8) (by omega) c3 (Int32.lt_of_le_of_lt c4 (by decide))
  unfold mf_RiscHartModel_rights
  rw [if_neg (show ¬ mf_RiscHartModel_in (nI j) 0 63 = 0 from (in_iff (n := 63) (by omega)).mpr ⟨j, by omega, rfl⟩), if_neg (show ¬ mf_RiscHartModel_in (nI k) 0 7 = 0 from (in_iff (n := 7) (by omega)).mpr ⟨k, by omega, rfl⟩)]
  obtain ⟨h1, h2, h3, h4, h5, h6, h7, h8, h9, h10, h11⟩ := h
  refine ⟨?_, rfl, h1, h2, h3, fun p hp => ?_, h5, h6, h7, h8, h9, h10, h11⟩
  · show hs_rights z (nI j).toNatClampNeg = ms_open y (nI j).toNatClampNeg
    rw [nI_clamp (by omega)]
    exact (h4 j hj).1.symm
  · show upd (ms_open y) (nI j).toNatClampNeg (nI k) p = upd (hs_rights z) (nI j).toNatClampNeg (nI k) p ∧ ∃ r, r < 8 ∧ upd (hs_rights z) (nI j).toNatClampNeg (nI k) p = nI r
    rw [nI_clamp (by omega), upd_at, upd_at]
    by_cases q : p = j
    · rw [if_pos q, if_pos q]; exact ⟨rfl, k, hk, rfl⟩
    · rw [if_neg q, if_neg q]; exact h4 p hp
theorem set_no {z : HS} {y : MS} (h : Rel z y) {r : Int32} (v : Int32) (c : r < 0 ∨ 32 ≤ r) : ms_code (mf_RiscHartModel_set y r v).2 = 1 ∧ Rel z (mf_RiscHartModel_set y r v).2 := by
  unfold mf_RiscHartModel_set
  rw [if_pos (show mf_RiscHartModel_in r 0 31 = 0 from in_lo (n := 31) (by omega) (c.imp id (ge_gt (n := 31) (by omega))))]
  exact ⟨rfl, h⟩
theorem set_ok {z : HS} {y : MS} (h : Rel z y) {r : Int32} (v : Int32) (c1 : ¬ r < 0) (c2 : r < 32) : (if r = 0 then (0 : Int32) else 1) = (mf_RiscHartModel_set y r v).1 ∧ ms_code (mf_RiscHartModel_set y r v).2 = 0 ∧ Rel (hf_RiscHart_give z r v).2 (mf_RiscHartModel_set y r v).2 := by
  obtain ⟨j, hj, rfl⟩ := lt_of (n := 32) (by omega) c1 c2
  unfold mf_RiscHartModel_set hf_RiscHart_give
  rw [if_neg (show ¬ mf_RiscHartModel_in (nI j) 0 31 = 0 from (in_iff (n := 31) (by omega)).mpr ⟨j, by omega, rfl⟩)]
  by_cases c : nI j = 0
  · rw [if_pos c, if_pos c, if_pos c]
    exact ⟨rfl, rfl, h⟩
  · rw [if_neg c, if_neg c, if_neg c]
    have hj0 : ¬ j = 0 := fun q => c (by rw [q]; rfl)
    obtain ⟨h1, h2, h3, h4, h5, h6, h7, h8, h9, h10, h11⟩ := h
    refine ⟨rfl, rfl, fun p hp => ?_, ?_, h3, h4, h5, h6, h7, h8, h9, h10, h11⟩
    · show upd (ms_x y) (nI j).toNatClampNeg v p = upd (hs_regs z) (nI j).toNatClampNeg v p
      rw [nI_clamp (by omega), upd_at, upd_at]
      by_cases q : p = j
      · rw [if_pos q, if_pos q]
      · rw [if_neg q, if_neg q]; exact h1 p hp
    · show upd (hs_regs z) (nI j).toNatClampNeg v 0 = 0
      rw [nI_clamp (by omega), upd_at, if_neg (fun q => hj0 q.symm)]
      exact h2
theorem reg_no {z : HS} {y : MS} (h : Rel z y) {r : Int32} (c : r < 0 ∨ 32 ≤ r) : ms_code (mf_RiscHartModel_register y r).2 = 1 ∧ Rel z (mf_RiscHartModel_register y r).2 := by
  unfold mf_RiscHartModel_register
  rw [if_pos (show mf_RiscHartModel_in r 0 31 = 0 from in_lo (n := 31) (by omega) (c.imp id (ge_gt (n := 31) (by omega))))]
  exact ⟨rfl, h⟩
theorem reg_ok {z : HS} {y : MS} (h : Rel z y) {r : Int32} (c1 : ¬ r < 0) (c2 : r < 32) : hs_regs z r.toNatClampNeg = (mf_RiscHartModel_register y r).1 ∧ ms_code (mf_RiscHartModel_register y r).2 = 0 ∧ Rel z (mf_RiscHartModel_register y r).2 := by
  obtain ⟨j, hj, rfl⟩ := lt_of (n := 32) (by omega) c1 c2
  unfold mf_RiscHartModel_register
  rw [if_neg (show ¬ mf_RiscHartModel_in (nI j) 0 31 = 0 from (in_iff (n := 31) (by omega)).mpr ⟨j, by omega, rfl⟩)]
  refine ⟨?_, rfl, h⟩
  show hs_regs z (nI j).toNatClampNeg = ms_x y (nI j).toNatClampNeg
  rw [nI_clamp (by omega)]
  exact (h.1 j hj).symm
theorem jump_ok {z : HS} {y : MS} (h : Rel z y) (a : Int32) : Rel (hf_RiscHart_jump z a) (mf_RiscHartModel_jump y a) := by
  obtain ⟨h1, h2, h3, h4, h5, h6, h7, h8, h9, h10, h11⟩ := h
  exact ⟨h1, h2, h3, h4, rfl, h6, h7, h8, h9, h10, h11⟩
theorem clock_ok {z : HS} {y : MS} (h : Rel z y) (a : Int64) : Rel (hf_RiscHart_clock z a) (mf_RiscHartModel_clock y a) := by
  obtain ⟨h1, h2, h3, h4, h5, h6, h7, h8, h9, h10, h11⟩ := h
  exact ⟨h1, h2, h3, h4, h5, h6, h7, h8, h9, rfl, h11⟩
/-- what count answers -/
def hf_count (z : HS) (k : Int32) : Int64 := if k = 0 then (hs_place z).toInt64 else if k = 1 then (hs_cause z).toInt64 else if k = 2 then (hs_value z).toInt64 else if k = 3 then hs_retired z else (hs_reserved z).toInt64
abbrev five (k : Int32) : Prop := k = 0 ∨ k = 1 ∨ k = 2 ∨ k = 3 ∨ k = 4
theorem count_ok {z : HS} {y : MS} (h : Rel z y) {k : Int32} (c : five k) : hf_count z k = (mf_RiscHartModel_count y k).1 ∧ ms_code (mf_RiscHartModel_count y k).2 = 0 ∧ Rel z (mf_RiscHartModel_count y k).2 := by
  have ho : Rel z (ms_set_code y 0) := h
  obtain ⟨h1, h2, h3, h4, h5, h6, h7, h8, h9, h10, h11⟩ := h
  unfold mf_RiscHartModel_count hf_count
  rw [h5, h6, h7, h8, h9]
  rcases c with rfl | rfl | rfl | rfl | rfl
  · exact ⟨rfl, rfl, ho⟩
  · exact ⟨rfl, rfl, ho⟩
  · exact ⟨rfl, rfl, ho⟩
  · exact ⟨rfl, rfl, ho⟩
  · exact ⟨rfl, rfl, ho⟩
theorem count_no {z : HS} {y : MS} (h : Rel z y) {k : Int32} (c : ¬ five k) : ms_code (mf_RiscHartModel_count y k).2 = 1 ∧ Rel z (mf_RiscHartModel_count y k).2 := by
  have h0 : ¬ k = 0 := fun q => c (Or.inl q)
  have h1 : ¬ k = 1 := fun q => c (Or.inr (Or.inl q))
  have h2 : ¬ k = 2 := fun q => c (Or.inr (Or.inr (Or.inl q)))
  have h3 : ¬ k = 3 := fun q => c (Or.inr (Or.inr (Or.inr (Or.inl q))))
  have h4 : ¬ k = 4 := fun q => c (Or.inr (Or.inr (Or.inr (Or.inr q))))
  have hi : mf_RiscHartModel_in k 0 4 = 0 := by
    refine Decidable.not_not.mp fun q => ?_
    obtain ⟨j, hj, rfl⟩ := (in_iff (n := 4) (by omega)).mp q
    rcases (show j = 0 ∨ j = 1 ∨ j = 2 ∨ j = 3 ∨ j = 4 by omega) with rfl | rfl | rfl | rfl | rfl
    · exact h0 rfl
    · exact h1 rfl
    · exact h2 rfl
    · exact h3 rfl
    · exact h4 rfl
  unfold mf_RiscHartModel_count
  rw [if_pos hi, if_neg h0, if_neg h1, if_neg h2, if_neg h3, if_neg h4]
  exact ⟨rfl, h⟩
/-- k steps at most: how many were done -/
def runH : Nat → HS → Nat × HS
  | 0, z => (0, z)
  | k + 1, z => if (hf_RiscHart_carryOutNext z).1 = 0 then ((runH k (hf_RiscHart_carryOutNext z).2).1 + 1, (runH k (hf_RiscHart_carryOutNext z).2).2) else (0, (hf_RiscHart_carryOutNext z).2)
def runM : Nat → MS → Nat × MS
  | 0, y => (0, y)
  | k + 1, y => if (mf_RiscHartModel_step y).1 = 0 then ((runM k (mf_RiscHartModel_step y).2).1 + 1, (runM k (mf_RiscHartModel_step y).2).2) else (0, (mf_RiscHartModel_step y).2)
theorem run_eq : ∀ (k : Nat) {z : HS} {y : MS}, Rel z y → ms_code y = 0 → (runH k z).1 = (runM k y).1 ∧ ms_code (runM k y).2 = 0 ∧ Rel (runH k z).2 (runM k y).2
  | 0, _, _, h, hc => ⟨rfl, hc, h⟩
  | k + 1, z, y, h, _ => by
    have hs := step_eq h
    have hc := cd_step y
    unfold runH runM
    rw [hs.1]
    generalize hf_RiscHart_carryOutNext z = a at hs
    generalize mf_RiscHartModel_step y = b at hs hc
    by_cases c : b.1 = 0
    · rw [if_pos c, if_pos c]
      have := run_eq k hs.2 hc
      exact ⟨congrArg (· + 1) this.1, this.2⟩
    · rw [if_neg c, if_neg c]
      exact ⟨rfl, hc, hs.2⟩
def mf_run (y : MS) (n : Int32) : Int32 × MS := if mf_RiscHartModel_in n 0 2000 = 0 then (0, ms_set_code y 1) else (nI (runM n.toNatClampNeg (ms_set_code y 0)).1, (runM n.toNatClampNeg (ms_set_code y 0)).2)
def hf_run (z : HS) (n : Int32) : Int32 × HS := (nI (runH n.toNatClampNeg z).1, (runH n.toNatClampNeg z).2)
theorem run_no {z : HS} {y : MS} (h : Rel z y) {n : Int32} (c : n < 0 ∨ 2000 < n) : ms_code (mf_run y n).2 = 1 ∧ Rel z (mf_run y n).2 := by
  unfold mf_run
  rw [if_pos (show mf_RiscHartModel_in n 0 2000 = 0 from in_lo (n := 2000) (by omega) c)]
  exact ⟨rfl, h⟩
theorem run_ok {z : HS} {y : MS} (h : Rel z y) {n : Int32} (c1 : ¬ n < 0) (c2 : n ≤ 2000) : (hf_run z n).1 = (mf_run y n).1 ∧ ms_code (mf_run y n).2 = 0 ∧ Rel (hf_run z n).2 (mf_run y n).2 := by
  have hi : ¬ mf_RiscHartModel_in n 0 2000 = 0 := by
    unfold mf_RiscHartModel_in
    rw [if_neg c1, if_neg (Int32.not_lt.mpr c2)]
    decide
  have := run_eq n.toNatClampNeg (y := ms_set_code y 0) h rfl
  unfold mf_run hf_run
  rw [if_neg hi]
  exact ⟨congrArg nI this.1, this.2⟩
