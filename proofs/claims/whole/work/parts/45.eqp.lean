/-! one step on both sides -/
def finH (c : Int32 × HS) : Int32 × HS := if c.1 = 0 then (c.1, (hs_set_place (hs_set_retired c.2 ((hs_retired c.2) + 1)) (hs_behind c.2))) else c
theorem fin_eq {c : Int32 × HS} {y : MS} (h : Out c.1 c.2 y) (v : Int32) : (finH c).1 = (mf_RiscHartModel_step_t203 y v).1 ∧ Rel (finH c).2 (mf_RiscHartModel_step_t203 y v).2 := by
  obtain ⟨⟨h1, h2, h3, h4, h5, h6, h7, h8, h9, h10, h11⟩, hm, hb, hc⟩ := h
  unfold finH mf_RiscHartModel_step_t203
  rw [hm]
  by_cases c0 : c.1 = 0
  · rw [if_pos c0, if_pos (by rw [c0]; decide)]
    refine ⟨c0, h1, h2, h3, h4, (hb c0).symm, h6, h7, h8, ?_, h10, h11⟩
    show ms_retired y + 1 = hs_retired c.2 + 1
    rw [h9]
  · rw [if_neg c0, if_neg (by rcases hc with q | q; exact absurd q c0; exact Int32.not_le.mpr q)]
    exact ⟨rfl, h1, h2, h3, h4, h5, h6, h7, h8, h9, h10, h11⟩
theorem odd_iff (a : Int32) : hf_Memory_isMisaligned 1 a = 0 ↔ ¬ (a &&& 1) = 1 := by
  unfold hf_Memory_isMisaligned
  rw [show ((1 : Int32) <<< (((1 : Int32) &&& 3) &&& 31)) - 1 = 1 from by decide]
  obtain ⟨j, hj, e⟩ := pk_andE a (m := 1) 1 (by decide)
  rw [e]
  rcases (show j = 0 ∨ j = 1 by omega) with rfl | rfl
  · decide
  · decide
theorem ev_nI {j : Nat} (hj : j < 2 ^ 32) (h : ev (nI j)) : j % 2 = 0 := lt2_even hj rfl h
theorem al_succ (z : HS) {a : Int32} (he : ev a) (h : ¬ hf_Memory_holds a = 0) : hf_Memory_allows z 4 (a + 1) = hf_Memory_allows z 4 a := by
  obtain ⟨j, hj, rfl⟩ := ja_holds h
  have := ev_nI (by omega) he
  rw [show nI j + 1 = nI (j + 1) from nI_add j 1]
  have h1 : ¬ hf_Memory_holds (nI (j + 1)) = 0 := by
    unfold hf_Memory_holds
    rw [if_neg (nI_pos (by omega)), if_neg (show ¬ (65535 : Int32) < nI (j + 1) from nI_nlt (a := 65535) (b := j + 1) (by omega) (by omega))]
    decide
  unfold hf_Memory_allows
  rw [if_neg h, if_neg h1, show ja_ushr (nI j) 10 = nI (j / 1024) from ush_nI (by omega) 10 (by omega), show ja_ushr (nI (j + 1)) 10 = nI ((j + 1) / 1024) from ush_nI (by omega) 10 (by omega), show (j + 1) / 1024 = j / 1024 by omega]
theorem fet_eq {z : HS} {y : MS} (h : Rel z y) {a : Int32} (he : ev a) : mf_RiscHartModel_fetches y a = 0 ↔ hf_Memory_allows z 4 a = 0 := by
  unfold mf_RiscHartModel_fetches
  rw [show mf_RiscHartModel_may y a 4 = _ from may_eq h a 4 (by omega), show mf_RiscHartModel_may y (a + 1) 4 = _ from may_eq h (a + 1) 4 (by omega)]
  show (if hf_Memory_allows z 4 a = 0 then (0 : Int32) else if hf_Memory_allows z 4 (a + 1) = 0 then 0 else 1) = 0 ↔ hf_Memory_allows z 4 a = 0
  by_cases c : hf_Memory_allows z 4 a = 0
  · rw [if_pos c]; exact ⟨fun _ => c, fun _ => rfl⟩
  · rw [if_neg c]
    have hh : ¬ hf_Memory_holds a = 0 := fun q => c (by unfold hf_Memory_allows; rw [if_pos q])
    rw [al_succ z he hh, if_neg c]
    exact ⟨fun q => absurd q (by decide), fun q => absurd q c⟩
theorem mco_iff (z : HS) (a : Int32) : hf_Memory_mayCarryOut z a = 0 ↔ ((a &&& 1) = 1 ∨ hf_Memory_allows z 4 a = 0) := by
  unfold hf_Memory_mayCarryOut
  by_cases c : hf_Memory_isMisaligned 1 a = 0
  · rw [if_pos c]
    by_cases c2 : hf_Memory_allows z 4 a = 0
    · rw [if_pos c2]; exact ⟨fun _ => Or.inr c2, fun _ => rfl⟩
    · rw [if_neg c2]
      exact ⟨fun q => absurd q (by decide), fun q => (q.elim (fun q => absurd q ((odd_iff a).mp c)) (fun q => absurd q c2))⟩
  · rw [if_neg c]
    exact ⟨fun _ => Or.inl (Decidable.not_not.mp fun q => c ((odd_iff a).mpr q)), fun _ => rfl⟩
theorem al_in {z : HS} {r a : Int32} (h : ¬ hf_Memory_allows z r a = 0) : ¬ hf_Memory_holds a = 0 := fun q => h (by unfold hf_Memory_allows; rw [if_pos q])
theorem half_eq {z : HS} {y : MS} (h : Rel z y) {a : Int32} (he : ev a) (hh : ¬ hf_Memory_holds a = 0) : mf_RiscHartModel_half y a = hf_Memory_read z 5 a := by
  obtain ⟨j, hj, rfl⟩ := ja_holds hh
  have := ev_nI (by omega) he
  rw [half_m h (by omega)]
  exact half_bytes z (by omega) this
theorem trap_eq {z : HS} {y : MS} (h : Rel z y) : (hf_RiscHart_trap z 1 (hs_place z)).1 = ms_met (mf_RiscHartModel_trap y 1 (ms_place y)).2 ∧ Rel (hf_RiscHart_trap z 1 (hs_place z)).2 (mf_RiscHartModel_trap y 1 (ms_place y)).2 := by
  obtain ⟨h1, h2, h3, h4, h5, h6, h7, h8, h9, h10, h11⟩ := h
  exact ⟨rfl, h1, h2, h3, h4, h5, rfl, h5, h8, h9, h10, h11⟩
theorem ev_2 : ev 2 := by unfold ev; decide
theorem low3 {x u : Int32} (h : x &&& 3 = 3) : ¬ (x ||| u) = 0 := by
  intro q
  have e1 : bt (x &&& 3) 0 = bt 3 0 := by rw [h]
  have e2 : bt (x ||| u) 0 = bt 0 0 := by rw [q]
  rw [b_and] at e1
  rw [b_or, b_0] at e2
  have h3 : bt 3 0 = true := by decide
  rw [h3, Bool.and_true] at e1
  rw [e1] at e2
  rw [Bool.true_or] at e2
  exact absurd e2 (by decide)
theorem next_eq (z : HS) : hf_RiscHart_carryOutNext z = if hf_Memory_mayCarryOut z (hs_place z) = 0 then hf_RiscHart_trap z 1 (hs_place z) else if ((hf_Memory_read z 5 (hs_place z)) &&& 3) = 3 then (if hf_Memory_mayCarryOut z (hs_place z + 2) = 0 then hf_RiscHart_trap z 1 (hs_place z) else finH (hf_RiscHart_carryOutLong (hs_set_behind z ((hs_place z) + 4)) (hf_RiscHart_longFrom (hs_set_behind z ((hs_place z) + 4)) (hf_Memory_read z 5 (hs_place z))))) else finH (hf_RiscHart_carryOutShort (hs_set_behind z ((hs_place z) + 2)) (hf_Memory_read z 5 (hs_place z))) := rfl
theorem s186_long {y : MS} {v : Int32} {c : Int32 × HS} (hv : ¬ v = 0) (h : Out c.1 c.2 (mf_RiscHartModel_carry y v)) : (finH c).1 = (mf_RiscHartModel_step_t186 y v).1 ∧ Rel (finH c).2 (mf_RiscHartModel_step_t186 y v).2 := by
  unfold mf_RiscHartModel_step_t186
  rw [if_neg hv]
  exact fin_eq h v
theorem s186_short {y : MS} {v : Int32} {c : Int32 × HS} (h : Sx c y v) : (finH c).1 = (mf_RiscHartModel_step_t186 y v).1 ∧ Rel (finH c).2 (mf_RiscHartModel_step_t186 y v).2 := by
  unfold mf_RiscHartModel_step_t186
  unfold Sx at h
  by_cases hv : v = 0
  · rw [if_pos hv] at h ⊢
    exact fin_eq h v
  · rw [if_neg hv] at h ⊢
    exact fin_eq h v
theorem relD_mk {z : HS} {y : MS} (h : Rel z y) (hm : ms_met y = 0) (he : ev (hs_place z)) (b k p : Int32) : RelD (hs_set_behind z p) (ms_set_next (ms_set_bits (ms_set_length y k) b) p) b := by
  obtain ⟨h1, h2, h3, h4, h5, h6, h7, h8, h9, h10, h11⟩ := h
  exact ⟨⟨h1, h2, h3, h4, h5, h6, h7, h8, h9, h10, h11⟩, rfl, hm, rfl, he⟩
theorem bits2 (y : MS) (a b k : Int32) : ms_set_bits (ms_set_length (ms_set_bits y a) k) b = ms_set_bits (ms_set_length y k) b := rfl
theorem t150_4 (y : MS) (b : Int32) : mf_RiscHartModel_step_t150 (ms_set_bits (ms_set_length y 4) b) = mf_RiscHartModel_step_t186 (ms_set_next (ms_set_bits (ms_set_length y 4) b) (ms_place y + 4)) b := by
  unfold mf_RiscHartModel_step_t150
  exact if_pos rfl
theorem t150_2 (y : MS) (b : Int32) : mf_RiscHartModel_step_t150 (ms_set_bits (ms_set_length y 2) b) = mf_RiscHartModel_step_t186 (ms_set_next (ms_set_bits (ms_set_length y 2) b) (ms_place y + 2)) (mf_RiscHartModel_expand b) := by
  unfold mf_RiscHartModel_step_t150
  exact if_neg (show ¬ (2 : Int32) = 4 by decide)
theorem t10_eq {z : HS} {y : MS} (h : Rel z y) (hm : ms_met y = 0) : (hf_RiscHart_carryOutNext z).1 = (mf_RiscHartModel_step_t10 y).1 ∧ Rel (hf_RiscHart_carryOutNext z).2 (mf_RiscHartModel_step_t10 y).2 := by
  have hp : ms_place y = hs_place z := h.2.2.2.2.1
  rw [next_eq]
  unfold mf_RiscHartModel_step_t10
  by_cases c1 : (hs_place z &&& 1) = 1
  · rw [if_pos ((mco_iff z _).mpr (Or.inl c1)), if_pos (by rw [hp]; exact c1)]
    exact trap_eq h
  have he : ev (hs_place z) := ev_of c1
  rw [if_neg (show ¬ (ms_place y &&& 1) = 1 by rw [hp]; exact c1)]
  by_cases c2 : hf_Memory_allows z 4 (hs_place z) = 0
  · rw [if_pos ((mco_iff z _).mpr (Or.inr c2)), if_pos (by rw [hp]; exact (fet_eq h he).mpr c2)]
    exact trap_eq h
  rw [if_neg (show ¬ hf_Memory_mayCarryOut z (hs_place z) = 0 from fun q => ((mco_iff z _).mp q).elim c1 c2), if_neg (show ¬ mf_RiscHartModel_fetches y (ms_place y) = 0 by rw [hp]; exact fun q => c2 ((fet_eq h he).mp q))]
  have eh : mf_RiscHartModel_half y (ms_place y) = hf_Memory_read z 5 (hs_place z) := by rw [hp]; exact half_eq h he (al_in c2)
  rw [eh]
  by_cases c3 : (hf_Memory_read z 5 (hs_place z)) &&& 3 = 3
  · rw [if_pos c3, if_pos c3]
    have he2 : ev (hs_place z + 2) := ev_add he ev_2
    have h' : Rel z (ms_set_length (ms_set_bits y (hf_Memory_read z 5 (hs_place z))) 4) := h
    have ho : ¬ (hs_place z + 2 &&& 1) = 1 := by
      intro q
      have := (odd_iff (hs_place z + 2)).mpr
      have e1 : bt (hs_place z + 2 &&& 1) 0 = bt 1 0 := by rw [q]
      rw [b_and, he2] at e1
      exact absurd e1 (by decide)
    by_cases c4 : hf_Memory_allows z 4 (hs_place z + 2) = 0
    · rw [if_pos ((mco_iff z _).mpr (Or.inr c4)), if_pos (by rw [hp]; exact (fet_eq h' he2).mpr c4)]
      exact trap_eq h'
    rw [if_neg (show ¬ hf_Memory_mayCarryOut z (hs_place z + 2) = 0 from fun q => ((mco_iff z _).mp q).elim ho c4), if_neg (show ¬ mf_RiscHartModel_fetches (ms_set_length (ms_set_bits y (hf_Memory_read z 5 (hs_place z))) 4) (ms_place y + 2) = 0 by rw [hp]; exact fun q => c4 ((fet_eq h' he2).mp q))]
    have eh2 : mf_RiscHartModel_half (ms_set_length (ms_set_bits y (hf_Memory_read z 5 (hs_place z))) 4) (ms_place y + 2) = hf_Memory_read z 5 (hs_place z + 2) := by rw [hp]; exact half_eq h' he2 (al_in c4)
    rw [eh2, bits2, t150_4]
    have ew : hf_RiscHart_longFrom (hs_set_behind z ((hs_place z) + 4)) (hf_Memory_read z 5 (hs_place z)) = hf_Memory_read z 5 (hs_place z) ||| (hf_Memory_read z 5 (hs_place z + 2) <<< ((16 : Int32) &&& 31)) := Int32.or_comm _ _
    rw [ew]
    refine s186_long (low3 c3) ?_
    have hD := relD_mk h hm he (hf_Memory_read z 5 (hs_place z) ||| (hf_Memory_read z 5 (hs_place z + 2) <<< ((16 : Int32) &&& 31))) 4 (hs_place z + 4)
    rw [← hp] at hD ⊢
    exact sim_long hD
  · rw [if_neg c3, if_neg c3, bits2, t150_2]
    refine s186_short ?_
    have hD := relD_mk h hm he (hf_Memory_read z 5 (hs_place z)) 2 (hs_place z + 2)
    rw [← hp] at hD ⊢
    exact sim_short hD
theorem step_eq {z : HS} {y : MS} (h : Rel z y) : (hf_RiscHart_carryOutNext z).1 = (mf_RiscHartModel_step y).1 ∧ Rel (hf_RiscHart_carryOutNext z).2 (mf_RiscHartModel_step y).2 := by
  unfold mf_RiscHartModel_step
  exact t10_eq (y := ms_set_met (ms_set_code y 0) 0) h rfl
