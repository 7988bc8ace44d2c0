/-! counters, atomic ones -/
theorem part_le0 (w lo : Int32) (k : Nat) (hk : k < 31) : mf_RiscHartModel_part w lo (nI k) ≤ 0 ↔ mf_RiscHartModel_part w lo (nI k) = 0 := by
  obtain ⟨j, hj, e⟩ := small_part w lo k hk
  have h31 : j < 2 ^ 31 := Nat.lt_trans hj (Nat.pow_lt_pow_right (by omega) hk)
  rw [e]
  by_cases h : j = 0
  · subst h; exact ⟨fun _ => nI_0, fun _ => by decide⟩
  · exact ⟨fun q => absurd q (nI_nle (by omega) h31), fun q => absurd q (nI_ne0 (by omega) h31)⟩
theorem a_le0 (w : Int32) : mf_RiscHartModel_part w 15 5 ≤ 0 ↔ mf_RiscHartModel_part w 15 5 = 0 := part_le0 w 15 5 (by omega)
theorem b_le0 (w : Int32) : mf_RiscHartModel_part w 20 5 ≤ 0 ↔ mf_RiscHartModel_part w 20 5 = 0 := part_le0 w 20 5 (by omega)
def mcnt (y : MS) (w f N : Int32) : Int32 × MS := if N = 3072 then mf_RiscHartModel_system_t110 y w f N 1 else if N = 3073 then mf_RiscHartModel_system_t110 y w f N 1 else if N = 3074 then mf_RiscHartModel_system_t110 y w f N 1 else if N = 3200 then mf_RiscHartModel_system_t110 y w f N 1 else if N = 3201 then mf_RiscHartModel_system_t110 y w f N 1 else if N = 3202 then mf_RiscHartModel_system_t110 y w f N 1 else mf_RiscHartModel_system_t110 y w f N 0
theorem sys_eq (y : MS) (w f : Int32) : mf_RiscHartModel_system y w f = if w = 115 then mf_RiscHartModel_trap y 3 0 else if w = 1048691 then mf_RiscHartModel_trap y 4 0 else if f < 2 then mf_RiscHartModel_illegal y else if f = 4 then mf_RiscHartModel_illegal y else if f = 5 then mf_RiscHartModel_illegal y else if mf_RiscHartModel_part w 15 5 ≤ 0 then mcnt y w f (ja_ushr w 20) else mf_RiscHartModel_illegal y := rfl
theorem cnt_out {z : HS} {y : MS} {w : Int32} (h : RelD z y w) (f : Int32) : Out (hf_RiscHart_readCounter z w).1 (hf_RiscHart_readCounter z w).2 (mf_RiscHartModel_give (mcnt y w f (ja_ushr w 20)).2 (hf_LongForm_d w) (mcnt y w f (ja_ushr w 20)).1) := by
  have hd := in_LongForm_d w
  have hR : ms_retired y = hs_retired z := h.1.2.2.2.2.2.2.2.2.1
  have hT : ms_clock y = hs_time z := h.1.2.2.2.2.2.2.2.2.2.1
  unfold hf_RiscHart_readCounter mcnt
  generalize ja_ushr w 20 = N
  by_cases e0 : N = 3072
  · subst e0
    simp only [if_true]
    rw [show mf_RiscHartModel_system_t110 y w f 3072 1 = ((hs_retired z).toInt32, y) by rw [← hR]; unfold mf_RiscHartModel_system_t110 mf_RiscHartModel_system_t130; rw [if_neg (by decide), if_neg (by decide), if_neg (by decide)]]
    exact sim_give h _ _ hd
  · simp only [e0, if_false]
    by_cases e1 : N = 3073
    · subst e1
      simp only [if_true]
      rw [show mf_RiscHartModel_system_t110 y w f 3073 1 = ((hs_time z).toInt32, y) by rw [← hT]; unfold mf_RiscHartModel_system_t110 mf_RiscHartModel_system_t130; rw [if_pos (by decide), if_neg (by decide), if_neg (by decide)]]
      exact sim_give h _ _ hd
    · simp only [e1, if_false]
      by_cases e2 : N = 3074
      · subst e2
        simp only [if_true]
        rw [show mf_RiscHartModel_system_t110 y w f 3074 1 = ((hs_retired z).toInt32, y) by rw [← hR]; unfold mf_RiscHartModel_system_t110 mf_RiscHartModel_system_t130; rw [if_neg (by decide), if_neg (by decide), if_neg (by decide)]]
        exact sim_give h _ _ hd
      · simp only [e2, if_false]
        by_cases e3 : N = 3200
        · subst e3
          simp only [if_true]
          rw [show mf_RiscHartModel_system_t110 y w f 3200 1 = ((ja_lushr (hs_retired z) 32).toInt32, y) by rw [← hR, sh32]; unfold mf_RiscHartModel_system_t110 mf_RiscHartModel_system_t130; rw [if_neg (by decide), if_neg (by decide), if_pos (by decide)]]
          exact sim_give h _ _ hd
        · simp only [e3, if_false]
          by_cases e4 : N = 3201
          · subst e4
            simp only [if_true]
            rw [show mf_RiscHartModel_system_t110 y w f 3201 1 = ((ja_lushr (hs_time z) 32).toInt32, y) by rw [← hT, sh32]; unfold mf_RiscHartModel_system_t110 mf_RiscHartModel_system_t130; rw [if_pos (by decide), if_neg (by decide), if_pos (by decide)]]
            exact sim_give h _ _ hd
          · simp only [e4, if_false]
            by_cases e5 : N = 3202
            · subst e5
              simp only [if_true]
              rw [show mf_RiscHartModel_system_t110 y w f 3202 1 = ((ja_lushr (hs_retired z) 32).toInt32, y) by rw [← hR, sh32]; unfold mf_RiscHartModel_system_t110 mf_RiscHartModel_system_t130; rw [if_neg (by decide), if_neg (by decide), if_pos (by decide)]]
              exact sim_give h _ _ hd
            · simp only [e5, if_false]
              have e : mf_RiscHartModel_system_t110 y w f N 0 = mf_RiscHartModel_illegal y := by
                unfold mf_RiscHartModel_system_t110 mf_RiscHartModel_system_t130
                split <;> rw [if_pos rfl]
              rw [e]
              exact give_ill h (hf_LongForm_d w) (mf_RiscHartModel_illegal y).1
theorem L_sys {z : HS} {y : MS} {w : Int32} (h : RelD z y w) : Out (hf_RiscHart_longSystem z w).1 (hf_RiscHart_longSystem z w).2 (mf_RiscHartModel_give (mf_RiscHartModel_system y w (hf_LongForm_f w)).2 (hf_LongForm_d w) (mf_RiscHartModel_system y w (hf_LongForm_f w)).1) := by
  rw [sys_eq]
  unfold hf_RiscHart_longSystem
  by_cases e0 : w = 115
  · rw [if_pos e0, if_pos e0, give_trapped _ _ (by show ¬ (3 : Int32) = 0; decide)]; exact sim_trap h 3 0 (by decide)
  · rw [if_neg e0, if_neg e0]
    by_cases e1 : w = 1048691
    · rw [if_pos e1, if_pos e1, give_trapped _ _ (by show ¬ (4 : Int32) = 0; decide)]; exact sim_trap h 4 0 (by decide)
    · rw [if_neg e1, if_neg e1]
      have ill := give_ill h (hf_LongForm_d w) (mf_RiscHartModel_illegal y).1
      have hc : ∀ f : Int32, Out (if hf_LongForm_a w = 0 then hf_RiscHart_readCounter z w else hf_RiscHart_trap z 2 w).1 (if hf_LongForm_a w = 0 then hf_RiscHart_readCounter z w else hf_RiscHart_trap z 2 w).2 (mf_RiscHartModel_give (if mf_RiscHartModel_part w 15 5 ≤ 0 then mcnt y w f (ja_ushr w 20) else mf_RiscHartModel_illegal y).2 (hf_LongForm_d w) (if mf_RiscHartModel_part w 15 5 ≤ 0 then mcnt y w f (ja_ushr w 20) else mf_RiscHartModel_illegal y).1) := by
        intro f
        by_cases ha : hf_LongForm_a w = 0
        · rw [if_pos ha, if_pos ((a_le0 w).mpr ha)]; exact cnt_out h f
        · rw [if_neg ha, if_neg (fun q => ha ((a_le0 w).mp q))]; exact ill
      rcases f8 w with e | e | e | e | e | e | e | e <;> rw [e]
      · rw [if_pos (show (0 : Int32) &&& 2 = 0 by decide), if_pos (show (0 : Int32) < 2 by decide)]; exact ill
      · rw [if_pos (show (1 : Int32) &&& 2 = 0 by decide), if_pos (show (1 : Int32) < 2 by decide)]; exact ill
      · rw [if_neg (show ¬ (2 : Int32) &&& 2 = 0 by decide), if_neg (show ¬ (2 : Int32) < 2 by decide), if_neg (show ¬ (2 : Int32) = 4 by decide), if_neg (show ¬ (2 : Int32) = 5 by decide)]; exact hc 2
      · rw [if_neg (show ¬ (3 : Int32) &&& 2 = 0 by decide), if_neg (show ¬ (3 : Int32) < 2 by decide), if_neg (show ¬ (3 : Int32) = 4 by decide), if_neg (show ¬ (3 : Int32) = 5 by decide)]; exact hc 3
      · rw [if_pos (show (4 : Int32) &&& 2 = 0 by decide), if_neg (show ¬ (4 : Int32) < 2 by decide), if_pos (show (4 : Int32) = 4 by decide)]; exact ill
      · rw [if_pos (show (5 : Int32) &&& 2 = 0 by decide), if_neg (show ¬ (5 : Int32) < 2 by decide), if_neg (show ¬ (5 : Int32) = 4 by decide), if_pos (show (5 : Int32) = 5 by decide)]; exact ill
      · rw [if_neg (show ¬ (6 : Int32) &&& 2 = 0 by decide), if_neg (show ¬ (6 : Int32) < 2 by decide), if_neg (show ¬ (6 : Int32) = 4 by decide), if_neg (show ¬ (6 : Int32) = 5 by decide)]; exact hc 6
      · rw [if_neg (show ¬ (7 : Int32) &&& 2 = 0 by decide), if_neg (show ¬ (7 : Int32) < 2 by decide), if_neg (show ¬ (7 : Int32) = 4 by decide), if_neg (show ¬ (7 : Int32) = 5 by decide)]; exact hc 7
