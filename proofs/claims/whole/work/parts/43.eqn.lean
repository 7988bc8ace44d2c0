/-! the short instructions: the three quadrants -/
theorem Q0 {z : HS} {y : MS} {w : Int32} (h : RelD z y w) : Sx (hf_RiscHart_shortOfQ0 z w) y (mf_RiscHartModel_zero w (mf_RiscHartModel_part w 13 3)) := by
  have e : mf_RiscHartModel_zero w (mf_RiscHartModel_part w 13 3) = (if hf_ShortForm_f w = 0 then if hf_ShortForm_stackNumber w = 0 then 0 else mf_RiscHartModel_immediate 19 0 (hf_ShortForm_lowNear w) 2 (hf_ShortForm_stackNumber w) else if hf_ShortForm_f w = 2 then mf_RiscHartModel_immediate 3 2 (hf_ShortForm_lowNear w) (hf_ShortForm_highNear w) (hf_ShortForm_nearOffset w) else if hf_ShortForm_f w = 6 then mf_RiscHartModel_store (hf_ShortForm_highNear w) (hf_ShortForm_lowNear w) (hf_ShortForm_nearOffset w) else 0) := rfl
  rw [e]
  unfold hf_RiscHart_shortOfQ0
  obtain ⟨l, hl, el⟩ := lowN w
  obtain ⟨g, hg, eg⟩ := highN w
  have hS := uS w
  have hN := uN w
  rw [el, eg, nI_clamp (n := l) (by omega), nI_clamp (n := g) (by omega), clamp2]
  generalize hf_ShortForm_stackNumber w = s at *
  generalize hf_ShortForm_nearOffset w = v at *
  by_cases c0 : hf_ShortForm_f w = 0
  · rw [if_pos c0, if_pos c0]
    by_cases c1 : s = 0
    · rw [if_pos c1, if_pos c1]; exact Sx_ill h
    · rw [if_neg c1, if_neg c1]; exact S_addi h (d := l) (a := 2) hl (by omega) (u12 hS)
  · rw [if_neg c0, if_neg c0]
    by_cases c2 : hf_ShortForm_f w = 2
    · rw [if_pos c2, if_pos c2]; exact S_lw h hl hg (u12 hN)
    · rw [if_neg c2, if_neg c2]
      by_cases c6 : hf_ShortForm_f w = 6
      · rw [if_pos c6, if_pos c6]
        obtain ⟨m, hm, rfl⟩ := hN
        exact S_sw h hg hl (by omega)
      · rw [if_neg c6, if_neg c6]; exact Sx_ill h
theorem j2 {x : Int32} (h : ∃ j : Nat, j < 2 ∧ x = nI j) : x = 0 ∨ x = 1 := by
  obtain ⟨j, hj, rfl⟩ := h
  rcases (show j = 0 ∨ j = 1 by omega) with rfl | rfl
  · exact Or.inl rfl
  · exact Or.inr rfl
theorem j4 {x : Int32} (h : ∃ j : Nat, j < 4 ∧ x = nI j) : x = 0 ∨ x = 1 ∨ x = 2 ∨ x = 3 := by
  obtain ⟨j, hj, rfl⟩ := h
  rcases (show j = 0 ∨ j = 1 ∨ j = 2 ∨ j = 3 by omega) with rfl | rfl | rfl | rfl
  · exact Or.inl rfl
  · exact Or.inr (Or.inl rfl)
  · exact Or.inr (Or.inr (Or.inl rfl))
  · exact Or.inr (Or.inr (Or.inr rfl))
theorem b12 (w : Int32) : (mf_RiscHartModel_part w 12 1 = 1 ∧ ¬ hf_ShortForm_bit12 w = 0) ∨ (¬ mf_RiscHartModel_part w 12 1 = 1 ∧ hf_ShortForm_bit12 w = 0) := by
  unfold hf_ShortForm_bit12
  rw [part_eq]
  rcases j2 (small_part w 12 1 (by omega)) with e | e
  · right
    rw [show mf_RiscHartModel_part w 12 1 = 0 from e, if_pos rfl]
    exact ⟨by decide, rfl⟩
  · left
    rw [show mf_RiscHartModel_part w 12 1 = 1 from e, if_neg (by decide)]
    exact ⟨rfl, by decide⟩
theorem Q1a {z : HS} {y : MS} {w : Int32} (h : RelD z y w) : Sx (hf_RiscHart_shortArithmetic z w) y (mf_RiscHartModel_four w (hf_ShortForm_number w)) := by
  unfold hf_RiscHart_shortArithmetic mf_RiscHartModel_four
  rw [show (8 : Int32) + mf_RiscHartModel_part w 7 3 = hf_ShortForm_highNear w from rfl, show (8 : Int32) + mf_RiscHartModel_part w 2 3 = hf_ShortForm_lowNear w from rfl, show mf_RiscHartModel_part w 2 5 = hf_ShortForm_b w from rfl, part_eq, part_eq]
  obtain ⟨l, hl, el⟩ := lowN w
  obtain ⟨g, hg, eg⟩ := highN w
  obtain ⟨s, hs, es⟩ := bN w
  have hN := sN w
  rw [el, eg, es, nI_clamp (n := l) (by omega), nI_clamp (n := g) (by omega)]
  generalize hf_ShortForm_number w = v at *
  rcases j4 (small_part w 10 2 (by omega)) with e | e | e | e <;> rw [show mf_RiscHartModel_part w 10 2 = _ from e]
  · simp only [show ((0 : Int32) = 1) = False from by decide, show ((0 : Int32) = 2) = False from by decide, show ((2 : Int32) ≤ 0) = False from by decide, if_true, if_false]
    rcases b12 w with ⟨c1, c2⟩ | ⟨c1, c2⟩
    · rw [if_pos c1, if_neg c2]; exact Sx_ill h
    · rw [if_neg c1, if_pos c2, show nI s ||| ((0 : Int32) <<< ((10 : Int32) &&& 31)) = nI s from Int32.or_zero]
      exact S_srli h hg hg hs
  · simp only [show ((1 : Int32) = 0) = False from by decide, show ((1 : Int32) = 2) = False from by decide, show ((2 : Int32) ≤ 1) = False from by decide, if_true, if_false]
    rcases b12 w with ⟨c1, c2⟩ | ⟨c1, c2⟩
    · rw [if_pos c1, if_neg c2]; exact Sx_ill h
    · rw [if_neg c1, if_pos c2, show nI s ||| ((1 : Int32) <<< ((10 : Int32) &&& 31)) = nI (s + 1 * 2 ^ 10) from or_add (b := 1) 10 (by omega)]
      exact S_srai h hg hg hs
  · rw [if_pos rfl, if_pos rfl]
    exact S_andi h hg hg hN
  · simp only [show ((3 : Int32) = 0) = False from by decide, show ((3 : Int32) = 1) = False from by decide, show ((3 : Int32) = 2) = False from by decide, show ((2 : Int32) ≤ 3) = True from by decide, if_true, if_false]
    rcases b12 w with ⟨c1, c2⟩ | ⟨c1, c2⟩
    · rw [if_pos c1, if_neg c2]; exact Sx_ill h
    · rw [if_neg c1, if_pos c2]
      unfold hf_Arithmetic_ofTwoNear
      rcases j4 (small_part w 5 2 (by omega)) with e | e | e | e <;> rw [show mf_RiscHartModel_part w 5 2 = _ from e]
      · rw [if_pos rfl, if_pos rfl]
        exact S_sub h hg hg hl
      · simp only [show ((1 : Int32) = 0) = False from by decide, show ((1 : Int32) = 2) = False from by decide, if_true, if_false]
        have := S_rr h (f := 4) (by omega) hg hg hl
        rw [show mf_RiscHartModel_reckoned (nI 4) (hs_regs z g) (hs_regs z l) = _ from reck_4 _ _] at this
        exact this
      · simp only [show ((2 : Int32) = 0) = False from by decide, show ((2 : Int32) = 1) = False from by decide, if_true, if_false]
        have := S_rr h (f := 6) (by omega) hg hg hl
        rw [show mf_RiscHartModel_reckoned (nI 6) (hs_regs z g) (hs_regs z l) = _ from reck_6 _ _] at this
        exact this
      · simp only [show ((3 : Int32) = 0) = False from by decide, show ((3 : Int32) = 1) = False from by decide, show ((3 : Int32) = 2) = False from by decide, if_true, if_false]
        have := S_rr h (f := 7) (by omega) hg hg hl
        rw [show mf_RiscHartModel_reckoned (nI 7) (hs_regs z g) (hs_regs z l) = _ from reck_7 _ _] at this
        exact this
theorem Q1 {z : HS} {y : MS} {w : Int32} (h : RelD z y w) : Sx (hf_RiscHart_shortOfQ1 z w) y (mf_RiscHartModel_one w (mf_RiscHartModel_part w 13 3)) := by
  have e : mf_RiscHartModel_one w (mf_RiscHartModel_part w 13 3) = (if hf_ShortForm_f w = 0 then mf_RiscHartModel_immediate 19 0 (hf_ShortForm_d w) (hf_ShortForm_d w) (hf_ShortForm_number w) else if hf_ShortForm_f w = 1 then mf_RiscHartModel_link 1 (hf_ShortForm_offsetJ w) else if hf_ShortForm_f w = 2 then mf_RiscHartModel_immediate 19 0 (hf_ShortForm_d w) 0 (hf_ShortForm_number w) else if hf_ShortForm_f w = 3 then (if hf_ShortForm_d w = 2 then if hf_ShortForm_stackMove w = 0 then 0 else mf_RiscHartModel_immediate 19 0 2 2 (hf_ShortForm_stackMove w) else if hf_ShortForm_number w = 0 then 0 else (((55 : Int32) ||| ((hf_ShortForm_d w) <<< ((7 : Int32) &&& 31))) ||| ((hf_ShortForm_number w) <<< ((12 : Int32) &&& 31)))) else if hf_ShortForm_f w = 4 then mf_RiscHartModel_four w (hf_ShortForm_number w) else if hf_ShortForm_f w = 5 then mf_RiscHartModel_link 0 (hf_ShortForm_offsetJ w) else mf_RiscHartModel_branch (hf_ShortForm_f w - 6) (hf_ShortForm_highNear w) (hf_ShortForm_offsetT w)) := rfl
  rw [e]
  unfold hf_RiscHart_shortOfQ1 hf_RiscHart_shortMoveStack hf_RiscHart_shortUpperNumber
  have hA := Q1a h
  obtain ⟨d, hd, ed⟩ := dN w
  obtain ⟨g, hg, eg⟩ := highN w
  have hN := sN w
  have hM := sM w
  obtain ⟨j, hj, je, jr, ej⟩ := sJ w
  obtain ⟨t, ht, te, tr, et⟩ := sT w
  rw [ed, eg, ej, et, nI_clamp (n := d) (by omega), nI_clamp (n := g) (by omega), clamp2]
  generalize hf_ShortForm_number w = v at *
  generalize hf_ShortForm_stackMove w = m at *
  rcases j8 (small_part w 13 3 (by omega)) with e | e | e | e | e | e | e | e <;> rw [show hf_ShortForm_f w = _ from e]
  · simp only [show ((0 : Int32) = 1) = False from by decide, show ((0 : Int32) = 2) = False from by decide, show ((0 : Int32) = 3) = False from by decide, show ((0 : Int32) = 4) = False from by decide, show ((0 : Int32) = 5) = False from by decide, show ((0 : Int32) = 6) = False from by decide, if_true, if_false]; exact S_addi h hd hd hN
  · simp only [show ((1 : Int32) = 0) = False from by decide, show ((1 : Int32) = 2) = False from by decide, show ((1 : Int32) = 3) = False from by decide, show ((1 : Int32) = 4) = False from by decide, show ((1 : Int32) = 5) = False from by decide, show ((1 : Int32) = 6) = False from by decide, if_true, if_false]; exact S_jal h (d := 1) (by omega) hj je jr
  · simp only [show ((2 : Int32) = 0) = False from by decide, show ((2 : Int32) = 1) = False from by decide, show ((2 : Int32) = 3) = False from by decide, show ((2 : Int32) = 4) = False from by decide, show ((2 : Int32) = 5) = False from by decide, show ((2 : Int32) = 6) = False from by decide, if_true, if_false]
    have := S_addi h hd (a := 0) (by omega) hN
    rw [h.1.2.1, Int32.zero_add] at this
    exact this
  · simp only [show ((3 : Int32) = 0) = False from by decide, show ((3 : Int32) = 1) = False from by decide, show ((3 : Int32) = 2) = False from by decide, show ((3 : Int32) = 4) = False from by decide, show ((3 : Int32) = 5) = False from by decide, show ((3 : Int32) = 6) = False from by decide, if_true, if_false]
    by_cases c : nI d = 2
    · rw [if_pos c, if_pos c]
      by_cases c1 : m = 0
      · rw [if_pos c1, if_pos c1]; exact Sx_ill h
      · rw [if_neg c1, if_neg c1]; exact S_addi h (d := 2) (a := 2) (by omega) (by omega) hM
    · rw [if_neg c, if_neg c]
      by_cases c1 : v = 0
      · rw [if_pos c1, if_pos c1]; exact Sx_ill h
      · rw [if_neg c1, if_neg c1]; exact S_lui h hd v
  · simp only [show ((4 : Int32) = 0) = False from by decide, show ((4 : Int32) = 1) = False from by decide, show ((4 : Int32) = 2) = False from by decide, show ((4 : Int32) = 3) = False from by decide, show ((4 : Int32) = 5) = False from by decide, show ((4 : Int32) = 6) = False from by decide, if_true, if_false]; exact hA
  · simp only [show ((5 : Int32) = 0) = False from by decide, show ((5 : Int32) = 1) = False from by decide, show ((5 : Int32) = 2) = False from by decide, show ((5 : Int32) = 3) = False from by decide, show ((5 : Int32) = 4) = False from by decide, show ((5 : Int32) = 6) = False from by decide, if_true, if_false]; exact S_jal h (d := 0) (by omega) hj je jr
  · simp only [show ((6 : Int32) = 0) = False from by decide, show ((6 : Int32) = 1) = False from by decide, show ((6 : Int32) = 2) = False from by decide, show ((6 : Int32) = 3) = False from by decide, show ((6 : Int32) = 4) = False from by decide, show ((6 : Int32) = 5) = False from by decide, if_false, if_true, show (6 : Int32) - 6 = 0 from by decide]
    exact S_bz h hg ht te tr
  · simp only [show ((7 : Int32) = 0) = False from by decide, show ((7 : Int32) = 1) = False from by decide, show ((7 : Int32) = 2) = False from by decide, show ((7 : Int32) = 3) = False from by decide, show ((7 : Int32) = 4) = False from by decide, show ((7 : Int32) = 5) = False from by decide, show ((7 : Int32) = 6) = False from by decide, if_false, if_true, show (7 : Int32) - 6 = 1 from by decide]
    exact S_bnz h hg ht te tr
theorem S_brk {z : HS} {y : MS} {w : Int32} (h : RelD z y w) : Sx (hf_RiscHart_trap z 4 0) y 1048691 := by
  unfold Sx
  rw [if_neg (by decide), carry_brk]
  exact sim_trap h 4 0 (by decide)
theorem t33_eq (w f d b v4 : Int32) : mf_RiscHartModel_two_t33 w f d b v4 = if f = 0 then (if v4 = 0 then mf_RiscHartModel_immediate 19 1 d d b else 0) else if f = 2 then (if d = 0 then 0 else mf_RiscHartModel_immediate 3 2 d 2 (hf_ShortForm_stackLoadOffset w)) else if f = 6 then mf_RiscHartModel_store 2 b (hf_ShortForm_stackStoreOffset w) else if f = 4 then (if b ≤ 0 then (if d = 0 then (if v4 = 0 then 0 else 1048691) else if v4 = 0 then mf_RiscHartModel_immediate 103 0 0 d 0 else mf_RiscHartModel_immediate 103 0 1 d 0) else if v4 = 0 then mf_RiscHartModel_registers 0 0 d 0 b else mf_RiscHartModel_registers 0 0 d d b) else 0 := rfl
theorem Q2 {z : HS} {y : MS} {w : Int32} (h : RelD z y w) : Sx (hf_RiscHart_shortOfQ2 z w) y (mf_RiscHartModel_two w (mf_RiscHartModel_part w 13 3)) := by
  obtain ⟨v4, e4, c4⟩ : ∃ v4 : Int32, mf_RiscHartModel_two w (mf_RiscHartModel_part w 13 3) = mf_RiscHartModel_two_t33 w (hf_ShortForm_f w) (hf_ShortForm_d w) (hf_ShortForm_b w) v4 ∧ (v4 = 0 ↔ hf_ShortForm_bit12 w = 0) := by
    unfold mf_RiscHartModel_two
    rcases b12 w with ⟨c1, c2⟩ | ⟨c1, c2⟩
    · rw [if_pos c1]; exact ⟨1, rfl, ⟨fun q => absurd q (by decide), fun q => absurd q c2⟩⟩
    · rw [if_neg c1]; exact ⟨0, rfl, ⟨fun _ => c2, fun _ => rfl⟩⟩
  rw [e4, t33_eq]
  unfold hf_RiscHart_shortOfQ2 hf_RiscHart_shortJumpToRegister hf_RiscHart_shortMoveOrAdd
  obtain ⟨d, hd, ed⟩ := dN w
  obtain ⟨b, hb, eb⟩ := bN w
  have hL := uL w
  obtain ⟨p, hp, ep⟩ := uP w
  have hb0 : nI b ≤ 0 ↔ nI b = 0 := by
    have := part_le0 w 2 5 (by omega)
    rw [show mf_RiscHartModel_part w 2 (nI 5) = nI b from eb] at this
    exact this
  rw [ed, eb, ep, nI_clamp (n := d) (by omega), nI_clamp (n := b) (by omega), clamp2]
  generalize hf_ShortForm_stackLoadOffset w = v at *
  generalize hf_ShortForm_bit12 w = t at *
  generalize hf_ShortForm_f w = f at *
  by_cases c0 : f = 0
  · rw [if_pos c0, if_pos c0]
    by_cases c : t = 0
    · rw [if_pos c, if_pos (c4.mpr c)]; exact S_slli h hd hd hb
    · rw [if_neg c, if_neg (fun q => c (c4.mp q))]; exact Sx_ill h
  · rw [if_neg c0, if_neg c0]
    by_cases c2 : f = 2
    · rw [if_pos c2, if_pos c2]
      by_cases cd : nI d = 0
      · rw [if_pos cd, if_pos cd]; exact Sx_ill h
      · rw [if_neg cd, if_neg cd]; exact S_lw h hd (a := 2) (by omega) (u12 hL)
    · rw [if_neg c2, if_neg c2]
      by_cases c6 : f = 4
      · rw [if_pos c6, if_neg (show ¬ f = 6 by rw [c6]; decide), if_pos c6]
        by_cases cb : nI b = 0
        · rw [if_pos cb, if_pos (hb0.mpr cb)]
          by_cases cd : nI d = 0
          · rw [if_pos cd, if_pos cd]
            by_cases c : t = 0
            · rw [if_pos c, if_pos (c4.mpr c)]; exact Sx_ill h
            · rw [if_neg c, if_neg (fun q => c (c4.mp q))]; exact S_brk h
          · rw [if_neg cd, if_neg cd]
            by_cases c : t = 0
            · rw [if_pos c, if_pos (c4.mpr c)]; exact S_jalr h (d := 0) (by omega) hd
            · rw [if_neg c, if_neg (fun q => c (c4.mp q))]; exact S_jalr h (d := 1) (by omega) hd
        · rw [if_neg cb, if_neg (fun q => cb (hb0.mp q))]
          by_cases c : t = 0
          · rw [if_pos c, if_pos (c4.mpr c)]
            have := S_rr h (f := 0) (by omega) hd (a := 0) (by omega) hb
            rw [show mf_RiscHartModel_reckoned (nI 0) (hs_regs z 0) (hs_regs z b) = _ from reck_0 _ _, h.1.2.1, Int32.zero_add] at this
            exact this
          · rw [if_neg c, if_neg (fun q => c (c4.mp q))]
            have := S_rr h (f := 0) (by omega) hd hd hb
            rw [show mf_RiscHartModel_reckoned (nI 0) (hs_regs z d) (hs_regs z b) = _ from reck_0 _ _] at this
            exact this
      · rw [if_neg c6, if_neg c6]
        by_cases c7 : f = 6
        · rw [if_pos c7, if_pos c7]; exact S_sw h (a := 2) (by omega) hb (by omega)
        · rw [if_neg c7, if_neg c7]; exact Sx_ill h
theorem sim_short {z : HS} {y : MS} {w : Int32} (h : RelD z y w) : Sx (hf_RiscHart_carryOutShort z w) y (mf_RiscHartModel_expand w) := by
  unfold hf_RiscHart_carryOutShort mf_RiscHartModel_expand
  rw [q_eq]
  by_cases c0 : w &&& 3 = 0
  · rw [if_pos c0, if_pos c0]; exact Q0 h
  · rw [if_neg c0, if_neg c0]
    by_cases c1 : w &&& 3 = 1
    · rw [if_pos c1, if_pos c1]; exact Q1 h
    · rw [if_neg c1, if_neg c1]; exact Q2 h
