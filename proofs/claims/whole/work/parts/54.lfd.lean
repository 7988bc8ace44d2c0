theorem no_poke {a1 : Int32} (h : (((hf_Memory_holds a1) = 0))) : ¬ ((¬ (hf_Memory_holds a1) = 0)) := by
  intro q
  have hn1 := h
  · exact q hn1
theorem sp_poke {a1 : Int32} (h : ¬ ((¬ (hf_Memory_holds a1) = 0))) : (((hf_Memory_holds a1) = 0)) := by
  by_cases hn1 : (hf_Memory_holds a1) = 0
  · exact hn1
  exact absurd hn1 h
theorem no_plant {a1 : Int32} (h : (((hf_Memory_holds a1) = 0)) ∨ ((¬ (hf_Memory_holds a1) = 0) ∧ (¬ (hf_Memory_isMisaligned 2 a1) = 0))) : ¬ ((¬ (hf_Memory_holds a1) = 0) ∧ ((hf_Memory_isMisaligned 2 a1) = 0)) := by
  intro q
  rcases h with hn1 | ⟨hn1, hn2⟩
  · exact q.1 hn1
  · exact hn2 q.2
theorem sp_plant {a1 : Int32} (h : ¬ ((¬ (hf_Memory_holds a1) = 0) ∧ ((hf_Memory_isMisaligned 2 a1) = 0))) : (((hf_Memory_holds a1) = 0)) ∨ ((¬ (hf_Memory_holds a1) = 0) ∧ (¬ (hf_Memory_isMisaligned 2 a1) = 0)) := by
  by_cases hn1 : (hf_Memory_holds a1) = 0
  · exact Or.inl hn1
  by_cases hn2 : (hf_Memory_isMisaligned 2 a1) = 0
  rotate_left
  · exact Or.inr (⟨hn1, hn2⟩)
  exact absurd ⟨hn1, hn2⟩ h
theorem no_peek {a1 : Int32} (h : (((hf_Memory_holds a1) = 0))) : ¬ ((¬ (hf_Memory_holds a1) = 0)) := by
  intro q
  have hn1 := h
  · exact q hn1
theorem sp_peek {a1 : Int32} (h : ¬ ((¬ (hf_Memory_holds a1) = 0))) : (((hf_Memory_holds a1) = 0)) := by
  by_cases hn1 : (hf_Memory_holds a1) = 0
  · exact hn1
  exact absurd hn1 h
theorem no_rights {a1 a2 : Int32} (h : ((a1 < 0)) ∨ ((¬ a1 < 0) ∧ (¬ a1 < 64)) ∨ ((¬ a1 < 0) ∧ (a1 < 64) ∧ (a2 < 0)) ∨ ((¬ a1 < 0) ∧ (a1 < 64) ∧ (¬ a2 < 0) ∧ (¬ a2 ≤ 7))) : ¬ ((¬ a1 < 0) ∧ (a1 < 64) ∧ (¬ a2 < 0) ∧ (a2 ≤ 7)) := by
  intro q
  rcases h with hn1 | ⟨hn1, hn2⟩ | ⟨hn1, hn2, hn3⟩ | ⟨hn1, hn2, hn3, hn4⟩
  · exact q.1 hn1
  · exact hn2 q.2.1
  · exact q.2.2.1 hn3
  · exact hn4 q.2.2.2
theorem sp_rights {a1 a2 : Int32} (h : ¬ ((¬ a1 < 0) ∧ (a1 < 64) ∧ (¬ a2 < 0) ∧ (a2 ≤ 7))) : ((a1 < 0)) ∨ ((¬ a1 < 0) ∧ (¬ a1 < 64)) ∨ ((¬ a1 < 0) ∧ (a1 < 64) ∧ (a2 < 0)) ∨ ((¬ a1 < 0) ∧ (a1 < 64) ∧ (¬ a2 < 0) ∧ (¬ a2 ≤ 7)) := by
  by_cases hn1 : a1 < 0
  · exact Or.inl hn1
  by_cases hn2 : a1 < 64
  rotate_left
  · exact Or.inr (Or.inl ⟨hn1, hn2⟩)
  by_cases hn3 : a2 < 0
  · exact Or.inr (Or.inr (Or.inl ⟨hn1, hn2, hn3⟩))
  by_cases hn4 : a2 ≤ 7
  rotate_left
  · exact Or.inr (Or.inr (Or.inr (⟨hn1, hn2, hn3, hn4⟩)))
  exact absurd ⟨hn1, hn2, hn3, hn4⟩ h
theorem no_set {a1 : Int32} (h : ((a1 < 0)) ∨ ((¬ a1 < 0) ∧ (¬ a1 < 32))) : ¬ ((¬ a1 < 0) ∧ (a1 < 32)) := by
  intro q
  rcases h with hn1 | ⟨hn1, hn2⟩
  · exact q.1 hn1
  · exact hn2 q.2
theorem sp_set {a1 : Int32} (h : ¬ ((¬ a1 < 0) ∧ (a1 < 32))) : ((a1 < 0)) ∨ ((¬ a1 < 0) ∧ (¬ a1 < 32)) := by
  by_cases hn1 : a1 < 0
  · exact Or.inl hn1
  by_cases hn2 : a1 < 32
  rotate_left
  · exact Or.inr (⟨hn1, hn2⟩)
  exact absurd ⟨hn1, hn2⟩ h
theorem no_register {a1 : Int32} (h : ((a1 < 0)) ∨ ((¬ a1 < 0) ∧ (¬ a1 < 32))) : ¬ ((¬ a1 < 0) ∧ (a1 < 32)) := by
  intro q
  rcases h with hn1 | ⟨hn1, hn2⟩
  · exact q.1 hn1
  · exact hn2 q.2
theorem sp_register {a1 : Int32} (h : ¬ ((¬ a1 < 0) ∧ (a1 < 32))) : ((a1 < 0)) ∨ ((¬ a1 < 0) ∧ (¬ a1 < 32)) := by
  by_cases hn1 : a1 < 0
  · exact Or.inl hn1
  by_cases hn2 : a1 < 32
  rotate_left
  · exact Or.inr (⟨hn1, hn2⟩)
  exact absurd ⟨hn1, hn2⟩ h
theorem no_count {a1 : Int32} (h : ((¬ a1 = 0) ∧ (¬ a1 = 1) ∧ (¬ a1 = 2) ∧ (¬ a1 = 3) ∧ (¬ a1 = 4))) : ¬ five a1 := fun q => q.elim h.1 (fun q => q.elim h.2.1 (fun q => q.elim h.2.2.1 (fun q => q.elim h.2.2.2.1 h.2.2.2.2)))
theorem sp_count {a1 : Int32} (h : ¬ five a1) : ((¬ a1 = 0) ∧ (¬ a1 = 1) ∧ (¬ a1 = 2) ∧ (¬ a1 = 3) ∧ (¬ a1 = 4)) := ⟨fun q => h (Or.inl q), fun q => h (Or.inr (Or.inl q)), fun q => h (Or.inr (Or.inr (Or.inl q))), fun q => h (Or.inr (Or.inr (Or.inr (Or.inl q)))), fun q => h (Or.inr (Or.inr (Or.inr (Or.inr q))))⟩
theorem no_run {a1 : Int32} (h : ((a1 < 0)) ∨ ((¬ a1 < 0) ∧ (¬ a1 ≤ 2000))) : ¬ ((¬ a1 < 0) ∧ (a1 ≤ 2000)) := by
  intro q
  rcases h with hn1 | ⟨hn1, hn2⟩
  · exact q.1 hn1
  · exact hn2 q.2
theorem sp_run {a1 : Int32} (h : ¬ ((¬ a1 < 0) ∧ (a1 ≤ 2000))) : ((a1 < 0)) ∨ ((¬ a1 < 0) ∧ (¬ a1 ≤ 2000)) := by
  by_cases hn1 : a1 < 0
  · exact Or.inl hn1
  by_cases hn2 : a1 ≤ 2000
  rotate_left
  · exact Or.inr (⟨hn1, hn2⟩)
  exact absurd ⟨hn1, hn2⟩ h
abbrev wo_W (cR cW cP cO : ClassId) (h0 h1 h2 h3 h4 o0 : Nat) (z : HS) (f : Nat → Int64) : va_W := [(h0, .inr (0, [.ref h1, .ref h2, .int (hs_place z), .int (hs_behind z), .int (hs_cause z), .int (hs_value z), .long (hs_retired z), .long (hs_time z)])), (h1, .inr (1, [.ref h3, .ref h4, .int (hs_reserved z)])), (h2, .inl (cR, 32, .inl (hs_regs z))), (h3, .inl (cW, 16384, .inl (hs_words z))), (h4, .inl (cP, 64, .inl (hs_rights z))), (o0, .inl (cO, 1, .inr (.inl f)))]
def AH (h0 h1 h2 h3 h4 : Nat) : Nat → Prop := fun q => q = h0 ∨ q = h1 ∨ q = h2 ∨ q = h3 ∨ q = h4
theorem dk_of {A B : Nat → Prop} {ws ws' : va_W} (h : va_D A ws) (e : ws'.map (·.1) = ws.map (·.1)) (hB : ∀ a ∈ ws'.map (·.1), B a) : va_D B ws' := by
  have key : ∀ (k : Nat) (q : Nat × va_E), ws'[k]? = some q → ∃ q0, ws[k]? = some q0 ∧ q0.1 = q.1 := by
    intro k q hk
    have h1 : (ws'.map (·.1))[k]? = some q.1 := by rw [List.getElem?_map, hk]; rfl
    rw [e, List.getElem?_map] at h1
    cases h2 : ws[k]? with
    | none => rw [h2] at h1; cases h1
    | some q0 => rw [h2] at h1; exact ⟨q0, rfl, Option.some.inj h1⟩
  refine ⟨fun i j p q hp hq hpq => ?_, fun k q hk => hB _ (List.mem_map.mpr ⟨q, List.mem_of_getElem? hk, rfl⟩)⟩
  obtain ⟨p0, p1, p2⟩ := key i p hp
  obtain ⟨q0, q1, q2⟩ := key j q hq
  exact h.1 i j p0 q0 p1 q1 (by rw [p2, q2]; exact hpq)
theorem AH_of {A : Nat → Prop} {cR cW cP : ClassId} {h0 h1 h2 h3 h4 : Nat} {z : HS} (h : va_D A (hs_W cR cW cP h0 h1 h2 h3 h4 z)) (y : HS) : va_D (AH h0 h1 h2 h3 h4) (hs_W cR cW cP h0 h1 h2 h3 h4 y) := by
  refine dk_of h rfl (fun a ha => ?_)
  simp only [List.map_cons, List.map_nil, List.mem_cons, List.not_mem_nil, or_false] at ha
  exact ha
theorem wo_hs {A : Nat → Prop} {cR cW cP cO : ClassId} {h0 h1 h2 h3 h4 o0 : Nat} {z : HS} {f : Nat → Int64} (h : va_D A (wo_W cR cW cP cO h0 h1 h2 h3 h4 o0 z f)) : va_D A (hs_W cR cW cP h0 h1 h2 h3 h4 z) := h.sub [0, 1, 2, 3, 4] (by decide) rfl
theorem wo_no {A : Nat → Prop} {cR cW cP cO : ClassId} {h0 h1 h2 h3 h4 o0 : Nat} {z : HS} {f : Nat → Int64} (h : va_D A (wo_W cR cW cP cO h0 h1 h2 h3 h4 o0 z f)) : ¬ AH h0 h1 h2 h3 h4 o0 := by
  rintro (q | q | q | q | q)
  · exact absurd (h.1 5 0 _ _ rfl rfl q) (by decide)
  · exact absurd (h.1 5 1 _ _ rfl rfl q) (by decide)
  · exact absurd (h.1 5 2 _ _ rfl rfl q) (by decide)
  · exact absurd (h.1 5 3 _ _ rfl rfl q) (by decide)
  · exact absurd (h.1 5 4 _ _ rfl rfl q) (by decide)
theorem wo_A {A : Nat → Prop} {cR cW cP cO : ClassId} {h0 h1 h2 h3 h4 o0 : Nat} {z : HS} {f : Nat → Int64} (h : va_D A (wo_W cR cW cP cO h0 h1 h2 h3 h4 o0 z f)) {q : Nat} (hq : AH h0 h1 h2 h3 h4 q) : A q := by
  rcases hq with rfl | rfl | rfl | rfl | rfl
  · exact h.2 0 _ rfl
  · exact h.2 1 _ rfl
  · exact h.2 2 _ rfl
  · exact h.2 3 _ rfl
  · exact h.2 4 _ rfl
theorem wo_join {D : va_G} {A : Nat → Prop} {cR cW cP cO : ClassId} {h0 h1 h2 h3 h4 o0 : Nat} {z u : HS} {f : Nat → Int64} {H H1 : Heap} (hP : va_P D hcl (wo_W cR cW cP cO h0 h1 h2 h3 h4 o0 z f) H) (hD : va_D A (wo_W cR cW cP cO h0 h1 h2 h3 h4 o0 z f)) (hB1 : va_P D hcl (hs_W cR cW cP h0 h1 h2 h3 h4 u) H1) (hk : ∀ q : Nat, q < H.size → ¬ AH h0 h1 h2 h3 h4 q → H1[q]? = H[q]?) : va_P D hcl (wo_W cR cW cP cO h0 h1 h2 h3 h4 o0 u f) H1 := by
  have hO : va_P D hcl [(o0, .inl (cO, 1, .inr (.inl f)))] H := hP.sub [5] rfl
  exact va_P.app hB1 (hO.kept (fun k q hq => by
    cases k with
    | zero => cases hq; exact hk o0 (hO 0 _ rfl).lt (wo_no hD)
    | succ k => cases k <;> cases hq))
def lf_poke (z : HS) (a1 a2 : Int32) : Int32 × HS := if (¬ (hf_Memory_holds a1) = 0) then (0, hf_Memory_write z 0 a1 a2) else (1, z)
def lf_plant (z : HS) (a1 a2 : Int32) : Int32 × HS := if (¬ (hf_Memory_holds a1) = 0) ∧ ((hf_Memory_isMisaligned 2 a1) = 0) then (0, hf_Memory_write z 2 a1 a2) else (1, z)
def lf_peek (z : HS) (f : Nat → Int64) (a1 : Int32) : Int32 × (HS × (Nat → Int64)) := if (¬ (hf_Memory_holds a1) = 0) then (0, (z, vp_updL f 0 (hf_Memory_read z 4 a1).toInt64)) else (1, (z, f))
def lf_rights (z : HS) (f : Nat → Int64) (a1 : Int32) (a2 : Int32) : Int32 × (HS × (Nat → Int64)) := if (¬ a1 < 0) ∧ (a1 < 64) ∧ (¬ a2 < 0) ∧ (a2 ≤ 7) then (0, ((hf_Memory_exchangeRights z a1 a2).2, vp_updL f 0 ((hf_Memory_exchangeRights z a1 a2).1).toInt64)) else (1, (z, f))
def lf_register (z : HS) (f : Nat → Int64) (a1 : Int32) : Int32 × (HS × (Nat → Int64)) := if (¬ a1 < 0) ∧ (a1 < 32) then (0, (z, vp_updL f 0 (hs_regs z a1.toNatClampNeg).toInt64)) else (1, (z, f))
def lf_run (z : HS) (f : Nat → Int64) (a1 : Int32) : Int32 × (HS × (Nat → Int64)) := if (¬ a1 < 0) ∧ (a1 ≤ 2000) then (0, ((hf_run z a1).2, vp_updL f 0 ((hf_run z a1).1).toInt64)) else (1, (z, f))
def lf_set (z : HS) (f : Nat → Int64) (a1 a2 : Int32) : Int32 × (HS × (Nat → Int64)) := if (¬ a1 < 0) ∧ (a1 < 32) then (0, ((hf_RiscHart_give z a1 a2).2, vp_updL f 0 (if a1 = 0 then 0 else 1))) else (1, (z, f))
def lf_count (z : HS) (f : Nat → Int64) (a1 : Int32) : Int32 × (HS × (Nat → Int64)) := if five a1 then (0, (z, vp_updL f 0 (hf_count z a1))) else (1, (z, f))
