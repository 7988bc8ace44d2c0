/-! the law's world: the hart, the reference, the array of one long -/
abbrev jw (cR cW cP cB cO cX cL : ClassId) (h0 h1 h2 h3 h4 m0 m1 m2 m3 o0 : Nat) (z : HS) (y : MS) (f : Nat → Int64) : va_W := hs_W cR cW cP h0 h1 h2 h3 h4 z ++ ms_W cB cO cX m0 m1 m2 m3 y ++ [(o0, .inl (cL, 1, .inr (.inl f)))]
def AW (h0 h1 h2 h3 h4 o0 : Nat) : Nat → Prop := fun q => q = h0 ∨ q = h1 ∨ q = h2 ∨ q = h3 ∨ q = h4 ∨ q = o0
def AM (m0 m1 m2 m3 : Nat) : Nat → Prop := fun q => q = m0 ∨ q = m1 ∨ q = m2 ∨ q = m3
section
variable {A : Nat → Prop} {D : va_G} {cR cW cP cB cO cX cL : ClassId} {h0 h1 h2 h3 h4 m0 m1 m2 m3 o0 : Nat} {z : HS} {y : MS} {f : Nat → Int64}
theorem jw_H (h : va_D A (jw cR cW cP cB cO cX cL h0 h1 h2 h3 h4 m0 m1 m2 m3 o0 z y f)) (z' : HS) : va_D (AH h0 h1 h2 h3 h4) (hs_W cR cW cP h0 h1 h2 h3 h4 z') :=
  AH_of (z := z) (h.sub [0, 1, 2, 3, 4] (by decide) rfl) z'
theorem jw_O (h : va_D A (jw cR cW cP cB cO cX cL h0 h1 h2 h3 h4 m0 m1 m2 m3 o0 z y f)) (z' : HS) (f' : Nat → Int64) : va_D (AW h0 h1 h2 h3 h4 o0) (wo_W cR cW cP cL h0 h1 h2 h3 h4 o0 z' f') := by
  have h1' : va_D A (wo_W cR cW cP cL h0 h1 h2 h3 h4 o0 z f) := h.sub [0, 1, 2, 3, 4, 9] (by decide) rfl
  refine dk_of h1' rfl (fun a ha => ?_)
  simp only [List.map_cons, List.map_nil, List.mem_cons, List.not_mem_nil, or_false] at ha
  exact ha
theorem jw_M (h : va_D A (jw cR cW cP cB cO cX cL h0 h1 h2 h3 h4 m0 m1 m2 m3 o0 z y f)) (y' : MS) : va_D (AM m0 m1 m2 m3) (ms_W cB cO cX m0 m1 m2 m3 y') := by
  have h1' : va_D A (ms_W cB cO cX m0 m1 m2 m3 y) := h.sub [5, 6, 7, 8] (by decide) rfl
  refine dk_of h1' rfl (fun a ha => ?_)
  simp only [List.map_cons, List.map_nil, List.mem_cons, List.not_mem_nil, or_false] at ha
  exact ha
theorem jw_AH (h : va_D A (jw cR cW cP cB cO cX cL h0 h1 h2 h3 h4 m0 m1 m2 m3 o0 z y f)) {q : Nat} (hq : AH h0 h1 h2 h3 h4 q) : A q := by
  rcases hq with rfl | rfl | rfl | rfl | rfl
  · exact h.2 0 _ rfl
  · exact h.2 1 _ rfl
  · exact h.2 2 _ rfl
  · exact h.2 3 _ rfl
  · exact h.2 4 _ rfl
theorem jw_AW (h : va_D A (jw cR cW cP cB cO cX cL h0 h1 h2 h3 h4 m0 m1 m2 m3 o0 z y f)) {q : Nat} (hq : AW h0 h1 h2 h3 h4 o0 q) : A q := by
  rcases hq with rfl | rfl | rfl | rfl | rfl | rfl
  · exact h.2 0 _ rfl
  · exact h.2 1 _ rfl
  · exact h.2 2 _ rfl
  · exact h.2 3 _ rfl
  · exact h.2 4 _ rfl
  · exact h.2 9 _ rfl
theorem jw_AM (h : va_D A (jw cR cW cP cB cO cX cL h0 h1 h2 h3 h4 m0 m1 m2 m3 o0 z y f)) {q : Nat} (hq : AM m0 m1 m2 m3 q) : A q := by
  rcases hq with rfl | rfl | rfl | rfl
  · exact h.2 5 _ rfl
  · exact h.2 6 _ rfl
  · exact h.2 7 _ rfl
  · exact h.2 8 _ rfl
/-- a place of the world that is none of some -/
theorem ap_ne {ws : va_W} (h : va_D A ws) (i j : Nat) {p q : Nat × va_E} (hi : ws[i]? = some p) (hj : ws[j]? = some q) (hij : i ≠ j) : p.1 ≠ q.1 := fun e => hij (h.1 i j p q hi hj e)
theorem jn_H {H H1 : Heap} {u : HS} (hP : va_P D hcl (jw cR cW cP cB cO cX cL h0 h1 h2 h3 h4 m0 m1 m2 m3 o0 z y f) H) (hD : va_D A (jw cR cW cP cB cO cX cL h0 h1 h2 h3 h4 m0 m1 m2 m3 o0 z y f)) (hB : va_P D hcl (hs_W cR cW cP h0 h1 h2 h3 h4 u) H1) (hk : ∀ q : Nat, q < H.size → ¬ AH h0 h1 h2 h3 h4 q → H1[q]? = H[q]?) :
    va_P D hcl (jw cR cW cP cB cO cX cL h0 h1 h2 h3 h4 m0 m1 m2 m3 o0 u y f) H1 := by
  have key : ∀ i, 5 ≤ i → ∀ q, (jw cR cW cP cB cO cX cL h0 h1 h2 h3 h4 m0 m1 m2 m3 o0 z y f)[i]? = some q → va_at D hcl q H1 := by
    intro i hi q hq
    refine (hP i q hq).kept (hk q.1 (hP i q hq).lt ?_)
    rintro (e | e | e | e | e)
    · exact ap_ne hD i 0 hq rfl (by omega) e
    · exact ap_ne hD i 1 hq rfl (by omega) e
    · exact ap_ne hD i 2 hq rfl (by omega) e
    · exact ap_ne hD i 3 hq rfl (by omega) e
    · exact ap_ne hD i 4 hq rfl (by omega) e
  have hM : va_P D hcl (ms_W cB cO cX m0 m1 m2 m3 y ++ [(o0, .inl (cL, 1, .inr (.inl f)))]) H1 := fun k q hq => key (k + 5) (by omega) q hq
  have h9 := va_P.app hB hM
  rw [← List.append_assoc] at h9
  exact h9
theorem jn_O {H H1 : Heap} {u : HS} {g : Nat → Int64} (hP : va_P D hcl (jw cR cW cP cB cO cX cL h0 h1 h2 h3 h4 m0 m1 m2 m3 o0 z y f) H) (hD : va_D A (jw cR cW cP cB cO cX cL h0 h1 h2 h3 h4 m0 m1 m2 m3 o0 z y f)) (hB : va_P D hcl (wo_W cR cW cP cL h0 h1 h2 h3 h4 o0 u g) H1) (hk : ∀ q : Nat, q < H.size → ¬ AW h0 h1 h2 h3 h4 o0 q → H1[q]? = H[q]?) :
    va_P D hcl (jw cR cW cP cB cO cX cL h0 h1 h2 h3 h4 m0 m1 m2 m3 o0 u y g) H1 := by
  have hM : va_P D hcl (ms_W cB cO cX m0 m1 m2 m3 y) H1 := by
    have hM0 : va_P D hcl (ms_W cB cO cX m0 m1 m2 m3 y) H := hP.sub [5, 6, 7, 8] rfl
    intro k q hq
    have hl : k < 4 := (List.getElem?_eq_some_iff.mp hq).1
    have hq' : (jw cR cW cP cB cO cX cL h0 h1 h2 h3 h4 m0 m1 m2 m3 o0 z y f)[k + 5]? = some q := by
      show (ms_W cB cO cX m0 m1 m2 m3 y ++ [(o0, .inl (cL, 1, .inr (.inl f)))])[k]? = some q
      rw [List.getElem?_append_left hl]
      exact hq
    refine (hM0 k q hq).kept (hk q.1 (hM0 k q hq).lt ?_)
    rintro (e | e | e | e | e | e)
    · exact ap_ne hD (k + 5) 0 hq' rfl (by omega) e
    · exact ap_ne hD (k + 5) 1 hq' rfl (by omega) e
    · exact ap_ne hD (k + 5) 2 hq' rfl (by omega) e
    · exact ap_ne hD (k + 5) 3 hq' rfl (by omega) e
    · exact ap_ne hD (k + 5) 4 hq' rfl (by omega) e
    · exact ap_ne hD (k + 5) 9 hq' rfl (by omega) e
  have hH : va_P D hcl (hs_W cR cW cP h0 h1 h2 h3 h4 u) H1 := hB.sub [0, 1, 2, 3, 4] rfl
  have hO : va_P D hcl [(o0, .inl (cL, 1, .inr (.inl g)))] H1 := hB.sub [5] rfl
  exact va_P.app (va_P.app hH hM) hO
theorem jn_M {H H1 : Heap} {u : MS} (hP : va_P D hcl (jw cR cW cP cB cO cX cL h0 h1 h2 h3 h4 m0 m1 m2 m3 o0 z y f) H) (hD : va_D A (jw cR cW cP cB cO cX cL h0 h1 h2 h3 h4 m0 m1 m2 m3 o0 z y f)) (hB : va_P D hcl (ms_W cB cO cX m0 m1 m2 m3 u) H1) (hk : ∀ q : Nat, q < H.size → ¬ AM m0 m1 m2 m3 q → H1[q]? = H[q]?) :
    va_P D hcl (jw cR cW cP cB cO cX cL h0 h1 h2 h3 h4 m0 m1 m2 m3 o0 z u f) H1 := by
  have key : ∀ i, (i < 5 ∨ i = 9) → ∀ q, (jw cR cW cP cB cO cX cL h0 h1 h2 h3 h4 m0 m1 m2 m3 o0 z y f)[i]? = some q → va_at D hcl q H1 := by
    intro i hi q hq
    refine (hP i q hq).kept (hk q.1 (hP i q hq).lt ?_)
    rintro (e | e | e | e)
    · exact ap_ne hD i 5 hq rfl (by omega) e
    · exact ap_ne hD i 6 hq rfl (by omega) e
    · exact ap_ne hD i 7 hq rfl (by omega) e
    · exact ap_ne hD i 8 hq rfl (by omega) e
  have hH : va_P D hcl (hs_W cR cW cP h0 h1 h2 h3 h4 z) H1 := by
    intro k q hq
    have hl : k < 5 := (List.getElem?_eq_some_iff.mp hq).1
    refine key k (Or.inl hl) q ?_
    show (hs_W cR cW cP h0 h1 h2 h3 h4 z ++ ms_W cB cO cX m0 m1 m2 m3 y ++ [(o0, .inl (cL, 1, .inr (.inl f)))])[k]? = some q
    rw [List.append_assoc, List.getElem?_append_left hl]
    exact hq
  have hO : va_P D hcl [(o0, .inl (cL, 1, .inr (.inl f)))] H1 := by
    intro k q hq
    have hl : k < 1 := (List.getElem?_eq_some_iff.mp hq).1
    have hk0 : k = 0 := by omega
    subst hk0
    exact key 9 (Or.inr rfl) q hq
  exact va_P.app (va_P.app hH hB) hO
end
theorem lw_cmp {x y : Int64} (h : x = y) : lg_cmp x y = 0 := by
  subst h
  unfold lg_cmp
  simp
theorem th_ZS {s : State} {H : Heap} {locs : List Loc} {A : Nat → Prop} (hZ : th_ZA A s s.heap) (hS : va_S A s.heap H locs) : th_ZH s H := (hZ.kept hS.2.1).narrow (fun _ h => h.elim)
theorem sc_in {L j k : Nat} (hk : 3 * j + k < L) (hL : L < 2 ^ 31) : vp_in (nI (3 * j) + nI k) L := by
  rw [nI_add]
  exact nI_in hk hL
section
variable {p : Program} {l : Launch} {e : Env} {R : Room} {s : State} {m : MethodId} {args : Array Value} {below : List Frame} {meth : Method} {c : Code} {H : Heap} {locs : List Loc} {cells slots : Nat} {Q : State → Prop}
variable {cc : ByteArray} {pc : Nat} {ls : Array Slot} {rest : List Value} {A : Nat → Prop} {H0 : Heap}
theorem sc_ld (hexec : p.tables.exec = Jvm.exec) (hb : c.code = cc) {b L : Nat} {xs : Nat → Int32} (hX : va_X b L xs s H0) (hbl : b < H0.size) (hbA : ¬ A b) (hS : va_S A H0 H locs) {i v : Int32} (hin : vp_in i L) (hv : xs i.toNatClampNeg = v) (hdg : decode cc pc = .ok (.iaload, 1))
    (kk : W p l e R s m args below meth c H locs cells slots Q (F0 m (pc + 1) ls (.int v :: rest))) : W p l e R s m args below meth c H locs cells slots Q (F0 m pc ls (.int i :: .ref b :: rest)) := by
  subst hv
  exact va_sld hexec hb hX hbl hbA hS hin hdg kk
end
