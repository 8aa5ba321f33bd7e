/-! Points out of corners and ways, at one value of a form. -/
theorem gcl_mid {q : gC} {x y x' y' : Rat} (h : gcl q x y) (h' : gcl q x' y') : gcl q ((x + x') / 2) ((y + y') / 2) := by
  unfold gcl at *
  have e : gv q ((x + x') / 2) ((y + y') / 2) = (gv q x y + gv q x' y') / 2 := by unfold gv; grind
  rw [e]; grind
theorem gv_mid (q : gC) (x y x' y' : Rat) : gv q ((x + x') / 2) ((y + y') / 2) = (gv q x y + gv q x' y') / 2 := by unfold gv; grind
theorem gv_add (q : gC) (x y dx dy : Rat) : gv q (x + dx) (y + dy) = gv q x y + gv q dx dy := by unfold gv; grind
theorem g_mix (p q v : Rat) (l : List gC) : ∀ (K : List gC), (∀ k ∈ K, k ∈ l) → (∃ x y : Rat, (∀ m ∈ l, gcl m x y) ∧ p * x + q * y = v) →
    (∀ k ∈ K, (∃ x y : Rat, (∀ m ∈ l, gcl m x y) ∧ p * x + q * y = v ∧ gv k x y < gk k) ∨ (∃ dx dy : Rat, (∀ m ∈ l, gv m dx dy ≤ 0) ∧ p * dx + q * dy = 0 ∧ gv k dx dy < 0)) →
    ∃ x y : Rat, (∀ m ∈ l, gcl m x y) ∧ p * x + q * y = v ∧ ∀ k ∈ K, gv k x y < gk k := by
  intro K
  induction K with
  | nil =>
    intro _ h0 _
    obtain ⟨x, y, h1, h2⟩ := h0
    exact ⟨x, y, h1, h2, fun k hk => (by cases hk)⟩
  | cons k K ih =>
    intro hK h0 hw
    obtain ⟨x, y, hf, hv, hs⟩ := ih (fun a ha => hK a (List.mem_cons_of_mem _ ha)) h0 (fun a ha => hw a (List.mem_cons_of_mem _ ha))
    have hkl := hK k List.mem_cons_self
    rcases hw k List.mem_cons_self with ⟨x', y', hf', hv', hk'⟩ | ⟨dx, dy, hr, hz, hk'⟩
    · refine ⟨(x + x') / 2, (y + y') / 2, fun m hm => gcl_mid (hf m hm) (hf' m hm), by grind, fun a ha => ?_⟩
      rw [gv_mid]
      rcases List.mem_cons.mp ha with e | e
      · subst e
        have := hf _ hkl
        unfold gcl at this; grind
      · have h1 := hs a e
        have h2 := hf' a (hK a ha)
        unfold gcl at h2; grind
    · refine ⟨x + dx, y + dy, fun m hm => ?_, by grind, fun a ha => ?_⟩
      · unfold gcl; rw [gv_add]
        have h1 := hf m hm
        have h2 := hr m hm
        unfold gcl at h1; grind
      · rw [gv_add]
        rcases List.mem_cons.mp ha with e | e
        · subst e
          have := hf _ hkl
          unfold gcl at this; grind
        · have h1 := hs a e
          have h2 := hr a (hK a ha)
          grind
/-- a corner: where two members that aren't parallel meet, and all hold but for strictness; a way: along a member's line, none is left -/
def gCor (l : List gC) (x y : Rat) : Prop := (∃ i ∈ l, ∃ j ∈ l, gcr i j ≠ 0 ∧ gv i x y = gk i ∧ gv j x y = gk j) ∧ ∀ m ∈ l, gcl m x y
def gWay (l : List gC) (dx dy : Rat) : Prop := (∃ i ∈ l, gway i dx dy) ∧ ∀ m ∈ l, gv m dx dy ≤ 0
def gNb (l : List gC) : Prop := l ≠ [] ∧ ∀ q ∈ l, ∃ j ∈ l, gcr j q ≠ 0
theorem g_lp2 {l : List gC} (hn : gNb l) {x y : Rat} (hf : ∀ m ∈ l, gcl m x y) (p1 q1 p2 q2 : Rat) : (∃ x' y' : Rat, gCor l x' y' ∧ gle p1 q1 p2 q2 x' y' x y) ∨ ∃ dx dy : Rat, gWay l dx dy ∧ gng p1 q1 p2 q2 dx dy := by
  obtain ⟨hne, hz⟩ := hn
  obtain ⟨i0, hi0⟩ := List.exists_mem_of_ne_nil l hne
  rcases g_lp l i0 hi0 hz x y hf p1 q1 p2 q2 with ⟨i, hi, j, hj, hne, x', y', h1, h2, h3, h4⟩ | ⟨i, hi, dx, dy, h1, h2, h3⟩
  · exact Or.inl ⟨x', y', ⟨⟨i, hi, j, hj, hne, h2, h3⟩, h1⟩, h4⟩
  · exact Or.inr ⟨dx, dy, ⟨⟨i, hi, h1⟩, h2⟩, h3⟩
theorem gst_iff {q : gC} {x y : Rat} : gst q x y ↔ gcl q x y ∧ (q.2.2.2 = true → gv q x y < gk q) := by
  unfold gst gcl
  constructor
  · intro h
    split at h <;> rename_i hb
    · exact ⟨Rat.le_of_lt h, fun _ => h⟩
    · exact ⟨h, fun z => absurd z hb⟩
  · rintro ⟨h1, h2⟩
    split <;> rename_i hb
    · exact h2 hb
    · exact h1
/-- points where a form has a value: told by the corners and ways of that value -/
theorem g_at {l : List gC} (hn : gNb l) (p q v : Rat) (hlow : ∀ x y : Rat, gCor l x y → v ≤ p * x + q * y) (hway : ∀ dx dy : Rat, gWay l dx dy → 0 ≤ p * dx + q * dy) :
    (∃ x y : Rat, (∀ m ∈ l, gst m x y) ∧ p * x + q * y = v) ↔ (∃ x y : Rat, gCor l x y ∧ p * x + q * y = v) ∧ ∀ k ∈ l, k.2.2.2 = true → (∃ x y : Rat, gCor l x y ∧ p * x + q * y = v ∧ gv k x y < gk k) ∨ ∃ dx dy : Rat, gWay l dx dy ∧ p * dx + q * dy = 0 ∧ gv k dx dy < 0 := by
  constructor
  · rintro ⟨x, y, hs, hv⟩
    have hf : ∀ m ∈ l, gcl m x y := fun m hm => gst_cl (hs m hm)
    refine ⟨?_, fun k hk hb => ?_⟩
    · rcases g_lp2 hn hf p q 0 0 with ⟨x', y', h1, h2⟩ | ⟨dx, dy, h1, h2⟩
      · refine ⟨x', y', h1, ?_⟩
        have := hlow x' y' h1
        unfold gle at h2; grind
      · have := hway dx dy h1
        unfold gng at h2; grind
    · have hk1 := (gst_iff.mp (hs k hk)).2 hb
      rcases g_lp2 hn hf p q (k.1 : Rat) (k.2.1 : Rat) with ⟨x', y', h1, h2⟩ | ⟨dx, dy, h1, h2⟩
      · refine Or.inl ⟨x', y', h1, ?_⟩
        have := hlow x' y' h1
        unfold gle at h2; unfold gv at hk1 ⊢
        constructor <;> grind
      · refine Or.inr ⟨dx, dy, h1, ?_⟩
        have := hway dx dy h1
        unfold gng at h2; unfold gv
        constructor <;> grind
  · rintro ⟨⟨x0, y0, h0, hv0⟩, hk⟩
    obtain ⟨x, y, h1, h2, h3⟩ := g_mix p q v l (l.filter (fun k => k.2.2.2)) (fun k h => (List.mem_filter.mp h).1) ⟨x0, y0, h0.2, hv0⟩ (fun k h => by
      obtain ⟨ha, hb⟩ := List.mem_filter.mp h
      rcases hk k ha hb with ⟨x, y, c1, c2, c3⟩ | ⟨dx, dy, c1, c2, c3⟩
      · exact Or.inl ⟨x, y, c1.2, c2, c3⟩
      · exact Or.inr ⟨dx, dy, c1.2, c2, c3⟩)
    exact ⟨x, y, fun m hm => gst_iff.mpr ⟨h1 m hm, fun hb => h3 m (List.mem_filter.mpr ⟨hm, hb⟩)⟩, h2⟩
/-- whether there are points, by corners and ways -/
theorem g_sat_corners {l : List gC} (hn : gNb l) : gSat l ↔ (∃ x y : Rat, gCor l x y) ∧ ∀ k ∈ l, k.2.2.2 = true → (∃ x y : Rat, gCor l x y ∧ gv k x y < gk k) ∨ ∃ dx dy : Rat, gWay l dx dy ∧ gv k dx dy < 0 := by
  have h := g_at hn 0 0 0 (fun x y _ => by grind) (fun x y _ => by grind)
  constructor
  · rintro ⟨x, y, hs⟩
    obtain ⟨⟨x0, y0, h0, -⟩, hk⟩ := h.mp ⟨x, y, hs, by grind⟩
    refine ⟨⟨x0, y0, h0⟩, fun k hk1 hb => ?_⟩
    rcases hk k hk1 hb with ⟨x, y, c1, -, c3⟩ | ⟨dx, dy, c1, -, c3⟩
    · exact Or.inl ⟨x, y, c1, c3⟩
    · exact Or.inr ⟨dx, dy, c1, c3⟩
  · rintro ⟨⟨x0, y0, h0⟩, hk⟩
    obtain ⟨x, y, hs, -⟩ := h.mpr ⟨⟨x0, y0, h0, by grind⟩, fun k hk1 hb => by
      rcases hk k hk1 hb with ⟨x, y, c1, c3⟩ | ⟨dx, dy, c1, c3⟩
      · exact Or.inl ⟨x, y, c1, by grind, c3⟩
      · exact Or.inr ⟨dx, dy, c1, by grind, c3⟩⟩
    exact ⟨x, y, hs⟩
