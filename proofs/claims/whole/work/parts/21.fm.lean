/-! One column gone: what is left is exact. -/
def gdm (n m : Rat) (s : Bool) (t : Rat) : Prop := if s = true then n * t < m else n * t ≤ m
/-- bounds from above and from below: the tightest one -/
theorem g_tight : ∀ (U : List (Rat × Bool)), U ≠ [] → ∃ u ∈ U, ∀ u' ∈ U, u.1 < u'.1 ∨ (u.1 = u'.1 ∧ (u'.2 = true → u.2 = true)) := by
  intro U
  induction U with
  | nil => intro h; exact absurd rfl h
  | cons a l ih =>
    intro _
    by_cases hl : l = []
    · subst hl
      refine ⟨a, List.mem_cons_self, fun u' hu => ?_⟩
      rcases List.mem_cons.mp hu with h | h
      · subst h; exact Or.inr ⟨rfl, id⟩
      · cases h
    · obtain ⟨u, hu, hall⟩ := ih hl
      by_cases hc : u.1 < a.1 ∨ (u.1 = a.1 ∧ (a.2 = true → u.2 = true))
      · refine ⟨u, List.mem_cons_of_mem _ hu, fun u' hu' => ?_⟩
        rcases List.mem_cons.mp hu' with h | h
        · subst h; exact hc
        · exact hall u' h
      · have ha : a.1 < u.1 ∨ (a.1 = u.1 ∧ (u.2 = true → a.2 = true)) := by
          rcases Rat.le_total (a := a.1) (b := u.1) with h | h
          · by_cases he : a.1 = u.1
            · right; refine ⟨he, fun _ => ?_⟩
              cases h2 : a.2 with
              | true => rfl
              | false => exact absurd (Or.inr ⟨he.symm, fun z => by rw [h2] at z; cases z⟩) hc
            · exact Or.inl (Rat.lt_of_le_of_ne h he)
          · by_cases he : u.1 = a.1
            · right; refine ⟨he.symm, fun _ => ?_⟩
              cases h2 : a.2 with
              | true => rfl
              | false => exact absurd (Or.inr ⟨he, fun z => by rw [h2] at z; cases z⟩) hc
            · exact absurd (Or.inl (Rat.lt_of_le_of_ne h he)) hc
        refine ⟨a, List.mem_cons_self, fun u' hu' => ?_⟩
        rcases List.mem_cons.mp hu' with h | h
        · subst h; exact Or.inr ⟨rfl, id⟩
        · rcases ha with h1 | ⟨h1, h2⟩ <;> rcases hall u' h with h3 | ⟨h3, h4⟩
          · left; grind
          · left; grind
          · left; grind
          · right; exact ⟨h1.trans h3, fun z => h2 (h4 z)⟩
def gub (u : Rat × Bool) (y : Rat) : Prop := if u.2 = true then y < u.1 else y ≤ u.1
def glb (w : Rat × Bool) (y : Rat) : Prop := if w.2 = true then w.1 < y else w.1 ≤ y
theorem gub_of {u u' : Rat × Bool} {y : Rat} (h : u.1 < u'.1 ∨ (u.1 = u'.1 ∧ (u'.2 = true → u.2 = true))) (hy : gub u y) : gub u' y := by
  unfold gub at *
  cases h1 : u.2 <;> cases h2 : u'.2 <;> simp only [h1, h2, if_true, if_false, Bool.false_eq_true, reduceIte] at * <;> grind
theorem glb_of {w w' : Rat × Bool} {y : Rat} (h : -w.1 < -w'.1 ∨ (-w.1 = -w'.1 ∧ (w'.2 = true → w.2 = true))) (hy : glb w y) : glb w' y := by
  unfold glb at *
  cases h1 : w.2 <;> cases h2 : w'.2 <;> simp only [h1, h2, if_true, if_false, Bool.false_eq_true, reduceIte] at * <;> grind
theorem g_tightL (V : List (Rat × Bool)) (h : V ≠ []) : ∃ w ∈ V, ∀ w' ∈ V, -w.1 < -w'.1 ∨ (-w.1 = -w'.1 ∧ (w'.2 = true → w.2 = true)) := by
  obtain ⟨u, hu, hall⟩ := g_tight (V.map (fun w => (-w.1, w.2))) (fun e => h (List.map_eq_nil_iff.mp e))
  obtain ⟨w, hw, rfl⟩ := List.mem_map.mp hu
  exact ⟨w, hw, fun w' hw' => hall (-w'.1, w'.2) (List.mem_map.mpr ⟨w', hw', rfl⟩)⟩
theorem g_between (U V : List (Rat × Bool)) (h : ∀ u ∈ U, ∀ w ∈ V, if (u.2 || w.2) = true then w.1 < u.1 else w.1 ≤ u.1) : ∃ y : Rat, (∀ u ∈ U, gub u y) ∧ ∀ w ∈ V, glb w y := by
  by_cases hU : U = []
  · by_cases hV : V = []
    · subst hU hV
      exact ⟨0, fun u hu => (by cases hu), fun w hw => (by cases hw)⟩
    · obtain ⟨w, hw, hall⟩ := g_tightL V hV
      subst hU
      refine ⟨w.1 + 1, fun u hu => (by cases hu), fun w' hw' => glb_of (hall w' hw') ?_⟩
      unfold glb; split <;> grind
  · obtain ⟨u, hu, hallU⟩ := g_tight U hU
    by_cases hV : V = []
    · subst hV
      refine ⟨u.1 - 1, fun u' hu' => gub_of (hallU u' hu') ?_, fun w hw => (by cases hw)⟩
      unfold gub; split <;> grind
    · obtain ⟨w, hw, hallV⟩ := g_tightL V hV
      have huw := h u hu w hw
      by_cases hs : (u.2 || w.2) = true
      · rw [if_pos hs] at huw
        refine ⟨(u.1 + w.1) / 2, fun u' hu' => gub_of (hallU u' hu') ?_, fun w' hw' => glb_of (hallV w' hw') ?_⟩
        · unfold gub; split <;> grind
        · unfold glb; split <;> grind
      · rw [if_neg hs] at huw
        have hs' : u.2 = false ∧ w.2 = false := by simpa using hs
        refine ⟨u.1, fun u' hu' => gub_of (hallU u' hu') ?_, fun w' hw' => glb_of (hallV w' hw') ?_⟩
        · unfold gub; rw [hs'.1]; simp
        · unfold glb; rw [hs'.2]; simpa using huw
/-- members in two unknowns s, t: p s + q t <= c. The unknown s goes. -/
abbrev gT : Type := Rat × Rat × Rat × Bool
def gts (m : gT) (s t : Rat) : Prop := if m.2.2.2 = true then m.1 * s + m.2.1 * t < m.2.2.1 else m.1 * s + m.2.1 * t ≤ m.2.2.1
theorem g_elim (l : List gT) (t : Rat) : (∃ s, ∀ m ∈ l, gts m s t) ↔ (∀ m ∈ l, m.1 = 0 → gdm m.2.1 m.2.2.1 m.2.2.2 t) ∧ ∀ i ∈ l, ∀ j ∈ l, 0 < i.1 → j.1 < 0 → gdm (-j.1 * i.2.1 + i.1 * j.2.1) (-j.1 * i.2.2.1 + i.1 * j.2.2.1) (i.2.2.2 || j.2.2.2) t := by
  constructor
  · rintro ⟨s, hs⟩
    refine ⟨fun m hm h0 => ?_, fun i hi j hj hp hn => ?_⟩
    · have := hs m hm
      unfold gts at this; unfold gdm
      rw [h0] at this
      split <;> rename_i hb
      · rw [if_pos hb] at this; grind
      · rw [if_neg hb] at this; grind
    · have h1 := hs i hi
      have h2 := hs j hj
      unfold gts at h1 h2; unfold gdm
      have hn' : 0 < -j.1 := by grind
      have e : (-j.1 * i.2.1 + i.1 * j.2.1) * t = -j.1 * (i.1 * s + i.2.1 * t) + i.1 * (j.1 * s + j.2.1 * t) := by grind
      rw [e]
      cases hb1 : i.2.2.2 <;> cases hb2 : j.2.2.2 <;> simp only [hb1, hb2, Bool.or_self, Bool.or_true, Bool.true_or, Bool.or_false, Bool.false_or, if_true, Bool.false_eq_true, if_false, reduceIte] at h1 h2 ⊢
      · have a1 := Rat.mul_le_mul_of_nonneg_left h1 (Rat.le_of_lt hn')
        have a2 := Rat.mul_le_mul_of_nonneg_left h2 (Rat.le_of_lt hp)
        grind
      · have a1 := Rat.mul_le_mul_of_nonneg_left h1 (Rat.le_of_lt hn')
        have a2 := Rat.mul_lt_mul_of_pos_left h2 hp
        grind
      · have a1 := Rat.mul_lt_mul_of_pos_left h1 hn'
        have a2 := Rat.mul_le_mul_of_nonneg_left h2 (Rat.le_of_lt hp)
        grind
      · have a1 := Rat.mul_lt_mul_of_pos_left h1 hn'
        have a2 := Rat.mul_lt_mul_of_pos_left h2 hp
        grind
  · rintro ⟨h0, hpn⟩
    have key := g_between ((l.filter (fun m => decide (0 < m.1))).map (fun m => ((m.2.2.1 - m.2.1 * t) / m.1, m.2.2.2))) ((l.filter (fun m => decide (m.1 < 0))).map (fun m => ((m.2.2.1 - m.2.1 * t) / m.1, m.2.2.2))) (by
      intro u hu w hw
      obtain ⟨i, hi, rfl⟩ := List.mem_map.mp hu
      obtain ⟨j, hj, rfl⟩ := List.mem_map.mp hw
      obtain ⟨hi, hp⟩ := List.mem_filter.mp hi
      obtain ⟨hj, hn⟩ := List.mem_filter.mp hj
      have hp : 0 < i.1 := by simpa using hp
      have hn : j.1 < 0 := by simpa using hn
      have hn' : 0 < -j.1 := by grind
      have h1 := hpn i hi j hj hp hn
      unfold gdm at h1
      have ei : (i.2.2.1 - i.2.1 * t) / i.1 * i.1 = i.2.2.1 - i.2.1 * t := Rat.div_mul_cancel (Rat.ne_of_gt hp)
      have ej : (j.2.2.1 - j.2.1 * t) / j.1 * j.1 = j.2.2.1 - j.2.1 * t := Rat.div_mul_cancel (Rat.ne_of_lt hn)
      generalize (i.2.2.1 - i.2.1 * t) / i.1 = a at ei
      generalize (j.2.2.1 - j.2.1 * t) / j.1 = b at ej
      have hm : 0 < -j.1 * i.1 := Rat.mul_pos hn' hp
      have e1 : -j.1 * i.1 * a = -j.1 * (i.2.2.1 - i.2.1 * t) := by rw [← ei]; grind
      have e2 : -j.1 * i.1 * b = -i.1 * (j.2.2.1 - j.2.1 * t) := by rw [← ej]; grind
      show if (i.2.2.2 || j.2.2.2) = true then b < a else b ≤ a
      split <;> rename_i hb
      · rw [if_pos hb] at h1
        exact (Rat.mul_lt_mul_left hm).mp (by rw [e1, e2]; grind)
      · rw [if_neg hb] at h1
        exact Rat.le_of_mul_le_mul_left (by rw [e1, e2]; grind) hm)
    obtain ⟨s, hU, hV⟩ := key
    refine ⟨s, fun m hm => ?_⟩
    rcases Rat.le_total (a := m.1) (b := 0) with h | h
    · by_cases he : m.1 = 0
      · have := h0 m hm he
        unfold gdm at this; unfold gts
        rw [he]
        split <;> rename_i hb
        · rw [if_pos hb] at this; grind
        · rw [if_neg hb] at this; grind
      · have hn : m.1 < 0 := Rat.lt_of_le_of_ne h he
        have h1 := hV _ (List.mem_map.mpr ⟨m, List.mem_filter.mpr ⟨hm, by simpa using hn⟩, rfl⟩)
        have e : (m.2.2.1 - m.2.1 * t) / m.1 * m.1 = m.2.2.1 - m.2.1 * t := Rat.div_mul_cancel (Rat.ne_of_lt hn)
        unfold glb at h1; unfold gts
        generalize (m.2.2.1 - m.2.1 * t) / m.1 = b at e h1
        have hn' : 0 < -m.1 := by grind
        split <;> rename_i hb
        · rw [if_pos hb] at h1
          have := Rat.mul_lt_mul_of_pos_left h1 hn'
          grind
        · rw [if_neg hb] at h1
          have := Rat.mul_le_mul_of_nonneg_left h1 (Rat.le_of_lt hn')
          grind
    · by_cases he : m.1 = 0
      · have := h0 m hm he
        unfold gdm at this; unfold gts
        rw [he]
        split <;> rename_i hb
        · rw [if_pos hb] at this; grind
        · rw [if_neg hb] at this; grind
      · have hp : 0 < m.1 := Rat.lt_of_le_of_ne h (Ne.symm he)
        have h1 := hU _ (List.mem_map.mpr ⟨m, List.mem_filter.mpr ⟨hm, by simpa using hp⟩, rfl⟩)
        have e : (m.2.2.1 - m.2.1 * t) / m.1 * m.1 = m.2.2.1 - m.2.1 * t := Rat.div_mul_cancel (Rat.ne_of_gt hp)
        unfold gub at h1; unfold gts
        generalize (m.2.2.1 - m.2.1 * t) / m.1 = b at e h1
        split <;> rename_i hb
        · rw [if_pos hb] at h1
          have := Rat.mul_lt_mul_of_pos_left h1 hp
          grind
        · rw [if_neg hb] at h1
          have := Rat.mul_le_mul_of_nonneg_left h1 (Rat.le_of_lt hp)
          grind
