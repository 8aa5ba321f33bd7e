/-! The ends of what one unknown may be, as the class holds them: top / base, base 0: none. -/
abbrev gE : Type := Int × Int × Bool
def gEs (e : gE) (t : Rat) : Prop := e.2.1 ≠ 0 → gdm (e.2.1 : Rat) (e.1 : Rat) e.2.2 t
def gEup (e : gE) (m b : Int) (s : Bool) : gE := if e.2.1 = 0 ∨ m * e.2.1 < e.1 * b ∨ (m * e.2.1 = e.1 * b ∧ s = true) then (m, b, s) else e
theorem gdm_lt {b m b' m' : Rat} {s s' : Bool} {t : Rat} (hb : 0 < b) (hb' : 0 < b') (h : m * b' < m' * b) (hd : gdm b m s t) : gdm b' m' s' t := by
  have h1 : b * t ≤ m := by unfold gdm at hd; split at hd; exact Rat.le_of_lt hd; exact hd
  have h2 : b' * t < m' := by
    have a1 := Rat.mul_le_mul_of_nonneg_left h1 (Rat.le_of_lt hb')
    have a2 : b * (b' * t) < b * m' := by grind
    exact (Rat.mul_lt_mul_left hb).mp a2
  unfold gdm; split; exact h2; exact Rat.le_of_lt h2
theorem gdm_eq {b m b' m' : Rat} {s s' : Bool} {t : Rat} (hb : 0 < b) (hb' : 0 < b') (h : m * b' = m' * b) (hs : s' = true → s = true) (hd : gdm b m s t) : gdm b' m' s' t := by
  unfold gdm at *
  cases h1 : s' with
  | true =>
    rw [hs h1] at hd
    simp only [if_true] at *
    have a1 := Rat.mul_lt_mul_of_pos_left hd hb'
    exact (Rat.mul_lt_mul_left hb).mp (by grind)
  | false =>
    simp only [Bool.false_eq_true, if_false]
    have h3 : b * t ≤ m := by split at hd; exact Rat.le_of_lt hd; exact hd
    have a1 := Rat.mul_le_mul_of_nonneg_left h3 (Rat.le_of_lt hb')
    exact Rat.le_of_mul_le_mul_left (show b * (b' * t) ≤ b * m' by grind) hb
theorem gEup_s {e : gE} {m b : Int} {s : Bool} {t : Rat} (he : 0 ≤ e.2.1) (hb : 0 < b) : gEs (gEup e m b s) t ↔ gEs e t ∧ gdm (b : Rat) (m : Rat) s t := by
  have hbR : (0 : Rat) < (b : Rat) := Rat.intCast_pos.mpr hb
  unfold gEup
  by_cases h0 : e.2.1 = 0
  · rw [if_pos (Or.inl h0)]
    constructor
    · intro h; exact ⟨fun z => absurd h0 z, h (by show b ≠ 0; omega)⟩
    · rintro ⟨-, h⟩ -; exact h
  · have hep : 0 < e.2.1 := by omega
    have heR : (0 : Rat) < (e.2.1 : Rat) := Rat.intCast_pos.mpr hep
    by_cases h1 : m * e.2.1 < e.1 * b
    · rw [if_pos (Or.inr (Or.inl h1))]
      have h1R : (m : Rat) * (e.2.1 : Rat) < (e.1 : Rat) * (b : Rat) := by
        have := Rat.intCast_lt_intCast.mpr h1
        simpa [Rat.intCast_mul] using this
      constructor
      · intro h
        have h := h (by show b ≠ 0; omega)
        exact ⟨fun _ => gdm_lt hbR heR h1R h, h⟩
      · rintro ⟨-, h⟩ -; exact h
    · by_cases h2 : m * e.2.1 = e.1 * b
      · have h2R : (m : Rat) * (e.2.1 : Rat) = (e.1 : Rat) * (b : Rat) := by
          have := congrArg (fun z : Int => (z : Rat)) h2
          simpa [Rat.intCast_mul] using this
        cases hs : s with
        | true =>
          rw [if_pos (Or.inr (Or.inr ⟨h2, rfl⟩))]
          constructor
          · intro h
            have h := h (by show b ≠ 0; omega)
            exact ⟨fun _ => gdm_eq hbR heR h2R (fun _ => rfl) h, h⟩
          · rintro ⟨-, h⟩ -; exact h
        | false =>
          rw [if_neg (by rintro (h | h | h); exact h0 h; exact h1 h; exact absurd h.2 (by decide))]
          constructor
          · intro h
            exact ⟨h, gdm_eq heR hbR h2R.symm (fun z => by cases z) (h h0)⟩
          · exact fun h => h.1
      · rw [if_neg (by rintro (h | h | h); exact h0 h; exact h1 h; exact h2 h.1)]
        have h3 : e.1 * b < m * e.2.1 := by omega
        have h3R : (e.1 : Rat) * (b : Rat) < (m : Rat) * (e.2.1 : Rat) := by
          have := Rat.intCast_lt_intCast.mpr h3
          simpa [Rat.intCast_mul] using this
        constructor
        · intro h
          exact ⟨h, gdm_lt heR hbR h3R (h h0)⟩
        · exact fun h => h.1
/-- between an end above and an end below (of -t) something is left -/
def gGap (e f : gE) : Prop := e.2.1 = 0 ∨ f.2.1 = 0 ∨ 0 < e.1 * f.2.1 + f.1 * e.2.1 ∨ (e.1 * f.2.1 + f.1 * e.2.1 = 0 ∧ e.2.2 = false ∧ f.2.2 = false)
theorem gGap_iff {e f : gE} (he : 0 ≤ e.2.1) (hf : 0 ≤ f.2.1) : gGap e f ↔ ∃ t : Rat, gEs e t ∧ gEs f (-t) := by
  have toI : ∀ a b c d : Int, (a : Rat) * b + (c : Rat) * d = ((a * b + c * d : Int) : Rat) := fun a b c d => by
    rw [Rat.intCast_add, Rat.intCast_mul, Rat.intCast_mul]
  constructor
  · intro h
    by_cases e0 : e.2.1 = 0
    · by_cases f0 : f.2.1 = 0
      · exact ⟨0, fun z => absurd e0 z, fun z => absurd f0 z⟩
      · have hfR : (0 : Rat) < (f.2.1 : Rat) := Rat.intCast_pos.mpr (by omega)
        refine ⟨-((f.1 : Rat) / (f.2.1 : Rat) - 1), fun z => absurd e0 z, fun _ => ?_⟩
        have hd : (f.1 : Rat) / (f.2.1 : Rat) * (f.2.1 : Rat) = (f.1 : Rat) := Rat.div_mul_cancel (Rat.ne_of_gt hfR)
        unfold gdm; split <;> grind
    · have heR : (0 : Rat) < (e.2.1 : Rat) := Rat.intCast_pos.mpr (by omega)
      have hd : (e.1 : Rat) / (e.2.1 : Rat) * (e.2.1 : Rat) = (e.1 : Rat) := Rat.div_mul_cancel (Rat.ne_of_gt heR)
      by_cases f0 : f.2.1 = 0
      · refine ⟨(e.1 : Rat) / (e.2.1 : Rat) - 1, fun _ => ?_, fun z => absurd f0 z⟩
        unfold gdm; split <;> grind
      · have hfR : (0 : Rat) < (f.2.1 : Rat) := Rat.intCast_pos.mpr (by omega)
        have hd2 : (f.1 : Rat) / (f.2.1 : Rat) * (f.2.1 : Rat) = (f.1 : Rat) := Rat.div_mul_cancel (Rat.ne_of_gt hfR)
        have hm := Rat.mul_pos heR hfR
        rcases h with h | h | h | ⟨h, h1, h2⟩
        · exact absurd h e0
        · exact absurd h f0
        · have hR : (0 : Rat) < (e.1 : Rat) * (f.2.1 : Rat) + (f.1 : Rat) * (e.2.1 : Rat) := by rw [toI]; exact Rat.intCast_pos.mpr h
          generalize (e.1 : Rat) / (e.2.1 : Rat) = a at hd
          generalize (f.1 : Rat) / (f.2.1 : Rat) = b at hd2
          have hab : 0 < a + b := by
            apply g_mulpos (a := (e.2.1 : Rat) * (f.2.1 : Rat)) (Rat.le_of_lt hm)
            rw [← hd, ← hd2] at hR; grind
          have h4 := Rat.mul_pos heR hab
          have h5 := Rat.mul_pos hfR hab
          refine ⟨(a - b) / 2, fun _ => ?_, fun _ => ?_⟩
          · unfold gdm; split <;> grind
          · unfold gdm; split <;> grind
        · have hR : (e.1 : Rat) * (f.2.1 : Rat) + (f.1 : Rat) * (e.2.1 : Rat) = 0 := by rw [toI, h]; rfl
          generalize (e.1 : Rat) / (e.2.1 : Rat) = a at hd
          generalize (f.1 : Rat) / (f.2.1 : Rat) = b at hd2
          have hab : a + b = 0 := by
            have h6 : (e.2.1 : Rat) * (f.2.1 : Rat) * (a + b) = 0 := by rw [← hd, ← hd2] at hR; grind
            rcases Rat.mul_eq_zero.mp h6 with h7 | h7
            · exact absurd h7 (Rat.ne_of_gt hm)
            · exact h7
          refine ⟨a, fun _ => ?_, fun _ => ?_⟩
          · unfold gdm; rw [h1]; simp only [Bool.false_eq_true, if_false]; grind
          · unfold gdm; rw [h2]; simp only [Bool.false_eq_true, if_false]
            have : -a = b := by grind
            rw [this]; grind
  · rintro ⟨t, h1, h2⟩
    unfold gGap
    by_cases e0 : e.2.1 = 0
    · exact Or.inl e0
    · by_cases f0 : f.2.1 = 0
      · exact Or.inr (Or.inl f0)
      · have heR : (0 : Rat) < (e.2.1 : Rat) := Rat.intCast_pos.mpr (by omega)
        have hfR : (0 : Rat) < (f.2.1 : Rat) := Rat.intCast_pos.mpr (by omega)
        have h1 := h1 e0
        have h2 := h2 f0
        right; right
        unfold gdm at h1 h2
        have key : ∀ z : Int, ((e.1 * f.2.1 + f.1 * e.2.1 : Int) : Rat) = (z : Rat) → e.1 * f.2.1 + f.1 * e.2.1 = z := fun z h => Rat.intCast_inj.mp h
        have c1 : (e.2.1 : Rat) * t ≤ (e.1 : Rat) := by split at h1; exact Rat.le_of_lt h1; exact h1
        have c2 : (f.2.1 : Rat) * (-t) ≤ (f.1 : Rat) := by split at h2; exact Rat.le_of_lt h2; exact h2
        have a1 := Rat.mul_le_mul_of_nonneg_left c1 (Rat.le_of_lt hfR)
        have a2 := Rat.mul_le_mul_of_nonneg_left c2 (Rat.le_of_lt heR)
        have hnn : (0 : Rat) ≤ ((e.1 * f.2.1 + f.1 * e.2.1 : Int) : Rat) := by rw [← toI]; grind
        have hnn : 0 ≤ e.1 * f.2.1 + f.1 * e.2.1 := Rat.intCast_nonneg.mp hnn
        by_cases hz : e.1 * f.2.1 + f.1 * e.2.1 = 0
        · right
          have hzR : (e.1 : Rat) * (f.2.1 : Rat) + (f.1 : Rat) * (e.2.1 : Rat) = 0 := by rw [toI, hz]; rfl
          refine ⟨hz, ?_, ?_⟩
          · cases hs : e.2.2 with
            | false => rfl
            | true =>
              rw [hs] at h1
              simp only [if_true] at h1
              have := Rat.mul_lt_mul_of_pos_left h1 hfR
              exfalso; grind
          · cases hs : f.2.2 with
            | false => rfl
            | true =>
              rw [hs] at h2
              simp only [if_true] at h2
              have := Rat.mul_lt_mul_of_pos_left h2 heR
              exfalso; grind
        · left; omega
