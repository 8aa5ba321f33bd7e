/-! Infima of a form over a row: what its members bound from below. -/
/-- a bound from below: base t >= top, or > -/
def gLb (T B : Rat) (k : Bool) (t : Rat) : Prop := if k = true then T ≤ B * t else T < B * t
/-- an end below, as the class holds it; base 0: none -/
def gLo (e : gE) (t : Rat) : Prop := e.2.1 ≠ 0 → gLb (e.1 : Rat) (e.2.1 : Rat) e.2.2 t
def gRs (e : gE) (T B : Int) (k : Bool) : gE := if e.2.1 = 0 ∨ e.1 * B < T * e.2.1 then (T, B, k) else if T * e.2.1 = e.1 * B ∧ k = false then (e.1, e.2.1, false) else e
theorem gLb_lt {T B T' B' t : Rat} {k k' : Bool} (hB : 0 < B) (hB' : 0 < B') (h : T' * B < T * B') (hd : gLb T B k t) : gLb T' B' k' t := by
  have h1 : T ≤ B * t := by unfold gLb at hd; split at hd; exact hd; exact Rat.le_of_lt hd
  have h2 : T' < B' * t := by
    have a1 := Rat.mul_le_mul_of_nonneg_left h1 (Rat.le_of_lt hB')
    exact (Rat.mul_lt_mul_left hB).mp (show B * T' < B * (B' * t) by grind)
  unfold gLb; split; exact Rat.le_of_lt h2; exact h2
theorem gLb_eq {T B T' B' t : Rat} {k k' : Bool} (hB : 0 < B) (hB' : 0 < B') (h : T' * B = T * B') (hk : k' = false → k = false) (hd : gLb T B k t) : gLb T' B' k' t := by
  unfold gLb at *
  cases h1 : k' with
  | false =>
    rw [hk h1] at hd
    simp only [Bool.false_eq_true, if_false] at *
    have a1 := Rat.mul_lt_mul_of_pos_left hd hB'
    exact (Rat.mul_lt_mul_left hB).mp (by grind)
  | true =>
    simp only [if_true]
    have h3 : T ≤ B * t := by split at hd; exact hd; exact Rat.le_of_lt hd
    have a1 := Rat.mul_le_mul_of_nonneg_left h3 (Rat.le_of_lt hB')
    exact Rat.le_of_mul_le_mul_left (show B * T' ≤ B * (B' * t) by grind) hB
theorem castM {a b c d : Int} (h : a * b < c * d) : (a : Rat) * (b : Rat) < (c : Rat) * (d : Rat) := by
  have := Rat.intCast_lt_intCast.mpr h
  simpa [Rat.intCast_mul] using this
theorem castE {a b c d : Int} (h : a * b = c * d) : (a : Rat) * (b : Rat) = (c : Rat) * (d : Rat) := by
  have := congrArg (fun z : Int => (z : Rat)) h
  simpa [Rat.intCast_mul] using this
theorem gRs_lo {e : gE} {T B : Int} {k : Bool} {t : Rat} (he : 0 ≤ e.2.1) (hB : 0 < B) : gLo (gRs e T B k) t ↔ gLo e t ∧ gLb (T : Rat) (B : Rat) k t := by
  have hbR : (0 : Rat) < (B : Rat) := Rat.intCast_pos.mpr hB
  have hB0 : B ≠ 0 := by omega
  unfold gRs
  by_cases h0 : e.2.1 = 0
  · rw [if_pos (Or.inl h0)]
    exact ⟨fun h => ⟨fun z => absurd h0 z, h hB0⟩, fun h _ => h.2⟩
  · have heR : (0 : Rat) < (e.2.1 : Rat) := Rat.intCast_pos.mpr (by omega)
    by_cases h1 : e.1 * B < T * e.2.1
    · rw [if_pos (Or.inr h1)]
      exact ⟨fun h => ⟨fun _ => gLb_lt hbR heR (castM h1) (h hB0), h hB0⟩, fun h _ => h.2⟩
    · rw [if_neg (by rintro (h | h); exact h0 h; exact h1 h)]
      by_cases h2 : T * e.2.1 = e.1 * B
      · cases hk : k with
        | false =>
          rw [if_pos ⟨h2, rfl⟩]
          constructor
          · intro h
            have h := h h0
            exact ⟨fun _ => gLb_eq heR heR rfl (fun _ => rfl) h, gLb_eq heR hbR (castE h2) (fun _ => rfl) h⟩
          · rintro ⟨-, h⟩ -
            exact gLb_eq hbR heR (castE h2).symm (fun _ => rfl) h
        | true =>
          rw [if_neg (fun z => by cases z.2)]
          exact ⟨fun h => ⟨h, gLb_eq heR hbR (castE h2) (fun z => by cases z) (h h0)⟩, fun h => h.1⟩
      · rw [if_neg (fun z => h2 z.1)]
        exact ⟨fun h => ⟨h, gLb_lt heR hbR (castM (by omega)) (h h0)⟩, fun h => h.1⟩
theorem gRs_pos {e : gE} {T B : Int} {k : Bool} (he : 0 ≤ e.2.1) (hB : 0 < B) : 0 < (gRs e T B k).2.1 := by
  unfold gRs
  split
  · exact hB
  · rename_i h
    have : e.2.1 ≠ 0 := fun z => h (Or.inl z)
    split
    · show 0 < e.2.1; omega
    · show 0 < e.2.1; omega
theorem g_sqpos {a : Int} (h : a ≠ 0) : 0 < a * a := by
  rcases Int.lt_or_gt_of_ne h with h1 | h1
  · have := Int.mul_pos (show 0 < -a by omega) (show 0 < -a by omega)
    have e : (-a) * (-a) = a * a := by grind
    omega
  · exact Int.mul_pos h1 h1
def gsd (f g : Int) (m : gC) : Int := m.2.1 * f - m.1 * g
def gal (f g : Int) (m : gC) : Int := m.1 * f + m.2.1 * g
def gtn (p q : gC) : Int := p.1 * q.2.1 - p.2.1 * q.1
def gtp (f g : Int) (p q : gC) : Int := p.2.2.1 * gsd f g q - q.2.2.1 * gsd f g p
theorem gdm_scale {n m N t : Rat} {s : Bool} (hN : 0 < N) : gdm (N * n) (N * m) s t ↔ gdm n m s t := by
  unfold gdm
  have e : N * n * t = N * (n * t) := by grind
  rw [e]
  split
  · exact Rat.mul_lt_mul_left hN
  · exact ⟨fun h => Rat.le_of_mul_le_mul_left h hN, fun h => Rat.mul_le_mul_of_nonneg_left h (Rat.le_of_lt hN)⟩
/-- which values the form takes -/
theorem g_rot (l : List gC) (f g : Int) (hfg : ¬ (f = 0 ∧ g = 0)) (t : Rat) : (∃ x y : Rat, (∀ m ∈ l, gst m x y) ∧ (f : Rat) * x + (g : Rat) * y = t) ↔
    (∀ m ∈ l, gsd f g m = 0 → gdm ((gal f g m : Int) : Rat) (((f * f + g * g) * m.2.2.1 : Int) : Rat) m.2.2.2 t) ∧ ∀ i ∈ l, ∀ j ∈ l, 0 < gsd f g i → gsd f g j < 0 → gdm ((-gtn i j : Int) : Rat) ((-gtp f g i j : Int) : Rat) (i.2.2.2 || j.2.2.2) t := by
  have hN0 : 0 < f * f + g * g := by
    by_cases h1 : f = 0
    · have h2 : g ≠ 0 := fun z => hfg ⟨h1, z⟩
      have := g_sqpos h2 
      subst h1; omega
    · have h2 := g_sqpos h1
      have h3 : 0 ≤ g * g := by
        by_cases hg : g = 0
        · rw [hg]; decide
        · exact Int.le_of_lt (g_sqpos hg)
      omega
  have hN : (0 : Rat) < ((f * f + g * g : Int) : Rat) := Rat.intCast_pos.mpr hN0
  generalize hNe : ((f * f + g * g : Int) : Rat) = N at hN
  have hNd : N = (f : Rat) * (f : Rat) + (g : Rat) * (g : Rat) := by rw [← hNe]; push_cast; grind
  have hNne : N ≠ 0 := Rat.ne_of_gt hN
  have h := g_elim (l.map (fun m : gC => (((gsd f g m : Int) : Rat), ((gal f g m : Int) : Rat), N * ((m.2.2.1 : Int) : Rat), m.2.2.2))) t
  have sd : ∀ m : gC, ((gsd f g m : Int) : Rat) = (m.2.1 : Rat) * (f : Rat) - (m.1 : Rat) * (g : Rat) := fun m => by unfold gsd; push_cast; grind
  have al : ∀ m : gC, ((gal f g m : Int) : Rat) = (m.1 : Rat) * (f : Rat) + (m.2.1 : Rat) * (g : Rat) := fun m => by unfold gal; push_cast; grind
  have e1 : (∃ x y : Rat, (∀ m ∈ l, gst m x y) ∧ (f : Rat) * x + (g : Rat) * y = t) ↔ ∃ s, ∀ m ∈ l.map (fun m : gC => (((gsd f g m : Int) : Rat), ((gal f g m : Int) : Rat), N * ((m.2.2.1 : Int) : Rat), m.2.2.2)), gts m s t := by
    constructor
    · rintro ⟨x, y, hxy, ht⟩
      refine ⟨-(g : Rat) * x + (f : Rat) * y, fun k hk => ?_⟩
      obtain ⟨m, hm, rfl⟩ := List.mem_map.mp hk
      have h1 := hxy m hm
      unfold gst gv gk at h1
      unfold gts
      simp only
      rw [sd, al]
      have e : ((m.2.1 : Rat) * (f : Rat) - (m.1 : Rat) * (g : Rat)) * (-(g : Rat) * x + (f : Rat) * y) + ((m.1 : Rat) * (f : Rat) + (m.2.1 : Rat) * (g : Rat)) * t = N * ((m.1 : Rat) * x + (m.2.1 : Rat) * y) := by
        rw [← ht, hNd]; grind
      rw [e]
      split at h1 <;> rename_i hb
      · rw [if_pos hb]; exact Rat.mul_lt_mul_of_pos_left h1 hN
      · rw [if_neg hb]; exact Rat.mul_le_mul_of_nonneg_left h1 (Rat.le_of_lt hN)
    · rintro ⟨s, hs⟩
      have c1 : ((f : Rat) * t - (g : Rat) * s) / N * N = (f : Rat) * t - (g : Rat) * s := Rat.div_mul_cancel hNne
      have c2 : ((g : Rat) * t + (f : Rat) * s) / N * N = (g : Rat) * t + (f : Rat) * s := Rat.div_mul_cancel hNne
      generalize ((f : Rat) * t - (g : Rat) * s) / N = x at c1
      generalize ((g : Rat) * t + (f : Rat) * s) / N = y at c2
      refine ⟨x, y, fun m hm => ?_, ?_⟩
      · have h1 := hs _ (List.mem_map.mpr ⟨m, hm, rfl⟩)
        unfold gts at h1
        simp only at h1
        rw [sd, al] at h1
        have e : ((m.2.1 : Rat) * (f : Rat) - (m.1 : Rat) * (g : Rat)) * s + ((m.1 : Rat) * (f : Rat) + (m.2.1 : Rat) * (g : Rat)) * t = N * ((m.1 : Rat) * x + (m.2.1 : Rat) * y) := by grind
        rw [e] at h1
        unfold gst gv gk
        split at h1 <;> rename_i hb
        · rw [if_pos hb]; exact (Rat.mul_lt_mul_left hN).mp h1
        · rw [if_neg hb]; exact Rat.le_of_mul_le_mul_left h1 hN
      · have e : N * ((f : Rat) * x + (g : Rat) * y) = N * t := by
          have : N * ((f : Rat) * x + (g : Rat) * y) = (f : Rat) * (x * N) + (g : Rat) * (y * N) := by grind
          rw [this, c1, c2, hNd]; grind
        have e2 : ((f : Rat) * x + (g : Rat) * y) * N / N = t * N / N := by rw [Rat.mul_comm _ N, e, Rat.mul_comm N t]
        rw [Rat.mul_div_cancel hNne, Rat.mul_div_cancel hNne] at e2
        exact e2
  rw [e1, h]
  have pr : ∀ i j : gC, -((gsd f g j : Int) : Rat) * ((gal f g i : Int) : Rat) + ((gsd f g i : Int) : Rat) * ((gal f g j : Int) : Rat) = N * ((-gtn i j : Int) : Rat) := fun i j => by
    rw [sd, sd, al, al, hNd]; unfold gtn; push_cast; grind
  have pc : ∀ i j : gC, -((gsd f g j : Int) : Rat) * (N * ((i.2.2.1 : Int) : Rat)) + ((gsd f g i : Int) : Rat) * (N * ((j.2.2.1 : Int) : Rat)) = N * ((-gtp f g i j : Int) : Rat) := fun i j => by
    unfold gtp; push_cast; grind
  have cN : ∀ m : gC, N * ((m.2.2.1 : Int) : Rat) = (((f * f + g * g) * m.2.2.1 : Int) : Rat) := fun m => by rw [← hNe]; push_cast; grind
  constructor
  · rintro ⟨h0, hp⟩
    refine ⟨fun m hm hz => ?_, fun i hi j hj h1 h2 => ?_⟩
    · have := h0 _ (List.mem_map.mpr ⟨m, hm, rfl⟩) (by simp only; rw [hz]; rfl)
      simp only at this
      rw [cN] at this; exact this
    · have := hp _ (List.mem_map.mpr ⟨i, hi, rfl⟩) _ (List.mem_map.mpr ⟨j, hj, rfl⟩) (Rat.intCast_pos.mpr h1) (Rat.intCast_neg_iff.mpr h2)
      simp only at this
      rw [pr, pc] at this
      exact (gdm_scale hN).mp this
  · rintro ⟨h0, hp⟩
    refine ⟨fun k hk hz => ?_, fun a ha b hb h1 h2 => ?_⟩
    · obtain ⟨m, hm, rfl⟩ := List.mem_map.mp hk
      simp only at hz ⊢
      rw [cN]
      exact h0 m hm (Rat.intCast_eq_zero_iff.mp hz)
    · obtain ⟨i, hi, rfl⟩ := List.mem_map.mp ha
      obtain ⟨j, hj, rfl⟩ := List.mem_map.mp hb
      simp only at h1 h2 ⊢
      rw [pr, pc]
      exact (gdm_scale hN).mpr (hp i hi j hj (Rat.intCast_pos.mp h1) (Rat.intCast_neg_iff.mp h2))
