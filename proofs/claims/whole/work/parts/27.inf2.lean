/-! The infimum over a row, over rows; told once. -/
def gLowR (l : List gC) (f g : Int) (t : Rat) : Prop :=
  (∀ m ∈ l, gsd f g m = 0 → gal f g m < 0 → gLb ((-(m.2.2.1) * (f * f + g * g) : Int) : Rat) ((-gal f g m : Int) : Rat) (!m.2.2.2) t) ∧
  ∀ i ∈ l, ∀ j ∈ l, 0 < gsd f g i → gsd f g j < 0 → 0 < gtn i j → gLb ((gtp f g i j : Int) : Rat) ((gtn i j : Int) : Rat) (!i.2.2.2 && !j.2.2.2) t
theorem gLb_dm {T B : Int} {s : Bool} {t : Rat} : gLb (T : Rat) (B : Rat) (!s) t ↔ gdm ((-B : Int) : Rat) ((-T : Int) : Rat) s t := by
  unfold gLb gdm
  have e : ((-B : Int) : Rat) * t = -((B : Rat) * t) := by push_cast; grind
  have e2 : ((-T : Int) : Rat) = -(T : Rat) := by push_cast; rfl
  rw [e, e2]
  cases s <;> simp only [Bool.not_false, Bool.not_true, if_true, Bool.false_eq_true, if_false] <;> constructor <;> intro h <;> grind
theorem gdm_mono {n m t t0 : Rat} {s : Bool} (hn : 0 ≤ n) (ht : t ≤ t0) (h : gdm n m s t0) : gdm n m s t := by
  have a := Rat.mul_le_mul_of_nonneg_left ht hn
  unfold gdm at *
  split at h <;> rename_i hb
  · rw [if_pos hb]; grind
  · rw [if_neg hb]; grind
theorem g_row (l : List gC) (f g : Int) (hfg : ¬ (f = 0 ∧ g = 0)) (hsat : gSat l) (e : gE) (he : 0 ≤ e.2.1) (hE : ∀ t, gLo e t ↔ gLowR l f g t) :
    (e.2.1 = 0 → ∀ v : Rat, ∃ x y : Rat, (∀ m ∈ l, gst m x y) ∧ (f : Rat) * x + (g : Rat) * y < v) ∧
    (e.2.1 ≠ 0 → (∀ x y : Rat, (∀ m ∈ l, gst m x y) → (e.1 : Rat) ≤ (e.2.1 : Rat) * ((f : Rat) * x + (g : Rat) * y)) ∧ (∀ v : Rat, (e.1 : Rat) < (e.2.1 : Rat) * v → ∃ x y : Rat, (∀ m ∈ l, gst m x y) ∧ (f : Rat) * x + (g : Rat) * y < v) ∧
      (e.2.2 = true ↔ ∃ x y : Rat, (∀ m ∈ l, gst m x y) ∧ (e.2.1 : Rat) * ((f : Rat) * x + (g : Rat) * y) = (e.1 : Rat))) := by
  have rot := g_rot l f g hfg
  have low : ∀ t, (∃ x y : Rat, (∀ m ∈ l, gst m x y) ∧ (f : Rat) * x + (g : Rat) * y = t) → gLowR l f g t := by
    intro t ht
    obtain ⟨h0, hp⟩ := (rot t).mp ht
    refine ⟨fun m hm hz hn => ?_, fun i hi j hj h1 h2 h3 => ?_⟩
    · have := h0 m hm hz
      rw [gLb_dm]
      have e1 : - -gal f g m = gal f g m := Int.neg_neg _
      have e2 : -(-m.2.2.1 * (f * f + g * g)) = (f * f + g * g) * m.2.2.1 := by grind
      rw [e1, e2]; exact this
    · have := hp i hi j hj h1 h2
      rw [← Bool.not_or, gLb_dm]; exact this
  obtain ⟨x0, y0, hs0⟩ := hsat
  generalize ht0 : (f : Rat) * x0 + (g : Rat) * y0 = t0
  have h00 : ∃ x y : Rat, (∀ m ∈ l, gst m x y) ∧ (f : Rat) * x + (g : Rat) * y = t0 := ⟨x0, y0, hs0, ht0⟩
  have down : ∀ t, t ≤ t0 → gLowR l f g t → ∃ x y : Rat, (∀ m ∈ l, gst m x y) ∧ (f : Rat) * x + (g : Rat) * y = t := by
    intro t ht hl
    obtain ⟨h0, hp⟩ := (rot t0).mp h00
    refine (rot t).mpr ⟨fun m hm hz => ?_, fun i hi j hj h1 h2 => ?_⟩
    · by_cases hn : gal f g m < 0
      · have := hl.1 m hm hz hn
        rw [gLb_dm] at this
        have e1 : - -gal f g m = gal f g m := Int.neg_neg _
        have e2 : -(-m.2.2.1 * (f * f + g * g)) = (f * f + g * g) * m.2.2.1 := by grind
        rw [e1, e2] at this; exact this
      · exact gdm_mono (Rat.intCast_nonneg.mpr (by omega)) ht (h0 m hm hz)
    · by_cases hn : 0 < gtn i j
      · have := hl.2 i hi j hj h1 h2 hn
        rw [← Bool.not_or, gLb_dm] at this; exact this
      · exact gdm_mono (Rat.intCast_nonneg.mpr (by omega)) ht (hp i hi j hj h1 h2)
  constructor
  · intro hz v
    have hall : ∀ t, gLowR l f g t := fun t => (hE t).mp (fun z => absurd hz z)
    rcases Rat.le_total (a := t0) (b := v - 1) with h | h
    · exact ⟨x0, y0, hs0, by rw [ht0]; grind⟩
    · obtain ⟨x, y, h1, h2⟩ := down (v - 1) h (hall _)
      exact ⟨x, y, h1, by rw [h2]; grind⟩
  · intro hnz
    have hB : (0 : Rat) < (e.2.1 : Rat) := Rat.intCast_pos.mpr (by omega)
    have hc : (e.1 : Rat) / (e.2.1 : Rat) * (e.2.1 : Rat) = (e.1 : Rat) := Rat.div_mul_cancel (Rat.ne_of_gt hB)
    generalize (e.1 : Rat) / (e.2.1 : Rat) = L at hc
    have lb : ∀ t, gLowR l f g t → gLb (e.1 : Rat) (e.2.1 : Rat) e.2.2 t := fun t h => (hE t).mpr h hnz
    have lb1 : ∀ t, gLowR l f g t → L ≤ t := fun t h => by
      have h1 := lb t h
      have h2 : (e.1 : Rat) ≤ (e.2.1 : Rat) * t := by unfold gLb at h1; split at h1; exact h1; exact Rat.le_of_lt h1
      exact Rat.le_of_mul_le_mul_left (show (e.2.1 : Rat) * L ≤ (e.2.1 : Rat) * t by grind) hB
    refine ⟨fun x y hs => ?_, fun v hv => ?_, fun hk => ?_, fun ⟨x, y, hs, heq⟩ => ?_⟩
    · have h1 := lb _ (low _ ⟨x, y, hs, rfl⟩)
      unfold gLb at h1; split at h1; exact h1; exact Rat.le_of_lt h1
    · have hLv : L < v := (Rat.mul_lt_mul_left hB).mp (show (e.2.1 : Rat) * L < (e.2.1 : Rat) * v by grind)
      rcases Rat.le_total (a := t0) (b := (L + v) / 2) with h | h
      · exact ⟨x0, y0, hs0, by rw [ht0]; grind⟩
      · have hmid : L < (L + v) / 2 := by grind
        have hlow : gLowR l f g ((L + v) / 2) := (hE _).mp (fun _ => by
          have := Rat.mul_lt_mul_of_pos_left hmid hB
          unfold gLb; split <;> grind)
        obtain ⟨x, y, h1, h2⟩ := down _ h hlow
        exact ⟨x, y, h1, by rw [h2]; grind⟩
    · have hlow : gLowR l f g L := (hE _).mp (fun _ => by unfold gLb; rw [if_pos hk]; grind)
      obtain ⟨x, y, h1, h2⟩ := down L (lb1 t0 (low t0 h00)) hlow
      exact ⟨x, y, h1, by rw [h2]; grind⟩
    · have h1 := lb _ (low _ ⟨x, y, hs, rfl⟩)
      unfold gLb at h1
      split at h1 <;> rename_i hb
      · exact hb
      · exfalso; rw [heq] at h1; exact Rat.lt_irrefl h1
/-- the infimum of the form over some points is T / B; k: it is taken -/
def gInf (S : Rat → Rat → Prop) (f g T B : Int) (k : Bool) : Prop := 0 < B ∧ (∀ x y : Rat, S x y → (T : Rat) ≤ (B : Rat) * ((f : Rat) * x + (g : Rat) * y)) ∧ (∀ v : Rat, (T : Rat) < (B : Rat) * v → ∃ x y : Rat, S x y ∧ (f : Rat) * x + (g : Rat) * y < v) ∧
  (k = true ↔ ∃ x y : Rat, S x y ∧ (B : Rat) * ((f : Rat) * x + (g : Rat) * y) = (T : Rat))
theorem gInf_lt {S : Rat → Rat → Prop} {f g T B T' B' : Int} {k k' : Bool} (h : gInf S f g T B k) (h' : gInf S f g T' B' k') : ¬ T' * B < T * B' := by
  intro hlt
  obtain ⟨hB, hle, -, -⟩ := h
  obtain ⟨hB', -, hap, -⟩ := h'
  have b1 : (0 : Rat) < (B : Rat) := Rat.intCast_pos.mpr hB
  have b2 : (0 : Rat) < (B' : Rat) := Rat.intCast_pos.mpr hB'
  have c1 : (T : Rat) / (B : Rat) * (B : Rat) = (T : Rat) := Rat.div_mul_cancel (Rat.ne_of_gt b1)
  generalize (T : Rat) / (B : Rat) = L at c1
  have hl := castM hlt
  have : (T' : Rat) < (B' : Rat) * L := by
    apply (Rat.mul_lt_mul_left b1).mp
    have e : (B : Rat) * ((B' : Rat) * L) = (T : Rat) * (B' : Rat) := by rw [← c1]; grind
    rw [e]; grind
  obtain ⟨x, y, hs, hv⟩ := hap L this
  have h2 := hle x y hs
  have h3 := Rat.mul_lt_mul_of_pos_left hv b1
  grind
theorem gInf_uniq {S : Rat → Rat → Prop} {f g T B T' B' : Int} {k k' : Bool} (h : gInf S f g T B k) (h' : gInf S f g T' B' k') : T' * B = T * B' ∧ k = k' := by
  have e : T' * B = T * B' := by
    have h1 := gInf_lt h h'
    have h2 := gInf_lt h' h
    have e1 : T * B' = B' * T := Int.mul_comm _ _
    omega
  refine ⟨e, ?_⟩
  have b1 : (0 : Rat) < (B : Rat) := Rat.intCast_pos.mpr h.1
  have b2 : (0 : Rat) < (B' : Rat) := Rat.intCast_pos.mpr h'.1
  have eR := castE e
  have key : ∀ z : Rat, (B : Rat) * z = (T : Rat) ↔ (B' : Rat) * z = (T' : Rat) := fun z => by
    constructor
    · intro hz
      have : (B : Rat) * ((B' : Rat) * z) = (B : Rat) * (T' : Rat) := by rw [← Rat.mul_assoc, Rat.mul_comm (B : Rat), Rat.mul_assoc, hz]; grind
      have h3 := congrArg (fun q => q / (B : Rat)) this
      rw [Rat.mul_comm (B : Rat), Rat.mul_comm (B : Rat), Rat.mul_div_cancel (Rat.ne_of_gt b1), Rat.mul_div_cancel (Rat.ne_of_gt b1)] at h3
      exact h3
    · intro hz
      have : (B' : Rat) * ((B : Rat) * z) = (B' : Rat) * (T : Rat) := by rw [← Rat.mul_assoc, Rat.mul_comm (B' : Rat), Rat.mul_assoc, hz]; grind
      have h3 := congrArg (fun q => q / (B' : Rat)) this
      rw [Rat.mul_comm (B' : Rat), Rat.mul_comm (B' : Rat), Rat.mul_div_cancel (Rat.ne_of_gt b2), Rat.mul_div_cancel (Rat.ne_of_gt b2)] at h3
      exact h3
  have hk : k = true ↔ k' = true := by
    rw [h.2.2.2, h'.2.2.2]
    constructor
    · rintro ⟨x, y, h1, h2⟩; exact ⟨x, y, h1, (key _).mp h2⟩
    · rintro ⟨x, y, h1, h2⟩; exact ⟨x, y, h1, (key _).mpr h2⟩
  exact Bool.eq_iff_iff.mpr hk
/-- two sets of points: the lesser one, or both -/
def gLw (T B : Int) (k : Bool) (T' B' : Int) (k' : Bool) : gE := if T' * B < T * B' then (T', B', k') else if T' * B = T * B' ∧ k' = true then (T, B, true) else (T, B, k)
theorem gInf_or {S S' : Rat → Rat → Prop} {f g T B T' B' : Int} {k k' : Bool} (h : gInf S f g T B k) (h' : gInf S' f g T' B' k') : gInf (fun x y => S x y ∨ S' x y) f g (gLw T B k T' B' k').1 (gLw T B k T' B' k').2.1 (gLw T B k T' B' k').2.2 := by
  obtain ⟨hB, hle, hap, hk⟩ := h
  obtain ⟨hB', hle', hap', hk'⟩ := h'
  have b1 : (0 : Rat) < (B : Rat) := Rat.intCast_pos.mpr hB
  have b2 : (0 : Rat) < (B' : Rat) := Rat.intCast_pos.mpr hB'
  unfold gLw
  split <;> rename_i c1
  · have cR := castM c1
    refine ⟨hB', fun x y hs => ?_, fun v hv => ?_, hk'.trans ⟨?_, ?_⟩⟩
    · rcases hs with hs | hs
      · have h1 := Rat.mul_le_mul_of_nonneg_left (hle x y hs) (Rat.le_of_lt b2)
        exact Rat.le_of_mul_le_mul_left (show (B : Rat) * (T' : Rat) ≤ (B : Rat) * ((B' : Rat) * ((f : Rat) * x + (g : Rat) * y)) by grind) b1
      · exact hle' x y hs
    · obtain ⟨x, y, h1, h2⟩ := hap' v hv; exact ⟨x, y, Or.inr h1, h2⟩
    · rintro ⟨x, y, h1, h2⟩; exact ⟨x, y, Or.inr h1, h2⟩
    · rintro ⟨x, y, h1 | h1, h2⟩
      · exfalso
        have h3 := Rat.mul_le_mul_of_nonneg_left (hle x y h1) (Rat.le_of_lt b2)
        have h4 : (B : Rat) * ((B' : Rat) * ((f : Rat) * x + (g : Rat) * y)) = (B : Rat) * (T' : Rat) := by rw [h2]
        grind
      · exact ⟨x, y, h1, h2⟩
  · have low : ∀ x y, S' x y → (T : Rat) ≤ (B : Rat) * ((f : Rat) * x + (g : Rat) * y) := fun x y hs => by
      have h1 := Rat.mul_le_mul_of_nonneg_left (hle' x y hs) (Rat.le_of_lt b1)
      have c2 : T * B' ≤ T' * B := by omega
      have c3 : (T : Rat) * (B' : Rat) ≤ (T' : Rat) * (B : Rat) := by
        have := Rat.intCast_le_intCast.mpr c2
        simpa [Rat.intCast_mul] using this
      exact Rat.le_of_mul_le_mul_left (show (B' : Rat) * (T : Rat) ≤ (B' : Rat) * ((B : Rat) * ((f : Rat) * x + (g : Rat) * y)) by grind) b2
    split <;> rename_i c2
    · refine ⟨hB, fun x y hs => hs.elim (hle x y) (low x y), fun v hv => ?_, ⟨fun _ => ?_, fun _ => rfl⟩⟩
      · obtain ⟨x, y, h1, h2⟩ := hap v hv; exact ⟨x, y, Or.inl h1, h2⟩
      · obtain ⟨x, y, h1, h2⟩ := hk'.mp c2.2
        refine ⟨x, y, Or.inr h1, ?_⟩
        have eR := castE c2.1
        have : (B' : Rat) * ((B : Rat) * ((f : Rat) * x + (g : Rat) * y)) = (B' : Rat) * (T : Rat) := by
          rw [← Rat.mul_assoc, Rat.mul_comm (B' : Rat), Rat.mul_assoc, h2]; grind
        have h3 := congrArg (fun q => q / (B' : Rat)) this
        rw [Rat.mul_comm (B' : Rat), Rat.mul_comm (B' : Rat), Rat.mul_div_cancel (Rat.ne_of_gt b2), Rat.mul_div_cancel (Rat.ne_of_gt b2)] at h3
        exact h3
    · refine ⟨hB, fun x y hs => hs.elim (hle x y) (low x y), fun v hv => ?_, hk.trans ⟨?_, ?_⟩⟩
      · obtain ⟨x, y, h1, h2⟩ := hap v hv; exact ⟨x, y, Or.inl h1, h2⟩
      · rintro ⟨x, y, h1, h2⟩; exact ⟨x, y, Or.inl h1, h2⟩
      · rintro ⟨x, y, h1 | h1, h2⟩
        · exact ⟨x, y, h1, h2⟩
        · exfalso
          -- a point of S' at T / B: then S' has T / B as its infimum, taken
          have g1 := hle' x y h1
          have g2 : T' * B ≤ T * B' := by
            have m1 := Rat.mul_le_mul_of_nonneg_left g1 (Rat.le_of_lt b1)
            have m2 : (B : Rat) * ((B' : Rat) * ((f : Rat) * x + (g : Rat) * y)) = (B' : Rat) * (T : Rat) := by rw [← h2]; grind
            apply Rat.intCast_le_intCast.mp
            have : ((T' * B : Int) : Rat) = (B : Rat) * (T' : Rat) := by push_cast; grind
            have e2 : ((T * B' : Int) : Rat) = (B' : Rat) * (T : Rat) := by push_cast; grind
            rw [this, e2]; grind
          have g3 : T' * B = T * B' := by omega
          apply c2
          refine ⟨g3, hk'.mpr ⟨x, y, h1, ?_⟩⟩
          have eR := castE g3
          have : (B : Rat) * ((B' : Rat) * ((f : Rat) * x + (g : Rat) * y)) = (B : Rat) * (T' : Rat) := by
            rw [← Rat.mul_assoc, Rat.mul_comm (B : Rat), Rat.mul_assoc, h2]; grind
          have h3 := congrArg (fun q => q / (B : Rat)) this
          rw [Rat.mul_comm (B : Rat), Rat.mul_comm (B : Rat), Rat.mul_div_cancel (Rat.ne_of_gt b1), Rat.mul_div_cancel (Rat.ne_of_gt b1)] at h3
          exact h3
