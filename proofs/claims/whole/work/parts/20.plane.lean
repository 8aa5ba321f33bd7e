/-! The plane over the rationals: members a x + b y <= c (or <), points, corners, ways. No word of the machine here. -/
abbrev gC : Type := Int × Int × Int × Bool
def gv (q : gC) (x y : Rat) : Rat := (q.1 : Rat) * x + (q.2.1 : Rat) * y
def gk (q : gC) : Rat := (q.2.2.1 : Rat)
/-- the member holds at a point, its strictness left aside; with it -/
def gcl (q : gC) (x y : Rat) : Prop := gv q x y ≤ gk q
def gst (q : gC) (x y : Rat) : Prop := if q.2.2.2 = true then gv q x y < gk q else gv q x y ≤ gk q
def gSat (l : List gC) : Prop := ∃ x y : Rat, ∀ q ∈ l, gst q x y
def gcr (p q : gC) : Int := p.1 * q.2.1 - q.1 * p.2.1
theorem gst_cl {q : gC} {x y : Rat} (h : gst q x y) : gcl q x y := by
  unfold gst at h; unfold gcl; split at h
  · exact Rat.le_of_lt h
  · exact h
theorem gv_move (q : gC) (x y t dx dy : Rat) : gv q (x + t * dx) (y + t * dy) = gv q x y + t * gv q dx dy := by unfold gv; grind
theorem gv_neg (q : gC) (dx dy : Rat) : gv q (-dx) (-dy) = -gv q dx dy := by unfold gv; grind
theorem g_mulpos {a b : Rat} (ha : 0 ≤ a) (h : 0 < a * b) : 0 < b := by
  apply Rat.not_le.mp
  intro hb
  have h1 : 0 ≤ a * (-b) := Rat.mul_nonneg ha (by grind)
  have h2 : a * (-b) = -(a * b) := by grind
  grind
/-- one step of the way: how far one may go from a point in a direction, where something stops it -/
theorem g_ratio (x y dx dy : Rat) : ∀ (l : List gC), (∀ q ∈ l, gcl q x y) → (∃ q ∈ l, 0 < gv q dx dy) → ∃ t : Rat, 0 ≤ t ∧ (∃ k ∈ l, 0 < gv k dx dy ∧ gv k x y + t * gv k dx dy = gk k) ∧ ∀ q ∈ l, gv q x y + t * gv q dx dy ≤ gk q := by
  intro l
  induction l with
  | nil => intro _ h; obtain ⟨q, hq, _⟩ := h; cases hq
  | cons a l ih =>
    intro hf hex
    have hfl : ∀ q ∈ l, gv q x y ≤ gk q := fun q hq => hf q (List.mem_cons_of_mem _ hq)
    have ha : gv a x y ≤ gk a := hf a List.mem_cons_self
    have stop : 0 < gv a dx dy → (∀ t : Rat, 0 ≤ t → gv a x y + t * gv a dx dy ≤ gk a → ∀ q ∈ l, gv q x y + t * gv q dx dy ≤ gk q) → ∃ t : Rat, 0 ≤ t ∧ (∃ k ∈ a :: l, 0 < gv k dx dy ∧ gv k x y + t * gv k dx dy = gk k) ∧ ∀ q ∈ a :: l, gv q x y + t * gv q dx dy ≤ gk q := by
      intro hpos hrest
      have hne : gv a dx dy ≠ 0 := Rat.ne_of_gt hpos
      have ht : (gk a - gv a x y) / gv a dx dy * gv a dx dy = gk a - gv a x y := Rat.div_mul_cancel hne
      have ht0 : 0 ≤ (gk a - gv a x y) / gv a dx dy := by
        apply Rat.not_lt.mp
        intro h
        have := (Rat.div_lt_iff hpos).mp h
        grind
      have he : gv a x y + (gk a - gv a x y) / gv a dx dy * gv a dx dy = gk a := by rw [ht]; grind
      refine ⟨_, ht0, ⟨a, List.mem_cons_self, hpos, he⟩, fun q hq => ?_⟩
      rcases List.mem_cons.mp hq with h | h
      · subst h; rw [he]; exact Rat.le_refl
      · exact hrest _ ht0 (by rw [he]; exact Rat.le_refl) q h
    by_cases hl : ∃ q ∈ l, 0 < gv q dx dy
    · obtain ⟨t, ht, ⟨k, hk, hk1, hk2⟩, hall⟩ := ih hfl hl
      by_cases hat : gv a x y + t * gv a dx dy ≤ gk a
      · refine ⟨t, ht, ⟨k, List.mem_cons_of_mem _ hk, hk1, hk2⟩, fun q hq => ?_⟩
        rcases List.mem_cons.mp hq with h | h
        · subst h; exact hat
        · exact hall q h
      · have hat := Rat.not_le.mp hat
        have hpos : 0 < gv a dx dy := g_mulpos ht (by grind)
        refine stop hpos (fun t' h0 h1 q hq => ?_)
        have hq0 := hfl q hq
        have hq1 := hall q hq
        by_cases hg : gv q dx dy ≤ 0
        · have : 0 ≤ t' * (-gv q dx dy) := Rat.mul_nonneg h0 (by grind)
          have h2 : t' * (-gv q dx dy) = -(t' * gv q dx dy) := by grind
          grind
        · have hg := Rat.not_le.mp hg
          have hlt : t' < t := by
            apply Rat.not_le.mp
            intro hle
            have := Rat.mul_le_mul_of_nonneg_right hle (Rat.le_of_lt hpos)
            grind
          have := Rat.mul_le_mul_of_nonneg_right (Rat.le_of_lt hlt) (Rat.le_of_lt hg)
          grind
    · have hl0 : ∀ q ∈ l, gv q dx dy ≤ 0 := fun q hq => Rat.not_lt.mp (fun h => hl ⟨q, hq, h⟩)
      have hpos : 0 < gv a dx dy := by
        obtain ⟨q, hq, h⟩ := hex
        rcases List.mem_cons.mp hq with e | e
        · subst e; exact h
        · exact absurd ⟨q, e, h⟩ hl
      refine stop hpos (fun t' h0 _ q hq => ?_)
      have hq0 := hfl q hq
      have : 0 ≤ t' * (-gv q dx dy) := Rat.mul_nonneg h0 (by have := hl0 q hq; grind)
      have h2 : t' * (-gv q dx dy) = -(t' * gv q dx dy) := by grind
      grind
/-- a form is less, or the same and the second one not greater -/
def gle (p1 q1 p2 q2 x y x' y' : Rat) : Prop := p1 * x + q1 * y < p1 * x' + q1 * y' ∨ (p1 * x + q1 * y = p1 * x' + q1 * y' ∧ p2 * x + q2 * y ≤ p2 * x' + q2 * y')
def gng (p1 q1 p2 q2 dx dy : Rat) : Prop := p1 * dx + q1 * dy < 0 ∨ (p1 * dx + q1 * dy = 0 ∧ p2 * dx + q2 * dy < 0)
theorem gle_refl {p1 q1 p2 q2 x y : Rat} : gle p1 q1 p2 q2 x y x y := Or.inr ⟨rfl, Rat.le_refl⟩
theorem gle_trans {p1 q1 p2 q2 x y x' y' x'' y'' : Rat} (h : gle p1 q1 p2 q2 x y x' y') (h' : gle p1 q1 p2 q2 x' y' x'' y'') : gle p1 q1 p2 q2 x y x'' y'' := by
  unfold gle at *; grind
theorem gle_move {p1 q1 p2 q2 x y dx dy t : Rat} (ht : 0 ≤ t) (h : gng p1 q1 p2 q2 dx dy ∨ (p1 * dx + q1 * dy = 0 ∧ p2 * dx + q2 * dy = 0)) : gle p1 q1 p2 q2 (x + t * dx) (y + t * dy) x y := by
  have e1 : p1 * (x + t * dx) + q1 * (y + t * dy) = p1 * x + q1 * y + t * (p1 * dx + q1 * dy) := by grind
  have e2 : p2 * (x + t * dx) + q2 * (y + t * dy) = p2 * x + q2 * y + t * (p2 * dx + q2 * dy) := by grind
  unfold gle
  rw [e1, e2]
  rcases h with (h | ⟨h, h'⟩) | ⟨h, h'⟩
  · by_cases h0 : t = 0
    · subst h0; right; constructor <;> grind
    · left
      have ht' : 0 < t := Rat.lt_of_le_of_ne ht (Ne.symm h0)
      have := Rat.mul_pos ht' (show 0 < -(p1 * dx + q1 * dy) by grind)
      grind
  · right
    rw [h]
    have := Rat.mul_nonneg ht (show 0 ≤ -(p2 * dx + q2 * dy) by grind)
    constructor <;> grind
  · right
    rw [h, h']
    constructor <;> grind
/-- a member's line, one way or the other -/
def gway (i : gC) (dx dy : Rat) : Prop := (dx = (i.2.1 : Rat) ∧ dy = -(i.1 : Rat)) ∨ (dx = -(i.2.1 : Rat) ∧ dy = (i.1 : Rat))
theorem gway_v {i q : gC} {dx dy : Rat} (h : gway i dx dy) : gv q dx dy = ((gcr q i : Int) : Rat) ∨ gv q dx dy = -((gcr q i : Int) : Rat) := by
  unfold gv gcr
  rcases h with ⟨rfl, rfl⟩ | ⟨rfl, rfl⟩
  · left; push_cast; grind
  · right; push_cast; grind
/-- along a member's line to where the next member stops it, no form greater there; or the line is a way on which the form falls without end; (not all members are parallel to it) -/
theorem g_along (l : List gC) (i : gC) (hnb : ∃ j ∈ l, gcr j i ≠ 0) (x y : Rat) (hf : ∀ q ∈ l, gcl q x y) (p1 q1 p2 q2 : Rat) :
    (∃ (x' y' : Rat), (∀ q ∈ l, gcl q x' y') ∧ gv i x' y' = gv i x y ∧ (∃ k ∈ l, gcr k i ≠ 0 ∧ gv k x' y' = gk k) ∧ gle p1 q1 p2 q2 x' y' x y) ∨ (∃ dx dy : Rat, gway i dx dy ∧ (∀ q ∈ l, gv q dx dy ≤ 0) ∧ gng p1 q1 p2 q2 dx dy) := by
  have go : ∀ dx dy : Rat, gway i dx dy → (gng p1 q1 p2 q2 dx dy ∨ (p1 * dx + q1 * dy = 0 ∧ p2 * dx + q2 * dy = 0)) → (∃ q ∈ l, 0 < gv q dx dy) → ∃ (x' y' : Rat), (∀ q ∈ l, gcl q x' y') ∧ gv i x' y' = gv i x y ∧ (∃ k ∈ l, gcr k i ≠ 0 ∧ gv k x' y' = gk k) ∧ gle p1 q1 p2 q2 x' y' x y := by
    intro dx dy hw hn hs
    obtain ⟨t, ht, ⟨k, hk, hk1, hk2⟩, hall⟩ := g_ratio x y dx dy l hf hs
    refine ⟨x + t * dx, y + t * dy, fun q hq => ?_, ?_, ⟨k, hk, fun h0 => ?_, ?_⟩, gle_move ht hn⟩
    · unfold gcl; rw [gv_move]; exact hall q hq
    · rw [gv_move]
      have : gv i dx dy = 0 := by
        rcases gway_v (q := i) hw with h | h <;> rw [h] <;> simp [gcr, Int.mul_comm]
      rw [this]; grind
    · rcases gway_v (q := k) hw with h | h <;> rw [h, h0] at hk1 <;> exact absurd hk1 (by decide)
    · rw [gv_move]; exact hk2
  by_cases h1 : gng p1 q1 p2 q2 (i.2.1 : Rat) (-(i.1 : Rat))
  · by_cases hs : ∃ q ∈ l, 0 < gv q (i.2.1 : Rat) (-(i.1 : Rat))
    · exact Or.inl (go _ _ (Or.inl ⟨rfl, rfl⟩) (Or.inl h1) hs)
    · exact Or.inr ⟨_, _, Or.inl ⟨rfl, rfl⟩, fun q hq => Rat.not_lt.mp (fun h => hs ⟨q, hq, h⟩), h1⟩
  · by_cases h2 : gng p1 q1 p2 q2 (-(i.2.1 : Rat)) (i.1 : Rat)
    · by_cases hs : ∃ q ∈ l, 0 < gv q (-(i.2.1 : Rat)) (i.1 : Rat)
      · exact Or.inl (go _ _ (Or.inr ⟨rfl, rfl⟩) (Or.inl h2) hs)
      · exact Or.inr ⟨_, _, Or.inr ⟨rfl, rfl⟩, fun q hq => Rat.not_lt.mp (fun h => hs ⟨q, hq, h⟩), h2⟩
    · left
      have hz : p1 * (i.2.1 : Rat) + q1 * (-(i.1 : Rat)) = 0 ∧ p2 * (i.2.1 : Rat) + q2 * (-(i.1 : Rat)) = 0 := by
        unfold gng at h1 h2; grind
      obtain ⟨j, hj, hne⟩ := hnb
      have hw1 : gway i (i.2.1 : Rat) (-(i.1 : Rat)) := Or.inl ⟨rfl, rfl⟩
      have hw2 : gway i (-(i.2.1 : Rat)) (i.1 : Rat) := Or.inr ⟨rfl, rfl⟩
      have hv : gv j (i.2.1 : Rat) (-(i.1 : Rat)) = ((gcr j i : Int) : Rat) := by
        unfold gv gcr; push_cast; grind
      by_cases hp : 0 < gcr j i
      · exact go _ _ hw1 (Or.inr hz) ⟨j, hj, by rw [hv]; exact Rat.intCast_pos.mpr hp⟩
      · refine go _ _ hw2 (Or.inr ⟨by grind, by grind⟩) ⟨j, hj, ?_⟩
        have h3 : gv j (-(i.2.1 : Rat)) (i.1 : Rat) = ((-gcr j i : Int) : Rat) := by
          unfold gv gcr; push_cast; grind
        rw [h3]; exact Rat.intCast_pos.mpr (by omega)
/-- from any point to a corner where no form is greater, or a way on which it falls -/
theorem g_lp (l : List gC) (i0 : gC) (hi0 : i0 ∈ l) (hz : ∀ q ∈ l, ∃ j ∈ l, gcr j q ≠ 0) (x y : Rat) (hf : ∀ q ∈ l, gcl q x y) (p1 q1 p2 q2 : Rat) :
    (∃ i ∈ l, ∃ j ∈ l, gcr i j ≠ 0 ∧ ∃ (x' y' : Rat), (∀ q ∈ l, gcl q x' y') ∧ gv i x' y' = gk i ∧ gv j x' y' = gk j ∧ gle p1 q1 p2 q2 x' y' x y) ∨ (∃ i ∈ l, ∃ dx dy : Rat, gway i dx dy ∧ (∀ q ∈ l, gv q dx dy ≤ 0) ∧ gng p1 q1 p2 q2 dx dy) := by
  rcases g_along l i0 (hz i0 hi0) x y hf p1 q1 p2 q2 with ⟨x1, y1, hf1, -, ⟨k, hk, -, hk2⟩, hle1⟩ | ⟨dx, dy, hw, hr, hn⟩
  · rcases g_along l k (hz k hk) x1 y1 hf1 p1 q1 p2 q2 with ⟨x2, y2, hf2, hs, ⟨j, hj, hne, hj2⟩, hle2⟩ | ⟨dx, dy, hw, hr, hn⟩
    · exact Or.inl ⟨j, hj, k, hk, hne, x2, y2, hf2, hj2, by rw [hs]; exact hk2, gle_trans hle2 hle1⟩
    · exact Or.inr ⟨k, hk, dx, dy, hw, hr, hn⟩
  · exact Or.inr ⟨i0, hi0, dx, dy, hw, hr, hn⟩
