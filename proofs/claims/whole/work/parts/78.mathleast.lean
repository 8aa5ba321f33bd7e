/-! Least values over one row: by its ends, by its corners and ways. -/
abbrev gPt (ls : List gC) : Rat → Rat → Prop := fun x y => ∀ m ∈ ls, gst m x y
theorem g_down {e : gE} {t t0 : Rat} (he : 0 ≤ e.2.1) (ht : t ≤ t0) (h : gEs e t0) : gEs e t := fun hn => gdm_mono (Rat.intCast_nonneg.mpr he) ht (h hn)
theorem g_ray {S : Rat → Rat → Prop} {f g c : Int} (hc : 0 < c) (u : Rat → Rat → Rat) (hu : ∀ x y, (f : Rat) * x + (g : Rat) * y = (c : Rat) * u x y) (hs : ∀ t, ∃ x y, u x y = t) {lo hi : gE} (h0 : 0 ≤ lo.2.1) (h1 : 0 ≤ hi.2.1) (hS : ∀ x y, S x y ↔ gEs lo (-(u x y)) ∧ gEs hi (u x y)) (hne : ∃ x y, S x y) :
    (lo.2.1 = 0 → ∀ v : Rat, ∃ x y : Rat, S x y ∧ (f : Rat) * x + (g : Rat) * y < v) ∧ (lo.2.1 ≠ 0 → gInf S f g (c * -lo.1) lo.2.1 (!lo.2.2)) := by
  obtain ⟨x0, y0, hp⟩ := hne
  have cR : (0 : Rat) < (c : Rat) := Rat.intCast_pos.mpr hc
  obtain ⟨p1, p2⟩ := (hS x0 y0).mp hp
  generalize ht0 : u x0 y0 = t0 at p1 p2
  constructor
  · intro hz v
    have hv : v / (c : Rat) * (c : Rat) = v := Rat.div_mul_cancel (Rat.ne_of_gt cR)
    generalize v / (c : Rat) = w at hv
    rcases Rat.le_total (a := t0) (b := w - 1) with h | h
    · refine ⟨x0, y0, hp, ?_⟩
      rw [hu, ht0, ← hv]
      have := Rat.mul_lt_mul_of_pos_left (show t0 < w by grind) cR
      grind
    · obtain ⟨x, y, hxy⟩ := hs (w - 1)
      refine ⟨x, y, (hS x y).mpr ⟨fun z => absurd hz z, by rw [hxy]; exact g_down h1 h p2⟩, ?_⟩
      rw [hu, hxy, ← hv]
      have := Rat.mul_lt_mul_of_pos_left (show w - 1 < w by grind) cR
      grind
  · intro hz
    have hD : 0 < lo.2.1 := by omega
    have dR : (0 : Rat) < (lo.2.1 : Rat) := Rat.intCast_pos.mpr hD
    have hL : (-(lo.1 : Rat)) / (lo.2.1 : Rat) * (lo.2.1 : Rat) = -(lo.1 : Rat) := Rat.div_mul_cancel (Rat.ne_of_gt dR)
    generalize (-(lo.1 : Rat)) / (lo.2.1 : Rat) = L at hL
    have hT : ((c * -lo.1 : Int) : Rat) = (c : Rat) * (L * (lo.2.1 : Rat)) := by rw [hL]; push_cast; grind
    have low : ∀ t, gEs lo (-t) → L ≤ t := fun t h => by
      have h2 := h hz
      have h3 : (lo.2.1 : Rat) * (-t) ≤ (lo.1 : Rat) := by unfold gdm at h2; split at h2; exact Rat.le_of_lt h2; exact h2
      exact Rat.le_of_mul_le_mul_left (show (lo.2.1 : Rat) * L ≤ (lo.2.1 : Rat) * t by grind) dR
    have cd : (0 : Rat) < (lo.2.1 : Rat) * (c : Rat) := Rat.mul_pos dR cR
    refine ⟨hD, fun x y h => ?_, fun v hv => ?_, ?_, ?_⟩
    · have := low _ ((hS x y).mp h).1
      rw [hT, hu]
      have h3 := Rat.mul_le_mul_of_nonneg_left this (Rat.le_of_lt cd)
      grind
    · have hv2 : v / (c : Rat) * (c : Rat) = v := Rat.div_mul_cancel (Rat.ne_of_gt cR)
      generalize v / (c : Rat) = w at hv2
      have hLw : L < w := (Rat.mul_lt_mul_left cd).mp (by rw [hT, ← hv2] at hv; grind)
      have key : ∀ t x y, u x y = t → t < w → (f : Rat) * x + (g : Rat) * y < v := fun t x y h1 h2 => by
        rw [hu, h1, ← hv2]
        have := Rat.mul_lt_mul_of_pos_left h2 cR
        grind
      rcases Rat.le_total (a := t0) (b := (L + w) / 2) with h | h
      · exact ⟨x0, y0, hp, key _ _ _ ht0 (by grind)⟩
      · obtain ⟨x, y, hxy⟩ := hs ((L + w) / 2)
        refine ⟨x, y, (hS x y).mpr ⟨fun _ => ?_, by rw [hxy]; exact g_down h1 h p2⟩, key _ _ _ hxy (by grind)⟩
        rw [hxy]
        have h3 := Rat.mul_lt_mul_of_pos_left (show L < (L + w) / 2 by grind) dR
        have h4 : (lo.2.1 : Rat) * -((L + w) / 2) < (lo.1 : Rat) := by grind
        unfold gdm; split; exact h4; exact Rat.le_of_lt h4
    · intro hk
      have hk : lo.2.2 = false := by simpa using hk
      obtain ⟨x, y, hxy⟩ := hs L
      refine ⟨x, y, (hS x y).mpr ⟨fun _ => ?_, by rw [hxy]; exact g_down h1 (low _ p1) p2⟩, by rw [hT, hu, hxy]; grind⟩
      rw [hxy]
      unfold gdm; rw [hk, if_neg (by decide)]; grind
    · rintro ⟨x, y, h, he⟩
      have h2 := ((hS x y).mp h).1 hz
      cases hk : lo.2.2 with
      | false => rfl
      | true =>
        exfalso
        unfold gdm at h2; rw [if_pos hk] at h2
        rw [hT, hu] at he
        have h3 := Rat.mul_lt_mul_of_pos_left h2 cR
        grind
/-- what is told of one row: whether the form is bounded below there, and its infimum -/
def gRowA (ls : List gC) (f g : Int) (b t : Int32) (N D : Int) : Prop := (b = 0 ∨ b = 1) ∧ (b = 0 → gUn ls f g) ∧ (b = 1 → gInf (gPt ls) f g N D (t == 1) ∧ (-40000000000 ≤ N ∧ N ≤ 40000000000) ∧ D ≤ 200000000)
theorem gdm_b {b m : Rat} {s : Bool} {t : Rat} : gdm b m s t → gdm b m s t := fun h => h
theorem g_along2 {ls : List gC} {f g : Int} {dx dy : Rat} (hsat : gSat ls) (hw : ∀ m ∈ ls, gv m dx dy ≤ 0) (hf : (f : Rat) * dx + (g : Rat) * dy < 0) : gUn ls f g := by
  obtain ⟨x, y, hp⟩ := hsat
  intro v
  generalize hq : (f : Rat) * dx + (g : Rat) * dy = q at hf
  have hq0 : (0 : Rat) < -q := by grind
  have fe : ∀ t : Rat, (f : Rat) * (x + t * dx) + (g : Rat) * (y + t * dy) = (f : Rat) * x + (g : Rat) * y + t * q := fun t => by rw [← hq]; grind
  have key : ∀ t : Rat, 0 ≤ t → ∀ m ∈ ls, gst m (x + t * dx) (y + t * dy) := fun t ht m hm => by
    have h1 := hp m hm
    have h2 := Rat.mul_le_mul_of_nonneg_left (hw m hm) ht
    unfold gst at h1 ⊢
    rw [gv_move]
    split at h1 <;> rename_i hb
    · rw [if_pos hb]; grind
    · rw [if_neg hb]; grind
  rcases Rat.le_total (a := v) (b := (f : Rat) * x + (g : Rat) * y) with h | h
  · have hz : ((f : Rat) * x + (g : Rat) * y - v + 1) / (-q) * (-q) = (f : Rat) * x + (g : Rat) * y - v + 1 := Rat.div_mul_cancel (Rat.ne_of_gt hq0)
    generalize ((f : Rat) * x + (g : Rat) * y - v + 1) / (-q) = t at hz
    have ht : 0 ≤ t := by
      apply Rat.le_of_mul_le_mul_left (c := -q) _ hq0
      grind
    exact ⟨_, _, key t ht, by rw [fe]; grind⟩
  · refine ⟨_, _, key (1 / (-q)) ?_, ?_⟩
    · have hz : 1 / (-q) * (-q) = 1 := Rat.div_mul_cancel (Rat.ne_of_gt hq0)
      apply Rat.le_of_mul_le_mul_left (c := -q) _ hq0
      grind
    · have hz : 1 / (-q) * (-q) = 1 := Rat.div_mul_cancel (Rat.ne_of_gt hq0)
      generalize 1 / (-q) = t at hz
      rw [fe]; grind
theorem g_sideUn {ls : List gC} {f g : Int} {h0 : gC} (hsat : gSat ls) (hcr : ∀ q ∈ ls, gcr h0 q = 0) (hne : f * h0.2.1 ≠ g * h0.1) : gUn ls f g := by
  have hz : ∀ m ∈ ls, (m.1 : Rat) * (h0.2.1 : Rat) = (h0.1 : Rat) * (m.2.1 : Rat) := fun m hm => castE (by have := hcr m hm; unfold gcr at this; omega)
  have hq : (f : Rat) * (h0.2.1 : Rat) - (g : Rat) * (h0.1 : Rat) ≠ 0 := fun z => hne (by
    have : ((f * h0.2.1 : Int) : Rat) = ((g * h0.1 : Int) : Rat) := by push_cast; grind
    exact Rat.intCast_inj.mp this)
  rcases (show (f : Rat) * (h0.2.1 : Rat) - (g : Rat) * (h0.1 : Rat) < 0 ∨ 0 < (f : Rat) * (h0.2.1 : Rat) - (g : Rat) * (h0.1 : Rat) by grind) with h | h
  · exact g_along2 (dx := (h0.2.1 : Rat)) (dy := -(h0.1 : Rat)) hsat (fun m hm => by have := hz m hm; unfold gv; grind) (by grind)
  · exact g_along2 (dx := -(h0.2.1 : Rat)) (dy := (h0.1 : Rat)) hsat (fun m hm => by have := hz m hm; unfold gv; grind) (by grind)
theorem g_nilUn {f g : Int} (h : ¬ (f = 0 ∧ g = 0)) : gUn [] f g := by
  have hN : (f : Rat) * (f : Rat) + (g : Rat) * (g : Rat) ≠ 0 := fun z => by
    have : ((f * f + g * g : Int) : Rat) = 0 := by push_cast; exact z
    have h2 := Rat.intCast_eq_zero_iff.mp this
    by_cases hf : f = 0
    · have hg : g ≠ 0 := fun w => h ⟨hf, w⟩
      have := g_sqpos hg; rw [hf] at h2; omega
    · have h3 := g_sqpos hf
      have h4 : 0 ≤ g * g := by
        by_cases hg : g = 0
        · rw [hg]; decide
        · exact Int.le_of_lt (g_sqpos hg)
      omega
  have hp : (0 : Rat) < (f : Rat) * (f : Rat) + (g : Rat) * (g : Rat) := by
    have h1 : (0 : Rat) ≤ (f : Rat) * (f : Rat) + (g : Rat) * (g : Rat) := by
      have a1 : (0 : Rat) ≤ ((f * f : Int) : Rat) := Rat.intCast_nonneg.mpr (by by_cases hg : f = 0; rw [hg]; decide; exact Int.le_of_lt (g_sqpos hg))
      have a2 : (0 : Rat) ≤ ((g * g : Int) : Rat) := Rat.intCast_nonneg.mpr (by by_cases hg : g = 0; rw [hg]; decide; exact Int.le_of_lt (g_sqpos hg))
      push_cast at a1 a2; grind
    grind
  exact g_along2 (ls := []) (dx := -(f : Rat)) (dy := -(g : Rat)) ⟨0, 0, fun q h => by cases h⟩ (fun m h => by cases h) (by grind)
theorem gInf_z {ls : List gC} (hs : gSat ls) : gInf (gPt ls) 0 0 0 1 true := by
  have z : ∀ x y : Rat, ((0 : Int) : Rat) * x + ((0 : Int) : Rat) * y = 0 := fun x y => by grind
  obtain ⟨x, y, h⟩ := hs
  refine ⟨by decide, fun x y _ => by rw [z]; grind, fun v hv => ⟨x, y, h, by rw [z]; grind⟩, ⟨fun _ => ⟨x, y, h, by rw [z]; grind⟩, fun _ => rfl⟩⟩
/-- corners -/
def gVal (f g : Int) (x y : Rat) : Rat := (f : Rat) * x + (g : Rat) * y
theorem g_corInf {ls : List gC} (hn : gNb ls) (hsat : gSat ls) {f g N D : Int} {k : Bool} (hD : 0 < D) (hw : ∀ dx dy : Rat, gWay ls dx dy → 0 ≤ gVal f g dx dy) (hc : ∃ x y : Rat, gCor ls x y ∧ (D : Rat) * gVal f g x y = (N : Rat)) (hlow : ∀ x y : Rat, gCor ls x y → (N : Rat) ≤ (D : Rat) * gVal f g x y)
    (hk : k = true ↔ ∀ m ∈ ls, m.2.2.2 = true → (∃ x y : Rat, gCor ls x y ∧ (D : Rat) * gVal f g x y = (N : Rat) ∧ gv m x y < gk m) ∨ ∃ dx dy : Rat, gWay ls dx dy ∧ gVal f g dx dy = 0 ∧ gv m dx dy < 0) : gInf (gPt ls) f g N D k := by
  have dR : (0 : Rat) < (D : Rat) := Rat.intCast_pos.mpr hD
  have hL : (N : Rat) / (D : Rat) * (D : Rat) = (N : Rat) := Rat.div_mul_cancel (Rat.ne_of_gt dR)
  generalize (N : Rat) / (D : Rat) = L at hL
  have ev : ∀ z : Rat, (D : Rat) * z = (N : Rat) ↔ z = L := fun z => ⟨fun h => g_cancel (Rat.ne_of_gt dR) (by rw [h, ← hL]; grind), fun h => by rw [h, ← hL]; grind⟩
  have el : ∀ z : Rat, (N : Rat) ≤ (D : Rat) * z ↔ L ≤ z := fun z => ⟨fun h => Rat.le_of_mul_le_mul_left (show (D : Rat) * L ≤ (D : Rat) * z by grind) dR, fun h => by have := Rat.mul_le_mul_of_nonneg_left h (Rat.le_of_lt dR); grind⟩
  obtain ⟨xc, yc, hcc, hcv⟩ := hc
  rw [ev] at hcv
  have hat := g_at hn (f : Rat) (g : Rat) L (fun x y h => (el _).mp (hlow x y h)) hw
  refine ⟨hD, fun x y h => ?_, fun v hv => ?_, ?_⟩
  · rw [el]
    rcases g_lp2 hn (fun m hm => gst_cl (h m hm)) (f : Rat) (g : Rat) 0 0 with ⟨x', y', h1, h2⟩ | ⟨dx, dy, h1, h2⟩
    · have h3 := (el _).mp (hlow x' y' h1)
      unfold gVal at h3; unfold gle at h2
      grind
    · have h3 := hw dx dy h1
      unfold gVal at h3; unfold gng at h2
      grind
  · obtain ⟨x0, y0, hp⟩ := hsat
    have hLv : L < v := (Rat.mul_lt_mul_left dR).mp (show (D : Rat) * L < (D : Rat) * v by grind)
    have key : ∀ t : Rat, 0 < t → t ≤ 1 → ∀ m ∈ ls, gst m (xc + t * (x0 - xc)) (yc + t * (y0 - yc)) := fun t h0 h1 m hm => by
      have a1 := hp m hm
      have a2 := hcc.2 m hm
      unfold gcl at a2
      have e : gv m (xc + t * (x0 - xc)) (yc + t * (y0 - yc)) = (1 - t) * gv m xc yc + t * gv m x0 y0 := by unfold gv; grind
      have b2 := Rat.mul_le_mul_of_nonneg_left a2 (show 0 ≤ 1 - t by grind)
      unfold gst at a1 ⊢
      rw [e]
      split at a1 <;> rename_i hb
      · rw [if_pos hb]
        have b1 := Rat.mul_lt_mul_of_pos_left a1 h0
        grind
      · rw [if_neg hb]
        have b1 := Rat.mul_le_mul_of_nonneg_left a1 (Rat.le_of_lt h0)
        grind
    have fv : ∀ t : Rat, (f : Rat) * (xc + t * (x0 - xc)) + (g : Rat) * (yc + t * (y0 - yc)) = L + t * (gVal f g x0 y0 - L) := fun t => by rw [← hcv]; unfold gVal; grind
    generalize hW : gVal f g x0 y0 - L = W at fv
    by_cases hW0 : W < v - L
    · exact ⟨_, _, key 1 (by grind) (by grind), by rw [fv]; grind⟩
    · have hWp : 0 < W := by grind
      have hq : (v - L) / (2 * W) * (2 * W) = v - L := Rat.div_mul_cancel (by grind)
      generalize (v - L) / (2 * W) = t at hq
      have h2W : 0 < 2 * W := by grind
      have t0 : 0 < t := by
        apply (Rat.mul_lt_mul_left h2W).mp
        grind
      have t1 : t ≤ 1 := by
        apply Rat.le_of_mul_le_mul_left (c := 2 * W) _ h2W
        grind
      exact ⟨_, _, key t t0 t1, by rw [fv]; grind⟩
  · rw [hk]
    have h2 : (∃ x y : Rat, gPt ls x y ∧ (D : Rat) * ((f : Rat) * x + (g : Rat) * y) = (N : Rat)) ↔ ∃ x y : Rat, (∀ m ∈ ls, gst m x y) ∧ (f : Rat) * x + (g : Rat) * y = L := ⟨fun ⟨x, y, h1, h2⟩ => ⟨x, y, h1, (ev _).mp h2⟩, fun ⟨x, y, h1, h2⟩ => ⟨x, y, h1, (ev _).mpr h2⟩⟩
    rw [h2, hat]
    constructor
    · intro h
      refine ⟨⟨xc, yc, hcc, hcv⟩, fun m hm hb => ?_⟩
      rcases h m hm hb with ⟨x, y, c1, c2, c3⟩ | h
      · exact Or.inl ⟨x, y, c1, (ev _).mp c2, c3⟩
      · exact Or.inr h
    · rintro ⟨-, h⟩ m hm hb
      rcases h m hm hb with ⟨x, y, c1, c2, c3⟩ | h
      · exact Or.inl ⟨x, y, c1, (ev _).mpr c2, c3⟩
      · exact Or.inr h
/-- seen so far of corners -/
def gHitF (ls : List gC) (f g : Int) (P : Nat → Nat → Prop) (v : Int32) (N D : Int) (set : Int64) : Prop := ∀ i j p q, P i j → i < j → ls[i]? = some p → ls[j]? = some q → gcr p q ≠ 0 → ∀ x y : Rat, gv p x y = gk p → gv q x y = gk q → (∀ m ∈ ls, gcl m x y) → v = 1 ∧ (N : Rat) ≤ (D : Rat) * gVal f g x y ∧ ((D : Rat) * gVal f g x y = (N : Rat) → ∀ k m, ls[k]? = some m → m.2.2.2 = true → gv m x y < gk m → lb set k = true)
def gSndF (ls : List gC) (f g : Int) (v : Int32) (N D : Int) (set : Int64) : Prop := (v = 0 ∨ v = 1) ∧ (v = 0 → set = 0) ∧ (v = 1 → (0 < D ∧ D ≤ 200000000) ∧ (-40000000000 ≤ N ∧ N ≤ 40000000000) ∧ ∃ x y : Rat, gCor ls x y ∧ (D : Rat) * gVal f g x y = (N : Rat)) ∧ ∀ k, lb set k = true → ∃ m, ls[k]? = some m ∧ m.2.2.2 = true ∧ ∃ x y : Rat, gCor ls x y ∧ (D : Rat) * gVal f g x y = (N : Rat) ∧ gv m x y < gk m
theorem gVal_frac {f g X Y D : Int} {x y : Rat} (hx : x * (D : Rat) = (X : Rat)) (hy : y * (D : Rat) = (Y : Rat)) : (D : Rat) * gVal f g x y = ((f * X + g * Y : Int) : Rat) := by
  rw [g_castlin, ← hx, ← hy]; unfold gVal; grind
theorem gHitF_no {ls : List gC} {f g : Int} {P P' : Nat → Nat → Prop} {v : Int32} {N D : Int} {set : Int64} {i j : Nat} {p q : gC} (h : gHitF ls f g P v N D set) (hP : ∀ i' j', P' i' j' → P i' j' ∨ (i' = i ∧ j' = j)) (hp : ls[i]? = some p) (hq : ls[j]? = some q) (hno : gcr p q ≠ 0 → ∃ X Y D : Int, gAt p q X Y D ∧ ¬ ∀ m ∈ ls, gd2 m X Y D) : gHitF ls f g P' v N D set := by
  intro i' j' p' q' hPP hij hp' hq' hg x y e1 e2 hall
  rcases hP i' j' hPP with z | ⟨rfl, rfl⟩
  · exact h i' j' p' q' z hij hp' hq' hg x y e1 e2 hall
  · rw [hp] at hp'; rw [hq] at hq'; cases hp'; cases hq'
    obtain ⟨X, Y, D, hat, hn⟩ := hno hg
    obtain ⟨x0, y0, c1, c2, c3, c4⟩ := gAt_pt hat
    obtain ⟨rfl, rfl⟩ := gAt_uniq hg e1 e2 c3 c4
    exact absurd (fun m hm => (gd2_iff hat.1.1 c1 c2).mpr (hall m hm)) hn
/-- a corner that is less -/
theorem gHitF_lt {ls : List gC} {f g : Int} {P P' : Nat → Nat → Prop} {v : Int32} {N D : Int} {set s2 : Int64} {i j : Nat} {p q : gC} {X Y D' : Int} (h : gHitF ls f g P v N D set) (hs : gSndF ls f g v N D set) (hP : ∀ i' j', P' i' j' → P i' j' ∨ (i' = i ∧ j' = j)) (hp : ls[i]? = some p) (hq : ls[j]? = some q) (hat : gAt p q X Y D') (hb : ∀ k, lb s2 k = true ↔ ∃ m, ls[k]? = some m ∧ m.2.2.2 = true ∧ gd1 m X Y D')
    (hlt : v = 0 ∨ (f * X + g * Y) * D < N * D') : gHitF ls f g P' 1 (f * X + g * Y) D' s2 := by
  intro i' j' p' q' hPP hij hp' hq' hg x y e1 e2 hall
  refine ⟨rfl, ?_⟩
  rcases hP i' j' hPP with z | ⟨rfl, rfl⟩
  · obtain ⟨h1, h2, -⟩ := h i' j' p' q' z hij hp' hq' hg x y e1 e2 hall
    have hlt := hlt.resolve_left (by rw [h1]; decide)
    have hl := castM hlt
    have dR : (0 : Rat) < (D : Rat) := Rat.intCast_pos.mpr (hs.2.2.1 h1).1.1
    have dR' : (0 : Rat) < (D' : Rat) := Rat.intCast_pos.mpr hat.1.1
    have h3 := Rat.mul_le_mul_of_nonneg_left h2 (Rat.le_of_lt dR')
    have h4 : ((f * X + g * Y : Int) : Rat) < (D' : Rat) * gVal f g x y := (Rat.mul_lt_mul_left dR).mp (by grind)
    exact ⟨Rat.le_of_lt h4, fun z => by rw [z] at h4; exact absurd h4 Rat.lt_irrefl⟩
  · rw [hp] at hp'; rw [hq] at hq'; cases hp'; cases hq'
    obtain ⟨x0, y0, c1, c2, c3, c4⟩ := gAt_pt hat
    obtain ⟨rfl, rfl⟩ := gAt_uniq hg e1 e2 c3 c4
    refine ⟨by rw [gVal_frac c1 c2]; exact Rat.le_refl, fun _ k m hk hst hlt => (hb k).mpr ⟨m, hk, hst, (gd1_iff hat.1.1 c1 c2).mpr hlt⟩⟩
theorem gSndF_lt {ls : List gC} {f g : Int} {s2 : Int64} {p q : gC} {X Y D' : Int} (hp : p ∈ ls) (hq : q ∈ ls) (hg : gcr p q ≠ 0) (hat : gAt p q X Y D') (hall : ∀ m ∈ ls, gd2 m X Y D') (hf : f.natAbs ≤ 100) (hgg : g.natAbs ≤ 100) (hb : ∀ k, lb s2 k = true ↔ ∃ m, ls[k]? = some m ∧ m.2.2.2 = true ∧ gd1 m X Y D') : gSndF ls f g 1 (f * X + g * Y) D' s2 := by
  obtain ⟨x, y, c1, c2, c3⟩ := gCor_at hp hq hg hat hall
  refine ⟨Or.inr rfl, fun z => absurd z (by decide), fun _ => ⟨hat.1, ?_, x, y, c3, gVal_frac c1 c2⟩, fun k hk => ?_⟩
  · have b1 := hat.2.1; have b2 := hat.2.2.1
    have e1 : -20000000000 ≤ f * X ∧ f * X ≤ 20000000000 := by
      have : (f * X).natAbs ≤ 100 * 200000000 := by rw [Int.natAbs_mul]; exact Nat.mul_le_mul hf (by omega)
      omega
    have e2 : -20000000000 ≤ g * Y ∧ g * Y ≤ 20000000000 := by
      have : (g * Y).natAbs ≤ 100 * 200000000 := by rw [Int.natAbs_mul]; exact Nat.mul_le_mul hgg (by omega)
      omega
    omega
  · obtain ⟨m, h1, h2, h3⟩ := (hb k).mp hk
    exact ⟨m, h1, h2, x, y, c3, gVal_frac c1 c2, (gd1_iff hat.1.1 c1 c2).mp h3⟩
/-- a corner that is no less -/
theorem gHitF_ge {ls : List gC} {f g : Int} {P P' : Nat → Nat → Prop} {v : Int32} {N D : Int} {set s3 : Int64} {i j : Nat} {p q : gC} {X Y D' : Int} (h : gHitF ls f g P v N D set) (hs : gSndF ls f g v N D set) (hP : ∀ i' j', P' i' j' → P i' j' ∨ (i' = i ∧ j' = j)) (hp : ls[i]? = some p) (hq : ls[j]? = some q) (hat : gAt p q X Y D') (hv : v = 1)
    (hge : N * D' ≤ (f * X + g * Y) * D) (hset : ∀ k, lb set k = true → lb s3 k = true) (hb : N * D' = (f * X + g * Y) * D → ∀ k m, ls[k]? = some m → m.2.2.2 = true → gd1 m X Y D' → lb s3 k = true) : gHitF ls f g P' 1 N D s3 := by
  intro i' j' p' q' hPP hij hp' hq' hg x y e1 e2 hall
  refine ⟨rfl, ?_⟩
  rcases hP i' j' hPP with z | ⟨rfl, rfl⟩
  · obtain ⟨-, h2, h3⟩ := h i' j' p' q' z hij hp' hq' hg x y e1 e2 hall
    exact ⟨h2, fun z k m a1 a2 a3 => hset k (h3 z k m a1 a2 a3)⟩
  · rw [hp] at hp'; rw [hq] at hq'; cases hp'; cases hq'
    obtain ⟨x0, y0, c1, c2, c3, c4⟩ := gAt_pt hat
    obtain ⟨rfl, rfl⟩ := gAt_uniq hg e1 e2 c3 c4
    have hv2 := gVal_frac (f := f) (g := g) c1 c2
    have dR' : (0 : Rat) < (D' : Rat) := Rat.intCast_pos.mpr hat.1.1
    have hgeR : (N : Rat) * (D' : Rat) ≤ ((f * X + g * Y : Int) : Rat) * (D : Rat) := by
      have := Rat.intCast_le_intCast.mpr hge
      simpa [Rat.intCast_mul] using this
    rw [← hv2] at hgeR
    refine ⟨Rat.le_of_mul_le_mul_left (show (D' : Rat) * (N : Rat) ≤ (D' : Rat) * ((D : Rat) * gVal f g x y) by grind) dR', fun hz k m a1 a2 a3 => hb ?_ k m a1 a2 ((gd1_iff hat.1.1 c1 c2).mpr a3)⟩
    have : (N : Rat) * (D' : Rat) = ((f * X + g * Y : Int) : Rat) * (D : Rat) := by rw [← hv2, ← hz]; grind
    have h5 : ((N * D' : Int) : Rat) = (((f * X + g * Y) * D : Int) : Rat) := by rw [Rat.intCast_mul, Rat.intCast_mul]; exact this
    exact Rat.intCast_inj.mp h5
theorem gSndF_eq {ls : List gC} {f g : Int} {v : Int32} {N D : Int} {set s2 : Int64} {p q : gC} {X Y D' : Int} (hs : gSndF ls f g v N D set) (hv : v = 1) (hp : p ∈ ls) (hq : q ∈ ls) (hg : gcr p q ≠ 0) (hat : gAt p q X Y D') (hall : ∀ m ∈ ls, gd2 m X Y D') (he : (f * X + g * Y) * D = N * D') (hb : ∀ k, lb s2 k = true ↔ ∃ m, ls[k]? = some m ∧ m.2.2.2 = true ∧ gd1 m X Y D') : gSndF ls f g 1 N D (set ||| s2) := by
  obtain ⟨x, y, c1, c2, c3⟩ := gCor_at hp hq hg hat hall
  refine ⟨Or.inr rfl, fun z => absurd z (by decide), fun _ => hs.2.2.1 hv, fun k hk => ?_⟩
  rw [lb_or, Bool.or_eq_true] at hk
  rcases hk with hk | hk
  · exact hs.2.2.2 k hk
  · obtain ⟨m, h1, h2, h3⟩ := (hb k).mp hk
    refine ⟨m, h1, h2, x, y, c3, ?_, (gd1_iff hat.1.1 c1 c2).mp h3⟩
    have dR' : (D' : Rat) ≠ 0 := Rat.ne_of_gt (Rat.intCast_pos.mpr hat.1.1)
    have h5 := castE he
    rw [← gVal_frac c1 c2] at h5
    exact g_cancel dR' (by grind)
/-- ways: bounded -/
def gBnd (ls : List gC) (f g : Int) (i : Nat) (b : Int32) : Prop := (b = 0 ∨ b = 1) ∧ (b = 0 → ∃ dx dy : Rat, gWay ls dx dy ∧ gVal f g dx dy < 0) ∧ (b = 1 → ∀ i', i' < i → ∀ p, ls[i' / 2]? = some p → ∀ dx dy : Rat, (if i' % 2 = 1 then dx = -(p.2.1 : Rat) ∧ dy = (p.1 : Rat) else dx = (p.2.1 : Rat) ∧ dy = -(p.1 : Rat)) → (∀ m ∈ ls, gv m dx dy ≤ 0) → 0 ≤ gVal f g dx dy)
theorem gVal_int (f g X Y : Int) : gVal f g (X : Rat) (Y : Rat) = ((f * X + g * Y : Int) : Rat) := by unfold gVal; rw [g_castlin]
theorem gwi_eq {p : gC} {b : Int32} {X Y : Int} {i : Nat} (hb : b = if i % 2 = 1 then 1 else 0) (hw : gwi p b X Y) {dx dy : Rat} (hd : if i % 2 = 1 then dx = -(p.2.1 : Rat) ∧ dy = (p.1 : Rat) else dx = (p.2.1 : Rat) ∧ dy = -(p.1 : Rat)) : dx = (X : Rat) ∧ dy = (Y : Rat) := by
  unfold gwi at hw
  by_cases c2 : i % 2 = 1
  · rw [if_pos c2] at hb hd
    rw [hb, if_neg (by decide)] at hw
    exact ⟨by rw [hd.1, hw.1]; push_cast; rfl, by rw [hd.2, hw.2]⟩
  · rw [if_neg c2] at hb hd
    rw [hb, if_pos rfl] at hw
    exact ⟨by rw [hd.1, hw.1], by rw [hd.2, hw.2]; push_cast; rfl⟩
theorem gWay_of {ls : List gC} {p : gC} {b : Int32} {X Y : Int} (hp : p ∈ ls) (hw : gwi p b X Y) (hall : ∀ m ∈ ls, m.1 * X + m.2.1 * Y ≤ 0) : gWay ls (X : Rat) (Y : Rat) := ⟨⟨p, hp, gwi_way hw⟩, fun m hm => by rw [gv_int]; exact Rat.intCast_nonpos.mpr (hall m hm)⟩
theorem gBnd_bad {ls : List gC} {f g : Int} {i : Nat} {p : gC} {b : Int32} {X Y : Int} (hp : p ∈ ls) (hw : gwi p b X Y) (hall : ∀ m ∈ ls, m.1 * X + m.2.1 * Y ≤ 0) (hlt : f * X + g * Y < 0) : gBnd ls f g i 0 :=
  ⟨Or.inl rfl, fun _ => ⟨_, _, gWay_of hp hw hall, by rw [gVal_int]; exact Rat.intCast_neg_iff.mpr hlt⟩, fun z => absurd z (by decide)⟩
theorem gBnd_ok {ls : List gC} {f g : Int} {i : Nat} {p : gC} {b bb : Int32} {X Y : Int} (h : gBnd ls f g i b) (hp : ls[i / 2]? = some p) (hb : bb = if i % 2 = 1 then 1 else 0) (hw : gwi p bb X Y) (hok : (∀ m ∈ ls, m.1 * X + m.2.1 * Y ≤ 0) → 0 ≤ f * X + g * Y) : gBnd ls f g (i + 1) b := by
  refine ⟨h.1, h.2.1, fun hb1 i' hi' p' hp' dx dy hd hall => ?_⟩
  by_cases c : i' = i
  · subst c
    rw [hp] at hp'; cases hp'
    obtain ⟨rfl, rfl⟩ := gwi_eq hb hw hd
    rw [gVal_int]
    exact Rat.intCast_nonneg.mpr (hok (fun m hm => by have := hall m hm; rw [gv_int] at this; exact Rat.intCast_nonpos.mp this))
  · exact h.2.2 hb1 i' (by omega) p' hp' dx dy hd hall
theorem gBnd_all {ls : List gC} {f g : Int} (h : gBnd ls f g (2 * ls.length) 1) : ∀ dx dy : Rat, gWay ls dx dy → 0 ≤ gVal f g dx dy := by
  rintro dx dy ⟨⟨p, hp, hw1⟩, hall⟩
  obtain ⟨i, hi⟩ := List.getElem?_of_mem hp
  have hil := (List.getElem?_eq_some_iff.mp hi).1
  rcases hw1 with ⟨e1, e2⟩ | ⟨e1, e2⟩
  · exact h.2.2 rfl (2 * i) (by omega) p (by rw [show 2 * i / 2 = i by omega]; exact hi) dx dy (by rw [if_neg (by omega)]; exact ⟨e1, e2⟩) hall
  · exact h.2.2 rfl (2 * i + 1) (by omega) p (by rw [show (2 * i + 1) / 2 = i by omega]; exact hi) dx dy (by rw [if_pos (by omega)]; exact ⟨e1, e2⟩) hall
/-- ways of the value 0 -/
def gWitF (ls : List gC) (f g : Int) (i : Nat) (set : Int64) : Prop := ∀ i', i' < i → ∀ p, ls[i' / 2]? = some p → ∀ dx dy : Rat, (if i' % 2 = 1 then dx = -(p.2.1 : Rat) ∧ dy = (p.1 : Rat) else dx = (p.2.1 : Rat) ∧ dy = -(p.1 : Rat)) → (∀ m ∈ ls, gv m dx dy ≤ 0) → gVal f g dx dy = 0 → ∀ k m, ls[k]? = some m → m.2.2.2 = true → gv m dx dy < 0 → lb set k = true
def gSnW (ls : List gC) (f g N D : Int) (set : Int64) : Prop := ∀ k, lb set k = true → ∃ m, ls[k]? = some m ∧ m.2.2.2 = true ∧ ((∃ x y : Rat, gCor ls x y ∧ (D : Rat) * gVal f g x y = (N : Rat) ∧ gv m x y < gk m) ∨ ∃ dx dy : Rat, gWay ls dx dy ∧ gVal f g dx dy = 0 ∧ gv m dx dy < 0)
theorem gWitF_step {ls : List gC} {f g : Int} {i : Nat} {set s2 : Int64} {p : gC} {b : Int32} {X Y : Int} (h : gWitF ls f g i set) (hp : ls[i / 2]? = some p) (hb : b = if i % 2 = 1 then 1 else 0) (hw : gwi p b X Y) (hset : ∀ k, lb set k = true → lb s2 k = true) (hs2 : (∀ m ∈ ls, m.1 * X + m.2.1 * Y ≤ 0) → f * X + g * Y = 0 → ∀ k m, ls[k]? = some m → m.2.2.2 = true → m.1 * X + m.2.1 * Y < 0 → lb s2 k = true) : gWitF ls f g (i + 1) s2 := by
  intro i' hi' p' hp' dx dy hd hall hz k m hk hst hlt
  by_cases c : i' = i
  · subst c
    rw [hp] at hp'; cases hp'
    obtain ⟨rfl, rfl⟩ := gwi_eq hb hw hd
    refine hs2 (fun m hm => ?_) ?_ k m hk hst ?_
    · have := hall m hm
      rw [gv_int] at this
      exact Rat.intCast_nonpos.mp this
    · rw [gVal_int] at hz
      exact Rat.intCast_eq_zero_iff.mp hz
    · rw [gv_int] at hlt
      exact Rat.intCast_neg_iff.mp hlt
  · exact hset k (h i' (by omega) p' hp' dx dy hd hall hz k m hk hst hlt)
/-- the end: the row is told -/
theorem g_told {ls : List gC} (hn : gNb ls) (hsat : gSat ls) {f g N D : Int} {b v t : Int32} {set0 set ones : Int64} (hb : gBnd ls f g (2 * ls.length) b) (hh : gHitF ls f g (fun _ _ => True) v N D set0) (hs : gSndF ls f g v N D set0) (hsub : ∀ k, lb set0 k = true → lb set k = true) (hw : gWitF ls f g (2 * ls.length) set) (hsn : gSnW ls f g N D set) (hones : ∀ k, lb ones k = true ↔ ∃ m, ls[k]? = some m ∧ m.2.2.2 = true) (ht : t = 1 ↔ set = ones) : gRowA ls f g b t N D := by
  refine ⟨hb.1, fun hb0 => ?_, fun hb1 => ?_⟩
  · obtain ⟨dx, dy, h1, h2⟩ := hb.2.1 hb0
    exact g_along2 hsat h1.2 h2
  · subst hb1
    have hall := gBnd_all hb
    have hcorn : ∀ x y : Rat, gCor ls x y → v = 1 ∧ (N : Rat) ≤ (D : Rat) * gVal f g x y ∧ ((D : Rat) * gVal f g x y = (N : Rat) → ∀ k m, ls[k]? = some m → m.2.2.2 = true → gv m x y < gk m → lb set0 k = true) := by
      rintro x y ⟨⟨p, hp, q, hq, hg, e1, e2⟩, hall⟩
      obtain ⟨i, hi⟩ := List.getElem?_of_mem hp
      obtain ⟨j, hj⟩ := List.getElem?_of_mem hq
      rcases Nat.lt_trichotomy i j with z | z | z
      · exact hh i j p q trivial z hi hj hg x y e1 e2 hall
      · subst z; rw [hi] at hj; cases hj
        exact absurd (show gcr p p = 0 by unfold gcr; omega) hg
      · exact hh j i q p trivial z hj hi (by rw [gcr_sw]; omega) x y e2 e1 hall
    obtain ⟨⟨x0, y0, h0⟩, -⟩ := (g_sat_corners hn).mp hsat
    have hv := (hcorn x0 y0 h0).1
    obtain ⟨s1, s2, s3⟩ := hs.2.2.1 hv
    refine ⟨g_corInf hn hsat s1.1 hall s3 (fun x y h => (hcorn x y h).2.1) ?_, s2, s1.2⟩
    rw [beq_iff_eq, ht]
    constructor
    · intro he m hm hst
      obtain ⟨k, hk⟩ := List.getElem?_of_mem hm
      have : lb set k = true := by rw [he]; exact (hones k).mpr ⟨m, hk, hst⟩
      obtain ⟨m', h1, -, h3⟩ := hsn k this
      rw [hk] at h1; cases h1
      exact h3
    · intro h
      apply lb_ext
      intro k
      apply Bool.eq_iff_iff.mpr
      rw [hones k]
      constructor
      · intro z
        obtain ⟨m, h1, h2, -⟩ := hsn k z
        exact ⟨m, h1, h2⟩
      · rintro ⟨m, h1, h2⟩
        rcases h m (List.mem_of_getElem? h1) h2 with ⟨x, y, hc, hv, hlt⟩ | ⟨dx, dy, ⟨⟨p, hp, hw1⟩, hall⟩, hz, hlt⟩
        · exact hsub k ((hcorn x y hc).2.2 hv k m h1 h2 hlt)
        · obtain ⟨i, hi⟩ := List.getElem?_of_mem hp
          have hil := (List.getElem?_eq_some_iff.mp hi).1
          rcases hw1 with ⟨e1, e2⟩ | ⟨e1, e2⟩
          · exact hw (2 * i) (by omega) p (by rw [show 2 * i / 2 = i by omega]; exact hi) dx dy (by rw [if_neg (by omega)]; exact ⟨e1, e2⟩) hall hz k m h1 h2 hlt
          · exact hw (2 * i + 1) (by omega) p (by rw [show (2 * i + 1) / 2 = i by omega]; exact hi) dx dy (by rw [if_pos (by omega)]; exact ⟨e1, e2⟩) hall hz k m h1 h2 hlt
/-- a band: the form is a multiple of the one direction -/
theorem g_form {ls : List gC} {h0 : gC} {up : Bool} {f g : Int} {α β : Rat} (h00 : h0 ∈ ls) (hnz : ∀ q ∈ ls, ¬ (q.1 = 0 ∧ q.2.1 = 0)) (hcr : ∀ q ∈ ls, gcr h0 q = 0) (hup : up = true ↔ ∀ m ∈ ls, m.1 = 0) (hfg : ¬ (f = 0 ∧ g = 0)) (he : f * h0.2.1 = g * h0.1) (hab : if up = true then α = 0 ∧ β = 1 else α = 1 ∧ β * (h0.1 : Rat) = (h0.2.1 : Rat)) :
    (if h0.1 = 0 then g else f) ≠ 0 ∧ ∀ x y : Rat, (f : Rat) * x + (g : Rat) * y = (((if h0.1 = 0 then g else f) : Int) : Rat) * (α * x + β * y) := by
  by_cases h1 : h0.1 = 0
  · have hb : h0.2.1 ≠ 0 := fun w => hnz h0 h00 ⟨h1, w⟩
    have hu : up = true := hup.mpr (fun m hm => by
      have hc := hcr m hm
      unfold gcr at hc
      rw [h1, Int.zero_mul] at hc
      rcases Int.mul_eq_zero.mp (show m.1 * h0.2.1 = 0 by omega) with w | w
      · exact w
      · exact absurd w hb)
    rw [if_pos hu] at hab
    rw [h1, Int.mul_zero] at he
    have hf : f = 0 := (Int.mul_eq_zero.mp he).resolve_right hb
    rw [if_pos h1]
    refine ⟨fun z => hfg ⟨hf, z⟩, fun x y => ?_⟩
    rw [hab.1, hab.2, hf]; grind
  · have hu : ¬ up = true := fun z => h1 (hup.mp z h0 h00)
    rw [if_neg hu] at hab
    rw [if_neg h1]
    refine ⟨fun z => hfg ⟨z, ?_⟩, fun x y => ?_⟩
    · rw [z, Int.zero_mul] at he
      exact (Int.mul_eq_zero.mp he.symm).resolve_right h1
    · have hR : (h0.1 : Rat) ≠ 0 := fun z => h1 (Rat.intCast_eq_zero_iff.mp z)
      have h2 := castE he
      have h3 : (g : Rat) = (f : Rat) * β := g_cancel hR (by grind)
      rw [hab.1, h3]; grind
theorem g_bandLo {ls : List gC} {f g φ : Int} {α β : Rat} {hi lo : gE} (hφ : 0 < φ) (hform : ∀ x y : Rat, (f : Rat) * x + (g : Rat) * y = (φ : Rat) * (α * x + β * y)) (hs : ∀ t : Rat, ∃ x y : Rat, α * x + β * y = t) (h0 : 0 ≤ lo.2.1) (h1 : 0 ≤ hi.2.1) (hS : ∀ x y : Rat, (∀ m ∈ ls, gst m x y) ↔ gEs hi (α * x + β * y) ∧ gEs lo (-(α * x + β * y))) (hsat : gSat ls) :
    (lo.2.1 = 0 → gUn ls f g) ∧ (lo.2.1 ≠ 0 → gInf (gPt ls) f g (φ * -lo.1) lo.2.1 (!lo.2.2)) :=
  g_ray (S := gPt ls) hφ (fun x y => α * x + β * y) hform hs h0 h1 (fun x y => (hS x y).trans ⟨fun h => ⟨h.2, h.1⟩, fun h => ⟨h.2, h.1⟩⟩) hsat
theorem g_bandHi {ls : List gC} {f g φ : Int} {α β : Rat} {hi lo : gE} (hφ : φ < 0) (hform : ∀ x y : Rat, (f : Rat) * x + (g : Rat) * y = (φ : Rat) * (α * x + β * y)) (hs : ∀ t : Rat, ∃ x y : Rat, α * x + β * y = t) (h0 : 0 ≤ lo.2.1) (h1 : 0 ≤ hi.2.1) (hS : ∀ x y : Rat, (∀ m ∈ ls, gst m x y) ↔ gEs hi (α * x + β * y) ∧ gEs lo (-(α * x + β * y))) (hsat : gSat ls) :
    (hi.2.1 = 0 → gUn ls f g) ∧ (hi.2.1 ≠ 0 → gInf (gPt ls) f g (φ * hi.1) hi.2.1 (!hi.2.2)) := by
  have h := g_ray (S := gPt ls) (c := -φ) (f := f) (g := g) (lo := hi) (hi := lo) (by omega) (fun x y => -(α * x + β * y)) (fun x y => by rw [hform]; push_cast; grind) (fun t => by obtain ⟨x, y, h⟩ := hs (-t); exact ⟨x, y, by rw [h]; grind⟩) h1 h0 (fun x y => by rw [Rat.neg_neg]; exact hS x y) hsat
  rw [show -φ * -hi.1 = φ * hi.1 by grind] at h
  exact h
/-- rows one after the other -/
theorem gInf_cg {S S' : Rat → Rat → Prop} {f g T B : Int} {k : Bool} (h : ∀ x y, S x y ↔ S' x y) (hi : gInf S f g T B k) : gInf S' f g T B k := by
  have : S = S' := funext (fun x => funext (fun y => propext (h x y)))
  rw [← this]; exact hi
theorem gS_take {P : List (List gC)} {r : Nat} {row : List gC} (hr : P[r]? = some row) (x y : Rat) : gS (P.take (r + 1)) x y ↔ gS (P.take r) x y ∨ gPt row x y := by
  unfold gS
  rw [List.take_succ, hr]
  constructor
  · rintro ⟨w, hw, h⟩
    rcases List.mem_append.mp hw with z | z
    · exact Or.inl ⟨w, z, h⟩
    · rw [Option.toList_some, List.mem_singleton] at z; subst z; exact Or.inr h
  · rintro (⟨w, hw, h⟩ | h)
    · exact ⟨w, List.mem_append_left _ hw, h⟩
    · exact ⟨row, List.mem_append_right _ (by rw [Option.toList_some]; exact List.mem_singleton.mpr rfl), h⟩
/-- how far least has come: a the answer, T / B the least so far -/
def gSo (P : List (List gC)) (f g : Int) (r : Nat) (a : Int32) (T B : Int) : Prop := (a = 3 ∧ r = 0) ∨ (a = 2 ∧ ∃ row ∈ P, gUn row f g) ∨ (0 < r ∧ ∃ k : Bool, a = (if k = true then 0 else 1) ∧ gInf (gS (P.take r)) f g T B k ∧ (-40000000000 ≤ T ∧ T ≤ 40000000000) ∧ B ≤ 200000000)
theorem gSo_un {P : List (List gC)} {f g : Int} {r : Nat} {row : List gC} {T B : Int} (hr : P[r]? = some row) (h : gUn row f g) : gSo P f g (r + 1) 2 T B := Or.inr (Or.inl ⟨rfl, row, List.mem_of_getElem? hr, h⟩)
theorem gSo_first {P : List (List gC)} {f g : Int} {r : Nat} {row : List gC} {T B N D : Int} {a : Int32} {k : Bool} (hr : P[r]? = some row) (h : gSo P f g r a T B) (ha : a = 3) (hi : gInf (gPt row) f g N D k) (hN : -40000000000 ≤ N ∧ N ≤ 40000000000) (hD : D ≤ 200000000) : gSo P f g (r + 1) (if k = true then 0 else 1) N D := by
  rcases h with ⟨-, h⟩ | ⟨h, -⟩ | ⟨-, k', h, -⟩
  · subst h
    refine Or.inr (Or.inr ⟨by omega, k, rfl, gInf_cg (fun x y => ?_) hi, hN, hD⟩)
    rw [gS_take hr, List.take_zero]
    exact ⟨fun h => Or.inr h, fun h => h.elim (fun ⟨w, hw, _⟩ => by cases hw) (fun z => z)⟩
  · rw [ha] at h; exact absurd h (by decide)
  · rw [ha] at h; cases k' <;> exact absurd h (by decide)
theorem gSo_next {P : List (List gC)} {f g : Int} {r : Nat} {row : List gC} {T B N D : Int} {a : Int32} {k : Bool} (hr : P[r]? = some row) (h : gSo P f g r a T B) (ha : a ≠ 3) (ha2 : a ≠ 2) (hi : gInf (gPt row) f g N D k) (hN : -40000000000 ≤ N ∧ N ≤ 40000000000) (hD : D ≤ 200000000) :
    (N * B < T * D → gSo P f g (r + 1) (if k = true then 0 else 1) N D) ∧ (N * B = T * D → k = true → gSo P f g (r + 1) 0 T B) ∧ (N * B = T * D → k = false → gSo P f g (r + 1) a T B) ∧ (T * D < N * B → gSo P f g (r + 1) a T B) := by
  rcases h with ⟨h, -⟩ | ⟨h, -⟩ | ⟨h0, k', h1, h2, h3, h4⟩
  · exact absurd h ha
  · exact absurd h ha2
  · have ho := gInf_cg (fun x y => (gS_take hr x y).symm) (gInf_or h2 hi)
    unfold gLw at ho
    refine ⟨fun z => ?_, fun z zk => ?_, fun z zk => ?_, fun z => ?_⟩
    · rw [if_pos z] at ho
      exact Or.inr (Or.inr ⟨by omega, k, rfl, ho, hN, hD⟩)
    · rw [if_neg (by omega), if_pos ⟨z, zk⟩] at ho
      exact Or.inr (Or.inr ⟨by omega, true, rfl, ho, h3, h4⟩)
    · rw [if_neg (by omega), if_neg (fun w => by rw [zk] at w; cases w.2)] at ho
      exact Or.inr (Or.inr ⟨by omega, k', h1, ho, h3, h4⟩)
    · rw [if_neg (by omega), if_neg (fun w => by omega)] at ho
      exact Or.inr (Or.inr ⟨by omega, k', h1, ho, h3, h4⟩)
theorem gSo_pos {P : List (List gC)} {f g : Int} {r : Nat} {T B : Int} {a : Int32} (h : gSo P f g r a T B) (ha : a ≠ 3) (ha2 : a ≠ 2) : 0 < B ∧ B ≤ 200000000 ∧ (-40000000000 ≤ T ∧ T ≤ 40000000000) := by
  rcases h with ⟨h, -⟩ | ⟨h, -⟩ | ⟨h0, k', h1, h2, h3, h4⟩
  · exact absurd h ha
  · exact absurd h ha2
  · exact ⟨h2.1, h4, h3⟩
theorem gSo_no {P : List (List gC)} {f g : Int} {r : Nat} {T B : Int} {a : Int32} (h : gSo P f g r a T B) (hr : r = P.length ∨ a = 2) (ha : ¬ a < 2) : gLst P f g a 0 0 := by
  rcases h with ⟨h, h2⟩ | ⟨h, row, hw, hu⟩ | ⟨h0, k', h1, h2, h3, h4⟩
  · have hr := hr.resolve_right (fun z => by rw [h] at z; exact absurd z (by decide))
    exact Or.inl ⟨List.length_eq_zero_iff.mp (by omega), h, rfl, rfl⟩
  · exact Or.inr (Or.inl ⟨(fun z => by rw [z] at hw; cases hw), ⟨row, hw, hu⟩, h, rfl, rfl⟩)
  · exfalso; apply ha; rw [h1]; cases k' <;> decide
theorem gSo_yes {P : List (List gC)} {f g : Int} {r : Nat} {T B : Int} {a : Int32} (h : gSo P f g r a T B) (hr : r = P.length ∨ a = 2) (ha : a < 2) : 0 < B ∧ gLst P f g a (T.tdiv (Nat.gcd T.natAbs B.natAbs)) (B.tdiv (Nat.gcd T.natAbs B.natAbs)) := by
  rcases h with ⟨h, -⟩ | ⟨h, -⟩ | ⟨h0, k', h1, h2, h3, h4⟩
  · rw [h] at ha; exact absurd ha (by decide)
  · rw [h] at ha; exact absurd ha (by decide)
  · have hr : r = P.length := hr.resolve_right (fun z => by rw [z] at ha; exact absurd ha (by decide))
    subst hr
    rw [List.take_length] at h2
    have hd : 0 < Nat.gcd T.natAbs B.natAbs := Nat.gcd_pos_of_pos_right _ (by have := h2.1; omega)
    refine ⟨h2.1, Or.inr (Or.inr ⟨(fun z => by rw [z] at h0; exact absurd h0 (by decide)), g_redcop h2.1, k', gInf_red (Nat.gcd T.natAbs B.natAbs : Int) _ _ (by omega) (g_tdg T _ (Nat.gcd_dvd_left _ _)) (g_tdg B _ (Nat.gcd_dvd_right _ _)) h2, h1⟩)⟩
