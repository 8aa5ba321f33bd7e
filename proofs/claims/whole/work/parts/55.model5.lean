/-! The model: hasPoints. -/
theorem g_castlin (a b x y : Int) : ((a * x + b * y : Int) : Rat) = (a : Rat) * (x : Rat) + (b : Rat) * (y : Rat) := by push_cast; rfl
theorem g_frac {m : gC} {X Y D : Int} {x y : Rat} (hx : x * (D : Rat) = (X : Rat)) (hy : y * (D : Rat) = (Y : Rat)) : (D : Rat) * gv m x y = ((m.1 * X + m.2.1 * Y : Int) : Rat) ∧ (D : Rat) * gk m = ((m.2.2.1 * D : Int) : Rat) := by
  constructor
  · rw [g_castlin, ← hx, ← hy]; unfold gv; grind
  · unfold gk; push_cast; grind
theorem gd1_iff {m : gC} {X Y D : Int} {x y : Rat} (hD : 0 < D) (hx : x * (D : Rat) = (X : Rat)) (hy : y * (D : Rat) = (Y : Rat)) : gd1 m X Y D ↔ gv m x y < gk m := by
  obtain ⟨h1, h2⟩ := g_frac (m := m) hx hy
  have dR : (0 : Rat) < (D : Rat) := Rat.intCast_pos.mpr hD
  unfold gd1
  rw [← Rat.intCast_lt_intCast, ← h1, ← h2]
  exact Rat.mul_lt_mul_left dR
theorem gd2_iff {m : gC} {X Y D : Int} {x y : Rat} (hD : 0 < D) (hx : x * (D : Rat) = (X : Rat)) (hy : y * (D : Rat) = (Y : Rat)) : gd2 m X Y D ↔ gcl m x y := by
  obtain ⟨h1, h2⟩ := g_frac (m := m) hx hy
  have dR : (0 : Rat) < (D : Rat) := Rat.intCast_pos.mpr hD
  unfold gd2 gcl
  rw [← Rat.intCast_le_intCast, ← h1, ← h2]
  exact ⟨fun h => Rat.le_of_mul_le_mul_left h dR, fun h => Rat.mul_le_mul_of_nonneg_left h (Rat.le_of_lt dR)⟩
theorem g_cancel {D a b : Rat} (hD : D ≠ 0) (h : D * a = D * b) : a = b := by
  have h2 := congrArg (fun q => q / D) h
  rw [Rat.mul_comm D, Rat.mul_comm D, Rat.mul_div_cancel hD, Rat.mul_div_cancel hD] at h2
  exact h2
/-- the corner of two members, as a point -/
theorem gAt_pt {p q : gC} {X Y D : Int} (h : gAt p q X Y D) : ∃ x y : Rat, x * (D : Rat) = (X : Rat) ∧ y * (D : Rat) = (Y : Rat) ∧ gv p x y = gk p ∧ gv q x y = gk q := by
  have dR : (D : Rat) ≠ 0 := Rat.ne_of_gt (Rat.intCast_pos.mpr h.1.1)
  have c1 : (X : Rat) / (D : Rat) * (D : Rat) = (X : Rat) := Rat.div_mul_cancel dR
  have c2 : (Y : Rat) / (D : Rat) * (D : Rat) = (Y : Rat) := Rat.div_mul_cancel dR
  refine ⟨_, _, c1, c2, ?_, ?_⟩
  · obtain ⟨h1, h2⟩ := g_frac (m := p) c1 c2
    exact g_cancel dR (by rw [h1, h2, h.2.2.2.1])
  · obtain ⟨h1, h2⟩ := g_frac (m := q) c1 c2
    exact g_cancel dR (by rw [h1, h2, h.2.2.2.2])
theorem gAt_uniq {p q : gC} (hg : gcr p q ≠ 0) {x y x' y' : Rat} (h1 : gv p x y = gk p) (h2 : gv q x y = gk q) (h1' : gv p x' y' = gk p) (h2' : gv q x' y' = gk q) : x = x' ∧ y = y' := by
  have gR : ((gcr p q : Int) : Rat) ≠ 0 := fun z => hg (Rat.intCast_eq_zero_iff.mp z)
  have e : ((gcr p q : Int) : Rat) = (p.1 : Rat) * (q.2.1 : Rat) - (q.1 : Rat) * (p.2.1 : Rat) := by unfold gcr; push_cast; rfl
  unfold gv at *
  constructor
  · exact g_cancel gR (by rw [e]; grind)
  · exact g_cancel gR (by rw [e]; grind)
/-- seen so far of corners: sound and complete -/
def gSd (ls : List gC) (k : Nat) : Prop := ∃ m, ls[k]? = some m ∧ m.2.2.2 = true ∧ ((∃ x y : Rat, gCor ls x y ∧ gv m x y < gk m) ∨ ∃ dx dy : Rat, gWay ls dx dy ∧ gv m dx dy < 0)
def gHit (ls : List gC) (P : Nat → Nat → Prop) (some_ : Int32) (set : Int64) : Prop := ∀ i j p q, P i j → i < j → ls[i]? = some p → ls[j]? = some q → gcr p q ≠ 0 → ∀ x y : Rat, gv p x y = gk p → gv q x y = gk q → (∀ m ∈ ls, gcl m x y) → some_ = 1 ∧ ∀ k m, ls[k]? = some m → m.2.2.2 = true → gv m x y < gk m → lb set k = true
def gWit (ls : List gC) (i : Nat) (set : Int64) : Prop := ∀ i', i' < i → ∀ p, ls[i' / 2]? = some p → ∀ dx dy : Rat, (if i' % 2 = 1 then dx = -(p.2.1 : Rat) ∧ dy = (p.1 : Rat) else dx = (p.2.1 : Rat) ∧ dy = -(p.1 : Rat)) → (∀ m ∈ ls, gv m dx dy ≤ 0) → ∀ k m, ls[k]? = some m → m.2.2.2 = true → gv m dx dy < 0 → lb set k = true
theorem g_nb {ls : List gC} {h0 : gC} (hh : h0 ∈ ls) (hnz : ∀ q ∈ ls, ¬ (q.1 = 0 ∧ q.2.1 = 0)) (hn : ¬ ∀ q ∈ ls, gcr h0 q = 0) : gNb ls := by
  refine ⟨(fun z => by rw [z] at hh; cases hh), fun q' hq' => ?_⟩
  by_cases h1 : gcr h0 q' = 0
  · have : ∃ q ∈ ls, gcr h0 q ≠ 0 := by
      apply Classical.byContradiction
      intro hc
      exact hn (fun q hq => Classical.byContradiction (fun z => hc ⟨q, hq, z⟩))
    obtain ⟨q, hq, hne⟩ := this
    refine ⟨q, hq, fun z => hnz q' hq' ?_⟩
    have e1 : q'.1 * gcr h0 q = 0 := by
      have : q'.1 * gcr h0 q = q.1 * gcr h0 q' - h0.1 * gcr q q' := by unfold gcr; grind
      rw [this, h1, z]; omega
    have e2 : q'.2.1 * gcr h0 q = 0 := by
      have : q'.2.1 * gcr h0 q = q.2.1 * gcr h0 q' - h0.2.1 * gcr q q' := by unfold gcr; grind
      rw [this, h1, z]; omega
    exact ⟨(Int.mul_eq_zero.mp e1).resolve_right hne, (Int.mul_eq_zero.mp e2).resolve_right hne⟩
  · exact ⟨h0, hh, h1⟩
theorem gcr_sw (p q : gC) : gcr q p = -gcr p q := by unfold gcr; omega
/-- the end -/
theorem g_has {ls : List gC} (hn : gNb ls) {v : Int32} {set ones : Int64} (hones : ∀ k, lb ones k = true ↔ ∃ m, ls[k]? = some m ∧ m.2.2.2 = true) (hs : ∀ k, lb set k = true → gSd ls k) (hc : gHit ls (fun _ _ => True) v set) (hw : gWit ls (2 * ls.length) set) (hsome : ∃ x y : Rat, gCor ls x y) : set = ones ↔ gSat ls := by
  rw [g_sat_corners hn]
  constructor
  · intro h
    refine ⟨hsome, fun m hm hst => ?_⟩
    obtain ⟨k, hk⟩ := List.getElem?_of_mem hm
    have : lb set k = true := by rw [h]; exact (hones k).mpr ⟨m, hk, hst⟩
    obtain ⟨m', h1, -, h3⟩ := hs k this
    rw [hk] at h1; cases h1
    exact h3
  · rintro ⟨-, h⟩
    apply lb_ext
    intro k
    apply Bool.eq_iff_iff.mpr
    rw [hones k]
    constructor
    · intro z
      obtain ⟨m, h1, h2, -⟩ := hs k z
      exact ⟨m, h1, h2⟩
    · rintro ⟨m, h1, h2⟩
      have hm := List.mem_of_getElem? h1
      rcases h m hm h2 with ⟨x, y, ⟨⟨p, hp, q, hq, hg, e1, e2⟩, hall⟩, hlt⟩ | ⟨dx, dy, ⟨⟨p, hp, hw1⟩, hall⟩, hlt⟩
      · obtain ⟨i, hi⟩ := List.getElem?_of_mem hp
        obtain ⟨j, hj⟩ := List.getElem?_of_mem hq
        rcases Nat.lt_trichotomy i j with z | z | z
        · exact (hc i j p q trivial z hi hj hg x y e1 e2 hall).2 k m h1 h2 hlt
        · subst z; rw [hi] at hj; cases hj
          exact absurd (show gcr p p = 0 by unfold gcr; omega) hg
        · exact (hc j i q p trivial z hj hi (by rw [gcr_sw]; omega) x y e2 e1 hall).2 k m h1 h2 hlt
      · obtain ⟨i, hi⟩ := List.getElem?_of_mem hp
        have hil := (List.getElem?_eq_some_iff.mp hi).1
        rcases hw1 with ⟨e1, e2⟩ | ⟨e1, e2⟩
        · exact hw (2 * i) (by omega) p (by rw [show 2 * i / 2 = i by omega]; exact hi) dx dy (by rw [if_neg (by omega)]; exact ⟨e1, e2⟩) hall k m h1 h2 hlt
        · exact hw (2 * i + 1) (by omega) p (by rw [show (2 * i + 1) / 2 = i by omega]; exact hi) dx dy (by rw [if_pos (by omega)]; exact ⟨e1, e2⟩) hall k m h1 h2 hlt
theorem g_none {ls : List gC} (hn : gNb ls) {v : Int32} {set : Int64} (hc : gHit ls (fun _ _ => True) v set) (hv : ¬ v = 1) : ¬ gSat ls := by
  rw [g_sat_corners hn]
  rintro ⟨⟨x, y, ⟨p, hp, q, hq, hg, e1, e2⟩, hall⟩, -⟩
  obtain ⟨i, hi⟩ := List.getElem?_of_mem hp
  obtain ⟨j, hj⟩ := List.getElem?_of_mem hq
  rcases Nat.lt_trichotomy i j with z | z | z
  · exact hv (hc i j p q trivial z hi hj hg x y e1 e2 hall).1
  · subst z; rw [hi] at hj; cases hj
    exact absurd (show gcr p p = 0 by unfold gcr; omega) hg
  · exact hv (hc j i q p trivial z hj hi (by rw [gcr_sw]; omega) x y e2 e1 hall).1
/-- one more corner -/
theorem gHit_no {ls : List gC} {P P' : Nat → Nat → Prop} {v : Int32} {set : Int64} {i j : Nat} {p q : gC} (h : gHit ls P v set) (hP : ∀ i' j', P' i' j' → P i' j' ∨ (i' = i ∧ j' = j)) (hp : ls[i]? = some p) (hq : ls[j]? = some q) (hno : gcr p q ≠ 0 → ∃ X Y D : Int, gAt p q X Y D ∧ ¬ ∀ m ∈ ls, gd2 m X Y D) : gHit ls P' v set := by
  intro i' j' p' q' hPP hij hp' hq' hg x y e1 e2 hall
  rcases hP i' j' hPP with z | ⟨rfl, rfl⟩
  · exact h i' j' p' q' z hij hp' hq' hg x y e1 e2 hall
  · rw [hp] at hp'; rw [hq] at hq'; cases hp'; cases hq'
    obtain ⟨X, Y, D, hat, hn⟩ := hno hg
    obtain ⟨x0, y0, c1, c2, c3, c4⟩ := gAt_pt hat
    obtain ⟨rfl, rfl⟩ := gAt_uniq hg e1 e2 c3 c4
    exact absurd (fun m hm => (gd2_iff hat.1.1 c1 c2).mpr (hall m hm)) hn
theorem gHit_yes {ls : List gC} {P P' : Nat → Nat → Prop} {v : Int32} {set s2 : Int64} {i j : Nat} {p q : gC} {X Y D : Int} (h : gHit ls P v set) (hP : ∀ i' j', P' i' j' → P i' j' ∨ (i' = i ∧ j' = j)) (hp : ls[i]? = some p) (hq : ls[j]? = some q) (hat : gAt p q X Y D) (hb : ∀ k, lb s2 k = true ↔ ∃ m, ls[k]? = some m ∧ m.2.2.2 = true ∧ gd1 m X Y D) : gHit ls P' 1 (set ||| s2) := by
  intro i' j' p' q' hPP hij hp' hq' hg x y e1 e2 hall
  refine ⟨rfl, fun k m hk hst hlt => ?_⟩
  rw [lb_or, Bool.or_eq_true]
  rcases hP i' j' hPP with z | ⟨rfl, rfl⟩
  · exact Or.inl ((h i' j' p' q' z hij hp' hq' hg x y e1 e2 hall).2 k m hk hst hlt)
  · rw [hp] at hp'; rw [hq] at hq'; cases hp'; cases hq'
    obtain ⟨x0, y0, c1, c2, c3, c4⟩ := gAt_pt hat
    obtain ⟨rfl, rfl⟩ := gAt_uniq hg e1 e2 c3 c4
    exact Or.inr ((hb k).mpr ⟨m, hk, hst, (gd1_iff hat.1.1 c1 c2).mpr hlt⟩)
theorem gCor_at {ls : List gC} {p q : gC} {X Y D : Int} (hp : p ∈ ls) (hq : q ∈ ls) (hg : gcr p q ≠ 0) (hat : gAt p q X Y D) (hall : ∀ m ∈ ls, gd2 m X Y D) : ∃ x y : Rat, x * (D : Rat) = (X : Rat) ∧ y * (D : Rat) = (Y : Rat) ∧ gCor ls x y := by
  obtain ⟨x0, y0, c1, c2, c3, c4⟩ := gAt_pt hat
  exact ⟨x0, y0, c1, c2, ⟨p, hp, q, hq, hg, c3, c4⟩, fun m hm => (gd2_iff hat.1.1 c1 c2).mp (hall m hm)⟩
theorem gv_int (m : gC) (X Y : Int) : gv m (X : Rat) (Y : Rat) = ((m.1 * X + m.2.1 * Y : Int) : Rat) := by unfold gv; rw [g_castlin]
theorem gwi_way {p : gC} {b : Int32} {X Y : Int} (h : gwi p b X Y) : gway p (X : Rat) (Y : Rat) := by
  unfold gwi at h
  split at h
  · exact Or.inl ⟨by rw [h.1], by rw [h.2]; push_cast; rfl⟩
  · exact Or.inr ⟨by rw [h.1]; push_cast; rfl, by rw [h.2]⟩
theorem gWit_step {ls : List gC} {i : Nat} {set s2 : Int64} {p : gC} {b : Int32} {X Y : Int} (h : gWit ls i set) (hp : ls[i / 2]? = some p) (hb : b = if i % 2 = 1 then 1 else 0) (hw : gwi p b X Y) (hset : ∀ k, lb set k = true → lb s2 k = true) (hs2 : (∀ m ∈ ls, m.1 * X + m.2.1 * Y ≤ 0) → ∀ k m, ls[k]? = some m → m.2.2.2 = true → m.1 * X + m.2.1 * Y < 0 → lb s2 k = true) : gWit ls (i + 1) s2 := by
  intro i' hi' p' hp' dx dy hd hall k m hk hst hlt
  by_cases c : i' = i
  · subst c
    rw [hp] at hp'; cases hp'
    have e : dx = (X : Rat) ∧ dy = (Y : Rat) := by
      unfold gwi at hw
      by_cases c2 : i' % 2 = 1
      · rw [if_pos c2] at hb hd
        rw [hb, if_neg (by decide)] at hw
        exact ⟨by rw [hd.1, hw.1]; push_cast; rfl, by rw [hd.2, hw.2]⟩
      · rw [if_neg c2] at hb hd
        rw [hb, if_pos rfl] at hw
        exact ⟨by rw [hd.1, hw.1], by rw [hd.2, hw.2]; push_cast; rfl⟩
    rw [e.1, e.2] at hall hlt
    refine hs2 (fun m hm => ?_) k m hk hst ?_
    · have := hall m hm
      rw [gv_int] at this
      exact Rat.intCast_nonpos.mp this
    · rw [gv_int] at hlt
      exact Rat.intCast_neg_iff.mp hlt
  · exact hset k (h i' (by omega) p' hp' dx dy hd hall k m hk hst hlt)
def hI : List Nat := [29, 30, 31, 32, 33, 34, 35, 36, 37, 38, 39]

set_option maxRecDepth 100000 in
set_option maxHeartbeats 4000000 in
theorem cM_hasPoints_ (l : Launch) {ls : List gC} (M : zM) (hH : qH M ls) (hB2 : ∀ q ∈ ls, gBd 200000000 q) (hnz : ∀ q ∈ ls, ¬ (q.1 = 0 ∧ q.2.1 = 0)) (hOK : (∀ q ∈ ls, gBd 10000 q) ∨ ∀ p ∈ ls, ∀ q ∈ ls, gcr p q = 0) (hs36 : zI M 62 36 = 0 ∨ zI M 62 36 = 1) (hs39 : zI M 62 39 = 0 ∨ zI M 62 39 = 1) : zMet l mM_hasPoints rM_hasPoints [.ref 62] M (zqi (fun x M' => (x = 0 ∨ x = 1) ∧ (x = 1 ↔ gSat ls) ∧ ((zI M' 62 36 = 0 ∨ zI M' 62 36 = 1) ∧ (zI M' 62 39 = 0 ∨ zI M' 62 39 = 1)) ∧ mK hI M M' ∧ zfr m62 M M')) := by
  refine za_enter (by decide) (Nat.le_of_ble_eq_true rfl) (fun X hc => ?_)
  have a77 := ar_77
  have a78 := ar_78
  have a79 := ar_79
  have a80 := ar_80
  have hl := hH.2.1
  have WAYS : (∀ q ∈ ls, gBd 10000 q) → gNb ls → ∀ (v : Int32) (n i : Nat) (set : Int64) (M1 : zM), n + i = 2 * ls.length → (∀ k, lb set k = true → gSd ls k) → gHit ls (fun _ _ => True) v set → gWit ls i set → (∃ x y : Rat, gCor ls x y) → mK [29, 30, 31, 32, 33] M M1 → zfr m62 M M1 → zW X (zqi (fun x M' => (x = 0 ∨ x = 1) ∧ (x = 1 ↔ gSat ls) ∧ ((zI M' 62 36 = 0 ∨ zI M' 62 36 = 1) ∧ (zI M' 62 39 = 0 ∨ zI M' 62 39 = 1)) ∧ mK hI M M' ∧ zfr m62 M M')) (0, 0) 96 [(0, .ref 62), (1, .int v), (2, .long set), (4, .int (nI i))] [] M1 := by
    intro hB hnb v n
    induction n with
    | zero =>
      intro i set M1 hn hsd hhit hwit hcor hk1 hf1
      have hH1 : qH M1 ls := qH_62 hH hf1 (hk1 19 (by decide)).1
      refine za_iload hc dM_hasPoints_96 rfl ?_
      refine za_iconst hc 2 dM_hasPoints_98 rfl ?_
      refine za_aload_n hc dM_hasPoints_99 rfl ?_
      refine za_getI hc gfM_73 zob_62 dM_hasPoints_100 ?_
      rw [hH1.1]
      refine za_imul hc dM_hasPoints_103 ?_
      rw [show (2 : Int32) = nI 2 from rfl, pk_mul]
      refine za_icmp_ge 144 hc dM_hasPoints_104 rfl (fun h_104 => ?_) (fun h_104 => ?_)
      · skip
        refine za_lload_n hc dM_hasPoints_144 rfl ?_
        refine za_aload_n hc dM_hasPoints_145 rfl ?_
        refine za_cV0l hc gsM_120 zob_62 (cM_strictOnes_ l M1 hH1) ⟨rfl, rfl⟩ ⟨Nat.le_of_ble_eq_true rfl, Nat.le_of_ble_eq_true rfl⟩ ⟨Nat.zero_le _, Nat.zero_le _⟩ dM_hasPoints_146 (fun x_146 M_146 h_146 => ?_)
        obtain ⟨q_146, hm_146⟩ := h_146
        rw [hm_146]
        have hwit2 : gWit ls (2 * ls.length) set := by rw [show 2 * ls.length = i by omega]; exact hwit
        refine za_lcmp_ne 157 hc dM_hasPoints_149 dM_hasPoints_150 rfl (fun h_149 => ?_) (fun h_149 => ?_)
        · skip
          have hne : ¬ gSat ls := fun z => h_149 ((g_has hnb q_146 hsd hhit hwit2 hcor).mpr z)
          refine za_iconst hc 0 dM_hasPoints_157 rfl ?_
          exact za_zret hc rfl (rfl) dM_hasPoints_158 ⟨Nat.zero_le _, Nat.zero_le _⟩ (by first | exact ⟨_, rfl, Or.inr rfl, ⟨fun _ => hye, fun _ => rfl⟩, ⟨by rw [(hk1 36 (by decide)).1]; exact hs36, by rw [(hk1 39 (by decide)).1]; exact hs39⟩, hk1.wk (by decide), hf1⟩ | exact ⟨_, rfl, Or.inl rfl, ⟨fun z => absurd z (by decide), fun z => absurd z hne⟩, ⟨by rw [(hk1 36 (by decide)).1]; exact hs36, by rw [(hk1 39 (by decide)).1]; exact hs39⟩, hk1.wk (by decide), hf1⟩)
        · skip
          have hye : gSat ls := (g_has hnb q_146 hsd hhit hwit2 hcor).mp h_149
          refine za_iconst hc 1 dM_hasPoints_153 rfl ?_
          refine za_goto 158 hc dM_hasPoints_154 rfl ?_
          exact za_zret hc rfl (rfl) dM_hasPoints_158 ⟨Nat.zero_le _, Nat.zero_le _⟩ (by first | exact ⟨_, rfl, Or.inr rfl, ⟨fun _ => hye, fun _ => rfl⟩, ⟨by rw [(hk1 36 (by decide)).1]; exact hs36, by rw [(hk1 39 (by decide)).1]; exact hs39⟩, hk1.wk (by decide), hf1⟩ | exact ⟨_, rfl, Or.inl rfl, ⟨fun z => absurd z (by decide), fun z => absurd z hne⟩, ⟨by rw [(hk1 36 (by decide)).1]; exact hs36, by rw [(hk1 39 (by decide)).1]; exact hs39⟩, hk1.wk (by decide), hf1⟩)
      · skip
        exact absurd ((nI_leI (by omega) (by omega)).mpr (show 2 * ls.length ≤ i by omega)) h_104
    | succ n ih =>
      intro i set M1 hn hsd hhit hwit hcor hk1 hf1
      have hH1 : qH M1 ls := qH_62 hH hf1 (hk1 19 (by decide)).1
      have hi2 : i / 2 < ls.length := by omega
      have hri := List.getElem?_eq_getElem (l := ls) hi2
      generalize hme : ls[i / 2] = p at hri
      refine za_iload hc dM_hasPoints_96 rfl ?_
      refine za_iconst hc 2 dM_hasPoints_98 rfl ?_
      refine za_aload_n hc dM_hasPoints_99 rfl ?_
      refine za_getI hc gfM_73 zob_62 dM_hasPoints_100 ?_
      rw [hH1.1]
      refine za_imul hc dM_hasPoints_103 ?_
      rw [show (2 : Int32) = nI 2 from rfl, pk_mul]
      refine za_icmp_ge 144 hc dM_hasPoints_104 rfl (fun h_104 => ?_) (fun h_104 => ?_)
      · skip
        exact absurd ((nI_leI (by omega) (by omega)).mp h_104) (by omega)
      · skip
        refine za_aload_n hc dM_hasPoints_107 rfl ?_
        refine za_iload hc dM_hasPoints_108 rfl ?_
        refine za_iconst hc 2 dM_hasPoints_110 rfl ?_
        refine za_idiv hc dM_hasPoints_111 (by decide) ?_
        rw [show (2 : Int32) = nI 2 from rfl, pk_div (by omega) (by decide) (by decide)]
        refine za_iload hc dM_hasPoints_112 rfl ?_
        refine za_iconst hc 2 dM_hasPoints_114 rfl ?_
        refine za_irem hc dM_hasPoints_115 (by decide) ?_
        rw [show (2 : Int32) = nI 2 from rfl, pk_rem (by omega) (by decide) (by decide)]
        refine za_iconst hc 1 dM_hasPoints_116 rfl ?_
        refine za_icmp_ne 124 hc dM_hasPoints_117 rfl (fun h_117 => ?_) (fun h_117 => ?_)
        · skip
          have hev : ¬ i % 2 = 1 := fun z => h_117 (by rw [z]; rfl)
          refine za_iconst hc 0 dM_hasPoints_124 rfl ?_
          refine za_cV2i hc gsM_113 zob_62 (cM_way_ l M1 (i := i / 2) 0 hH1 hB hri) ⟨rfl, rfl⟩ ⟨Nat.le_of_ble_eq_true rfl, Nat.le_of_ble_eq_true rfl⟩ ⟨Nat.zero_le _, Nat.zero_le _⟩ dM_hasPoints_125 (fun x_125 M_125 h_125 => ?_)
          obtain ⟨w0, w1, w2, w3, w4⟩ := h_125
          have hk2 := hk1.tr (w3.wk (by decide))
          have hf2 := hf1.tr w4
          have hH2 : qH M_125 ls := qH_62 hH hf2 (hk2 19 (by decide)).1
          have bp := hB p (List.mem_of_getElem? hri)
          have hbv : (0 : Int32) = if i % 2 = 1 then 1 else 0 := by rw [if_neg hev]
          have bX : (-200000000 ≤ (zJ M_125 62 32).toInt ∧ (zJ M_125 62 32).toInt ≤ 200000000) ∧ (-200000000 ≤ (zJ M_125 62 33).toInt ∧ (zJ M_125 62 33).toInt ≤ 200000000) := by
            have b1 := bp.1; have b2 := bp.2.1; unfold gwi at w1; split at w1 <;> omega
          refine za_if_eq 138 hc dM_hasPoints_128 rfl (fun h_128 => ?_) (fun h_128 => ?_)
          · skip
            have hz1 := h_128
            refine za_iinc hc _ dM_hasPoints_138 rfl ((nI_succ i).symm) (by decide) ?_
            refine za_goto 96 hc dM_hasPoints_141 rfl ?_
            refine ih (i + 1) set M_125 (by omega) hsd hhit ?_ hcor hk2 hf2
            exact gWit_step hwit hri hbv w1 (fun k hk => hk) (fun z => absurd (w2.mpr z) (by rw [h_128]; decide))
          · skip
            have hx1 : x_125 = 1 := w0.resolve_left h_128
            refine za_lload_n hc dM_hasPoints_131 rfl ?_
            refine za_aload_n hc dM_hasPoints_132 rfl ?_
            refine za_cV0l hc gsM_117 zob_62 (cM_inWay_ l M_125 hH2 hB bX.1 bX.2) ⟨rfl, rfl⟩ ⟨Nat.le_of_ble_eq_true rfl, Nat.le_of_ble_eq_true rfl⟩ ⟨Nat.zero_le _, Nat.zero_le _⟩ dM_hasPoints_133 (fun x_133 M_133 h_133 => ?_)
            obtain ⟨q_133, hm_133⟩ := h_133
            rw [hm_133]
            refine za_lor hc dM_hasPoints_136 ?_
            refine za_lstore_n hc dM_hasPoints_137 (by decide) ?_
            refine za_iinc hc _ dM_hasPoints_138 rfl ((nI_succ i).symm) (by decide) ?_
            refine za_goto 96 hc dM_hasPoints_141 rfl ?_
            refine ih (i + 1) _ M_125 (by omega) (fun k hk => ?_) ?_ ?_ hcor hk2 hf2
            · rw [lb_or, Bool.or_eq_true] at hk
              rcases hk with hk | hk
              · exact hsd k hk
              · obtain ⟨m, m1, m2, m3⟩ := (q_133 k).mp hk
                exact ⟨m, m1, m2, Or.inr ⟨_, _, ⟨⟨p, List.mem_of_getElem? hri, gwi_way w1⟩, fun m hm => by rw [gv_int]; exact Rat.intCast_nonpos.mpr (w2.mp hx1 m hm)⟩, by rw [gv_int]; exact Rat.intCast_neg_iff.mpr m3⟩⟩
            · intro i j p q a1 a2 a3 a4 a5 x y a6 a7 a8
              obtain ⟨z1, z2⟩ := hhit i j p q a1 a2 a3 a4 a5 x y a6 a7 a8
              exact ⟨z1, fun k m b1 b2 b3 => by rw [lb_or, z2 k m b1 b2 b3]; rfl⟩
            · exact gWit_step hwit hri hbv w1 (fun k hk => by rw [lb_or, hk]; rfl) (fun _ k m b1 b2 b3 => by rw [lb_or, Bool.or_eq_true]; exact Or.inr ((q_133 k).mpr ⟨m, b1, b2, b3⟩))
        · skip
          have hod : i % 2 = 1 := by
            have := (nI_leI (a := i % 2) (b := 1) (by omega) (by decide)).mp (by rw [h_117]; exact Int32.le_refl _)
            have t2 := (nI_leI (a := 1) (b := i % 2) (by decide) (by omega)).mp (by rw [h_117]; exact Int32.le_refl _)
            omega
          refine za_iconst hc 1 dM_hasPoints_120 rfl ?_
          refine za_goto 125 hc dM_hasPoints_121 rfl ?_
          refine za_cV2i hc gsM_113 zob_62 (cM_way_ l M1 (i := i / 2) 1 hH1 hB hri) ⟨rfl, rfl⟩ ⟨Nat.le_of_ble_eq_true rfl, Nat.le_of_ble_eq_true rfl⟩ ⟨Nat.zero_le _, Nat.zero_le _⟩ dM_hasPoints_125 (fun x_125 M_125 h_125 => ?_)
          obtain ⟨w0, w1, w2, w3, w4⟩ := h_125
          have hk2 := hk1.tr (w3.wk (by decide))
          have hf2 := hf1.tr w4
          have hH2 : qH M_125 ls := qH_62 hH hf2 (hk2 19 (by decide)).1
          have bp := hB p (List.mem_of_getElem? hri)
          have hbv : (1 : Int32) = if i % 2 = 1 then 1 else 0 := by rw [if_pos hod]
          have bX : (-200000000 ≤ (zJ M_125 62 32).toInt ∧ (zJ M_125 62 32).toInt ≤ 200000000) ∧ (-200000000 ≤ (zJ M_125 62 33).toInt ∧ (zJ M_125 62 33).toInt ≤ 200000000) := by
            have b1 := bp.1; have b2 := bp.2.1; unfold gwi at w1; split at w1 <;> omega
          refine za_if_eq 138 hc dM_hasPoints_128 rfl (fun h_128 => ?_) (fun h_128 => ?_)
          · skip
            have hz1 := h_128
            refine za_iinc hc _ dM_hasPoints_138 rfl ((nI_succ i).symm) (by decide) ?_
            refine za_goto 96 hc dM_hasPoints_141 rfl ?_
            refine ih (i + 1) set M_125 (by omega) hsd hhit ?_ hcor hk2 hf2
            exact gWit_step hwit hri hbv w1 (fun k hk => hk) (fun z => absurd (w2.mpr z) (by rw [h_128]; decide))
          · skip
            have hx1 : x_125 = 1 := w0.resolve_left h_128
            refine za_lload_n hc dM_hasPoints_131 rfl ?_
            refine za_aload_n hc dM_hasPoints_132 rfl ?_
            refine za_cV0l hc gsM_117 zob_62 (cM_inWay_ l M_125 hH2 hB bX.1 bX.2) ⟨rfl, rfl⟩ ⟨Nat.le_of_ble_eq_true rfl, Nat.le_of_ble_eq_true rfl⟩ ⟨Nat.zero_le _, Nat.zero_le _⟩ dM_hasPoints_133 (fun x_133 M_133 h_133 => ?_)
            obtain ⟨q_133, hm_133⟩ := h_133
            rw [hm_133]
            refine za_lor hc dM_hasPoints_136 ?_
            refine za_lstore_n hc dM_hasPoints_137 (by decide) ?_
            refine za_iinc hc _ dM_hasPoints_138 rfl ((nI_succ i).symm) (by decide) ?_
            refine za_goto 96 hc dM_hasPoints_141 rfl ?_
            refine ih (i + 1) _ M_125 (by omega) (fun k hk => ?_) ?_ ?_ hcor hk2 hf2
            · rw [lb_or, Bool.or_eq_true] at hk
              rcases hk with hk | hk
              · exact hsd k hk
              · obtain ⟨m, m1, m2, m3⟩ := (q_133 k).mp hk
                exact ⟨m, m1, m2, Or.inr ⟨_, _, ⟨⟨p, List.mem_of_getElem? hri, gwi_way w1⟩, fun m hm => by rw [gv_int]; exact Rat.intCast_nonpos.mpr (w2.mp hx1 m hm)⟩, by rw [gv_int]; exact Rat.intCast_neg_iff.mpr m3⟩⟩
            · intro i j p q a1 a2 a3 a4 a5 x y a6 a7 a8
              obtain ⟨z1, z2⟩ := hhit i j p q a1 a2 a3 a4 a5 x y a6 a7 a8
              exact ⟨z1, fun k m b1 b2 b3 => by rw [lb_or, z2 k m b1 b2 b3]; rfl⟩
            · exact gWit_step hwit hri hbv w1 (fun k hk => by rw [lb_or, hk]; rfl) (fun _ k m b1 b2 b3 => by rw [lb_or, Bool.or_eq_true]; exact Or.inr ((q_133 k).mpr ⟨m, b1, b2, b3⟩))
  have CORN : (∀ q ∈ ls, gBd 10000 q) → gNb ls → ∀ (n i : Nat) (v : Int32) (set : Int64) (M1 : zM), n + i = ls.length → (v = 0 ∨ v = 1) → (v = 1 → ∃ x y : Rat, gCor ls x y) → (∀ k, lb set k = true → gSd ls k) → gHit ls (fun a _ => a < i) v set → mK [29, 30, 31, 32, 33] M M1 → zfr m62 M M1 → zW X (zqi (fun x M' => (x = 0 ∨ x = 1) ∧ (x = 1 ↔ gSat ls) ∧ ((zI M' 62 36 = 0 ∨ zI M' 62 36 = 1) ∧ (zI M' 62 39 = 0 ∨ zI M' 62 39 = 1)) ∧ mK hI M M' ∧ zfr m62 M M')) (0, 0) 28 [(0, .ref 62), (1, .int v), (2, .long set), (4, .int (nI i))] [] M1 := by
    intro hB hnb n
    induction n with
    | zero =>
      intro i v set M1 hn hv hcor hsd hhit hk1 hf1
      have hH1 : qH M1 ls := qH_62 hH hf1 (hk1 19 (by decide)).1
      have hhit2 : gHit ls (fun _ _ => True) v set := fun a b p q _ hab ha hb => hhit a b p q (by have := (List.getElem?_eq_some_iff.mp ha).1; omega) hab ha hb
      refine za_iload hc dM_hasPoints_28 rfl ?_
      refine za_aload_n hc dM_hasPoints_30 rfl ?_
      refine za_getI hc gfM_73 zob_62 dM_hasPoints_31 ?_
      rw [hH1.1]
      refine za_icmp_ge 87 hc dM_hasPoints_34 rfl (fun h_34 => ?_) (fun h_34 => ?_)
      · skip
        refine za_iload_n hc dM_hasPoints_87 rfl ?_
        refine za_if_ne 93 hc dM_hasPoints_88 rfl (fun h_88 => ?_) (fun h_88 => ?_)
        · skip
          have hv1 := hv.resolve_left h_88
          refine za_iconst hc 0 dM_hasPoints_93 rfl ?_
          refine za_istore hc dM_hasPoints_94 (by decide) ?_
          exact WAYS hB hnb v (2 * ls.length) 0 set M1 (by omega) hsd hhit2 (fun i h => absurd h (by omega)) (hcor hv1) hk1 hf1
        · skip
          have hv0 : ¬ v = 1 := by rw [h_88]; decide
          refine za_iconst hc 0 dM_hasPoints_91 rfl ?_
          exact za_zret hc rfl (rfl) dM_hasPoints_92 ⟨Nat.zero_le _, Nat.zero_le _⟩ (⟨_, rfl, Or.inl rfl, ⟨fun z => absurd z (by decide), fun z => absurd z (g_none hnb hhit2 hv0)⟩, ⟨by rw [(hk1 36 (by decide)).1]; exact hs36, by rw [(hk1 39 (by decide)).1]; exact hs39⟩, hk1.wk (by decide), hf1⟩)
      · skip
        exact absurd ((nI_leI (by omega) (by omega)).mpr (show ls.length ≤ i by omega)) h_34
    | succ n ih =>
      intro i v set M1 hn hv hcor hsd hhit hk1 hf1
      have hri := List.getElem?_eq_getElem (l := ls) (show i < ls.length by omega)
      generalize hme : ls[i] = p at hri
      have inner : ∀ (n2 j : Nat) (v : Int32) (set : Int64) (M1 : zM), n2 + j = ls.length → i < j → (v = 0 ∨ v = 1) → (v = 1 → ∃ x y : Rat, gCor ls x y) → (∀ k, lb set k = true → gSd ls k) → gHit ls (fun a b => a < i ∨ (a = i ∧ b < j)) v set → mK [29, 30, 31, 32, 33] M M1 → zfr m62 M M1 → zW X (zqi (fun x M' => (x = 0 ∨ x = 1) ∧ (x = 1 ↔ gSat ls) ∧ ((zI M' 62 36 = 0 ∨ zI M' 62 36 = 1) ∧ (zI M' 62 39 = 0 ∨ zI M' 62 39 = 1)) ∧ mK hI M M' ∧ zfr m62 M M')) (0, 0) 43 [(0, .ref 62), (1, .int v), (2, .long set), (4, .int (nI i)), (5, .int (nI j))] [] M1 := by
        clear hv hcor hsd hhit hk1 hf1 M1 v set
        intro n2
        induction n2 with
        | zero =>
          intro j v set M1 hm hij hv hcor hsd hhit hk1 hf1
          have hH1 : qH M1 ls := qH_62 hH hf1 (hk1 19 (by decide)).1
          refine za_iload hc dM_hasPoints_43 rfl ?_
          refine za_aload_n hc dM_hasPoints_45 rfl ?_
          refine za_getI hc gfM_73 zob_62 dM_hasPoints_46 ?_
          rw [hH1.1]
          refine za_icmp_ge 81 hc dM_hasPoints_49 rfl (fun h_49 => ?_) (fun h_49 => ?_)
          · skip
            refine za_iinc hc _ dM_hasPoints_81 rfl ((nI_succ i).symm) (by decide) ?_
            refine za_goto 28 hc dM_hasPoints_84 rfl ?_
            refine za_take 4 ?_
            refine ih (i + 1) v set M1 (by omega) hv hcor hsd (fun a b p q hP hab ha hb => hhit a b p q ?_ hab ha hb) hk1 hf1
            have := (List.getElem?_eq_some_iff.mp hb).1
            omega
          · skip
            exact absurd ((nI_leI (by omega) (by omega)).mpr (show ls.length ≤ j by omega)) h_49
        | succ n2 ih2 =>
          intro j v set M1 hm hij hv hcor hsd hhit hk1 hf1
          have hH1 : qH M1 ls := qH_62 hH hf1 (hk1 19 (by decide)).1
          have hrj := List.getElem?_eq_getElem (l := ls) (show j < ls.length by omega)
          generalize hmj : ls[j] = q at hrj
          refine za_iload hc dM_hasPoints_43 rfl ?_
          refine za_aload_n hc dM_hasPoints_45 rfl ?_
          refine za_getI hc gfM_73 zob_62 dM_hasPoints_46 ?_
          rw [hH1.1]
          refine za_icmp_ge 81 hc dM_hasPoints_49 rfl (fun h_49 => ?_) (fun h_49 => ?_)
          · skip
            exact absurd ((nI_leI (by omega) (by omega)).mp h_49) (by omega)
          · skip
            refine za_aload_n hc dM_hasPoints_52 rfl ?_
            refine za_iload hc dM_hasPoints_53 rfl ?_
            refine za_iload hc dM_hasPoints_55 rfl ?_
            refine za_cV2i hc gsM_105 zob_62 (cM_corner_ l M1 (i := i) (j := j) hH1 hB hri hrj) ⟨rfl, rfl⟩ ⟨Nat.le_of_ble_eq_true rfl, Nat.le_of_ble_eq_true rfl⟩ ⟨Nat.zero_le _, Nat.zero_le _⟩ dM_hasPoints_57 (fun x_57 M_57 h_57 => ?_)
            obtain ⟨w0, w1, w2, w3, w4⟩ := h_57
            have hk2 := hk1.tr (w3.wk (by decide))
            have hf2 := hf1.tr w4
            have hH2 : qH M_57 ls := qH_62 hH hf2 (hk2 19 (by decide)).1
            refine za_if_ne 66 hc dM_hasPoints_60 rfl (fun h_60 => ?_) (fun h_60 => ?_)
            · skip
              have hx1 := w0.resolve_left h_60
              have hg : gcr p q ≠ 0 := fun z => h_60 (w1 z)
              obtain ⟨w5, w6⟩ := w2 hg
              obtain ⟨x1, y1, c1, c2, c3⟩ := gCor_at (List.mem_of_getElem? hri) (List.mem_of_getElem? hrj) hg w5 (w6.mp hx1)
              refine za_iconst hc 1 dM_hasPoints_66 rfl ?_
              refine za_istore_n hc dM_hasPoints_67 (by decide) ?_
              refine za_lload_n hc dM_hasPoints_68 rfl ?_
              refine za_aload_n hc dM_hasPoints_69 rfl ?_
              refine za_cV0l hc gsM_109 zob_62 (cM_inCorner_ l M_57 hH2 hB w5.2.1 w5.2.2.1 (by have := w5.1; omega)) ⟨rfl, rfl⟩ ⟨Nat.le_of_ble_eq_true rfl, Nat.le_of_ble_eq_true rfl⟩ ⟨Nat.zero_le _, Nat.zero_le _⟩ dM_hasPoints_70 (fun x_70 M_70 h_70 => ?_)
              obtain ⟨q_70, hm_70⟩ := h_70
              rw [hm_70]
              refine za_lor hc dM_hasPoints_73 ?_
              refine za_lstore_n hc dM_hasPoints_74 (by decide) ?_
              refine za_iinc hc _ dM_hasPoints_75 rfl ((nI_succ j).symm) (by decide) ?_
              refine za_goto 43 hc dM_hasPoints_78 rfl ?_
              refine ih2 (j + 1) 1 _ M_57 (by omega) (by omega) (Or.inr rfl) (fun _ => ⟨x1, y1, c3⟩) (fun k hk => ?_) (gHit_yes hhit (fun a b h => by rcases h with h | ⟨h1, h2⟩; exact Or.inl (Or.inl h); by_cases c : b = j; exact Or.inr ⟨h1, c⟩; exact Or.inl (Or.inr ⟨h1, by omega⟩)) hri hrj w5 q_70) hk2 hf2
              rw [lb_or, Bool.or_eq_true] at hk
              rcases hk with hk | hk
              · exact hsd k hk
              · obtain ⟨m, m1, m2, m3⟩ := (q_70 k).mp hk
                exact ⟨m, m1, m2, Or.inl ⟨x1, y1, c3, (gd1_iff w5.1.1 c1 c2).mp m3⟩⟩
            · skip
              have hno : gcr p q ≠ 0 → ∃ X Y D : Int, gAt p q X Y D ∧ ¬ ∀ m ∈ ls, gd2 m X Y D := fun hg => ⟨_, _, _, (w2 hg).1, fun z => absurd ((w2 hg).2.mpr z) (by rw [h_60]; decide)⟩
              refine za_goto 75 hc dM_hasPoints_63 rfl ?_
              refine za_iinc hc _ dM_hasPoints_75 rfl ((nI_succ j).symm) (by decide) ?_
              refine za_goto 43 hc dM_hasPoints_78 rfl ?_
              exact ih2 (j + 1) v set M_57 (by omega) (by omega) hv hcor hsd (gHit_no hhit (fun a b h => by rcases h with h | ⟨h1, h2⟩; exact Or.inl (Or.inl h); by_cases c : b = j; exact Or.inr ⟨h1, c⟩; exact Or.inl (Or.inr ⟨h1, by omega⟩)) hri hrj hno) hk2 hf2
      have hH1 : qH M1 ls := qH_62 hH hf1 (hk1 19 (by decide)).1
      refine za_iload hc dM_hasPoints_28 rfl ?_
      refine za_aload_n hc dM_hasPoints_30 rfl ?_
      refine za_getI hc gfM_73 zob_62 dM_hasPoints_31 ?_
      rw [hH1.1]
      refine za_icmp_ge 87 hc dM_hasPoints_34 rfl (fun h_34 => ?_) (fun h_34 => ?_)
      · skip
        exact absurd ((nI_leI (by omega) (by omega)).mp h_34) (by omega)
      · skip
        refine za_iload hc dM_hasPoints_37 rfl ?_
        refine za_iconst hc 1 dM_hasPoints_39 rfl ?_
        refine za_iadd hc dM_hasPoints_40 ?_
        rw [show nI i + 1 = nI (i + 1) from (nI_succ i).symm]
        refine za_istore hc dM_hasPoints_41 (by decide) ?_
        refine inner n (i + 1) v set M1 (by omega) (by omega) hv hcor hsd (fun a b p q hP hab ha hb => hhit a b p q ?_ hab ha hb) hk1 hf1
        rcases hP with z | ⟨z1, z2⟩
        · exact z
        · omega
  refine za_aload_n hc dM_hasPoints_0 rfl ?_
  refine za_getI hc gfM_73 zob_62 dM_hasPoints_1 ?_
  rw [hH.1]
  refine za_if_ne 9 hc dM_hasPoints_4 rfl (fun h_4 => ?_) (fun h_4 => ?_)
  · skip
    have hne : 0 < ls.length := Nat.pos_of_ne_zero (fun z => h_4 (by rw [z]; rfl))
    obtain ⟨h0, hh⟩ : ∃ h0, ls[0]? = some h0 := ⟨_, List.getElem?_eq_getElem hne⟩
    refine za_aload_n hc dM_hasPoints_9 rfl ?_
    refine za_cV0i hc gsM_98 zob_62 (cM_isBand_ l M hH hh hB2) ⟨rfl, rfl⟩ ⟨Nat.le_of_ble_eq_true rfl, Nat.le_of_ble_eq_true rfl⟩ ⟨Nat.zero_le _, Nat.zero_le _⟩ dM_hasPoints_10 (fun x_10 M_10 h_10 => ?_)
    obtain ⟨w0, w1, hm_10⟩ := h_10
    rw [hm_10]
    refine za_if_eq 21 hc dM_hasPoints_13 rfl (fun h_13 => ?_) (fun h_13 => ?_)
    · skip
      have hnb : gNb ls := g_nb (List.mem_of_getElem? hh) hnz (fun z => absurd (w1.mpr z) (by rw [h_13]; decide))
      have hB : ∀ q ∈ ls, gBd 10000 q := hOK.resolve_right (fun z => absurd (w1.mpr (fun q hq => z h0 (List.mem_of_getElem? hh) q hq)) (by rw [h_13]; decide))
      refine za_iconst hc 0 dM_hasPoints_21 rfl ?_
      refine za_istore_n hc dM_hasPoints_22 (by decide) ?_
      refine za_lconst hc 0 dM_hasPoints_23 rfl ?_
      refine za_lstore_n hc dM_hasPoints_24 (by decide) ?_
      refine za_iconst hc 0 dM_hasPoints_25 rfl ?_
      refine za_istore hc dM_hasPoints_26 (by decide) ?_
      exact CORN hB hnb ls.length 0 0 0 M (by omega) (Or.inl rfl) (fun z => absurd z (by decide)) (fun k hk => by rw [lb_zero] at hk; cases hk) (fun a b p q h => absurd h (by omega)) mK.rf zfr.rf
    · skip
      have hall := w1.mp (w0.resolve_left h_13)
      refine za_aload_n hc dM_hasPoints_16 rfl ?_
      refine za_cV0i hc gsM_102 zob_62 (cM_band_ l M hH hB2 (fun up hup => (g_line (List.mem_of_getElem? hh) hnz hall hup).1) hs36 hs39) ⟨rfl, rfl⟩ ⟨Nat.le_of_ble_eq_true rfl, Nat.le_of_ble_eq_true rfl⟩ ⟨Nat.zero_le _, Nat.zero_le _⟩ dM_hasPoints_17 (fun x_17 M_17 h_17 => ?_)
      obtain ⟨r0, up, r1, r2, r3, r4, r5, r6, r7, r8⟩ := h_17
      obtain ⟨z1, α, β, z2, z3, -⟩ := g_line (List.mem_of_getElem? hh) hnz hall r1
      obtain ⟨y1, y2⟩ := hiF_s up ls ((zJ M 62 37).toInt, 0, zI M 62 39 == 1) rfl
      obtain ⟨y3, y4⟩ := loF_s up ls (-(zJ M 62 34).toInt, 0, zI M 62 36 == 1) rfl z1
      rw [← r2] at y1 y2
      rw [← r3] at y3 y4
      have hsat : gGap (hiE M_17) (loE M_17) ↔ gSat ls := by
        rw [gGap_iff y2 y4]
        constructor
        · rintro ⟨t, a1, a2⟩
          obtain ⟨x, y, hxy⟩ := z3 t
          exact ⟨x, y, (g_band α β z2 z3 z1 y1 y3 x y).mpr (by rw [hxy]; exact ⟨a1, a2⟩)⟩
        · rintro ⟨x, y, hxy⟩
          exact ⟨_, (g_band α β z2 z3 z1 y1 y3 x y).mp hxy⟩
      exact za_zret hc rfl (by rcases r0 with z | z <;> rw [z] <;> rfl) dM_hasPoints_20 ⟨Nat.zero_le _, Nat.zero_le _⟩ (⟨_, rfl, r0, r5.trans hsat, r6, r7.wk (by decide), r8⟩)
  · skip
    have he : ls = [] := List.length_eq_zero_iff.mp (Nat.le_zero.mp ((nI_leI (by omega) (by decide)).mp (by rw [h_4]; exact Int32.le_refl _ : nI ls.length ≤ nI 0)))
    refine za_iconst hc 1 dM_hasPoints_7 rfl ?_
    exact za_zret hc rfl (rfl) dM_hasPoints_8 ⟨Nat.zero_le _, Nat.zero_le _⟩ (⟨_, rfl, Or.inr rfl, ⟨fun _ => by rw [he]; exact gSat_nil, fun _ => rfl⟩, ⟨hs36, hs39⟩, mK.rf, zfr.rf⟩)
