/-! The model: a band, members that are all of one direction. -/
def gco (up : Bool) (m : gC) : Int := if up = true then m.2.1 else m.1
def gHi (e : gE) (c u : Int) (s : Bool) : gE := if e.2.1 = 0 ∨ c * e.2.1 < e.1 * u then (c, u, s) else if c * e.2.1 = e.1 * u then (e.1, e.2.1, e.2.2 || s) else e
def hi1 (up : Bool) (e : gE) (m : gC) : gE := if 0 < gco up m then gHi e m.2.2.1 (gco up m) m.2.2.2 else e
def lo1 (up : Bool) (e : gE) (m : gC) : gE := if 0 < gco up m then e else gHi e m.2.2.1 (-gco up m) m.2.2.2
theorem gHi_s {e : gE} {c u : Int} {s : Bool} (he : 0 ≤ e.2.1) (hu : 0 < u) : (∀ t, gEs (gHi e c u s) t ↔ gEs e t ∧ gdm (u : Rat) (c : Rat) s t) ∧ 0 ≤ (gHi e c u s).2.1 := by
  have huR : (0 : Rat) < (u : Rat) := Rat.intCast_pos.mpr hu
  have hu0 : u ≠ 0 := by omega
  unfold gHi
  by_cases h0 : e.2.1 = 0
  · rw [if_pos (Or.inl h0)]
    exact ⟨fun t => ⟨fun h => ⟨fun z => absurd h0 z, h hu0⟩, fun h _ => h.2⟩, Int.le_of_lt hu⟩
  · have heR : (0 : Rat) < (e.2.1 : Rat) := Rat.intCast_pos.mpr (by omega)
    by_cases h1 : c * e.2.1 < e.1 * u
    · rw [if_pos (Or.inr h1)]
      exact ⟨fun t => ⟨fun h => ⟨fun _ => gdm_lt huR heR (castM h1) (h hu0), h hu0⟩, fun h _ => h.2⟩, Int.le_of_lt hu⟩
    · rw [if_neg (by rintro (h | h); exact h0 h; exact h1 h)]
      by_cases h2 : c * e.2.1 = e.1 * u
      · rw [if_pos h2]
        refine ⟨fun t => ?_, he⟩
        cases hs : s with
        | false =>
          rw [Bool.or_false]
          exact ⟨fun h => ⟨h, gdm_eq heR huR (castE h2).symm (fun z => by cases z) (h h0)⟩, fun h => h.1⟩
        | true =>
          rw [Bool.or_true]
          constructor
          · intro h
            have h := h h0
            exact ⟨fun _ => gdm_eq heR heR rfl (fun _ => rfl) h, gdm_eq heR huR (castE h2).symm (fun _ => rfl) h⟩
          · rintro ⟨-, h⟩ -
            exact gdm_eq huR heR (castE h2) (fun _ => rfl) h
      · rw [if_neg h2]
        exact ⟨fun t => ⟨fun h => ⟨h, gdm_lt heR huR (castM (by omega)) (h h0)⟩, fun h => h.1⟩, he⟩
theorem g_fold_es {α : Type} (F : gE → α → gE) (C : α → Rat → Prop) (G : α → Prop) (h : ∀ e a, G a → 0 ≤ e.2.1 → (∀ t, gEs (F e a) t ↔ gEs e t ∧ C a t) ∧ 0 ≤ (F e a).2.1) (l : List α) : (∀ a ∈ l, G a) → ∀ e : gE, 0 ≤ e.2.1 → (∀ t, gEs (l.foldl F e) t ↔ gEs e t ∧ ∀ a ∈ l, C a t) ∧ 0 ≤ (l.foldl F e).2.1 := by
  induction l with
  | nil => exact fun _ e he => ⟨fun t => ⟨fun z => ⟨z, fun a ha => by cases ha⟩, fun z => z.1⟩, he⟩
  | cons a l ih =>
    intro hG e he
    obtain ⟨h1, h2⟩ := h e a (hG a List.mem_cons_self) he
    obtain ⟨h3, h4⟩ := ih (fun b hb => hG b (List.mem_cons_of_mem _ hb)) (F e a) h2
    refine ⟨fun t => ?_, h4⟩
    rw [List.foldl_cons, h3 t, h1 t]
    constructor
    · rintro ⟨⟨u, v⟩, w⟩
      exact ⟨u, fun b hb => by rcases List.mem_cons.mp hb with z | z; rw [z]; exact v; exact w b z⟩
    · rintro ⟨u, w⟩
      exact ⟨⟨u, w a List.mem_cons_self⟩, fun b hb => w b (List.mem_cons_of_mem _ hb)⟩
theorem hiF_s (up : Bool) (ls : List gC) (e : gE) (he : e.2.1 = 0) : (∀ t, gEs (ls.foldl (hi1 up) e) t ↔ ∀ m ∈ ls, 0 < gco up m → gdm ((gco up m : Int) : Rat) (m.2.2.1 : Rat) m.2.2.2 t) ∧ 0 ≤ (ls.foldl (hi1 up) e).2.1 := by
  obtain ⟨h1, h2⟩ := g_fold_es (hi1 up) (fun m t => 0 < gco up m → gdm ((gco up m : Int) : Rat) (m.2.2.1 : Rat) m.2.2.2 t) (fun _ => True) (fun e a _ he => by
    unfold hi1
    split <;> rename_i h
    · obtain ⟨k1, k2⟩ := gHi_s (c := a.2.2.1) (s := a.2.2.2) he h
      exact ⟨fun t => (k1 t).trans ⟨fun z => ⟨z.1, fun _ => z.2⟩, fun z => ⟨z.1, z.2 h⟩⟩, k2⟩
    · exact ⟨fun t => ⟨fun z => ⟨z, fun w => absurd w h⟩, fun z => z.1⟩, he⟩) ls (fun _ _ => trivial) e (by omega)
  exact ⟨fun t => (h1 t).trans ⟨fun z => z.2, fun z => ⟨fun w => absurd he w, z⟩⟩, h2⟩
theorem loF_s (up : Bool) (ls : List gC) (e : gE) (he : e.2.1 = 0) (hz : ∀ m ∈ ls, gco up m ≠ 0) : (∀ t, gEs (ls.foldl (lo1 up) e) t ↔ ∀ m ∈ ls, gco up m < 0 → gdm ((-gco up m : Int) : Rat) (m.2.2.1 : Rat) m.2.2.2 t) ∧ 0 ≤ (ls.foldl (lo1 up) e).2.1 := by
  obtain ⟨h1, h2⟩ := g_fold_es (lo1 up) (fun m t => gco up m < 0 → gdm ((-gco up m : Int) : Rat) (m.2.2.1 : Rat) m.2.2.2 t) (fun m => gco up m ≠ 0) (fun e a hne he => by
    unfold lo1
    split <;> rename_i h
    · exact ⟨fun t => ⟨fun z => ⟨z, fun w => absurd w (by omega)⟩, fun z => z.1⟩, he⟩
    · have hlt : gco up a < 0 := by omega
      obtain ⟨k1, k2⟩ := gHi_s (c := a.2.2.1) (u := -gco up a) (s := a.2.2.2) he (by omega)
      exact ⟨fun t => (k1 t).trans ⟨fun z => ⟨z.1, fun _ => z.2⟩, fun z => ⟨z.1, z.2 hlt⟩⟩, k2⟩) ls hz e (by omega)
  exact ⟨fun t => (h1 t).trans ⟨fun z => z.2, fun z => ⟨fun w => absurd he w, z⟩⟩, h2⟩
theorem gdm_flip {u : Int} {c t : Rat} {s : Bool} : gdm ((-u : Int) : Rat) c s (-t) ↔ gdm (u : Rat) c s t := by
  unfold gdm
  have e : ((-u : Int) : Rat) * -t = (u : Rat) * t := by push_cast; grind
  rw [e]
theorem g_line {ls : List gC} {h0 : gC} {up : Bool} (h00 : h0 ∈ ls) (hnz : ∀ q ∈ ls, ¬ (q.1 = 0 ∧ q.2.1 = 0)) (hcr : ∀ q ∈ ls, gcr h0 q = 0) (hup : up = true ↔ ∀ m ∈ ls, m.1 = 0) :
    (∀ m ∈ ls, gco up m ≠ 0) ∧ ∃ α β : Rat, (∀ m ∈ ls, ∀ x y : Rat, gv m x y = ((gco up m : Int) : Rat) * (α * x + β * y)) ∧ (∀ t : Rat, ∃ x y : Rat, α * x + β * y = t) ∧ (if up = true then α = 0 ∧ β = 1 else α = 1 ∧ β * (h0.1 : Rat) = (h0.2.1 : Rat)) := by
  cases up with
  | true =>
    have ha := hup.mp rfl
    refine ⟨fun m hm z => hnz m hm ⟨ha m hm, z⟩, 0, 1, fun m hm x y => ?_, fun t => ⟨0, t, by grind⟩, by rw [if_pos rfl]; exact ⟨rfl, rfl⟩⟩
    unfold gv gco
    rw [ha m hm, if_pos rfl]
    grind
  | false =>
    have h0a : h0.1 ≠ 0 := fun z => by
      have : ∀ m ∈ ls, m.1 = 0 := fun m hm => by
        have hc := hcr m hm
        unfold gcr at hc
        rw [z, Int.zero_mul] at hc
        have hb : h0.2.1 ≠ 0 := fun w => hnz h0 h00 ⟨z, w⟩
        rcases Int.mul_eq_zero.mp (show m.1 * h0.2.1 = 0 by omega) with w | w
        · exact w
        · exact absurd w hb
      exact absurd (hup.mpr this) (by decide)
    have hR : (h0.1 : Rat) ≠ 0 := fun z => h0a (Rat.intCast_eq_zero_iff.mp z)
    have c1 : (h0.2.1 : Rat) / (h0.1 : Rat) * (h0.1 : Rat) = (h0.2.1 : Rat) := Rat.div_mul_cancel hR
    generalize (h0.2.1 : Rat) / (h0.1 : Rat) = β at c1
    have key : ∀ m ∈ ls, h0.1 * m.2.1 = m.1 * h0.2.1 := fun m hm => by have := hcr m hm; unfold gcr at this; omega
    refine ⟨fun m hm z => ?_, 1, β, fun m hm x y => ?_, fun t => ⟨t, 0, by grind⟩, by rw [if_neg (by decide)]; exact ⟨rfl, c1⟩⟩
    · have z1 : m.1 = 0 := z
      have := key m hm
      rw [z1, Int.zero_mul] at this
      rcases Int.mul_eq_zero.mp this with w | w
      · exact h0a w
      · exact hnz m hm ⟨z1, w⟩
    · have k := castE (key m hm)
      have e : (m.2.1 : Rat) = (m.1 : Rat) * β := by
        have h1 : (h0.1 : Rat) * (m.2.1 : Rat) = (h0.1 : Rat) * ((m.1 : Rat) * β) := by rw [k, ← c1]; grind
        have h2 := congrArg (fun q => q / (h0.1 : Rat)) h1
        rw [Rat.mul_comm (h0.1 : Rat), Rat.mul_comm (h0.1 : Rat), Rat.mul_div_cancel hR, Rat.mul_div_cancel hR] at h2
        exact h2
      show (m.1 : Rat) * x + (m.2.1 : Rat) * y = ((gco false m : Int) : Rat) * (1 * x + β * y)
      have e2 : gco false m = m.1 := rfl
      rw [e, e2]; grind
theorem g_band {ls : List gC} {up : Bool} {e f : gE} (α β : Rat) (hl : ∀ m ∈ ls, ∀ x y : Rat, gv m x y = ((gco up m : Int) : Rat) * (α * x + β * y)) (hs : ∀ t : Rat, ∃ x y : Rat, α * x + β * y = t) (hz : ∀ m ∈ ls, gco up m ≠ 0)
    (he : ∀ t, gEs e t ↔ ∀ m ∈ ls, 0 < gco up m → gdm ((gco up m : Int) : Rat) (m.2.2.1 : Rat) m.2.2.2 t) (hf : ∀ t, gEs f t ↔ ∀ m ∈ ls, gco up m < 0 → gdm ((-gco up m : Int) : Rat) (m.2.2.1 : Rat) m.2.2.2 t) (x y : Rat) :
    (∀ m ∈ ls, gst m x y) ↔ gEs e (α * x + β * y) ∧ gEs f (-(α * x + β * y)) := by
  have st : ∀ m ∈ ls, gst m x y ↔ gdm ((gco up m : Int) : Rat) (m.2.2.1 : Rat) m.2.2.2 (α * x + β * y) := fun m hm => by
    unfold gst gdm gk; rw [hl m hm]
  rw [he, hf]
  constructor
  · exact fun h => ⟨fun m hm _ => (st m hm).mp (h m hm), fun m hm _ => gdm_flip.mpr ((st m hm).mp (h m hm))⟩
  · rintro ⟨h1, h2⟩ m hm
    rw [st m hm]
    rcases Int.lt_trichotomy (gco up m) 0 with h | h | h
    · exact gdm_flip.mp (h2 m hm h)
    · exact absurd h (hz m hm)
    · exact h1 m hm h
def hiE (M : zM) : gE := ((zJ M 62 37).toInt, (zJ M 62 38).toInt, zI M 62 39 == 1)
def loE (M : zM) : gE := (-(zJ M 62 34).toInt, (zJ M 62 35).toInt, zI M 62 36 == 1)
def eB (e : gE) : Prop := e.2.1 = 0 ∨ ((-200000000 ≤ e.1 ∧ e.1 ≤ 200000000) ∧ 0 < e.2.1 ∧ e.2.1 ≤ 200000000)
theorem eB_hi {e : gE} {c u : Int} {s : Bool} (he : eB e) (hc : -200000000 ≤ c ∧ c ≤ 200000000) (hu : 0 < u ∧ u ≤ 200000000) : eB (gHi e c u s) := by
  unfold gHi
  split
  · exact Or.inr ⟨hc, hu⟩
  · split
    · exact he
    · exact he
theorem gHi_lt {e : gE} {c u : Int} {s : Bool} (h : e.2.1 = 0 ∨ c * e.2.1 < e.1 * u) : gHi e c u s = (c, u, s) := by unfold gHi; rw [if_pos h]
theorem gHi_eq {e : gE} {c u : Int} {s : Bool} (h0 : ¬ e.2.1 = 0) (h : c * e.2.1 = e.1 * u) : gHi e c u s = (e.1, e.2.1, e.2.2 || s) := by unfold gHi; rw [if_neg (by rintro (z | z); exact h0 z; omega), if_pos h]
theorem gHi_gt {e : gE} {c u : Int} {s : Bool} (h0 : ¬ e.2.1 = 0) (h : e.1 * u < c * e.2.1) : gHi e c u s = e := by unfold gHi; rw [if_neg (by rintro (z | z); exact h0 z; omega), if_neg (by omega)]
theorem cmpS_3 {a b : Int} {P : Int32 → Prop} (h1 : a < b → P (-1)) (h2 : a = b → P 0) (h3 : b < a → P 1) : P (cmpS a b) := by
  unfold cmpS
  by_cases c1 : a < b
  · rw [if_pos c1]; exact h1 c1
  · rw [if_neg c1]
    by_cases c2 : a = b
    · rw [if_pos c2]; exact h2 c2
    · rw [if_neg c2]; exact h3 (by omega)
def fI : List Nat := [34, 35, 36, 37, 38, 39]

set_option maxRecDepth 100000 in
set_option maxHeartbeats 4000000 in
theorem cM_band_ (l : Launch) {ls : List gC} (M : zM) (hH : qH M ls) (hB : ∀ q ∈ ls, gBd 200000000 q) (hnzu : ∀ up : Bool, (up = true ↔ ∀ m ∈ ls, m.1 = 0) → ∀ m ∈ ls, gco up m ≠ 0) (hs36 : zI M 62 36 = 0 ∨ zI M 62 36 = 1) (hs39 : zI M 62 39 = 0 ∨ zI M 62 39 = 1) : zMet l mM_band rM_band [.ref 62] M (zqi (fun x M' => (x = 0 ∨ x = 1) ∧ ∃ up : Bool, (up = true ↔ ∀ m ∈ ls, m.1 = 0) ∧ hiE M' = ls.foldl (hi1 up) ((zJ M 62 37).toInt, 0, zI M 62 39 == 1) ∧ loE M' = ls.foldl (lo1 up) (-(zJ M 62 34).toInt, 0, zI M 62 36 == 1) ∧ (eB (hiE M') ∧ eB (loE M')) ∧ (x = 1 ↔ gGap (hiE M') (loE M')) ∧ ((zI M' 62 36 = 0 ∨ zI M' 62 36 = 1) ∧ (zI M' 62 39 = 0 ∨ zI M' 62 39 = 1)) ∧ mK fI M M' ∧ zfr m62 M M')) := by
  refine za_enter (by decide) (Nat.le_of_ble_eq_true rfl) (fun X hc => ?_)
  have a77 := ar_77
  have a78 := ar_78
  have a79 := ar_79
  have a80 := ar_80
  have hl := hH.2.1
  have LOOP2 : ∀ (v : Int32) (up : Bool), (v = 0 ∨ v = 1) → up = (v == 1) → (up = true ↔ ∀ m ∈ ls, m.1 = 0) → (∀ m ∈ ls, gco up m ≠ 0) → ∀ (t : List gC) (k : Nat) (M1 : zM), ls.drop k = t → k + t.length = ls.length → t.foldl (hi1 up) (hiE M1) = ls.foldl (hi1 up) ((zJ M 62 37).toInt, 0, zI M 62 39 == 1) → t.foldl (lo1 up) (loE M1) = ls.foldl (lo1 up) (-(zJ M 62 34).toInt, 0, zI M 62 36 == 1) → eB (hiE M1) → eB (loE M1) → (zI M1 62 36 = 0 ∨ zI M1 62 36 = 1) → (zI M1 62 39 = 0 ∨ zI M1 62 39 = 1) → mK fI M M1 → zfr m62 M M1 → zW X (zqi (fun x M' => (x = 0 ∨ x = 1) ∧ ∃ up : Bool, (up = true ↔ ∀ m ∈ ls, m.1 = 0) ∧ hiE M' = ls.foldl (hi1 up) ((zJ M 62 37).toInt, 0, zI M 62 39 == 1) ∧ loE M' = ls.foldl (lo1 up) (-(zJ M 62 34).toInt, 0, zI M 62 36 == 1) ∧ (eB (hiE M') ∧ eB (loE M')) ∧ (x = 1 ↔ gGap (hiE M') (loE M')) ∧ ((zI M' 62 36 = 0 ∨ zI M' 62 36 = 1) ∧ (zI M' 62 39 = 0 ∨ zI M' 62 39 = 1)) ∧ mK fI M M' ∧ zfr m62 M M')) (0, 0) 51 [(0, .ref 62), (1, .int v), (2, .int (nI k))] [] M1 := by
    intro v up hv huv hup hnz t
    induction t with
    | nil =>
      intro k M1 hdr hn hEH hEL hbh hbl hs36 hs39 hk hf
      simp only [List.length_nil] at hn
      have hH1 : qH M1 ls := qH_62 hH hf (hk 19 (by decide)).1
      refine za_iload_n hc dM_band_51 rfl ?_
      refine za_aload_n hc dM_band_52 rfl ?_
      refine za_getI hc gfM_73 zob_62 dM_band_53 ?_
      rw [hH1.1]
      refine za_icmp_ge 344 hc dM_band_56 rfl (fun h_56 => ?_) (fun h_56 => ?_)
      · skip
        refine za_aload_n hc dM_band_344 rfl ?_
        refine za_getJ hc gfM_123 zob_62 dM_band_345 ?_
        refine za_lconst hc 0 dM_band_348 rfl ?_
        refine za_lcmp_eq 362 hc dM_band_349 dM_band_350 rfl (fun h_349 => ?_) (fun h_349 => ?_)
        · skip
          have z0 : (loE M1).2.1 = 0 := by show (zJ M1 62 35).toInt = 0; rw [h_349]; rfl
          have hgap : gGap (hiE M1) (loE M1) := Or.inr (Or.inl z0)
          refine za_iconst hc 1 dM_band_362 rfl ?_
          exact za_zret hc rfl (rfl) dM_band_363 ⟨Nat.zero_le _, Nat.zero_le _⟩ (⟨_, rfl, Or.inr rfl, up, hup, hEH, hEL, ⟨hbh, hbl⟩, ⟨fun _ => hgap, fun _ => rfl⟩, ⟨hs36, hs39⟩, hk, hf⟩)
        · skip
          have n0 : ¬ (loE M1).2.1 = 0 := fun z => h_349 (Int64.toInt_inj.mp z)
          refine za_aload_n hc dM_band_353 rfl ?_
          refine za_getJ hc gfM_126 zob_62 dM_band_354 ?_
          refine za_lconst hc 0 dM_band_357 rfl ?_
          refine za_lcmp_ne 364 hc dM_band_358 dM_band_359 rfl (fun h_358 => ?_) (fun h_358 => ?_)
          · skip
            have n1 : ¬ (hiE M1).2.1 = 0 := fun z => h_358 (Int64.toInt_inj.mp z)
            have b1 := hbh.resolve_left n1
            have b2 := hbl.resolve_left n0
            have b3 : 0 < (zJ M1 62 38).toInt ∧ (zJ M1 62 38).toInt ≤ 200000000 := b1.2
            have b4 : -200000000 ≤ (zJ M1 62 37).toInt ∧ (zJ M1 62 37).toInt ≤ 200000000 := b1.1
            have b5 : 0 < (zJ M1 62 35).toInt ∧ (zJ M1 62 35).toInt ≤ 200000000 := b2.2
            have b6 : -200000000 ≤ -(zJ M1 62 34).toInt ∧ -(zJ M1 62 34).toInt ≤ 200000000 := b2.1
            refine za_aload_n hc dM_band_364 rfl ?_
            refine za_getJ hc gfM_140 zob_62 dM_band_365 ?_
            refine za_aload_n hc dM_band_368 rfl ?_
            refine za_getJ hc gfM_123 zob_62 dM_band_369 ?_
            refine za_aload_n hc dM_band_372 rfl ?_
            refine za_getJ hc gfM_129 zob_62 dM_band_373 ?_
            refine za_aload_n hc dM_band_376 rfl ?_
            refine za_getJ hc gfM_126 zob_62 dM_band_377 ?_
            refine za_cS4i hc gsM_132 (cM_compare_ l M1 (zJ M1 62 34) (zJ M1 62 35) (zJ M1 62 37) (zJ M1 62 38) _ (by omega) (by omega) (by omega) (by omega) (by omega) (by omega) rfl) ⟨rfl, rfl⟩ ⟨Nat.le_of_ble_eq_true rfl, Nat.le_of_ble_eq_true rfl⟩ ⟨Nat.zero_le _, Nat.zero_le _⟩ dM_band_380 (fun x_380 M_380 h_380 => ?_)
            obtain ⟨q_380, hm_380⟩ := h_380
            subst q_380
            rw [hm_380]
            have n1a : ¬ (zJ M1 62 38).toInt = 0 := n1
            have n0a : ¬ (zJ M1 62 35).toInt = 0 := n0
            have eg : gGap (hiE M1) (loE M1) ↔ (0 < (zJ M1 62 37).toInt * (zJ M1 62 35).toInt + -(zJ M1 62 34).toInt * (zJ M1 62 38).toInt ∨ ((zJ M1 62 37).toInt * (zJ M1 62 35).toInt + -(zJ M1 62 34).toInt * (zJ M1 62 38).toInt = 0 ∧ (zI M1 62 39 == 1) = false ∧ (zI M1 62 36 == 1) = false)) := by
              unfold gGap hiE loE; simp only
              exact ⟨fun z => by rcases z with z | z | z; exact absurd z n1a; exact absurd z n0a; exact z, fun z => Or.inr (Or.inr z)⟩
            rw [Int.neg_mul] at eg
            refine cmpS_3 (P := fun w => zW X _ _ _ _ (.int w :: _) _) (fun cc => ?_) (fun cc => ?_) (fun cc => ?_)
            · skip
              refine za_istore_n hc dM_band_383 (by decide) ?_
              refine za_iload_n hc dM_band_384 rfl ?_
              refine za_if_lt 406 hc dM_band_385 rfl (fun h_385 => ?_) (fun h_385 => ?_)
              · skip
                refine za_iconst hc 1 dM_band_406 rfl ?_
                refine za_goto 411 hc dM_band_407 rfl ?_
                exact za_zret hc rfl (rfl) dM_band_411 ⟨Nat.zero_le _, Nat.zero_le _⟩ (⟨_, rfl, by first | exact Or.inr rfl | exact Or.inl rfl, up, hup, hEH, hEL, ⟨hbh, hbl⟩, ⟨fun _ => eg.mpr (Or.inl (by omega)), fun _ => rfl⟩, ⟨hs36, hs39⟩, hk, hf⟩)
              · skip
                exact absurd h_385 (by decide)
            · skip
              refine za_istore_n hc dM_band_383 (by decide) ?_
              refine za_iload_n hc dM_band_384 rfl ?_
              refine za_if_lt 406 hc dM_band_385 rfl (fun h_385 => ?_) (fun h_385 => ?_)
              · skip
                exact absurd h_385 (by decide)
              · skip
                refine za_iload_n hc dM_band_388 rfl ?_
                refine za_if_ne 410 hc dM_band_389 rfl (fun h_389 => ?_) (fun h_389 => ?_)
                · skip
                  exact absurd h_389 (by decide)
                · skip
                  refine za_aload_n hc dM_band_392 rfl ?_
                  refine za_getI hc gfM_143 zob_62 dM_band_393 ?_
                  refine za_if_ne 410 hc dM_band_396 rfl (fun h_396 => ?_) (fun h_396 => ?_)
                  · skip
                    have w1 : (zI M1 62 36 == 1) = true := by rw [hs36.resolve_left h_396]; rfl
                    refine za_iconst hc 0 dM_band_410 rfl ?_
                    exact za_zret hc rfl (rfl) dM_band_411 ⟨Nat.zero_le _, Nat.zero_le _⟩ (⟨_, rfl, by first | exact Or.inr rfl | exact Or.inl rfl, up, hup, hEH, hEL, ⟨hbh, hbl⟩, by first | exact ⟨fun _ => eg.mpr (Or.inr ⟨by omega, w2, w1⟩), fun _ => rfl⟩ | exact ⟨fun z => absurd z (by decide), fun z => by rcases eg.mp z with z | z; exact absurd z (by omega); simp_all⟩, ⟨hs36, hs39⟩, hk, hf⟩)
                  · skip
                    have w1 : (zI M1 62 36 == 1) = false := by rw [h_396]; rfl
                    refine za_aload_n hc dM_band_399 rfl ?_
                    refine za_getI hc gfM_136 zob_62 dM_band_400 ?_
                    refine za_if_ne 410 hc dM_band_403 rfl (fun h_403 => ?_) (fun h_403 => ?_)
                    · skip
                      have w2 : (zI M1 62 39 == 1) = true := by rw [hs39.resolve_left h_403]; rfl
                      refine za_iconst hc 0 dM_band_410 rfl ?_
                      exact za_zret hc rfl (rfl) dM_band_411 ⟨Nat.zero_le _, Nat.zero_le _⟩ (⟨_, rfl, by first | exact Or.inr rfl | exact Or.inl rfl, up, hup, hEH, hEL, ⟨hbh, hbl⟩, by first | exact ⟨fun _ => eg.mpr (Or.inr ⟨by omega, w2, w1⟩), fun _ => rfl⟩ | exact ⟨fun z => absurd z (by decide), fun z => by rcases eg.mp z with z | z; exact absurd z (by omega); simp_all⟩, ⟨hs36, hs39⟩, hk, hf⟩)
                    · skip
                      have w2 : (zI M1 62 39 == 1) = false := by rw [h_403]; rfl
                      refine za_iconst hc 1 dM_band_406 rfl ?_
                      refine za_goto 411 hc dM_band_407 rfl ?_
                      exact za_zret hc rfl (rfl) dM_band_411 ⟨Nat.zero_le _, Nat.zero_le _⟩ (⟨_, rfl, by first | exact Or.inr rfl | exact Or.inl rfl, up, hup, hEH, hEL, ⟨hbh, hbl⟩, by first | exact ⟨fun _ => eg.mpr (Or.inr ⟨by omega, w2, w1⟩), fun _ => rfl⟩ | exact ⟨fun z => absurd z (by decide), fun z => by rcases eg.mp z with z | z; exact absurd z (by omega); simp_all⟩, ⟨hs36, hs39⟩, hk, hf⟩)
            · skip
              refine za_istore_n hc dM_band_383 (by decide) ?_
              refine za_iload_n hc dM_band_384 rfl ?_
              refine za_if_lt 406 hc dM_band_385 rfl (fun h_385 => ?_) (fun h_385 => ?_)
              · skip
                exact absurd h_385 (by decide)
              · skip
                refine za_iload_n hc dM_band_388 rfl ?_
                refine za_if_ne 410 hc dM_band_389 rfl (fun h_389 => ?_) (fun h_389 => ?_)
                · skip
                  refine za_iconst hc 0 dM_band_410 rfl ?_
                  exact za_zret hc rfl (rfl) dM_band_411 ⟨Nat.zero_le _, Nat.zero_le _⟩ (⟨_, rfl, by first | exact Or.inr rfl | exact Or.inl rfl, up, hup, hEH, hEL, ⟨hbh, hbl⟩, ⟨fun z => absurd z (by decide), fun z => by rcases eg.mp z with z | z; exact absurd z (by omega); exact absurd z.1 (by omega)⟩, ⟨hs36, hs39⟩, hk, hf⟩)
                · skip
                  exact absurd h_389 (by decide)
          · skip
            have z0 : (hiE M1).2.1 = 0 := by show (zJ M1 62 38).toInt = 0; rw [h_358]; rfl
            have hgap : gGap (hiE M1) (loE M1) := Or.inl z0
            refine za_iconst hc 1 dM_band_362 rfl ?_
            exact za_zret hc rfl (rfl) dM_band_363 ⟨Nat.zero_le _, Nat.zero_le _⟩ (⟨_, rfl, Or.inr rfl, up, hup, hEH, hEL, ⟨hbh, hbl⟩, ⟨fun _ => hgap, fun _ => rfl⟩, ⟨hs36, hs39⟩, hk, hf⟩)
      · skip
        exact absurd ((nI_leI (by omega) (by omega)).mpr (show ls.length ≤ k by omega)) h_56
    | cons m t ih =>
      intro k M1 hdr hn hEH hEL hbh hbl hs36 hs39 hk hf
      simp only [List.length_cons] at hn
      have hri : ls[k]? = some m := by rw [← List.head?_drop, hdr]; rfl
      have hdr2 : ls.drop (k + 1) = t := by rw [← List.drop_drop, hdr]; rfl
      have hmm := List.mem_of_getElem? hri
      have hH1 : qH M1 ls := qH_62 hH hf (hk 19 (by decide)).1
      have dk := hH1.2.2.1 k m hri
      have bm : gBd 200000000 (dg M1 76 k) := by rw [dk]; exact hB m hmm
      have bm1 : -200000000 ≤ (zJ M1 77 k).toInt ∧ (zJ M1 77 k).toInt ≤ 200000000 := bm.1
      have bm2 : -200000000 ≤ (zJ M1 78 k).toInt ∧ (zJ M1 78 k).toInt ≤ 200000000 := bm.2.1
      have bm3 : -200000000 ≤ (zJ M1 79 k).toInt ∧ (zJ M1 79 k).toInt ≤ 200000000 := bm.2.2
      have mc : m.2.2.1 = (zJ M1 79 k).toInt := by rw [← dk]; rfl
      have ms : m.2.2.2 = (zI M1 80 k == 1) := by rw [← dk]; rfl
      have hsk := hH1.2.2.2 k
      rw [List.foldl_cons] at hEH hEL
      have TH : ∀ (U N D : Int64) (w b : Int32), 0 < gco up m → (b = 0 ∨ b = 1) → (N.toInt, D.toInt, b == 1) = gHi (hiE M1) m.2.2.1 (gco up m) m.2.2.2 → eB (N.toInt, D.toInt, b == 1) → zW X (zqi (fun x M' => (x = 0 ∨ x = 1) ∧ ∃ up : Bool, (up = true ↔ ∀ m ∈ ls, m.1 = 0) ∧ hiE M' = ls.foldl (hi1 up) ((zJ M 62 37).toInt, 0, zI M 62 39 == 1) ∧ loE M' = ls.foldl (lo1 up) (-(zJ M 62 34).toInt, 0, zI M 62 36 == 1) ∧ (eB (hiE M') ∧ eB (loE M')) ∧ (x = 1 ↔ gGap (hiE M') (loE M')) ∧ ((zI M' 62 36 = 0 ∨ zI M' 62 36 = 1) ∧ (zI M' 62 39 = 0 ∨ zI M' 62 39 = 1)) ∧ mK fI M M' ∧ zfr m62 M M')) (0, 0) 338 [(0, .ref 62), (1, .int v), (2, .int (nI k)), (3, .long U), (5, .int w)] [] (zsJ (zsJ (zsI M1 62 39 b) 62 37 N) 62 38 D) := by
        intro U N D w b hgp hb he heb
        have e1 : hiE (zsJ (zsJ (zsI M1 62 39 b) 62 37 N) 62 38 D) = gHi (hiE M1) m.2.2.1 (gco up m) m.2.2.2 := by rw [← he]; unfold hiE; rw [zJ_s, if_neg (by decide), zJ_s, if_pos rfl, zJ_s, if_pos rfl, zI_sJ, zI_sJ, zI_s, if_pos rfl]
        have e2 : loE (zsJ (zsJ (zsI M1 62 39 b) 62 37 N) 62 38 D) = loE M1 := by unfold loE; rw [zJ_s, if_neg (by decide), zJ_s, if_neg (by decide), zJ_s, if_neg (by decide), zJ_s, if_neg (by decide), zI_sJ, zI_sJ, zI_s, if_neg (by decide), zJ_sI]
        refine za_iinc hc _ dM_band_338 rfl ((nI_succ k).symm) (by decide) ?_
        refine za_goto 51 hc dM_band_341 rfl ?_
        refine za_take 3 ?_
        refine ih (k + 1) _ hdr2 (by omega) ?_ ?_ ?_ ?_ ?_ ?_ (hk.tr ((mK_sI (by decide)).tr ((mK_sJ (by decide)).tr (mK_sJ (by decide))))) (hf.tr ((zfr_sI (P := m62) rfl).tr ((zfr_sJ (P := m62) rfl).tr (zfr_sJ (P := m62) rfl))))
        · rw [e1]; unfold hi1 at hEH; rw [if_pos hgp] at hEH; exact hEH
        · rw [e2]; unfold lo1 at hEL; rw [if_pos hgp] at hEL; exact hEL
        · rw [e1, ← he]; exact heb
        · rw [e2]; exact hbl
        · rw [zI_sJ, zI_sJ, zI_s, if_neg (by decide)]; exact hs36
        · rw [zI_sJ, zI_sJ, zI_s, if_pos rfl]; exact hb
      have TL : ∀ (U N D : Int64) (w b : Int32), ¬ 0 < gco up m → (b = 0 ∨ b = 1) → (-N.toInt, D.toInt, b == 1) = gHi (loE M1) m.2.2.1 (-gco up m) m.2.2.2 → eB (-N.toInt, D.toInt, b == 1) → zW X (zqi (fun x M' => (x = 0 ∨ x = 1) ∧ ∃ up : Bool, (up = true ↔ ∀ m ∈ ls, m.1 = 0) ∧ hiE M' = ls.foldl (hi1 up) ((zJ M 62 37).toInt, 0, zI M 62 39 == 1) ∧ loE M' = ls.foldl (lo1 up) (-(zJ M 62 34).toInt, 0, zI M 62 36 == 1) ∧ (eB (hiE M') ∧ eB (loE M')) ∧ (x = 1 ↔ gGap (hiE M') (loE M')) ∧ ((zI M' 62 36 = 0 ∨ zI M' 62 36 = 1) ∧ (zI M' 62 39 = 0 ∨ zI M' 62 39 = 1)) ∧ mK fI M M' ∧ zfr m62 M M')) (0, 0) 338 [(0, .ref 62), (1, .int v), (2, .int (nI k)), (3, .long U), (5, .int w)] [] (zsJ (zsJ (zsI M1 62 36 b) 62 34 N) 62 35 D) := by
        intro U N D w b hgp hb he heb
        have e1 : loE (zsJ (zsJ (zsI M1 62 36 b) 62 34 N) 62 35 D) = gHi (loE M1) m.2.2.1 (-gco up m) m.2.2.2 := by rw [← he]; unfold loE; rw [zJ_s, if_neg (by decide), zJ_s, if_pos rfl, zJ_s, if_pos rfl, zI_sJ, zI_sJ, zI_s, if_pos rfl]
        have e2 : hiE (zsJ (zsJ (zsI M1 62 36 b) 62 34 N) 62 35 D) = hiE M1 := by unfold hiE; rw [zJ_s, if_neg (by decide), zJ_s, if_neg (by decide), zJ_s, if_neg (by decide), zJ_s, if_neg (by decide), zI_sJ, zI_sJ, zI_s, if_neg (by decide), zJ_sI]
        refine za_iinc hc _ dM_band_338 rfl ((nI_succ k).symm) (by decide) ?_
        refine za_goto 51 hc dM_band_341 rfl ?_
        refine za_take 3 ?_
        refine ih (k + 1) _ hdr2 (by omega) ?_ ?_ ?_ ?_ ?_ ?_ (hk.tr ((mK_sI (by decide)).tr ((mK_sJ (by decide)).tr (mK_sJ (by decide))))) (hf.tr ((zfr_sI (P := m62) rfl).tr ((zfr_sJ (P := m62) rfl).tr (zfr_sJ (P := m62) rfl))))
        · rw [e2]; unfold hi1 at hEH; rw [if_neg hgp] at hEH; exact hEH
        · rw [e1]; unfold lo1 at hEL; rw [if_neg hgp] at hEL; exact hEL
        · rw [e2]; exact hbh
        · rw [e1, ← he]; exact heb
        · rw [zI_sJ, zI_sJ, zI_s, if_pos rfl]; exact hb
        · rw [zI_sJ, zI_sJ, zI_s, if_neg (by decide)]; exact hs39
      have STEP : ∀ U : Int64, U.toInt = gco up m → (-200000000 ≤ U.toInt ∧ U.toInt ≤ 200000000) → zW X (zqi (fun x M' => (x = 0 ∨ x = 1) ∧ ∃ up : Bool, (up = true ↔ ∀ m ∈ ls, m.1 = 0) ∧ hiE M' = ls.foldl (hi1 up) ((zJ M 62 37).toInt, 0, zI M 62 39 == 1) ∧ loE M' = ls.foldl (lo1 up) (-(zJ M 62 34).toInt, 0, zI M 62 36 == 1) ∧ (eB (hiE M') ∧ eB (loE M')) ∧ (x = 1 ↔ gGap (hiE M') (loE M')) ∧ ((zI M' 62 36 = 0 ∨ zI M' 62 36 = 1) ∧ (zI M' 62 39 = 0 ∨ zI M' 62 39 = 1)) ∧ mK fI M M' ∧ zfr m62 M M')) (0, 0) 79 [(0, .ref 62), (1, .int v), (2, .int (nI k)), (3, .long U)] [] M1 := by
        intro U hU hUb
        refine za_lload_n hc dM_band_79 rfl ?_
        refine za_lconst hc 0 dM_band_80 rfl ?_
        refine za_lcmp_le 211 hc dM_band_81 dM_band_82 rfl (fun h_81 => ?_) (fun h_81 => ?_)
        · skip
          have hle : U.toInt ≤ 0 := Int64.le_iff_toInt_le.mp h_81
          have hgp : ¬ 0 < gco up m := by omega
          have hgn := hnz m hmm
          refine za_aload_n hc dM_band_211 rfl ?_
          refine za_getJ hc gfM_123 zob_62 dM_band_212 ?_
          refine za_lconst hc 0 dM_band_215 rfl ?_
          refine za_lcmp_ne 224 hc dM_band_216 dM_band_217 rfl (fun h_216 => ?_) (fun h_216 => ?_)
          · skip
            have h0 : ¬ (loE M1).2.1 = 0 := fun z => h_216 (Int64.toInt_inj.mp z)
            have b1 := hbl.resolve_left h0
            have b3 : 0 < (zJ M1 62 35).toInt ∧ (zJ M1 62 35).toInt ≤ 200000000 := b1.2
            have b4 : -200000000 ≤ -(zJ M1 62 34).toInt ∧ -(zJ M1 62 34).toInt ≤ 200000000 := b1.1
            have nU := l_neg (x := U) (by omega)
            have nC := l_neg (x := zJ M1 79 k) (by omega)
            refine za_aload_n hc dM_band_224 rfl ?_
            refine za_getA hc gfM_60 zob_62 (p := 79) rfl dM_band_225 ?_
            refine za_iload_n hc dM_band_228 rfl ?_
            refine zm_lald hc (by assumption) dM_band_229 (by omega) (by decide) ?_
            refine za_lneg hc dM_band_230 ?_
            refine za_lload_n hc dM_band_231 rfl ?_
            refine za_lneg hc dM_band_232 ?_
            refine za_aload_n hc dM_band_233 rfl ?_
            refine za_getJ hc gfM_140 zob_62 dM_band_234 ?_
            refine za_aload_n hc dM_band_237 rfl ?_
            refine za_getJ hc gfM_123 zob_62 dM_band_238 ?_
            refine za_cS4i hc gsM_132 (cM_compare_ l M1 (-(zJ M1 79 k)) (-U) (zJ M1 62 34) (zJ M1 62 35) _ (by omega) (by omega) (by omega) (by omega) (by omega) (by omega) rfl) ⟨rfl, rfl⟩ ⟨Nat.le_of_ble_eq_true rfl, Nat.le_of_ble_eq_true rfl⟩ ⟨Nat.zero_le _, Nat.zero_le _⟩ dM_band_241 (fun x_241 M_241 h_241 => ?_)
            obtain ⟨q_241, hm_241⟩ := h_241
            subst q_241
            rw [hm_241, nC, nU]
            refine cmpS_3 (P := fun w => zW X _ _ _ _ (.int w :: _) _) (fun cc => ?_) (fun cc => ?_) (fun cc => ?_)
            · skip
              have HL : (loE M1).1 * -gco up m < m.2.2.1 * (loE M1).2.1 := by rw [mc, ← hU]; show -(zJ M1 62 34).toInt * -U.toInt < (zJ M1 79 k).toInt * (zJ M1 62 35).toInt; rw [Int.neg_mul, Int.mul_neg, Int.neg_neg]; rw [Int.neg_mul, Int.mul_neg] at cc; omega
              refine za_istore hc dM_band_244 (by decide) ?_
              refine za_aload_n hc dM_band_246 rfl ?_
              refine za_iload hc dM_band_247 rfl ?_
              refine za_if_le 261 hc dM_band_249 rfl (fun h_249 => ?_) (fun h_249 => ?_)
              · skip
                refine za_iload hc dM_band_261 rfl ?_
                refine za_if_ne 290 hc dM_band_263 rfl (fun h_263 => ?_) (fun h_263 => ?_)
                · skip
                  refine za_aload_n hc dM_band_290 rfl ?_
                  refine za_getI hc gfM_143 zob_62 dM_band_291 ?_
                  refine za_putZ hc gpM_143 zob_62 (nz01 hs36) dM_band_294 ?_
                  refine za_aload_n hc dM_band_297 rfl ?_
                  refine za_iload hc dM_band_298 rfl ?_
                  refine za_if_le 313 hc dM_band_300 rfl (fun h_300 => ?_) (fun h_300 => ?_)
                  · skip
                    refine za_aload_n hc dM_band_313 rfl ?_
                    refine za_getJ hc gfM_140 zob_62 dM_band_314 ?_
                    rw [zJ_sI]
                    refine za_putJ hc gpM_140 zob_62 dM_band_317 ?_
                    refine za_aload_n hc dM_band_320 rfl ?_
                    refine za_iload hc dM_band_321 rfl ?_
                    refine za_if_le 331 hc dM_band_323 rfl (fun h_323 => ?_) (fun h_323 => ?_)
                    · skip
                      refine za_aload_n hc dM_band_331 rfl ?_
                      refine za_getJ hc gfM_123 zob_62 dM_band_332 ?_
                      rw [zJ_s, if_neg (by decide), zJ_sI]
                      refine za_putJ hc gpM_123 zob_62 dM_band_335 ?_
                      exact TL _ _ _ _ _ hgp hs36 (by rw [gHi_gt h0 HL]; rfl) hbl
                    · skip
                      exact absurd h_323 (by decide)
                  · skip
                    exact absurd h_300 (by decide)
                · skip
                  exact absurd h_263 (by decide)
              · skip
                exact absurd h_249 (by decide)
            · skip
              have HL : m.2.2.1 * (loE M1).2.1 = (loE M1).1 * -gco up m := by rw [mc, ← hU]; show (zJ M1 79 k).toInt * (zJ M1 62 35).toInt = -(zJ M1 62 34).toInt * -U.toInt; rw [Int.neg_mul, Int.mul_neg, Int.neg_neg]; rw [Int.neg_mul, Int.mul_neg] at cc; omega
              refine za_istore hc dM_band_244 (by decide) ?_
              refine za_aload_n hc dM_band_246 rfl ?_
              refine za_iload hc dM_band_247 rfl ?_
              refine za_if_le 261 hc dM_band_249 rfl (fun h_249 => ?_) (fun h_249 => ?_)
              · skip
                refine za_iload hc dM_band_261 rfl ?_
                refine za_if_ne 290 hc dM_band_263 rfl (fun h_263 => ?_) (fun h_263 => ?_)
                · skip
                  exact absurd h_263 (by decide)
                · skip
                  refine za_aload_n hc dM_band_266 rfl ?_
                  refine za_getI hc gfM_143 zob_62 dM_band_267 ?_
                  refine za_if_ne 282 hc dM_band_270 rfl (fun h_270 => ?_) (fun h_270 => ?_)
                  · skip
                    have w1 : (zI M1 62 36 == 1) = true := by rw [hs36.resolve_left h_270]; rfl
                    refine za_iconst hc 1 dM_band_282 rfl ?_
                    refine za_goto 294 hc dM_band_283 rfl ?_
                    refine za_putZ hc gpM_143 zob_62 (nz01 (by first | exact Or.inl rfl | exact Or.inr rfl)) dM_band_294 ?_
                    refine za_aload_n hc dM_band_297 rfl ?_
                    refine za_iload hc dM_band_298 rfl ?_
                    refine za_if_le 313 hc dM_band_300 rfl (fun h_300 => ?_) (fun h_300 => ?_)
                    · skip
                      refine za_aload_n hc dM_band_313 rfl ?_
                      refine za_getJ hc gfM_140 zob_62 dM_band_314 ?_
                      rw [zJ_sI]
                      refine za_putJ hc gpM_140 zob_62 dM_band_317 ?_
                      refine za_aload_n hc dM_band_320 rfl ?_
                      refine za_iload hc dM_band_321 rfl ?_
                      refine za_if_le 331 hc dM_band_323 rfl (fun h_323 => ?_) (fun h_323 => ?_)
                      · skip
                        refine za_aload_n hc dM_band_331 rfl ?_
                        refine za_getJ hc gfM_123 zob_62 dM_band_332 ?_
                        rw [zJ_s, if_neg (by decide), zJ_sI]
                        refine za_putJ hc gpM_123 zob_62 dM_band_335 ?_
                        exact TL _ _ _ _ _ hgp (by first | exact Or.inl rfl | exact Or.inr rfl) (by rw [gHi_eq h0 HL, ms]; unfold loE; simp only [w1, Bool.true_or, Bool.false_or]; first | rfl | (rw [w2]; rfl)) (Or.inr b1)
                      · skip
                        exact absurd h_323 (by decide)
                    · skip
                      exact absurd h_300 (by decide)
                  · skip
                    have w1 : (zI M1 62 36 == 1) = false := by rw [h_270]; rfl
                    refine za_aload_n hc dM_band_273 rfl ?_
                    refine za_getA hc gfM_63 zob_62 (p := 80) rfl dM_band_274 ?_
                    refine za_iload_n hc dM_band_277 rfl ?_
                    refine zm_zald hc (by assumption) dM_band_278 (by omega) (by decide) ?_
                    refine za_if_eq 286 hc dM_band_279 rfl (fun h_279 => ?_) (fun h_279 => ?_)
                    · skip
                      have w2 : (zI M1 80 k == 1) = false := by rw [h_279]; rfl
                      refine za_iconst hc 0 dM_band_286 rfl ?_
                      refine za_goto 294 hc dM_band_287 rfl ?_
                      refine za_putZ hc gpM_143 zob_62 (nz01 (by first | exact Or.inl rfl | exact Or.inr rfl)) dM_band_294 ?_
                      refine za_aload_n hc dM_band_297 rfl ?_
                      refine za_iload hc dM_band_298 rfl ?_
                      refine za_if_le 313 hc dM_band_300 rfl (fun h_300 => ?_) (fun h_300 => ?_)
                      · skip
                        refine za_aload_n hc dM_band_313 rfl ?_
                        refine za_getJ hc gfM_140 zob_62 dM_band_314 ?_
                        rw [zJ_sI]
                        refine za_putJ hc gpM_140 zob_62 dM_band_317 ?_
                        refine za_aload_n hc dM_band_320 rfl ?_
                        refine za_iload hc dM_band_321 rfl ?_
                        refine za_if_le 331 hc dM_band_323 rfl (fun h_323 => ?_) (fun h_323 => ?_)
                        · skip
                          refine za_aload_n hc dM_band_331 rfl ?_
                          refine za_getJ hc gfM_123 zob_62 dM_band_332 ?_
                          rw [zJ_s, if_neg (by decide), zJ_sI]
                          refine za_putJ hc gpM_123 zob_62 dM_band_335 ?_
                          exact TL _ _ _ _ _ hgp (by first | exact Or.inl rfl | exact Or.inr rfl) (by rw [gHi_eq h0 HL, ms]; unfold loE; simp only [w1, Bool.true_or, Bool.false_or]; first | rfl | (rw [w2]; rfl)) (Or.inr b1)
                        · skip
                          exact absurd h_323 (by decide)
                      · skip
                        exact absurd h_300 (by decide)
                    · skip
                      have w2 : (zI M1 80 k == 1) = true := by rw [hsk.resolve_left h_279]; rfl
                      refine za_iconst hc 1 dM_band_282 rfl ?_
                      refine za_goto 294 hc dM_band_283 rfl ?_
                      refine za_putZ hc gpM_143 zob_62 (nz01 (by first | exact Or.inl rfl | exact Or.inr rfl)) dM_band_294 ?_
                      refine za_aload_n hc dM_band_297 rfl ?_
                      refine za_iload hc dM_band_298 rfl ?_
                      refine za_if_le 313 hc dM_band_300 rfl (fun h_300 => ?_) (fun h_300 => ?_)
                      · skip
                        refine za_aload_n hc dM_band_313 rfl ?_
                        refine za_getJ hc gfM_140 zob_62 dM_band_314 ?_
                        rw [zJ_sI]
                        refine za_putJ hc gpM_140 zob_62 dM_band_317 ?_
                        refine za_aload_n hc dM_band_320 rfl ?_
                        refine za_iload hc dM_band_321 rfl ?_
                        refine za_if_le 331 hc dM_band_323 rfl (fun h_323 => ?_) (fun h_323 => ?_)
                        · skip
                          refine za_aload_n hc dM_band_331 rfl ?_
                          refine za_getJ hc gfM_123 zob_62 dM_band_332 ?_
                          rw [zJ_s, if_neg (by decide), zJ_sI]
                          refine za_putJ hc gpM_123 zob_62 dM_band_335 ?_
                          exact TL _ _ _ _ _ hgp (by first | exact Or.inl rfl | exact Or.inr rfl) (by rw [gHi_eq h0 HL, ms]; unfold loE; simp only [w1, Bool.true_or, Bool.false_or]; first | rfl | (rw [w2]; rfl)) (Or.inr b1)
                        · skip
                          exact absurd h_323 (by decide)
                      · skip
                        exact absurd h_300 (by decide)
              · skip
                exact absurd h_249 (by decide)
            · skip
              have HL : (loE M1).2.1 = 0 ∨ m.2.2.1 * (loE M1).2.1 < (loE M1).1 * -gco up m := Or.inr (by rw [mc, ← hU]; show (zJ M1 79 k).toInt * (zJ M1 62 35).toInt < -(zJ M1 62 34).toInt * -U.toInt; rw [Int.neg_mul, Int.mul_neg, Int.neg_neg]; rw [Int.neg_mul, Int.mul_neg] at cc; omega)
              refine za_istore hc dM_band_244 (by decide) ?_
              refine za_aload_n hc dM_band_246 rfl ?_
              refine za_iload hc dM_band_247 rfl ?_
              refine za_if_le 261 hc dM_band_249 rfl (fun h_249 => ?_) (fun h_249 => ?_)
              · skip
                exact absurd h_249 (by decide)
              · skip
                refine za_aload_n hc dM_band_252 rfl ?_
                refine za_getA hc gfM_63 zob_62 (p := 80) rfl dM_band_253 ?_
                refine za_iload_n hc dM_band_256 rfl ?_
                refine zm_zald hc (by assumption) dM_band_257 (by omega) (by decide) ?_
                refine za_goto 294 hc dM_band_258 rfl ?_
                refine za_putZ hc gpM_143 zob_62 (nz01 hsk) dM_band_294 ?_
                refine za_aload_n hc dM_band_297 rfl ?_
                refine za_iload hc dM_band_298 rfl ?_
                refine za_if_le 313 hc dM_band_300 rfl (fun h_300 => ?_) (fun h_300 => ?_)
                · skip
                  exact absurd h_300 (by decide)
                · skip
                  refine za_aload_n hc dM_band_303 rfl ?_
                  refine za_getA hc gfM_60 zob_62 (p := 79) rfl dM_band_304 ?_
                  refine za_iload_n hc dM_band_307 rfl ?_
                  refine zm_lald hc (by assumption) dM_band_308 (by omega) (by decide) ?_
                  rw [zJ_sI]
                  refine za_lneg hc dM_band_309 ?_
                  refine za_goto 317 hc dM_band_310 rfl ?_
                  refine za_putJ hc gpM_140 zob_62 dM_band_317 ?_
                  refine za_aload_n hc dM_band_320 rfl ?_
                  refine za_iload hc dM_band_321 rfl ?_
                  refine za_if_le 331 hc dM_band_323 rfl (fun h_323 => ?_) (fun h_323 => ?_)
                  · skip
                    exact absurd h_323 (by decide)
                  · skip
                    refine za_lload_n hc dM_band_326 rfl ?_
                    refine za_lneg hc dM_band_327 ?_
                    refine za_goto 335 hc dM_band_328 rfl ?_
                    refine za_putJ hc gpM_123 zob_62 dM_band_335 ?_
                    exact TL _ _ _ _ _ hgp hsk (by rw [gHi_lt HL, mc, ms, ← hU, l_neg (by omega), l_neg (by omega), Int.neg_neg]) (Or.inr ⟨by rw [l_neg (by omega)]; show -200000000 ≤ - -_ ∧ - -_ ≤ _; omega, by show 0 < (-U).toInt; rw [l_neg (by omega)]; omega, by show (-U).toInt ≤ _; rw [l_neg (by omega)]; omega⟩)
          · skip
            have h0 : (loE M1).2.1 = 0 := by show (zJ M1 62 35).toInt = 0; rw [h_216]; rfl
            have HL : (loE M1).2.1 = 0 ∨ m.2.2.1 * (loE M1).2.1 < (loE M1).1 * -gco up m := Or.inl h0
            refine za_iconst hc 1 dM_band_220 rfl ?_
            refine za_goto 244 hc dM_band_221 rfl ?_
            refine za_istore hc dM_band_244 (by decide) ?_
            refine za_aload_n hc dM_band_246 rfl ?_
            refine za_iload hc dM_band_247 rfl ?_
            refine za_if_le 261 hc dM_band_249 rfl (fun h_249 => ?_) (fun h_249 => ?_)
            · skip
              exact absurd h_249 (by decide)
            · skip
              refine za_aload_n hc dM_band_252 rfl ?_
              refine za_getA hc gfM_63 zob_62 (p := 80) rfl dM_band_253 ?_
              refine za_iload_n hc dM_band_256 rfl ?_
              refine zm_zald hc (by assumption) dM_band_257 (by omega) (by decide) ?_
              refine za_goto 294 hc dM_band_258 rfl ?_
              refine za_putZ hc gpM_143 zob_62 (nz01 hsk) dM_band_294 ?_
              refine za_aload_n hc dM_band_297 rfl ?_
              refine za_iload hc dM_band_298 rfl ?_
              refine za_if_le 313 hc dM_band_300 rfl (fun h_300 => ?_) (fun h_300 => ?_)
              · skip
                exact absurd h_300 (by decide)
              · skip
                refine za_aload_n hc dM_band_303 rfl ?_
                refine za_getA hc gfM_60 zob_62 (p := 79) rfl dM_band_304 ?_
                refine za_iload_n hc dM_band_307 rfl ?_
                refine zm_lald hc (by assumption) dM_band_308 (by omega) (by decide) ?_
                rw [zJ_sI]
                refine za_lneg hc dM_band_309 ?_
                refine za_goto 317 hc dM_band_310 rfl ?_
                refine za_putJ hc gpM_140 zob_62 dM_band_317 ?_
                refine za_aload_n hc dM_band_320 rfl ?_
                refine za_iload hc dM_band_321 rfl ?_
                refine za_if_le 331 hc dM_band_323 rfl (fun h_323 => ?_) (fun h_323 => ?_)
                · skip
                  exact absurd h_323 (by decide)
                · skip
                  refine za_lload_n hc dM_band_326 rfl ?_
                  refine za_lneg hc dM_band_327 ?_
                  refine za_goto 335 hc dM_band_328 rfl ?_
                  refine za_putJ hc gpM_123 zob_62 dM_band_335 ?_
                  exact TL _ _ _ _ _ hgp hsk (by rw [gHi_lt HL, mc, ms, ← hU, l_neg (by omega), l_neg (by omega), Int.neg_neg]) (Or.inr ⟨by rw [l_neg (by omega)]; show -200000000 ≤ - -_ ∧ - -_ ≤ _; omega, by show 0 < (-U).toInt; rw [l_neg (by omega)]; omega, by show (-U).toInt ≤ _; rw [l_neg (by omega)]; omega⟩)
        · skip
          have hlt : ¬ U.toInt ≤ 0 := fun z => h_81 (Int64.le_iff_toInt_le.mpr z)
          have hgp : 0 < gco up m := by omega
          refine za_aload_n hc dM_band_85 rfl ?_
          refine za_getJ hc gfM_126 zob_62 dM_band_86 ?_
          refine za_lconst hc 0 dM_band_89 rfl ?_
          refine za_lcmp_ne 98 hc dM_band_90 dM_band_91 rfl (fun h_90 => ?_) (fun h_90 => ?_)
          · skip
            have h0 : ¬ (hiE M1).2.1 = 0 := fun z => h_90 (Int64.toInt_inj.mp z)
            have b1 := hbh.resolve_left h0
            have b3 : 0 < (zJ M1 62 38).toInt ∧ (zJ M1 62 38).toInt ≤ 200000000 := b1.2
            have b4 : -200000000 ≤ (zJ M1 62 37).toInt ∧ (zJ M1 62 37).toInt ≤ 200000000 := b1.1
            refine za_aload_n hc dM_band_98 rfl ?_
            refine za_getA hc gfM_60 zob_62 (p := 79) rfl dM_band_99 ?_
            refine za_iload_n hc dM_band_102 rfl ?_
            refine zm_lald hc (by assumption) dM_band_103 (by omega) (by decide) ?_
            refine za_lload_n hc dM_band_104 rfl ?_
            refine za_aload_n hc dM_band_105 rfl ?_
            refine za_getJ hc gfM_129 zob_62 dM_band_106 ?_
            refine za_aload_n hc dM_band_109 rfl ?_
            refine za_getJ hc gfM_126 zob_62 dM_band_110 ?_
            refine za_cS4i hc gsM_132 (cM_compare_ l M1 (zJ M1 79 k) U (zJ M1 62 37) (zJ M1 62 38) _ (by omega) (by omega) (by omega) (by omega) (by omega) (by omega) rfl) ⟨rfl, rfl⟩ ⟨Nat.le_of_ble_eq_true rfl, Nat.le_of_ble_eq_true rfl⟩ ⟨Nat.zero_le _, Nat.zero_le _⟩ dM_band_113 (fun x_113 M_113 h_113 => ?_)
            obtain ⟨q_113, hm_113⟩ := h_113
            subst q_113
            rw [hm_113]
            refine cmpS_3 (P := fun w => zW X _ _ _ _ (.int w :: _) _) (fun cc => ?_) (fun cc => ?_) (fun cc => ?_)
            · skip
              have HL : (hiE M1).2.1 = 0 ∨ m.2.2.1 * (hiE M1).2.1 < (hiE M1).1 * gco up m := Or.inr (by rw [mc, ← hU]; exact cc)
              refine za_istore hc dM_band_116 (by decide) ?_
              refine za_aload_n hc dM_band_118 rfl ?_
              refine za_iload hc dM_band_119 rfl ?_
              refine za_if_ge 133 hc dM_band_121 rfl (fun h_121 => ?_) (fun h_121 => ?_)
              · skip
                exact absurd h_121 (by decide)
              · skip
                refine za_aload_n hc dM_band_124 rfl ?_
                refine za_getA hc gfM_63 zob_62 (p := 80) rfl dM_band_125 ?_
                refine za_iload_n hc dM_band_128 rfl ?_
                refine zm_zald hc (by assumption) dM_band_129 (by omega) (by decide) ?_
                refine za_goto 166 hc dM_band_130 rfl ?_
                refine za_putZ hc gpM_136 zob_62 (nz01 hsk) dM_band_166 ?_
                refine za_aload_n hc dM_band_169 rfl ?_
                refine za_iload hc dM_band_170 rfl ?_
                refine za_if_ge 184 hc dM_band_172 rfl (fun h_172 => ?_) (fun h_172 => ?_)
                · skip
                  exact absurd h_172 (by decide)
                · skip
                  refine za_aload_n hc dM_band_175 rfl ?_
                  refine za_getA hc gfM_60 zob_62 (p := 79) rfl dM_band_176 ?_
                  refine za_iload_n hc dM_band_179 rfl ?_
                  refine zm_lald hc (by assumption) dM_band_180 (by omega) (by decide) ?_
                  rw [zJ_sI]
                  refine za_goto 188 hc dM_band_181 rfl ?_
                  refine za_putJ hc gpM_129 zob_62 dM_band_188 ?_
                  refine za_aload_n hc dM_band_191 rfl ?_
                  refine za_iload hc dM_band_192 rfl ?_
                  refine za_if_ge 201 hc dM_band_194 rfl (fun h_194 => ?_) (fun h_194 => ?_)
                  · skip
                    exact absurd h_194 (by decide)
                  · skip
                    refine za_lload_n hc dM_band_197 rfl ?_
                    refine za_goto 205 hc dM_band_198 rfl ?_
                    refine za_putJ hc gpM_126 zob_62 dM_band_205 ?_
                    refine za_goto 338 hc dM_band_208 rfl ?_
                    exact TH _ _ _ _ _ hgp hsk (by rw [gHi_lt HL, mc, ms, ← hU]) (Or.inr ⟨bm3, by show 0 < U.toInt; omega, by show U.toInt ≤ _; omega⟩)
            · skip
              have HL : m.2.2.1 * (hiE M1).2.1 = (hiE M1).1 * gco up m := by rw [mc, ← hU]; exact cc
              refine za_istore hc dM_band_116 (by decide) ?_
              refine za_aload_n hc dM_band_118 rfl ?_
              refine za_iload hc dM_band_119 rfl ?_
              refine za_if_ge 133 hc dM_band_121 rfl (fun h_121 => ?_) (fun h_121 => ?_)
              · skip
                refine za_iload hc dM_band_133 rfl ?_
                refine za_if_ne 162 hc dM_band_135 rfl (fun h_135 => ?_) (fun h_135 => ?_)
                · skip
                  exact absurd h_135 (by decide)
                · skip
                  refine za_aload_n hc dM_band_138 rfl ?_
                  refine za_getI hc gfM_136 zob_62 dM_band_139 ?_
                  refine za_if_ne 154 hc dM_band_142 rfl (fun h_142 => ?_) (fun h_142 => ?_)
                  · skip
                    have w1 : (zI M1 62 39 == 1) = true := by rw [hs39.resolve_left h_142]; rfl
                    refine za_iconst hc 1 dM_band_154 rfl ?_
                    refine za_goto 166 hc dM_band_155 rfl ?_
                    refine za_putZ hc gpM_136 zob_62 (nz01 (by first | exact Or.inl rfl | exact Or.inr rfl)) dM_band_166 ?_
                    refine za_aload_n hc dM_band_169 rfl ?_
                    refine za_iload hc dM_band_170 rfl ?_
                    refine za_if_ge 184 hc dM_band_172 rfl (fun h_172 => ?_) (fun h_172 => ?_)
                    · skip
                      refine za_aload_n hc dM_band_184 rfl ?_
                      refine za_getJ hc gfM_129 zob_62 dM_band_185 ?_
                      rw [zJ_sI]
                      refine za_putJ hc gpM_129 zob_62 dM_band_188 ?_
                      refine za_aload_n hc dM_band_191 rfl ?_
                      refine za_iload hc dM_band_192 rfl ?_
                      refine za_if_ge 201 hc dM_band_194 rfl (fun h_194 => ?_) (fun h_194 => ?_)
                      · skip
                        refine za_aload_n hc dM_band_201 rfl ?_
                        refine za_getJ hc gfM_126 zob_62 dM_band_202 ?_
                        rw [zJ_s, if_neg (by decide), zJ_sI]
                        refine za_putJ hc gpM_126 zob_62 dM_band_205 ?_
                        refine za_goto 338 hc dM_band_208 rfl ?_
                        exact TH _ _ _ _ _ hgp (by first | exact Or.inl rfl | exact Or.inr rfl) (by rw [gHi_eq h0 HL, ms]; unfold hiE; simp only [w1, Bool.true_or, Bool.false_or]; first | rfl | (rw [w2]; rfl)) (Or.inr b1)
                      · skip
                        exact absurd h_194 (by decide)
                    · skip
                      exact absurd h_172 (by decide)
                  · skip
                    have w1 : (zI M1 62 39 == 1) = false := by rw [h_142]; rfl
                    refine za_aload_n hc dM_band_145 rfl ?_
                    refine za_getA hc gfM_63 zob_62 (p := 80) rfl dM_band_146 ?_
                    refine za_iload_n hc dM_band_149 rfl ?_
                    refine zm_zald hc (by assumption) dM_band_150 (by omega) (by decide) ?_
                    refine za_if_eq 158 hc dM_band_151 rfl (fun h_151 => ?_) (fun h_151 => ?_)
                    · skip
                      have w2 : (zI M1 80 k == 1) = false := by rw [h_151]; rfl
                      refine za_iconst hc 0 dM_band_158 rfl ?_
                      refine za_goto 166 hc dM_band_159 rfl ?_
                      refine za_putZ hc gpM_136 zob_62 (nz01 (by first | exact Or.inl rfl | exact Or.inr rfl)) dM_band_166 ?_
                      refine za_aload_n hc dM_band_169 rfl ?_
                      refine za_iload hc dM_band_170 rfl ?_
                      refine za_if_ge 184 hc dM_band_172 rfl (fun h_172 => ?_) (fun h_172 => ?_)
                      · skip
                        refine za_aload_n hc dM_band_184 rfl ?_
                        refine za_getJ hc gfM_129 zob_62 dM_band_185 ?_
                        rw [zJ_sI]
                        refine za_putJ hc gpM_129 zob_62 dM_band_188 ?_
                        refine za_aload_n hc dM_band_191 rfl ?_
                        refine za_iload hc dM_band_192 rfl ?_
                        refine za_if_ge 201 hc dM_band_194 rfl (fun h_194 => ?_) (fun h_194 => ?_)
                        · skip
                          refine za_aload_n hc dM_band_201 rfl ?_
                          refine za_getJ hc gfM_126 zob_62 dM_band_202 ?_
                          rw [zJ_s, if_neg (by decide), zJ_sI]
                          refine za_putJ hc gpM_126 zob_62 dM_band_205 ?_
                          refine za_goto 338 hc dM_band_208 rfl ?_
                          exact TH _ _ _ _ _ hgp (by first | exact Or.inl rfl | exact Or.inr rfl) (by rw [gHi_eq h0 HL, ms]; unfold hiE; simp only [w1, Bool.true_or, Bool.false_or]; first | rfl | (rw [w2]; rfl)) (Or.inr b1)
                        · skip
                          exact absurd h_194 (by decide)
                      · skip
                        exact absurd h_172 (by decide)
                    · skip
                      have w2 : (zI M1 80 k == 1) = true := by rw [hsk.resolve_left h_151]; rfl
                      refine za_iconst hc 1 dM_band_154 rfl ?_
                      refine za_goto 166 hc dM_band_155 rfl ?_
                      refine za_putZ hc gpM_136 zob_62 (nz01 (by first | exact Or.inl rfl | exact Or.inr rfl)) dM_band_166 ?_
                      refine za_aload_n hc dM_band_169 rfl ?_
                      refine za_iload hc dM_band_170 rfl ?_
                      refine za_if_ge 184 hc dM_band_172 rfl (fun h_172 => ?_) (fun h_172 => ?_)
                      · skip
                        refine za_aload_n hc dM_band_184 rfl ?_
                        refine za_getJ hc gfM_129 zob_62 dM_band_185 ?_
                        rw [zJ_sI]
                        refine za_putJ hc gpM_129 zob_62 dM_band_188 ?_
                        refine za_aload_n hc dM_band_191 rfl ?_
                        refine za_iload hc dM_band_192 rfl ?_
                        refine za_if_ge 201 hc dM_band_194 rfl (fun h_194 => ?_) (fun h_194 => ?_)
                        · skip
                          refine za_aload_n hc dM_band_201 rfl ?_
                          refine za_getJ hc gfM_126 zob_62 dM_band_202 ?_
                          rw [zJ_s, if_neg (by decide), zJ_sI]
                          refine za_putJ hc gpM_126 zob_62 dM_band_205 ?_
                          refine za_goto 338 hc dM_band_208 rfl ?_
                          exact TH _ _ _ _ _ hgp (by first | exact Or.inl rfl | exact Or.inr rfl) (by rw [gHi_eq h0 HL, ms]; unfold hiE; simp only [w1, Bool.true_or, Bool.false_or]; first | rfl | (rw [w2]; rfl)) (Or.inr b1)
                        · skip
                          exact absurd h_194 (by decide)
                      · skip
                        exact absurd h_172 (by decide)
              · skip
                exact absurd h_121 (by decide)
            · skip
              have HL : (hiE M1).1 * gco up m < m.2.2.1 * (hiE M1).2.1 := by rw [mc, ← hU]; exact cc
              refine za_istore hc dM_band_116 (by decide) ?_
              refine za_aload_n hc dM_band_118 rfl ?_
              refine za_iload hc dM_band_119 rfl ?_
              refine za_if_ge 133 hc dM_band_121 rfl (fun h_121 => ?_) (fun h_121 => ?_)
              · skip
                refine za_iload hc dM_band_133 rfl ?_
                refine za_if_ne 162 hc dM_band_135 rfl (fun h_135 => ?_) (fun h_135 => ?_)
                · skip
                  refine za_aload_n hc dM_band_162 rfl ?_
                  refine za_getI hc gfM_136 zob_62 dM_band_163 ?_
                  refine za_putZ hc gpM_136 zob_62 (nz01 hs39) dM_band_166 ?_
                  refine za_aload_n hc dM_band_169 rfl ?_
                  refine za_iload hc dM_band_170 rfl ?_
                  refine za_if_ge 184 hc dM_band_172 rfl (fun h_172 => ?_) (fun h_172 => ?_)
                  · skip
                    refine za_aload_n hc dM_band_184 rfl ?_
                    refine za_getJ hc gfM_129 zob_62 dM_band_185 ?_
                    rw [zJ_sI]
                    refine za_putJ hc gpM_129 zob_62 dM_band_188 ?_
                    refine za_aload_n hc dM_band_191 rfl ?_
                    refine za_iload hc dM_band_192 rfl ?_
                    refine za_if_ge 201 hc dM_band_194 rfl (fun h_194 => ?_) (fun h_194 => ?_)
                    · skip
                      refine za_aload_n hc dM_band_201 rfl ?_
                      refine za_getJ hc gfM_126 zob_62 dM_band_202 ?_
                      rw [zJ_s, if_neg (by decide), zJ_sI]
                      refine za_putJ hc gpM_126 zob_62 dM_band_205 ?_
                      refine za_goto 338 hc dM_band_208 rfl ?_
                      exact TH _ _ _ _ _ hgp hs39 (by rw [gHi_gt h0 HL]; rfl) hbh
                    · skip
                      exact absurd h_194 (by decide)
                  · skip
                    exact absurd h_172 (by decide)
                · skip
                  exact absurd h_135 (by decide)
              · skip
                exact absurd h_121 (by decide)
          · skip
            have h0 : (hiE M1).2.1 = 0 := by show (zJ M1 62 38).toInt = 0; rw [h_90]; rfl
            have HL : (hiE M1).2.1 = 0 ∨ m.2.2.1 * (hiE M1).2.1 < (hiE M1).1 * gco up m := Or.inl h0
            refine za_iconst hc (-1) dM_band_94 rfl ?_
            refine za_goto 116 hc dM_band_95 rfl ?_
            refine za_istore hc dM_band_116 (by decide) ?_
            refine za_aload_n hc dM_band_118 rfl ?_
            refine za_iload hc dM_band_119 rfl ?_
            refine za_if_ge 133 hc dM_band_121 rfl (fun h_121 => ?_) (fun h_121 => ?_)
            · skip
              exact absurd h_121 (by decide)
            · skip
              refine za_aload_n hc dM_band_124 rfl ?_
              refine za_getA hc gfM_63 zob_62 (p := 80) rfl dM_band_125 ?_
              refine za_iload_n hc dM_band_128 rfl ?_
              refine zm_zald hc (by assumption) dM_band_129 (by omega) (by decide) ?_
              refine za_goto 166 hc dM_band_130 rfl ?_
              refine za_putZ hc gpM_136 zob_62 (nz01 hsk) dM_band_166 ?_
              refine za_aload_n hc dM_band_169 rfl ?_
              refine za_iload hc dM_band_170 rfl ?_
              refine za_if_ge 184 hc dM_band_172 rfl (fun h_172 => ?_) (fun h_172 => ?_)
              · skip
                exact absurd h_172 (by decide)
              · skip
                refine za_aload_n hc dM_band_175 rfl ?_
                refine za_getA hc gfM_60 zob_62 (p := 79) rfl dM_band_176 ?_
                refine za_iload_n hc dM_band_179 rfl ?_
                refine zm_lald hc (by assumption) dM_band_180 (by omega) (by decide) ?_
                rw [zJ_sI]
                refine za_goto 188 hc dM_band_181 rfl ?_
                refine za_putJ hc gpM_129 zob_62 dM_band_188 ?_
                refine za_aload_n hc dM_band_191 rfl ?_
                refine za_iload hc dM_band_192 rfl ?_
                refine za_if_ge 201 hc dM_band_194 rfl (fun h_194 => ?_) (fun h_194 => ?_)
                · skip
                  exact absurd h_194 (by decide)
                · skip
                  refine za_lload_n hc dM_band_197 rfl ?_
                  refine za_goto 205 hc dM_band_198 rfl ?_
                  refine za_putJ hc gpM_126 zob_62 dM_band_205 ?_
                  refine za_goto 338 hc dM_band_208 rfl ?_
                  exact TH _ _ _ _ _ hgp hsk (by rw [gHi_lt HL, mc, ms, ← hU]) (Or.inr ⟨bm3, by show 0 < U.toInt; omega, by show U.toInt ≤ _; omega⟩)
      refine za_iload_n hc dM_band_51 rfl ?_
      refine za_aload_n hc dM_band_52 rfl ?_
      refine za_getI hc gfM_73 zob_62 dM_band_53 ?_
      rw [hH1.1]
      refine za_icmp_ge 344 hc dM_band_56 rfl (fun h_56 => ?_) (fun h_56 => ?_)
      · skip
        exact absurd ((nI_leI (by omega) (by omega)).mp h_56) (by omega)
      · skip
        refine za_iload_n hc dM_band_59 rfl ?_
        refine za_if_eq 72 hc dM_band_60 rfl (fun h_60 => ?_) (fun h_60 => ?_)
        · skip
          have hu0 : gco up m = (zJ M1 77 k).toInt := by rw [huv, h_60, ← dk]; rfl
          refine za_aload_n hc dM_band_72 rfl ?_
          refine za_getA hc gfM_54 zob_62 (p := 77) rfl dM_band_73 ?_
          refine za_iload_n hc dM_band_76 rfl ?_
          refine zm_lald hc (by assumption) dM_band_77 (by omega) (by decide) ?_
          refine za_lstore_n hc dM_band_78 (by decide) ?_
          first | exact STEP _ hu0.symm bm1 | exact STEP _ hu0.symm bm2
        · skip
          have hu0 : gco up m = (zJ M1 78 k).toInt := by rw [huv, hv.resolve_left h_60, ← dk]; rfl
          refine za_aload_n hc dM_band_63 rfl ?_
          refine za_getA hc gfM_57 zob_62 (p := 78) rfl dM_band_64 ?_
          refine za_iload_n hc dM_band_67 rfl ?_
          refine zm_lald hc (by assumption) dM_band_68 (by omega) (by decide) ?_
          refine za_goto 78 hc dM_band_69 rfl ?_
          refine za_lstore_n hc dM_band_78 (by decide) ?_
          first | exact STEP _ hu0.symm bm1 | exact STEP _ hu0.symm bm2
  have loop : ∀ n k (v : Int32), n + k = ls.length → (v = 0 ∨ v = 1) → (v = 1 ↔ ∀ j q, j < k → ls[j]? = some q → q.1 = 0) → zW X (zqi (fun x M' => (x = 0 ∨ x = 1) ∧ ∃ up : Bool, (up = true ↔ ∀ m ∈ ls, m.1 = 0) ∧ hiE M' = ls.foldl (hi1 up) ((zJ M 62 37).toInt, 0, zI M 62 39 == 1) ∧ loE M' = ls.foldl (lo1 up) (-(zJ M 62 34).toInt, 0, zI M 62 36 == 1) ∧ (eB (hiE M') ∧ eB (loE M')) ∧ (x = 1 ↔ gGap (hiE M') (loE M')) ∧ ((zI M' 62 36 = 0 ∨ zI M' 62 36 = 1) ∧ (zI M' 62 39 = 0 ∨ zI M' 62 39 = 1)) ∧ mK fI M M' ∧ zfr m62 M M')) (0, 0) 4 [(0, .ref 62), (1, .int v), (2, .int (nI k))] [] M := by
    intro n
    induction n with
    | zero =>
      intro k v hn hv hall
      refine za_iload_n hc dM_band_4 rfl ?_
      refine za_aload_n hc dM_band_5 rfl ?_
      refine za_getI hc gfM_73 zob_62 dM_band_6 ?_
      rw [hH.1]
      refine za_icmp_ge 39 hc dM_band_9 rfl (fun h_9 => ?_) (fun h_9 => ?_)
      · skip
        refine za_aload_n hc dM_band_39 rfl ?_
        refine za_lconst hc 0 dM_band_40 rfl ?_
        refine za_putJ hc gpM_123 zob_62 dM_band_41 ?_
        refine za_aload_n hc dM_band_44 rfl ?_
        refine za_lconst hc 0 dM_band_45 rfl ?_
        refine za_putJ hc gpM_126 zob_62 dM_band_46 ?_
        refine za_iconst hc 0 dM_band_49 rfl ?_
        refine za_istore_n hc dM_band_50 (by decide) ?_
        have hup : (v == 1) = true ↔ ∀ m ∈ ls, m.1 = 0 := by
          rw [beq_iff_eq]
          exact hall.trans ⟨fun h q hq => by obtain ⟨j, hj⟩ := List.getElem?_of_mem hq; exact h j q (by have := (List.getElem?_eq_some_iff.mp hj).1; omega) hj, fun h j q _ hj => h q (List.mem_of_getElem? hj)⟩
        have eh : hiE (zsJ (zsJ M 62 35 0) 62 38 0) = ((zJ M 62 37).toInt, 0, zI M 62 39 == 1) := by unfold hiE; rw [zJ_s, if_neg (by decide), zJ_s, if_neg (by decide), zJ_s, if_pos rfl, zI_sJ, zI_sJ]; rfl
        have el : loE (zsJ (zsJ M 62 35 0) 62 38 0) = (-(zJ M 62 34).toInt, 0, zI M 62 36 == 1) := by unfold loE; rw [zJ_s, if_neg (by decide), zJ_s, if_neg (by decide), zJ_s, if_neg (by decide), zJ_s, if_pos rfl, zI_sJ, zI_sJ]; rfl
        refine LOOP2 v (v == 1) hv rfl hup (hnzu _ hup) ls 0 _ rfl (by omega) (by rw [eh]) (by rw [el]) (by rw [eh]; exact Or.inl rfl) (by rw [el]; exact Or.inl rfl) (by rw [zI_sJ, zI_sJ]; exact hs36) (by rw [zI_sJ, zI_sJ]; exact hs39) ((mK_sJ (by decide)).tr (mK_sJ (by decide))) ((zfr_sJ (P := m62) rfl).tr (zfr_sJ (P := m62) rfl))
      · skip
        exact absurd ((nI_leI (by omega) (by omega)).mpr (show ls.length ≤ k by omega)) h_9
    | succ n ih =>
      intro k v hn hv hall
      have hri := List.getElem?_eq_getElem (l := ls) (show k < ls.length by omega)
      generalize hme : ls[k] = m at hri
      have dk := hH.2.2.1 k m hri
      have ma : m.1 = (zJ M 77 k).toInt := by rw [← dk]; rfl
      refine za_iload_n hc dM_band_4 rfl ?_
      refine za_aload_n hc dM_band_5 rfl ?_
      refine za_getI hc gfM_73 zob_62 dM_band_6 ?_
      rw [hH.1]
      refine za_icmp_ge 39 hc dM_band_9 rfl (fun h_9 => ?_) (fun h_9 => ?_)
      · skip
        exact absurd ((nI_leI (by omega) (by omega)).mp h_9) (by omega)
      · skip
        refine za_iload_n hc dM_band_12 rfl ?_
        refine za_if_eq 31 hc dM_band_13 rfl (fun h_13 => ?_) (fun h_13 => ?_)
        · skip
          have hno : ¬ ∀ j q, j < k + 1 → ls[j]? = some q → q.1 = 0 := fun h => absurd (hall.mpr (fun j q hj hq => h j q (by omega) hq)) (by rw [h_13]; decide)
          refine za_iconst hc 0 dM_band_31 rfl ?_
          refine za_istore_n hc dM_band_32 (by decide) ?_
          refine za_iinc hc _ dM_band_33 rfl ((nI_succ k).symm) (by decide) ?_
          refine za_goto 4 hc dM_band_36 rfl ?_
          first
          | exact ih (k + 1) 1 (by omega) (Or.inr rfl) ⟨fun _ => hyes, fun _ => rfl⟩
          | exact ih (k + 1) 0 (by omega) (Or.inl rfl) ⟨fun z => absurd z (by decide), fun z => absurd z hno⟩
        · skip
          have hv1 := hall.mp (hv.resolve_left h_13)
          refine za_aload_n hc dM_band_16 rfl ?_
          refine za_getA hc gfM_54 zob_62 (p := 77) rfl dM_band_17 ?_
          refine za_iload_n hc dM_band_20 rfl ?_
          refine zm_lald hc (by assumption) dM_band_21 (by omega) (by decide) ?_
          refine za_lconst hc 0 dM_band_22 rfl ?_
          refine za_lcmp_ne 31 hc dM_band_23 dM_band_24 rfl (fun h_23 => ?_) (fun h_23 => ?_)
          · skip
            have hno : ¬ ∀ j q, j < k + 1 → ls[j]? = some q → q.1 = 0 := fun h => h_23 (Int64.toInt_inj.mp (by rw [← ma]; exact h k m (by omega) hri))
            refine za_iconst hc 0 dM_band_31 rfl ?_
            refine za_istore_n hc dM_band_32 (by decide) ?_
            refine za_iinc hc _ dM_band_33 rfl ((nI_succ k).symm) (by decide) ?_
            refine za_goto 4 hc dM_band_36 rfl ?_
            first
            | exact ih (k + 1) 1 (by omega) (Or.inr rfl) ⟨fun _ => hyes, fun _ => rfl⟩
            | exact ih (k + 1) 0 (by omega) (Or.inl rfl) ⟨fun z => absurd z (by decide), fun z => absurd z hno⟩
          · skip
            have hyes : ∀ j q, j < k + 1 → ls[j]? = some q → q.1 = 0 := fun j q hj hq => by
              by_cases c : j = k
              · rw [c, hri] at hq; cases hq; rw [ma, h_23]; rfl
              · exact hv1 j q (by omega) hq
            refine za_iconst hc 1 dM_band_27 rfl ?_
            refine za_goto 32 hc dM_band_28 rfl ?_
            refine za_istore_n hc dM_band_32 (by decide) ?_
            refine za_iinc hc _ dM_band_33 rfl ((nI_succ k).symm) (by decide) ?_
            refine za_goto 4 hc dM_band_36 rfl ?_
            first
            | exact ih (k + 1) 1 (by omega) (Or.inr rfl) ⟨fun _ => hyes, fun _ => rfl⟩
            | exact ih (k + 1) 0 (by omega) (Or.inl rfl) ⟨fun z => absurd z (by decide), fun z => absurd z hno⟩
  refine za_iconst hc 1 dM_band_0 rfl ?_
  refine za_istore_n hc dM_band_1 (by decide) ?_
  refine za_iconst hc 0 dM_band_2 rfl ?_
  refine za_istore_n hc dM_band_3 (by decide) ?_
  exact loop ls.length 0 1 (by omega) (Or.inr rfl) ⟨fun _ j q h => absurd h (by omega), fun _ => rfl⟩
