/-! Whether a draft has points. -/
def gdz (q : gC) (x : Rat) : Prop := q.2.1 = 0 → gdm (q.1 : Rat) (q.2.2.1 : Rat) q.2.2.2 x
def gdp (p q : gC) (x : Rat) : Prop := 0 < p.2.1 → q.2.1 < 0 → gdm ((-q.2.1 * p.1 + p.2.1 * q.1 : Int) : Rat) ((-q.2.1 * p.2.2.1 + p.2.1 * q.2.2.1 : Int) : Rat) (p.2.2.2 || q.2.2.2) x
theorem g_hp (ls : List gC) (f : Nat → gC) (hf : ∀ j q, ls[j]? = some q → f j = q) : gSat ls ↔ ∃ x : Rat, ∀ i, i < ls.length → gdz (f i) x ∧ ∀ j, j < ls.length → gdp (f i) (f j) x := by
  have hm : ∀ q, q ∈ ls ↔ ∃ i, i < ls.length ∧ f i = q := fun q => by
    constructor
    · intro h
      obtain ⟨i, hi⟩ := List.getElem?_of_mem h
      exact ⟨i, (List.getElem?_eq_some_iff.mp hi).1, hf i q hi⟩
    · rintro ⟨i, hi, rfl⟩
      rw [hf i _ (List.getElem?_eq_getElem hi)]
      exact List.getElem_mem hi
  have key : ∀ x : Rat, (∃ y, ∀ q ∈ ls, gst q x y) ↔ ∀ i, i < ls.length → gdz (f i) x ∧ ∀ j, j < ls.length → gdp (f i) (f j) x := by
    intro x
    have h := g_elim (ls.map (fun q : gC => (((q.2.1 : Int) : Rat), ((q.1 : Int) : Rat), ((q.2.2.1 : Int) : Rat), q.2.2.2))) x
    have e1 : (∃ y, ∀ q ∈ ls, gst q x y) ↔ ∃ s, ∀ m ∈ ls.map (fun q : gC => (((q.2.1 : Int) : Rat), ((q.1 : Int) : Rat), ((q.2.2.1 : Int) : Rat), q.2.2.2)), gts m s x := by
      constructor
      · rintro ⟨y, hy⟩
        refine ⟨y, fun m hm => ?_⟩
        obtain ⟨q, hq, rfl⟩ := List.mem_map.mp hm
        have := hy q hq
        unfold gst gv gk at this
        unfold gts
        simp only
        split at this <;> rename_i hb
        · rw [if_pos hb]; grind
        · rw [if_neg hb]; grind
      · rintro ⟨y, hy⟩
        refine ⟨y, fun q hq => ?_⟩
        have := hy _ (List.mem_map.mpr ⟨q, hq, rfl⟩)
        unfold gts at this
        unfold gst gv gk
        simp only at this
        split at this <;> rename_i hb
        · rw [if_pos hb]; grind
        · rw [if_neg hb]; grind
    rw [e1, h]
    have cst : ∀ p q : gC, (-(q.2.1 : Rat) * (p.1 : Rat) + (p.2.1 : Rat) * (q.1 : Rat)) = ((-q.2.1 * p.1 + p.2.1 * q.1 : Int) : Rat) ∧ (-(q.2.1 : Rat) * (p.2.2.1 : Rat) + (p.2.1 : Rat) * (q.2.2.1 : Rat)) = ((-q.2.1 * p.2.2.1 + p.2.1 * q.2.2.1 : Int) : Rat) := fun p q => by
      constructor
      · push_cast; grind
      · push_cast; grind
    constructor
    · rintro ⟨h0, hp⟩ i hi
      have hfi := (hm (f i)).mpr ⟨i, hi, rfl⟩
      refine ⟨fun hz => h0 _ (List.mem_map.mpr ⟨_, hfi, rfl⟩) (by rw [hz]; rfl), fun j hj h1 h2 => ?_⟩
      have hfj := (hm (f j)).mpr ⟨j, hj, rfl⟩
      have := hp _ (List.mem_map.mpr ⟨_, hfi, rfl⟩) _ (List.mem_map.mpr ⟨_, hfj, rfl⟩) (Rat.intCast_pos.mpr h1) (Rat.intCast_neg_iff.mpr h2)
      rw [← (cst (f i) (f j)).1, ← (cst (f i) (f j)).2]
      exact this
    · intro hall
      refine ⟨fun m hmm hz => ?_, fun a ha b hb h1 h2 => ?_⟩
      · obtain ⟨q, hq, rfl⟩ := List.mem_map.mp hmm
        obtain ⟨i, hi, rfl⟩ := (hm q).mp hq
        exact (hall i hi).1 (Rat.intCast_eq_zero_iff.mp hz)
      · obtain ⟨q, hq, rfl⟩ := List.mem_map.mp ha
        obtain ⟨i, hi, rfl⟩ := (hm q).mp hq
        obtain ⟨q', hq', rfl⟩ := List.mem_map.mp hb
        obtain ⟨j, hj, rfl⟩ := (hm q').mp hq'
        have := (hall i hi).2 j hj (Rat.intCast_pos.mp h1) (Rat.intCast_neg_iff.mp h2)
        rw [← (cst (f i) (f j)).1, ← (cst (f i) (f j)).2] at this
        exact this
  constructor
  · rintro ⟨x, y, h⟩; exact ⟨x, (key x).mp ⟨y, h⟩⟩
  · rintro ⟨x, h⟩
    obtain ⟨y, hy⟩ := (key x).mpr h
    exact ⟨x, y, hy⟩
/-- what a span leaves of x -/
def sX (M : zM) (p : Nat) (x : Rat) : Prop := gEs (sE M p 0) x ∧ gEs (sE M p 1) (-x)
theorem gdm_neg {n m : Int} {s : Bool} {x : Rat} : gdm ((-n : Int) : Rat) (m : Rat) s (-x) ↔ gdm (n : Rat) (m : Rat) s x := by
  unfold gdm
  have e : ((-n : Int) : Rat) * (-x) = (n : Rat) * x := by push_cast; grind
  rw [e]
theorem sE_0 {M : zM} {p e : Nat} (h : sB M p) : 0 ≤ (sE M p e).2.1 := (h.2.1 e).1
theorem s_step {M M' : zM} {p : Nat} {n m : Int64} {s r : Int32} (hB : sB M p) (hs : s = 0 ∨ s = 1) (h : sPost M p n m s r M') :
    (r = 1 → (∀ x, sX M' p x ↔ sX M p x ∧ gdm (n.toInt : Rat) (m.toInt : Rat) (s == 1) x) ∧ (gGap (sE M p 0) (sE M p 1) → gGap (sE M' p 0) (sE M' p 1))) ∧ (¬ r = 1 → ∀ x, ¬ (sX M p x ∧ gdm (n.toInt : Rat) (m.toInt : Rat) (s == 1) x)) := by
  obtain ⟨-, hB', -, h0, hn⟩ := h
  by_cases hz : n.toInt = 0
  · obtain ⟨rfl, hr⟩ := h0 hz
    have hd : ∀ x : Rat, gdm (n.toInt : Rat) (m.toInt : Rat) (s == 1) x ↔ 0 < m.toInt ∨ (m.toInt = 0 ∧ s = 0) := fun x => by
      rw [hz]
      unfold gdm
      have e : ((0 : Int) : Rat) * x = 0 := by rw [Rat.intCast_zero]; grind
      rw [e]
      rcases hs with z | z <;> rw [z]
      · rw [if_neg (by decide)]
        constructor
        · intro h1
          have := Rat.intCast_nonneg.mp h1
          by_cases h2 : m.toInt = 0
          · exact Or.inr ⟨h2, rfl⟩
          · left; omega
        · rintro (h1 | h1)
          · exact Rat.intCast_nonneg.mpr (by omega)
          · exact Rat.intCast_nonneg.mpr (by omega)
      · rw [if_pos (by decide)]
        constructor
        · intro h1; exact Or.inl (Rat.intCast_pos.mp h1)
        · rintro (h1 | ⟨_, h1⟩)
          · exact Rat.intCast_pos.mpr h1
          · exact absurd h1 (by decide)
    exact ⟨fun hr1 => ⟨fun x => ⟨fun h1 => ⟨h1, (hd x).mpr (hr.mp hr1)⟩, fun h1 => h1.1⟩, id⟩, fun hr0 x hx => hr0 (hr.mpr ((hd x).mp hx.2))⟩
  · obtain ⟨e0, e1, hr⟩ := hn hz
    have hx : ∀ x, sX M' p x ↔ sX M p x ∧ gdm (n.toInt : Rat) (m.toInt : Rat) (s == 1) x := fun x => by
      unfold sX
      by_cases hp : 0 < n.toInt
      · rw [if_pos hp] at e0 e1
        rw [e0, e1, gEup_s (sE_0 hB) hp]
        constructor
        · rintro ⟨⟨a, b⟩, c⟩; exact ⟨⟨a, c⟩, b⟩
        · rintro ⟨⟨a, c⟩, b⟩; exact ⟨⟨a, b⟩, c⟩
      · rw [if_neg hp] at e0 e1
        rw [e0, e1, gEup_s (sE_0 hB) (by omega), gdm_neg]
        constructor
        · rintro ⟨a, b, c⟩; exact ⟨⟨a, b⟩, c⟩
        · rintro ⟨⟨a, b⟩, c⟩; exact ⟨a, b, c⟩
    refine ⟨fun hr1 => ⟨hx, fun _ => hr.mp hr1⟩, fun hr0 x h1 => hr0 (hr.mpr ?_)⟩
    exact (gGap_iff (sE_0 hB') (sE_0 hB')).mpr ⟨x, (hx x).mpr h1⟩
/-- bounds of a draft's numbers -/
def gOK (ls : List gC) : Prop := (∀ q ∈ ls, q.1.natAbs ≤ 10000 ∧ q.2.1.natAbs ≤ 10000 ∧ q.2.2.1.natAbs ≤ 10000) ∨ (∀ q ∈ ls, q.1.natAbs ≤ 200000000 ∧ q.2.1 = 0 ∧ q.2.2.1.natAbs ≤ 200000000) ∨ (∀ q ∈ ls, q.1 = 0 ∧ q.2.1.natAbs ≤ 200000000 ∧ q.2.2.1.natAbs ≤ 200000000)

set_option maxRecDepth 100000 in
set_option maxHeartbeats 4000000 in
theorem cD_hasPoints_ (l : Launch) {d : Nat} {ls : List gC} (M : zM) (hd : zdr d) (hH : dH M d ls) (hB : sB M (d + 5)) (hok : gOK ls) : zMet l mD_hasPoints rD_hasPoints [.ref d] M (zqi (fun r M' => (r = 0 ∨ r = 1) ∧ (r = 1 ↔ gSat ls) ∧ dH M' d ls ∧ sB M' (d + 5) ∧ zfr (sA (d + 5)) M M')) := by
  refine za_enter (by decide) (Nat.le_of_ble_eq_true rfl) (fun X hc => ?_)
  have hdo := hd.o
  have hda := hd.a
  have hdb := hd.b
  have hdc := hd.c
  have hds := hd.s
  have hpo := hd.p.o
  have hbnd : ∀ i, i < ls.length → -200000000 ≤ (zJ M (d + 1) i).toInt ∧ (zJ M (d + 1) i).toInt ≤ 200000000 ∧ (-200000000 ≤ (zJ M (d + 2) i).toInt ∧ -9223372036854775808 < (zJ M (d + 2) i).toInt ∧ (zJ M (d + 2) i).toInt ≤ 200000000) ∧ -200000000 ≤ (zJ M (d + 3) i).toInt ∧ (zJ M (d + 3) i).toInt ≤ 200000000 := fun i hi => by
    have hmem : dg M d i ∈ ls := by rw [dH_get hH hi]; exact List.getElem_mem hi
    have e1 : (dg M d i).1 = (zJ M (d + 1) i).toInt := rfl
    have e2 : (dg M d i).2.1 = (zJ M (d + 2) i).toInt := rfl
    have e3 : (dg M d i).2.2.1 = (zJ M (d + 3) i).toInt := rfl
    rcases hok with h | h | h <;> have := h _ hmem <;> omega
  have hpb : ∀ i j, i < ls.length → j < ls.length → 0 < (zJ M (d + 2) i).toInt → (zJ M (d + 2) j).toInt < 0 → (-(zJ M (d + 2) j).toInt * (zJ M (d + 1) i).toInt + (zJ M (d + 2) i).toInt * (zJ M (d + 1) j).toInt ≠ 0 → (-1073741824 ≤ -(zJ M (d + 2) j).toInt * (zJ M (d + 1) i).toInt + (zJ M (d + 2) i).toInt * (zJ M (d + 1) j).toInt ∧ -(zJ M (d + 2) j).toInt * (zJ M (d + 1) i).toInt + (zJ M (d + 2) i).toInt * (zJ M (d + 1) j).toInt ≤ 1073741824) ∧ (-1073741824 ≤ -(zJ M (d + 2) j).toInt * (zJ M (d + 3) i).toInt + (zJ M (d + 2) i).toInt * (zJ M (d + 3) j).toInt ∧ -(zJ M (d + 2) j).toInt * (zJ M (d + 3) i).toInt + (zJ M (d + 2) i).toInt * (zJ M (d + 3) j).toInt ≤ 1073741824)) := fun i j hi hj hu hlp hne => by
    have hmi : dg M d i ∈ ls := by rw [dH_get hH hi]; exact List.getElem_mem hi
    have hmj : dg M d j ∈ ls := by rw [dH_get hH hj]; exact List.getElem_mem hj
    have e1 : (dg M d i).1 = (zJ M (d + 1) i).toInt := rfl
    have e2 : (dg M d i).2.1 = (zJ M (d + 2) i).toInt := rfl
    have e3 : (dg M d i).2.2.1 = (zJ M (d + 3) i).toInt := rfl
    have f1 : (dg M d j).1 = (zJ M (d + 1) j).toInt := rfl
    have f2 : (dg M d j).2.1 = (zJ M (d + 2) j).toInt := rfl
    have f3 : (dg M d j).2.2.1 = (zJ M (d + 3) j).toInt := rfl
    rcases hok with h | h | h
    · have h1 := h _ hmi
      have h2 := h _ hmj
      have p1 := g_mulb (A := 10000) (B := 10000) (a := -(zJ M (d + 2) j).toInt) (b := (zJ M (d + 1) i).toInt) (by omega) (by omega)
      have p2 := g_mulb (A := 10000) (B := 10000) (a := (zJ M (d + 2) i).toInt) (b := (zJ M (d + 1) j).toInt) (by omega) (by omega)
      have p3 := g_mulb (A := 10000) (B := 10000) (a := -(zJ M (d + 2) j).toInt) (b := (zJ M (d + 3) i).toInt) (by omega) (by omega)
      have p4 := g_mulb (A := 10000) (B := 10000) (a := (zJ M (d + 2) i).toInt) (b := (zJ M (d + 3) j).toInt) (by omega) (by omega)
      omega
    · have h1 := (h _ hmi).2.1
      omega
    · have h1 := (h _ hmi).1
      have h2 := (h _ hmj).1
      exfalso; apply hne; rw [← e1, ← f1, h1, h2]; simp
  have hl := hH.2.1
  have hsat := g_hp ls (dg M d) hH.2.2.1
  have kept : ∀ M1, zfr (sA (d + 5)) M M1 → dH M1 d ls := fun M1 hf => dH_kept hH hf (fun z => by have := z.1; omega) (fun z => by have := z.1; omega) (fun z => by have := z.1; omega) (fun z => by have := z.1; omega) (fun z => by have := z.1; omega)
  have kdg : ∀ M1, zfr (sA (d + 5)) M M1 → dg M1 d = dg M d := fun M1 hf => zfr_dg hf (fun z => by have := z.1; omega) (fun z => by have := z.1; omega) (fun z => by have := z.1; omega) (fun z => by have := z.1; omega)
  have bnd : ∀ i, i < ls.length → dg M d i ∈ ls := fun i hi => by rw [dH_get hH hi]; exact List.getElem_mem hi
  have no : ∀ M1, zfr (sA (d + 5)) M M1 → sB M1 (d + 5) → ¬ gSat ls → (zqi (fun r M' => (r = 0 ∨ r = 1) ∧ (r = 1 ↔ gSat ls) ∧ dH M' d ls ∧ sB M' (d + 5) ∧ zfr (sA (d + 5)) M M')) (some (.int 0)) M1 := fun M1 hf hb hn => ⟨0, rfl, Or.inl rfl, ⟨fun z => absurd z (by decide), fun z => absurd z hn⟩, kept M1 hf, hb, hf⟩
  have outer : ∀ n i (M1 : zM), n + i = ls.length → zfr (sA (d + 5)) M M1 → sB M1 (d + 5) → gGap (sE M1 (d + 5) 0) (sE M1 (d + 5) 1) → (∀ x, sX M1 (d + 5) x ↔ (∀ i', i' < i → gdz (dg M d i') x ∧ ∀ j, j < ls.length → gdp (dg M d i') (dg M d j) x)) → zW X (zqi (fun r M' => (r = 0 ∨ r = 1) ∧ (r = 1 ↔ gSat ls) ∧ dH M' d ls ∧ sB M' (d + 5) ∧ zfr (sA (d + 5)) M M')) (0, 0) 9 [(0, .ref d), (1, .int (nI i))] [] M1 := by
    intro n
    induction n with
    | zero =>
      intro i M1 hn hf hB1 hg hx
      refine za_iload_n hc dD_hasPoints_9 rfl ?_
      refine za_aload_n hc dD_hasPoints_10 rfl ?_
      refine za_getI hc gfD_32 (by assumption) dD_hasPoints_11 ?_
      rw [(kept M1 hf).1]
      refine za_icmp_ge 181 hc dD_hasPoints_14 rfl (fun h_14 => ?_) (fun h_14 => ?_)
      · skip
        refine za_iconst hc 1 dD_hasPoints_181 rfl ?_
        exact za_zret hc rfl (rfl) dD_hasPoints_182 ⟨Nat.zero_le _, Nat.zero_le _⟩ (⟨1, rfl, Or.inr rfl, ⟨fun _ => hsat.mpr (by
        obtain ⟨x, hx1⟩ := (gGap_iff (sE_0 hB1) (sE_0 hB1)).mp hg
        exact ⟨x, fun k hk => (hx x).mp hx1 k (by omega)⟩), fun _ => rfl⟩, kept M1 hf, hB1, hf⟩)
      · skip
        exact absurd ((nI_leI (by omega) (by omega)).mpr (show ls.length ≤ i by omega)) h_14
    | succ n ih =>
      intro i M1 hn hf hB1 hg hx
      have inner : ∀ k j (M1 : zM), k + j = ls.length → zfr (sA (d + 5)) M M1 → sB M1 (d + 5) → gGap (sE M1 (d + 5) 0) (sE M1 (d + 5) 1) → (∀ x, sX M1 (d + 5) x ↔ (∀ i', i' < i → gdz (dg M d i') x ∧ ∀ j, j < ls.length → gdp (dg M d i') (dg M d j) x) ∧ gdz (dg M d i) x ∧ ∀ j', j' < j → gdp (dg M d i) (dg M d j') x) → zW X (zqi (fun r M' => (r = 0 ∨ r = 1) ∧ (r = 1 ↔ gSat ls) ∧ dH M' d ls ∧ sB M' (d + 5) ∧ zfr (sA (d + 5)) M M')) (0, 0) 63 [(0, .ref d), (1, .int (nI i)), (2, .long (zJ M (d + 2) i)), (4, .int (nI j))] [] M1 := by
        clear hf hB1 hg hx M1
        intro k
        induction k with
        | zero =>
          intro j M1 hk hf hB1 hg hx
          refine za_lload_n hc dD_hasPoints_63 rfl ?_
          refine za_lconst hc 0 dD_hasPoints_64 rfl ?_
          refine za_lcmp_le 175 hc dD_hasPoints_65 dD_hasPoints_66 rfl (fun h_65 => ?_) (fun h_65 => ?_)
          · skip
            have hu : (zJ M (d + 2) i).toInt ≤ 0 := Int64.le_iff_toInt_le.mp h_65
            refine za_iinc hc _ dD_hasPoints_175 rfl ((nI_succ i).symm) (by decide) ?_
            refine za_goto 9 hc dD_hasPoints_178 rfl ?_
            refine za_take 2 ?_
            refine ih (i + 1) M1 (by omega) hf hB1 hg (fun x => (hx x).trans ⟨?_, ?_⟩)
            · rintro ⟨g1, g2, g3⟩ i' hi'
              by_cases c : i' < i
              · exact g1 i' c
              · obtain rfl : i' = i := by omega
                exact ⟨g2, fun j1 hj1 => g3 j1 (by omega)⟩
            · intro g1
              exact ⟨fun i' hi' => g1 i' (by omega), (g1 i (by omega)).1, fun j1 hj1 => (g1 i (by omega)).2 j1 (by omega)⟩
          · skip
            have hu : 0 < (zJ M (d + 2) i).toInt := by have : ¬ (zJ M (d + 2) i).toInt ≤ 0 := fun z => h_65 (Int64.le_iff_toInt_le.mpr z); omega
            refine za_iload hc dD_hasPoints_69 rfl ?_
            refine za_aload_n hc dD_hasPoints_71 rfl ?_
            refine za_getI hc gfD_32 (by assumption) dD_hasPoints_72 ?_
            rw [(kept M1 hf).1]
            refine za_icmp_ge 175 hc dD_hasPoints_75 rfl (fun h_75 => ?_) (fun h_75 => ?_)
            · skip
              refine za_iinc hc _ dD_hasPoints_175 rfl ((nI_succ i).symm) (by decide) ?_
              refine za_goto 9 hc dD_hasPoints_178 rfl ?_
              refine za_take 2 ?_
              refine ih (i + 1) M1 (by omega) hf hB1 hg (fun x => (hx x).trans ⟨?_, ?_⟩)
              · rintro ⟨g1, g2, g3⟩ i' hi'
                by_cases c : i' < i
                · exact g1 i' c
                · obtain rfl : i' = i := by omega
                  exact ⟨g2, fun j1 hj1 => g3 j1 (by omega)⟩
              · intro g1
                exact ⟨fun i' hi' => g1 i' (by omega), (g1 i (by omega)).1, fun j1 hj1 => (g1 i (by omega)).2 j1 (by omega)⟩
            · skip
              exact absurd ((nI_leI (by omega) (by omega)).mpr (show ls.length ≤ j by omega)) h_75
        | succ k ihk =>
          intro j M1 hk hf hB1 hg hx
          have ea := (hf (d + 1) (fun z => by have := z.1; omega)).2.1
          have eb := (hf (d + 2) (fun z => by have := z.1; omega)).2.1
          have ec := (hf (d + 3) (fun z => by have := z.1; omega)).2.1
          have es := (hf (d + 4) (fun z => by have := z.1; omega)).1
          have hbi := hbnd i (by omega)
          have hbj := hbnd j (by omega)
          refine za_lload_n hc dD_hasPoints_63 rfl ?_
          refine za_lconst hc 0 dD_hasPoints_64 rfl ?_
          refine za_lcmp_le 175 hc dD_hasPoints_65 dD_hasPoints_66 rfl (fun h_65 => ?_) (fun h_65 => ?_)
          · skip
            have hu : (zJ M (d + 2) i).toInt ≤ 0 := Int64.le_iff_toInt_le.mp h_65
            refine za_iinc hc _ dD_hasPoints_175 rfl ((nI_succ i).symm) (by decide) ?_
            refine za_goto 9 hc dD_hasPoints_178 rfl ?_
            refine za_take 2 ?_
            refine ih (i + 1) M1 (by omega) hf hB1 hg (fun x => (hx x).trans ⟨?_, ?_⟩)
            · rintro ⟨g1, g2, g3⟩ i' hi'
              by_cases c : i' < i
              · exact g1 i' c
              · obtain rfl : i' = i := by omega
                exact ⟨g2, fun j1 hj1 => fun z => absurd z (by show ¬ 0 < (zJ M (d + 2) i').toInt; omega)⟩
            · intro g1
              exact ⟨fun i' hi' => g1 i' (by omega), (g1 i (by omega)).1, fun j1 hj1 => (g1 i (by omega)).2 j1 (by omega)⟩
          · skip
            have hu : 0 < (zJ M (d + 2) i).toInt := by have : ¬ (zJ M (d + 2) i).toInt ≤ 0 := fun z => h_65 (Int64.le_iff_toInt_le.mpr z); omega
            refine za_iload hc dD_hasPoints_69 rfl ?_
            refine za_aload_n hc dD_hasPoints_71 rfl ?_
            refine za_getI hc gfD_32 (by assumption) dD_hasPoints_72 ?_
            rw [(kept M1 hf).1]
            refine za_icmp_ge 175 hc dD_hasPoints_75 rfl (fun h_75 => ?_) (fun h_75 => ?_)
            · skip
              exact absurd ((nI_leI (by omega) (by omega)).mp h_75) (by omega)
            · skip
              refine za_aload_n hc dD_hasPoints_78 rfl ?_
              refine za_getS hc gfD_15 (by assumption) dD_hasPoints_79 ?_
              refine za_iload hc dD_hasPoints_82 rfl ?_
              refine za_lald hc (by assumption) dD_hasPoints_84 (vp_in_nI (show j < 36 by omega) (by decide)) ?_
              rw [nI_clamp (show j < 2 ^ 31 by omega), eb]
              refine za_lneg hc dD_hasPoints_85 ?_
              refine za_lstore hc dD_hasPoints_86 (by decide) ?_
              refine za_lload hc dD_hasPoints_88 rfl ?_
              refine za_lconst hc 0 dD_hasPoints_90 rfl ?_
              refine za_lcmp_le 169 hc dD_hasPoints_91 dD_hasPoints_92 rfl (fun h_91 => ?_) (fun h_91 => ?_)
              · skip
                have hlp : 0 ≤ (zJ M (d + 2) j).toInt := by
                  have h1 : (-zJ M (d + 2) j).toInt ≤ 0 := Int64.le_iff_toInt_le.mp h_91
                  rw [l_neg hbj.2.2.1.2.1] at h1; omega
                have hx1 : ∀ x, sX M1 (d + 5) x ↔ (∀ i', i' < i → gdz (dg M d i') x ∧ ∀ j, j < ls.length → gdp (dg M d i') (dg M d j) x) ∧ gdz (dg M d i) x ∧ ∀ j', j' < j + 1 → gdp (dg M d i) (dg M d j') x := fun x => (hx x).trans ⟨fun g => ⟨g.1, g.2.1, fun j1 hj1 => by
                    by_cases c : j1 < j
                    · exact g.2.2 j1 c
                    · obtain rfl : j1 = j := by omega
                      intro _ z
                      exact absurd z (Int.not_lt.mpr hlp)⟩, fun g => ⟨g.1, g.2.1, fun j1 hj1 => g.2.2 j1 (by omega)⟩⟩
                have hM1 : M1 = M1 := rfl
                refine za_iinc hc _ dD_hasPoints_169 rfl ((nI_succ j).symm) (by decide) ?_
                refine za_goto 63 hc dD_hasPoints_172 rfl ?_
                refine za_take 4 ?_
                exact ihk (j + 1) M1 (by omega) hf hB1 hg hx1
              · skip
                have hlp : (zJ M (d + 2) j).toInt < 0 := by
                  have h1 : ¬ (-zJ M (d + 2) j).toInt ≤ 0 := fun z => h_91 (Int64.le_iff_toInt_le.mpr z)
                  rw [l_neg hbj.2.2.1.2.1] at h1; omega
                have p1 := g_mulb (A := 200000000) (B := 200000000) (a := -(zJ M (d + 2) j).toInt) (b := (zJ M (d + 1) i).toInt) (by omega) (by omega)
                have p2 := g_mulb (A := 200000000) (B := 200000000) (a := (zJ M (d + 2) i).toInt) (b := (zJ M (d + 1) j).toInt) (by omega) (by omega)
                have p3 := g_mulb (A := 200000000) (B := 200000000) (a := -(zJ M (d + 2) j).toInt) (b := (zJ M (d + 3) i).toInt) (by omega) (by omega)
                have p4 := g_mulb (A := 200000000) (B := 200000000) (a := (zJ M (d + 2) i).toInt) (b := (zJ M (d + 3) j).toInt) (by omega) (by omega)
                have hng := l_neg hbj.2.2.1.2.1
                have en : (-zJ M (d + 2) j * zJ M (d + 1) i + zJ M (d + 2) i * zJ M (d + 1) j).toInt = -(zJ M (d + 2) j).toInt * (zJ M (d + 1) i).toInt + (zJ M (d + 2) i).toInt * (zJ M (d + 1) j).toInt := by
                  have q1 := l_mul (x := -zJ M (d + 2) j) (y := zJ M (d + 1) i) (by rw [hng]; omega) (by rw [hng]; omega)
                  have q2 := l_mul (x := zJ M (d + 2) i) (y := zJ M (d + 1) j) (by omega) (by omega)
                  rw [hng] at q1
                  rw [l_add (by rw [q1, q2]; omega) (by rw [q1, q2]; omega), q1, q2]
                have em : (-zJ M (d + 2) j * zJ M (d + 3) i + zJ M (d + 2) i * zJ M (d + 3) j).toInt = -(zJ M (d + 2) j).toInt * (zJ M (d + 3) i).toInt + (zJ M (d + 2) i).toInt * (zJ M (d + 3) j).toInt := by
                  have q1 := l_mul (x := -zJ M (d + 2) j) (y := zJ M (d + 3) i) (by rw [hng]; omega) (by rw [hng]; omega)
                  have q2 := l_mul (x := zJ M (d + 2) i) (y := zJ M (d + 3) j) (by omega) (by omega)
                  rw [hng] at q1
                  rw [l_add (by rw [q1, q2]; omega) (by rw [q1, q2]; omega), q1, q2]
                refine za_aload_n hc dD_hasPoints_95 rfl ?_
                refine za_getS hc gfD_28 (by assumption) dD_hasPoints_96 ?_
                refine za_lload hc dD_hasPoints_99 rfl ?_
                refine za_aload_n hc dD_hasPoints_101 rfl ?_
                refine za_getS hc gfD_11 (by assumption) dD_hasPoints_102 ?_
                refine za_iload_n hc dD_hasPoints_105 rfl ?_
                refine za_lald hc (by assumption) dD_hasPoints_106 (vp_in_nI (show i < 36 by omega) (by decide)) ?_
                rw [nI_clamp (show i < 2 ^ 31 by omega), ea]
                refine za_lmul hc dD_hasPoints_107 ?_
                refine za_lload_n hc dD_hasPoints_108 rfl ?_
                refine za_aload_n hc dD_hasPoints_109 rfl ?_
                refine za_getS hc gfD_11 (by assumption) dD_hasPoints_110 ?_
                refine za_iload hc dD_hasPoints_113 rfl ?_
                refine za_lald hc (by assumption) dD_hasPoints_115 (vp_in_nI (show j < 36 by omega) (by decide)) ?_
                rw [nI_clamp (show j < 2 ^ 31 by omega), ea]
                refine za_lmul hc dD_hasPoints_116 ?_
                refine za_ladd hc dD_hasPoints_117 ?_
                refine za_lload hc dD_hasPoints_118 rfl ?_
                refine za_aload_n hc dD_hasPoints_120 rfl ?_
                refine za_getS hc gfD_18 (by assumption) dD_hasPoints_121 ?_
                refine za_iload_n hc dD_hasPoints_124 rfl ?_
                refine za_lald hc (by assumption) dD_hasPoints_125 (vp_in_nI (show i < 36 by omega) (by decide)) ?_
                rw [nI_clamp (show i < 2 ^ 31 by omega), ec]
                refine za_lmul hc dD_hasPoints_126 ?_
                refine za_lload_n hc dD_hasPoints_127 rfl ?_
                refine za_aload_n hc dD_hasPoints_128 rfl ?_
                refine za_getS hc gfD_18 (by assumption) dD_hasPoints_129 ?_
                refine za_iload hc dD_hasPoints_132 rfl ?_
                refine za_lald hc (by assumption) dD_hasPoints_134 (vp_in_nI (show j < 36 by omega) (by decide)) ?_
                rw [nI_clamp (show j < 2 ^ 31 by omega), ec]
                refine za_lmul hc dD_hasPoints_135 ?_
                refine za_ladd hc dD_hasPoints_136 ?_
                refine za_aload_n hc dD_hasPoints_137 rfl ?_
                refine za_getS hc gfD_21 (by assumption) dD_hasPoints_138 ?_
                refine za_iload_n hc dD_hasPoints_141 rfl ?_
                refine za_zald hc (by assumption) dD_hasPoints_142 (vp_in_nI (show i < 36 by omega) (by decide)) ?_
                rw [nI_clamp (show i < 2 ^ 31 by omega), es]
                refine za_if_ne 156 hc dD_hasPoints_143 rfl (fun h_143 => ?_) (fun h_143 => ?_)
                · skip
                  have hsg : ((1 : Int32) == 1) = ((dg M d i).2.2.2 || (dg M d j).2.2.2) := by show true = ((zI M (d + 4) i == 1) || _); rw [(hH.2.2.2 i).resolve_left h_143]; rfl
                  refine za_iconst hc 1 dD_hasPoints_156 rfl ?_
                  refine za_goto 161 hc dD_hasPoints_157 rfl ?_
                  refine za_cV3i hc gsD_55 (by assumption) (cS_narrow_ l M1 _ _ _ hd.p hB1 (by first | exact Or.inl rfl | exact Or.inr rfl) (by rw [en, em]; exact hpb i j (by omega) (by omega) hu hlp)) ⟨rfl, rfl⟩ ⟨Nat.le_of_ble_eq_true rfl, Nat.le_of_ble_eq_true rfl⟩ ⟨Nat.zero_le _, Nat.zero_le _⟩ dD_hasPoints_161 (fun x_161 M_161 h_161 => ?_)
                  obtain ⟨hst1, hst0⟩ := s_step hB1 (by first | exact Or.inl rfl | exact Or.inr rfl) h_161
                  refine za_if_ne 169 hc dD_hasPoints_164 rfl (fun h_164 => ?_) (fun h_164 => ?_)
                  · skip
                    have hr1 : x_161 = 1 := h_161.2.2.1.resolve_left h_164
                    obtain ⟨hs1, hs2⟩ := hst1 hr1
                    have hx1 : ∀ x, sX M_161 (d + 5) x ↔ (∀ i', i' < i → gdz (dg M d i') x ∧ ∀ j, j < ls.length → gdp (dg M d i') (dg M d j) x) ∧ gdz (dg M d i) x ∧ ∀ j', j' < j + 1 → gdp (dg M d i) (dg M d j') x := fun x => (hs1 x).trans (by
                        rw [hx x, en, em, hsg]
                        constructor
                        · rintro ⟨⟨g1, g2, g3⟩, g4⟩
                          refine ⟨g1, g2, fun j1 hj1 => ?_⟩
                          by_cases c : j1 < j
                          · exact g3 j1 c
                          · obtain rfl : j1 = j := by omega
                            exact fun _ _ => g4
                        · rintro ⟨g1, g2, g3⟩
                          exact ⟨⟨g1, g2, fun j1 hj1 => g3 j1 (by omega)⟩, g3 j (by omega) hu hlp⟩)
                    refine za_iinc hc _ dD_hasPoints_169 rfl ((nI_succ j).symm) (by decide) ?_
                    refine za_goto 63 hc dD_hasPoints_172 rfl ?_
                    refine za_take 4 ?_
                    exact ihk (j + 1) M_161 (by omega) (hf.tr h_161.1) h_161.2.1 (hs2 hg) hx1
                  · skip
                    refine za_iconst hc 0 dD_hasPoints_167 rfl ?_
                    exact za_zret hc rfl (rfl) dD_hasPoints_168 ⟨Nat.zero_le _, Nat.zero_le _⟩ (no M_161 (hf.tr h_161.1) h_161.2.1 (fun hh => by
              obtain ⟨x, hx2⟩ := hsat.mp hh
              refine hst0 (by rw [h_164]; decide) x ⟨(hx x).mpr ⟨fun a ha => hx2 a (by omega), (hx2 i (by omega)).1, fun b hb => (hx2 i (by omega)).2 b (by omega)⟩, ?_⟩
              rw [en, em, hsg]
              exact (hx2 i (by omega)).2 j (by omega) hu hlp))
                · skip
                  refine za_aload_n hc dD_hasPoints_146 rfl ?_
                  refine za_getS hc gfD_21 (by assumption) dD_hasPoints_147 ?_
                  refine za_iload hc dD_hasPoints_150 rfl ?_
                  refine za_zald hc (by assumption) dD_hasPoints_152 (vp_in_nI (show j < 36 by omega) (by decide)) ?_
                  rw [nI_clamp (show j < 2 ^ 31 by omega), es]
                  refine za_if_eq 160 hc dD_hasPoints_153 rfl (fun h_153 => ?_) (fun h_153 => ?_)
                  · skip
                    have hsg : ((0 : Int32) == 1) = ((dg M d i).2.2.2 || (dg M d j).2.2.2) := by show false = ((zI M (d + 4) i == 1) || (zI M (d + 4) j == 1)); rw [h_143, h_153]; rfl
                    refine za_iconst hc 0 dD_hasPoints_160 rfl ?_
                    refine za_cV3i hc gsD_55 (by assumption) (cS_narrow_ l M1 _ _ _ hd.p hB1 (by first | exact Or.inl rfl | exact Or.inr rfl) (by rw [en, em]; exact hpb i j (by omega) (by omega) hu hlp)) ⟨rfl, rfl⟩ ⟨Nat.le_of_ble_eq_true rfl, Nat.le_of_ble_eq_true rfl⟩ ⟨Nat.zero_le _, Nat.zero_le _⟩ dD_hasPoints_161 (fun x_161 M_161 h_161 => ?_)
                    obtain ⟨hst1, hst0⟩ := s_step hB1 (by first | exact Or.inl rfl | exact Or.inr rfl) h_161
                    refine za_if_ne 169 hc dD_hasPoints_164 rfl (fun h_164 => ?_) (fun h_164 => ?_)
                    · skip
                      have hr1 : x_161 = 1 := h_161.2.2.1.resolve_left h_164
                      obtain ⟨hs1, hs2⟩ := hst1 hr1
                      have hx1 : ∀ x, sX M_161 (d + 5) x ↔ (∀ i', i' < i → gdz (dg M d i') x ∧ ∀ j, j < ls.length → gdp (dg M d i') (dg M d j) x) ∧ gdz (dg M d i) x ∧ ∀ j', j' < j + 1 → gdp (dg M d i) (dg M d j') x := fun x => (hs1 x).trans (by
                          rw [hx x, en, em, hsg]
                          constructor
                          · rintro ⟨⟨g1, g2, g3⟩, g4⟩
                            refine ⟨g1, g2, fun j1 hj1 => ?_⟩
                            by_cases c : j1 < j
                            · exact g3 j1 c
                            · obtain rfl : j1 = j := by omega
                              exact fun _ _ => g4
                          · rintro ⟨g1, g2, g3⟩
                            exact ⟨⟨g1, g2, fun j1 hj1 => g3 j1 (by omega)⟩, g3 j (by omega) hu hlp⟩)
                      refine za_iinc hc _ dD_hasPoints_169 rfl ((nI_succ j).symm) (by decide) ?_
                      refine za_goto 63 hc dD_hasPoints_172 rfl ?_
                      refine za_take 4 ?_
                      exact ihk (j + 1) M_161 (by omega) (hf.tr h_161.1) h_161.2.1 (hs2 hg) hx1
                    · skip
                      refine za_iconst hc 0 dD_hasPoints_167 rfl ?_
                      exact za_zret hc rfl (rfl) dD_hasPoints_168 ⟨Nat.zero_le _, Nat.zero_le _⟩ (no M_161 (hf.tr h_161.1) h_161.2.1 (fun hh => by
              obtain ⟨x, hx2⟩ := hsat.mp hh
              refine hst0 (by rw [h_164]; decide) x ⟨(hx x).mpr ⟨fun a ha => hx2 a (by omega), (hx2 i (by omega)).1, fun b hb => (hx2 i (by omega)).2 b (by omega)⟩, ?_⟩
              rw [en, em, hsg]
              exact (hx2 i (by omega)).2 j (by omega) hu hlp))
                  · skip
                    have hsg : ((1 : Int32) == 1) = ((dg M d i).2.2.2 || (dg M d j).2.2.2) := by show true = ((zI M (d + 4) i == 1) || (zI M (d + 4) j == 1)); rw [h_143, (hH.2.2.2 j).resolve_left h_153]; rfl
                    refine za_iconst hc 1 dD_hasPoints_156 rfl ?_
                    refine za_goto 161 hc dD_hasPoints_157 rfl ?_
                    refine za_cV3i hc gsD_55 (by assumption) (cS_narrow_ l M1 _ _ _ hd.p hB1 (by first | exact Or.inl rfl | exact Or.inr rfl) (by rw [en, em]; exact hpb i j (by omega) (by omega) hu hlp)) ⟨rfl, rfl⟩ ⟨Nat.le_of_ble_eq_true rfl, Nat.le_of_ble_eq_true rfl⟩ ⟨Nat.zero_le _, Nat.zero_le _⟩ dD_hasPoints_161 (fun x_161 M_161 h_161 => ?_)
                    obtain ⟨hst1, hst0⟩ := s_step hB1 (by first | exact Or.inl rfl | exact Or.inr rfl) h_161
                    refine za_if_ne 169 hc dD_hasPoints_164 rfl (fun h_164 => ?_) (fun h_164 => ?_)
                    · skip
                      have hr1 : x_161 = 1 := h_161.2.2.1.resolve_left h_164
                      obtain ⟨hs1, hs2⟩ := hst1 hr1
                      have hx1 : ∀ x, sX M_161 (d + 5) x ↔ (∀ i', i' < i → gdz (dg M d i') x ∧ ∀ j, j < ls.length → gdp (dg M d i') (dg M d j) x) ∧ gdz (dg M d i) x ∧ ∀ j', j' < j + 1 → gdp (dg M d i) (dg M d j') x := fun x => (hs1 x).trans (by
                          rw [hx x, en, em, hsg]
                          constructor
                          · rintro ⟨⟨g1, g2, g3⟩, g4⟩
                            refine ⟨g1, g2, fun j1 hj1 => ?_⟩
                            by_cases c : j1 < j
                            · exact g3 j1 c
                            · obtain rfl : j1 = j := by omega
                              exact fun _ _ => g4
                          · rintro ⟨g1, g2, g3⟩
                            exact ⟨⟨g1, g2, fun j1 hj1 => g3 j1 (by omega)⟩, g3 j (by omega) hu hlp⟩)
                      refine za_iinc hc _ dD_hasPoints_169 rfl ((nI_succ j).symm) (by decide) ?_
                      refine za_goto 63 hc dD_hasPoints_172 rfl ?_
                      refine za_take 4 ?_
                      exact ihk (j + 1) M_161 (by omega) (hf.tr h_161.1) h_161.2.1 (hs2 hg) hx1
                    · skip
                      refine za_iconst hc 0 dD_hasPoints_167 rfl ?_
                      exact za_zret hc rfl (rfl) dD_hasPoints_168 ⟨Nat.zero_le _, Nat.zero_le _⟩ (no M_161 (hf.tr h_161.1) h_161.2.1 (fun hh => by
              obtain ⟨x, hx2⟩ := hsat.mp hh
              refine hst0 (by rw [h_164]; decide) x ⟨(hx x).mpr ⟨fun a ha => hx2 a (by omega), (hx2 i (by omega)).1, fun b hb => (hx2 i (by omega)).2 b (by omega)⟩, ?_⟩
              rw [en, em, hsg]
              exact (hx2 i (by omega)).2 j (by omega) hu hlp))
      have ea := (hf (d + 1) (fun z => by have := z.1; omega)).2.1
      have eb := (hf (d + 2) (fun z => by have := z.1; omega)).2.1
      have ec := (hf (d + 3) (fun z => by have := z.1; omega)).2.1
      have es := (hf (d + 4) (fun z => by have := z.1; omega)).1
      have hbi := hbnd i (by omega)
      refine za_iload_n hc dD_hasPoints_9 rfl ?_
      refine za_aload_n hc dD_hasPoints_10 rfl ?_
      refine za_getI hc gfD_32 (by assumption) dD_hasPoints_11 ?_
      rw [(kept M1 hf).1]
      refine za_icmp_ge 181 hc dD_hasPoints_14 rfl (fun h_14 => ?_) (fun h_14 => ?_)
      · skip
        exact absurd ((nI_leI (by omega) (by omega)).mp h_14) (by omega)
      · skip
        refine za_aload_n hc dD_hasPoints_17 rfl ?_
        refine za_getS hc gfD_15 (by assumption) dD_hasPoints_18 ?_
        refine za_iload_n hc dD_hasPoints_21 rfl ?_
        refine za_lald hc (by assumption) dD_hasPoints_22 (vp_in_nI (show i < 36 by omega) (by decide)) ?_
        rw [nI_clamp (show i < 2 ^ 31 by omega), eb]
        refine za_lstore_n hc dD_hasPoints_23 (by decide) ?_
        refine za_lload_n hc dD_hasPoints_24 rfl ?_
        refine za_lconst hc 0 dD_hasPoints_25 rfl ?_
        refine za_lcmp_ne 60 hc dD_hasPoints_26 dD_hasPoints_27 rfl (fun h_26 => ?_) (fun h_26 => ?_)
        · skip
          have hu0 : ¬ (zJ M (d + 2) i).toInt = 0 := fun z => h_26 (Int64.toInt_inj.mp z)
          refine za_iconst hc 0 dD_hasPoints_60 rfl ?_
          refine za_istore hc dD_hasPoints_61 (by decide) ?_
          refine inner ls.length 0 M1 (by omega) hf hB1 hg (fun x => (hx x).trans ⟨fun g => ⟨g, fun z => absurd z hu0, fun j1 hj1 => absurd hj1 (Nat.not_lt_zero _)⟩, fun g => g.1⟩)
        · skip
          have hu0 : (zJ M (d + 2) i).toInt = 0 := by rw [h_26]; rfl
          refine za_aload_n hc dD_hasPoints_30 rfl ?_
          refine za_getS hc gfD_28 (by assumption) dD_hasPoints_31 ?_
          refine za_aload_n hc dD_hasPoints_34 rfl ?_
          refine za_getS hc gfD_11 (by assumption) dD_hasPoints_35 ?_
          refine za_iload_n hc dD_hasPoints_38 rfl ?_
          refine za_lald hc (by assumption) dD_hasPoints_39 (vp_in_nI (show i < 36 by omega) (by decide)) ?_
          rw [nI_clamp (show i < 2 ^ 31 by omega), ea]
          refine za_aload_n hc dD_hasPoints_40 rfl ?_
          refine za_getS hc gfD_18 (by assumption) dD_hasPoints_41 ?_
          refine za_iload_n hc dD_hasPoints_44 rfl ?_
          refine za_lald hc (by assumption) dD_hasPoints_45 (vp_in_nI (show i < 36 by omega) (by decide)) ?_
          rw [nI_clamp (show i < 2 ^ 31 by omega), ec]
          refine za_aload_n hc dD_hasPoints_46 rfl ?_
          refine za_getS hc gfD_21 (by assumption) dD_hasPoints_47 ?_
          refine za_iload_n hc dD_hasPoints_50 rfl ?_
          refine za_zald hc (by assumption) dD_hasPoints_51 (vp_in_nI (show i < 36 by omega) (by decide)) ?_
          rw [nI_clamp (show i < 2 ^ 31 by omega), es]
          refine za_cV3i hc gsD_55 (by assumption) (cS_narrow_ l M1 _ _ _ hd.p hB1 (hH.2.2.2 i) (fun _ => by omega)) ⟨rfl, rfl⟩ ⟨Nat.le_of_ble_eq_true rfl, Nat.le_of_ble_eq_true rfl⟩ ⟨Nat.zero_le _, Nat.zero_le _⟩ dD_hasPoints_52 (fun x_52 M_52 h_52 => ?_)
          obtain ⟨hst1, hst0⟩ := s_step hB1 (hH.2.2.2 i) h_52
          refine za_if_ne 60 hc dD_hasPoints_55 rfl (fun h_55 => ?_) (fun h_55 => ?_)
          · skip
            have hr1 : x_52 = 1 := h_52.2.2.1.resolve_left h_55
            obtain ⟨hs1, hs2⟩ := hst1 hr1
            refine za_iconst hc 0 dD_hasPoints_60 rfl ?_
            refine za_istore hc dD_hasPoints_61 (by decide) ?_
            refine inner ls.length 0 M_52 (by omega) (hf.tr h_52.1) h_52.2.1 (hs2 hg) (fun x => (hs1 x).trans ?_)
            rw [hx x]
            exact ⟨fun g => ⟨g.1, fun _ => g.2, fun j1 hj1 => absurd hj1 (Nat.not_lt_zero _)⟩, fun g => ⟨g.1, g.2.1 hu0⟩⟩
          · skip
            refine za_iconst hc 0 dD_hasPoints_58 rfl ?_
            exact za_zret hc rfl (rfl) dD_hasPoints_59 ⟨Nat.zero_le _, Nat.zero_le _⟩ (no M_52 (hf.tr h_52.1) h_52.2.1 (fun hh => by
          obtain ⟨x, hx2⟩ := hsat.mp hh
          exact hst0 (by rw [h_55]; decide) x ⟨(hx x).mpr (fun a ha => hx2 a (by omega)), (hx2 i (by omega)).1 hu0⟩))
  refine za_aload_n hc dD_hasPoints_0 rfl ?_
  refine za_getS hc gfD_28 (by assumption) dD_hasPoints_1 ?_
  refine za_cV0v hc gsD_52 (by assumption) (cS_reset_ l M hd.p) ⟨rfl, rfl⟩ ⟨Nat.le_of_ble_eq_true rfl, Nat.le_of_ble_eq_true rfl⟩ ⟨Nat.zero_le _, Nat.zero_le _⟩ dD_hasPoints_4 (fun M_4 h_4 => ?_)
  subst h_4
  refine za_iconst hc 0 dD_hasPoints_7 rfl ?_
  refine za_istore_n hc dD_hasPoints_8 (by decide) ?_
  have hrs : ∀ e, e < 2 → (zJ (zsJ (zsJ M (d + 5 + 2) 0 0) (d + 5 + 2) 1 0) (d + 5 + 2) e).toInt = 0 := fun e he => by
    rw [zJ_s, zJ_s]
    by_cases c1 : e = 1
    · rw [if_pos c1]; rfl
    · rw [if_neg c1, if_pos (by omega)]; rfl
  refine outer ls.length 0 _ (by omega) ((zfr_sJ ⟨by omega, by omega⟩).tr (zfr_sJ ⟨by omega, by omega⟩)) ⟨fun e => ?_, fun e => ?_, hB.2.2⟩ (Or.inl (hrs 0 (by decide))) (fun x => ⟨fun _ a ha => absurd ha (Nat.not_lt_zero _), fun _ => ⟨fun z => absurd (hrs 0 (by decide)) z, fun z => absurd (hrs 1 (by decide)) z⟩⟩)
  · rw [zJ_o (by omega), zJ_o (by omega)]; exact hB.1 e
  · rw [zJ_s, zJ_s]
    split
    · exact ⟨by decide, by decide⟩
    · split
      · exact ⟨by decide, by decide⟩
      · exact hB.2.1 e
