/-! The model: corners, ways, sets of members as bits. -/
def lb (x : Int64) (k : Nat) : Bool := x.toBitVec.getLsbD k
theorem lb_zero (k : Nat) : lb 0 k = false := by show (0#64).getLsbD k = false; exact BitVec.getLsbD_zero
theorem lb_or (x y : Int64) (k : Nat) : lb (x ||| y) k = (lb x k || lb y k) := by unfold lb; rw [Int64.toBitVec_or, BitVec.getLsbD_or]
theorem lb_hi (x : Int64) {k : Nat} (h : 64 ≤ k) : lb x k = false := BitVec.getLsbD_of_ge _ _ h
set_option maxRecDepth 100000 in
theorem lb_one0 : ∀ k : Fin 64, ∀ j : Fin 64, lb ((1 : Int64) <<< ((nI k.val).toInt64 &&& 63)) j.val = decide (j = k) := by decide +kernel
theorem lb_one {k : Nat} (hk : k < 64) (j : Nat) : lb ((1 : Int64) <<< ((nI k).toInt64 &&& 63)) j = decide (j = k) := by
  by_cases h : j < 64
  · have := lb_one0 ⟨k, hk⟩ ⟨j, h⟩
    rw [this]
    simp only [Fin.mk.injEq]
  · rw [lb_hi _ (by omega), decide_eq_false (by omega)]
theorem lb_ext {x y : Int64} (h : ∀ k, lb x k = lb y k) : x = y := Int64.toBitVec_inj.mp (BitVec.eq_of_getLsbD_eq (fun k _ => h k))
def gd1 (m : gC) (X Y D : Int) : Prop := m.1 * X + m.2.1 * Y < m.2.2.1 * D
def gd2 (m : gC) (X Y D : Int) : Prop := m.1 * X + m.2.1 * Y ≤ m.2.2.1 * D
def gAt (p q : gC) (X Y D : Int) : Prop := (0 < D ∧ D ≤ 200000000) ∧ (-200000000 ≤ X ∧ X ≤ 200000000) ∧ (-200000000 ≤ Y ∧ Y ≤ 200000000) ∧ p.1 * X + p.2.1 * Y = p.2.2.1 * D ∧ q.1 * X + q.2.1 * Y = q.2.2.1 * D
theorem l_lin {a b x y : Int64} (ha : -10000 ≤ a.toInt ∧ a.toInt ≤ 10000) (hb : -10000 ≤ b.toInt ∧ b.toInt ≤ 10000) (hx : -200000000 ≤ x.toInt ∧ x.toInt ≤ 200000000) (hy : -200000000 ≤ y.toInt ∧ y.toInt ≤ 200000000) : (a * x + b * y).toInt = a.toInt * x.toInt + b.toInt * y.toInt := by
  have p1 := g_mulb ha hx
  have p2 := g_mulb hb hy
  have q1 := l_mul (x := a) (y := x) (by omega) (by omega)
  have q2 := l_mul (x := b) (y := y) (by omega) (by omega)
  rw [l_add (by rw [q1, q2]; omega) (by rw [q1, q2]; omega), q1, q2]
theorem l_one {a x : Int64} (ha : -10000 ≤ a.toInt ∧ a.toInt ≤ 10000) (hx : -200000000 ≤ x.toInt ∧ x.toInt ≤ 200000000) : (a * x).toInt = a.toInt * x.toInt := by
  have p1 := g_mulb ha hx
  exact l_mul (by omega) (by omega)
theorem l_sg {d : Int64} (s : Int) (w : Int64) (hw : w.toInt = s) (hs : s = 1 ∨ s = -1) (hd : -200000000 ≤ d.toInt ∧ d.toInt ≤ 200000000) : (d * w).toInt = d.toInt * s ∧ -200000000 ≤ d.toInt * s ∧ d.toInt * s ≤ 200000000 := by
  have hb : -200000000 ≤ d.toInt * s ∧ d.toInt * s ≤ 200000000 := by rcases hs with h | h <;> rw [h] <;> omega
  exact ⟨by rw [l_mul (by rw [hw]; omega) (by rw [hw]; omega), hw], hb.1, hb.2⟩
theorem g_sgp {g : Int} (h : 0 ≤ g) (h0 : ¬ g = 0) : 0 < g * 1 := by omega
theorem g_sgn {g : Int} (h : ¬ 0 ≤ g) : 0 < g * -1 := by omega
theorem g_atp (a b c a' b' c' s : Int) : a * ((c * b' - c' * b) * s) + b * ((a * c' - a' * c) * s) = c * ((a * b' - a' * b) * s) := by grind
theorem g_atq (a b c a' b' c' s : Int) : a' * ((c * b' - c' * b) * s) + b' * ((a * c' - a' * c) * s) = c' * ((a * b' - a' * b) * s) := by grind
def m62 : Nat → Prop := fun k => k = 62
theorem qH_62 {M M' : zM} {ls : List gC} (h : qH M ls) (hf : zfr m62 M M') (h0 : zI M' 62 19 = zI M 62 19) : qH M' ls := qH_kept h hf h0 (by unfold m62; decide) (by unfold m62; decide) (by unfold m62; decide) (by unfold m62; decide)
theorem mH_62 {M M' : zM} {ls : List gC} (h : mH M ls) (hf : zfr m62 M M') (h0 : zI M' 62 13 = zI M 62 13) : mH M' ls := mH_kept h hf h0 (by unfold m62; decide) (by unfold m62; decide) (by unfold m62; decide) (by unfold m62; decide)

set_option maxRecDepth 100000 in
set_option maxHeartbeats 4000000 in
theorem cM_strictOnes_ (l : Launch) {ls : List gC} (M : zM) (hH : qH M ls) : zMet l mM_strictOnes rM_strictOnes [.ref 62] M (zql (fun r M' => (∀ k, lb r k = true ↔ ∃ m, ls[k]? = some m ∧ m.2.2.2 = true) ∧ M' = M)) := by
  refine za_enter (by decide) (Nat.le_of_ble_eq_true rfl) (fun X hc => ?_)
  have a77 := ar_77
  have a78 := ar_78
  have a79 := ar_79
  have a80 := ar_80
  have hl := hH.2.1
  have loop : ∀ n k (v : Int64), n + k = ls.length → (∀ j, lb v j = true ↔ j < k ∧ ∃ m, ls[j]? = some m ∧ m.2.2.2 = true) → zW X (zql (fun r M' => (∀ k, lb r k = true ↔ ∃ m, ls[k]? = some m ∧ m.2.2.2 = true) ∧ M' = M)) (0, 0) 4 [(0, .ref 62), (1, .long v), (3, .int (nI k))] [] M := by
    intro n
    induction n with
    | zero =>
      intro k v hn hall
      refine za_iload_n hc dM_strictOnes_4 rfl ?_
      refine za_aload_n hc dM_strictOnes_5 rfl ?_
      refine za_getI hc gfM_73 zob_62 dM_strictOnes_6 ?_
      rw [hH.1]
      refine za_icmp_ge 33 hc dM_strictOnes_9 rfl (fun h_9 => ?_) (fun h_9 => ?_)
      · skip
        refine za_lload_n hc dM_strictOnes_33 rfl ?_
        exact za_lret hc rfl dM_strictOnes_34 ⟨Nat.zero_le _, Nat.zero_le _⟩ (⟨_, rfl, fun j => (hall j).trans ⟨fun z => z.2, fun ⟨m, z1, z2⟩ => ⟨by have := (List.getElem?_eq_some_iff.mp z1).1; omega, m, z1, z2⟩⟩, rfl⟩)
      · skip
        exact absurd ((nI_leI (by omega) (by omega)).mpr (show ls.length ≤ k by omega)) h_9
    | succ n ih =>
      intro k v hn hall
      have hri := List.getElem?_eq_getElem (l := ls) (show k < ls.length by omega)
      generalize hme : ls[k] = m at hri
      have dk := hH.2.2.1 k m hri
      have hs : m.2.2.2 = (zI M 80 k == 1) := by rw [← dk]; rfl
      refine za_iload_n hc dM_strictOnes_4 rfl ?_
      refine za_aload_n hc dM_strictOnes_5 rfl ?_
      refine za_getI hc gfM_73 zob_62 dM_strictOnes_6 ?_
      rw [hH.1]
      refine za_icmp_ge 33 hc dM_strictOnes_9 rfl (fun h_9 => ?_) (fun h_9 => ?_)
      · skip
        exact absurd ((nI_leI (by omega) (by omega)).mp h_9) (by omega)
      · skip
        refine za_aload_n hc dM_strictOnes_12 rfl ?_
        refine za_getA hc gfM_63 zob_62 (p := 80) rfl dM_strictOnes_13 ?_
        refine za_iload_n hc dM_strictOnes_16 rfl ?_
        refine zm_zald hc (by assumption) dM_strictOnes_17 (by omega) (by decide) ?_
        refine za_if_eq 27 hc dM_strictOnes_18 rfl (fun h_18 => ?_) (fun h_18 => ?_)
        · skip
          have h0s : m.2.2.2 = false := by rw [hs, h_18]; rfl
          have hno : ¬ m.2.2.2 = true := by rw [h0s]; decide
          refine za_iinc hc _ dM_strictOnes_27 rfl ((nI_succ k).symm) (by decide) ?_
          refine za_goto 4 hc dM_strictOnes_30 rfl ?_
          refine ih (k + 1) v (by omega) (fun j => (hall j).trans ⟨fun z => ⟨by omega, z.2⟩, fun z => ⟨?_, z.2⟩⟩)
          obtain ⟨z0, m2, z1, z2⟩ := z
          by_cases hjk : j = k
          · rw [hjk, hri] at z1; cases z1; exact absurd z2 hno
          · omega
        · skip
          have h1s : m.2.2.2 = true := by rw [hs, (hH.2.2.2 k).resolve_left h_18]; rfl
          have hyes := h1s
          refine za_lload_n hc dM_strictOnes_21 rfl ?_
          refine za_lconst hc 1 dM_strictOnes_22 rfl ?_
          refine za_iload_n hc dM_strictOnes_23 rfl ?_
          refine za_lshl hc dM_strictOnes_24 ?_
          refine za_lor hc dM_strictOnes_25 ?_
          refine za_lstore_n hc dM_strictOnes_26 (by decide) ?_
          refine za_iinc hc _ dM_strictOnes_27 rfl ((nI_succ k).symm) (by decide) ?_
          refine za_goto 4 hc dM_strictOnes_30 rfl ?_
          refine ih (k + 1) _ (by omega) (fun j => ?_)
          rw [lb_or, lb_one (by omega), Bool.or_eq_true, hall j, decide_eq_true_iff]
          constructor
          · rintro (z | z)
            · exact ⟨by omega, z.2⟩
            · exact ⟨by omega, m, by rw [z]; exact hri, hyes⟩
          · rintro ⟨z0, m2, z1⟩
            by_cases hjk : j = k
            · exact Or.inr hjk
            · exact Or.inl ⟨by omega, m2, z1⟩
  refine za_lconst hc 0 dM_strictOnes_0 rfl ?_
  refine za_lstore_n hc dM_strictOnes_1 (by decide) ?_
  refine za_iconst hc 0 dM_strictOnes_2 rfl ?_
  refine za_istore_n hc dM_strictOnes_3 (by decide) ?_
  exact loop ls.length 0 0 (by omega) (fun j => ⟨fun z => (by rw [lb_zero] at z; cases z), fun z => absurd z.1 (by omega)⟩)

set_option maxRecDepth 100000 in
set_option maxHeartbeats 4000000 in
theorem cM_inCorner_ (l : Launch) {ls : List gC} (M : zM) (hH : qH M ls) (hB : ∀ q ∈ ls, gBd 10000 q) (hX : (-200000000 ≤ (zJ M 62 29).toInt ∧ (zJ M 62 29).toInt ≤ 200000000)) (hY : (-200000000 ≤ (zJ M 62 30).toInt ∧ (zJ M 62 30).toInt ≤ 200000000)) (hD : (-200000000 ≤ (zJ M 62 31).toInt ∧ (zJ M 62 31).toInt ≤ 200000000)) : zMet l mM_inCorner rM_inCorner [.ref 62] M (zql (fun r M' => (∀ k, lb r k = true ↔ ∃ m, ls[k]? = some m ∧ m.2.2.2 = true ∧ gd1 m (zJ M 62 29).toInt (zJ M 62 30).toInt (zJ M 62 31).toInt) ∧ M' = M)) := by
  refine za_enter (by decide) (Nat.le_of_ble_eq_true rfl) (fun X hc => ?_)
  have a77 := ar_77
  have a78 := ar_78
  have a79 := ar_79
  have a80 := ar_80
  have hl := hH.2.1
  have loop : ∀ n k (v : Int64), n + k = ls.length → (∀ j, lb v j = true ↔ j < k ∧ ∃ m, ls[j]? = some m ∧ m.2.2.2 = true ∧ gd1 m (zJ M 62 29).toInt (zJ M 62 30).toInt (zJ M 62 31).toInt) → zW X (zql (fun r M' => (∀ k, lb r k = true ↔ ∃ m, ls[k]? = some m ∧ m.2.2.2 = true ∧ gd1 m (zJ M 62 29).toInt (zJ M 62 30).toInt (zJ M 62 31).toInt) ∧ M' = M)) (0, 0) 4 [(0, .ref 62), (1, .long v), (3, .int (nI k))] [] M := by
    intro n
    induction n with
    | zero =>
      intro k v hn hall
      refine za_iload_n hc dM_inCorner_4 rfl ?_
      refine za_aload_n hc dM_inCorner_5 rfl ?_
      refine za_getI hc gfM_73 zob_62 dM_inCorner_6 ?_
      rw [hH.1]
      refine za_icmp_ge 71 hc dM_inCorner_9 rfl (fun h_9 => ?_) (fun h_9 => ?_)
      · skip
        refine za_lload_n hc dM_inCorner_71 rfl ?_
        exact za_lret hc rfl dM_inCorner_72 ⟨Nat.zero_le _, Nat.zero_le _⟩ (⟨_, rfl, fun j => (hall j).trans ⟨fun z => z.2, fun ⟨m, z1, z2⟩ => ⟨by have := (List.getElem?_eq_some_iff.mp z1).1; omega, m, z1, z2⟩⟩, rfl⟩)
      · skip
        exact absurd ((nI_leI (by omega) (by omega)).mpr (show ls.length ≤ k by omega)) h_9
    | succ n ih =>
      intro k v hn hall
      have hri := List.getElem?_eq_getElem (l := ls) (show k < ls.length by omega)
      generalize hme : ls[k] = m at hri
      have dk := hH.2.2.1 k m hri
      have hs : m.2.2.2 = (zI M 80 k == 1) := by rw [← dk]; rfl
      have bk := hB m (List.mem_of_getElem? hri)
      have bk2 : gBd 10000 (dg M 76 k) := by rw [dk]; exact bk
      have e1 : (zJ M 77 k * (zJ M 62 29) + zJ M 78 k * (zJ M 62 30)).toInt = m.1 * (zJ M 62 29).toInt + m.2.1 * (zJ M 62 30).toInt := by rw [← dk]; exact l_lin bk2.1 bk2.2.1 hX hY
      have e2 : (zJ M 79 k * (zJ M 62 31)).toInt = m.2.2.1 * (zJ M 62 31).toInt := by rw [← dk]; exact l_one bk2.2.2 hD
      refine za_iload_n hc dM_inCorner_4 rfl ?_
      refine za_aload_n hc dM_inCorner_5 rfl ?_
      refine za_getI hc gfM_73 zob_62 dM_inCorner_6 ?_
      rw [hH.1]
      refine za_icmp_ge 71 hc dM_inCorner_9 rfl (fun h_9 => ?_) (fun h_9 => ?_)
      · skip
        exact absurd ((nI_leI (by omega) (by omega)).mp h_9) (by omega)
      · skip
        refine za_aload_n hc dM_inCorner_12 rfl ?_
        refine za_getA hc gfM_63 zob_62 (p := 80) rfl dM_inCorner_13 ?_
        refine za_iload_n hc dM_inCorner_16 rfl ?_
        refine zm_zald hc (by assumption) dM_inCorner_17 (by omega) (by decide) ?_
        refine za_if_eq 65 hc dM_inCorner_18 rfl (fun h_18 => ?_) (fun h_18 => ?_)
        · skip
          have h0s : m.2.2.2 = false := by rw [hs, h_18]; rfl
          have hno : ¬ (m.2.2.2 = true ∧ gd1 m (zJ M 62 29).toInt (zJ M 62 30).toInt (zJ M 62 31).toInt) := fun z => by rw [h0s] at z; cases z.1
          refine za_iinc hc _ dM_inCorner_65 rfl ((nI_succ k).symm) (by decide) ?_
          refine za_goto 4 hc dM_inCorner_68 rfl ?_
          refine ih (k + 1) v (by omega) (fun j => (hall j).trans ⟨fun z => ⟨by omega, z.2⟩, fun z => ⟨?_, z.2⟩⟩)
          obtain ⟨z0, m2, z1, z2⟩ := z
          by_cases hjk : j = k
          · rw [hjk, hri] at z1; cases z1; exact absurd z2 hno
          · omega
        · skip
          have h1s : m.2.2.2 = true := by rw [hs, (hH.2.2.2 k).resolve_left h_18]; rfl
          refine za_aload_n hc dM_inCorner_21 rfl ?_
          refine za_getA hc gfM_54 zob_62 (p := 77) rfl dM_inCorner_22 ?_
          refine za_iload_n hc dM_inCorner_25 rfl ?_
          refine zm_lald hc (by assumption) dM_inCorner_26 (by omega) (by decide) ?_
          refine za_aload_n hc dM_inCorner_27 rfl ?_
          refine za_getJ hc gfM_86 zob_62 dM_inCorner_28 ?_
          refine za_lmul hc dM_inCorner_31 ?_
          refine za_aload_n hc dM_inCorner_32 rfl ?_
          refine za_getA hc gfM_57 zob_62 (p := 78) rfl dM_inCorner_33 ?_
          refine za_iload_n hc dM_inCorner_36 rfl ?_
          refine zm_lald hc (by assumption) dM_inCorner_37 (by omega) (by decide) ?_
          refine za_aload_n hc dM_inCorner_38 rfl ?_
          refine za_getJ hc gfM_89 zob_62 dM_inCorner_39 ?_
          refine za_lmul hc dM_inCorner_42 ?_
          refine za_ladd hc dM_inCorner_43 ?_
          refine za_aload_n hc dM_inCorner_44 rfl ?_
          refine za_getA hc gfM_60 zob_62 (p := 79) rfl dM_inCorner_45 ?_
          refine za_iload_n hc dM_inCorner_48 rfl ?_
          refine zm_lald hc (by assumption) dM_inCorner_49 (by omega) (by decide) ?_
          refine za_aload_n hc dM_inCorner_50 rfl ?_
          refine za_getJ hc gfM_82 zob_62 dM_inCorner_51 ?_
          refine za_lmul hc dM_inCorner_54 ?_
          refine za_lcmp_ge 65 hc dM_inCorner_55 dM_inCorner_56 rfl (fun h_55 => ?_) (fun h_55 => ?_)
          · skip
            have hno : ¬ (m.2.2.2 = true ∧ gd1 m (zJ M 62 29).toInt (zJ M 62 30).toInt (zJ M 62 31).toInt) := fun z => by
              have := Int64.le_iff_toInt_le.mp h_55
              rw [e1, e2] at this
              have := z.2; unfold gd1 at this; omega
            refine za_iinc hc _ dM_inCorner_65 rfl ((nI_succ k).symm) (by decide) ?_
            refine za_goto 4 hc dM_inCorner_68 rfl ?_
            refine ih (k + 1) v (by omega) (fun j => (hall j).trans ⟨fun z => ⟨by omega, z.2⟩, fun z => ⟨?_, z.2⟩⟩)
            obtain ⟨z0, m2, z1, z2⟩ := z
            by_cases hjk : j = k
            · rw [hjk, hri] at z1; cases z1; exact absurd z2 hno
            · omega
          · skip
            have hyes : m.2.2.2 = true ∧ gd1 m (zJ M 62 29).toInt (zJ M 62 30).toInt (zJ M 62 31).toInt := ⟨h1s, by
              have h3 : ¬ (_ : Int) ≤ _ := fun z => h_55 (Int64.le_iff_toInt_le.mpr z)
              rw [e1, e2] at h3
              unfold gd1; omega⟩
            refine za_lload_n hc dM_inCorner_59 rfl ?_
            refine za_lconst hc 1 dM_inCorner_60 rfl ?_
            refine za_iload_n hc dM_inCorner_61 rfl ?_
            refine za_lshl hc dM_inCorner_62 ?_
            refine za_lor hc dM_inCorner_63 ?_
            refine za_lstore_n hc dM_inCorner_64 (by decide) ?_
            refine za_iinc hc _ dM_inCorner_65 rfl ((nI_succ k).symm) (by decide) ?_
            refine za_goto 4 hc dM_inCorner_68 rfl ?_
            refine ih (k + 1) _ (by omega) (fun j => ?_)
            rw [lb_or, lb_one (by omega), Bool.or_eq_true, hall j, decide_eq_true_iff]
            constructor
            · rintro (z | z)
              · exact ⟨by omega, z.2⟩
              · exact ⟨by omega, m, by rw [z]; exact hri, hyes⟩
            · rintro ⟨z0, m2, z1⟩
              by_cases hjk : j = k
              · exact Or.inr hjk
              · exact Or.inl ⟨by omega, m2, z1⟩
  refine za_lconst hc 0 dM_inCorner_0 rfl ?_
  refine za_lstore_n hc dM_inCorner_1 (by decide) ?_
  refine za_iconst hc 0 dM_inCorner_2 rfl ?_
  refine za_istore_n hc dM_inCorner_3 (by decide) ?_
  exact loop ls.length 0 0 (by omega) (fun j => ⟨fun z => (by rw [lb_zero] at z; cases z), fun z => absurd z.1 (by omega)⟩)

set_option maxRecDepth 100000 in
set_option maxHeartbeats 4000000 in
theorem cM_inWay_ (l : Launch) {ls : List gC} (M : zM) (hH : qH M ls) (hB : ∀ q ∈ ls, gBd 10000 q) (hX : (-200000000 ≤ (zJ M 62 32).toInt ∧ (zJ M 62 32).toInt ≤ 200000000)) (hY : (-200000000 ≤ (zJ M 62 33).toInt ∧ (zJ M 62 33).toInt ≤ 200000000)) : zMet l mM_inWay rM_inWay [.ref 62] M (zql (fun r M' => (∀ k, lb r k = true ↔ ∃ m, ls[k]? = some m ∧ m.2.2.2 = true ∧ m.1 * (zJ M 62 32).toInt + m.2.1 * (zJ M 62 33).toInt < 0) ∧ M' = M)) := by
  refine za_enter (by decide) (Nat.le_of_ble_eq_true rfl) (fun X hc => ?_)
  have a77 := ar_77
  have a78 := ar_78
  have a79 := ar_79
  have a80 := ar_80
  have hl := hH.2.1
  have loop : ∀ n k (v : Int64), n + k = ls.length → (∀ j, lb v j = true ↔ j < k ∧ ∃ m, ls[j]? = some m ∧ m.2.2.2 = true ∧ m.1 * (zJ M 62 32).toInt + m.2.1 * (zJ M 62 33).toInt < 0) → zW X (zql (fun r M' => (∀ k, lb r k = true ↔ ∃ m, ls[k]? = some m ∧ m.2.2.2 = true ∧ m.1 * (zJ M 62 32).toInt + m.2.1 * (zJ M 62 33).toInt < 0) ∧ M' = M)) (0, 0) 4 [(0, .ref 62), (1, .long v), (3, .int (nI k))] [] M := by
    intro n
    induction n with
    | zero =>
      intro k v hn hall
      refine za_iload_n hc dM_inWay_4 rfl ?_
      refine za_aload_n hc dM_inWay_5 rfl ?_
      refine za_getI hc gfM_73 zob_62 dM_inWay_6 ?_
      rw [hH.1]
      refine za_icmp_ge 61 hc dM_inWay_9 rfl (fun h_9 => ?_) (fun h_9 => ?_)
      · skip
        refine za_lload_n hc dM_inWay_61 rfl ?_
        exact za_lret hc rfl dM_inWay_62 ⟨Nat.zero_le _, Nat.zero_le _⟩ (⟨_, rfl, fun j => (hall j).trans ⟨fun z => z.2, fun ⟨m, z1, z2⟩ => ⟨by have := (List.getElem?_eq_some_iff.mp z1).1; omega, m, z1, z2⟩⟩, rfl⟩)
      · skip
        exact absurd ((nI_leI (by omega) (by omega)).mpr (show ls.length ≤ k by omega)) h_9
    | succ n ih =>
      intro k v hn hall
      have hri := List.getElem?_eq_getElem (l := ls) (show k < ls.length by omega)
      generalize hme : ls[k] = m at hri
      have dk := hH.2.2.1 k m hri
      have hs : m.2.2.2 = (zI M 80 k == 1) := by rw [← dk]; rfl
      have bk := hB m (List.mem_of_getElem? hri)
      have bk2 : gBd 10000 (dg M 76 k) := by rw [dk]; exact bk
      have e1 : (zJ M 77 k * (zJ M 62 32) + zJ M 78 k * (zJ M 62 33)).toInt = m.1 * (zJ M 62 32).toInt + m.2.1 * (zJ M 62 33).toInt := by rw [← dk]; exact l_lin bk2.1 bk2.2.1 hX hY
      refine za_iload_n hc dM_inWay_4 rfl ?_
      refine za_aload_n hc dM_inWay_5 rfl ?_
      refine za_getI hc gfM_73 zob_62 dM_inWay_6 ?_
      rw [hH.1]
      refine za_icmp_ge 61 hc dM_inWay_9 rfl (fun h_9 => ?_) (fun h_9 => ?_)
      · skip
        exact absurd ((nI_leI (by omega) (by omega)).mp h_9) (by omega)
      · skip
        refine za_aload_n hc dM_inWay_12 rfl ?_
        refine za_getA hc gfM_63 zob_62 (p := 80) rfl dM_inWay_13 ?_
        refine za_iload_n hc dM_inWay_16 rfl ?_
        refine zm_zald hc (by assumption) dM_inWay_17 (by omega) (by decide) ?_
        refine za_if_eq 55 hc dM_inWay_18 rfl (fun h_18 => ?_) (fun h_18 => ?_)
        · skip
          have h0s : m.2.2.2 = false := by rw [hs, h_18]; rfl
          have hno : ¬ (m.2.2.2 = true ∧ m.1 * (zJ M 62 32).toInt + m.2.1 * (zJ M 62 33).toInt < 0) := fun z => by rw [h0s] at z; cases z.1
          refine za_iinc hc _ dM_inWay_55 rfl ((nI_succ k).symm) (by decide) ?_
          refine za_goto 4 hc dM_inWay_58 rfl ?_
          refine ih (k + 1) v (by omega) (fun j => (hall j).trans ⟨fun z => ⟨by omega, z.2⟩, fun z => ⟨?_, z.2⟩⟩)
          obtain ⟨z0, m2, z1, z2⟩ := z
          by_cases hjk : j = k
          · rw [hjk, hri] at z1; cases z1; exact absurd z2 hno
          · omega
        · skip
          have h1s : m.2.2.2 = true := by rw [hs, (hH.2.2.2 k).resolve_left h_18]; rfl
          refine za_aload_n hc dM_inWay_21 rfl ?_
          refine za_getA hc gfM_54 zob_62 (p := 77) rfl dM_inWay_22 ?_
          refine za_iload_n hc dM_inWay_25 rfl ?_
          refine zm_lald hc (by assumption) dM_inWay_26 (by omega) (by decide) ?_
          refine za_aload_n hc dM_inWay_27 rfl ?_
          refine za_getJ hc gfM_92 zob_62 dM_inWay_28 ?_
          refine za_lmul hc dM_inWay_31 ?_
          refine za_aload_n hc dM_inWay_32 rfl ?_
          refine za_getA hc gfM_57 zob_62 (p := 78) rfl dM_inWay_33 ?_
          refine za_iload_n hc dM_inWay_36 rfl ?_
          refine zm_lald hc (by assumption) dM_inWay_37 (by omega) (by decide) ?_
          refine za_aload_n hc dM_inWay_38 rfl ?_
          refine za_getJ hc gfM_95 zob_62 dM_inWay_39 ?_
          refine za_lmul hc dM_inWay_42 ?_
          refine za_ladd hc dM_inWay_43 ?_
          refine za_lconst hc 0 dM_inWay_44 rfl ?_
          refine za_lcmp_ge 55 hc dM_inWay_45 dM_inWay_46 rfl (fun h_45 => ?_) (fun h_45 => ?_)
          · skip
            have hno : ¬ (m.2.2.2 = true ∧ m.1 * (zJ M 62 32).toInt + m.2.1 * (zJ M 62 33).toInt < 0) := fun z => by
              have h3 : (0 : Int) ≤ _ := Int64.le_iff_toInt_le.mp h_45
              rw [e1] at h3
              omega
            refine za_iinc hc _ dM_inWay_55 rfl ((nI_succ k).symm) (by decide) ?_
            refine za_goto 4 hc dM_inWay_58 rfl ?_
            refine ih (k + 1) v (by omega) (fun j => (hall j).trans ⟨fun z => ⟨by omega, z.2⟩, fun z => ⟨?_, z.2⟩⟩)
            obtain ⟨z0, m2, z1, z2⟩ := z
            by_cases hjk : j = k
            · rw [hjk, hri] at z1; cases z1; exact absurd z2 hno
            · omega
          · skip
            have hyes : m.2.2.2 = true ∧ m.1 * (zJ M 62 32).toInt + m.2.1 * (zJ M 62 33).toInt < 0 := ⟨h1s, by
              have h3 : ¬ (0 : Int) ≤ _ := fun z => h_45 (Int64.le_iff_toInt_le.mpr z)
              rw [e1] at h3
              omega⟩
            refine za_lload_n hc dM_inWay_49 rfl ?_
            refine za_lconst hc 1 dM_inWay_50 rfl ?_
            refine za_iload_n hc dM_inWay_51 rfl ?_
            refine za_lshl hc dM_inWay_52 ?_
            refine za_lor hc dM_inWay_53 ?_
            refine za_lstore_n hc dM_inWay_54 (by decide) ?_
            refine za_iinc hc _ dM_inWay_55 rfl ((nI_succ k).symm) (by decide) ?_
            refine za_goto 4 hc dM_inWay_58 rfl ?_
            refine ih (k + 1) _ (by omega) (fun j => ?_)
            rw [lb_or, lb_one (by omega), Bool.or_eq_true, hall j, decide_eq_true_iff]
            constructor
            · rintro (z | z)
              · exact ⟨by omega, z.2⟩
              · exact ⟨by omega, m, by rw [z]; exact hri, hyes⟩
            · rintro ⟨z0, m2, z1⟩
              by_cases hjk : j = k
              · exact Or.inr hjk
              · exact Or.inl ⟨by omega, m2, z1⟩
  refine za_lconst hc 0 dM_inWay_0 rfl ?_
  refine za_lstore_n hc dM_inWay_1 (by decide) ?_
  refine za_iconst hc 0 dM_inWay_2 rfl ?_
  refine za_istore_n hc dM_inWay_3 (by decide) ?_
  exact loop ls.length 0 0 (by omega) (fun j => ⟨fun z => (by rw [lb_zero] at z; cases z), fun z => absurd z.1 (by omega)⟩)

set_option maxRecDepth 100000 in
set_option maxHeartbeats 4000000 in
theorem cM_corner_ (l : Launch) {ls : List gC} {p q : gC} {i j : Nat} (M : zM) (hH : qH M ls) (hB : ∀ q ∈ ls, gBd 10000 q) (hp : ls[i]? = some p) (hq : ls[j]? = some q) : zMet l mM_corner rM_corner [.ref 62, .int (nI i), .int (nI j)] M (zqi (fun x M' => (x = 0 ∨ x = 1) ∧ (gcr p q = 0 → x = 0) ∧ (gcr p q ≠ 0 → gAt p q (zJ M' 62 29).toInt (zJ M' 62 30).toInt (zJ M' 62 31).toInt ∧ (x = 1 ↔ ∀ m ∈ ls, gd2 m (zJ M' 62 29).toInt (zJ M' 62 30).toInt (zJ M' 62 31).toInt)) ∧ mK [29, 30, 31] M M' ∧ zfr m62 M M')) := by
  refine za_enter (by decide) (Nat.le_of_ble_eq_true rfl) (fun X hc => ?_)
  have a77 := ar_77
  have a78 := ar_78
  have a79 := ar_79
  have a80 := ar_80
  have hl := hH.2.1
  have hpm := List.mem_of_getElem? hp
  have hqm := List.mem_of_getElem? hq
  have hil := (List.getElem?_eq_some_iff.mp hp).1
  have hjl := (List.getElem?_eq_some_iff.mp hq).1
  have di := hH.2.2.1 i p hp
  have dj := hH.2.2.1 j q hq
  have bi : gBd 10000 (dg M 76 i) := by rw [di]; exact hB p hpm
  have bj : gBd 10000 (dg M 76 j) := by rw [dj]; exact hB q hqm
  have LOOP : ∀ (M1 : zM) (d w : Int64), gcr p q ≠ 0 → gAt p q (zJ M1 62 29).toInt (zJ M1 62 30).toInt (zJ M1 62 31).toInt → mK [29, 30, 31] M M1 → zfr m62 M M1 → zW X (zqi (fun x M' => (x = 0 ∨ x = 1) ∧ (gcr p q = 0 → x = 0) ∧ (gcr p q ≠ 0 → gAt p q (zJ M' 62 29).toInt (zJ M' 62 30).toInt (zJ M' 62 31).toInt ∧ (x = 1 ↔ ∀ m ∈ ls, gd2 m (zJ M' 62 29).toInt (zJ M' 62 30).toInt (zJ M' 62 31).toInt)) ∧ mK [29, 30, 31] M M' ∧ zfr m62 M M')) (0, 0) 112 [(0, .ref 62), (1, .int (nI i)), (2, .int (nI j)), (3, .long d), (5, .long w), (7, .int 1), (8, .int (nI 0))] [] M1 := by
    intro M1 d w hg hat hk1 hf1
    have hH1 : qH M1 ls := qH_62 hH hf1 (hk1 19 (by decide)).1
    have hX := hat.2.1
    have hY := hat.2.2.1
    have hD : (-200000000 ≤ (zJ M1 62 31).toInt ∧ (zJ M1 62 31).toInt ≤ 200000000) := by have := hat.1; omega
    have loop : ∀ n k (v : Int32), n + k = ls.length → (v = 0 ∨ v = 1) → (v = 1 ↔ ∀ j q, j < k → ls[j]? = some q → gd2 q (zJ M1 62 29).toInt (zJ M1 62 30).toInt (zJ M1 62 31).toInt) → zW X (zqi (fun x M' => (x = 0 ∨ x = 1) ∧ (gcr p q = 0 → x = 0) ∧ (gcr p q ≠ 0 → gAt p q (zJ M' 62 29).toInt (zJ M' 62 30).toInt (zJ M' 62 31).toInt ∧ (x = 1 ↔ ∀ m ∈ ls, gd2 m (zJ M' 62 29).toInt (zJ M' 62 30).toInt (zJ M' 62 31).toInt)) ∧ mK [29, 30, 31] M M' ∧ zfr m62 M M')) (0, 0) 112 [(0, .ref 62), (1, .int (nI i)), (2, .int (nI j)), (3, .long d), (5, .long w), (7, .int v), (8, .int (nI k))] [] M1 := by
      intro n
      induction n with
      | zero =>
        intro k v hn hv hall
        refine za_iload hc dM_corner_112 rfl ?_
        refine za_aload_n hc dM_corner_114 rfl ?_
        refine za_getI hc gfM_73 zob_62 dM_corner_115 ?_
        rw [hH1.1]
        refine za_icmp_ge 180 hc dM_corner_118 rfl (fun h_118 => ?_) (fun h_118 => ?_)
        · skip
          refine za_iload hc dM_corner_180 rfl ?_
          exact za_zret hc rfl (by rcases hv with z | z <;> rw [z] <;> rfl) dM_corner_182 ⟨Nat.zero_le _, Nat.zero_le _⟩ (⟨_, rfl, hv, (fun z => absurd z hg), (fun _ => ⟨hat, hall.trans ⟨fun h q hq => by
        obtain ⟨j, hj⟩ := List.getElem?_of_mem hq
        exact h j q (by have := (List.getElem?_eq_some_iff.mp hj).1; omega) hj, fun h j q _ hj => h q (List.mem_of_getElem? hj)⟩⟩), hk1, hf1⟩)
        · skip
          exact absurd ((nI_leI (by omega) (by omega)).mpr (show ls.length ≤ k by omega)) h_118
      | succ n ih =>
        intro k v hn hv hall
        have hri := List.getElem?_eq_getElem (l := ls) (show k < ls.length by omega)
        generalize hme : ls[k] = m at hri
        have dk := hH1.2.2.1 k m hri
        have bk := hB m (List.mem_of_getElem? hri)
        have bk2 : gBd 10000 (dg M1 76 k) := by rw [dk]; exact bk
        have e1 : (zJ M1 77 k * (zJ M1 62 29) + zJ M1 78 k * (zJ M1 62 30)).toInt = m.1 * (zJ M1 62 29).toInt + m.2.1 * (zJ M1 62 30).toInt := by rw [← dk]; exact l_lin bk2.1 bk2.2.1 hX hY
        have e2 : (zJ M1 79 k * (zJ M1 62 31)).toInt = m.2.2.1 * (zJ M1 62 31).toInt := by rw [← dk]; exact l_one bk2.2.2 hD
        refine za_iload hc dM_corner_112 rfl ?_
        refine za_aload_n hc dM_corner_114 rfl ?_
        refine za_getI hc gfM_73 zob_62 dM_corner_115 ?_
        rw [hH1.1]
        refine za_icmp_ge 180 hc dM_corner_118 rfl (fun h_118 => ?_) (fun h_118 => ?_)
        · skip
          exact absurd ((nI_leI (by omega) (by omega)).mp h_118) (by omega)
        · skip
          refine za_iload hc dM_corner_121 rfl ?_
          refine za_if_eq 180 hc dM_corner_123 rfl (fun h_123 => ?_) (fun h_123 => ?_)
          · skip
            subst h_123
            have hne : ¬ ∀ q ∈ ls, gd2 q (zJ M1 62 29).toInt (zJ M1 62 30).toInt (zJ M1 62 31).toInt := fun h => absurd (hall.mpr (fun j q _ hj => h q (List.mem_of_getElem? hj))) (by decide)
            refine za_iload hc dM_corner_180 rfl ?_
            exact za_zret hc rfl (by rcases hv with z | z <;> rw [z] <;> rfl) dM_corner_182 ⟨Nat.zero_le _, Nat.zero_le _⟩ (⟨_, rfl, (Or.inl rfl), (fun z => absurd z hg), (fun _ => ⟨hat, ⟨fun z => absurd z (by decide), fun z => absurd z hne⟩⟩), hk1, hf1⟩)
          · skip
            have hv1 : v = 1 := hv.resolve_left h_123
            refine za_aload_n hc dM_corner_126 rfl ?_
            refine za_getA hc gfM_54 zob_62 (p := 77) rfl dM_corner_127 ?_
            refine za_iload hc dM_corner_130 rfl ?_
            refine zm_lald hc (by assumption) dM_corner_132 (by omega) (by decide) ?_
            refine za_aload_n hc dM_corner_133 rfl ?_
            refine za_getJ hc gfM_86 zob_62 dM_corner_134 ?_
            refine za_lmul hc dM_corner_137 ?_
            refine za_aload_n hc dM_corner_138 rfl ?_
            refine za_getA hc gfM_57 zob_62 (p := 78) rfl dM_corner_139 ?_
            refine za_iload hc dM_corner_142 rfl ?_
            refine zm_lald hc (by assumption) dM_corner_144 (by omega) (by decide) ?_
            refine za_aload_n hc dM_corner_145 rfl ?_
            refine za_getJ hc gfM_89 zob_62 dM_corner_146 ?_
            refine za_lmul hc dM_corner_149 ?_
            refine za_ladd hc dM_corner_150 ?_
            refine za_aload_n hc dM_corner_151 rfl ?_
            refine za_getA hc gfM_60 zob_62 (p := 79) rfl dM_corner_152 ?_
            refine za_iload hc dM_corner_155 rfl ?_
            refine zm_lald hc (by assumption) dM_corner_157 (by omega) (by decide) ?_
            refine za_aload_n hc dM_corner_158 rfl ?_
            refine za_getJ hc gfM_82 zob_62 dM_corner_159 ?_
            refine za_lmul hc dM_corner_162 ?_
            refine za_lcmp_gt 171 hc dM_corner_163 dM_corner_164 rfl (fun h_163 => ?_) (fun h_163 => ?_)
            · skip
              have c1 : ¬ gd2 m (zJ M1 62 29).toInt (zJ M1 62 30).toInt (zJ M1 62 31).toInt := fun z => by
                have := Int64.lt_iff_toInt_lt.mp h_163
                rw [e1, e2] at this
                unfold gd2 at z; omega
              refine za_iconst hc 0 dM_corner_171 rfl ?_
              refine za_istore hc dM_corner_172 (by decide) ?_
              refine za_iinc hc _ dM_corner_174 rfl ((nI_succ k).symm) (by decide) ?_
              refine za_goto 112 hc dM_corner_177 rfl ?_
              refine ih (k + 1) _ (by omega) (by first | exact Or.inl rfl | exact Or.inr rfl) ?_
              constructor
              · intro z j q hj hq
                by_cases c : j = k
                · rw [c, hri] at hq
                  first | exact absurd z (by decide) | (cases hq; exact c1)
                · exact hall.mp hv1 j q (by omega) hq
              · intro h
                first | rfl | exact absurd (h k m (by omega) hri) c1
            · skip
              have c1 : gd2 m (zJ M1 62 29).toInt (zJ M1 62 30).toInt (zJ M1 62 31).toInt := by
                have h3 : ¬ (_ : Int) < _ := fun z => h_163 (Int64.lt_iff_toInt_lt.mpr z)
                rw [e1, e2] at h3
                unfold gd2; exact Int.not_lt.mp h3
              refine za_iconst hc 1 dM_corner_167 rfl ?_
              refine za_goto 172 hc dM_corner_168 rfl ?_
              refine za_istore hc dM_corner_172 (by decide) ?_
              refine za_iinc hc _ dM_corner_174 rfl ((nI_succ k).symm) (by decide) ?_
              refine za_goto 112 hc dM_corner_177 rfl ?_
              refine ih (k + 1) _ (by omega) (by first | exact Or.inl rfl | exact Or.inr rfl) ?_
              constructor
              · intro z j q hj hq
                by_cases c : j = k
                · rw [c, hri] at hq
                  first | exact absurd z (by decide) | (cases hq; exact c1)
                · exact hall.mp hv1 j q (by omega) hq
              · intro h
                first | rfl | exact absurd (h k m (by omega) hri) c1
    exact loop ls.length 0 1 (by omega) (Or.inr rfl) ⟨fun _ j q h => absurd h (by omega), fun _ => rfl⟩
  have t1 := l_mmL (B := 10000) (by decide) bi.2.2 bj.2.1 bj.2.2 bi.2.1
  have t2 := l_mmL (B := 10000) (by decide) bi.1 bj.2.2 bj.1 bi.2.2
  have t3 : -200000000 ≤ gcr p q ∧ gcr p q ≤ 200000000 := by have := (l_mmL (B := 10000) (by decide) bi.1 bj.2.1 bj.1 bi.2.1).2; rw [← di, ← dj]; exact ⟨this.1, this.2⟩
  refine za_aload_n hc dM_corner_0 rfl ?_
  refine za_iload_n hc dM_corner_1 rfl ?_
  refine za_iload_n hc dM_corner_2 rfl ?_
  refine za_cV2l hc gsM_76 zob_62 (cM_cross_ l M (B := 10000) (i := i) (j := j) (by omega) (by omega) (by decide) bi bj) ⟨rfl, rfl⟩ ⟨Nat.le_of_ble_eq_true rfl, Nat.le_of_ble_eq_true rfl⟩ ⟨Nat.zero_le _, Nat.zero_le _⟩ dM_corner_3 (fun x_3 M_3 h_3 => ?_)
  obtain ⟨q_3, hm_3⟩ := h_3
  rw [hm_3]
  rw [di, dj] at q_3
  refine za_lstore_n hc dM_corner_6 (by decide) ?_
  refine za_lload_n hc dM_corner_7 rfl ?_
  refine za_lconst hc 0 dM_corner_8 rfl ?_
  refine za_lcmp_ne 15 hc dM_corner_9 dM_corner_10 rfl (fun h_9 => ?_) (fun h_9 => ?_)
  · skip
    have hne : ¬ gcr p q = 0 := by rw [← q_3]; exact fun z => h_9 (Int64.toInt_inj.mp z)
    refine za_lload_n hc dM_corner_15 rfl ?_
    refine za_lconst hc 0 dM_corner_16 rfl ?_
    refine za_lcmp_ge 27 hc dM_corner_17 dM_corner_18 rfl (fun h_17 => ?_) (fun h_17 => ?_)
    · skip
      have hpos : 0 ≤ gcr p q := by rw [← q_3]; exact Int64.le_iff_toInt_le.mp h_17
      refine za_lconst hc 1 dM_corner_27 rfl ?_
      refine za_lstore hc dM_corner_28 (by decide) ?_
      refine za_aload_n hc dM_corner_30 rfl ?_
      refine za_lload_n hc dM_corner_31 rfl ?_
      refine za_lload hc dM_corner_32 rfl ?_
      refine za_lmul hc dM_corner_34 ?_
      refine za_putJ hc gpM_82 zob_62 dM_corner_35 ?_
      refine za_aload_n hc dM_corner_38 rfl ?_
      refine za_aload_n hc dM_corner_39 rfl ?_
      refine za_getA hc gfM_60 zob_62 (p := 79) rfl dM_corner_40 ?_
      refine za_iload_n hc dM_corner_43 rfl ?_
      refine zm_lald hc (by assumption) dM_corner_44 (by omega) (by decide) ?_
      rw [zJ_o (by decide)]
      refine za_aload_n hc dM_corner_45 rfl ?_
      refine za_getA hc gfM_57 zob_62 (p := 78) rfl dM_corner_46 ?_
      refine za_iload_n hc dM_corner_49 rfl ?_
      refine zm_lald hc (by assumption) dM_corner_50 (by omega) (by decide) ?_
      rw [zJ_o (by decide)]
      refine za_lmul hc dM_corner_51 ?_
      refine za_aload_n hc dM_corner_52 rfl ?_
      refine za_getA hc gfM_60 zob_62 (p := 79) rfl dM_corner_53 ?_
      refine za_iload_n hc dM_corner_56 rfl ?_
      refine zm_lald hc (by assumption) dM_corner_57 (by omega) (by decide) ?_
      rw [zJ_o (by decide)]
      refine za_aload_n hc dM_corner_58 rfl ?_
      refine za_getA hc gfM_57 zob_62 (p := 78) rfl dM_corner_59 ?_
      refine za_iload_n hc dM_corner_62 rfl ?_
      refine zm_lald hc (by assumption) dM_corner_63 (by omega) (by decide) ?_
      rw [zJ_o (by decide)]
      refine za_lmul hc dM_corner_64 ?_
      refine za_lsub hc dM_corner_65 ?_
      refine za_lload hc dM_corner_66 rfl ?_
      refine za_lmul hc dM_corner_68 ?_
      refine za_putJ hc gpM_86 zob_62 dM_corner_69 ?_
      refine za_aload_n hc dM_corner_72 rfl ?_
      refine za_aload_n hc dM_corner_73 rfl ?_
      refine za_getA hc gfM_54 zob_62 (p := 77) rfl dM_corner_74 ?_
      refine za_iload_n hc dM_corner_77 rfl ?_
      refine zm_lald hc (by assumption) dM_corner_78 (by omega) (by decide) ?_
      rw [zJ_o (by decide), zJ_o (by decide)]
      refine za_aload_n hc dM_corner_79 rfl ?_
      refine za_getA hc gfM_60 zob_62 (p := 79) rfl dM_corner_80 ?_
      refine za_iload_n hc dM_corner_83 rfl ?_
      refine zm_lald hc (by assumption) dM_corner_84 (by omega) (by decide) ?_
      rw [zJ_o (by decide), zJ_o (by decide)]
      refine za_lmul hc dM_corner_85 ?_
      refine za_aload_n hc dM_corner_86 rfl ?_
      refine za_getA hc gfM_54 zob_62 (p := 77) rfl dM_corner_87 ?_
      refine za_iload_n hc dM_corner_90 rfl ?_
      refine zm_lald hc (by assumption) dM_corner_91 (by omega) (by decide) ?_
      rw [zJ_o (by decide), zJ_o (by decide)]
      refine za_aload_n hc dM_corner_92 rfl ?_
      refine za_getA hc gfM_60 zob_62 (p := 79) rfl dM_corner_93 ?_
      refine za_iload_n hc dM_corner_96 rfl ?_
      refine zm_lald hc (by assumption) dM_corner_97 (by omega) (by decide) ?_
      rw [zJ_o (by decide), zJ_o (by decide)]
      refine za_lmul hc dM_corner_98 ?_
      refine za_lsub hc dM_corner_99 ?_
      refine za_lload hc dM_corner_100 rfl ?_
      refine za_lmul hc dM_corner_102 ?_
      refine za_putJ hc gpM_89 zob_62 dM_corner_103 ?_
      refine za_iconst hc 1 dM_corner_106 rfl ?_
      refine za_istore hc dM_corner_107 (by decide) ?_
      refine za_iconst hc 0 dM_corner_109 rfl ?_
      refine za_istore hc dM_corner_110 (by decide) ?_
      have hgne : gcr p q ≠ 0 := hne
      have s1 := l_sg (d := x_3) (1) (1) rfl (by decide) (by rw [q_3]; exact t3)
      have s2 := l_sg (d := zJ M 79 i * zJ M 78 j - zJ M 79 j * zJ M 78 i) (1) (1) rfl (by decide) (by rw [t1.1]; exact ⟨t1.2.1, t1.2.2⟩)
      have s3 := l_sg (d := zJ M 77 i * zJ M 79 j - zJ M 77 j * zJ M 79 i) (1) (1) rfl (by decide) (by rw [t2.1]; exact ⟨t2.2.1, t2.2.2⟩)
      rw [q_3] at s1
      rw [t1.1] at s2
      rw [t2.1] at s3
      refine LOOP _ _ _ hgne ?_ ((mK_sJ (by decide)).tr ((mK_sJ (by decide)).tr (mK_sJ (by decide)))) ((zfr_sJ (P := m62) rfl).tr ((zfr_sJ (P := m62) rfl).tr (zfr_sJ (P := m62) rfl)))
      rw [zJ_s, if_neg (by decide), zJ_s, if_pos rfl, zJ_s, if_pos rfl, zJ_s, if_neg (by decide), zJ_s, if_neg (by decide), zJ_s, if_pos rfl]
      rw [s1.1, s2.1, s3.1]
      refine ⟨⟨g_sgp hpos hne, s1.2.2⟩, s2.2, s3.2, ?_, ?_⟩
      · rw [← di, ← dj]; exact g_atp _ _ _ _ _ _ _
      · rw [← di, ← dj]; exact g_atq _ _ _ _ _ _ _
    · skip
      have hneg : ¬ 0 ≤ gcr p q := by rw [← q_3]; exact fun z => h_17 (Int64.le_iff_toInt_le.mpr z)
      refine za_ldc2 hc _ dM_corner_21 jlM_80 ?_
      refine za_goto 28 hc dM_corner_24 rfl ?_
      refine za_lstore hc dM_corner_28 (by decide) ?_
      refine za_aload_n hc dM_corner_30 rfl ?_
      refine za_lload_n hc dM_corner_31 rfl ?_
      refine za_lload hc dM_corner_32 rfl ?_
      refine za_lmul hc dM_corner_34 ?_
      refine za_putJ hc gpM_82 zob_62 dM_corner_35 ?_
      refine za_aload_n hc dM_corner_38 rfl ?_
      refine za_aload_n hc dM_corner_39 rfl ?_
      refine za_getA hc gfM_60 zob_62 (p := 79) rfl dM_corner_40 ?_
      refine za_iload_n hc dM_corner_43 rfl ?_
      refine zm_lald hc (by assumption) dM_corner_44 (by omega) (by decide) ?_
      rw [zJ_o (by decide)]
      refine za_aload_n hc dM_corner_45 rfl ?_
      refine za_getA hc gfM_57 zob_62 (p := 78) rfl dM_corner_46 ?_
      refine za_iload_n hc dM_corner_49 rfl ?_
      refine zm_lald hc (by assumption) dM_corner_50 (by omega) (by decide) ?_
      rw [zJ_o (by decide)]
      refine za_lmul hc dM_corner_51 ?_
      refine za_aload_n hc dM_corner_52 rfl ?_
      refine za_getA hc gfM_60 zob_62 (p := 79) rfl dM_corner_53 ?_
      refine za_iload_n hc dM_corner_56 rfl ?_
      refine zm_lald hc (by assumption) dM_corner_57 (by omega) (by decide) ?_
      rw [zJ_o (by decide)]
      refine za_aload_n hc dM_corner_58 rfl ?_
      refine za_getA hc gfM_57 zob_62 (p := 78) rfl dM_corner_59 ?_
      refine za_iload_n hc dM_corner_62 rfl ?_
      refine zm_lald hc (by assumption) dM_corner_63 (by omega) (by decide) ?_
      rw [zJ_o (by decide)]
      refine za_lmul hc dM_corner_64 ?_
      refine za_lsub hc dM_corner_65 ?_
      refine za_lload hc dM_corner_66 rfl ?_
      refine za_lmul hc dM_corner_68 ?_
      refine za_putJ hc gpM_86 zob_62 dM_corner_69 ?_
      refine za_aload_n hc dM_corner_72 rfl ?_
      refine za_aload_n hc dM_corner_73 rfl ?_
      refine za_getA hc gfM_54 zob_62 (p := 77) rfl dM_corner_74 ?_
      refine za_iload_n hc dM_corner_77 rfl ?_
      refine zm_lald hc (by assumption) dM_corner_78 (by omega) (by decide) ?_
      rw [zJ_o (by decide), zJ_o (by decide)]
      refine za_aload_n hc dM_corner_79 rfl ?_
      refine za_getA hc gfM_60 zob_62 (p := 79) rfl dM_corner_80 ?_
      refine za_iload_n hc dM_corner_83 rfl ?_
      refine zm_lald hc (by assumption) dM_corner_84 (by omega) (by decide) ?_
      rw [zJ_o (by decide), zJ_o (by decide)]
      refine za_lmul hc dM_corner_85 ?_
      refine za_aload_n hc dM_corner_86 rfl ?_
      refine za_getA hc gfM_54 zob_62 (p := 77) rfl dM_corner_87 ?_
      refine za_iload_n hc dM_corner_90 rfl ?_
      refine zm_lald hc (by assumption) dM_corner_91 (by omega) (by decide) ?_
      rw [zJ_o (by decide), zJ_o (by decide)]
      refine za_aload_n hc dM_corner_92 rfl ?_
      refine za_getA hc gfM_60 zob_62 (p := 79) rfl dM_corner_93 ?_
      refine za_iload_n hc dM_corner_96 rfl ?_
      refine zm_lald hc (by assumption) dM_corner_97 (by omega) (by decide) ?_
      rw [zJ_o (by decide), zJ_o (by decide)]
      refine za_lmul hc dM_corner_98 ?_
      refine za_lsub hc dM_corner_99 ?_
      refine za_lload hc dM_corner_100 rfl ?_
      refine za_lmul hc dM_corner_102 ?_
      refine za_putJ hc gpM_89 zob_62 dM_corner_103 ?_
      refine za_iconst hc 1 dM_corner_106 rfl ?_
      refine za_istore hc dM_corner_107 (by decide) ?_
      refine za_iconst hc 0 dM_corner_109 rfl ?_
      refine za_istore hc dM_corner_110 (by decide) ?_
      have hgne : gcr p q ≠ 0 := hne
      have s1 := l_sg (d := x_3) (-1) (-1) rfl (by decide) (by rw [q_3]; exact t3)
      have s2 := l_sg (d := zJ M 79 i * zJ M 78 j - zJ M 79 j * zJ M 78 i) (-1) (-1) rfl (by decide) (by rw [t1.1]; exact ⟨t1.2.1, t1.2.2⟩)
      have s3 := l_sg (d := zJ M 77 i * zJ M 79 j - zJ M 77 j * zJ M 79 i) (-1) (-1) rfl (by decide) (by rw [t2.1]; exact ⟨t2.2.1, t2.2.2⟩)
      rw [q_3] at s1
      rw [t1.1] at s2
      rw [t2.1] at s3
      refine LOOP _ _ _ hgne ?_ ((mK_sJ (by decide)).tr ((mK_sJ (by decide)).tr (mK_sJ (by decide)))) ((zfr_sJ (P := m62) rfl).tr ((zfr_sJ (P := m62) rfl).tr (zfr_sJ (P := m62) rfl)))
      rw [zJ_s, if_neg (by decide), zJ_s, if_pos rfl, zJ_s, if_pos rfl, zJ_s, if_neg (by decide), zJ_s, if_neg (by decide), zJ_s, if_pos rfl]
      rw [s1.1, s2.1, s3.1]
      refine ⟨⟨g_sgn hneg, s1.2.2⟩, s2.2, s3.2, ?_, ?_⟩
      · rw [← di, ← dj]; exact g_atp _ _ _ _ _ _ _
      · rw [← di, ← dj]; exact g_atq _ _ _ _ _ _ _
  · skip
    have hz : gcr p q = 0 := by rw [← q_3, h_9]; rfl
    refine za_iconst hc 0 dM_corner_13 rfl ?_
    exact za_zret hc rfl (rfl) dM_corner_14 ⟨Nat.zero_le _, Nat.zero_le _⟩ (⟨_, rfl, Or.inl rfl, (fun _ => rfl), (fun z => absurd hz z), mK.rf, zfr.rf⟩)

def gwi (p : gC) (b : Int32) (X Y : Int) : Prop := if b = 0 then X = p.2.1 ∧ Y = -p.1 else X = -p.2.1 ∧ Y = p.1

set_option maxRecDepth 100000 in
set_option maxHeartbeats 4000000 in
theorem cM_way_ (l : Launch) {ls : List gC} {p : gC} {i : Nat} (M : zM) (b : Int32) (hH : qH M ls) (hB : ∀ q ∈ ls, gBd 10000 q) (hp : ls[i]? = some p) : zMet l mM_way rM_way [.ref 62, .int (nI i), .int b] M (zqi (fun x M' => (x = 0 ∨ x = 1) ∧ gwi p b (zJ M' 62 32).toInt (zJ M' 62 33).toInt ∧ (x = 1 ↔ ∀ m ∈ ls, m.1 * (zJ M' 62 32).toInt + m.2.1 * (zJ M' 62 33).toInt ≤ 0) ∧ mK [32, 33] M M' ∧ zfr m62 M M')) := by
  refine za_enter (by decide) (Nat.le_of_ble_eq_true rfl) (fun X hc => ?_)
  have a77 := ar_77
  have a78 := ar_78
  have a79 := ar_79
  have a80 := ar_80
  have hl := hH.2.1
  have hpm := List.mem_of_getElem? hp
  have hil := (List.getElem?_eq_some_iff.mp hp).1
  have di := hH.2.2.1 i p hp
  have bi : gBd 10000 (dg M 76 i) := by rw [di]; exact hB p hpm
  have bi1 : -10000 ≤ (zJ M 77 i).toInt ∧ (zJ M 77 i).toInt ≤ 10000 := bi.1
  have bi2 : -10000 ≤ (zJ M 78 i).toInt ∧ (zJ M 78 i).toInt ≤ 10000 := bi.2.1
  have LOOP : ∀ (M1 : zM), gwi p b (zJ M1 62 32).toInt (zJ M1 62 33).toInt → (-200000000 ≤ (zJ M1 62 32).toInt ∧ (zJ M1 62 32).toInt ≤ 200000000) → (-200000000 ≤ (zJ M1 62 33).toInt ∧ (zJ M1 62 33).toInt ≤ 200000000) → mK [32, 33] M M1 → zfr m62 M M1 → zW X (zqi (fun x M' => (x = 0 ∨ x = 1) ∧ gwi p b (zJ M' 62 32).toInt (zJ M' 62 33).toInt ∧ (x = 1 ↔ ∀ m ∈ ls, m.1 * (zJ M' 62 32).toInt + m.2.1 * (zJ M' 62 33).toInt ≤ 0) ∧ mK [32, 33] M M' ∧ zfr m62 M M')) (0, 0) 53 [(0, .ref 62), (1, .int (nI i)), (2, .int b), (3, .int 1), (4, .int (nI 0))] [] M1 := by
    intro M1 hgw hX hY hk1 hf1
    have hH1 : qH M1 ls := qH_62 hH hf1 (hk1 19 (by decide)).1
    have loop : ∀ n k (v : Int32), n + k = ls.length → (v = 0 ∨ v = 1) → (v = 1 ↔ ∀ j q, j < k → ls[j]? = some q → q.1 * (zJ M1 62 32).toInt + q.2.1 * (zJ M1 62 33).toInt ≤ 0) → zW X (zqi (fun x M' => (x = 0 ∨ x = 1) ∧ gwi p b (zJ M' 62 32).toInt (zJ M' 62 33).toInt ∧ (x = 1 ↔ ∀ m ∈ ls, m.1 * (zJ M' 62 32).toInt + m.2.1 * (zJ M' 62 33).toInt ≤ 0) ∧ mK [32, 33] M M' ∧ zfr m62 M M')) (0, 0) 53 [(0, .ref 62), (1, .int (nI i)), (2, .int b), (3, .int v), (4, .int (nI k))] [] M1 := by
      intro n
      induction n with
      | zero =>
        intro k v hn hv hall
        refine za_iload hc dM_way_53 rfl ?_
        refine za_aload_n hc dM_way_55 rfl ?_
        refine za_getI hc gfM_73 zob_62 dM_way_56 ?_
        rw [hH1.1]
        refine za_icmp_ge 108 hc dM_way_59 rfl (fun h_59 => ?_) (fun h_59 => ?_)
        · skip
          refine za_iload_n hc dM_way_108 rfl ?_
          exact za_zret hc rfl (by rcases hv with z | z <;> rw [z] <;> rfl) dM_way_109 ⟨Nat.zero_le _, Nat.zero_le _⟩ (⟨_, rfl, hv, hgw, hall.trans ⟨fun h q hq => by
        obtain ⟨j, hj⟩ := List.getElem?_of_mem hq
        exact h j q (by have := (List.getElem?_eq_some_iff.mp hj).1; omega) hj, fun h j q _ hj => h q (List.mem_of_getElem? hj)⟩, hk1, hf1⟩)
        · skip
          exact absurd ((nI_leI (by omega) (by omega)).mpr (show ls.length ≤ k by omega)) h_59
      | succ n ih =>
        intro k v hn hv hall
        have hri := List.getElem?_eq_getElem (l := ls) (show k < ls.length by omega)
        generalize hme : ls[k] = m at hri
        have dk := hH1.2.2.1 k m hri
        have bk := hB m (List.mem_of_getElem? hri)
        have bk2 : gBd 10000 (dg M1 76 k) := by rw [dk]; exact bk
        have e1 : (zJ M1 77 k * (zJ M1 62 32) + zJ M1 78 k * (zJ M1 62 33)).toInt = m.1 * (zJ M1 62 32).toInt + m.2.1 * (zJ M1 62 33).toInt := by rw [← dk]; exact l_lin bk2.1 bk2.2.1 hX hY
        refine za_iload hc dM_way_53 rfl ?_
        refine za_aload_n hc dM_way_55 rfl ?_
        refine za_getI hc gfM_73 zob_62 dM_way_56 ?_
        rw [hH1.1]
        refine za_icmp_ge 108 hc dM_way_59 rfl (fun h_59 => ?_) (fun h_59 => ?_)
        · skip
          exact absurd ((nI_leI (by omega) (by omega)).mp h_59) (by omega)
        · skip
          refine za_iload_n hc dM_way_62 rfl ?_
          refine za_if_eq 108 hc dM_way_63 rfl (fun h_63 => ?_) (fun h_63 => ?_)
          · skip
            subst h_63
            have hne : ¬ ∀ q ∈ ls, q.1 * (zJ M1 62 32).toInt + q.2.1 * (zJ M1 62 33).toInt ≤ 0 := fun h => absurd (hall.mpr (fun j q _ hj => h q (List.mem_of_getElem? hj))) (by decide)
            refine za_iload_n hc dM_way_108 rfl ?_
            exact za_zret hc rfl (by rcases hv with z | z <;> rw [z] <;> rfl) dM_way_109 ⟨Nat.zero_le _, Nat.zero_le _⟩ (⟨_, rfl, (Or.inl rfl), hgw, ⟨fun z => absurd z (by decide), fun z => absurd z hne⟩, hk1, hf1⟩)
          · skip
            have hv1 : v = 1 := hv.resolve_left h_63
            refine za_aload_n hc dM_way_66 rfl ?_
            refine za_getA hc gfM_54 zob_62 (p := 77) rfl dM_way_67 ?_
            refine za_iload hc dM_way_70 rfl ?_
            refine zm_lald hc (by assumption) dM_way_72 (by omega) (by decide) ?_
            refine za_aload_n hc dM_way_73 rfl ?_
            refine za_getJ hc gfM_92 zob_62 dM_way_74 ?_
            refine za_lmul hc dM_way_77 ?_
            refine za_aload_n hc dM_way_78 rfl ?_
            refine za_getA hc gfM_57 zob_62 (p := 78) rfl dM_way_79 ?_
            refine za_iload hc dM_way_82 rfl ?_
            refine zm_lald hc (by assumption) dM_way_84 (by omega) (by decide) ?_
            refine za_aload_n hc dM_way_85 rfl ?_
            refine za_getJ hc gfM_95 zob_62 dM_way_86 ?_
            refine za_lmul hc dM_way_89 ?_
            refine za_ladd hc dM_way_90 ?_
            refine za_lconst hc 0 dM_way_91 rfl ?_
            refine za_lcmp_gt 100 hc dM_way_92 dM_way_93 rfl (fun h_92 => ?_) (fun h_92 => ?_)
            · skip
              have c1 : ¬ m.1 * (zJ M1 62 32).toInt + m.2.1 * (zJ M1 62 33).toInt ≤ 0 := fun z => by
                have h3 : (0 : Int) < _ := Int64.lt_iff_toInt_lt.mp h_92
                rw [e1] at h3
                omega
              refine za_iconst hc 0 dM_way_100 rfl ?_
              refine za_istore_n hc dM_way_101 (by decide) ?_
              refine za_iinc hc _ dM_way_102 rfl ((nI_succ k).symm) (by decide) ?_
              refine za_goto 53 hc dM_way_105 rfl ?_
              refine ih (k + 1) _ (by omega) (by first | exact Or.inl rfl | exact Or.inr rfl) ?_
              constructor
              · intro z j q hj hq
                by_cases c : j = k
                · rw [c, hri] at hq
                  first | exact absurd z (by decide) | (cases hq; exact c1)
                · exact hall.mp hv1 j q (by omega) hq
              · intro h
                first | rfl | exact absurd (h k m (by omega) hri) c1
            · skip
              have c1 : m.1 * (zJ M1 62 32).toInt + m.2.1 * (zJ M1 62 33).toInt ≤ 0 := by
                have h3 : ¬ (0 : Int) < _ := fun z => h_92 (Int64.lt_iff_toInt_lt.mpr z)
                rw [e1] at h3
                omega
              refine za_iconst hc 1 dM_way_96 rfl ?_
              refine za_goto 101 hc dM_way_97 rfl ?_
              refine za_istore_n hc dM_way_101 (by decide) ?_
              refine za_iinc hc _ dM_way_102 rfl ((nI_succ k).symm) (by decide) ?_
              refine za_goto 53 hc dM_way_105 rfl ?_
              refine ih (k + 1) _ (by omega) (by first | exact Or.inl rfl | exact Or.inr rfl) ?_
              constructor
              · intro z j q hj hq
                by_cases c : j = k
                · rw [c, hri] at hq
                  first | exact absurd z (by decide) | (cases hq; exact c1)
                · exact hall.mp hv1 j q (by omega) hq
              · intro h
                first | rfl | exact absurd (h k m (by omega) hri) c1
    exact loop ls.length 0 1 (by omega) (Or.inr rfl) ⟨fun _ j q h => absurd h (by omega), fun _ => rfl⟩
  refine za_aload_n hc dM_way_0 rfl ?_
  refine za_iload_n hc dM_way_1 rfl ?_
  refine za_if_eq 15 hc dM_way_2 rfl (fun h_2 => ?_) (fun h_2 => ?_)
  · skip
    refine za_aload_n hc dM_way_15 rfl ?_
    refine za_getA hc gfM_57 zob_62 (p := 78) rfl dM_way_16 ?_
    refine za_iload_n hc dM_way_19 rfl ?_
    refine zm_lald hc (by assumption) dM_way_20 (by omega) (by decide) ?_
    refine za_putJ hc gpM_92 zob_62 dM_way_21 ?_
    refine za_aload_n hc dM_way_24 rfl ?_
    refine za_iload_n hc dM_way_25 rfl ?_
    refine za_if_eq 38 hc dM_way_26 rfl (fun h_26 => ?_) (fun h_26 => ?_)
    · skip
      refine za_aload_n hc dM_way_38 rfl ?_
      refine za_getA hc gfM_54 zob_62 (p := 77) rfl dM_way_39 ?_
      refine za_iload_n hc dM_way_42 rfl ?_
      refine zm_lald hc (by assumption) dM_way_43 (by omega) (by decide) ?_
      rw [zJ_o (by decide)]
      refine za_lneg hc dM_way_44 ?_
      refine za_putJ hc gpM_95 zob_62 dM_way_45 ?_
      refine za_iconst hc 1 dM_way_48 rfl ?_
      refine za_istore_n hc dM_way_49 (by decide) ?_
      refine za_iconst hc 0 dM_way_50 rfl ?_
      refine za_istore hc dM_way_51 (by decide) ?_
      refine LOOP _ ?_ ?_ ?_ ((mK_sJ (by decide)).tr (mK_sJ (by decide))) ((zfr_sJ (P := m62) rfl).tr (zfr_sJ (P := m62) rfl))
      · rw [zJ_s, if_neg (by decide), zJ_s, if_pos rfl, zJ_s, if_pos rfl, l_neg (by omega), ← di]; unfold gwi; rw [if_pos h_2]; exact ⟨rfl, rfl⟩
      · rw [zJ_s, if_neg (by decide), zJ_s, if_pos rfl]; first | omega | (rw [l_neg (by omega)]; omega)
      · rw [zJ_s, if_pos rfl]; first | omega | (rw [l_neg (by omega)]; omega)
    · skip
      exact absurd h_2 h_26
  · skip
    refine za_aload_n hc dM_way_5 rfl ?_
    refine za_getA hc gfM_57 zob_62 (p := 78) rfl dM_way_6 ?_
    refine za_iload_n hc dM_way_9 rfl ?_
    refine zm_lald hc (by assumption) dM_way_10 (by omega) (by decide) ?_
    refine za_lneg hc dM_way_11 ?_
    refine za_goto 21 hc dM_way_12 rfl ?_
    refine za_putJ hc gpM_92 zob_62 dM_way_21 ?_
    refine za_aload_n hc dM_way_24 rfl ?_
    refine za_iload_n hc dM_way_25 rfl ?_
    refine za_if_eq 38 hc dM_way_26 rfl (fun h_26 => ?_) (fun h_26 => ?_)
    · skip
      exact absurd h_26 h_2
    · skip
      refine za_aload_n hc dM_way_29 rfl ?_
      refine za_getA hc gfM_54 zob_62 (p := 77) rfl dM_way_30 ?_
      refine za_iload_n hc dM_way_33 rfl ?_
      refine zm_lald hc (by assumption) dM_way_34 (by omega) (by decide) ?_
      rw [zJ_o (by decide)]
      refine za_goto 45 hc dM_way_35 rfl ?_
      refine za_putJ hc gpM_95 zob_62 dM_way_45 ?_
      refine za_iconst hc 1 dM_way_48 rfl ?_
      refine za_istore_n hc dM_way_49 (by decide) ?_
      refine za_iconst hc 0 dM_way_50 rfl ?_
      refine za_istore hc dM_way_51 (by decide) ?_
      refine LOOP _ ?_ ?_ ?_ ((mK_sJ (by decide)).tr (mK_sJ (by decide))) ((zfr_sJ (P := m62) rfl).tr (zfr_sJ (P := m62) rfl))
      · rw [zJ_s, if_neg (by decide), zJ_s, if_pos rfl, zJ_s, if_pos rfl, l_neg (by omega), ← di]; unfold gwi; rw [if_neg h_2]; exact ⟨rfl, rfl⟩
      · rw [zJ_s, if_neg (by decide), zJ_s, if_pos rfl]; first | omega | (rw [l_neg (by omega)]; omega)
      · rw [zJ_s, if_pos rfl]; first | omega | (rw [l_neg (by omega)]; omega)
