/-! Infimum: bounds of a row. The object lies at place 31. -/
theorem zob_31 : zob 31 1 := ⟨by decide, by decide⟩
/-- what is held of a row, of all rows so far -/
def iR (M : zM) : gE := ((zJ M 31 3).toInt, (zJ M 31 4).toInt, zI M 31 5 == 1)
def iA (M : zM) : gE := ((zJ M 31 0).toInt, (zJ M 31 1).toInt, zI M 31 2 == 1)
def iB (e : gE) : Prop := (-40000000000 ≤ e.1 ∧ e.1 ≤ 40000000000) ∧ 0 ≤ e.2.1 ∧ e.2.1 ≤ 200000000
def iZ (M : zM) : Prop := (zI M 31 2 = 0 ∨ zI M 31 2 = 1) ∧ (zI M 31 5 = 0 ∨ zI M 31 5 = 1)
def iF : Nat → Prop := fun k => k = 31
theorem iA_k {M M' : zM} (h0 : zJ M' 31 0 = zJ M 31 0) (h1 : zJ M' 31 1 = zJ M 31 1) (h2 : zI M' 31 2 = zI M 31 2) : iA M' = iA M := by unfold iA; rw [h0, h1, h2]
theorem nz01 {v : Int32} (h : v = 0 ∨ v = 1) : narrow .boolean (.int v) = .int v ∧ fits .boolean (.int v) = true := by rcases h with h | h <;> rw [h] <;> exact ⟨rfl, rfl⟩

set_option maxRecDepth 100000 in
set_option maxHeartbeats 4000000 in
theorem cI_raiseRow_ (l : Launch) (M : zM) (T B : Int64) (k : Int32) (hb : iB (iR M)) (hz : iZ M) (hT : -40000000000 ≤ T.toInt ∧ T.toInt ≤ 40000000000) (hB : 0 < B.toInt ∧ B.toInt ≤ 200000000) (hk : k = 0 ∨ k = 1) : zMet l mI_raiseRow rI_raiseRow [.ref 31, .long T, .long B, .int k] M (zqv (fun M' => iR M' = gRs (iR M) T.toInt B.toInt (k == 1) ∧ iA M' = iA M ∧ iZ M' ∧ zfr iF M M')) := by
  refine za_enter (by decide) (Nat.le_of_ble_eq_true rfl) (fun X hc => ?_)
  have ho := zob_31
  have p1 := g_mulb (A := 40000000000) (B := 200000000) (a := T.toInt) (b := (zJ M 31 4).toInt) hT ⟨by have := hb.2.1; unfold iR at this; simp only at this; omega, hb.2.2⟩
  have p2 := g_mulb (A := 40000000000) (B := 200000000) (a := (zJ M 31 3).toInt) (b := B.toInt) hb.1 ⟨by omega, hB.2⟩
  have m1 := l_mul (x := T) (y := zJ M 31 4) (by omega) (by omega)
  have m2 := l_mul (x := zJ M 31 3) (y := B) (by omega) (by omega)
  refine za_lload_n hc dI_raiseRow_0 rfl ?_
  refine za_aload_n hc dI_raiseRow_1 rfl ?_
  refine za_getJ hc gfI_31 (by assumption) dI_raiseRow_2 ?_
  refine za_lmul hc dI_raiseRow_5 ?_
  refine za_lstore hc dI_raiseRow_6 (by decide) ?_
  refine za_aload_n hc dI_raiseRow_8 rfl ?_
  refine za_getJ hc gfI_44 (by assumption) dI_raiseRow_9 ?_
  refine za_lload_n hc dI_raiseRow_12 rfl ?_
  refine za_lmul hc dI_raiseRow_13 ?_
  refine za_lstore hc dI_raiseRow_14 (by decide) ?_
  refine za_aload_n hc dI_raiseRow_16 rfl ?_
  refine za_getJ hc gfI_31 (by assumption) dI_raiseRow_17 ?_
  refine za_lconst hc 0 dI_raiseRow_20 rfl ?_
  refine za_lcmp_eq 33 hc dI_raiseRow_21 dI_raiseRow_22 rfl (fun h_21 => ?_) (fun h_21 => ?_)
  · skip
    have u0 : (zJ M 31 4).toInt = 0 := by rw [h_21]; rfl
    refine za_aload_n hc dI_raiseRow_33 rfl ?_
    refine za_lload_n hc dI_raiseRow_34 rfl ?_
    refine za_putJ hc gpI_44 (by assumption) dI_raiseRow_35 ?_
    refine za_aload_n hc dI_raiseRow_38 rfl ?_
    refine za_lload_n hc dI_raiseRow_39 rfl ?_
    refine za_putJ hc gpI_31 (by assumption) dI_raiseRow_40 ?_
    refine za_aload_n hc dI_raiseRow_43 rfl ?_
    refine za_iload hc dI_raiseRow_44 rfl ?_
    refine za_putZ hc gpI_47 (by assumption) (nz01 hk) dI_raiseRow_46 ?_
    refine za_goto 70 hc dI_raiseRow_49 rfl ?_
    refine za_vret hc rfl dI_raiseRow_70 ⟨Nat.zero_le _, Nat.zero_le _⟩ ⟨rfl, ?_, iA_k ?_ ?_ ?_, ⟨?_, ?_⟩, ?_⟩
    · have e : iR (zsI (zsJ (zsJ M 31 3 T) 31 4 B) 31 5 k) = (T.toInt, B.toInt, k == 1) := by unfold iR; rw [zJ_sI, zJ_s, if_neg (by decide), zJ_s, if_pos rfl, zJ_s, if_pos rfl, zI_s, if_pos rfl]
      rw [e]; unfold gRs; rw [if_pos ?_]; exact Or.inl u0
    · rw [zJ_sI, zJ_s, if_neg (by decide), zJ_s, if_neg (by decide)]
    · rw [zJ_sI, zJ_s, if_neg (by decide), zJ_s, if_neg (by decide)]
    · rw [zI_s, if_neg (by decide), zI_sJ, zI_sJ]
    · rw [zI_s, if_neg (by decide), zI_sJ, zI_sJ]; exact hz.1
    · rw [zI_s, if_pos rfl]; exact hk
    · exact (zfr_sJ (P := iF) rfl).tr ((zfr_sJ (P := iF) rfl).tr (zfr_sI (P := iF) rfl))
  · skip
    have n0 : ¬ (zJ M 31 4).toInt = 0 := fun z => h_21 (Int64.toInt_inj.mp z)
    refine za_lload hc dI_raiseRow_25 rfl ?_
    refine za_lload hc dI_raiseRow_27 rfl ?_
    refine za_lcmp_le 52 hc dI_raiseRow_29 dI_raiseRow_30 rfl (fun h_29 => ?_) (fun h_29 => ?_)
    · skip
      have n1 : ¬ (zJ M 31 3).toInt * B.toInt < T.toInt * (zJ M 31 4).toInt := by rw [← m1, ← m2]; exact Int.not_lt.mpr (Int64.le_iff_toInt_le.mp h_29)
      refine za_lload hc dI_raiseRow_52 rfl ?_
      refine za_lload hc dI_raiseRow_54 rfl ?_
      refine za_lcmp_ne 70 hc dI_raiseRow_56 dI_raiseRow_57 rfl (fun h_56 => ?_) (fun h_56 => ?_)
      · skip
        have n2 : ¬ T.toInt * (zJ M 31 4).toInt = (zJ M 31 3).toInt * B.toInt := by rw [← m1, ← m2]; exact fun z => h_56 (Int64.toInt_inj.mp z)
        exact za_vret hc rfl dI_raiseRow_70 ⟨Nat.zero_le _, Nat.zero_le _⟩ ⟨rfl, (by unfold gRs; rw [if_neg (by rintro (z | z); exact n0 z; exact n1 z), if_neg (fun z => n2 z.1)]), rfl, hz, zfr.rf⟩
      · skip
        have e2 : T.toInt * (zJ M 31 4).toInt = (zJ M 31 3).toInt * B.toInt := by rw [← m1, ← m2, h_56]
        refine za_iload hc dI_raiseRow_60 rfl ?_
        refine za_if_ne 70 hc dI_raiseRow_62 rfl (fun h_62 => ?_) (fun h_62 => ?_)
        · skip
          have n3 : ¬ (k == 1) = false := by rw [hk.resolve_left h_62]; decide
          exact za_vret hc rfl dI_raiseRow_70 ⟨Nat.zero_le _, Nat.zero_le _⟩ ⟨rfl, (by unfold gRs; rw [if_neg (by rintro (z | z); exact n0 z; exact n1 z), if_neg (fun z => n3 z.2)]), rfl, hz, zfr.rf⟩
        · skip
          have e3 : (k == 1) = false := by rw [h_62]; rfl
          refine za_aload_n hc dI_raiseRow_65 rfl ?_
          refine za_iconst hc 0 dI_raiseRow_66 rfl ?_
          refine za_putZ hc gpI_47 (by assumption) (nz01 (Or.inl rfl)) dI_raiseRow_67 ?_
          refine za_vret hc rfl dI_raiseRow_70 ⟨Nat.zero_le _, Nat.zero_le _⟩ ⟨rfl, ?_, iA_k rfl rfl ?_, ⟨?_, ?_⟩, zfr_sI rfl⟩
          · have e : iR (zsI M 31 5 0) = ((zJ M 31 3).toInt, (zJ M 31 4).toInt, false) := by unfold iR; rw [zJ_sI, zI_s, if_pos rfl]; rfl
            rw [e]; unfold gRs; rw [if_neg (by rintro (z | z); exact n0 z; exact n1 z), if_pos ⟨e2, e3⟩]; rfl
          · rw [zI_s, if_neg (by decide)]
          · rw [zI_s, if_neg (by decide)]; exact hz.1
          · rw [zI_s, if_pos rfl]; exact Or.inl rfl
    · skip
      have u1 : (zJ M 31 3).toInt * B.toInt < T.toInt * (zJ M 31 4).toInt := by rw [← m1, ← m2]; exact Int.not_le.mp (fun z => h_29 (Int64.le_iff_toInt_le.mpr z))
      refine za_aload_n hc dI_raiseRow_33 rfl ?_
      refine za_lload_n hc dI_raiseRow_34 rfl ?_
      refine za_putJ hc gpI_44 (by assumption) dI_raiseRow_35 ?_
      refine za_aload_n hc dI_raiseRow_38 rfl ?_
      refine za_lload_n hc dI_raiseRow_39 rfl ?_
      refine za_putJ hc gpI_31 (by assumption) dI_raiseRow_40 ?_
      refine za_aload_n hc dI_raiseRow_43 rfl ?_
      refine za_iload hc dI_raiseRow_44 rfl ?_
      refine za_putZ hc gpI_47 (by assumption) (nz01 hk) dI_raiseRow_46 ?_
      refine za_goto 70 hc dI_raiseRow_49 rfl ?_
      refine za_vret hc rfl dI_raiseRow_70 ⟨Nat.zero_le _, Nat.zero_le _⟩ ⟨rfl, ?_, iA_k ?_ ?_ ?_, ⟨?_, ?_⟩, ?_⟩
      · have e : iR (zsI (zsJ (zsJ M 31 3 T) 31 4 B) 31 5 k) = (T.toInt, B.toInt, k == 1) := by unfold iR; rw [zJ_sI, zJ_s, if_neg (by decide), zJ_s, if_pos rfl, zJ_s, if_pos rfl, zI_s, if_pos rfl]
        rw [e]; unfold gRs; rw [if_pos ?_]; exact Or.inr u1
      · rw [zJ_sI, zJ_s, if_neg (by decide), zJ_s, if_neg (by decide)]
      · rw [zJ_sI, zJ_s, if_neg (by decide), zJ_s, if_neg (by decide)]
      · rw [zI_s, if_neg (by decide), zI_sJ, zI_sJ]
      · rw [zI_s, if_neg (by decide), zI_sJ, zI_sJ]; exact hz.1
      · rw [zI_s, if_pos rfl]; exact hk
      · exact (zfr_sJ (P := iF) rfl).tr ((zfr_sJ (P := iF) rfl).tr (zfr_sI (P := iF) rfl))

set_option maxRecDepth 100000 in
set_option maxHeartbeats 4000000 in
theorem cI_side_ (l : Launch) {p j i : Nat} (M : zM) (f g : Int32) (hf : f.toInt.natAbs ≤ 100) (hg : g.toInt.natAbs ≤ 100) (hp : zrg p) (hj : j < 12) (hi : i < 12) (hl : gLim (rg M p j i)) : zMet l mI_side rI_side [.ref p, .int (nI j), .int (nI i), .int f, .int g] M (zqi (fun x M' => x.toInt = gsd f.toInt g.toInt (rg M p j i) ∧ M' = M)) := by
  refine za_enter (by decide) (Nat.le_of_ble_eq_true rfl) (fun X hc => ?_)
  have hpo := hp.o
  have b1i : (zI M (p + 2) (48 * j + 4 * i)).toInt.natAbs ≤ 10000 := hl.1
  have b2i : (zI M (p + 2) (48 * j + 4 * i + 1)).toInt.natAbs ≤ 10000 := hl.2.1
  have b3i : (zI M (p + 2) (48 * j + 4 * i + 2)).toInt.natAbs ≤ 10000 := hl.2.2
  have p1 := g_mulb (A := 10000) (B := 100) (a := (zI M (p + 2) (48 * j + 4 * i + 1)).toInt) (b := f.toInt) (by omega) (by omega)
  have p2 := g_mulb (A := 10000) (B := 100) (a := (zI M (p + 2) (48 * j + 4 * i)).toInt) (b := g.toInt) (by omega) (by omega)
  have m1 := i_mul (x := (zI M (p + 2) (48 * j + 4 * i + 1))) (y := f) (by omega) (by omega)
  have m2 := i_mul (x := (zI M (p + 2) (48 * j + 4 * i))) (y := g) (by omega) (by omega)
  refine za_aload_n hc dI_side_0 rfl ?_
  refine za_iload_n hc dI_side_1 rfl ?_
  refine za_iload_n hc dI_side_2 rfl ?_
  refine za_cV2i hc gsI_70 (by assumption) (cR_y_ l M hp hj hi) ⟨rfl, rfl⟩ ⟨Nat.le_of_ble_eq_true rfl, Nat.le_of_ble_eq_true rfl⟩ ⟨Nat.zero_le _, Nat.zero_le _⟩ dI_side_3 (fun x_3 M_3 h_3 => ?_)
  obtain ⟨q_3, hm_3⟩ := h_3
  rw [hm_3, q_3]
  refine za_iload_n hc dI_side_6 rfl ?_
  refine za_imul hc dI_side_7 ?_
  refine za_aload_n hc dI_side_8 rfl ?_
  refine za_iload_n hc dI_side_9 rfl ?_
  refine za_iload_n hc dI_side_10 rfl ?_
  refine za_cV2i hc gsI_74 (by assumption) (cR_x_ l M hp hj hi) ⟨rfl, rfl⟩ ⟨Nat.le_of_ble_eq_true rfl, Nat.le_of_ble_eq_true rfl⟩ ⟨Nat.zero_le _, Nat.zero_le _⟩ dI_side_11 (fun x_11 M_11 h_11 => ?_)
  obtain ⟨q_11, hm_11⟩ := h_11
  rw [hm_11, q_11]
  refine za_iload hc dI_side_14 rfl ?_
  refine za_imul hc dI_side_16 ?_
  refine za_isub hc dI_side_17 ?_
  exact za_iret hc rfl dI_side_18 ⟨Nat.zero_le _, Nat.zero_le _⟩ (⟨_, rfl, by rw [i_sub (by rw [m1, m2]; omega) (by rw [m1, m2]; omega), m1, m2]; rfl, rfl⟩)

set_option maxRecDepth 100000 in
set_option maxHeartbeats 4000000 in
theorem cI_boundByOne_ (l : Launch) {p j i : Nat} (M : zM) (f g : Int32) (hf : f.toInt.natAbs ≤ 100) (hg : g.toInt.natAbs ≤ 100) (hp : zrg p) (hj : j < 12) (hi : i < 12) (hl : gLim (rg M p j i)) (hb : iB (iR M)) (hz : iZ M) : zMet l mI_boundByOne rI_boundByOne [.ref 31, .ref p, .int (nI j), .int (nI i), .int f, .int g] M (zqv (fun M' => iR M' = (if gal f.toInt g.toInt (rg M p j i) < 0 then gRs (iR M) (-(rg M p j i).2.2.1 * (f.toInt * f.toInt + g.toInt * g.toInt)) (-gal f.toInt g.toInt (rg M p j i)) (!(rg M p j i).2.2.2) else iR M) ∧ iA M' = iA M ∧ iZ M' ∧ zfr iF M M')) := by
  refine za_enter (by decide) (Nat.le_of_ble_eq_true rfl) (fun X hc => ?_)
  have hpo := hp.o
  have ho := zob_31
  have b1i : (zI M (p + 2) (48 * j + 4 * i)).toInt.natAbs ≤ 10000 := hl.1
  have b2i : (zI M (p + 2) (48 * j + 4 * i + 1)).toInt.natAbs ≤ 10000 := hl.2.1
  have b3i : (zI M (p + 2) (48 * j + 4 * i + 2)).toInt.natAbs ≤ 10000 := hl.2.2
  have p1 := g_mulb (A := 10000) (B := 100) (a := (zI M (p + 2) (48 * j + 4 * i)).toInt) (b := f.toInt) (by omega) (by omega)
  have p2 := g_mulb (A := 10000) (B := 100) (a := (zI M (p + 2) (48 * j + 4 * i + 1)).toInt) (b := g.toInt) (by omega) (by omega)
  have p3 := g_mulb (A := 100) (B := 100) (a := f.toInt) (b := f.toInt) (by omega) (by omega)
  have p4 := g_mulb (A := 100) (B := 100) (a := g.toInt) (b := g.toInt) (by omega) (by omega)
  have p5 := g_mulb (A := 10000) (B := 20000) (a := -(zI M (p + 2) (48 * j + 4 * i + 2)).toInt) (b := (f.toInt * f.toInt + g.toInt * g.toInt)) (by omega) (by omega)
  have ha : ((zI M (p + 2) (48 * j + 4 * i)).toInt64 * f.toInt64 + (zI M (p + 2) (48 * j + 4 * i + 1)).toInt64 * g.toInt64).toInt = gal f.toInt g.toInt (rg M p j i) := by
    have q1 := l_mul (x := (zI M (p + 2) (48 * j + 4 * i)).toInt64) (y := f.toInt64) (by rw [i2l_int, i2l_int]; omega) (by rw [i2l_int, i2l_int]; omega)
    have q2 := l_mul (x := (zI M (p + 2) (48 * j + 4 * i + 1)).toInt64) (y := g.toInt64) (by rw [i2l_int, i2l_int]; omega) (by rw [i2l_int, i2l_int]; omega)
    rw [i2l_int, i2l_int] at q1 q2
    rw [l_add (by rw [q1, q2]; omega) (by rw [q1, q2]; omega), q1, q2]; rfl
  have hal : -2000000 ≤ gal f.toInt g.toInt (rg M p j i) ∧ gal f.toInt g.toInt (rg M p j i) ≤ 2000000 := by unfold gal rg; simp only; omega
  have hsq : (f.toInt64 * f.toInt64 + g.toInt64 * g.toInt64).toInt = (f.toInt * f.toInt + g.toInt * g.toInt) := by
    have q1 := l_mul (x := f.toInt64) (y := f.toInt64) (by rw [i2l_int]; omega) (by rw [i2l_int]; omega)
    have q2 := l_mul (x := g.toInt64) (y := g.toInt64) (by rw [i2l_int]; omega) (by rw [i2l_int]; omega)
    rw [i2l_int] at q1 q2
    rw [l_add (by rw [q1, q2]; omega) (by rw [q1, q2]; omega), q1, q2]
  have hbt : ((-(zI M (p + 2) (48 * j + 4 * i + 2))).toInt64 * (f.toInt64 * f.toInt64 + g.toInt64 * g.toInt64)).toInt = -(zI M (p + 2) (48 * j + 4 * i + 2)).toInt * (f.toInt * f.toInt + g.toInt * g.toInt) := by
    have hn : (-(zI M (p + 2) (48 * j + 4 * i + 2))).toInt64.toInt = -(zI M (p + 2) (48 * j + 4 * i + 2)).toInt := by rw [i2l_int, i_neg (by omega)]
    rw [l_mul (by rw [hn, hsq]; omega) (by rw [hn, hsq]; omega), hn, hsq]
  refine za_aload_n hc dI_boundByOne_0 rfl ?_
  refine za_iload_n hc dI_boundByOne_1 rfl ?_
  refine za_iload_n hc dI_boundByOne_2 rfl ?_
  refine za_cV2i hc gsI_74 (by assumption) (cR_x_ l M hp hj hi) ⟨rfl, rfl⟩ ⟨Nat.le_of_ble_eq_true rfl, Nat.le_of_ble_eq_true rfl⟩ ⟨Nat.zero_le _, Nat.zero_le _⟩ dI_boundByOne_3 (fun x_3 M_3 h_3 => ?_)
  obtain ⟨q_3, hm_3⟩ := h_3
  rw [hm_3, q_3]
  refine za_i2l hc dI_boundByOne_6 ?_
  refine za_iload hc dI_boundByOne_7 rfl ?_
  refine za_i2l hc dI_boundByOne_9 ?_
  refine za_lmul hc dI_boundByOne_10 ?_
  refine za_aload_n hc dI_boundByOne_11 rfl ?_
  refine za_iload_n hc dI_boundByOne_12 rfl ?_
  refine za_iload_n hc dI_boundByOne_13 rfl ?_
  refine za_cV2i hc gsI_70 (by assumption) (cR_y_ l M hp hj hi) ⟨rfl, rfl⟩ ⟨Nat.le_of_ble_eq_true rfl, Nat.le_of_ble_eq_true rfl⟩ ⟨Nat.zero_le _, Nat.zero_le _⟩ dI_boundByOne_14 (fun x_14 M_14 h_14 => ?_)
  obtain ⟨q_14, hm_14⟩ := h_14
  rw [hm_14, q_14]
  refine za_i2l hc dI_boundByOne_17 ?_
  refine za_iload hc dI_boundByOne_18 rfl ?_
  refine za_i2l hc dI_boundByOne_20 ?_
  refine za_lmul hc dI_boundByOne_21 ?_
  refine za_ladd hc dI_boundByOne_22 ?_
  refine za_lstore hc dI_boundByOne_23 (by decide) ?_
  refine za_lload hc dI_boundByOne_25 rfl ?_
  refine za_lconst hc 0 dI_boundByOne_27 rfl ?_
  refine za_lcmp_ge 81 hc dI_boundByOne_28 dI_boundByOne_29 rfl (fun h_28 => ?_) (fun h_28 => ?_)
  · skip
    have hn : ¬ gal f.toInt g.toInt (rg M p j i) < 0 := by rw [← ha]; exact Int.not_lt.mpr (Int64.le_iff_toInt_le.mp h_28)
    exact za_vret hc rfl dI_boundByOne_81 ⟨Nat.zero_le _, Nat.zero_le _⟩ (by first | exact ⟨rfl, by rw [if_pos hn]; exact r1, r2, r3, r4⟩ | exact ⟨rfl, by rw [if_neg hn], rfl, hz, zfr.rf⟩)
  · skip
    have hn : gal f.toInt g.toInt (rg M p j i) < 0 := by rw [← ha]; exact Int.not_le.mp (fun z => h_28 (Int64.le_iff_toInt_le.mpr z))
    refine za_iload hc dI_boundByOne_32 rfl ?_
    refine za_i2l hc dI_boundByOne_34 ?_
    refine za_iload hc dI_boundByOne_35 rfl ?_
    refine za_i2l hc dI_boundByOne_37 ?_
    refine za_lmul hc dI_boundByOne_38 ?_
    refine za_iload hc dI_boundByOne_39 rfl ?_
    refine za_i2l hc dI_boundByOne_41 ?_
    refine za_iload hc dI_boundByOne_42 rfl ?_
    refine za_i2l hc dI_boundByOne_44 ?_
    refine za_lmul hc dI_boundByOne_45 ?_
    refine za_ladd hc dI_boundByOne_46 ?_
    refine za_lstore hc dI_boundByOne_47 (by decide) ?_
    refine za_aload_n hc dI_boundByOne_49 rfl ?_
    refine za_aload_n hc dI_boundByOne_50 rfl ?_
    refine za_iload_n hc dI_boundByOne_51 rfl ?_
    refine za_iload_n hc dI_boundByOne_52 rfl ?_
    refine za_cV2i hc gsI_77 (by assumption) (cR_bound_ l M hp hj hi) ⟨rfl, rfl⟩ ⟨Nat.le_of_ble_eq_true rfl, Nat.le_of_ble_eq_true rfl⟩ ⟨Nat.zero_le _, Nat.zero_le _⟩ dI_boundByOne_53 (fun x_53 M_53 h_53 => ?_)
    obtain ⟨q_53, hm_53⟩ := h_53
    rw [hm_53, q_53]
    refine za_ineg hc dI_boundByOne_56 ?_
    refine za_i2l hc dI_boundByOne_57 ?_
    refine za_lload hc dI_boundByOne_58 rfl ?_
    refine za_lmul hc dI_boundByOne_60 ?_
    refine za_lload hc dI_boundByOne_61 rfl ?_
    refine za_lneg hc dI_boundByOne_63 ?_
    refine za_aload_n hc dI_boundByOne_64 rfl ?_
    refine za_iload_n hc dI_boundByOne_65 rfl ?_
    refine za_iload_n hc dI_boundByOne_66 rfl ?_
    refine za_cV2i hc gsI_80 (by assumption) (cR_isStrict_ l M hp hj hi) ⟨rfl, rfl⟩ ⟨Nat.le_of_ble_eq_true rfl, Nat.le_of_ble_eq_true rfl⟩ ⟨Nat.zero_le _, Nat.zero_le _⟩ dI_boundByOne_67 (fun x_67 M_67 h_67 => ?_)
    obtain ⟨q_67, hm_67⟩ := h_67
    rw [hm_67, q_67]
    refine za_if_ne 77 hc dI_boundByOne_70 rfl (fun h_70 => ?_) (fun h_70 => ?_)
    · skip
      have hsg : ((0 : Int32) == 1) = !(zI M (p + 2) (48 * j + 4 * i + 3) == 1) := by by_cases z : zI M (p + 2) (48 * j + 4 * i + 3) = 1; rw [z]; rfl; exact absurd (if_neg z) h_70
      refine za_iconst hc 0 dI_boundByOne_77 rfl ?_
      refine za_cV3v hc gsI_84 (by assumption) (cI_raiseRow_ l M _ _ _ hb hz (by rw [hbt]; omega) (by rw [l_neg (by rw [ha]; omega), ha]; omega) (by first | exact Or.inl rfl | exact Or.inr rfl)) ⟨rfl, rfl⟩ ⟨Nat.le_of_ble_eq_true rfl, Nat.le_of_ble_eq_true rfl⟩ ⟨Nat.zero_le _, Nat.zero_le _⟩ dI_boundByOne_78 (fun M_78 h_78 => ?_)
      obtain ⟨r1, r2, r3, r4⟩ := h_78
      rw [hbt, l_neg (by rw [ha]; omega), ha, hsg] at r1
      exact za_vret hc rfl dI_boundByOne_81 ⟨Nat.zero_le _, Nat.zero_le _⟩ (by first | exact ⟨rfl, by rw [if_pos hn]; exact r1, r2, r3, r4⟩ | exact ⟨rfl, by rw [if_neg hn], rfl, hz, zfr.rf⟩)
    · skip
      have hsg : ((1 : Int32) == 1) = !(zI M (p + 2) (48 * j + 4 * i + 3) == 1) := by by_cases z : zI M (p + 2) (48 * j + 4 * i + 3) = 1; rw [if_pos z] at h_70; exact absurd h_70 (by decide); simp [z]
      refine za_iconst hc 1 dI_boundByOne_73 rfl ?_
      refine za_goto 78 hc dI_boundByOne_74 rfl ?_
      refine za_cV3v hc gsI_84 (by assumption) (cI_raiseRow_ l M _ _ _ hb hz (by rw [hbt]; omega) (by rw [l_neg (by rw [ha]; omega), ha]; omega) (by first | exact Or.inl rfl | exact Or.inr rfl)) ⟨rfl, rfl⟩ ⟨Nat.le_of_ble_eq_true rfl, Nat.le_of_ble_eq_true rfl⟩ ⟨Nat.zero_le _, Nat.zero_le _⟩ dI_boundByOne_78 (fun M_78 h_78 => ?_)
      obtain ⟨r1, r2, r3, r4⟩ := h_78
      rw [hbt, l_neg (by rw [ha]; omega), ha, hsg] at r1
      exact za_vret hc rfl dI_boundByOne_81 ⟨Nat.zero_le _, Nat.zero_le _⟩ (by first | exact ⟨rfl, by rw [if_pos hn]; exact r1, r2, r3, r4⟩ | exact ⟨rfl, by rw [if_neg hn], rfl, hz, zfr.rf⟩)

theorem l_mm {a b c d : Int32} (ha : a.toInt.natAbs ≤ 10000) (hb : b.toInt.natAbs ≤ 10000) (hc : c.toInt.natAbs ≤ 10000) (hd : d.toInt.natAbs ≤ 10000) : (a.toInt64 * b.toInt64 - c.toInt64 * d.toInt64).toInt = a.toInt * b.toInt - c.toInt * d.toInt ∧ -200000000 ≤ a.toInt * b.toInt - c.toInt * d.toInt ∧ a.toInt * b.toInt - c.toInt * d.toInt ≤ 200000000 := by
  have p1 := g_mulb (A := 10000) (B := 10000) (a := a.toInt) (b := b.toInt) (by omega) (by omega)
  have p2 := g_mulb (A := 10000) (B := 10000) (a := c.toInt) (b := d.toInt) (by omega) (by omega)
  have q1 := l_mul (x := a.toInt64) (y := b.toInt64) (by rw [i2l_int, i2l_int]; omega) (by rw [i2l_int, i2l_int]; omega)
  have q2 := l_mul (x := c.toInt64) (y := d.toInt64) (by rw [i2l_int, i2l_int]; omega) (by rw [i2l_int, i2l_int]; omega)
  rw [i2l_int, i2l_int] at q1 q2
  exact ⟨by rw [l_sub (by rw [q1, q2]; omega) (by rw [q1, q2]; omega), q1, q2], by omega, by omega⟩
theorem l_fg {f g : Int32} {X Y : Int64} {x y : Int} (hf : f.toInt.natAbs ≤ 100) (hg : g.toInt.natAbs ≤ 100) (h1 : X.toInt = x ∧ -200000000 ≤ x ∧ x ≤ 200000000) (h2 : Y.toInt = y ∧ -200000000 ≤ y ∧ y ≤ 200000000) : (f.toInt64 * X + g.toInt64 * Y).toInt = f.toInt * x + g.toInt * y ∧ -40000000000 ≤ f.toInt * x + g.toInt * y ∧ f.toInt * x + g.toInt * y ≤ 40000000000 := by
  have p1 := g_mulb (A := 100) (B := 200000000) (a := f.toInt) (b := x) (by omega) h1.2
  have p2 := g_mulb (A := 100) (B := 200000000) (a := g.toInt) (b := y) (by omega) h2.2
  have q1 := l_mul (x := f.toInt64) (y := X) (by rw [i2l_int, h1.1]; omega) (by rw [i2l_int, h1.1]; omega)
  have q2 := l_mul (x := g.toInt64) (y := Y) (by rw [i2l_int, h2.1]; omega) (by rw [i2l_int, h2.1]; omega)
  rw [i2l_int, h1.1] at q1
  rw [i2l_int, h2.1] at q2
  exact ⟨by rw [l_add (by rw [q1, q2]; omega) (by rw [q1, q2]; omega), q1, q2], by omega, by omega⟩

set_option maxRecDepth 100000 in
set_option maxHeartbeats 4000000 in
theorem cI_boundByTwo_ (l : Launch) {p j i k : Nat} (M : zM) (f g : Int32) (hf : f.toInt.natAbs ≤ 100) (hg : g.toInt.natAbs ≤ 100) (hp : zrg p) (hj : j < 12) (hi : i < 12) (hk : k < 12) (hl : gLim (rg M p j i)) (hlk : gLim (rg M p j k)) (hb : iB (iR M)) (hz : iZ M) : zMet l mI_boundByTwo rI_boundByTwo [.ref 31, .ref p, .int (nI j), .int (nI i), .int (nI k), .int f, .int g] M (zqv (fun M' => iR M' = (if 0 < gtn (rg M p j i) (rg M p j k) then gRs (iR M) (gtp f.toInt g.toInt (rg M p j i) (rg M p j k)) (gtn (rg M p j i) (rg M p j k)) (!(rg M p j i).2.2.2 && !(rg M p j k).2.2.2) else iR M) ∧ iA M' = iA M ∧ iZ M' ∧ zfr iF M M')) := by
  refine za_enter (by decide) (Nat.le_of_ble_eq_true rfl) (fun X hc => ?_)
  have hpo := hp.o
  have ho := zob_31
  have b1i : (zI M (p + 2) (48 * j + 4 * i)).toInt.natAbs ≤ 10000 := hl.1
  have b2i : (zI M (p + 2) (48 * j + 4 * i + 1)).toInt.natAbs ≤ 10000 := hl.2.1
  have b3i : (zI M (p + 2) (48 * j + 4 * i + 2)).toInt.natAbs ≤ 10000 := hl.2.2
  have b1k : (zI M (p + 2) (48 * j + 4 * k)).toInt.natAbs ≤ 10000 := hlk.1
  have b2k : (zI M (p + 2) (48 * j + 4 * k + 1)).toInt.natAbs ≤ 10000 := hlk.2.1
  have b3k : (zI M (p + 2) (48 * j + 4 * k + 2)).toInt.natAbs ≤ 10000 := hlk.2.2
  have t1 := l_mm (a := (zI M (p + 2) (48 * j + 4 * i))) (b := (zI M (p + 2) (48 * j + 4 * k + 1))) (c := (zI M (p + 2) (48 * j + 4 * i + 1))) (d := (zI M (p + 2) (48 * j + 4 * k))) b1i b2k b2i b1k
  have t2 := l_mm (a := (zI M (p + 2) (48 * j + 4 * i + 2))) (b := (zI M (p + 2) (48 * j + 4 * k + 1))) (c := (zI M (p + 2) (48 * j + 4 * i + 1))) (d := (zI M (p + 2) (48 * j + 4 * k + 2))) b3i b2k b2i b3k
  have t3 := l_mm (a := (zI M (p + 2) (48 * j + 4 * i))) (b := (zI M (p + 2) (48 * j + 4 * k + 2))) (c := (zI M (p + 2) (48 * j + 4 * i + 2))) (d := (zI M (p + 2) (48 * j + 4 * k))) b1i b3k b3i b1k
  have hT := l_fg hf hg t2 t3
  have e : f.toInt * ((zI M (p + 2) (48 * j + 4 * i + 2)).toInt * (zI M (p + 2) (48 * j + 4 * k + 1)).toInt - (zI M (p + 2) (48 * j + 4 * i + 1)).toInt * (zI M (p + 2) (48 * j + 4 * k + 2)).toInt) + g.toInt * ((zI M (p + 2) (48 * j + 4 * i)).toInt * (zI M (p + 2) (48 * j + 4 * k + 2)).toInt - (zI M (p + 2) (48 * j + 4 * i + 2)).toInt * (zI M (p + 2) (48 * j + 4 * k)).toInt) = gtp f.toInt g.toInt (rg M p j i) (rg M p j k) := by unfold gtp gsd rg; simp only; clear t1 t2 t3 hT; grind
  rw [e] at hT
  clear t2 t3 e
  have ht : gtn (rg M p j i) (rg M p j k) = (zI M (p + 2) (48 * j + 4 * i)).toInt * (zI M (p + 2) (48 * j + 4 * k + 1)).toInt - (zI M (p + 2) (48 * j + 4 * i + 1)).toInt * (zI M (p + 2) (48 * j + 4 * k)).toInt := rfl
  refine za_aload_n hc dI_boundByTwo_0 rfl ?_
  refine za_iload_n hc dI_boundByTwo_1 rfl ?_
  refine za_iload_n hc dI_boundByTwo_2 rfl ?_
  refine za_cV2i hc gsI_74 (by assumption) (cR_x_ l M hp hj hi) ⟨rfl, rfl⟩ ⟨Nat.le_of_ble_eq_true rfl, Nat.le_of_ble_eq_true rfl⟩ ⟨Nat.zero_le _, Nat.zero_le _⟩ dI_boundByTwo_3 (fun x_3 M_3 h_3 => ?_)
  obtain ⟨q_3, hm_3⟩ := h_3
  rw [hm_3, q_3]
  refine za_i2l hc dI_boundByTwo_6 ?_
  refine za_lstore hc dI_boundByTwo_7 (by decide) ?_
  refine za_aload_n hc dI_boundByTwo_9 rfl ?_
  refine za_iload_n hc dI_boundByTwo_10 rfl ?_
  refine za_iload_n hc dI_boundByTwo_11 rfl ?_
  refine za_cV2i hc gsI_70 (by assumption) (cR_y_ l M hp hj hi) ⟨rfl, rfl⟩ ⟨Nat.le_of_ble_eq_true rfl, Nat.le_of_ble_eq_true rfl⟩ ⟨Nat.zero_le _, Nat.zero_le _⟩ dI_boundByTwo_12 (fun x_12 M_12 h_12 => ?_)
  obtain ⟨q_12, hm_12⟩ := h_12
  rw [hm_12, q_12]
  refine za_i2l hc dI_boundByTwo_15 ?_
  refine za_lstore hc dI_boundByTwo_16 (by decide) ?_
  refine za_aload_n hc dI_boundByTwo_18 rfl ?_
  refine za_iload_n hc dI_boundByTwo_19 rfl ?_
  refine za_iload_n hc dI_boundByTwo_20 rfl ?_
  refine za_cV2i hc gsI_77 (by assumption) (cR_bound_ l M hp hj hi) ⟨rfl, rfl⟩ ⟨Nat.le_of_ble_eq_true rfl, Nat.le_of_ble_eq_true rfl⟩ ⟨Nat.zero_le _, Nat.zero_le _⟩ dI_boundByTwo_21 (fun x_21 M_21 h_21 => ?_)
  obtain ⟨q_21, hm_21⟩ := h_21
  rw [hm_21, q_21]
  refine za_i2l hc dI_boundByTwo_24 ?_
  refine za_lstore hc dI_boundByTwo_25 (by decide) ?_
  refine za_lload hc dI_boundByTwo_27 rfl ?_
  refine za_aload_n hc dI_boundByTwo_29 rfl ?_
  refine za_iload_n hc dI_boundByTwo_30 rfl ?_
  refine za_iload hc dI_boundByTwo_31 rfl ?_
  refine za_cV2i hc gsI_70 (by assumption) (cR_y_ l M hp hj hk) ⟨rfl, rfl⟩ ⟨Nat.le_of_ble_eq_true rfl, Nat.le_of_ble_eq_true rfl⟩ ⟨Nat.zero_le _, Nat.zero_le _⟩ dI_boundByTwo_33 (fun x_33 M_33 h_33 => ?_)
  obtain ⟨q_33, hm_33⟩ := h_33
  rw [hm_33, q_33]
  refine za_i2l hc dI_boundByTwo_36 ?_
  refine za_lmul hc dI_boundByTwo_37 ?_
  refine za_lload hc dI_boundByTwo_38 rfl ?_
  refine za_aload_n hc dI_boundByTwo_40 rfl ?_
  refine za_iload_n hc dI_boundByTwo_41 rfl ?_
  refine za_iload hc dI_boundByTwo_42 rfl ?_
  refine za_cV2i hc gsI_74 (by assumption) (cR_x_ l M hp hj hk) ⟨rfl, rfl⟩ ⟨Nat.le_of_ble_eq_true rfl, Nat.le_of_ble_eq_true rfl⟩ ⟨Nat.zero_le _, Nat.zero_le _⟩ dI_boundByTwo_44 (fun x_44 M_44 h_44 => ?_)
  obtain ⟨q_44, hm_44⟩ := h_44
  rw [hm_44, q_44]
  refine za_i2l hc dI_boundByTwo_47 ?_
  refine za_lmul hc dI_boundByTwo_48 ?_
  refine za_lsub hc dI_boundByTwo_49 ?_
  refine za_lstore hc dI_boundByTwo_50 (by decide) ?_
  refine za_lload hc dI_boundByTwo_52 rfl ?_
  refine za_lconst hc 0 dI_boundByTwo_54 rfl ?_
  refine za_lcmp_le 156 hc dI_boundByTwo_55 dI_boundByTwo_56 rfl (fun h_55 => ?_) (fun h_55 => ?_)
  · skip
    have hn : ¬ 0 < gtn (rg M p j i) (rg M p j k) := by rw [ht, ← t1.1]; exact Int.not_lt.mpr (Int64.le_iff_toInt_le.mp h_55)
    exact za_vret hc rfl dI_boundByTwo_156 ⟨Nat.zero_le _, Nat.zero_le _⟩ (by first | exact ⟨rfl, by rw [if_pos (by rw [ht]; exact hn)]; exact r1, r2, r3, r4⟩ | exact ⟨rfl, by rw [if_neg hn], rfl, hz, zfr.rf⟩)
  · skip
    have hn : 0 < gtn (rg M p j i) (rg M p j k) := by rw [ht, ← t1.1]; exact Int.not_le.mp (fun z => h_55 (Int64.le_iff_toInt_le.mpr z))
    rw [ht] at hn
    refine za_lload hc dI_boundByTwo_59 rfl ?_
    refine za_aload_n hc dI_boundByTwo_61 rfl ?_
    refine za_iload_n hc dI_boundByTwo_62 rfl ?_
    refine za_iload hc dI_boundByTwo_63 rfl ?_
    refine za_cV2i hc gsI_70 (by assumption) (cR_y_ l M hp hj hk) ⟨rfl, rfl⟩ ⟨Nat.le_of_ble_eq_true rfl, Nat.le_of_ble_eq_true rfl⟩ ⟨Nat.zero_le _, Nat.zero_le _⟩ dI_boundByTwo_65 (fun x_65 M_65 h_65 => ?_)
    obtain ⟨q_65, hm_65⟩ := h_65
    rw [hm_65, q_65]
    refine za_i2l hc dI_boundByTwo_68 ?_
    refine za_lmul hc dI_boundByTwo_69 ?_
    refine za_lload hc dI_boundByTwo_70 rfl ?_
    refine za_aload_n hc dI_boundByTwo_72 rfl ?_
    refine za_iload_n hc dI_boundByTwo_73 rfl ?_
    refine za_iload hc dI_boundByTwo_74 rfl ?_
    refine za_cV2i hc gsI_77 (by assumption) (cR_bound_ l M hp hj hk) ⟨rfl, rfl⟩ ⟨Nat.le_of_ble_eq_true rfl, Nat.le_of_ble_eq_true rfl⟩ ⟨Nat.zero_le _, Nat.zero_le _⟩ dI_boundByTwo_76 (fun x_76 M_76 h_76 => ?_)
    obtain ⟨q_76, hm_76⟩ := h_76
    rw [hm_76, q_76]
    refine za_i2l hc dI_boundByTwo_79 ?_
    refine za_lmul hc dI_boundByTwo_80 ?_
    refine za_lsub hc dI_boundByTwo_81 ?_
    refine za_lstore hc dI_boundByTwo_82 (by decide) ?_
    refine za_lload hc dI_boundByTwo_84 rfl ?_
    refine za_aload_n hc dI_boundByTwo_86 rfl ?_
    refine za_iload_n hc dI_boundByTwo_87 rfl ?_
    refine za_iload hc dI_boundByTwo_88 rfl ?_
    refine za_cV2i hc gsI_77 (by assumption) (cR_bound_ l M hp hj hk) ⟨rfl, rfl⟩ ⟨Nat.le_of_ble_eq_true rfl, Nat.le_of_ble_eq_true rfl⟩ ⟨Nat.zero_le _, Nat.zero_le _⟩ dI_boundByTwo_90 (fun x_90 M_90 h_90 => ?_)
    obtain ⟨q_90, hm_90⟩ := h_90
    rw [hm_90, q_90]
    refine za_i2l hc dI_boundByTwo_93 ?_
    refine za_lmul hc dI_boundByTwo_94 ?_
    refine za_lload hc dI_boundByTwo_95 rfl ?_
    refine za_aload_n hc dI_boundByTwo_97 rfl ?_
    refine za_iload_n hc dI_boundByTwo_98 rfl ?_
    refine za_iload hc dI_boundByTwo_99 rfl ?_
    refine za_cV2i hc gsI_74 (by assumption) (cR_x_ l M hp hj hk) ⟨rfl, rfl⟩ ⟨Nat.le_of_ble_eq_true rfl, Nat.le_of_ble_eq_true rfl⟩ ⟨Nat.zero_le _, Nat.zero_le _⟩ dI_boundByTwo_101 (fun x_101 M_101 h_101 => ?_)
    obtain ⟨q_101, hm_101⟩ := h_101
    rw [hm_101, q_101]
    refine za_i2l hc dI_boundByTwo_104 ?_
    refine za_lmul hc dI_boundByTwo_105 ?_
    refine za_lsub hc dI_boundByTwo_106 ?_
    refine za_lstore hc dI_boundByTwo_107 (by decide) ?_
    refine za_aload_n hc dI_boundByTwo_109 rfl ?_
    refine za_iload_n hc dI_boundByTwo_110 rfl ?_
    refine za_iload_n hc dI_boundByTwo_111 rfl ?_
    refine za_cV2i hc gsI_80 (by assumption) (cR_isStrict_ l M hp hj hi) ⟨rfl, rfl⟩ ⟨Nat.le_of_ble_eq_true rfl, Nat.le_of_ble_eq_true rfl⟩ ⟨Nat.zero_le _, Nat.zero_le _⟩ dI_boundByTwo_112 (fun x_112 M_112 h_112 => ?_)
    obtain ⟨q_112, hm_112⟩ := h_112
    rw [hm_112, q_112]
    refine za_if_ne 132 hc dI_boundByTwo_115 rfl (fun h_115 => ?_) (fun h_115 => ?_)
    · skip
      have hsg : ((0 : Int32) == 1) = (!(zI M (p + 2) (48 * j + 4 * i + 3) == 1) && !(zI M (p + 2) (48 * j + 4 * k + 3) == 1)) := by by_cases z : zI M (p + 2) (48 * j + 4 * i + 3) = 1; rw [z]; rfl; exact absurd (if_neg z) h_115
      refine za_iconst hc 0 dI_boundByTwo_132 rfl ?_
      refine za_istore hc dI_boundByTwo_133 (by decide) ?_
      refine za_aload_n hc dI_boundByTwo_135 rfl ?_
      refine za_iload hc dI_boundByTwo_136 rfl ?_
      refine za_i2l hc dI_boundByTwo_138 ?_
      refine za_lload hc dI_boundByTwo_139 rfl ?_
      refine za_lmul hc dI_boundByTwo_141 ?_
      refine za_iload hc dI_boundByTwo_142 rfl ?_
      refine za_i2l hc dI_boundByTwo_144 ?_
      refine za_lload hc dI_boundByTwo_145 rfl ?_
      refine za_lmul hc dI_boundByTwo_147 ?_
      refine za_ladd hc dI_boundByTwo_148 ?_
      refine za_lload hc dI_boundByTwo_149 rfl ?_
      refine za_iload hc dI_boundByTwo_151 rfl ?_
      refine za_cV3v hc gsI_84 (by assumption) (cI_raiseRow_ l M _ _ _ hb hz (by rw [hT.1]; exact hT.2) (by rw [t1.1]; omega) (by first | exact Or.inl rfl | exact Or.inr rfl)) ⟨rfl, rfl⟩ ⟨Nat.le_of_ble_eq_true rfl, Nat.le_of_ble_eq_true rfl⟩ ⟨Nat.zero_le _, Nat.zero_le _⟩ dI_boundByTwo_153 (fun M_153 h_153 => ?_)
      obtain ⟨r1, r2, r3, r4⟩ := h_153
      rw [hT.1, t1.1, ← ht, hsg] at r1
      exact za_vret hc rfl dI_boundByTwo_156 ⟨Nat.zero_le _, Nat.zero_le _⟩ (by first | exact ⟨rfl, by rw [if_pos (by rw [ht]; exact hn)]; exact r1, r2, r3, r4⟩ | exact ⟨rfl, by rw [if_neg hn], rfl, hz, zfr.rf⟩)
    · skip
      have z1 : (zI M (p + 2) (48 * j + 4 * i + 3) == 1) = false := by by_cases z : zI M (p + 2) (48 * j + 4 * i + 3) = 1; rw [if_pos z] at h_115; exact absurd h_115 (by decide); simp [z]
      refine za_aload_n hc dI_boundByTwo_118 rfl ?_
      refine za_iload_n hc dI_boundByTwo_119 rfl ?_
      refine za_iload hc dI_boundByTwo_120 rfl ?_
      refine za_cV2i hc gsI_80 (by assumption) (cR_isStrict_ l M hp hj hk) ⟨rfl, rfl⟩ ⟨Nat.le_of_ble_eq_true rfl, Nat.le_of_ble_eq_true rfl⟩ ⟨Nat.zero_le _, Nat.zero_le _⟩ dI_boundByTwo_122 (fun x_122 M_122 h_122 => ?_)
      obtain ⟨q_122, hm_122⟩ := h_122
      rw [hm_122, q_122]
      refine za_if_ne 132 hc dI_boundByTwo_125 rfl (fun h_125 => ?_) (fun h_125 => ?_)
      · skip
        have hsg : ((0 : Int32) == 1) = (!(zI M (p + 2) (48 * j + 4 * i + 3) == 1) && !(zI M (p + 2) (48 * j + 4 * k + 3) == 1)) := by rw [z1]; by_cases z : zI M (p + 2) (48 * j + 4 * k + 3) = 1; rw [z]; rfl; exact absurd (if_neg z) h_125
        refine za_iconst hc 0 dI_boundByTwo_132 rfl ?_
        refine za_istore hc dI_boundByTwo_133 (by decide) ?_
        refine za_aload_n hc dI_boundByTwo_135 rfl ?_
        refine za_iload hc dI_boundByTwo_136 rfl ?_
        refine za_i2l hc dI_boundByTwo_138 ?_
        refine za_lload hc dI_boundByTwo_139 rfl ?_
        refine za_lmul hc dI_boundByTwo_141 ?_
        refine za_iload hc dI_boundByTwo_142 rfl ?_
        refine za_i2l hc dI_boundByTwo_144 ?_
        refine za_lload hc dI_boundByTwo_145 rfl ?_
        refine za_lmul hc dI_boundByTwo_147 ?_
        refine za_ladd hc dI_boundByTwo_148 ?_
        refine za_lload hc dI_boundByTwo_149 rfl ?_
        refine za_iload hc dI_boundByTwo_151 rfl ?_
        refine za_cV3v hc gsI_84 (by assumption) (cI_raiseRow_ l M _ _ _ hb hz (by rw [hT.1]; exact hT.2) (by rw [t1.1]; omega) (by first | exact Or.inl rfl | exact Or.inr rfl)) ⟨rfl, rfl⟩ ⟨Nat.le_of_ble_eq_true rfl, Nat.le_of_ble_eq_true rfl⟩ ⟨Nat.zero_le _, Nat.zero_le _⟩ dI_boundByTwo_153 (fun M_153 h_153 => ?_)
        obtain ⟨r1, r2, r3, r4⟩ := h_153
        rw [hT.1, t1.1, ← ht, hsg] at r1
        exact za_vret hc rfl dI_boundByTwo_156 ⟨Nat.zero_le _, Nat.zero_le _⟩ (by first | exact ⟨rfl, by rw [if_pos (by rw [ht]; exact hn)]; exact r1, r2, r3, r4⟩ | exact ⟨rfl, by rw [if_neg hn], rfl, hz, zfr.rf⟩)
      · skip
        have hsg : ((1 : Int32) == 1) = (!(zI M (p + 2) (48 * j + 4 * i + 3) == 1) && !(zI M (p + 2) (48 * j + 4 * k + 3) == 1)) := by rw [z1]; by_cases z : zI M (p + 2) (48 * j + 4 * k + 3) = 1; rw [if_pos z] at h_125; exact absurd h_125 (by decide); simp [z]
        refine za_iconst hc 1 dI_boundByTwo_128 rfl ?_
        refine za_goto 133 hc dI_boundByTwo_129 rfl ?_
        refine za_istore hc dI_boundByTwo_133 (by decide) ?_
        refine za_aload_n hc dI_boundByTwo_135 rfl ?_
        refine za_iload hc dI_boundByTwo_136 rfl ?_
        refine za_i2l hc dI_boundByTwo_138 ?_
        refine za_lload hc dI_boundByTwo_139 rfl ?_
        refine za_lmul hc dI_boundByTwo_141 ?_
        refine za_iload hc dI_boundByTwo_142 rfl ?_
        refine za_i2l hc dI_boundByTwo_144 ?_
        refine za_lload hc dI_boundByTwo_145 rfl ?_
        refine za_lmul hc dI_boundByTwo_147 ?_
        refine za_ladd hc dI_boundByTwo_148 ?_
        refine za_lload hc dI_boundByTwo_149 rfl ?_
        refine za_iload hc dI_boundByTwo_151 rfl ?_
        refine za_cV3v hc gsI_84 (by assumption) (cI_raiseRow_ l M _ _ _ hb hz (by rw [hT.1]; exact hT.2) (by rw [t1.1]; omega) (by first | exact Or.inl rfl | exact Or.inr rfl)) ⟨rfl, rfl⟩ ⟨Nat.le_of_ble_eq_true rfl, Nat.le_of_ble_eq_true rfl⟩ ⟨Nat.zero_le _, Nat.zero_le _⟩ dI_boundByTwo_153 (fun M_153 h_153 => ?_)
        obtain ⟨r1, r2, r3, r4⟩ := h_153
        rw [hT.1, t1.1, ← ht, hsg] at r1
        exact za_vret hc rfl dI_boundByTwo_156 ⟨Nat.zero_le _, Nat.zero_le _⟩ (by first | exact ⟨rfl, by rw [if_pos (by rw [ht]; exact hn)]; exact r1, r2, r3, r4⟩ | exact ⟨rfl, by rw [if_neg hn], rfl, hz, zfr.rf⟩)
