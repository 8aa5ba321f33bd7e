/-! The model: what tells of the pile. Before a call: pile = h, on top a region of n rows. -/
theorem nI_pr1 {h : Nat} (h1 : 1 ≤ h) : nI h - 1 = nI (h - 1) := by rw [show (1 : Int32) = nI 1 from rfl, pk_sub h1]
theorem nI_lt1 {h : Nat} (hh : h ≤ 6) : (1 : Int32) ≤ nI h ↔ 1 ≤ h := by rw [show (1 : Int32) = nI 1 from rfl]; exact nI_leI (by decide) (by omega)
theorem nI_lt2 {h : Nat} (hh : h ≤ 6) : (2 : Int32) ≤ nI h ↔ 2 ≤ h := by rw [show (2 : Int32) = nI 2 from rfl]; exact nI_leI (by decide) (by omega)
theorem nI_z {h : Nat} (hh : h ≤ 12) : nI h = 0 ↔ h = 0 := ⟨fun z => Nat.le_zero.mp ((nI_leI (by omega) (by decide)).mp (by rw [z]; exact Int32.le_refl _ : nI h ≤ nI 0)), fun z => by rw [z]; rfl⟩
/-- an index that is there, or not -/
theorem ix_or (r : Int32) (n : Nat) (hn : n ≤ 12) : (∃ k, k < n ∧ r = nI k) ∨ (r < 0 ∨ nI n ≤ r) := by
  by_cases h0 : r < 0
  · exact Or.inr (Or.inl h0)
  · by_cases h1 : nI n ≤ r
    · exact Or.inr (Or.inr h1)
    · left
      have a0 : ¬ r.toInt < (0 : Int32).toInt := fun z => h0 (Int32.lt_iff_toInt_lt.mpr z)
      have z0 : (0 : Int32).toInt = 0 := rfl
      have e : r = nI r.toInt.toNat := by
        apply Int32.toInt_inj.mp
        have hb := Int32.toInt_lt r
        rw [nI_toInt (by omega)]; omega
      refine ⟨r.toInt.toNat, ?_, e⟩
      apply Nat.not_le.mp
      intro z
      apply h1
      rw [e]
      exact (nI_leI (by omega) (by have := Int32.toInt_lt r; omega)).mpr z

set_option maxRecDepth 100000 in
set_option maxHeartbeats 4000000 in
theorem cM_pile_ (l : Launch) (M : zM) : zMet l mM_pile rM_pile [.ref 62] M (zqi (fun x M' => x = zI M 62 7 ∧ M' = zsI M 62 0 0)) := by
  refine za_enter (by decide) (Nat.le_of_ble_eq_true rfl) (fun X hc => ?_)
  refine za_aload_n hc dM_pile_0 rfl ?_
  refine za_iconst hc 0 dM_pile_1 rfl ?_
  refine za_putI hc gpM_66 zob_62 dM_pile_2 ?_
  refine za_aload_n hc dM_pile_5 rfl ?_
  refine za_getI hc gfM_220 zob_62 dM_pile_6 ?_
  exact za_iret hc rfl dM_pile_9 ⟨Nat.zero_le _, Nat.zero_le _⟩ (⟨_, rfl, by rw [zI_s, if_neg (by decide)], rfl⟩)

set_option maxRecDepth 100000 in
set_option maxHeartbeats 4000000 in
theorem cM_drop_ (l : Launch) {h : Nat} (M : zM) (hh : h ≤ 6) (hp : zI M 62 7 = nI h) : zMet l mM_drop rM_drop [.ref 62] M (zqi (fun x M' => (h = 0 → x = 0 ∧ M' = zsI M 62 0 0) ∧ (0 < h → x = 1 ∧ M' = zsI (zsI M 62 0 0) 62 7 (nI (h - 1))))) := by
  refine za_enter (by decide) (Nat.le_of_ble_eq_true rfl) (fun X hc => ?_)
  refine za_aload_n hc dM_drop_0 rfl ?_
  refine za_iconst hc 0 dM_drop_1 rfl ?_
  refine za_putI hc gpM_66 zob_62 dM_drop_2 ?_
  refine za_aload_n hc dM_drop_5 rfl ?_
  refine za_getI hc gfM_220 zob_62 dM_drop_6 ?_
  rw [zI_s, if_neg (by decide), hp]
  refine za_if_ne 14 hc dM_drop_9 rfl (fun h_9 => ?_) (fun h_9 => ?_)
  · skip
    have h0 : ¬ h = 0 := fun z => h_9 ((nI_z (by omega)).mpr z)
    refine za_aload_n hc dM_drop_14 rfl ?_
    refine za_dup hc dM_drop_15 rfl ?_
    refine za_getI hc gfM_220 zob_62 dM_drop_16 ?_
    rw [zI_s, if_neg (by decide), hp]
    refine za_iconst hc 1 dM_drop_19 rfl ?_
    refine za_isub hc dM_drop_20 ?_
    rw [nI_pr1 (by omega)]
    refine za_putI hc gpM_220 zob_62 dM_drop_21 ?_
    refine za_iconst hc 1 dM_drop_24 rfl ?_
    exact za_zret hc rfl (rfl) dM_drop_25 ⟨Nat.zero_le _, Nat.zero_le _⟩ (⟨_, rfl, fun z => absurd z (by omega), fun _ => ⟨rfl, rfl⟩⟩)
  · skip
    have h0 : h = 0 := (nI_z (by omega)).mp h_9
    refine za_iconst hc 0 dM_drop_12 rfl ?_
    exact za_zret hc rfl (rfl) dM_drop_13 ⟨Nat.zero_le _, Nat.zero_le _⟩ (⟨_, rfl, fun _ => ⟨rfl, rfl⟩, fun z => absurd z (by omega)⟩)

set_option maxRecDepth 100000 in
set_option maxHeartbeats 4000000 in
theorem cM_rows_ (l : Launch) {h : Nat} (M : zM) (hh : h ≤ 6) (hp : zI M 62 7 = nI h) : zMet l mM_rows rM_rows [.ref 62] M (zqi (fun x M' => (h = 0 → x = 0 ∧ M' = zsI M 62 0 1) ∧ (0 < h → x = zI M 63 (h - 1) ∧ M' = zsI M 62 0 0))) := by
  refine za_enter (by decide) (Nat.le_of_ble_eq_true rfl) (fun X hc => ?_)
  have a63 := ar_63
  have a64 := ar_64
  have a65 := ar_65
  have a66 := ar_66
  have a67 := ar_67
  have a68 := ar_68
  refine za_aload_n hc dM_rows_0 rfl ?_
  refine za_aload_n hc dM_rows_1 rfl ?_
  refine za_getI hc gfM_220 zob_62 dM_rows_2 ?_
  rw [hp]
  refine za_iconst hc 1 dM_rows_5 rfl ?_
  refine za_icmp_ge 13 hc dM_rows_6 rfl (fun h_6 => ?_) (fun h_6 => ?_)
  · skip
    have h1 : 1 ≤ h := (nI_lt1 hh).mp h_6
    refine za_iconst hc 0 dM_rows_13 rfl ?_
    refine za_putI hc gpM_66 zob_62 dM_rows_14 ?_
    refine za_aload_n hc dM_rows_17 rfl ?_
    refine za_getI hc gfM_66 zob_62 dM_rows_18 ?_
    rw [zI_s, if_pos rfl]
    refine za_if_le 28 hc dM_rows_21 rfl (fun h_21 => ?_) (fun h_21 => ?_)
    · skip
      refine za_aload_n hc dM_rows_28 rfl ?_
      refine za_getA hc gfM_7 zob_62 (p := 63) rfl dM_rows_29 ?_
      refine za_aload_n hc dM_rows_32 rfl ?_
      refine za_getI hc gfM_220 zob_62 dM_rows_33 ?_
      rw [zI_s, if_neg (by decide), hp]
      refine za_iconst hc 1 dM_rows_36 rfl ?_
      refine za_isub hc dM_rows_37 ?_
      rw [nI_pr1 (by omega)]
      refine zm_iald hc (by assumption) dM_rows_38 (by omega) (by decide) ?_
      rw [zI_o (by decide)]
      exact za_iret hc rfl dM_rows_39 ⟨Nat.zero_le _, Nat.zero_le _⟩ (⟨_, rfl, fun z => absurd z (by omega), fun _ => ⟨rfl, rfl⟩⟩)
    · skip
      exact absurd (Int32.le_refl _) h_21
  · skip
    have h0 : h = 0 := by have : ¬ 1 ≤ h := fun z => h_6 ((nI_lt1 hh).mpr z); omega
    refine za_iconst hc 1 dM_rows_9 rfl ?_
    refine za_goto 14 hc dM_rows_10 rfl ?_
    refine za_putI hc gpM_66 zob_62 dM_rows_14 ?_
    refine za_aload_n hc dM_rows_17 rfl ?_
    refine za_getI hc gfM_66 zob_62 dM_rows_18 ?_
    rw [zI_s, if_pos rfl]
    refine za_if_le 28 hc dM_rows_21 rfl (fun h_21 => ?_) (fun h_21 => ?_)
    · skip
      exact absurd h_21 (by decide)
    · skip
      refine za_iconst hc 0 dM_rows_24 rfl ?_
      refine za_goto 39 hc dM_rows_25 rfl ?_
      exact za_iret hc rfl dM_rows_39 ⟨Nat.zero_le _, Nat.zero_le _⟩ (⟨_, rfl, fun _ => ⟨rfl, rfl⟩, fun z => absurd z (by omega)⟩)

set_option maxRecDepth 100000 in
set_option maxHeartbeats 4000000 in
theorem cM_isRowThere_ (l : Launch) {h n : Nat} (M : zM) (hh : h ≤ 6) (hp : zI M 62 7 = nI h) (h1 : 1 ≤ h) (r : Int32) (hn : zI M 63 (h - 1) = nI n) : zMet l mM_isRowThere rM_isRowThere [.ref 62, .int r] M (zqi (fun x M' => (x = 0 ∨ x = 1) ∧ (x = 1 ↔ ¬ r < 0 ∧ r < nI n) ∧ M' = M)) := by
  refine za_enter (by decide) (Nat.le_of_ble_eq_true rfl) (fun X hc => ?_)
  have a63 := ar_63
  have a64 := ar_64
  have a65 := ar_65
  have a66 := ar_66
  have a67 := ar_67
  have a68 := ar_68
  refine za_iload_n hc dM_isRowThere_0 rfl ?_
  refine za_if_lt 23 hc dM_isRowThere_1 rfl (fun h_1 => ?_) (fun h_1 => ?_)
  · skip
    have hno : ¬ (¬ r < 0 ∧ r < nI n) := fun z => z.1 h_1
    refine za_iconst hc 0 dM_isRowThere_23 rfl ?_
    exact za_zret hc rfl (rfl) dM_isRowThere_24 ⟨Nat.zero_le _, Nat.zero_le _⟩ (by first | exact ⟨_, rfl, Or.inr rfl, ⟨fun _ => hye, fun _ => rfl⟩, rfl⟩ | exact ⟨_, rfl, Or.inl rfl, ⟨fun z => absurd z (by decide), fun z => absurd z hno⟩, rfl⟩)
  · skip
    refine za_iload_n hc dM_isRowThere_4 rfl ?_
    refine za_aload_n hc dM_isRowThere_5 rfl ?_
    refine za_getA hc gfM_7 zob_62 (p := 63) rfl dM_isRowThere_6 ?_
    refine za_aload_n hc dM_isRowThere_9 rfl ?_
    refine za_getI hc gfM_220 zob_62 dM_isRowThere_10 ?_
    rw [hp]
    refine za_iconst hc 1 dM_isRowThere_13 rfl ?_
    refine za_isub hc dM_isRowThere_14 ?_
    rw [nI_pr1 (by omega)]
    refine zm_iald hc (by assumption) dM_isRowThere_15 (by omega) (by decide) ?_
    rw [hn]
    refine za_icmp_ge 23 hc dM_isRowThere_16 rfl (fun h_16 => ?_) (fun h_16 => ?_)
    · skip
      have hno : ¬ (¬ r < 0 ∧ r < nI n) := fun z => Int32.not_lt.mpr h_16 z.2
      refine za_iconst hc 0 dM_isRowThere_23 rfl ?_
      exact za_zret hc rfl (rfl) dM_isRowThere_24 ⟨Nat.zero_le _, Nat.zero_le _⟩ (by first | exact ⟨_, rfl, Or.inr rfl, ⟨fun _ => hye, fun _ => rfl⟩, rfl⟩ | exact ⟨_, rfl, Or.inl rfl, ⟨fun z => absurd z (by decide), fun z => absurd z hno⟩, rfl⟩)
    · skip
      have hye : ¬ r < 0 ∧ r < nI n := ⟨h_1, Int32.not_le.mp h_16⟩
      refine za_iconst hc 1 dM_isRowThere_19 rfl ?_
      refine za_goto 24 hc dM_isRowThere_20 rfl ?_
      exact za_zret hc rfl (rfl) dM_isRowThere_24 ⟨Nat.zero_le _, Nat.zero_le _⟩ (by first | exact ⟨_, rfl, Or.inr rfl, ⟨fun _ => hye, fun _ => rfl⟩, rfl⟩ | exact ⟨_, rfl, Or.inl rfl, ⟨fun z => absurd z (by decide), fun z => absurd z hno⟩, rfl⟩)

theorem nI_inj2 {r : Int32} {a b : Nat} (h : r = nI a) (h2 : r = nI b) (ha : a < 2 ^ 31 := by omega) (hb : b < 2 ^ 31 := by omega) : a = b := by
  have e : nI a = nI b := h.symm.trans h2
  have t1 := (nI_leI (a := a) (b := b) ha hb).mp (by rw [e]; exact Int32.le_refl _)
  have t2 := (nI_leI (a := b) (b := a) hb ha).mp (by rw [e]; exact Int32.le_refl _)
  omega
