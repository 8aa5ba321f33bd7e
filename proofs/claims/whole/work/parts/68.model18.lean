/-! The model: not, keep, load. -/

set_option maxRecDepth 100000 in
set_option maxHeartbeats 4000000 in
theorem cM_not_ (l : Launch) {h : Nat} {P : List (List gC)} (M : zM) (hh : h ≤ 6) (hp : zI M 62 7 = nI h) (hF0 : sF [] M M) (hPQ : 1 ≤ h → sH M (h - 1) P ∧ gRz P) : zMet l mM_not rM_not [.ref 62] M (zqv (fun M' => (h = 0 → M' = zsI M 62 0 1) ∧ (0 < h → (match gNot P with | some R => zI M' 62 0 = 0 ∧ zI M' 62 7 = nI h ∧ sH M' (h - 1) R | none => zI M' 62 0 = 2 ∧ zI M' 62 7 = nI h ∧ sG [11, 12, 13] M M') ∧ sG [11, 12, 13, h - 1] M M'))) := by
  refine za_enter (by decide) (Nat.le_of_ble_eq_true rfl) (fun X hc => ?_)
  have a63 := ar_63
  have a64 := ar_64
  have a65 := ar_65
  have a66 := ar_66
  have a67 := ar_67
  have a68 := ar_68
  refine za_aload_n hc dM_not_0 rfl ?_
  refine za_aload_n hc dM_not_1 rfl ?_
  refine za_getI hc gfM_220 zob_62 dM_not_2 ?_
  rw [hp]
  refine za_iconst hc 1 dM_not_5 rfl ?_
  refine za_icmp_ge 13 hc dM_not_6 rfl (fun h_6 => ?_) (fun h_6 => ?_)
  · skip
    have h1 : 1 ≤ h := (nI_lt1 hh).mp h_6
    refine za_iconst hc 0 dM_not_13 rfl ?_
    refine za_putI hc gpM_66 zob_62 dM_not_14 ?_
    refine za_aload_n hc dM_not_17 rfl ?_
    refine za_getI hc gfM_66 zob_62 dM_not_18 ?_
    rw [zI_s, if_pos rfl]
    refine za_if_le 25 hc dM_not_21 rfl (fun h_21 => ?_) (fun h_21 => ?_)
    · skip
      obtain ⟨hP, hzP⟩ := hPQ h1
      have hG2 : sG [11, 12, 13] M (zsI (zsI M 62 0 0) 62 24 0) := ((hF0.g.wk (by simp)).set (j := 0) (by decide) (by decide) (by decide)).set (j := 24) (by decide) (by decide) (by decide)
      refine za_aload_n hc dM_not_25 rfl ?_
      refine za_iconst hc 0 dM_not_26 rfl ?_
      refine za_putZ hc gpM_181 zob_62 (nz01 (by first | exact Or.inl rfl | exact Or.inr rfl)) dM_not_27 ?_
      refine za_aload_n hc dM_not_30 rfl ?_
      refine za_aload_n hc dM_not_31 rfl ?_
      refine za_getI hc gfM_220 zob_62 dM_not_32 ?_
      rw [zI_s, if_neg (by decide), zI_s, if_neg (by decide), hp]
      refine za_iconst hc 1 dM_not_35 rfl ?_
      refine za_isub hc dM_not_36 ?_
      rw [nI_pr1 h1]
      refine za_cV1v hc gsM_223 zob_62 (cM_contrary_ l (zsI (zsI M 62 0 0) 62 24 0) (p := h - 1) (by omega) (sH_set (sH_set hP)) hzP (by rw [zI_s, if_pos rfl]) hG2.here) ⟨rfl, rfl⟩ ⟨Nat.le_of_ble_eq_true rfl, Nat.le_of_ble_eq_true rfl⟩ ⟨Nat.zero_le _, Nat.zero_le _⟩ dM_not_37 (fun M_37 h_37 => ?_)
      obtain ⟨v1, v2⟩ := h_37
      have hG3 : sG [11, 12, 13] M M_37 := hG2.tr (v2.g.wk (by simp <;> omega))
      have hp7 : zI M_37 62 7 = nI h := by rw [(v2.2.2.2.2.1 7 (by decide)).1, zI_s, if_neg (by decide), zI_s, if_neg (by decide)]; exact hp
      cases hga : gNot P with
      | none =>
        rw [hga] at v1
        have v3 : zI M_37 62 24 = 1 := v1.1
        refine za_aload_n hc dM_not_40 rfl ?_
        refine za_aload_n hc dM_not_41 rfl ?_
        refine za_getI hc gfM_181 zob_62 dM_not_42 ?_
        rw [v3]
        refine za_if_eq 52 hc dM_not_45 rfl (fun h_45 => ?_) (fun h_45 => ?_)
        · skip
          exact absurd h_45 (by decide)
        · skip
          refine za_iconst hc 2 dM_not_48 rfl ?_
          refine za_goto 53 hc dM_not_49 rfl ?_
          refine za_putI hc gpM_66 zob_62 dM_not_53 ?_
          refine za_aload_n hc dM_not_56 rfl ?_
          refine za_getI hc gfM_181 zob_62 dM_not_57 ?_
          rw [zI_s, if_neg (by decide), v3]
          refine za_if_ne 75 hc dM_not_60 rfl (fun h_60 => ?_) (fun h_60 => ?_)
          · skip
            exact za_vret hc rfl dM_not_75 ⟨Nat.zero_le _, Nat.zero_le _⟩ (⟨rfl, (fun z => absurd z (by omega)), fun _ => ⟨⟨by rw [zI_s, if_pos rfl], by rw [zI_s, if_neg (by decide)]; exact hp7, hG3.set (j := 0) (by decide) (by decide) (by decide)⟩, (hG3.set (j := 0) (by decide) (by decide) (by decide)).wk (by simp <;> omega)⟩⟩)
          · skip
            exact absurd h_60 (by decide)
      | some R =>
        rw [hga] at v1
        obtain ⟨v3, v4⟩ := v1
        have hG4 : sG [11, 12, 13, h - 1] M (zsI M_37 62 0 0) := (hG3.wk (by simp <;> omega)).set (j := 0) (by decide) (by decide) (by decide)
        refine za_aload_n hc dM_not_40 rfl ?_
        refine za_aload_n hc dM_not_41 rfl ?_
        refine za_getI hc gfM_181 zob_62 dM_not_42 ?_
        rw [v3]
        refine za_if_eq 52 hc dM_not_45 rfl (fun h_45 => ?_) (fun h_45 => ?_)
        · skip
          refine za_iconst hc 0 dM_not_52 rfl ?_
          refine za_putI hc gpM_66 zob_62 dM_not_53 ?_
          refine za_aload_n hc dM_not_56 rfl ?_
          refine za_getI hc gfM_181 zob_62 dM_not_57 ?_
          rw [zI_s, if_neg (by decide), v3]
          refine za_if_ne 75 hc dM_not_60 rfl (fun h_60 => ?_) (fun h_60 => ?_)
          · skip
            exact absurd rfl h_60
          · skip
            refine za_aload_n hc dM_not_63 rfl ?_
            refine za_aload_n hc dM_not_64 rfl ?_
            refine za_getI hc gfM_220 zob_62 dM_not_65 ?_
            rw [zI_s, if_neg (by decide), hp7]
            refine za_iconst hc 1 dM_not_68 rfl ?_
            refine za_isub hc dM_not_69 ?_
            rw [nI_pr1 (by omega)]
            refine za_bipush hc (nI 12) dM_not_70 rfl ?_
            refine za_cV2v hc gsM_214 zob_62 (cM_copy_ l (zsI M_37 62 0 0) (to := h - 1) (of := 12) (by omega) (by decide) (by omega) (sH_set v4) hG4.2.2.1) ⟨rfl, rfl⟩ ⟨Nat.le_of_ble_eq_true rfl, Nat.le_of_ble_eq_true rfl⟩ ⟨Nat.zero_le _, Nat.zero_le _⟩ dM_not_72 (fun M_72 h_72 => ?_)
            obtain ⟨y1, y2, y3, y4⟩ := h_72
            have hG5 : sG [11, 12, 13, h - 1] M M_72 := hG4.copy (r := h - 1) (by simp) y2 y3 y4
            have ec : zI M_72 62 = zI (zsI M_37 62 0 0) 62 := (y4 62 (mS_n (by decide))).1
            exact za_vret hc rfl dM_not_75 ⟨Nat.zero_le _, Nat.zero_le _⟩ (⟨rfl, (fun z => absurd z (by omega)), fun _ => ⟨⟨by rw [ec, zI_s, if_pos rfl], by rw [ec, zI_s, if_neg (by decide)]; exact hp7, y1⟩, hG5⟩⟩)
        · skip
          exact absurd rfl h_45
    · skip
      exact absurd (Int32.le_refl _) h_21
  · skip
    have h0 : h = 0 := by have : ¬ 1 ≤ h := fun z => h_6 ((nI_lt1 hh).mpr z); omega
    refine za_iconst hc 1 dM_not_9 rfl ?_
    refine za_goto 14 hc dM_not_10 rfl ?_
    refine za_putI hc gpM_66 zob_62 dM_not_14 ?_
    refine za_aload_n hc dM_not_17 rfl ?_
    refine za_getI hc gfM_66 zob_62 dM_not_18 ?_
    rw [zI_s, if_pos rfl]
    refine za_if_le 25 hc dM_not_21 rfl (fun h_21 => ?_) (fun h_21 => ?_)
    · skip
      exact absurd h_21 (by decide)
    · skip
      exact za_vret hc rfl dM_not_24 ⟨Nat.zero_le _, Nat.zero_le _⟩ (⟨rfl, fun _ => rfl, (fun z => absurd z (by omega))⟩)

set_option maxRecDepth 100000 in
set_option maxHeartbeats 4000000 in
theorem cM_keepB_ (l : Launch) (M : zM) (tb : Int32) (htb : tb < 0 ∨ 3 < tb) : zMet l mM_keep rM_keep [.ref 62, .int tb] M (zqv (fun M' => M' = zsI M 62 0 1)) := by
  refine za_enter (by decide) (Nat.le_of_ble_eq_true rfl) (fun X hc => ?_)
  refine za_aload_n hc dM_keep_0 rfl ?_
  refine za_iload_n hc dM_keep_1 rfl ?_
  refine za_if_lt 10 hc dM_keep_2 rfl (fun h_2 => ?_) (fun h_2 => ?_)
  · skip
    have hz := h_2
    refine za_iconst hc 1 dM_keep_10 rfl ?_
    refine za_goto 27 hc dM_keep_11 rfl ?_
    refine za_putI hc gpM_66 zob_62 dM_keep_27 ?_
    refine za_aload_n hc dM_keep_30 rfl ?_
    refine za_getI hc gfM_66 zob_62 dM_keep_31 ?_
    rw [zI_s, if_pos rfl]
    refine za_if_le 38 hc dM_keep_34 rfl (fun h_34 => ?_) (fun h_34 => ?_)
    · skip
      exact absurd h_34 (by decide)
    · skip
      exact za_vret hc rfl dM_keep_37 ⟨Nat.zero_le _, Nat.zero_le _⟩ (⟨rfl, rfl⟩)
  · skip
    have hz := h_2
    refine za_iload_n hc dM_keep_5 rfl ?_
    refine za_iconst hc 3 dM_keep_6 rfl ?_
    refine za_icmp_le 14 hc dM_keep_7 rfl (fun h_7 => ?_) (fun h_7 => ?_)
    · skip
      exact absurd h_7 (fun w => by rcases htb with z | z; exact h_2 z; exact Int32.not_le.mpr z w)
    · skip
      have hz2 := h_7
      refine za_iconst hc 1 dM_keep_10 rfl ?_
      refine za_goto 27 hc dM_keep_11 rfl ?_
      refine za_putI hc gpM_66 zob_62 dM_keep_27 ?_
      refine za_aload_n hc dM_keep_30 rfl ?_
      refine za_getI hc gfM_66 zob_62 dM_keep_31 ?_
      rw [zI_s, if_pos rfl]
      refine za_if_le 38 hc dM_keep_34 rfl (fun h_34 => ?_) (fun h_34 => ?_)
      · skip
        exact absurd h_34 (by decide)
      · skip
        exact za_vret hc rfl dM_keep_37 ⟨Nat.zero_le _, Nat.zero_le _⟩ (⟨rfl, rfl⟩)

set_option maxRecDepth 100000 in
set_option maxHeartbeats 4000000 in
theorem cM_keep_ (l : Launch) {h t : Nat} {R : List (List gC)} (M : zM) (hh : h ≤ 6) (hp : zI M 62 7 = nI h) (hF0 : sF [] M M) (ht : t < 4) (hP : 1 ≤ h → sH M (h - 1) R) : zMet l mM_keep rM_keep [.ref 62, .int (nI t)] M (zqv (fun M' => (h = 0 → M' = zsI M 62 0 2) ∧ (0 < h → zI M' 62 0 = 0 ∧ zI M' 62 7 = nI (h - 1) ∧ sH M' (6 + t) R ∧ sG [6 + t] M M'))) := by
  refine za_enter (by decide) (Nat.le_of_ble_eq_true rfl) (fun X hc => ?_)
  have a63 := ar_63
  have a64 := ar_64
  have a65 := ar_65
  have a66 := ar_66
  have a67 := ar_67
  have a68 := ar_68
  refine za_aload_n hc dM_keep_0 rfl ?_
  refine za_iload_n hc dM_keep_1 rfl ?_
  refine za_if_lt 10 hc dM_keep_2 rfl (fun h_2 => ?_) (fun h_2 => ?_)
  · skip
    exact absurd h_2 (Int32.not_lt.mpr ((nI_leI (a := 0) (b := t) (by decide) (by omega)).mpr (by omega)))
  · skip
    refine za_iload_n hc dM_keep_5 rfl ?_
    refine za_iconst hc 3 dM_keep_6 rfl ?_
    refine za_icmp_le 14 hc dM_keep_7 rfl (fun h_7 => ?_) (fun h_7 => ?_)
    · skip
      refine za_aload_n hc dM_keep_14 rfl ?_
      refine za_getI hc gfM_220 zob_62 dM_keep_15 ?_
      rw [hp]
      refine za_iconst hc 1 dM_keep_18 rfl ?_
      refine za_icmp_ge 26 hc dM_keep_19 rfl (fun h_19 => ?_) (fun h_19 => ?_)
      · skip
        have h1 : 1 ≤ h := (nI_lt1 hh).mp h_19
        refine za_iconst hc 0 dM_keep_26 rfl ?_
        refine za_putI hc gpM_66 zob_62 dM_keep_27 ?_
        refine za_aload_n hc dM_keep_30 rfl ?_
        refine za_getI hc gfM_66 zob_62 dM_keep_31 ?_
        rw [zI_s, if_pos rfl]
        refine za_if_le 38 hc dM_keep_34 rfl (fun h_34 => ?_) (fun h_34 => ?_)
        · skip
          have hG2 : sG [6 + t] M (zsI (zsI M 62 0 0) 62 7 (nI (h - 1))) := ((hF0.g.wk (by simp)).set (j := 0) (by decide) (by decide) (by decide)).set (j := 7) (by decide) (by decide) (by decide)
          refine za_aload_n hc dM_keep_38 rfl ?_
          refine za_dup hc dM_keep_39 rfl ?_
          refine za_getI hc gfM_220 zob_62 dM_keep_40 ?_
          rw [zI_s, if_neg (by decide), hp]
          refine za_iconst hc 1 dM_keep_43 rfl ?_
          refine za_isub hc dM_keep_44 ?_
          rw [nI_pr1 h1]
          refine za_putI hc gpM_220 zob_62 dM_keep_45 ?_
          refine za_aload_n hc dM_keep_48 rfl ?_
          refine za_bipush hc (nI 6) dM_keep_49 rfl ?_
          refine za_iload_n hc dM_keep_51 rfl ?_
          refine za_iadd hc dM_keep_52 ?_
          rw [nI_add]
          refine za_aload_n hc dM_keep_53 rfl ?_
          refine za_getI hc gfM_220 zob_62 dM_keep_54 ?_
          rw [zI_s, if_pos rfl]
          refine za_cV2v hc gsM_214 zob_62 (cM_copy_ l (zsI (zsI M 62 0 0) 62 7 (nI (h - 1))) (to := 6 + t) (of := h - 1) (by omega) (by omega) (by omega) (sH_set (sH_set (hP h1))) hG2.2.2.1) ⟨rfl, rfl⟩ ⟨Nat.le_of_ble_eq_true rfl, Nat.le_of_ble_eq_true rfl⟩ ⟨Nat.zero_le _, Nat.zero_le _⟩ dM_keep_57 (fun M_57 h_57 => ?_)
          obtain ⟨y1, y2, y3, y4⟩ := h_57
          have hG5 : sG [6 + t] M M_57 := hG2.copy (r := 6 + t) (by simp) y2 y3 y4
          have ec : zI M_57 62 = zI (zsI (zsI M 62 0 0) 62 7 (nI (h - 1))) 62 := (y4 62 (mS_n (by decide))).1
          exact za_vret hc rfl dM_keep_60 ⟨Nat.zero_le _, Nat.zero_le _⟩ (⟨rfl, (fun z => absurd z (by omega)), fun _ => ⟨by rw [ec, zI_s, if_neg (by decide), zI_s, if_pos rfl], by rw [ec, zI_s, if_pos rfl], y1, hG5⟩⟩)
        · skip
          exact absurd (Int32.le_refl _) h_34
      · skip
        have h0 : h = 0 := by have : ¬ 1 ≤ h := fun z => h_19 ((nI_lt1 hh).mpr z); omega
        refine za_iconst hc 2 dM_keep_22 rfl ?_
        refine za_goto 27 hc dM_keep_23 rfl ?_
        refine za_putI hc gpM_66 zob_62 dM_keep_27 ?_
        refine za_aload_n hc dM_keep_30 rfl ?_
        refine za_getI hc gfM_66 zob_62 dM_keep_31 ?_
        rw [zI_s, if_pos rfl]
        refine za_if_le 38 hc dM_keep_34 rfl (fun h_34 => ?_) (fun h_34 => ?_)
        · skip
          exact absurd h_34 (by decide)
        · skip
          exact za_vret hc rfl dM_keep_37 ⟨Nat.zero_le _, Nat.zero_le _⟩ (⟨rfl, fun _ => rfl, (fun z => absurd z (by omega))⟩)
    · skip
      exact absurd ((nI_leI (a := t) (b := 3) (by omega) (by decide)).mpr (by omega)) h_7

set_option maxRecDepth 100000 in
set_option maxHeartbeats 4000000 in
theorem cM_loadB_ (l : Launch) (M : zM) (tb : Int32) (htb : tb < 0 ∨ 3 < tb) : zMet l mM_load rM_load [.ref 62, .int tb] M (zqi (fun x M' => x = 0 ∧ M' = zsI M 62 0 1)) := by
  refine za_enter (by decide) (Nat.le_of_ble_eq_true rfl) (fun X hc => ?_)
  refine za_aload_n hc dM_load_0 rfl ?_
  refine za_iload_n hc dM_load_1 rfl ?_
  refine za_if_lt 10 hc dM_load_2 rfl (fun h_2 => ?_) (fun h_2 => ?_)
  · skip
    have hz := h_2
    refine za_iconst hc 1 dM_load_10 rfl ?_
    refine za_goto 28 hc dM_load_11 rfl ?_
    refine za_putI hc gpM_66 zob_62 dM_load_28 ?_
    refine za_aload_n hc dM_load_31 rfl ?_
    refine za_getI hc gfM_66 zob_62 dM_load_32 ?_
    rw [zI_s, if_pos rfl]
    refine za_if_le 40 hc dM_load_35 rfl (fun h_35 => ?_) (fun h_35 => ?_)
    · skip
      exact absurd h_35 (by decide)
    · skip
      refine za_iconst hc 0 dM_load_38 rfl ?_
      exact za_iret hc rfl dM_load_39 ⟨Nat.zero_le _, Nat.zero_le _⟩ (⟨_, rfl, rfl, rfl⟩)
  · skip
    have hz := h_2
    refine za_iload_n hc dM_load_5 rfl ?_
    refine za_iconst hc 3 dM_load_6 rfl ?_
    refine za_icmp_le 14 hc dM_load_7 rfl (fun h_7 => ?_) (fun h_7 => ?_)
    · skip
      exact absurd h_7 (fun w => by rcases htb with z | z; exact h_2 z; exact Int32.not_le.mpr z w)
    · skip
      have hz2 := h_7
      refine za_iconst hc 1 dM_load_10 rfl ?_
      refine za_goto 28 hc dM_load_11 rfl ?_
      refine za_putI hc gpM_66 zob_62 dM_load_28 ?_
      refine za_aload_n hc dM_load_31 rfl ?_
      refine za_getI hc gfM_66 zob_62 dM_load_32 ?_
      rw [zI_s, if_pos rfl]
      refine za_if_le 40 hc dM_load_35 rfl (fun h_35 => ?_) (fun h_35 => ?_)
      · skip
        exact absurd h_35 (by decide)
      · skip
        refine za_iconst hc 0 dM_load_38 rfl ?_
        exact za_iret hc rfl dM_load_39 ⟨Nat.zero_le _, Nat.zero_le _⟩ (⟨_, rfl, rfl, rfl⟩)

set_option maxRecDepth 100000 in
set_option maxHeartbeats 4000000 in
theorem cM_load_ (l : Launch) {h t : Nat} {R : List (List gC)} (M : zM) (hh : h ≤ 6) (hp : zI M 62 7 = nI h) (hF0 : sF [] M M) (ht : t < 4) (hP : sH M (6 + t) R) : zMet l mM_load rM_load [.ref 62, .int (nI t)] M (zqi (fun x M' => (h = 6 → x = 0 ∧ M' = zsI M 62 0 2) ∧ (h < 6 → x = nI (h + 1) ∧ zI M' 62 0 = 0 ∧ zI M' 62 7 = nI (h + 1) ∧ sH M' h R ∧ sG [h] M M'))) := by
  refine za_enter (by decide) (Nat.le_of_ble_eq_true rfl) (fun X hc => ?_)
  have a63 := ar_63
  have a64 := ar_64
  have a65 := ar_65
  have a66 := ar_66
  have a67 := ar_67
  have a68 := ar_68
  refine za_aload_n hc dM_load_0 rfl ?_
  refine za_iload_n hc dM_load_1 rfl ?_
  refine za_if_lt 10 hc dM_load_2 rfl (fun h_2 => ?_) (fun h_2 => ?_)
  · skip
    exact absurd h_2 (Int32.not_lt.mpr ((nI_leI (a := 0) (b := t) (by decide) (by omega)).mpr (by omega)))
  · skip
    refine za_iload_n hc dM_load_5 rfl ?_
    refine za_iconst hc 3 dM_load_6 rfl ?_
    refine za_icmp_le 14 hc dM_load_7 rfl (fun h_7 => ?_) (fun h_7 => ?_)
    · skip
      refine za_aload_n hc dM_load_14 rfl ?_
      refine za_getI hc gfM_220 zob_62 dM_load_15 ?_
      rw [hp]
      refine za_bipush hc (nI 6) dM_load_18 rfl ?_
      refine za_icmp_ne 27 hc dM_load_20 rfl (fun h_20 => ?_) (fun h_20 => ?_)
      · skip
        have h1 : h < 6 := by have : h ≠ 6 := fun z => h_20 (by rw [z]); omega
        refine za_iconst hc 0 dM_load_27 rfl ?_
        refine za_putI hc gpM_66 zob_62 dM_load_28 ?_
        refine za_aload_n hc dM_load_31 rfl ?_
        refine za_getI hc gfM_66 zob_62 dM_load_32 ?_
        rw [zI_s, if_pos rfl]
        refine za_if_le 40 hc dM_load_35 rfl (fun h_35 => ?_) (fun h_35 => ?_)
        · skip
          have hG2 : sG [h] M (zsI M 62 0 0) := (hF0.g.wk (by simp)).set (j := 0) (by decide) (by decide) (by decide)
          refine za_aload_n hc dM_load_40 rfl ?_
          refine za_aload_n hc dM_load_41 rfl ?_
          refine za_getI hc gfM_220 zob_62 dM_load_42 ?_
          rw [zI_s, if_neg (by decide), hp]
          refine za_bipush hc (nI 6) dM_load_45 rfl ?_
          refine za_iload_n hc dM_load_47 rfl ?_
          refine za_iadd hc dM_load_48 ?_
          rw [nI_add]
          refine za_cV2v hc gsM_214 zob_62 (cM_copy_ l (zsI M 62 0 0) (to := h) (of := 6 + t) (by omega) (by omega) (by omega) (sH_set hP) hG2.2.2.1) ⟨rfl, rfl⟩ ⟨Nat.le_of_ble_eq_true rfl, Nat.le_of_ble_eq_true rfl⟩ ⟨Nat.zero_le _, Nat.zero_le _⟩ dM_load_49 (fun M_49 h_49 => ?_)
          obtain ⟨y1, y2, y3, y4⟩ := h_49
          have hG5 : sG [h] M M_49 := hG2.copy (r := h) (by simp) y2 y3 y4
          have ec : zI M_49 62 = zI (zsI M 62 0 0) 62 := (y4 62 (mS_n (by decide))).1
          have hp7 : zI M_49 62 7 = nI h := by rw [ec, zI_s, if_neg (by decide)]; exact hp
          refine za_aload_n hc dM_load_52 rfl ?_
          refine za_dup hc dM_load_53 rfl ?_
          refine za_getI hc gfM_220 zob_62 dM_load_54 ?_
          rw [hp7]
          refine za_iconst hc 1 dM_load_57 rfl ?_
          refine za_iadd hc dM_load_58 ?_
          rw [show nI h + 1 = nI (h + 1) from (nI_succ _).symm]
          refine za_putI hc gpM_220 zob_62 dM_load_59 ?_
          refine za_aload_n hc dM_load_62 rfl ?_
          refine za_getI hc gfM_220 zob_62 dM_load_63 ?_
          rw [zI_s, if_pos rfl]
          exact za_iret hc rfl dM_load_66 ⟨Nat.zero_le _, Nat.zero_le _⟩ (⟨_, rfl, (fun z => absurd z (by omega)), fun _ => ⟨rfl, by rw [zI_s, if_neg (by decide), ec, zI_s, if_pos rfl], by rw [zI_s, if_pos rfl], sH_set y1, hG5.set (j := 7) (by decide) (by decide) (by decide)⟩⟩)
        · skip
          exact absurd (Int32.le_refl _) h_35
      · skip
        have h0 : h = 6 := by have := (nI_leI (a := 6) (b := h) (by decide) (by omega)).mp (by rw [h_20]; exact Int32.le_refl _); omega
        refine za_iconst hc 2 dM_load_23 rfl ?_
        refine za_goto 28 hc dM_load_24 rfl ?_
        refine za_putI hc gpM_66 zob_62 dM_load_28 ?_
        refine za_aload_n hc dM_load_31 rfl ?_
        refine za_getI hc gfM_66 zob_62 dM_load_32 ?_
        rw [zI_s, if_pos rfl]
        refine za_if_le 40 hc dM_load_35 rfl (fun h_35 => ?_) (fun h_35 => ?_)
        · skip
          exact absurd h_35 (by decide)
        · skip
          refine za_iconst hc 0 dM_load_38 rfl ?_
          exact za_iret hc rfl dM_load_39 ⟨Nat.zero_le _, Nat.zero_le _⟩ (⟨_, rfl, fun _ => ⟨rfl, rfl⟩, (fun z => absurd z (by omega))⟩)
    · skip
      exact absurd ((nI_leI (a := t) (b := 3) (by omega) (by decide)).mpr (by omega)) h_7
