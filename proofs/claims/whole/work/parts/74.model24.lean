/-! The model: row. -/

set_option maxRecDepth 100000 in
set_option maxHeartbeats 4000000 in
theorem cM_row_ (l : Launch) {h : Nat} {cs : List gC} (M : zM) (hh : h ≤ 6) (hp : zI M 62 7 = nI h) (hF0 : sF [] M M) (hC : cH M cs) : zMet l mM_row rM_row [.ref 62] M (zqi (fun x M' => (h = 6 → x = 0 ∧ M' = zsI M 62 0 1) ∧ (h < 6 → x = nI (h + 1) ∧ ∃ M8, sG [h] M M8 ∧ zI M8 62 0 = 0 ∧ zI M8 62 7 = nI h ∧ M' = zsI (zsI M8 62 8 0) 62 7 (nI (h + 1)) ∧ ∀ R, gadd [] (cs.foldl gput []) = some R → sH M8 h R))) := by
  refine za_enter (by decide) (Nat.le_of_ble_eq_true rfl) (fun X hc => ?_)
  have a63 := ar_63
  have a64 := ar_64
  have a65 := ar_65
  have a66 := ar_66
  have a67 := ar_67
  have a68 := ar_68
  have a73 := ar_73
  have a74 := ar_74
  have a75 := ar_75
  have a76 := ar_76
  have a69 := ar_69
  have a70 := ar_70
  have a71 := ar_71
  have a72 := ar_72
  have hcl := hC.2.1
  have END : h < 6 → ∀ M1 : zM, mH M1 cs → zI M1 62 14 = 0 → mK [13, 14] (mBg (zsI (zsI (zsI M 62 0 0) 62 24 0) 63 h 0)) M1 → zfr mA (mBg (zsI (zsI (zsI M 62 0 0) 62 24 0) 63 h 0)) M1 → zW X (zqi (fun x M' => (h = 6 → x = 0 ∧ M' = zsI M 62 0 1) ∧ (h < 6 → x = nI (h + 1) ∧ ∃ M8, sG [h] M M8 ∧ zI M8 62 0 = 0 ∧ zI M8 62 7 = nI h ∧ M' = zsI (zsI M8 62 8 0) 62 7 (nI (h + 1)) ∧ ∀ R, gadd [] (cs.foldl gput []) = some R → sH M8 h R))) (0, 0) 93 [(0, .ref 62), (1, .int (nI cs.length))] [] M1 := by
    intro h6 M1 hm hnv hk hf
    have hG2 : sG [h] M (zsI (zsI M 62 0 0) 62 24 0) := ((hF0.g.wk (by simp)).set (j := 0) (by decide) (by decide) (by decide)).set (j := 24) (by decide) (by decide) (by decide)
    have hF3 : sF [h] (zsI (zsI M 62 0 0) 62 24 0) (zsI (zsI (zsI M 62 0 0) 62 24 0) 63 h 0) := (hG2.here.wk (by simp)).clr (r := h) (by simp)
    have hF4 : sF [h] (zsI (zsI M 62 0 0) 62 24 0) M1 := hF3.bg.add hk hf hm.2.2.2
    have hS4 : sH M1 h [] := sH_k (I := []) (sH_clear (M := (zsI (zsI M 62 0 0) 62 24 0)) (r := h)) ((sK_fr (mBg_fr (M := (zsI (zsI (zsI M 62 0 0) 62 24 0) 63 h 0))) (fun k h1 h2 z => by unfold m62 at z; omega)).tr (sK_fr hf mA_s)) (by simp)
    have hps4 : zI M1 62 24 = 0 := by rw [(hk 24 (by decide)).1, (mBg_k 24 (by decide)).1, zI_o (by decide), zI_s, if_pos rfl]
    have hp4 : zI M1 62 7 = nI h := by rw [(hk 7 (by decide)).1, (mBg_k 7 (by decide)).1]; rw [zI_o (by decide), zI_s, if_neg (by decide), zI_s, if_neg (by decide), hp]
    have hc4 : zI M1 62 0 = 0 := by rw [(hk 0 (by decide)).1, (mBg_k 0 (by decide)).1, zI_o (by decide), zI_s, if_neg (by decide), zI_s, if_pos rfl]
    refine za_aload_n hc dM_row_93 rfl ?_
    refine za_aload_n hc dM_row_94 rfl ?_
    refine za_getI hc gfM_220 zob_62 dM_row_95 ?_
    rw [hp4]
    refine za_cV1v hc gsM_205 zob_62 (cM_put_ l M1 (r := h) (by omega) hS4 hm (mOK_lim (fun q hq => (hC.2.2.2.1 q hq).1) (fun q hq => (hC.2.2.2.1 q hq).2)) hps4 hnv hF4.1 hF4.2.2.1 hF4.2.2.2.1) ⟨rfl, rfl⟩ ⟨Nat.le_of_ble_eq_true rfl, Nat.le_of_ble_eq_true rfl⟩ ⟨Nat.zero_le _, Nat.zero_le _⟩ dM_row_98 (fun M_98 h_98 => ?_)
    obtain ⟨v1, v2, v3, v4, v5, v6, v7⟩ := h_98
    have hF5 : sF [h] (zsI (zsI M 62 0 0) 62 24 0) M_98 := hF4.put (r := h) (by simp) v2 v3 v4 v5 v6 v7
    have hp8 : zI M_98 62 7 = nI h := by rw [(v5 7 (by decide)).1]; exact hp4
    refine za_aload_n hc dM_row_101 rfl ?_
    refine za_iconst hc 0 dM_row_102 rfl ?_
    refine za_putI hc gpM_217 zob_62 dM_row_103 ?_
    refine za_aload_n hc dM_row_106 rfl ?_
    refine za_dup hc dM_row_107 rfl ?_
    refine za_getI hc gfM_220 zob_62 dM_row_108 ?_
    rw [zI_s, if_neg (by decide), hp8]
    refine za_iconst hc 1 dM_row_111 rfl ?_
    refine za_iadd hc dM_row_112 ?_
    rw [show nI h + 1 = nI (h + 1) from (nI_succ _).symm]
    refine za_putI hc gpM_220 zob_62 dM_row_113 ?_
    refine za_aload_n hc dM_row_116 rfl ?_
    refine za_getI hc gfM_220 zob_62 dM_row_117 ?_
    rw [zI_s, if_pos rfl]
    exact za_iret hc rfl dM_row_120 ⟨Nat.zero_le _, Nat.zero_le _⟩ (⟨_, rfl, (fun z => absurd z (by omega)), fun _ => ⟨rfl, M_98, hG2.tr hF5.g, by rw [(v5 0 (by decide)).1]; exact hc4, hp8, rfl, fun R hR => by rw [hR] at v1; exact v1.2⟩⟩)
  have loop : h < 6 → ∀ (n k : Nat) (M1 : zM), n + k = cs.length → mH M1 (cs.take k) → zI M1 62 14 = 0 → mK [13, 14] (mBg (zsI (zsI (zsI M 62 0 0) 62 24 0) 63 h 0)) M1 → zfr mA (mBg (zsI (zsI (zsI M 62 0 0) 62 24 0) 63 h 0)) M1 → zW X (zqi (fun x M' => (h = 6 → x = 0 ∧ M' = zsI M 62 0 1) ∧ (h < 6 → x = nI (h + 1) ∧ ∃ M8, sG [h] M M8 ∧ zI M8 62 0 = 0 ∧ zI M8 62 7 = nI h ∧ M' = zsI (zsI M8 62 8 0) 62 7 (nI (h + 1)) ∧ ∀ R, gadd [] (cs.foldl gput []) = some R → sH M8 h R))) (0, 0) 48 [(0, .ref 62), (1, .int (nI k))] [] M1 := by
    intro h6 n
    induction n with
    | zero =>
      intro k M1 hn hm hnv hk hf
      obtain rfl : k = cs.length := by omega
      rw [List.take_length] at hm
      have hc8 : zI M1 62 8 = nI cs.length := by rw [(hk 8 (by decide)).1, (mBg_k 8 (by decide)).1, zI_o (by decide), zI_s, if_neg (by decide), zI_s, if_neg (by decide)]; exact hC.1
      refine za_iload_n hc dM_row_48 rfl ?_
      refine za_aload_n hc dM_row_49 rfl ?_
      refine za_getI hc gfM_217 zob_62 dM_row_50 ?_
      rw [hc8]
      refine za_icmp_ge 93 hc dM_row_53 rfl (fun h_53 => ?_) (fun h_53 => ?_)
      · skip
        exact END h6 M1 hm hnv hk hf
      · skip
        exact absurd (Int32.le_refl _) h_53
    | succ n ih =>
      intro k M1 hn hm hnv hk hf
      have hc8 : zI M1 62 8 = nI cs.length := by rw [(hk 8 (by decide)).1, (mBg_k 8 (by decide)).1, zI_o (by decide), zI_s, if_neg (by decide), zI_s, if_neg (by decide)]; exact hC.1
      have hri := List.getElem?_eq_getElem (l := cs) (show k < cs.length by omega)
      generalize hme : cs[k] = m at hri
      have dk := hC.2.2.1 k m hri
      have hzm := (hC.2.2.2.1 m (List.mem_of_getElem? hri)).2
      have e69 : zI M1 69 = zI M 69 := (hf 69 (by unfold mA; omega)).1
      have e70 : zI M1 70 = zI M 70 := (hf 70 (by unfold mA; omega)).1
      have e71 : zI M1 71 = zI M 71 := (hf 71 (by unfold mA; omega)).1
      have e72 : zI M1 72 = zI M 72 := (hf 72 (by unfold mA; omega)).1
      have em : ((zI M 69 k).toInt64.toInt, (zI M 70 k).toInt64.toInt, (zI M 71 k).toInt64.toInt, zI M 72 k == 1) = m := by rw [i2l_int, i2l_int, i2l_int]; exact dk
      have hz2 : ¬ ((zI M 69 k).toInt64.toInt = 0 ∧ (zI M 70 k).toInt64.toInt = 0) := by rw [← em] at hzm; exact hzm
      have et : cs.take (k + 1) = cs.take k ++ [m] := by rw [List.take_add_one, hri]; rfl
      refine za_iload_n hc dM_row_48 rfl ?_
      refine za_aload_n hc dM_row_49 rfl ?_
      refine za_getI hc gfM_217 zob_62 dM_row_50 ?_
      rw [hc8]
      refine za_icmp_ge 93 hc dM_row_53 rfl (fun h_53 => ?_) (fun h_53 => ?_)
      · skip
        exact absurd ((nI_leI (by omega) (by omega)).mp h_53) (by omega)
      · skip
        refine za_aload_n hc dM_row_56 rfl ?_
        refine za_aload_n hc dM_row_57 rfl ?_
        refine za_getA hc gfM_29 zob_62 (p := 69) rfl dM_row_58 ?_
        refine za_iload_n hc dM_row_61 rfl ?_
        refine zm_iald hc (by assumption) dM_row_62 (by omega) (by decide) ?_
        rw [e69]
        refine za_i2l hc dM_row_63 ?_
        refine za_aload_n hc dM_row_64 rfl ?_
        refine za_getA hc gfM_32 zob_62 (p := 70) rfl dM_row_65 ?_
        refine za_iload_n hc dM_row_68 rfl ?_
        refine zm_iald hc (by assumption) dM_row_69 (by omega) (by decide) ?_
        rw [e70]
        refine za_i2l hc dM_row_70 ?_
        refine za_aload_n hc dM_row_71 rfl ?_
        refine za_getA hc gfM_35 zob_62 (p := 71) rfl dM_row_72 ?_
        refine za_iload_n hc dM_row_75 rfl ?_
        refine zm_iald hc (by assumption) dM_row_76 (by omega) (by decide) ?_
        rw [e71]
        refine za_i2l hc dM_row_77 ?_
        refine za_aload_n hc dM_row_78 rfl ?_
        refine za_getA hc gfM_38 zob_62 (p := 72) rfl dM_row_79 ?_
        refine za_iload_n hc dM_row_82 rfl ?_
        refine zm_zald hc (by assumption) dM_row_83 (by omega) (by decide) ?_
        rw [e72]
        refine za_cV4v hc gsM_153 zob_62 (cM_add_ l M1 _ _ _ _ hm (by rw [List.length_take]; omega) (hC.2.2.2.2 _) hnv (fun z => absurd z hz2)) ⟨rfl, rfl⟩ ⟨Nat.le_of_ble_eq_true rfl, Nat.le_of_ble_eq_true rfl⟩ ⟨Nat.zero_le _, Nat.zero_le _⟩ dM_row_84 (fun M_84 h_84 => ?_)
        obtain ⟨w1, w2, w3, w4⟩ := h_84
        rw [if_neg hz2, em, ← et] at w1
        refine za_iinc hc _ dM_row_87 rfl ((nI_succ k).symm) (by decide) ?_
        refine za_goto 48 hc dM_row_90 rfl ?_
        exact ih (k + 1) M_84 (by omega) w1 w2 (hk.tr w3) (hf.tr w4)
  refine za_aload_n hc dM_row_0 rfl ?_
  refine za_aload_n hc dM_row_1 rfl ?_
  refine za_getI hc gfM_220 zob_62 dM_row_2 ?_
  rw [hp]
  refine za_bipush hc (nI 6) dM_row_5 rfl ?_
  refine za_icmp_ne 14 hc dM_row_7 rfl (fun h_7 => ?_) (fun h_7 => ?_)
  · skip
    have h6 : h < 6 := by have : h ≠ 6 := fun z => h_7 (by rw [z]); omega
    refine za_iconst hc 0 dM_row_14 rfl ?_
    refine za_putI hc gpM_66 zob_62 dM_row_15 ?_
    refine za_aload_n hc dM_row_18 rfl ?_
    refine za_getI hc gfM_66 zob_62 dM_row_19 ?_
    rw [zI_s, if_pos rfl]
    refine za_if_le 27 hc dM_row_22 rfl (fun h_22 => ?_) (fun h_22 => ?_)
    · skip
      refine za_aload_n hc dM_row_27 rfl ?_
      refine za_iconst hc 0 dM_row_28 rfl ?_
      refine za_putZ hc gpM_181 zob_62 (nz01 (by first | exact Or.inl rfl | exact Or.inr rfl)) dM_row_29 ?_
      refine za_aload_n hc dM_row_32 rfl ?_
      refine za_getA hc gfM_7 zob_62 (p := 63) rfl dM_row_33 ?_
      refine za_aload_n hc dM_row_36 rfl ?_
      refine za_getI hc gfM_220 zob_62 dM_row_37 ?_
      rw [zI_s, if_neg (by decide), zI_s, if_neg (by decide), hp]
      refine za_iconst hc 0 dM_row_40 rfl ?_
      refine zm_iast hc (by assumption) dM_row_41 (by omega) (by decide) ?_
      refine za_aload_n hc dM_row_42 rfl ?_
      refine za_cV0v hc gsM_198 zob_62 (cM_begin_ l (zsI (zsI (zsI M 62 0 0) 62 24 0) 63 h 0)) ⟨rfl, rfl⟩ ⟨Nat.le_of_ble_eq_true rfl, Nat.le_of_ble_eq_true rfl⟩ ⟨Nat.zero_le _, Nat.zero_le _⟩ dM_row_43 (fun M_43 h_43 => ?_)
      have hmb : M_43 = (mBg (zsI (zsI (zsI M 62 0 0) 62 24 0) 63 h 0)) := h_43
      subst hmb
      refine za_iconst hc 0 dM_row_46 rfl ?_
      refine za_istore_n hc dM_row_47 (by decide) ?_
      exact loop h6 cs.length 0 (mBg (zsI (zsI (zsI M 62 0 0) 62 24 0) 63 h 0)) (by omega) (mBg_H (zfr_bo (d := 72) (P := fun k => k ≤ 63) (((zfr_sI (P := fun k => k ≤ 63) (by decide)).tr (zfr_sI (P := fun k => k ≤ 63) (by decide))).tr (zfr_sI (P := fun k => k ≤ 63) (by decide))) (by decide) hF0.2.1)) mBg_n mK.rf zfr.rf
    · skip
      exact absurd (Int32.le_refl _) h_22
  · skip
    have h6 : h = 6 := nI_inj3 h_7 (by omega) (by decide)
    refine za_iconst hc 1 dM_row_10 rfl ?_
    refine za_goto 15 hc dM_row_11 rfl ?_
    refine za_putI hc gpM_66 zob_62 dM_row_15 ?_
    refine za_aload_n hc dM_row_18 rfl ?_
    refine za_getI hc gfM_66 zob_62 dM_row_19 ?_
    rw [zI_s, if_pos rfl]
    refine za_if_le 27 hc dM_row_22 rfl (fun h_22 => ?_) (fun h_22 => ?_)
    · skip
      exact absurd h_22 (by decide)
    · skip
      refine za_iconst hc 0 dM_row_25 rfl ?_
      exact za_iret hc rfl dM_row_26 ⟨Nat.zero_le _, Nat.zero_le _⟩ (⟨_, rfl, fun _ => ⟨rfl, rfl⟩, (fun z => absurd z (by omega))⟩)
