/-! The model: and, not, keep, load. -/
def sG (I : List Nat) (M M1 : zM) : Prop := zbo M1 76 ∧ zbo M1 72 ∧ sbo M1 ∧ m3640 M1 ∧ mK (0 :: 7 :: xI) M M1 ∧ sK I M M1 ∧ zfr mP M M1
theorem sF.g {I : List Nat} {M M1 : zM} (h : sF I M M1) : sG I M M1 := ⟨h.1, h.2.1, h.2.2.1, h.2.2.2.1, h.2.2.2.2.1.wk (fun j hj => List.mem_cons_of_mem _ (List.mem_cons_of_mem _ hj)), h.2.2.2.2.2.1, h.2.2.2.2.2.2⟩
theorem sG.wk {I I' : List Nat} {M M1 : zM} (h : sG I M M1) (hI : ∀ j, j ∈ I → j ∈ I') : sG I' M M1 := ⟨h.1, h.2.1, h.2.2.1, h.2.2.2.1, h.2.2.2.2.1, h.2.2.2.2.2.1.wk hI, h.2.2.2.2.2.2⟩
theorem sG.tr {I : List Nat} {M M1 M2 : zM} (h : sG I M M1) (h' : sG I M1 M2) : sG I M M2 := ⟨h'.1, h'.2.1, h'.2.2.1, h'.2.2.2.1, h.2.2.2.2.1.tr h'.2.2.2.2.1, h.2.2.2.2.2.1.tr h'.2.2.2.2.2.1, h.2.2.2.2.2.2.tr h'.2.2.2.2.2.2⟩
theorem sG.here {I : List Nat} {M M1 : zM} (h : sG I M M1) : sF [] M1 M1 := ⟨h.1, h.2.1, h.2.2.1, h.2.2.2.1, mK.rf, sK.rf, zfr.rf⟩
theorem sG.set {I : List Nat} {M M1 : zM} {j : Nat} {v : Int32} (h : sG I M M1) (hj : j ∈ 0 :: 7 :: xI) (h36 : j ≠ 36) (h39 : j ≠ 39) : sG I M (zsI M1 62 j v) := by
  have fr : zfr m62 M1 (zsI M1 62 j v) := zfr_sI rfl
  exact ⟨zfr_bo (d := 76) fr (by unfold m62; decide) h.1, zfr_bo (d := 72) fr (by unfold m62; decide) h.2.1, sbo_fr h.2.2.1 fr (by unfold m62; decide), m3640_k (I := [j]) h.2.2.2.1 (mK_sI (by simp)) (by simp; omega) (by simp; omega), h.2.2.2.2.1.tr (mK_sI hj), h.2.2.2.2.2.1.tr (sK_fr fr (fun k h1 h2 z => by unfold m62 at z; omega)), h.2.2.2.2.2.2.tr (fr.wk (fun k z => m62_P z))⟩
theorem sH_set {M1 : zM} {r j : Nat} {v : Int32} {R : List (List gC)} (h : sH M1 r R) : sH (zsI M1 62 j v) r R := sH_k (I := []) h (sK_fr (zfr_sI (P := m62) rfl) (fun k h1 h2 z => by unfold m62 at z; omega)) (by simp)
theorem sG.copy {I : List Nat} {M M1 M2 : zM} {r : Nat} (h : sG I M M1) (hr : r ∈ I) (w1 : sK [r] M1 M2) (w2 : sbo M2) (w3 : zfr mS M1 M2) : sG I M M2 := h.tr ((sF.copy (I := I) (h.here.wk (by simp)) hr w1 w2 w3).g)
theorem nI_pr2 {h : Nat} (h2 : 2 ≤ h) : nI h - 2 = nI (h - 2) := by rw [show (2 : Int32) = nI 2 from rfl, pk_sub h2]

set_option maxRecDepth 100000 in
set_option maxHeartbeats 4000000 in
theorem cM_and_ (l : Launch) {h : Nat} {P Q : List (List gC)} (M : zM) (hh : h ≤ 6) (hp : zI M 62 7 = nI h) (hF0 : sF [] M M) (hPQ : 2 ≤ h → sH M (h - 2) P ∧ sH M (h - 1) Q ∧ gRz P ∧ gRz Q) : zMet l mM_and rM_and [.ref 62] M (zqv (fun M' => (h < 2 → M' = zsI M 62 0 1) ∧ (2 ≤ h → (match gAnd P Q with | some R => zI M' 62 0 = 0 ∧ zI M' 62 7 = nI (h - 1) ∧ sH M' (h - 2) R | none => zI M' 62 0 = 2 ∧ zI M' 62 7 = nI h ∧ sG [10] M M') ∧ sG [10, h - 2] M M'))) := by
  refine za_enter (by decide) (Nat.le_of_ble_eq_true rfl) (fun X hc => ?_)
  have a63 := ar_63
  have a64 := ar_64
  have a65 := ar_65
  have a66 := ar_66
  have a67 := ar_67
  have a68 := ar_68
  refine za_aload_n hc dM_and_0 rfl ?_
  refine za_aload_n hc dM_and_1 rfl ?_
  refine za_getI hc gfM_220 zob_62 dM_and_2 ?_
  rw [hp]
  refine za_iconst hc 2 dM_and_5 rfl ?_
  refine za_icmp_ge 13 hc dM_and_6 rfl (fun h_6 => ?_) (fun h_6 => ?_)
  · skip
    have h1 : 2 ≤ h := (nI_lt2 hh).mp h_6
    refine za_iconst hc 0 dM_and_13 rfl ?_
    refine za_putI hc gpM_66 zob_62 dM_and_14 ?_
    refine za_aload_n hc dM_and_17 rfl ?_
    refine za_getI hc gfM_66 zob_62 dM_and_18 ?_
    rw [zI_s, if_pos rfl]
    refine za_if_le 25 hc dM_and_21 rfl (fun h_21 => ?_) (fun h_21 => ?_)
    · skip
      obtain ⟨hP, hQ, hzP, hzQ⟩ := hPQ h1
      have hG2 : sG [10] M (zsI (zsI M 62 0 0) 62 24 0) := ((hF0.g.wk (by simp)).set (j := 0) (by decide) (by decide) (by decide)).set (j := 24) (by decide) (by decide) (by decide)
      refine za_aload_n hc dM_and_25 rfl ?_
      refine za_iconst hc 0 dM_and_26 rfl ?_
      refine za_putZ hc gpM_181 zob_62 (nz01 (by first | exact Or.inl rfl | exact Or.inr rfl)) dM_and_27 ?_
      refine za_aload_n hc dM_and_30 rfl ?_
      refine za_bipush hc (nI 10) dM_and_31 rfl ?_
      refine za_aload_n hc dM_and_33 rfl ?_
      refine za_getI hc gfM_220 zob_62 dM_and_34 ?_
      rw [zI_s, if_neg (by decide), zI_s, if_neg (by decide), hp]
      refine za_iconst hc 2 dM_and_37 rfl ?_
      refine za_isub hc dM_and_38 ?_
      rw [nI_pr2 h1]
      refine za_aload_n hc dM_and_39 rfl ?_
      refine za_getI hc gfM_220 zob_62 dM_and_40 ?_
      rw [zI_s, if_neg (by decide), zI_s, if_neg (by decide), hp]
      refine za_iconst hc 1 dM_and_43 rfl ?_
      refine za_isub hc dM_and_44 ?_
      rw [nI_pr1 (by omega)]
      refine za_cV3v hc gsM_211 zob_62 (cM_both_ l (zsI (zsI M 62 0 0) 62 24 0) (to := 10) (p := h - 2) (q := h - 1) (by decide) (by omega) (by omega) (by omega) (by omega) (sH_set (sH_set hP)) (sH_set (sH_set hQ)) hzP hzQ (by rw [zI_s, if_pos rfl]) hG2.here) ⟨rfl, rfl⟩ ⟨Nat.le_of_ble_eq_true rfl, Nat.le_of_ble_eq_true rfl⟩ ⟨Nat.zero_le _, Nat.zero_le _⟩ dM_and_45 (fun M_45 h_45 => ?_)
      obtain ⟨v1, v2⟩ := h_45
      have hG3 : sG [10] M M_45 := hG2.tr v2.g
      have hp7 : zI M_45 62 7 = nI h := by rw [(v2.2.2.2.2.1 7 (by decide)).1, zI_s, if_neg (by decide), zI_s, if_neg (by decide)]; exact hp
      cases hga : gAnd P Q with
      | none =>
        rw [hga] at v1
        have v3 : zI M_45 62 24 = 1 := v1.1
        refine za_aload_n hc dM_and_48 rfl ?_
        refine za_aload_n hc dM_and_49 rfl ?_
        refine za_getI hc gfM_181 zob_62 dM_and_50 ?_
        rw [v3]
        refine za_if_eq 60 hc dM_and_53 rfl (fun h_53 => ?_) (fun h_53 => ?_)
        · skip
          exact absurd h_53 (by decide)
        · skip
          refine za_iconst hc 2 dM_and_56 rfl ?_
          refine za_goto 61 hc dM_and_57 rfl ?_
          refine za_putI hc gpM_66 zob_62 dM_and_61 ?_
          refine za_aload_n hc dM_and_64 rfl ?_
          refine za_getI hc gfM_181 zob_62 dM_and_65 ?_
          rw [zI_s, if_neg (by decide), v3]
          refine za_if_eq 72 hc dM_and_68 rfl (fun h_68 => ?_) (fun h_68 => ?_)
          · skip
            exact absurd h_68 (by decide)
          · skip
            exact za_vret hc rfl dM_and_71 ⟨Nat.zero_le _, Nat.zero_le _⟩ (⟨rfl, (fun z => absurd z (by omega)), fun _ => ⟨⟨by rw [zI_s, if_pos rfl], by rw [zI_s, if_neg (by decide)]; exact hp7, hG3.set (j := 0) (by decide) (by decide) (by decide)⟩, (hG3.set (j := 0) (by decide) (by decide) (by decide)).wk (by simp)⟩⟩)
      | some R =>
        rw [hga] at v1
        obtain ⟨v3, v4⟩ := v1
        have hG4 : sG [10, h - 2] M (zsI (zsI M_45 62 0 0) 62 7 (nI (h - 1))) := ((hG3.wk (by simp)).set (j := 0) (by decide) (by decide) (by decide)).set (j := 7) (by decide) (by decide) (by decide)
        refine za_aload_n hc dM_and_48 rfl ?_
        refine za_aload_n hc dM_and_49 rfl ?_
        refine za_getI hc gfM_181 zob_62 dM_and_50 ?_
        rw [v3]
        refine za_if_eq 60 hc dM_and_53 rfl (fun h_53 => ?_) (fun h_53 => ?_)
        · skip
          refine za_iconst hc 0 dM_and_60 rfl ?_
          refine za_putI hc gpM_66 zob_62 dM_and_61 ?_
          refine za_aload_n hc dM_and_64 rfl ?_
          refine za_getI hc gfM_181 zob_62 dM_and_65 ?_
          rw [zI_s, if_neg (by decide), v3]
          refine za_if_eq 72 hc dM_and_68 rfl (fun h_68 => ?_) (fun h_68 => ?_)
          · skip
            refine za_aload_n hc dM_and_72 rfl ?_
            refine za_dup hc dM_and_73 rfl ?_
            refine za_getI hc gfM_220 zob_62 dM_and_74 ?_
            rw [zI_s, if_neg (by decide), hp7]
            refine za_iconst hc 1 dM_and_77 rfl ?_
            refine za_isub hc dM_and_78 ?_
            rw [nI_pr1 (by omega)]
            refine za_putI hc gpM_220 zob_62 dM_and_79 ?_
            refine za_aload_n hc dM_and_82 rfl ?_
            refine za_aload_n hc dM_and_83 rfl ?_
            refine za_getI hc gfM_220 zob_62 dM_and_84 ?_
            rw [zI_s, if_pos rfl]
            refine za_iconst hc 1 dM_and_87 rfl ?_
            refine za_isub hc dM_and_88 ?_
            rw [nI_pr1 (by omega), show h - 1 - 1 = h - 2 by omega]
            refine za_bipush hc (nI 10) dM_and_89 rfl ?_
            refine za_cV2v hc gsM_214 zob_62 (cM_copy_ l (zsI (zsI M_45 62 0 0) 62 7 (nI (h - 1))) (to := h - 2) (of := 10) (by omega) (by decide) (by omega) (sH_set (sH_set v4)) hG4.2.2.1) ⟨rfl, rfl⟩ ⟨Nat.le_of_ble_eq_true rfl, Nat.le_of_ble_eq_true rfl⟩ ⟨Nat.zero_le _, Nat.zero_le _⟩ dM_and_91 (fun M_91 h_91 => ?_)
            obtain ⟨y1, y2, y3, y4⟩ := h_91
            have hG5 : sG [10, h - 2] M M_91 := hG4.copy (r := h - 2) (by simp) y2 y3 y4
            have ec : zI M_91 62 = zI (zsI (zsI M_45 62 0 0) 62 7 (nI (h - 1))) 62 := (y4 62 (mS_n (by decide))).1
            exact za_vret hc rfl dM_and_94 ⟨Nat.zero_le _, Nat.zero_le _⟩ (⟨rfl, (fun z => absurd z (by omega)), fun _ => ⟨⟨by rw [ec, zI_s, if_neg (by decide), zI_s, if_pos rfl], by rw [ec, zI_s, if_pos rfl], y1⟩, hG5⟩⟩)
          · skip
            exact absurd rfl h_68
        · skip
          exact absurd rfl h_53
    · skip
      exact absurd (Int32.le_refl _) h_21
  · skip
    have h0 : h < 2 := by have : ¬ 2 ≤ h := fun z => h_6 ((nI_lt2 hh).mpr z); omega
    refine za_iconst hc 1 dM_and_9 rfl ?_
    refine za_goto 14 hc dM_and_10 rfl ?_
    refine za_putI hc gpM_66 zob_62 dM_and_14 ?_
    refine za_aload_n hc dM_and_17 rfl ?_
    refine za_getI hc gfM_66 zob_62 dM_and_18 ?_
    rw [zI_s, if_pos rfl]
    refine za_if_le 25 hc dM_and_21 rfl (fun h_21 => ?_) (fun h_21 => ?_)
    · skip
      exact absurd h_21 (by decide)
    · skip
      exact za_vret hc rfl dM_and_24 ⟨Nat.zero_le _, Nat.zero_le _⟩ (⟨rfl, fun _ => rfl, (fun z => absurd z (by omega))⟩)
