/-! The model: or. -/
theorem gor1_c (acc : List (List gC)) (q : List gC) (t : List (List gC)) : gor1 acc (q :: t) = match gadd acc (q.foldl gput []) with | some a => gor1 a t | none => none := by rw [gor1]; cases gadd acc (q.foldl gput []) <;> rfl

set_option maxRecDepth 100000 in
set_option maxHeartbeats 4000000 in
theorem cM_or_ (l : Launch) {h : Nat} {P Q : List (List gC)} (M : zM) (hh : h ≤ 6) (hp : zI M 62 7 = nI h) (hF0 : sF [] M M) (hPQ : 2 ≤ h → sH M (h - 2) P ∧ sH M (h - 1) Q ∧ gRz P ∧ gRz Q) : zMet l mM_or rM_or [.ref 62] M (zqv (fun M' => (h < 2 → M' = zsI M 62 0 1) ∧ (2 ≤ h → (match gor1 P Q with | some R => zI M' 62 0 = 0 ∧ zI M' 62 7 = nI (h - 1) ∧ sH M' (h - 2) R | none => zI M' 62 0 = 2 ∧ zI M' 62 7 = nI h ∧ sG [10] M M') ∧ sG [10, h - 2] M M'))) := by
  refine za_enter (by decide) (Nat.le_of_ble_eq_true rfl) (fun X hc => ?_)
  have a63 := ar_63
  have a64 := ar_64
  have a65 := ar_65
  have a66 := ar_66
  have a67 := ar_67
  have a68 := ar_68
  have a73 := ar_73
  have a74 := ar_74
  have a75 := ar_75
  have a76 := ar_76
  have E1 : 2 ≤ h → gor1 P Q = none → ∀ (x : Int32) (M1 : zM), zI M1 62 24 = 1 → zI M1 62 7 = nI h → sG [10] M M1 → zW X (zqv (fun M' => (h < 2 → M' = zsI M 62 0 1) ∧ (2 ≤ h → (match gor1 P Q with | some R => zI M' 62 0 = 0 ∧ zI M' 62 7 = nI (h - 1) ∧ sH M' (h - 2) R | none => zI M' 62 0 = 2 ∧ zI M' 62 7 = nI h ∧ sG [10] M M') ∧ sG [10, h - 2] M M'))) (0, 0) 109 [(0, .ref 62), (1, .int x)] [] M1 := by
    intro h1 hga x M1 v3 hp7 hG3
    refine za_aload_n hc dM_or_109 rfl ?_
    refine za_aload_n hc dM_or_110 rfl ?_
    refine za_getI hc gfM_181 zob_62 dM_or_111 ?_
    rw [v3]
    refine za_if_eq 121 hc dM_or_114 rfl (fun h_114 => ?_) (fun h_114 => ?_)
    · skip
      exact absurd h_114 (by decide)
    · skip
      refine za_iconst hc 2 dM_or_117 rfl ?_
      refine za_goto 122 hc dM_or_118 rfl ?_
      refine za_putI hc gpM_66 zob_62 dM_or_122 ?_
      refine za_aload_n hc dM_or_125 rfl ?_
      refine za_getI hc gfM_181 zob_62 dM_or_126 ?_
      rw [zI_s, if_neg (by decide), v3]
      refine za_if_eq 133 hc dM_or_129 rfl (fun h_129 => ?_) (fun h_129 => ?_)
      · skip
        exact absurd h_129 (by decide)
      · skip
        exact za_vret hc rfl dM_or_132 ⟨Nat.zero_le _, Nat.zero_le _⟩ (⟨rfl, (fun z => absurd z (by omega)), fun _ => ⟨by rw [hga]; exact ⟨by rw [zI_s, if_pos rfl], by rw [zI_s, if_neg (by decide)]; exact hp7, hG3.set (j := 0) (by decide) (by decide) (by decide)⟩, (hG3.set (j := 0) (by decide) (by decide) (by decide)).wk (by simp)⟩⟩)
  have E2 : 2 ≤ h → ∀ R, gor1 P Q = some R → ∀ (x : Int32) (M1 : zM), zI M1 62 24 = 0 → sH M1 10 R → zI M1 62 7 = nI h → sG [10] M M1 → zW X (zqv (fun M' => (h < 2 → M' = zsI M 62 0 1) ∧ (2 ≤ h → (match gor1 P Q with | some R => zI M' 62 0 = 0 ∧ zI M' 62 7 = nI (h - 1) ∧ sH M' (h - 2) R | none => zI M' 62 0 = 2 ∧ zI M' 62 7 = nI h ∧ sG [10] M M') ∧ sG [10, h - 2] M M'))) (0, 0) 109 [(0, .ref 62), (1, .int x)] [] M1 := by
    intro h1 R hga x M1 v3 v4 hp7 hG3
    have hG4 : sG [10, h - 2] M (zsI (zsI M1 62 0 0) 62 7 (nI (h - 1))) := ((hG3.wk (by simp)).set (j := 0) (by decide) (by decide) (by decide)).set (j := 7) (by decide) (by decide) (by decide)
    refine za_aload_n hc dM_or_109 rfl ?_
    refine za_aload_n hc dM_or_110 rfl ?_
    refine za_getI hc gfM_181 zob_62 dM_or_111 ?_
    rw [v3]
    refine za_if_eq 121 hc dM_or_114 rfl (fun h_114 => ?_) (fun h_114 => ?_)
    · skip
      refine za_iconst hc 0 dM_or_121 rfl ?_
      refine za_putI hc gpM_66 zob_62 dM_or_122 ?_
      refine za_aload_n hc dM_or_125 rfl ?_
      refine za_getI hc gfM_181 zob_62 dM_or_126 ?_
      rw [zI_s, if_neg (by decide), v3]
      refine za_if_eq 133 hc dM_or_129 rfl (fun h_129 => ?_) (fun h_129 => ?_)
      · skip
        refine za_aload_n hc dM_or_133 rfl ?_
        refine za_dup hc dM_or_134 rfl ?_
        refine za_getI hc gfM_220 zob_62 dM_or_135 ?_
        rw [zI_s, if_neg (by decide), hp7]
        refine za_iconst hc 1 dM_or_138 rfl ?_
        refine za_isub hc dM_or_139 ?_
        rw [nI_pr1 (by omega)]
        refine za_putI hc gpM_220 zob_62 dM_or_140 ?_
        refine za_aload_n hc dM_or_143 rfl ?_
        refine za_aload_n hc dM_or_144 rfl ?_
        refine za_getI hc gfM_220 zob_62 dM_or_145 ?_
        rw [zI_s, if_pos rfl]
        refine za_iconst hc 1 dM_or_148 rfl ?_
        refine za_isub hc dM_or_149 ?_
        rw [nI_pr1 (by omega), show h - 1 - 1 = h - 2 by omega]
        refine za_bipush hc (nI 10) dM_or_150 rfl ?_
        refine za_cV2v hc gsM_214 zob_62 (cM_copy_ l (zsI (zsI M1 62 0 0) 62 7 (nI (h - 1))) (to := h - 2) (of := 10) (by omega) (by decide) (by omega) (sH_set (sH_set v4)) hG4.2.2.1) ⟨rfl, rfl⟩ ⟨Nat.le_of_ble_eq_true rfl, Nat.le_of_ble_eq_true rfl⟩ ⟨Nat.zero_le _, Nat.zero_le _⟩ dM_or_152 (fun M_152 h_152 => ?_)
        obtain ⟨y1, y2, y3, y4⟩ := h_152
        have hG5 : sG [10, h - 2] M M_152 := hG4.copy (r := h - 2) (by simp) y2 y3 y4
        have ec : zI M_152 62 = zI (zsI (zsI M1 62 0 0) 62 7 (nI (h - 1))) 62 := (y4 62 (mS_n (by decide))).1
        exact za_vret hc rfl dM_or_155 ⟨Nat.zero_le _, Nat.zero_le _⟩ (⟨rfl, (fun z => absurd z (by omega)), fun _ => ⟨by rw [hga]; exact ⟨by rw [ec, zI_s, if_neg (by decide), zI_s, if_pos rfl], by rw [ec, zI_s, if_pos rfl], y1⟩, hG5⟩⟩)
      · skip
        exact absurd rfl h_129
    · skip
      exact absurd rfl h_114
  have STOP : 2 ≤ h → gor1 P Q = none → ∀ (x : Int32) (M1 : zM), zI M1 62 24 = 1 → zI M1 62 7 = nI h → sG [10] M M1 → zW X (zqv (fun M' => (h < 2 → M' = zsI M 62 0 1) ∧ (2 ≤ h → (match gor1 P Q with | some R => zI M' 62 0 = 0 ∧ zI M' 62 7 = nI (h - 1) ∧ sH M' (h - 2) R | none => zI M' 62 0 = 2 ∧ zI M' 62 7 = nI h ∧ sG [10] M M') ∧ sG [10, h - 2] M M'))) (0, 0) 44 [(0, .ref 62), (1, .int x)] [] M1 := by
    intro h1 hga x M1 v3 hp7 hG3
    refine za_iload_n hc dM_or_44 rfl ?_
    refine za_aload_n hc dM_or_45 rfl ?_
    refine za_getA hc gfM_7 zob_62 (p := 63) rfl dM_or_46 ?_
    refine za_aload_n hc dM_or_49 rfl ?_
    refine za_getI hc gfM_220 zob_62 dM_or_50 ?_
    rw [hp7]
    refine za_iconst hc 1 dM_or_53 rfl ?_
    refine za_isub hc dM_or_54 ?_
    rw [nI_pr1 (by omega)]
    refine zm_iald hc (by assumption) dM_or_55 (by omega) (by decide) ?_
    refine za_icmp_ge 109 hc dM_or_56 rfl (fun h_56 => ?_) (fun h_56 => ?_)
    · skip
      exact E1 h1 hga x M1 v3 hp7 hG3
    · skip
      refine za_aload_n hc dM_or_59 rfl ?_
      refine za_getI hc gfM_181 zob_62 dM_or_60 ?_
      rw [v3]
      refine za_if_ne 109 hc dM_or_63 rfl (fun h_63 => ?_) (fun h_63 => ?_)
      · skip
        exact E1 h1 hga x M1 v3 hp7 hG3
      · skip
        exact absurd h_63 (by decide)
  have loop : 2 ≤ h → sH M (h - 1) Q → gRz Q → ∀ (t : List (List gC)) (i : Nat) (acc : List (List gC)) (M1 : zM), Q.drop i = t → i + t.length = Q.length → gor1 acc t = gor1 P Q → zI M1 62 24 = 0 → sH M1 10 acc → zI M1 62 7 = nI h → sG [10] M M1 → zW X (zqv (fun M' => (h < 2 → M' = zsI M 62 0 1) ∧ (2 ≤ h → (match gor1 P Q with | some R => zI M' 62 0 = 0 ∧ zI M' 62 7 = nI (h - 1) ∧ sH M' (h - 2) R | none => zI M' 62 0 = 2 ∧ zI M' 62 7 = nI h ∧ sG [10] M M') ∧ sG [10, h - 2] M M'))) (0, 0) 44 [(0, .ref 62), (1, .int (nI i))] [] M1 := by
    intro h1 hQ hzQ t
    have hQl := hQ.2.1
    induction t with
    | nil =>
      intro i acc M1 hdr hn hg hps hS1 hp7 hG
      simp only [List.length_nil] at hn
      have hQ1 : sH M1 (h - 1) Q := sH_k hQ hG.2.2.2.2.2.1 (by simp; omega)
      refine za_iload_n hc dM_or_44 rfl ?_
      refine za_aload_n hc dM_or_45 rfl ?_
      refine za_getA hc gfM_7 zob_62 (p := 63) rfl dM_or_46 ?_
      refine za_aload_n hc dM_or_49 rfl ?_
      refine za_getI hc gfM_220 zob_62 dM_or_50 ?_
      rw [hp7]
      refine za_iconst hc 1 dM_or_53 rfl ?_
      refine za_isub hc dM_or_54 ?_
      rw [nI_pr1 (by omega)]
      refine zm_iald hc (by assumption) dM_or_55 (by omega) (by decide) ?_
      rw [hQ1.1]
      refine za_icmp_ge 109 hc dM_or_56 rfl (fun h_56 => ?_) (fun h_56 => ?_)
      · skip
        exact E2 h1 acc (by rw [← hg]; unfold gor1; rfl) _ M1 hps hS1 hp7 hG
      · skip
        exact absurd ((nI_leI (by omega) (by omega)).mpr (show Q.length ≤ i by omega)) h_56
    | cons qr t ih =>
      intro i acc M1 hdr hn hg hps hS1 hp7 hG
      simp only [List.length_cons] at hn
      have hqi : Q[i]? = some qr := by rw [← List.head?_drop, hdr]; rfl
      have hdr2 : Q.drop (i + 1) = t := by rw [← List.drop_drop, hdr]; rfl
      have hqm := List.mem_of_getElem? hqi
      have hQ1 : sH M1 (h - 1) Q := sH_k hQ hG.2.2.2.2.2.1 (by simp; omega)
      obtain ⟨a1, a2, a3, a4⟩ := hQ1.2.2 i qr hqi
      have hF : sF [10] M1 M1 := hG.here.wk (by simp)
      have hF2 := hF.bg
      have hQ2 : sH (mBg M1) (h - 1) Q := sH_k hQ1 hF2.2.2.2.2.2.1 (by simp; omega)
      have hp8 : zI (mBg M1) 62 7 = nI h := by rw [(mBg_k 7 (by decide)).1]; exact hp7
      have c64 : zI (mBg M1) 64 = zI M1 64 := rfl
      refine za_iload_n hc dM_or_44 rfl ?_
      refine za_aload_n hc dM_or_45 rfl ?_
      refine za_getA hc gfM_7 zob_62 (p := 63) rfl dM_or_46 ?_
      refine za_aload_n hc dM_or_49 rfl ?_
      refine za_getI hc gfM_220 zob_62 dM_or_50 ?_
      rw [hp7]
      refine za_iconst hc 1 dM_or_53 rfl ?_
      refine za_isub hc dM_or_54 ?_
      rw [nI_pr1 (by omega)]
      refine zm_iald hc (by assumption) dM_or_55 (by omega) (by decide) ?_
      rw [hQ1.1]
      refine za_icmp_ge 109 hc dM_or_56 rfl (fun h_56 => ?_) (fun h_56 => ?_)
      · skip
        exact absurd ((nI_leI (by omega) (by omega)).mp h_56) (by omega)
      · skip
        refine za_aload_n hc dM_or_59 rfl ?_
        refine za_getI hc gfM_181 zob_62 dM_or_60 ?_
        rw [hps]
        refine za_if_ne 109 hc dM_or_63 rfl (fun h_63 => ?_) (fun h_63 => ?_)
        · skip
          exact absurd rfl h_63
        · skip
          refine za_aload_n hc dM_or_66 rfl ?_
          refine za_cV0v hc gsM_198 zob_62 (cM_begin_ l M1) ⟨rfl, rfl⟩ ⟨Nat.le_of_ble_eq_true rfl, Nat.le_of_ble_eq_true rfl⟩ ⟨Nat.zero_le _, Nat.zero_le _⟩ dM_or_67 (fun M_67 h_67 => ?_)
          have hmb : M_67 = mBg M1 := h_67
          subst hmb
          refine za_aload_n hc dM_or_70 rfl ?_
          refine za_aload_n hc dM_or_71 rfl ?_
          refine za_getI hc gfM_220 zob_62 dM_or_72 ?_
          rw [hp8]
          refine za_iconst hc 1 dM_or_75 rfl ?_
          refine za_isub hc dM_or_76 ?_
          rw [nI_pr1 (by omega)]
          refine za_iload_n hc dM_or_77 rfl ?_
          refine za_aload_n hc dM_or_78 rfl ?_
          refine za_getA hc gfM_13 zob_62 (p := 64) rfl dM_or_79 ?_
          refine za_bipush hc 12 dM_or_82 rfl ?_
          refine za_aload_n hc dM_or_84 rfl ?_
          refine za_getI hc gfM_220 zob_62 dM_or_85 ?_
          rw [hp8]
          refine za_iconst hc 1 dM_or_88 rfl ?_
          refine za_isub hc dM_or_89 ?_
          rw [nI_pr1 (by omega)]
          refine za_imul hc dM_or_90 ?_
          refine za_iload_n hc dM_or_91 rfl ?_
          refine za_iadd hc dM_or_92 ?_
          rw [zic]
          refine zm_iald hc (by assumption) dM_or_93 (by omega) (by decide) ?_
          rw [c64, a2]
          refine za_cV3v hc gsM_201 zob_62 (cM_addRow_ l (mBg M1) (by omega) hQ2 hqi (Nat.le_refl _) (hzQ qr hqm) (mBg_H hG.2.1) (by simp only [List.length_nil]; omega) mBg_n hF2.2.2.1) ⟨rfl, rfl⟩ ⟨Nat.le_of_ble_eq_true rfl, Nat.le_of_ble_eq_true rfl⟩ ⟨Nat.zero_le _, Nat.zero_le _⟩ dM_or_94 (fun M_94 h_94 => ?_)
          obtain ⟨w1, w2, w3, w4⟩ := h_94
          rw [List.take_length, List.nil_append] at w1
          have hF3 : sF [10] M1 M_94 := hF2.add w3 w4 w1.2.2.2
          have hS4 : sH M_94 10 acc := sH_k (I := []) hS1 ((sK_fr (mBg_fr (M := M1)) (fun k h1 h2 z => by unfold m62 at z; omega)).tr (sK_fr w4 mA_s)) (by simp)
          have hps4 : zI M_94 62 24 = 0 := by rw [(w3 24 (by decide)).1, (mBg_k 24 (by decide)).1]; exact hps
          refine za_aload_n hc dM_or_97 rfl ?_
          refine za_bipush hc (nI 10) dM_or_98 rfl ?_
          refine za_cV1v hc gsM_205 zob_62 (cM_put_ l M_94 (r := 10) (by decide) hS4 w1 (mOK_lim a4 (hzQ qr hqm)) hps4 w2 hF3.1 hF3.2.2.1 hF3.2.2.2.1) ⟨rfl, rfl⟩ ⟨Nat.le_of_ble_eq_true rfl, Nat.le_of_ble_eq_true rfl⟩ ⟨Nat.zero_le _, Nat.zero_le _⟩ dM_or_100 (fun M_100 h_100 => ?_)
          obtain ⟨v1, v2, v3, v4, v5, v6, v7⟩ := h_100
          have hF5 : sF [10] M1 M_100 := hF3.put (r := 10) (by simp) v2 v3 v4 v5 v6 v7
          have hG5 : sG [10] M M_100 := hG.tr hF5.g
          have hp9 : zI M_100 62 7 = nI h := by rw [(hF5.2.2.2.2.1 7 (by decide)).1]; exact hp7
          rw [gor1_c] at hg
          cases hga : gadd acc (qr.foldl gput []) with
          | none =>
            rw [hga] at v1 hg
            refine za_iinc hc _ dM_or_103 rfl (rfl) (by decide) ?_
            refine za_goto 44 hc dM_or_106 rfl ?_
            exact STOP h1 hg.symm _ M_100 v1.1 hp9 hG5
          | some a =>
            rw [hga] at v1 hg
            refine za_iinc hc _ dM_or_103 rfl ((nI_succ i).symm) (by decide) ?_
            refine za_goto 44 hc dM_or_106 rfl ?_
            exact ih (i + 1) a M_100 hdr2 (by omega) hg v1.1 v1.2 hp9 hG5
  refine za_aload_n hc dM_or_0 rfl ?_
  refine za_aload_n hc dM_or_1 rfl ?_
  refine za_getI hc gfM_220 zob_62 dM_or_2 ?_
  rw [hp]
  refine za_iconst hc 2 dM_or_5 rfl ?_
  refine za_icmp_ge 13 hc dM_or_6 rfl (fun h_6 => ?_) (fun h_6 => ?_)
  · skip
    have h1 : 2 ≤ h := (nI_lt2 hh).mp h_6
    refine za_iconst hc 0 dM_or_13 rfl ?_
    refine za_putI hc gpM_66 zob_62 dM_or_14 ?_
    refine za_aload_n hc dM_or_17 rfl ?_
    refine za_getI hc gfM_66 zob_62 dM_or_18 ?_
    rw [zI_s, if_pos rfl]
    refine za_if_le 25 hc dM_or_21 rfl (fun h_21 => ?_) (fun h_21 => ?_)
    · skip
      obtain ⟨hP, hQ, hzP, hzQ⟩ := hPQ h1
      have hG2 : sG [10] M (zsI (zsI M 62 0 0) 62 24 0) := ((hF0.g.wk (by simp)).set (j := 0) (by decide) (by decide) (by decide)).set (j := 24) (by decide) (by decide) (by decide)
      refine za_aload_n hc dM_or_25 rfl ?_
      refine za_iconst hc 0 dM_or_26 rfl ?_
      refine za_putZ hc gpM_181 zob_62 (nz01 (by first | exact Or.inl rfl | exact Or.inr rfl)) dM_or_27 ?_
      refine za_aload_n hc dM_or_30 rfl ?_
      refine za_bipush hc (nI 10) dM_or_31 rfl ?_
      refine za_aload_n hc dM_or_33 rfl ?_
      refine za_getI hc gfM_220 zob_62 dM_or_34 ?_
      rw [zI_s, if_neg (by decide), zI_s, if_neg (by decide), hp]
      refine za_iconst hc 2 dM_or_37 rfl ?_
      refine za_isub hc dM_or_38 ?_
      rw [nI_pr2 h1]
      refine za_cV2v hc gsM_214 zob_62 (cM_copy_ l (zsI (zsI M 62 0 0) 62 24 0) (to := 10) (of := h - 2) (by decide) (by omega) (by omega) (sH_set (sH_set hP)) hG2.2.2.1) ⟨rfl, rfl⟩ ⟨Nat.le_of_ble_eq_true rfl, Nat.le_of_ble_eq_true rfl⟩ ⟨Nat.zero_le _, Nat.zero_le _⟩ dM_or_39 (fun M_39 h_39 => ?_)
      obtain ⟨y1, y2, y3, y4⟩ := h_39
      have hG3 : sG [10] M M_39 := hG2.copy (r := 10) (by simp) y2 y3 y4
      have ec : zI M_39 62 = zI (zsI (zsI M 62 0 0) 62 24 0) 62 := (y4 62 (mS_n (by decide))).1
      refine za_iconst hc 0 dM_or_42 rfl ?_
      refine za_istore_n hc dM_or_43 (by decide) ?_
      exact loop h1 hQ hzQ Q 0 P M_39 rfl (by omega) rfl (by rw [ec, zI_s, if_pos rfl]) y1 (by rw [ec, zI_s, if_neg (by decide), zI_s, if_neg (by decide)]; exact hp) hG3
    · skip
      exact absurd (Int32.le_refl _) h_21
  · skip
    have h0 : h < 2 := by have : ¬ 2 ≤ h := fun z => h_6 ((nI_lt2 hh).mpr z); omega
    refine za_iconst hc 1 dM_or_9 rfl ?_
    refine za_goto 14 hc dM_or_10 rfl ?_
    refine za_putI hc gpM_66 zob_62 dM_or_14 ?_
    refine za_aload_n hc dM_or_17 rfl ?_
    refine za_getI hc gfM_66 zob_62 dM_or_18 ?_
    rw [zI_s, if_pos rfl]
    refine za_if_le 25 hc dM_or_21 rfl (fun h_21 => ?_) (fun h_21 => ?_)
    · skip
      exact absurd h_21 (by decide)
    · skip
      exact za_vret hc rfl dM_or_24 ⟨Nat.zero_le _, Nat.zero_le _⟩ (⟨rfl, fun _ => rfl, (fun z => absurd z (by omega))⟩)
