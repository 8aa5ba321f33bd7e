/-! The model: free. -/
theorem gfr1_c (col : Int32) (acc : List (List gC)) (q : List gC) (t : List (List gC)) : gfr1 col acc (q :: t) = match gadd acc ((gels col q).foldl gput []) with | some a => gfr1 col a t | none => none := by rw [gfr1]; cases gadd acc ((gels col q).foldl gput []) <;> rfl
theorem gels_all {col : Int32} {row : List gC} (h : ∀ q ∈ row, gLim q) : ∀ q ∈ gels col row, gW q ∧ gu col q = 0 := fun q hq => by
  obtain ⟨m, hm, hq2⟩ := List.mem_flatMap.mp hq
  exact gel_all h (h m hm) q hq2
theorem mOK_free {col : Int32} {row : List gC} (h : ∀ q ∈ row, gLim q) : mOK ((gels col row).foldl gapp []) := by
  have key : ∀ q ∈ (gels col row).foldl gapp [], gW q ∧ gu col q = 0 ∧ gnz q := fun q hq => by
    rcases gapp_mem _ [] q hq with z | z
    · cases z
    · exact ⟨(gels_all h q z.1).1, (gels_all h q z.1).2, z.2⟩
  refine ⟨fun q hq => ?_, fun q hq => (key q hq).2.2, Or.inr (fun p hp q hq => ?_)⟩
  · obtain ⟨h1, h2, h3⟩ := (key q hq).1
    unfold gBd; omega
  · have e1 := (key p hp).2.1
    have e2 := (key q hq).2.1
    unfold gu at e1 e2
    unfold gcr
    split at e1 <;> rename_i c
    · rw [if_pos c] at e2; rw [e1, e2]; omega
    · rw [if_neg c] at e2; rw [e1, e2]; omega

set_option maxRecDepth 100000 in
set_option maxHeartbeats 4000000 in
theorem cM_freeB_ (l : Launch) (M : zM) (tb : Int32) (htb : tb < 0 ∨ 1 < tb) : zMet l mM_free rM_free [.ref 62, .int tb] M (zqv (fun M' => M' = zsI M 62 0 1)) := by
  refine za_enter (by decide) (Nat.le_of_ble_eq_true rfl) (fun X hc => ?_)
  refine za_aload_n hc dM_free_0 rfl ?_
  refine za_iload_n hc dM_free_1 rfl ?_
  refine za_if_lt 10 hc dM_free_2 rfl (fun h_2 => ?_) (fun h_2 => ?_)
  · skip
    have hz := h_2
    refine za_iconst hc 1 dM_free_10 rfl ?_
    refine za_goto 27 hc dM_free_11 rfl ?_
    refine za_putI hc gpM_66 zob_62 dM_free_27 ?_
    refine za_aload_n hc dM_free_30 rfl ?_
    refine za_getI hc gfM_66 zob_62 dM_free_31 ?_
    rw [zI_s, if_pos rfl]
    refine za_if_le 38 hc dM_free_34 rfl (fun h_34 => ?_) (fun h_34 => ?_)
    · skip
      exact absurd h_34 (by decide)
    · skip
      exact za_vret hc rfl dM_free_37 ⟨Nat.zero_le _, Nat.zero_le _⟩ (⟨rfl, rfl⟩)
  · skip
    have hz := h_2
    refine za_iload_n hc dM_free_5 rfl ?_
    refine za_iconst hc 1 dM_free_6 rfl ?_
    refine za_icmp_le 14 hc dM_free_7 rfl (fun h_7 => ?_) (fun h_7 => ?_)
    · skip
      exact absurd h_7 (fun w => by rcases htb with z | z; exact h_2 z; exact Int32.not_le.mpr z w)
    · skip
      have hz2 := h_7
      refine za_iconst hc 1 dM_free_10 rfl ?_
      refine za_goto 27 hc dM_free_11 rfl ?_
      refine za_putI hc gpM_66 zob_62 dM_free_27 ?_
      refine za_aload_n hc dM_free_30 rfl ?_
      refine za_getI hc gfM_66 zob_62 dM_free_31 ?_
      rw [zI_s, if_pos rfl]
      refine za_if_le 38 hc dM_free_34 rfl (fun h_34 => ?_) (fun h_34 => ?_)
      · skip
        exact absurd h_34 (by decide)
      · skip
        exact za_vret hc rfl dM_free_37 ⟨Nat.zero_le _, Nat.zero_le _⟩ (⟨rfl, rfl⟩)

set_option maxRecDepth 100000 in
set_option maxHeartbeats 4000000 in
theorem cM_free_ (l : Launch) {h c : Nat} {P : List (List gC)} (M : zM) (hh : h ≤ 6) (hp : zI M 62 7 = nI h) (hF0 : sF [] M M) (hcc : c < 2) (hPQ : 1 ≤ h → sH M (h - 1) P ∧ gRz P ∧ ∀ row ∈ P, gSat row) : zMet l mM_free rM_free [.ref 62, .int (nI c)] M (zqv (fun M' => (h = 0 → M' = zsI M 62 0 2) ∧ (0 < h → (match gfr1 (nI c) [] P with | some R => zI M' 62 0 = 0 ∧ zI M' 62 7 = nI h ∧ sH M' (h - 1) R | none => zI M' 62 0 = 3 ∧ zI M' 62 7 = nI h ∧ sG [10] M M') ∧ sG [10, h - 1] M M'))) := by
  refine za_enter (by decide) (Nat.le_of_ble_eq_true rfl) (fun X hc => ?_)
  have a63 := ar_63
  have a64 := ar_64
  have a65 := ar_65
  have a66 := ar_66
  have a67 := ar_67
  have a68 := ar_68
  have a73 := ar_73
  have a74 := ar_74
  have a75 := ar_75
  have a76 := ar_76
  have E1 : 1 ≤ h → gfr1 (nI c) [] P = none → ∀ (x : Int32) (M1 : zM), zI M1 62 24 = 1 → zI M1 62 7 = nI h → sG [10] M M1 → zW X (zqv (fun M' => (h = 0 → M' = zsI M 62 0 2) ∧ (0 < h → (match gfr1 (nI c) [] P with | some R => zI M' 62 0 = 0 ∧ zI M' 62 7 = nI h ∧ sH M' (h - 1) R | none => zI M' 62 0 = 3 ∧ zI M' 62 7 = nI h ∧ sG [10] M M') ∧ sG [10, h - 1] M M'))) (0, 0) 103 [(0, .ref 62), (1, .int (nI c)), (2, .int x)] [] M1 := by
    intro h1 hga x M1 v3 hp7 hG3
    refine za_aload_n hc dM_free_103 rfl ?_
    refine za_aload_n hc dM_free_104 rfl ?_
    refine za_getI hc gfM_181 zob_62 dM_free_105 ?_
    rw [v3]
    refine za_if_eq 115 hc dM_free_108 rfl (fun h_108 => ?_) (fun h_108 => ?_)
    · skip
      exact absurd h_108 (by decide)
    · skip
      refine za_iconst hc 3 dM_free_111 rfl ?_
      refine za_goto 116 hc dM_free_112 rfl ?_
      refine za_putI hc gpM_66 zob_62 dM_free_116 ?_
      refine za_aload_n hc dM_free_119 rfl ?_
      refine za_getI hc gfM_181 zob_62 dM_free_120 ?_
      rw [zI_s, if_neg (by decide), v3]
      refine za_if_ne 138 hc dM_free_123 rfl (fun h_123 => ?_) (fun h_123 => ?_)
      · skip
        exact za_vret hc rfl dM_free_138 ⟨Nat.zero_le _, Nat.zero_le _⟩ (⟨rfl, (fun z => absurd z (by omega)), fun _ => ⟨by rw [hga]; exact ⟨by rw [zI_s, if_pos rfl], by rw [zI_s, if_neg (by decide)]; exact hp7, hG3.set (j := 0) (by decide) (by decide) (by decide)⟩, (hG3.set (j := 0) (by decide) (by decide) (by decide)).wk (by simp)⟩⟩)
      · skip
        exact absurd h_123 (by decide)
  have E2 : 1 ≤ h → ∀ R, gfr1 (nI c) [] P = some R → ∀ (x : Int32) (M1 : zM), zI M1 62 24 = 0 → sH M1 10 R → zI M1 62 7 = nI h → sG [10] M M1 → zW X (zqv (fun M' => (h = 0 → M' = zsI M 62 0 2) ∧ (0 < h → (match gfr1 (nI c) [] P with | some R => zI M' 62 0 = 0 ∧ zI M' 62 7 = nI h ∧ sH M' (h - 1) R | none => zI M' 62 0 = 3 ∧ zI M' 62 7 = nI h ∧ sG [10] M M') ∧ sG [10, h - 1] M M'))) (0, 0) 103 [(0, .ref 62), (1, .int (nI c)), (2, .int x)] [] M1 := by
    intro h1 R hga x M1 v3 v4 hp7 hG3
    have hG4 : sG [10, h - 1] M (zsI M1 62 0 0) := (hG3.wk (by simp)).set (j := 0) (by decide) (by decide) (by decide)
    refine za_aload_n hc dM_free_103 rfl ?_
    refine za_aload_n hc dM_free_104 rfl ?_
    refine za_getI hc gfM_181 zob_62 dM_free_105 ?_
    rw [v3]
    refine za_if_eq 115 hc dM_free_108 rfl (fun h_108 => ?_) (fun h_108 => ?_)
    · skip
      refine za_iconst hc 0 dM_free_115 rfl ?_
      refine za_putI hc gpM_66 zob_62 dM_free_116 ?_
      refine za_aload_n hc dM_free_119 rfl ?_
      refine za_getI hc gfM_181 zob_62 dM_free_120 ?_
      rw [zI_s, if_neg (by decide), v3]
      refine za_if_ne 138 hc dM_free_123 rfl (fun h_123 => ?_) (fun h_123 => ?_)
      · skip
        exact absurd rfl h_123
      · skip
        refine za_aload_n hc dM_free_126 rfl ?_
        refine za_aload_n hc dM_free_127 rfl ?_
        refine za_getI hc gfM_220 zob_62 dM_free_128 ?_
        rw [zI_s, if_neg (by decide), hp7]
        refine za_iconst hc 1 dM_free_131 rfl ?_
        refine za_isub hc dM_free_132 ?_
        rw [nI_pr1 (by omega)]
        refine za_bipush hc (nI 10) dM_free_133 rfl ?_
        refine za_cV2v hc gsM_214 zob_62 (cM_copy_ l (zsI M1 62 0 0) (to := h - 1) (of := 10) (by omega) (by decide) (by omega) (sH_set v4) hG4.2.2.1) ⟨rfl, rfl⟩ ⟨Nat.le_of_ble_eq_true rfl, Nat.le_of_ble_eq_true rfl⟩ ⟨Nat.zero_le _, Nat.zero_le _⟩ dM_free_135 (fun M_135 h_135 => ?_)
        obtain ⟨y1, y2, y3, y4⟩ := h_135
        have hG5 : sG [10, h - 1] M M_135 := hG4.copy (r := h - 1) (by simp) y2 y3 y4
        have ec : zI M_135 62 = zI (zsI M1 62 0 0) 62 := (y4 62 (mS_n (by decide))).1
        exact za_vret hc rfl dM_free_138 ⟨Nat.zero_le _, Nat.zero_le _⟩ (⟨rfl, (fun z => absurd z (by omega)), fun _ => ⟨by rw [hga]; exact ⟨by rw [ec, zI_s, if_pos rfl], by rw [ec, zI_s, if_neg (by decide)]; exact hp7, y1⟩, hG5⟩⟩)
    · skip
      exact absurd rfl h_108
  have STOP : 1 ≤ h → gfr1 (nI c) [] P = none → ∀ (x : Int32) (M1 : zM), zI M1 62 24 = 1 → zI M1 62 7 = nI h → sG [10] M M1 → zW X (zqv (fun M' => (h = 0 → M' = zsI M 62 0 2) ∧ (0 < h → (match gfr1 (nI c) [] P with | some R => zI M' 62 0 = 0 ∧ zI M' 62 7 = nI h ∧ sH M' (h - 1) R | none => zI M' 62 0 = 3 ∧ zI M' 62 7 = nI h ∧ sG [10] M M') ∧ sG [10, h - 1] M M'))) (0, 0) 53 [(0, .ref 62), (1, .int (nI c)), (2, .int x)] [] M1 := by
    intro h1 hga x M1 v3 hp7 hG3
    refine za_iload_n hc dM_free_53 rfl ?_
    refine za_aload_n hc dM_free_54 rfl ?_
    refine za_getA hc gfM_7 zob_62 (p := 63) rfl dM_free_55 ?_
    refine za_aload_n hc dM_free_58 rfl ?_
    refine za_getI hc gfM_220 zob_62 dM_free_59 ?_
    rw [hp7]
    refine za_iconst hc 1 dM_free_62 rfl ?_
    refine za_isub hc dM_free_63 ?_
    rw [nI_pr1 (by omega)]
    refine zm_iald hc (by assumption) dM_free_64 (by omega) (by decide) ?_
    refine za_icmp_ge 103 hc dM_free_65 rfl (fun h_65 => ?_) (fun h_65 => ?_)
    · skip
      exact E1 h1 hga x M1 v3 hp7 hG3
    · skip
      refine za_aload_n hc dM_free_68 rfl ?_
      refine za_getI hc gfM_181 zob_62 dM_free_69 ?_
      rw [v3]
      refine za_if_ne 103 hc dM_free_72 rfl (fun h_72 => ?_) (fun h_72 => ?_)
      · skip
        exact E1 h1 hga x M1 v3 hp7 hG3
      · skip
        exact absurd h_72 (by decide)
  have loop : 1 ≤ h → sH M (h - 1) P → gRz P → (∀ row ∈ P, gSat row) → ∀ (t : List (List gC)) (i : Nat) (acc : List (List gC)) (M1 : zM), P.drop i = t → i + t.length = P.length → gfr1 (nI c) acc t = gfr1 (nI c) [] P → zI M1 62 24 = 0 → sH M1 10 acc → sK [10] M M1 → zI M1 62 7 = nI h → sG [10] M M1 → zW X (zqv (fun M' => (h = 0 → M' = zsI M 62 0 2) ∧ (0 < h → (match gfr1 (nI c) [] P with | some R => zI M' 62 0 = 0 ∧ zI M' 62 7 = nI h ∧ sH M' (h - 1) R | none => zI M' 62 0 = 3 ∧ zI M' 62 7 = nI h ∧ sG [10] M M') ∧ sG [10, h - 1] M M'))) (0, 0) 53 [(0, .ref 62), (1, .int (nI c)), (2, .int (nI i))] [] M1 := by
    intro h1 hQ hzQ hsat t
    have hQl := hQ.2.1
    induction t with
    | nil =>
      intro i acc M1 hdr hn hg hps hS1 hs10 hp7 hG
      simp only [List.length_nil] at hn
      have hQ1 : sH M1 (h - 1) P := sH_k hQ hs10 (by simp; omega)
      refine za_iload_n hc dM_free_53 rfl ?_
      refine za_aload_n hc dM_free_54 rfl ?_
      refine za_getA hc gfM_7 zob_62 (p := 63) rfl dM_free_55 ?_
      refine za_aload_n hc dM_free_58 rfl ?_
      refine za_getI hc gfM_220 zob_62 dM_free_59 ?_
      rw [hp7]
      refine za_iconst hc 1 dM_free_62 rfl ?_
      refine za_isub hc dM_free_63 ?_
      rw [nI_pr1 (by omega)]
      refine zm_iald hc (by assumption) dM_free_64 (by omega) (by decide) ?_
      rw [hQ1.1]
      refine za_icmp_ge 103 hc dM_free_65 rfl (fun h_65 => ?_) (fun h_65 => ?_)
      · skip
        exact E2 h1 acc (by rw [← hg]; unfold gfr1; rfl) _ M1 hps hS1 hp7 hG
      · skip
        exact absurd ((nI_leI (by omega) (by omega)).mpr (show P.length ≤ i by omega)) h_65
    | cons qr t ih =>
      intro i acc M1 hdr hn hg hps hS1 hs10 hp7 hG
      simp only [List.length_cons] at hn
      have hqi : P[i]? = some qr := by rw [← List.head?_drop, hdr]; rfl
      have hdr2 : P.drop (i + 1) = t := by rw [← List.drop_drop, hdr]; rfl
      have hqm := List.mem_of_getElem? hqi
      have hQ1 : sH M1 (h - 1) P := sH_k hQ hs10 (by simp; omega)
      obtain ⟨a1, a2, a3, a4⟩ := hQ1.2.2 i qr hqi
      obtain ⟨xx, yy, hxy⟩ := hsat qr hqm
      have hF : sF [10] M1 M1 := hG.here.wk (by simp)
      have hF2 := hF.bg
      have hQ2 : sH (mBg M1) (h - 1) P := sH_k hQ1 hF2.2.2.2.2.2.1 (by simp; omega)
      have hp8 : zI (mBg M1) 62 7 = nI h := by rw [(mBg_k 7 (by decide)).1]; exact hp7
      refine za_iload_n hc dM_free_53 rfl ?_
      refine za_aload_n hc dM_free_54 rfl ?_
      refine za_getA hc gfM_7 zob_62 (p := 63) rfl dM_free_55 ?_
      refine za_aload_n hc dM_free_58 rfl ?_
      refine za_getI hc gfM_220 zob_62 dM_free_59 ?_
      rw [hp7]
      refine za_iconst hc 1 dM_free_62 rfl ?_
      refine za_isub hc dM_free_63 ?_
      rw [nI_pr1 (by omega)]
      refine zm_iald hc (by assumption) dM_free_64 (by omega) (by decide) ?_
      rw [hQ1.1]
      refine za_icmp_ge 103 hc dM_free_65 rfl (fun h_65 => ?_) (fun h_65 => ?_)
      · skip
        exact absurd ((nI_leI (by omega) (by omega)).mp h_65) (by omega)
      · skip
        refine za_aload_n hc dM_free_68 rfl ?_
        refine za_getI hc gfM_181 zob_62 dM_free_69 ?_
        rw [hps]
        refine za_if_ne 103 hc dM_free_72 rfl (fun h_72 => ?_) (fun h_72 => ?_)
        · skip
          exact absurd rfl h_72
        · skip
          refine za_aload_n hc dM_free_75 rfl ?_
          refine za_cV0v hc gsM_198 zob_62 (cM_begin_ l M1) ⟨rfl, rfl⟩ ⟨Nat.le_of_ble_eq_true rfl, Nat.le_of_ble_eq_true rfl⟩ ⟨Nat.zero_le _, Nat.zero_le _⟩ dM_free_76 (fun M_76 h_76 => ?_)
          have hmb : M_76 = mBg M1 := h_76
          subst hmb
          refine za_aload_n hc dM_free_79 rfl ?_
          refine za_aload_n hc dM_free_80 rfl ?_
          refine za_getI hc gfM_220 zob_62 dM_free_81 ?_
          rw [hp8]
          refine za_iconst hc 1 dM_free_84 rfl ?_
          refine za_isub hc dM_free_85 ?_
          rw [nI_pr1 (by omega)]
          refine za_iload_n hc dM_free_86 rfl ?_
          refine za_iload_n hc dM_free_87 rfl ?_
          refine za_cV3v hc gsM_226 zob_62 (cM_freed_ l (mBg M1) (nI c) (by omega) hQ2 hqi (hzQ qr hqm) hxy (mBg_H hG.2.1) mBg_n hF2.2.2.1) ⟨rfl, rfl⟩ ⟨Nat.le_of_ble_eq_true rfl, Nat.le_of_ble_eq_true rfl⟩ ⟨Nat.zero_le _, Nat.zero_le _⟩ dM_free_88 (fun M_88 h_88 => ?_)
          obtain ⟨w1, w2, w3, w4⟩ := h_88
          have hF3 : sF [10] M1 M_88 := hF2.add w3 w4 w1.2.2.2
          have hS4 : sH M_88 10 acc := sH_k (I := []) hS1 ((sK_fr (mBg_fr (M := M1)) (fun k h1 h2 z => by unfold m62 at z; omega)).tr (sK_fr w4 mA_s)) (by simp)
          have hps4 : zI M_88 62 24 = 0 := by rw [(w3 24 (by decide)).1, (mBg_k 24 (by decide)).1]; exact hps
          refine za_aload_n hc dM_free_91 rfl ?_
          refine za_bipush hc (nI 10) dM_free_92 rfl ?_
          refine za_cV1v hc gsM_205 zob_62 (cM_put_ l M_88 (r := 10) (by decide) hS4 w1 (mOK_free a4) hps4 w2 hF3.1 hF3.2.2.1 hF3.2.2.2.1) ⟨rfl, rfl⟩ ⟨Nat.le_of_ble_eq_true rfl, Nat.le_of_ble_eq_true rfl⟩ ⟨Nat.zero_le _, Nat.zero_le _⟩ dM_free_94 (fun M_94 h_94 => ?_)
          obtain ⟨v1, v2, v3, v4, v5, v6, v7⟩ := h_94
          have hF5 : sF [10] M1 M_94 := hF3.put (r := 10) (by simp) v2 v3 v4 v5 v6 v7
          have hG5 : sG [10] M M_94 := hG.tr (hF5.g.wk (by simp))
          have hs5 : sK [10] M M_94 := hs10.tr hF5.2.2.2.2.2.1
          have hp9 : zI M_94 62 7 = nI h := by rw [(hF5.2.2.2.2.1 7 (by decide)).1]; exact hp7
          rw [gapp_put] at v1
          simp only [List.foldl_nil] at v1
          rw [gfr1_c] at hg
          cases hga : gadd acc ((gels (nI c) qr).foldl gput []) with
          | none =>
            rw [hga] at v1 hg
            refine za_iinc hc _ dM_free_97 rfl (rfl) (by decide) ?_
            refine za_goto 53 hc dM_free_100 rfl ?_
            exact STOP h1 hg.symm _ M_94 v1.1 hp9 hG5
          | some a =>
            rw [hga] at v1 hg
            refine za_iinc hc _ dM_free_97 rfl ((nI_succ i).symm) (by decide) ?_
            refine za_goto 53 hc dM_free_100 rfl ?_
            exact ih (i + 1) a M_94 hdr2 (by omega) hg v1.1 v1.2 hs5 hp9 hG5
  refine za_aload_n hc dM_free_0 rfl ?_
  refine za_iload_n hc dM_free_1 rfl ?_
  refine za_if_lt 10 hc dM_free_2 rfl (fun h_2 => ?_) (fun h_2 => ?_)
  · skip
    exact absurd h_2 (Int32.not_lt.mpr ((nI_leI (a := 0) (b := c) (by decide) (by omega)).mpr (by omega)))
  · skip
    refine za_iload_n hc dM_free_5 rfl ?_
    refine za_iconst hc 1 dM_free_6 rfl ?_
    refine za_icmp_le 14 hc dM_free_7 rfl (fun h_7 => ?_) (fun h_7 => ?_)
    · skip
      refine za_aload_n hc dM_free_14 rfl ?_
      refine za_getI hc gfM_220 zob_62 dM_free_15 ?_
      rw [hp]
      refine za_iconst hc 1 dM_free_18 rfl ?_
      refine za_icmp_ge 26 hc dM_free_19 rfl (fun h_19 => ?_) (fun h_19 => ?_)
      · skip
        have h1 : 1 ≤ h := (nI_lt1 hh).mp h_19
        refine za_iconst hc 0 dM_free_26 rfl ?_
        refine za_putI hc gpM_66 zob_62 dM_free_27 ?_
        refine za_aload_n hc dM_free_30 rfl ?_
        refine za_getI hc gfM_66 zob_62 dM_free_31 ?_
        rw [zI_s, if_pos rfl]
        refine za_if_le 38 hc dM_free_34 rfl (fun h_34 => ?_) (fun h_34 => ?_)
        · skip
          obtain ⟨hP, hzP, hsat⟩ := hPQ h1
          have hG2 : sG [10] M (zsI (zsI M 62 0 0) 62 24 0) := ((hF0.g.wk (by simp)).set (j := 0) (by decide) (by decide) (by decide)).set (j := 24) (by decide) (by decide) (by decide)
          have hF3 : sF [10] (zsI (zsI M 62 0 0) 62 24 0) (zsI (zsI (zsI M 62 0 0) 62 24 0) 63 10 0) := (hG2.here.wk (by simp)).clr (r := 10) (by simp)
          have hs2 : sK [10] M (zsI (zsI M 62 0 0) 62 24 0) := sK_fr ((zfr_sI (P := m62) rfl).tr (zfr_sI (P := m62) rfl)) (fun k h1 h2 z => by unfold m62 at z; omega)
          refine za_aload_n hc dM_free_38 rfl ?_
          refine za_iconst hc 0 dM_free_39 rfl ?_
          refine za_putZ hc gpM_181 zob_62 (nz01 (by first | exact Or.inl rfl | exact Or.inr rfl)) dM_free_40 ?_
          refine za_aload_n hc dM_free_43 rfl ?_
          refine za_getA hc gfM_7 zob_62 (p := 63) rfl dM_free_44 ?_
          refine za_bipush hc (nI 10) dM_free_47 rfl ?_
          refine za_iconst hc 0 dM_free_49 rfl ?_
          refine zm_iast hc (by assumption) dM_free_50 (by omega) (by decide) ?_
          refine za_iconst hc 0 dM_free_51 rfl ?_
          refine za_istore_n hc dM_free_52 (by decide) ?_
          exact loop h1 hP hzP hsat P 0 [] (zsI (zsI (zsI M 62 0 0) 62 24 0) 63 10 0) rfl (by omega) rfl (by rw [zI_o (by decide), zI_s, if_pos rfl]) sH_clear (hs2.tr hF3.2.2.2.2.2.1) (by rw [zI_o (by decide), zI_s, if_neg (by decide), zI_s, if_neg (by decide)]; exact hp) (hG2.tr (hF3.g.wk (by simp)))
        · skip
          exact absurd (Int32.le_refl _) h_34
      · skip
        have h0 : h = 0 := by have : ¬ 1 ≤ h := fun z => h_19 ((nI_lt1 hh).mpr z); omega
        refine za_iconst hc 2 dM_free_22 rfl ?_
        refine za_goto 27 hc dM_free_23 rfl ?_
        refine za_putI hc gpM_66 zob_62 dM_free_27 ?_
        refine za_aload_n hc dM_free_30 rfl ?_
        refine za_getI hc gfM_66 zob_62 dM_free_31 ?_
        rw [zI_s, if_pos rfl]
        refine za_if_le 38 hc dM_free_34 rfl (fun h_34 => ?_) (fun h_34 => ?_)
        · skip
          exact absurd h_34 (by decide)
        · skip
          exact za_vret hc rfl dM_free_37 ⟨Nat.zero_le _, Nat.zero_le _⟩ (⟨rfl, fun _ => rfl, (fun z => absurd z (by omega))⟩)
    · skip
      exact absurd ((nI_leI (a := c) (b := 1) (by omega) (by decide)).mpr (by omega)) h_7
