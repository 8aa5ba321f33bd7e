/-! The model: contrary. -/
theorem gnot1_c (acc : List (List gC)) (row : List gC) (t : List (List gC)) : gnot1 acc (row :: t) = match gAnd acc (gcut row row.length) with | some a => gnot1 a t | none => none := by rw [gnot1]; cases gAnd acc (gcut row row.length) <;> rfl
theorem gRz_one : gRz [[]] := fun row h m hm => by rw [List.mem_singleton.mp h] at hm; cases hm

set_option maxRecDepth 100000 in
set_option maxHeartbeats 4000000 in
theorem cM_contrary_ (l : Launch) {p : Nat} {P : List (List gC)} (M : zM) (hp11 : p < 11) (hP : sH M p P) (hz : gRz P) (hps0 : zI M 62 24 = 0) (hF0 : sF [] M M) : zMet l mM_contrary rM_contrary [.ref 62, .int (nI p)] M (zqv (fun M' => sAd 12 (gNot P) M' ∧ sF [11, 12, 13] M M')) := by
  refine za_enter (by decide) (Nat.le_of_ble_eq_true rfl) (fun X hc => ?_)
  have a63 := ar_63
  have a64 := ar_64
  have a65 := ar_65
  have a66 := ar_66
  have a67 := ar_67
  have a68 := ar_68
  have a73 := ar_73
  have a74 := ar_74
  have a75 := ar_75
  have a76 := ar_76
  have hpl := hP.2.1
  have STOP : gNot P = none → ∀ (x : Int32) (M1 : zM), zI M1 62 24 = 1 → (∃ R2, sH M1 12 R2) → sF [11, 12, 13] M M1 → zW X (zqv (fun M' => sAd 12 (gNot P) M' ∧ sF [11, 12, 13] M M')) (0, 0) 20 [(0, .ref 62), (1, .int (nI p)), (2, .int x)] [] M1 := by
    intro hga x M1 hps hex hF
    refine za_iload_n hc dM_contrary_20 rfl ?_
    refine za_aload_n hc dM_contrary_21 rfl ?_
    refine za_getA hc gfM_7 zob_62 (p := 63) rfl dM_contrary_22 ?_
    refine za_iload_n hc dM_contrary_25 rfl ?_
    refine zm_iald hc (by assumption) dM_contrary_26 (by omega) (by decide) ?_
    refine za_icmp_ge 69 hc dM_contrary_27 rfl (fun h_27 => ?_) (fun h_27 => ?_)
    · skip
      exact za_vret hc rfl dM_contrary_69 ⟨Nat.zero_le _, Nat.zero_le _⟩ (⟨rfl, by rw [hga]; exact ⟨hps, hex⟩, hF⟩)
    · skip
      refine za_aload_n hc dM_contrary_30 rfl ?_
      refine za_getI hc gfM_181 zob_62 dM_contrary_31 ?_
      rw [hps]
      refine za_if_ne 69 hc dM_contrary_34 rfl (fun h_34 => ?_) (fun h_34 => ?_)
      · skip
        exact za_vret hc rfl dM_contrary_69 ⟨Nat.zero_le _, Nat.zero_le _⟩ (⟨rfl, by rw [hga]; exact ⟨hps, hex⟩, hF⟩)
      · skip
        exact absurd h_34 (by decide)
  have loop : ∀ (t : List (List gC)) (i : Nat) (acc : List (List gC)) (M1 : zM), P.drop i = t → i + t.length = P.length → gnot1 acc t = gNot P → gRz acc → zI M1 62 24 = 0 → sH M1 12 acc → sF [11, 12, 13] M M1 → zW X (zqv (fun M' => sAd 12 (gNot P) M' ∧ sF [11, 12, 13] M M')) (0, 0) 20 [(0, .ref 62), (1, .int (nI p)), (2, .int (nI i))] [] M1 := by
    intro t
    induction t with
    | nil =>
      intro i acc M1 hdr hn hg hra hps hS1 hF
      simp only [List.length_nil] at hn
      have hP1 : sH M1 p P := sH_k hP hF.2.2.2.2.2.1 (by simp; omega)
      refine za_iload_n hc dM_contrary_20 rfl ?_
      refine za_aload_n hc dM_contrary_21 rfl ?_
      refine za_getA hc gfM_7 zob_62 (p := 63) rfl dM_contrary_22 ?_
      refine za_iload_n hc dM_contrary_25 rfl ?_
      refine zm_iald hc (by assumption) dM_contrary_26 (by omega) (by decide) ?_
      rw [hP1.1]
      refine za_icmp_ge 69 hc dM_contrary_27 rfl (fun h_27 => ?_) (fun h_27 => ?_)
      · skip
        exact za_vret hc rfl dM_contrary_69 ⟨Nat.zero_le _, Nat.zero_le _⟩ (⟨rfl, by rw [← hg]; exact ⟨hps, hS1⟩, hF⟩)
      · skip
        exact absurd ((nI_leI (by omega) (by omega)).mpr (show P.length ≤ i by omega)) h_27
    | cons row t ih =>
      intro i acc M1 hdr hn hg hra hps hS1 hF
      simp only [List.length_cons] at hn
      have hri : P[i]? = some row := by rw [← List.head?_drop, hdr]; rfl
      have hdr2 : P.drop (i + 1) = t := by rw [← List.drop_drop, hdr]; rfl
      have hrm := List.mem_of_getElem? hri
      have hP1 : sH M1 p P := sH_k hP hF.2.2.2.2.2.1 (by simp; omega)
      refine za_iload_n hc dM_contrary_20 rfl ?_
      refine za_aload_n hc dM_contrary_21 rfl ?_
      refine za_getA hc gfM_7 zob_62 (p := 63) rfl dM_contrary_22 ?_
      refine za_iload_n hc dM_contrary_25 rfl ?_
      refine zm_iald hc (by assumption) dM_contrary_26 (by omega) (by decide) ?_
      rw [hP1.1]
      refine za_icmp_ge 69 hc dM_contrary_27 rfl (fun h_27 => ?_) (fun h_27 => ?_)
      · skip
        exact absurd ((nI_leI (by omega) (by omega)).mp h_27) (by omega)
      · skip
        refine za_aload_n hc dM_contrary_30 rfl ?_
        refine za_getI hc gfM_181 zob_62 dM_contrary_31 ?_
        rw [hps]
        refine za_if_ne 69 hc dM_contrary_34 rfl (fun h_34 => ?_) (fun h_34 => ?_)
        · skip
          exact absurd rfl h_34
        · skip
          refine za_aload_n hc dM_contrary_37 rfl ?_
          refine za_bipush hc (nI 11) dM_contrary_38 rfl ?_
          refine za_iload_n hc dM_contrary_40 rfl ?_
          refine za_iload_n hc dM_contrary_41 rfl ?_
          refine za_cV3v hc gsM_208 zob_62 (cM_parts_ l M1 (to := 11) (by decide) (by omega) (by omega) hP1 hri hz hps hF.here) ⟨rfl, rfl⟩ ⟨Nat.le_of_ble_eq_true rfl, Nat.le_of_ble_eq_true rfl⟩ ⟨Nat.zero_le _, Nat.zero_le _⟩ dM_contrary_42 (fun M_42 h_42 => ?_)
          obtain ⟨w1, w2, w3⟩ := h_42
          have hF2 : sF [11, 12, 13] M M_42 := hF.tr (w3.wk (by simp))
          have hA2 : sH M_42 12 acc := sH_k hS1 w3.2.2.2.2.2.1 (by simp)
          refine za_aload_n hc dM_contrary_45 rfl ?_
          refine za_bipush hc (nI 13) dM_contrary_46 rfl ?_
          refine za_bipush hc (nI 12) dM_contrary_48 rfl ?_
          refine za_bipush hc (nI 11) dM_contrary_50 rfl ?_
          refine za_cV3v hc gsM_211 zob_62 (cM_both_ l M_42 (to := 13) (p := 12) (q := 11) (by decide) (by decide) (by decide) (by decide) (by decide) hA2 w2 hra (gcut_rz (hz row hrm) _) w1 hF2.here) ⟨rfl, rfl⟩ ⟨Nat.le_of_ble_eq_true rfl, Nat.le_of_ble_eq_true rfl⟩ ⟨Nat.zero_le _, Nat.zero_le _⟩ dM_contrary_52 (fun M_52 h_52 => ?_)
          obtain ⟨v1, v2⟩ := h_52
          have hF3 : sF [11, 12, 13] M M_52 := hF2.tr (v2.wk (by simp))
          rw [gnot1_c] at hg
          cases hga : gAnd acc (gcut row row.length) with
          | none =>
            rw [hga] at v1 hg
            obtain ⟨v3, R2, v4⟩ := v1
            refine za_aload_n hc dM_contrary_55 rfl ?_
            refine za_bipush hc (nI 12) dM_contrary_56 rfl ?_
            refine za_bipush hc (nI 13) dM_contrary_58 rfl ?_
            refine za_cV2v hc gsM_214 zob_62 (cM_copy_ l M_52 (to := 12) (of := 13) (by decide) (by decide) (by decide) v4 hF3.2.2.1) ⟨rfl, rfl⟩ ⟨Nat.le_of_ble_eq_true rfl, Nat.le_of_ble_eq_true rfl⟩ ⟨Nat.zero_le _, Nat.zero_le _⟩ dM_contrary_60 (fun M_60 h_60 => ?_)
            obtain ⟨y1, y2, y3, y4⟩ := h_60
            have hF4 : sF [11, 12, 13] M M_60 := hF3.copy (r := 12) (by simp) y2 y3 y4
            have hp4 : zI M_60 62 24 = zI M_52 62 24 := by rw [(y4 62 (mS_n (by decide))).1]
            refine za_iinc hc _ dM_contrary_63 rfl (rfl) (by decide) ?_
            refine za_goto 20 hc dM_contrary_66 rfl ?_
            exact STOP hg.symm _ M_60 (hp4.trans v3) ⟨R2, y1⟩ hF4
          | some a =>
            rw [hga] at v1 hg
            obtain ⟨v3, v4⟩ := v1
            refine za_aload_n hc dM_contrary_55 rfl ?_
            refine za_bipush hc (nI 12) dM_contrary_56 rfl ?_
            refine za_bipush hc (nI 13) dM_contrary_58 rfl ?_
            refine za_cV2v hc gsM_214 zob_62 (cM_copy_ l M_52 (to := 12) (of := 13) (by decide) (by decide) (by decide) v4 hF3.2.2.1) ⟨rfl, rfl⟩ ⟨Nat.le_of_ble_eq_true rfl, Nat.le_of_ble_eq_true rfl⟩ ⟨Nat.zero_le _, Nat.zero_le _⟩ dM_contrary_60 (fun M_60 h_60 => ?_)
            obtain ⟨y1, y2, y3, y4⟩ := h_60
            have hF4 : sF [11, 12, 13] M M_60 := hF3.copy (r := 12) (by simp) y2 y3 y4
            have hp4 : zI M_60 62 24 = zI M_52 62 24 := by rw [(y4 62 (mS_n (by decide))).1]
            refine za_iinc hc _ dM_contrary_63 rfl ((nI_succ i).symm) (by decide) ?_
            refine za_goto 20 hc dM_contrary_66 rfl ?_
            exact ih (i + 1) a M_60 hdr2 (by omega) hg (gAnd_rz hra (gcut_rz (hz row hrm) _) hga) (hp4.trans v3) y1 hF4
  have hFa : sF [11, 12, 13] M (zsI M 63 12 0) := (hF0.wk (by simp)).clr (by simp)
  refine za_aload_n hc dM_contrary_0 rfl ?_
  refine za_getA hc gfM_7 zob_62 (p := 63) rfl dM_contrary_1 ?_
  refine za_bipush hc (nI 12) dM_contrary_4 rfl ?_
  refine za_iconst hc 0 dM_contrary_6 rfl ?_
  refine zm_iast hc (by assumption) dM_contrary_7 (by omega) (by decide) ?_
  refine za_aload_n hc dM_contrary_8 rfl ?_
  refine za_cV0v hc gsM_198 zob_62 (cM_begin_ l (zsI M 63 12 0)) ⟨rfl, rfl⟩ ⟨Nat.le_of_ble_eq_true rfl, Nat.le_of_ble_eq_true rfl⟩ ⟨Nat.zero_le _, Nat.zero_le _⟩ dM_contrary_9 (fun M_9 h_9 => ?_)
  have hmb : M_9 = mBg (zsI M 63 12 0) := h_9
  subst hmb
  refine za_aload_n hc dM_contrary_12 rfl ?_
  refine za_bipush hc (nI 12) dM_contrary_13 rfl ?_
  refine za_cV1v hc gsM_205 zob_62 (cM_put_ l (mBg (zsI M 63 12 0)) (r := 12) (R := []) (ms := []) (by decide) (sH_k (I := []) sH_clear (sK_fr mBg_fr (fun k h1 h2 z => by unfold m62 at z; omega)) (by simp)) (mBg_H hFa.2.1) mOK_nil (by rw [(mBg_k 24 (by decide)).1]; exact hps0) mBg_n hFa.bg.1 hFa.bg.2.2.1 hFa.bg.2.2.2.1) ⟨rfl, rfl⟩ ⟨Nat.le_of_ble_eq_true rfl, Nat.le_of_ble_eq_true rfl⟩ ⟨Nat.zero_le _, Nat.zero_le _⟩ dM_contrary_15 (fun M_15 h_15 => ?_)
  obtain ⟨v1, v2, v3, v4, v5, v6, v7⟩ := h_15
  have hF5 : sF [11, 12, 13] M M_15 := hFa.bg.put (r := 12) (by simp) v2 v3 v4 v5 v6 v7
  rw [show ([] : List gC).foldl gput [] = [] from rfl, gadd_nil] at v1
  refine za_iconst hc 0 dM_contrary_18 rfl ?_
  refine za_istore_n hc dM_contrary_19 (by decide) ?_
  exact loop P 0 [[]] M_15 rfl (by omega) rfl gRz_one v1.1 v1.2 hF5
