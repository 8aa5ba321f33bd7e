/-! The model: both. -/
def xI : List Nat := 14 :: pI
/-- what stands between calls of the model's inner methods -/
def sF (I : List Nat) (M M1 : zM) : Prop := zbo M1 76 ∧ zbo M1 72 ∧ sbo M1 ∧ m3640 M1 ∧ mK xI M M1 ∧ sK I M M1 ∧ zfr mP M M1
theorem sF.wk {I I' : List Nat} {M M1 : zM} (h : sF I M M1) (hI : ∀ j, j ∈ I → j ∈ I') : sF I' M M1 := ⟨h.1, h.2.1, h.2.2.1, h.2.2.2.1, h.2.2.2.2.1, h.2.2.2.2.2.1.wk hI, h.2.2.2.2.2.2⟩
theorem sF.here {I : List Nat} {M M1 : zM} (h : sF I M M1) : sF [] M1 M1 := ⟨h.1, h.2.1, h.2.2.1, h.2.2.2.1, mK.rf, sK.rf, zfr.rf⟩
theorem sF.tr {I : List Nat} {M M1 M2 : zM} (h : sF I M M1) (h' : sF I M1 M2) : sF I M M2 := ⟨h'.1, h'.2.1, h'.2.2.1, h'.2.2.2.1, h.2.2.2.2.1.tr h'.2.2.2.2.1, h.2.2.2.2.2.1.tr h'.2.2.2.2.2.1, h.2.2.2.2.2.2.tr h'.2.2.2.2.2.2⟩
def mBg (M : zM) : zM := zsI (zsI M 62 13 0) 62 14 0
theorem mBg_fr {M : zM} : zfr m62 M (mBg M) := (zfr_sI (P := m62) rfl).tr (zfr_sI (P := m62) rfl)
theorem mBg_k {M : zM} : mK [13, 14] M (mBg M) := (mK_sI (by decide)).tr (mK_sI (by decide))
theorem mBg_n {M : zM} : zI (mBg M) 62 14 = 0 := by unfold mBg; rw [zI_s, if_pos rfl]
theorem mBg_H {M : zM} (h : zbo M 72) : mH (mBg M) [] := ⟨by unfold mBg; rw [zI_s, if_neg (by decide), zI_s, if_pos rfl]; rfl, by decide, fun j q hq => by simp at hq, zfr_bo (d := 72) mBg_fr (by unfold m62; decide) h⟩
theorem m62_P {k : Nat} (h : m62 k) : mP k := mN_P (m62_N h)
theorem sF.f62 {I J : List Nat} {M M1 M2 : zM} (h : sF I M M1) (hk : mK J M1 M2) (hf : zfr m62 M1 M2) (hJ : ∀ j, j ∈ J → j ∈ xI) (h36 : 36 ∉ J) (h39 : 39 ∉ J) : sF I M M2 := ⟨zfr_bo (d := 76) hf (by unfold m62; decide) h.1, zfr_bo (d := 72) hf (by unfold m62; decide) h.2.1, sbo_fr h.2.2.1 hf (by unfold m62; decide), m3640_k h.2.2.2.1 hk h36 h39, h.2.2.2.2.1.tr (hk.wk hJ), h.2.2.2.2.2.1.tr (sK_fr hf (fun k h1 h2 z => by unfold m62 at z; omega)), h.2.2.2.2.2.2.tr (hf.wk (fun k z => m62_P z))⟩
theorem sF.bg {I : List Nat} {M M1 : zM} (h : sF I M M1) : sF I M (mBg M1) := h.f62 mBg_k mBg_fr (by decide) (by decide) (by decide)
theorem sF.add {I : List Nat} {M M1 M2 : zM} (h : sF I M M1) (hk : mK [13, 14] M1 M2) (hf : zfr mA M1 M2) (hb : zbo M2 72) : sF I M M2 := ⟨zbo_N hf h.1, hb, sbo_fr h.2.2.1 hf (mA_s 68 (by decide) (by decide)), m3640_k h.2.2.2.1 hk (by decide) (by decide), h.2.2.2.2.1.tr (hk.wk (by decide)), h.2.2.2.2.2.1.tr (sK_fr hf mA_s), h.2.2.2.2.2.2.tr (hf.wk (fun k z => mN_P (mA_N z)))⟩
theorem sF.put {I : List Nat} {M M1 M2 : zM} {r : Nat} (h : sF I M M1) (hr : r ∈ I) (w1 : zbo M2 76 ∧ zbo M2 72) (w2 : sbo M2) (w3 : m3640 M2) (w4 : mK pI M1 M2) (w5 : sK [r] M1 M2) (w6 : zfr mP M1 M2) : sF I M M2 := ⟨w1.1, w1.2, w2, w3, h.2.2.2.2.1.tr (w4.wk (fun j hj => List.mem_cons_of_mem _ hj)), h.2.2.2.2.2.1.tr (w5.wk (fun j hj => by rw [List.mem_singleton.mp hj]; exact hr)), h.2.2.2.2.2.2.tr w6⟩
theorem mS_n {k : Nat} (h : k < 63 ∨ 68 < k) : ¬ mS k := by unfold mS; omega
theorem sF.copy {I : List Nat} {M M1 M2 : zM} {r : Nat} (h : sF I M M1) (hr : r ∈ I) (w1 : sK [r] M1 M2) (w2 : sbo M2) (w3 : zfr mS M1 M2) : sF I M M2 := ⟨zfr_bo (d := 76) w3 (mS_n (by decide)) h.1, zfr_bo (d := 72) w3 (mS_n (by decide)) h.2.1, w2, m3640_k (I := []) h.2.2.2.1 (mK_fr w3 (mS_n (by decide))) (by decide) (by decide), h.2.2.2.2.1.tr (mK_fr w3 (mS_n (by decide))), h.2.2.2.2.2.1.tr (w1.wk (fun j hj => by rw [List.mem_singleton.mp hj]; exact hr)), h.2.2.2.2.2.2.tr (w3.wk (fun k z => mS_P z))⟩
theorem mOK_lim {l : List gC} (h1 : ∀ q ∈ l, gLim q) (h2 : ∀ q ∈ l, gnz q) : mOK l := ⟨fun q hq => by have := h1 q hq; unfold gLim at this; unfold gBd; omega, h2, Or.inl (fun q hq => lim_Bd.mp (h1 q hq))⟩
theorem sH_clear {M : zM} {r : Nat} : sH (zsI M 63 r 0) r [] := ⟨by rw [zI_s, if_pos rfl]; rfl, by decide, fun j row h => by simp at h⟩
theorem sF.clr {I : List Nat} {M M1 : zM} {r : Nat} (h : sF I M M1) (hr : r ∈ I) : sF I M (zsI M1 63 r 0) := by
  have fr : zfr mS M1 (zsI M1 63 r 0) := zfr_sI ⟨by decide, by decide⟩
  exact h.copy hr (fun r2 hr2 => ⟨by rw [zI_s, if_neg (fun z => hr2 (by rw [z]; simp))], fun j _ => rfl, fun k _ => rfl⟩) (fun p => h.2.2.1 p) fr
def gRz (P : List (List gC)) : Prop := ∀ row ∈ P, ∀ m ∈ row, gnz m

set_option maxRecDepth 100000 in
set_option maxHeartbeats 4000000 in
theorem cM_both_ (l : Launch) {to p q : Nat} {P Q : List (List gC)} (M : zM) (ht14 : to < 14) (hp14 : p < 14) (hq14 : q < 14) (hpt : to ≠ p) (hqt : to ≠ q) (hP : sH M p P) (hQ : sH M q Q) (hzP : gRz P) (hzQ : gRz Q) (hps0 : zI M 62 24 = 0) (hF0 : sF [] M M) : zMet l mM_both rM_both [.ref 62, .int (nI to), .int (nI p), .int (nI q)] M (zqv (fun M' => sAd to (gAnd P Q) M' ∧ sF [to] M M')) := by
  refine za_enter (by decide) (Nat.le_of_ble_eq_true rfl) (fun X hc => ?_)
  have a63 := ar_63
  have a64 := ar_64
  have a65 := ar_65
  have a66 := ar_66
  have a67 := ar_67
  have a68 := ar_68
  have a73 := ar_73
  have a74 := ar_74
  have a75 := ar_75
  have a76 := ar_76
  have hpl := hP.2.1
  have hql := hQ.2.1
  have STOP : gAnd P Q = none → ∀ (x : Int32) (M1 : zM), zI M1 62 24 = 1 → (∃ R2, sH M1 to R2) → sF [to] M M1 → zW X (zqv (fun M' => sAd to (gAnd P Q) M' ∧ sF [to] M M')) (0, 0) 10 [(0, .ref 62), (1, .int (nI to)), (2, .int (nI p)), (3, .int (nI q)), (4, .int x)] [] M1 := by
    intro hga x M1 hps hex hF
    refine za_iload hc dM_both_10 rfl ?_
    refine za_aload_n hc dM_both_12 rfl ?_
    refine za_getA hc gfM_7 zob_62 (p := 63) rfl dM_both_13 ?_
    refine za_iload_n hc dM_both_16 rfl ?_
    refine zm_iald hc (by assumption) dM_both_17 (by omega) (by decide) ?_
    refine za_icmp_ge 108 hc dM_both_18 rfl (fun h_18 => ?_) (fun h_18 => ?_)
    · skip
      exact za_vret hc rfl dM_both_108 ⟨Nat.zero_le _, Nat.zero_le _⟩ (⟨rfl, by rw [hga]; exact ⟨hps, hex⟩, hF⟩)
    · skip
      refine za_aload_n hc dM_both_21 rfl ?_
      refine za_getI hc gfM_181 zob_62 dM_both_22 ?_
      rw [hps]
      refine za_if_ne 108 hc dM_both_25 rfl (fun h_25 => ?_) (fun h_25 => ?_)
      · skip
        exact za_vret hc rfl dM_both_108 ⟨Nat.zero_le _, Nat.zero_le _⟩ (⟨rfl, by rw [hga]; exact ⟨hps, hex⟩, hF⟩)
      · skip
        exact absurd h_25 (by decide)
  have outer : ∀ (t : List (List gC)) (i : Nat) (acc : List (List gC)) (M1 : zM), P.drop i = t → i + t.length = P.length → gand2 Q acc t = gAnd P Q → zI M1 62 24 = 0 → sH M1 to acc → sF [to] M M1 → zW X (zqv (fun M' => sAd to (gAnd P Q) M' ∧ sF [to] M M')) (0, 0) 10 [(0, .ref 62), (1, .int (nI to)), (2, .int (nI p)), (3, .int (nI q)), (4, .int (nI i))] [] M1 := by
    intro t
    induction t with
    | nil =>
      intro i acc M1 hdr hn hg hps hS1 hF
      simp only [List.length_nil] at hn
      have hP1 : sH M1 p P := sH_k hP hF.2.2.2.2.2.1 (by simp; exact fun z => hpt z.symm)
      have hQ1 : sH M1 q Q := sH_k hQ hF.2.2.2.2.2.1 (by simp; exact fun z => hqt z.symm)
      refine za_iload hc dM_both_10 rfl ?_
      refine za_aload_n hc dM_both_12 rfl ?_
      refine za_getA hc gfM_7 zob_62 (p := 63) rfl dM_both_13 ?_
      refine za_iload_n hc dM_both_16 rfl ?_
      refine zm_iald hc (by assumption) dM_both_17 (by omega) (by decide) ?_
      rw [hP1.1]
      refine za_icmp_ge 108 hc dM_both_18 rfl (fun h_18 => ?_) (fun h_18 => ?_)
      · skip
        exact za_vret hc rfl dM_both_108 ⟨Nat.zero_le _, Nat.zero_le _⟩ (⟨rfl, by rw [← hg]; exact ⟨hps, hS1⟩, hF⟩)
      · skip
        exact absurd ((nI_leI (by omega) (by omega)).mpr (show P.length ≤ i by omega)) h_18
    | cons pr t ih =>
      intro i acc M1 hdr hn hg hps hS1 hF
      simp only [List.length_cons] at hn
      have hpi : P[i]? = some pr := by rw [← List.head?_drop, hdr]; rfl
      have hdr2 : P.drop (i + 1) = t := by rw [← List.drop_drop, hdr]; rfl
      have hpm := List.mem_of_getElem? hpi
      have inner : ∀ (u : List (List gC)) (j : Nat) (acc : List (List gC)) (M1 : zM), Q.drop j = u → j + u.length = Q.length → (match gand1 pr acc u with | some a => gand2 Q a t | none => none) = gAnd P Q → zI M1 62 24 = 0 → sH M1 to acc → sF [to] M M1 → zW X (zqv (fun M' => sAd to (gAnd P Q) M' ∧ sF [to] M M')) (0, 0) 31 [(0, .ref 62), (1, .int (nI to)), (2, .int (nI p)), (3, .int (nI q)), (4, .int (nI i)), (5, .int (nI j))] [] M1 := by
        clear hg hps hS1 hF M1 acc
        intro u
        induction u with
        | nil =>
          intro j acc M1 hdu hm hg hps hS1 hF
          simp only [List.length_nil] at hm
          have hP1 : sH M1 p P := sH_k hP hF.2.2.2.2.2.1 (by simp; exact fun z => hpt z.symm)
          have hQ1 : sH M1 q Q := sH_k hQ hF.2.2.2.2.2.1 (by simp; exact fun z => hqt z.symm)
          refine za_iload hc dM_both_31 rfl ?_
          refine za_aload_n hc dM_both_33 rfl ?_
          refine za_getA hc gfM_7 zob_62 (p := 63) rfl dM_both_34 ?_
          refine za_iload_n hc dM_both_37 rfl ?_
          refine zm_iald hc (by assumption) dM_both_38 (by omega) (by decide) ?_
          rw [hQ1.1]
          refine za_icmp_ge 102 hc dM_both_39 rfl (fun h_39 => ?_) (fun h_39 => ?_)
          · skip
            refine za_iinc hc _ dM_both_102 rfl ((nI_succ i).symm) (by decide) ?_
            refine za_goto 10 hc dM_both_105 rfl ?_
            refine za_take 5 ?_
            exact ih (i + 1) acc M1 hdr2 (by omega) hg hps hS1 hF
          · skip
            exact absurd ((nI_leI (by omega) (by omega)).mpr (show Q.length ≤ j by omega)) h_39
        | cons qr u ihu =>
          intro j acc M1 hdu hm hg hps hS1 hF
          simp only [List.length_cons] at hm
          have hqj : Q[j]? = some qr := by rw [← List.head?_drop, hdu]; rfl
          have hdu2 : Q.drop (j + 1) = u := by rw [← List.drop_drop, hdu]; rfl
          have hqm := List.mem_of_getElem? hqj
          have hP1 : sH M1 p P := sH_k hP hF.2.2.2.2.2.1 (by simp; exact fun z => hpt z.symm)
          have hQ1 : sH M1 q Q := sH_k hQ hF.2.2.2.2.2.1 (by simp; exact fun z => hqt z.symm)
          obtain ⟨a1, a2, a3, a4⟩ := hP1.2.2 i pr hpi
          obtain ⟨b1, b2, b3, b4⟩ := hQ1.2.2 j qr hqj
          have hF2 := hF.bg
          have hP2 : sH (mBg M1) p P := sH_k hP hF2.2.2.2.2.2.1 (by simp; exact fun z => hpt z.symm)
          have c64 : zI (mBg M1) 64 = zI M1 64 := rfl
          refine za_iload hc dM_both_31 rfl ?_
          refine za_aload_n hc dM_both_33 rfl ?_
          refine za_getA hc gfM_7 zob_62 (p := 63) rfl dM_both_34 ?_
          refine za_iload_n hc dM_both_37 rfl ?_
          refine zm_iald hc (by assumption) dM_both_38 (by omega) (by decide) ?_
          rw [hQ1.1]
          refine za_icmp_ge 102 hc dM_both_39 rfl (fun h_39 => ?_) (fun h_39 => ?_)
          · skip
            exact absurd ((nI_leI (by omega) (by omega)).mp h_39) (by omega)
          · skip
            refine za_aload_n hc dM_both_42 rfl ?_
            refine za_getI hc gfM_181 zob_62 dM_both_43 ?_
            rw [hps]
            refine za_if_ne 102 hc dM_both_46 rfl (fun h_46 => ?_) (fun h_46 => ?_)
            · skip
              exact absurd rfl h_46
            · skip
              refine za_aload_n hc dM_both_49 rfl ?_
              refine za_cV0v hc gsM_198 zob_62 (cM_begin_ l M1) ⟨rfl, rfl⟩ ⟨Nat.le_of_ble_eq_true rfl, Nat.le_of_ble_eq_true rfl⟩ ⟨Nat.zero_le _, Nat.zero_le _⟩ dM_both_50 (fun M_50 h_50 => ?_)
              have hmb : M_50 = mBg M1 := h_50
              subst hmb
              refine za_aload_n hc dM_both_53 rfl ?_
              refine za_iload_n hc dM_both_54 rfl ?_
              refine za_iload hc dM_both_55 rfl ?_
              refine za_aload_n hc dM_both_57 rfl ?_
              refine za_getA hc gfM_13 zob_62 (p := 64) rfl dM_both_58 ?_
              refine za_bipush hc 12 dM_both_61 rfl ?_
              refine za_iload_n hc dM_both_63 rfl ?_
              refine za_imul hc dM_both_64 ?_
              refine za_iload hc dM_both_65 rfl ?_
              refine za_iadd hc dM_both_67 ?_
              rw [zic]
              refine zm_iald hc (by assumption) dM_both_68 (by omega) (by decide) ?_
              rw [c64, a2]
              refine za_cV3v hc gsM_201 zob_62 (cM_addRow_ l (mBg M1) hp14 hP2 hpi (Nat.le_refl _) (hzP pr hpm) (mBg_H hF.2.1) (by simp only [List.length_nil]; omega) mBg_n hF2.2.2.1) ⟨rfl, rfl⟩ ⟨Nat.le_of_ble_eq_true rfl, Nat.le_of_ble_eq_true rfl⟩ ⟨Nat.zero_le _, Nat.zero_le _⟩ dM_both_69 (fun M_69 h_69 => ?_)
              obtain ⟨w1, w2, w3, w4⟩ := h_69
              rw [List.take_length, List.nil_append] at w1
              have hF3 : sF [to] M M_69 := hF2.add w3 w4 w1.2.2.2
              have hQ3 : sH M_69 q Q := sH_k hQ hF3.2.2.2.2.2.1 (by simp; exact fun z => hqt z.symm)
              have c64b : zI M_69 64 = zI M1 64 := (w4 64 (mA_s 64 (by decide) (by decide))).1
              refine za_aload_n hc dM_both_72 rfl ?_
              refine za_iload_n hc dM_both_73 rfl ?_
              refine za_iload hc dM_both_74 rfl ?_
              refine za_aload_n hc dM_both_76 rfl ?_
              refine za_getA hc gfM_13 zob_62 (p := 64) rfl dM_both_77 ?_
              refine za_bipush hc 12 dM_both_80 rfl ?_
              refine za_iload_n hc dM_both_82 rfl ?_
              refine za_imul hc dM_both_83 ?_
              refine za_iload hc dM_both_84 rfl ?_
              refine za_iadd hc dM_both_86 ?_
              rw [zic]
              refine zm_iald hc (by assumption) dM_both_87 (by omega) (by decide) ?_
              rw [c64b, b2]
              refine za_cV3v hc gsM_201 zob_62 (cM_addRow_ l M_69 hq14 hQ3 hqj (Nat.le_refl _) (hzQ qr hqm) w1 (by omega) w2 hF3.2.2.1) ⟨rfl, rfl⟩ ⟨Nat.le_of_ble_eq_true rfl, Nat.le_of_ble_eq_true rfl⟩ ⟨Nat.zero_le _, Nat.zero_le _⟩ dM_both_88 (fun M_88 h_88 => ?_)
              obtain ⟨x1, x2, x3, x4⟩ := h_88
              rw [List.take_length] at x1
              have hF4 : sF [to] M M_88 := hF3.add x3 x4 x1.2.2.2
              have hS4 : sH M_88 to acc := sH_k (I := []) hS1 ((sK_fr (mBg_fr (M := M1)) (fun k h1 h2 z => by unfold m62 at z; omega)).tr ((sK_fr w4 mA_s).tr (sK_fr x4 mA_s))) (by simp)
              have hps4 : zI M_88 62 24 = 0 := by rw [(x3 24 (by decide)).1, (w3 24 (by decide)).1, (mBg_k 24 (by decide)).1]; exact hps
              refine za_aload_n hc dM_both_91 rfl ?_
              refine za_iload_n hc dM_both_92 rfl ?_
              refine za_cV1v hc gsM_205 zob_62 (cM_put_ l M_88 ht14 hS4 x1 (mOK_lim (fun k hk => (List.mem_append.mp hk).elim (a4 k) (b4 k)) (fun k hk => (List.mem_append.mp hk).elim (hzP pr hpm k) (hzQ qr hqm k))) hps4 x2 hF4.1 hF4.2.2.1 hF4.2.2.2.1) ⟨rfl, rfl⟩ ⟨Nat.le_of_ble_eq_true rfl, Nat.le_of_ble_eq_true rfl⟩ ⟨Nat.zero_le _, Nat.zero_le _⟩ dM_both_93 (fun M_93 h_93 => ?_)
              obtain ⟨v1, v2, v3, v4, v5, v6, v7⟩ := h_93
              have hF5 : sF [to] M M_93 := hF4.put (by simp) v2 v3 v4 v5 v6 v7
              unfold gand1 at hg
              cases hga : gadd acc ((pr ++ qr).foldl gput []) with
              | none =>
                rw [hga] at v1 hg
                refine za_iinc hc _ dM_both_96 rfl (rfl) (by decide) ?_
                refine za_goto 31 hc dM_both_99 rfl ?_
                refine za_iload hc dM_both_31 rfl ?_
                refine za_aload_n hc dM_both_33 rfl ?_
                refine za_getA hc gfM_7 zob_62 (p := 63) rfl dM_both_34 ?_
                refine za_iload_n hc dM_both_37 rfl ?_
                refine zm_iald hc (by assumption) dM_both_38 (by omega) (by decide) ?_
                refine za_icmp_ge 102 hc dM_both_39 rfl (fun h_39 => ?_) (fun h_39 => ?_)
                · skip
                  refine za_iinc hc _ dM_both_102 rfl (rfl) (by decide) ?_
                  refine za_goto 10 hc dM_both_105 rfl ?_
                  refine za_take 5 ?_
                  exact STOP hg.symm _ M_93 v1.1 v1.2 hF5
                · skip
                  refine za_aload_n hc dM_both_42 rfl ?_
                  refine za_getI hc gfM_181 zob_62 dM_both_43 ?_
                  rw [show zI M_93 62 24 = 1 from v1.1]
                  refine za_if_ne 102 hc dM_both_46 rfl (fun h_46 => ?_) (fun h_46 => ?_)
                  · skip
                    refine za_iinc hc _ dM_both_102 rfl (rfl) (by decide) ?_
                    refine za_goto 10 hc dM_both_105 rfl ?_
                    refine za_take 5 ?_
                    exact STOP hg.symm _ M_93 v1.1 v1.2 hF5
                  · skip
                    exact absurd h_46 (by decide)
              | some a =>
                rw [hga] at v1 hg
                refine za_iinc hc _ dM_both_96 rfl ((nI_succ j).symm) (by decide) ?_
                refine za_goto 31 hc dM_both_99 rfl ?_
                exact ihu (j + 1) a M_93 hdu2 (by omega) hg v1.1 v1.2 hF5
      have hP1 : sH M1 p P := sH_k hP hF.2.2.2.2.2.1 (by simp; exact fun z => hpt z.symm)
      have hQ1 : sH M1 q Q := sH_k hQ hF.2.2.2.2.2.1 (by simp; exact fun z => hqt z.symm)
      refine za_iload hc dM_both_10 rfl ?_
      refine za_aload_n hc dM_both_12 rfl ?_
      refine za_getA hc gfM_7 zob_62 (p := 63) rfl dM_both_13 ?_
      refine za_iload_n hc dM_both_16 rfl ?_
      refine zm_iald hc (by assumption) dM_both_17 (by omega) (by decide) ?_
      rw [hP1.1]
      refine za_icmp_ge 108 hc dM_both_18 rfl (fun h_18 => ?_) (fun h_18 => ?_)
      · skip
        exact absurd ((nI_leI (by omega) (by omega)).mp h_18) (by omega)
      · skip
        refine za_aload_n hc dM_both_21 rfl ?_
        refine za_getI hc gfM_181 zob_62 dM_both_22 ?_
        rw [hps]
        refine za_if_ne 108 hc dM_both_25 rfl (fun h_25 => ?_) (fun h_25 => ?_)
        · skip
          exact absurd rfl h_25
        · skip
          refine za_iconst hc 0 dM_both_28 rfl ?_
          refine za_istore hc dM_both_29 (by decide) ?_
          exact inner Q 0 acc M1 rfl (by omega) (by unfold gand2 at hg; exact hg) hps hS1 hF
  refine za_aload_n hc dM_both_0 rfl ?_
  refine za_getA hc gfM_7 zob_62 (p := 63) rfl dM_both_1 ?_
  refine za_iload_n hc dM_both_4 rfl ?_
  refine za_iconst hc 0 dM_both_5 rfl ?_
  refine zm_iast hc (by assumption) dM_both_6 ht14 (by decide) ?_
  refine za_iconst hc 0 dM_both_7 rfl ?_
  refine za_istore hc dM_both_8 (by decide) ?_
  exact outer P 0 [] (zsI M 63 to 0) rfl (by omega) rfl hps0 sH_clear ((hF0.wk (by simp)).clr (by simp))
