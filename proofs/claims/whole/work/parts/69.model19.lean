/-! The model: within, or. -/
theorem gnot1_rz : ∀ (P acc R : List (List gC)), gRz P → gRz acc → gnot1 acc P = some R → gRz R := by
  intro P
  induction P with
  | nil => intro acc R _ ha h; unfold gnot1 at h; rw [← Option.some.inj h]; exact ha
  | cons row t ih =>
    intro acc R hP ha h
    rw [gnot1_c] at h
    cases e : gAnd acc (gcut row row.length) with
    | none => rw [e] at h; cases h
    | some a => rw [e] at h; exact ih a R (fun r hr => hP r (List.mem_cons_of_mem _ hr)) (gAnd_rz ha (gcut_rz (hP row List.mem_cons_self) _) e) h
theorem gNot_rz {P R : List (List gC)} (hP : gRz P) (h : gNot P = some R) : gRz R := gnot1_rz P [[]] R hP gRz_one h
noncomputable def gWi (P Q : List (List gC)) : Option (List (List gC)) := match gNot P with
  | some N => gAnd Q N
  | none => none

set_option maxRecDepth 100000 in
set_option maxHeartbeats 4000000 in
theorem cM_within_ (l : Launch) {h : Nat} {P Q : List (List gC)} (M : zM) (hh : h ≤ 6) (hp : zI M 62 7 = nI h) (hF0 : sF [] M M) (hPQ : 2 ≤ h → sH M (h - 2) P ∧ sH M (h - 1) Q ∧ gRz P ∧ gRz Q) : zMet l mM_within rM_within [.ref 62] M (zqi (fun x M' => (h < 2 → x = 0 ∧ M' = zsI M 62 0 1) ∧ (2 ≤ h → (match gWi P Q with | some R => zI M' 62 0 = 0 ∧ (x = 0 ∨ x = 1) ∧ (x = 1 ↔ R = []) | none => zI M' 62 0 = 2 ∧ x = 0) ∧ zI M' 62 7 = nI h ∧ sG [10, 11, 12, 13] M M'))) := by
  refine za_enter (by decide) (Nat.le_of_ble_eq_true rfl) (fun X hc => ?_)
  have a63 := ar_63
  have a64 := ar_64
  have a65 := ar_65
  have a66 := ar_66
  have a67 := ar_67
  have a68 := ar_68
  refine za_aload_n hc dM_within_0 rfl ?_
  refine za_aload_n hc dM_within_1 rfl ?_
  refine za_getI hc gfM_220 zob_62 dM_within_2 ?_
  rw [hp]
  refine za_iconst hc 2 dM_within_5 rfl ?_
  refine za_icmp_ge 13 hc dM_within_6 rfl (fun h_6 => ?_) (fun h_6 => ?_)
  · skip
    have h1 : 2 ≤ h := (nI_lt2 hh).mp h_6
    refine za_iconst hc 0 dM_within_13 rfl ?_
    refine za_putI hc gpM_66 zob_62 dM_within_14 ?_
    refine za_aload_n hc dM_within_17 rfl ?_
    refine za_getI hc gfM_66 zob_62 dM_within_18 ?_
    rw [zI_s, if_pos rfl]
    refine za_if_le 26 hc dM_within_21 rfl (fun h_21 => ?_) (fun h_21 => ?_)
    · skip
      obtain ⟨hP, hQ, hzP, hzQ⟩ := hPQ h1
      have hG2 : sG [10, 11, 12, 13] M (zsI (zsI M 62 0 0) 62 24 0) := ((hF0.g.wk (by simp)).set (j := 0) (by decide) (by decide) (by decide)).set (j := 24) (by decide) (by decide) (by decide)
      refine za_aload_n hc dM_within_26 rfl ?_
      refine za_iconst hc 0 dM_within_27 rfl ?_
      refine za_putZ hc gpM_181 zob_62 (nz01 (by first | exact Or.inl rfl | exact Or.inr rfl)) dM_within_28 ?_
      refine za_aload_n hc dM_within_31 rfl ?_
      refine za_aload_n hc dM_within_32 rfl ?_
      refine za_getI hc gfM_220 zob_62 dM_within_33 ?_
      rw [zI_s, if_neg (by decide), zI_s, if_neg (by decide), hp]
      refine za_iconst hc 2 dM_within_36 rfl ?_
      refine za_isub hc dM_within_37 ?_
      rw [nI_pr2 h1]
      refine za_cV1v hc gsM_223 zob_62 (cM_contrary_ l (zsI (zsI M 62 0 0) 62 24 0) (p := h - 2) (by omega) (sH_set (sH_set hP)) hzP (by rw [zI_s, if_pos rfl]) hG2.here) ⟨rfl, rfl⟩ ⟨Nat.le_of_ble_eq_true rfl, Nat.le_of_ble_eq_true rfl⟩ ⟨Nat.zero_le _, Nat.zero_le _⟩ dM_within_38 (fun M_38 h_38 => ?_)
      obtain ⟨v1, v2⟩ := h_38
      have hG3 : sG [10, 11, 12, 13] M M_38 := hG2.tr (v2.g.wk (by simp))
      have hp7 : zI M_38 62 7 = nI h := by rw [(v2.2.2.2.2.1 7 (by decide)).1, zI_s, if_neg (by decide), zI_s, if_neg (by decide)]; exact hp
      have hQ3 : sH M_38 (h - 1) Q := sH_k (sH_set (sH_set hQ)) v2.2.2.2.2.2.1 (by simp; omega)
      cases hgn : gNot P with
      | none =>
        rw [hgn] at v1
        have hgw : gWi P Q = none := by unfold gWi; rw [hgn]
        have v3 : zI M_38 62 24 = 1 := v1.1
        refine za_aload_n hc dM_within_41 rfl ?_
        refine za_getI hc gfM_181 zob_62 dM_within_42 ?_
        rw [v3]
        refine za_if_ne 62 hc dM_within_45 rfl (fun h_45 => ?_) (fun h_45 => ?_)
        · skip
          refine za_aload_n hc dM_within_62 rfl ?_
          refine za_aload_n hc dM_within_63 rfl ?_
          refine za_getI hc gfM_181 zob_62 dM_within_64 ?_
          rw [v3]
          refine za_if_eq 74 hc dM_within_67 rfl (fun h_67 => ?_) (fun h_67 => ?_)
          · skip
            exact absurd h_67 (by decide)
          · skip
            refine za_iconst hc 2 dM_within_70 rfl ?_
            refine za_goto 75 hc dM_within_71 rfl ?_
            refine za_putI hc gpM_66 zob_62 dM_within_75 ?_
            refine za_aload_n hc dM_within_78 rfl ?_
            refine za_getI hc gfM_66 zob_62 dM_within_79 ?_
            rw [zI_s, if_pos rfl]
            refine za_if_ne 99 hc dM_within_82 rfl (fun h_82 => ?_) (fun h_82 => ?_)
            · skip
              refine za_iconst hc 0 dM_within_99 rfl ?_
              exact za_zret hc rfl (rfl) dM_within_100 ⟨Nat.zero_le _, Nat.zero_le _⟩ (⟨_, rfl, (fun z => absurd z (by omega)), fun _ => ⟨by rw [hgw]; exact ⟨by rw [zI_s, if_pos rfl], rfl⟩, by rw [zI_s, if_neg (by decide)]; exact hp7, hG3.set (j := 0) (by decide) (by decide) (by decide)⟩⟩)
            · skip
              exact absurd h_82 (by decide)
        · skip
          exact absurd h_45 (by decide)
      | some N =>
        rw [hgn] at v1
        obtain ⟨v3, v4⟩ := v1
        refine za_aload_n hc dM_within_41 rfl ?_
        refine za_getI hc gfM_181 zob_62 dM_within_42 ?_
        rw [v3]
        refine za_if_ne 62 hc dM_within_45 rfl (fun h_45 => ?_) (fun h_45 => ?_)
        · skip
          exact absurd rfl h_45
        · skip
          refine za_aload_n hc dM_within_48 rfl ?_
          refine za_bipush hc (nI 10) dM_within_49 rfl ?_
          refine za_aload_n hc dM_within_51 rfl ?_
          refine za_getI hc gfM_220 zob_62 dM_within_52 ?_
          rw [hp7]
          refine za_iconst hc 1 dM_within_55 rfl ?_
          refine za_isub hc dM_within_56 ?_
          rw [nI_pr1 (by omega)]
          refine za_bipush hc (nI 12) dM_within_57 rfl ?_
          refine za_cV3v hc gsM_211 zob_62 (cM_both_ l M_38 (to := 10) (p := h - 1) (q := 12) (by decide) (by omega) (by decide) (by omega) (by decide) hQ3 v4 hzQ (gNot_rz hzP hgn) v3 hG3.here) ⟨rfl, rfl⟩ ⟨Nat.le_of_ble_eq_true rfl, Nat.le_of_ble_eq_true rfl⟩ ⟨Nat.zero_le _, Nat.zero_le _⟩ dM_within_59 (fun M_59 h_59 => ?_)
          obtain ⟨u1, u2⟩ := h_59
          have hG4 : sG [10, 11, 12, 13] M M_59 := hG3.tr (u2.g.wk (by simp))
          have hp8 : zI M_59 62 7 = nI h := by rw [(u2.2.2.2.2.1 7 (by decide)).1]; exact hp7
          cases hga : gAnd Q N with
          | none =>
            rw [hga] at u1
            have hgw : gWi P Q = none := by unfold gWi; rw [hgn]; exact hga
            have v5 : zI M_59 62 24 = 1 := u1.1
            refine za_aload_n hc dM_within_62 rfl ?_
            refine za_aload_n hc dM_within_63 rfl ?_
            refine za_getI hc gfM_181 zob_62 dM_within_64 ?_
            rw [v5]
            refine za_if_eq 74 hc dM_within_67 rfl (fun h_67 => ?_) (fun h_67 => ?_)
            · skip
              exact absurd h_67 (by decide)
            · skip
              refine za_iconst hc 2 dM_within_70 rfl ?_
              refine za_goto 75 hc dM_within_71 rfl ?_
              refine za_putI hc gpM_66 zob_62 dM_within_75 ?_
              refine za_aload_n hc dM_within_78 rfl ?_
              refine za_getI hc gfM_66 zob_62 dM_within_79 ?_
              rw [zI_s, if_pos rfl]
              refine za_if_ne 99 hc dM_within_82 rfl (fun h_82 => ?_) (fun h_82 => ?_)
              · skip
                refine za_iconst hc 0 dM_within_99 rfl ?_
                exact za_zret hc rfl (rfl) dM_within_100 ⟨Nat.zero_le _, Nat.zero_le _⟩ (⟨_, rfl, (fun z => absurd z (by omega)), fun _ => ⟨by rw [hgw]; exact ⟨by rw [zI_s, if_pos rfl], rfl⟩, by rw [zI_s, if_neg (by decide)]; exact hp8, hG4.set (j := 0) (by decide) (by decide) (by decide)⟩⟩)
              · skip
                exact absurd h_82 (by decide)
          | some R =>
            rw [hga] at u1
            have hgw : gWi P Q = some R := by unfold gWi; rw [hgn]; exact hga
            obtain ⟨v5, v6⟩ := u1
            have hRl := v6.2.1
            refine za_aload_n hc dM_within_62 rfl ?_
            refine za_aload_n hc dM_within_63 rfl ?_
            refine za_getI hc gfM_181 zob_62 dM_within_64 ?_
            rw [v5]
            refine za_if_eq 74 hc dM_within_67 rfl (fun h_67 => ?_) (fun h_67 => ?_)
            · skip
              refine za_iconst hc 0 dM_within_74 rfl ?_
              refine za_putI hc gpM_66 zob_62 dM_within_75 ?_
              refine za_aload_n hc dM_within_78 rfl ?_
              refine za_getI hc gfM_66 zob_62 dM_within_79 ?_
              rw [zI_s, if_pos rfl]
              refine za_if_ne 99 hc dM_within_82 rfl (fun h_82 => ?_) (fun h_82 => ?_)
              · skip
                exact absurd rfl h_82
              · skip
                refine za_aload_n hc dM_within_85 rfl ?_
                refine za_getA hc gfM_7 zob_62 (p := 63) rfl dM_within_86 ?_
                refine za_bipush hc (nI 10) dM_within_89 rfl ?_
                refine zm_iald hc (by assumption) dM_within_91 (by omega) (by decide) ?_
                rw [zI_o (by decide), v6.1]
                refine za_if_ne 99 hc dM_within_92 rfl (fun h_92 => ?_) (fun h_92 => ?_)
                · skip
                  have hne : ¬ R = [] := fun z => h_92 (by rw [z]; rfl)
                  refine za_iconst hc 0 dM_within_99 rfl ?_
                  exact za_zret hc rfl (rfl) dM_within_100 ⟨Nat.zero_le _, Nat.zero_le _⟩ (by first | exact ⟨_, rfl, (fun z => absurd z (by omega)), fun _ => ⟨by rw [hgw]; exact ⟨by rw [zI_s, if_pos rfl], Or.inr rfl, ⟨fun _ => hye, fun _ => rfl⟩⟩, by rw [zI_s, if_neg (by decide)]; exact hp8, hG4.set (j := 0) (by decide) (by decide) (by decide)⟩⟩ | exact ⟨_, rfl, (fun z => absurd z (by omega)), fun _ => ⟨by rw [hgw]; exact ⟨by rw [zI_s, if_pos rfl], Or.inl rfl, ⟨fun z => absurd z (by decide), fun z => absurd z hne⟩⟩, by rw [zI_s, if_neg (by decide)]; exact hp8, hG4.set (j := 0) (by decide) (by decide) (by decide)⟩⟩)
                · skip
                  have hye : R = [] := List.length_eq_zero_iff.mp ((nI_z hRl).mp h_92)
                  refine za_iconst hc 1 dM_within_95 rfl ?_
                  refine za_goto 100 hc dM_within_96 rfl ?_
                  exact za_zret hc rfl (rfl) dM_within_100 ⟨Nat.zero_le _, Nat.zero_le _⟩ (by first | exact ⟨_, rfl, (fun z => absurd z (by omega)), fun _ => ⟨by rw [hgw]; exact ⟨by rw [zI_s, if_pos rfl], Or.inr rfl, ⟨fun _ => hye, fun _ => rfl⟩⟩, by rw [zI_s, if_neg (by decide)]; exact hp8, hG4.set (j := 0) (by decide) (by decide) (by decide)⟩⟩ | exact ⟨_, rfl, (fun z => absurd z (by omega)), fun _ => ⟨by rw [hgw]; exact ⟨by rw [zI_s, if_pos rfl], Or.inl rfl, ⟨fun z => absurd z (by decide), fun z => absurd z hne⟩⟩, by rw [zI_s, if_neg (by decide)]; exact hp8, hG4.set (j := 0) (by decide) (by decide) (by decide)⟩⟩)
            · skip
              exact absurd rfl h_67
    · skip
      exact absurd (Int32.le_refl _) h_21
  · skip
    have h0 : h < 2 := by have : ¬ 2 ≤ h := fun z => h_6 ((nI_lt2 hh).mpr z); omega
    refine za_iconst hc 1 dM_within_9 rfl ?_
    refine za_goto 14 hc dM_within_10 rfl ?_
    refine za_putI hc gpM_66 zob_62 dM_within_14 ?_
    refine za_aload_n hc dM_within_17 rfl ?_
    refine za_getI hc gfM_66 zob_62 dM_within_18 ?_
    rw [zI_s, if_pos rfl]
    refine za_if_le 26 hc dM_within_21 rfl (fun h_21 => ?_) (fun h_21 => ?_)
    · skip
      exact absurd h_21 (by decide)
    · skip
      refine za_iconst hc 0 dM_within_24 rfl ?_
      exact za_zret hc rfl (rfl) dM_within_25 ⟨Nat.zero_le _, Nat.zero_le _⟩ (⟨_, rfl, fun _ => ⟨rfl, rfl⟩, (fun z => absurd z (by omega))⟩)
