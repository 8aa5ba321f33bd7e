/-! The model: member. -/
def gBadM (x y z : Int32) : Prop := ¬ gLim (x.toInt, y.toInt, z.toInt, false) ∨ (x = 0 ∧ y = 0)
theorem far_n {v : Int32} : (v.toInt64.toInt < -10000 ∨ 10000 < v.toInt64.toInt) ↔ ¬ v.toInt.natAbs ≤ 10000 := by rw [i2l_int]; omega
def mC : Nat → Prop := fun k => k = 62 ∨ (69 ≤ k ∧ k ≤ 72)

set_option maxRecDepth 100000 in
set_option maxHeartbeats 4000000 in
theorem cM_member_ (l : Launch) {ls : List gC} (M : zM) (x y z s : Int32) (hH : cH M ls) (hs : s = 0 ∨ s = 1) : zMet l mM_member rM_member [.ref 62, .int x, .int y, .int z, .int s] M (zqi (fun r M' => (gBadM x y z → r = 0 ∧ M' = zsI M 62 0 1) ∧ (¬ gBadM x y z → (ls.length = 12 → r = 0 ∧ M' = zsI M 62 0 2) ∧ (ls.length < 12 → r = nI (ls.length + 1) ∧ cH M' (ls ++ [(x.toInt, y.toInt, z.toInt, s == 1)]) ∧ zI M' 62 0 = 0 ∧ mK [0, 8] M M' ∧ zfr mC M M')))) := by
  refine za_enter (by decide) (Nat.le_of_ble_eq_true rfl) (fun X hc => ?_)
  have a69 := ar_69
  have a70 := ar_70
  have a71 := ar_71
  have a72 := ar_72
  refine za_aload_n hc dM_member_0 rfl ?_
  refine za_iload_n hc dM_member_1 rfl ?_
  refine za_i2l hc dM_member_2 ?_
  refine za_cS1i hc gsM_187 (cM_isFar_ l M x.toInt64) ⟨rfl, rfl⟩ ⟨Nat.le_of_ble_eq_true rfl, Nat.le_of_ble_eq_true rfl⟩ ⟨Nat.zero_le _, Nat.zero_le _⟩ dM_member_3 (fun x_3 M_3 h_3 => ?_)
  obtain ⟨q_3, hm_3⟩ := h_3
  rw [hm_3]
  subst q_3
  refine za_if_ne 33 hc dM_member_6 rfl (fun h_6 => ?_) (fun h_6 => ?_)
  · skip
    have hbad : gBadM x y z := Or.inl (fun w => far_n.mp (far_1.mp h_6) w.1)
    refine za_iconst hc 1 dM_member_33 rfl ?_
    refine za_goto 51 hc dM_member_34 rfl ?_
    refine za_putI hc gpM_66 zob_62 dM_member_51 ?_
    refine za_aload_n hc dM_member_54 rfl ?_
    refine za_getI hc gfM_66 zob_62 dM_member_55 ?_
    rw [zI_s, if_pos rfl]
    refine za_if_le 63 hc dM_member_58 rfl (fun h_58 => ?_) (fun h_58 => ?_)
    · skip
      exact absurd h_58 (by decide)
    · skip
      refine za_iconst hc 0 dM_member_61 rfl ?_
      exact za_iret hc rfl dM_member_62 ⟨Nat.zero_le _, Nat.zero_le _⟩ (⟨_, rfl, fun _ => ⟨rfl, rfl⟩, fun w => absurd hbad w⟩)
  · skip
    have n_6 : x.toInt.natAbs ≤ 10000 := Classical.byContradiction (fun w => far_0.mp h_6 (far_n.mpr w))
    refine za_iload_n hc dM_member_9 rfl ?_
    refine za_i2l hc dM_member_10 ?_
    refine za_cS1i hc gsM_187 (cM_isFar_ l M y.toInt64) ⟨rfl, rfl⟩ ⟨Nat.le_of_ble_eq_true rfl, Nat.le_of_ble_eq_true rfl⟩ ⟨Nat.zero_le _, Nat.zero_le _⟩ dM_member_11 (fun x_11 M_11 h_11 => ?_)
    obtain ⟨q_11, hm_11⟩ := h_11
    rw [hm_11]
    subst q_11
    refine za_if_ne 33 hc dM_member_14 rfl (fun h_14 => ?_) (fun h_14 => ?_)
    · skip
      have hbad : gBadM x y z := Or.inl (fun w => far_n.mp (far_1.mp h_14) w.2.1)
      refine za_iconst hc 1 dM_member_33 rfl ?_
      refine za_goto 51 hc dM_member_34 rfl ?_
      refine za_putI hc gpM_66 zob_62 dM_member_51 ?_
      refine za_aload_n hc dM_member_54 rfl ?_
      refine za_getI hc gfM_66 zob_62 dM_member_55 ?_
      rw [zI_s, if_pos rfl]
      refine za_if_le 63 hc dM_member_58 rfl (fun h_58 => ?_) (fun h_58 => ?_)
      · skip
        exact absurd h_58 (by decide)
      · skip
        refine za_iconst hc 0 dM_member_61 rfl ?_
        exact za_iret hc rfl dM_member_62 ⟨Nat.zero_le _, Nat.zero_le _⟩ (⟨_, rfl, fun _ => ⟨rfl, rfl⟩, fun w => absurd hbad w⟩)
    · skip
      have n_14 : y.toInt.natAbs ≤ 10000 := Classical.byContradiction (fun w => far_0.mp h_14 (far_n.mpr w))
      refine za_iload_n hc dM_member_17 rfl ?_
      refine za_i2l hc dM_member_18 ?_
      refine za_cS1i hc gsM_187 (cM_isFar_ l M z.toInt64) ⟨rfl, rfl⟩ ⟨Nat.le_of_ble_eq_true rfl, Nat.le_of_ble_eq_true rfl⟩ ⟨Nat.zero_le _, Nat.zero_le _⟩ dM_member_19 (fun x_19 M_19 h_19 => ?_)
      obtain ⟨q_19, hm_19⟩ := h_19
      rw [hm_19]
      subst q_19
      refine za_if_ne 33 hc dM_member_22 rfl (fun h_22 => ?_) (fun h_22 => ?_)
      · skip
        have hbad : gBadM x y z := Or.inl (fun w => far_n.mp (far_1.mp h_22) w.2.2)
        refine za_iconst hc 1 dM_member_33 rfl ?_
        refine za_goto 51 hc dM_member_34 rfl ?_
        refine za_putI hc gpM_66 zob_62 dM_member_51 ?_
        refine za_aload_n hc dM_member_54 rfl ?_
        refine za_getI hc gfM_66 zob_62 dM_member_55 ?_
        rw [zI_s, if_pos rfl]
        refine za_if_le 63 hc dM_member_58 rfl (fun h_58 => ?_) (fun h_58 => ?_)
        · skip
          exact absurd h_58 (by decide)
        · skip
          refine za_iconst hc 0 dM_member_61 rfl ?_
          exact za_iret hc rfl dM_member_62 ⟨Nat.zero_le _, Nat.zero_le _⟩ (⟨_, rfl, fun _ => ⟨rfl, rfl⟩, fun w => absurd hbad w⟩)
      · skip
        have n_22 : z.toInt.natAbs ≤ 10000 := Classical.byContradiction (fun w => far_0.mp h_22 (far_n.mpr w))
        refine za_iload_n hc dM_member_25 rfl ?_
        refine za_if_ne 37 hc dM_member_26 rfl (fun h_26 => ?_) (fun h_26 => ?_)
        · skip
          have hok : ¬ gBadM x y z := fun w => w.elim (fun w => w ⟨n_6, n_14, n_22⟩) (fun w => h_26 w.1)
          refine za_aload_n hc dM_member_37 rfl ?_
          refine za_getI hc gfM_217 zob_62 dM_member_38 ?_
          rw [hH.1]
          refine za_bipush hc (nI 12) dM_member_41 rfl ?_
          refine za_icmp_ne 50 hc dM_member_43 rfl (fun h_43 => ?_) (fun h_43 => ?_)
          · skip
            have hlt : ls.length < 12 := by have : ls.length ≠ 12 := fun w => h_43 (by rw [w]); have := hH.2.1; omega
            refine za_iconst hc 0 dM_member_50 rfl ?_
            refine za_putI hc gpM_66 zob_62 dM_member_51 ?_
            refine za_aload_n hc dM_member_54 rfl ?_
            refine za_getI hc gfM_66 zob_62 dM_member_55 ?_
            rw [zI_s, if_pos rfl]
            refine za_if_le 63 hc dM_member_58 rfl (fun h_58 => ?_) (fun h_58 => ?_)
            · skip
              refine za_aload_n hc dM_member_63 rfl ?_
              refine za_getA hc gfM_29 zob_62 (p := 69) rfl dM_member_64 ?_
              refine za_aload_n hc dM_member_67 rfl ?_
              refine za_getI hc gfM_217 zob_62 dM_member_68 ?_
              rw [zI_s, if_neg (by decide), hH.1]
              refine za_iload_n hc dM_member_71 rfl ?_
              refine zm_iast hc (by assumption) dM_member_72 (by omega) (by decide) ?_
              refine za_aload_n hc dM_member_73 rfl ?_
              refine za_getA hc gfM_32 zob_62 (p := 70) rfl dM_member_74 ?_
              refine za_aload_n hc dM_member_77 rfl ?_
              refine za_getI hc gfM_217 zob_62 dM_member_78 ?_
              rw [zI_o (by decide), zI_s, if_neg (by decide), hH.1]
              refine za_iload_n hc dM_member_81 rfl ?_
              refine zm_iast hc (by assumption) dM_member_82 (by omega) (by decide) ?_
              refine za_aload_n hc dM_member_83 rfl ?_
              refine za_getA hc gfM_35 zob_62 (p := 71) rfl dM_member_84 ?_
              refine za_aload_n hc dM_member_87 rfl ?_
              refine za_getI hc gfM_217 zob_62 dM_member_88 ?_
              rw [zI_o (by decide), zI_o (by decide), zI_s, if_neg (by decide), hH.1]
              refine za_iload_n hc dM_member_91 rfl ?_
              refine zm_iast hc (by assumption) dM_member_92 (by omega) (by decide) ?_
              refine za_aload_n hc dM_member_93 rfl ?_
              refine za_getA hc gfM_38 zob_62 (p := 72) rfl dM_member_94 ?_
              refine za_aload_n hc dM_member_97 rfl ?_
              refine za_getI hc gfM_217 zob_62 dM_member_98 ?_
              rw [zI_o (by decide), zI_o (by decide), zI_o (by decide), zI_s, if_neg (by decide), hH.1]
              refine za_iload hc dM_member_101 rfl ?_
              refine zm_zast hc (by assumption) dM_member_103 (by omega) (by decide) hs ?_
              refine za_aload_n hc dM_member_104 rfl ?_
              refine za_dup hc dM_member_105 rfl ?_
              refine za_getI hc gfM_217 zob_62 dM_member_106 ?_
              rw [zI_o (by decide), zI_o (by decide), zI_o (by decide), zI_o (by decide), zI_s, if_neg (by decide), hH.1]
              refine za_iconst hc 1 dM_member_109 rfl ?_
              refine za_iadd hc dM_member_110 ?_
              rw [show nI ls.length + 1 = nI (ls.length + 1) from (nI_succ _).symm]
              refine za_putI hc gpM_217 zob_62 dM_member_111 ?_
              refine za_aload_n hc dM_member_114 rfl ?_
              refine za_getI hc gfM_217 zob_62 dM_member_115 ?_
              have fr : zfr mC M (zsI (cput (zsI M 62 0 0) ls.length x y z s) 62 8 (nI (ls.length + 1))) := (zfr_sI (P := mC) (Or.inl rfl)).tr ((zfr_sI (P := mC) (Or.inr (by decide))).tr ((zfr_sI (P := mC) (Or.inr (by decide))).tr ((zfr_sI (P := mC) (Or.inr (by decide))).tr ((zfr_sI (P := mC) (Or.inr (by decide))).tr (zfr_sI (P := mC) (Or.inl rfl))))))
              have ecg : ∀ t, cg (zsI (cput (zsI M 62 0 0) ls.length x y z s) 62 8 (nI (ls.length + 1))) t = if t = ls.length then (x.toInt, y.toInt, z.toInt, s == 1) else cg M t := fun t => cput_cg
              refine za_iret hc rfl dM_member_118 ⟨Nat.zero_le _, Nat.zero_le _⟩ ⟨_, rfl, fun w => absurd w hok, fun _ => ⟨fun w => absurd w (by omega), fun _ => ⟨rfl, ⟨?_, ?_, fun j q hq => ?_, fun q hq => ?_, fun j => ?_⟩, ?_, fun j hj => ?_, fr⟩⟩⟩
              · rw [zI_s, if_pos rfl, List.length_append]; rfl
              · rw [List.length_append]; simp only [List.length_cons, List.length_nil]; omega
              · refine (ecg j).trans ?_
                by_cases c : j = ls.length
                · rw [if_pos c]
                  rw [c, List.getElem?_append_right (Nat.le_refl _), Nat.sub_self] at hq
                  exact Option.some.inj hq
                · rw [if_neg c]
                  have hj : j < ls.length := by have := (List.getElem?_eq_some_iff.mp hq).1; rw [List.length_append] at this; simp only [List.length_cons, List.length_nil] at this; omega
                  rw [List.getElem?_append_left hj] at hq
                  exact hH.2.2.1 j q hq
              · rcases List.mem_append.mp hq with w | w
                · exact hH.2.2.2.1 q w
                · rw [List.mem_singleton.mp w]; exact ⟨⟨n_6, n_14, n_22⟩, fun w2 => hok (Or.inr ⟨Int32.toInt_inj.mp w2.1, Int32.toInt_inj.mp w2.2⟩)⟩
              · show zI (zsI (zsI (zsI (zsI (zsI (zsI M 62 0 0) 69 ls.length x) 70 ls.length y) 71 ls.length z) 72 ls.length s) 62 8 (nI (ls.length + 1))) 72 j = 0 ∨ zI (zsI (zsI (zsI (zsI (zsI (zsI M 62 0 0) 69 ls.length x) 70 ls.length y) 71 ls.length z) 72 ls.length s) 62 8 (nI (ls.length + 1))) 72 j = 1
                rw [zI_o (by decide), zI_s, zI_o (by decide), zI_o (by decide), zI_o (by decide), zI_o (by decide)]
                split
                · exact hs
                · exact hH.2.2.2.2 j
              · rw [zI_s, if_neg (by decide), zI_o (by decide), zI_o (by decide), zI_o (by decide), zI_o (by decide), zI_s, if_pos rfl]
              · have n0 : j ≠ 0 := fun w => hj (by rw [w]; decide)
                have n8 : j ≠ 8 := fun w => hj (by rw [w]; decide)
                exact ⟨by rw [zI_s, if_neg n8, zI_o (by decide), zI_o (by decide), zI_o (by decide), zI_o (by decide), zI_s, if_neg n0], rfl⟩
            · skip
              exact absurd (Int32.le_refl _) h_58
          · skip
            have h12 : ls.length = 12 := nI_inj3 h_43 (by have := hH.2.1; omega) (by decide)
            refine za_iconst hc 2 dM_member_46 rfl ?_
            refine za_goto 51 hc dM_member_47 rfl ?_
            refine za_putI hc gpM_66 zob_62 dM_member_51 ?_
            refine za_aload_n hc dM_member_54 rfl ?_
            refine za_getI hc gfM_66 zob_62 dM_member_55 ?_
            rw [zI_s, if_pos rfl]
            refine za_if_le 63 hc dM_member_58 rfl (fun h_58 => ?_) (fun h_58 => ?_)
            · skip
              exact absurd h_58 (by decide)
            · skip
              refine za_iconst hc 0 dM_member_61 rfl ?_
              exact za_iret hc rfl dM_member_62 ⟨Nat.zero_le _, Nat.zero_le _⟩ (⟨_, rfl, fun w => absurd w hok, fun _ => ⟨fun _ => ⟨rfl, rfl⟩, fun w => absurd w (by omega)⟩⟩)
        · skip
          refine za_iload_n hc dM_member_29 rfl ?_
          refine za_if_ne 37 hc dM_member_30 rfl (fun h_30 => ?_) (fun h_30 => ?_)
          · skip
            have hok : ¬ gBadM x y z := fun w => w.elim (fun w => w ⟨n_6, n_14, n_22⟩) (fun w => h_30 w.2)
            refine za_aload_n hc dM_member_37 rfl ?_
            refine za_getI hc gfM_217 zob_62 dM_member_38 ?_
            rw [hH.1]
            refine za_bipush hc (nI 12) dM_member_41 rfl ?_
            refine za_icmp_ne 50 hc dM_member_43 rfl (fun h_43 => ?_) (fun h_43 => ?_)
            · skip
              have hlt : ls.length < 12 := by have : ls.length ≠ 12 := fun w => h_43 (by rw [w]); have := hH.2.1; omega
              refine za_iconst hc 0 dM_member_50 rfl ?_
              refine za_putI hc gpM_66 zob_62 dM_member_51 ?_
              refine za_aload_n hc dM_member_54 rfl ?_
              refine za_getI hc gfM_66 zob_62 dM_member_55 ?_
              rw [zI_s, if_pos rfl]
              refine za_if_le 63 hc dM_member_58 rfl (fun h_58 => ?_) (fun h_58 => ?_)
              · skip
                refine za_aload_n hc dM_member_63 rfl ?_
                refine za_getA hc gfM_29 zob_62 (p := 69) rfl dM_member_64 ?_
                refine za_aload_n hc dM_member_67 rfl ?_
                refine za_getI hc gfM_217 zob_62 dM_member_68 ?_
                rw [zI_s, if_neg (by decide), hH.1]
                refine za_iload_n hc dM_member_71 rfl ?_
                refine zm_iast hc (by assumption) dM_member_72 (by omega) (by decide) ?_
                refine za_aload_n hc dM_member_73 rfl ?_
                refine za_getA hc gfM_32 zob_62 (p := 70) rfl dM_member_74 ?_
                refine za_aload_n hc dM_member_77 rfl ?_
                refine za_getI hc gfM_217 zob_62 dM_member_78 ?_
                rw [zI_o (by decide), zI_s, if_neg (by decide), hH.1]
                refine za_iload_n hc dM_member_81 rfl ?_
                refine zm_iast hc (by assumption) dM_member_82 (by omega) (by decide) ?_
                refine za_aload_n hc dM_member_83 rfl ?_
                refine za_getA hc gfM_35 zob_62 (p := 71) rfl dM_member_84 ?_
                refine za_aload_n hc dM_member_87 rfl ?_
                refine za_getI hc gfM_217 zob_62 dM_member_88 ?_
                rw [zI_o (by decide), zI_o (by decide), zI_s, if_neg (by decide), hH.1]
                refine za_iload_n hc dM_member_91 rfl ?_
                refine zm_iast hc (by assumption) dM_member_92 (by omega) (by decide) ?_
                refine za_aload_n hc dM_member_93 rfl ?_
                refine za_getA hc gfM_38 zob_62 (p := 72) rfl dM_member_94 ?_
                refine za_aload_n hc dM_member_97 rfl ?_
                refine za_getI hc gfM_217 zob_62 dM_member_98 ?_
                rw [zI_o (by decide), zI_o (by decide), zI_o (by decide), zI_s, if_neg (by decide), hH.1]
                refine za_iload hc dM_member_101 rfl ?_
                refine zm_zast hc (by assumption) dM_member_103 (by omega) (by decide) hs ?_
                refine za_aload_n hc dM_member_104 rfl ?_
                refine za_dup hc dM_member_105 rfl ?_
                refine za_getI hc gfM_217 zob_62 dM_member_106 ?_
                rw [zI_o (by decide), zI_o (by decide), zI_o (by decide), zI_o (by decide), zI_s, if_neg (by decide), hH.1]
                refine za_iconst hc 1 dM_member_109 rfl ?_
                refine za_iadd hc dM_member_110 ?_
                rw [show nI ls.length + 1 = nI (ls.length + 1) from (nI_succ _).symm]
                refine za_putI hc gpM_217 zob_62 dM_member_111 ?_
                refine za_aload_n hc dM_member_114 rfl ?_
                refine za_getI hc gfM_217 zob_62 dM_member_115 ?_
                have fr : zfr mC M (zsI (cput (zsI M 62 0 0) ls.length x y z s) 62 8 (nI (ls.length + 1))) := (zfr_sI (P := mC) (Or.inl rfl)).tr ((zfr_sI (P := mC) (Or.inr (by decide))).tr ((zfr_sI (P := mC) (Or.inr (by decide))).tr ((zfr_sI (P := mC) (Or.inr (by decide))).tr ((zfr_sI (P := mC) (Or.inr (by decide))).tr (zfr_sI (P := mC) (Or.inl rfl))))))
                have ecg : ∀ t, cg (zsI (cput (zsI M 62 0 0) ls.length x y z s) 62 8 (nI (ls.length + 1))) t = if t = ls.length then (x.toInt, y.toInt, z.toInt, s == 1) else cg M t := fun t => cput_cg
                refine za_iret hc rfl dM_member_118 ⟨Nat.zero_le _, Nat.zero_le _⟩ ⟨_, rfl, fun w => absurd w hok, fun _ => ⟨fun w => absurd w (by omega), fun _ => ⟨rfl, ⟨?_, ?_, fun j q hq => ?_, fun q hq => ?_, fun j => ?_⟩, ?_, fun j hj => ?_, fr⟩⟩⟩
                · rw [zI_s, if_pos rfl, List.length_append]; rfl
                · rw [List.length_append]; simp only [List.length_cons, List.length_nil]; omega
                · refine (ecg j).trans ?_
                  by_cases c : j = ls.length
                  · rw [if_pos c]
                    rw [c, List.getElem?_append_right (Nat.le_refl _), Nat.sub_self] at hq
                    exact Option.some.inj hq
                  · rw [if_neg c]
                    have hj : j < ls.length := by have := (List.getElem?_eq_some_iff.mp hq).1; rw [List.length_append] at this; simp only [List.length_cons, List.length_nil] at this; omega
                    rw [List.getElem?_append_left hj] at hq
                    exact hH.2.2.1 j q hq
                · rcases List.mem_append.mp hq with w | w
                  · exact hH.2.2.2.1 q w
                  · rw [List.mem_singleton.mp w]; exact ⟨⟨n_6, n_14, n_22⟩, fun w2 => hok (Or.inr ⟨Int32.toInt_inj.mp w2.1, Int32.toInt_inj.mp w2.2⟩)⟩
                · show zI (zsI (zsI (zsI (zsI (zsI (zsI M 62 0 0) 69 ls.length x) 70 ls.length y) 71 ls.length z) 72 ls.length s) 62 8 (nI (ls.length + 1))) 72 j = 0 ∨ zI (zsI (zsI (zsI (zsI (zsI (zsI M 62 0 0) 69 ls.length x) 70 ls.length y) 71 ls.length z) 72 ls.length s) 62 8 (nI (ls.length + 1))) 72 j = 1
                  rw [zI_o (by decide), zI_s, zI_o (by decide), zI_o (by decide), zI_o (by decide), zI_o (by decide)]
                  split
                  · exact hs
                  · exact hH.2.2.2.2 j
                · rw [zI_s, if_neg (by decide), zI_o (by decide), zI_o (by decide), zI_o (by decide), zI_o (by decide), zI_s, if_pos rfl]
                · have n0 : j ≠ 0 := fun w => hj (by rw [w]; decide)
                  have n8 : j ≠ 8 := fun w => hj (by rw [w]; decide)
                  exact ⟨by rw [zI_s, if_neg n8, zI_o (by decide), zI_o (by decide), zI_o (by decide), zI_o (by decide), zI_s, if_neg n0], rfl⟩
              · skip
                exact absurd (Int32.le_refl _) h_58
            · skip
              have h12 : ls.length = 12 := nI_inj3 h_43 (by have := hH.2.1; omega) (by decide)
              refine za_iconst hc 2 dM_member_46 rfl ?_
              refine za_goto 51 hc dM_member_47 rfl ?_
              refine za_putI hc gpM_66 zob_62 dM_member_51 ?_
              refine za_aload_n hc dM_member_54 rfl ?_
              refine za_getI hc gfM_66 zob_62 dM_member_55 ?_
              rw [zI_s, if_pos rfl]
              refine za_if_le 63 hc dM_member_58 rfl (fun h_58 => ?_) (fun h_58 => ?_)
              · skip
                exact absurd h_58 (by decide)
              · skip
                refine za_iconst hc 0 dM_member_61 rfl ?_
                exact za_iret hc rfl dM_member_62 ⟨Nat.zero_le _, Nat.zero_le _⟩ (⟨_, rfl, fun w => absurd w hok, fun _ => ⟨fun _ => ⟨rfl, rfl⟩, fun w => absurd w (by omega)⟩⟩)
          · skip
            have hbad : gBadM x y z := Or.inr ⟨h_26, h_30⟩
            refine za_iconst hc 1 dM_member_33 rfl ?_
            refine za_goto 51 hc dM_member_34 rfl ?_
            refine za_putI hc gpM_66 zob_62 dM_member_51 ?_
            refine za_aload_n hc dM_member_54 rfl ?_
            refine za_getI hc gfM_66 zob_62 dM_member_55 ?_
            rw [zI_s, if_pos rfl]
            refine za_if_le 63 hc dM_member_58 rfl (fun h_58 => ?_) (fun h_58 => ?_)
            · skip
              exact absurd h_58 (by decide)
            · skip
              refine za_iconst hc 0 dM_member_61 rfl ?_
              exact za_iret hc rfl dM_member_62 ⟨Nat.zero_le _, Nat.zero_le _⟩ (⟨_, rfl, fun _ => ⟨rfl, rfl⟩, fun w => absurd hbad w⟩)
