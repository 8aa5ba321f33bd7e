/-! The model: normal. -/
theorem nI_prd (n : Nat) : nI (n + 1) + Int32.ofInt (-1) = nI n := by rw [nI_succ, Int32.add_assoc, show (1 : Int32) + Int32.ofInt (-1) = 0 by decide]; exact nI_of0 n
theorem mOK_nil : mOK [] := ⟨(fun q h => by cases h), (fun q h => by cases h), Or.inl (fun q h => by cases h)⟩
theorem gSrt_key {p q : gC} (h : ¬ gbf q p) (hk : ¬ gkeq p q) : gklt p q := by
  rw [gbf_i] at h; unfold gkeq at hk; unfold gklt; omega
theorem gSrt_c {p q : gC} (h : ¬ gbf q p) (hk : gkeq p q) : p.2.2.1 ≤ q.2.2.1 ∧ (p.2.2.1 = q.2.2.1 → p.2.2.2 = true → q.2.2.2 = true) := by
  rw [gbf_i] at h
  obtain ⟨h1, h2⟩ := hk
  refine ⟨by omega, fun e z => ?_⟩
  cases hq : q.2.2.2 with
  | true => rfl
  | false =>
    rw [z, hq] at h
    exact absurd h (by unfold gbs; simp only [if_true, Bool.false_eq_true, if_false]; omega)
theorem gpw_snoc {A : List gC} {p q : gC} (h : (A ++ [p]).Pairwise gklt) (hpq : gklt p q) : (A ++ [p] ++ [q]).Pairwise gklt := by
  rw [List.pairwise_append]
  refine ⟨h, List.pairwise_singleton _ _, fun a ha b hb => ?_⟩
  rw [List.mem_singleton.mp hb]
  rcases List.mem_append.mp ha with z | z
  · exact gklt_trans ((List.pairwise_append.mp h).2.2 a z p List.mem_cons_self) hpq
  · rw [List.mem_singleton.mp z]; exact hpq
theorem gpw_rep {A : List gC} {p q : gC} (h : (A ++ [p]).Pairwise gklt) (hpq : gkeq p q) : (A ++ [q]).Pairwise gklt := by
  rw [List.pairwise_append] at *
  refine ⟨h.1, List.pairwise_singleton _ _, fun a ha b hb => ?_⟩
  rw [List.mem_singleton.mp hb]
  have := h.2.2 a ha p List.mem_cons_self
  unfold gklt at *; unfold gkeq at hpq; omega
theorem mH_norm {M M' : zM} {dn t : List gC} {m m' : gC} (h : mH M (dn ++ m :: t)) (hd : ∀ j, dg M' 72 j = if j = dn.length then m' else dg M 72 j) (hb : zbo M' 72) (h0 : zI M' 62 13 = zI M 62 13) : mH M' (dn ++ m' :: t) := by
  refine ⟨by rw [h0, h.1]; simp, by have := h.2.1; simp only [List.length_append, List.length_cons] at *; exact this, fun j q hq => ?_, hb⟩
  rw [hd j]
  by_cases c : j = dn.length
  · rw [if_pos c]
    rw [c, List.getElem?_append_right (Nat.le_refl _), Nat.sub_self] at hq
    exact Option.some.inj hq
  · rw [if_neg c]
    refine h.2.2.1 j q ?_
    by_cases c2 : j < dn.length
    · rw [List.getElem?_append_left c2] at hq ⊢; exact hq
    · rw [List.getElem?_append_right (by omega)] at hq ⊢
      obtain ⟨n, hn⟩ : ∃ n, j - dn.length = n + 1 := ⟨j - dn.length - 1, by omega⟩
      rw [hn] at hq ⊢; exact hq

set_option maxRecDepth 100000 in
set_option maxHeartbeats 4000000 in
theorem cM_normal_ (l : Launch) {ms : List gC} (M : zM) (hH : mH M ms) (hok : mOK ms) (hnv : zI M 62 14 = 0) (hb0 : zbo M 76) (hs0 : m3640 M) : zMet l mM_normal rM_normal [.ref 62] M (zqi (fun x M' => (x = 0 ∨ x = 1) ∧ (x = 1 ↔ gSat (ms.foldl gput [])) ∧ (x = 1 → mH M' (gthin [] (ms.foldl gput []))) ∧ (zbo M' 76 ∧ zbo M' 72) ∧ m3640 M' ∧ mK nI_ M M' ∧ zfr mN M M')) := by
  refine za_enter (by decide) (Nat.le_of_ble_eq_true rfl) (fun X hc => ?_)
  have a77 := ar_77
  have a78 := ar_78
  have a79 := ar_79
  have a80 := ar_80
  have a73 := ar_73
  have a74 := ar_74
  have a75 := ar_75
  have a76 := ar_76
  have hokN := mOK_norm hok
  have END : ∀ (k : Nat) (M1 : zM), mH M1 (ms.foldl gput []) → mOK (ms.foldl gput []) → zbo M1 76 → m3640 M1 → mK nI_ M M1 → zfr mN M M1 → zW X (zqi (fun x M' => (x = 0 ∨ x = 1) ∧ (x = 1 ↔ gSat (ms.foldl gput [])) ∧ (x = 1 → mH M' (gthin [] (ms.foldl gput []))) ∧ (zbo M' 76 ∧ zbo M' 72) ∧ m3640 M' ∧ mK nI_ M M' ∧ zfr mN M M')) (0, 0) 223 [(0, .ref 62), (1, .int (nI k))] [] M1 := by
    intro k M1 hm hokC hb hs hk hf
    refine za_aload_n hc dM_normal_223 rfl ?_
    refine za_cV0v hc gsM_172 zob_62 (cM_ask_ l M1 hm hb) ⟨rfl, rfl⟩ ⟨Nat.le_of_ble_eq_true rfl, Nat.le_of_ble_eq_true rfl⟩ ⟨Nat.zero_le _, Nat.zero_le _⟩ dM_normal_224 (fun M_224 h_224 => ?_)
    obtain ⟨a1, a2, a3, a4⟩ := h_224
    have hk2 : mK nI_ M M_224 := hk.tr (a3.wk (by decide))
    have hf2 : zfr mN M M_224 := hf.tr (a4.wk (fun k z => mQ_N z))
    have hs2 := m3640_k hs a3 (by decide) (by decide)
    refine za_aload_n hc dM_normal_227 rfl ?_
    refine za_cV0i hc gsM_175 zob_62 (cM_hasPoints_ l M_224 a1 hokC.1 hokC.2.1 hokC.2.2 hs2.1 hs2.2) ⟨rfl, rfl⟩ ⟨Nat.le_of_ble_eq_true rfl, Nat.le_of_ble_eq_true rfl⟩ ⟨Nat.zero_le _, Nat.zero_le _⟩ dM_normal_228 (fun x_228 M_228 h_228 => ?_)
    obtain ⟨w0, w1, w2, w3, w4⟩ := h_228
    have hm4 : mH M_228 (ms.foldl gput []) := mH_62 a2 w4 (w3 13 (by decide)).1
    have hb4 : zbo M_228 76 := zfr_bo (d := 76) w4 (by unfold m62; decide) a1.2.2.2
    have hk4 := hk2.tr (w3.wk (by decide))
    have hf4 := hf2.tr (w4.wk (fun k z => m62_N z))
    refine za_if_ne 236 hc dM_normal_231 rfl (fun h_231 => ?_) (fun h_231 => ?_)
    · skip
      have hx := w1.mp (w0.resolve_left h_231)
      refine za_aload_n hc dM_normal_236 rfl ?_
      refine za_cV0v hc gsM_178 zob_62 (cM_thin_ l M_228 hm4 hokC hb4 w2) ⟨rfl, rfl⟩ ⟨Nat.le_of_ble_eq_true rfl, Nat.le_of_ble_eq_true rfl⟩ ⟨Nat.zero_le _, Nat.zero_le _⟩ dM_normal_237 (fun M_237 h_237 => ?_)
      obtain ⟨v1, v2, v3, v4, v5⟩ := h_237
      refine za_iconst hc 1 dM_normal_240 rfl ?_
      exact za_zret hc rfl (rfl) dM_normal_241 ⟨Nat.zero_le _, Nat.zero_le _⟩ (⟨_, rfl, Or.inr rfl, ⟨fun _ => hx, fun _ => rfl⟩, (fun _ => v1), ⟨v2, v1.2.2.2⟩, v3, hk4.tr v4, hf4.tr v5⟩)
    · skip
      have hx : ¬ gSat (ms.foldl gput []) := fun z => absurd (w1.mpr z) (by rw [h_231]; decide)
      refine za_iconst hc 0 dM_normal_234 rfl ?_
      exact za_zret hc rfl (rfl) dM_normal_235 ⟨Nat.zero_le _, Nat.zero_le _⟩ (⟨_, rfl, Or.inl rfl, ⟨fun z => absurd z (by decide), fun z => absurd z hx⟩, (fun z => absurd z (by decide)), ⟨hb4, hm4.2.2.2⟩, w2, hk4, hf4⟩)
  have LOOP3 : ∀ (B A : List gC) (p : gC) (M1 : zM), (A ++ [p]).Pairwise gklt → gSrt (A ++ p :: B) → (∀ q, gBest (ms.map gnorm) q ↔ gBest (A ++ p :: B) q) → (∀ q ∈ A ++ p :: B, q ∈ (ms.map gnorm)) → mH M1 (A ++ p :: B) → zbo M1 76 → m3640 M1 → mK nI_ M M1 → zfr mN M M1 → zW X (zqi (fun x M' => (x = 0 ∨ x = 1) ∧ (x = 1 ↔ gSat (ms.foldl gput [])) ∧ (x = 1 → mH M' (gthin [] (ms.foldl gput []))) ∧ (zbo M' 76 ∧ zbo M' 72) ∧ m3640 M' ∧ mK nI_ M M' ∧ zfr mN M M')) (0, 0) 129 [(0, .ref 62), (1, .int (nI A.length))] [] M1 := by
    intro B
    induction B with
    | nil =>
      intro A p M1 hpw hsr hbe hsu hm hb hs hk hf
      have hml := hm.2.1
      rw [List.length_append] at hml
      have e1 : (A ++ [p]).length = A.length + 1 := by simp
      have hC : A ++ [p] = (ms.foldl gput []) := gCan_norm hok.2.1 (gCan_end hpw hbe)
      refine za_iload_n hc dM_normal_129 rfl ?_
      refine za_iconst hc 1 dM_normal_130 rfl ?_
      refine za_iadd hc dM_normal_131 ?_
      rw [show nI A.length + 1 = nI (A.length + 1) from (nI_succ _).symm]
      refine za_aload_n hc dM_normal_132 rfl ?_
      refine za_getI hc gfM_70 zob_62 dM_normal_133 ?_
      rw [hm.1, e1]
      refine za_icmp_ge 223 hc dM_normal_136 rfl (fun h_136 => ?_) (fun h_136 => ?_)
      · skip
        exact END _ M1 (by rw [← hC]; exact hm) (by rw [← hC]; exact mOK_sub hokN (fun q hq => ⟨q, hsu q hq, Or.inl rfl⟩)) hb hs hk hf
      · skip
        exact absurd (Int32.le_refl _) h_136
    | cons q B ih =>
      intro A p M1 hpw hsr hbe hsu hm hb hs hk hf
      have hml := hm.2.1
      rw [List.length_append, List.length_cons, List.length_cons] at hml
      have e1 : (A ++ p :: q :: B).length = A.length + 2 + B.length := by simp only [List.length_append, List.length_cons]; omega
      have g0 : (A ++ p :: q :: B)[A.length]? = some p := by rw [List.getElem?_append_right (Nat.le_refl _), Nat.sub_self]; rfl
      have g1 : (A ++ p :: q :: B)[A.length + 1]? = some q := by rw [List.getElem?_append_right (by omega), show A.length + 1 - A.length = 1 by omega]; rfl
      have dp := hm.2.2.1 _ _ g0
      have dq := hm.2.2.1 _ _ g1
      have hpq : ¬ gbf q p := (List.pairwise_cons.mp (List.pairwise_append.mp hsr).2.1).1 q List.mem_cons_self
      have ap : p.1 = (zJ M1 73 A.length).toInt ∧ p.2.1 = (zJ M1 74 A.length).toInt ∧ p.2.2.1 = (zJ M1 75 A.length).toInt := by rw [← dp]; exact ⟨rfl, rfl, rfl⟩
      have aq : q.1 = (zJ M1 73 (A.length + 1)).toInt ∧ q.2.1 = (zJ M1 74 (A.length + 1)).toInt ∧ q.2.2.1 = (zJ M1 75 (A.length + 1)).toInt := by rw [← dq]; exact ⟨rfl, rfl, rfl⟩
      have sr1 : gSrt (A ++ q :: B) := List.Pairwise.sublist (List.Sublist.append_left (List.sublist_cons_self _ _) _) hsr
      have sr2 : gSrt (A ++ p :: B) := List.Pairwise.sublist (List.Sublist.append_left (List.Sublist.cons_cons p (List.sublist_cons_self _ _)) _) hsr
      have m1 : ∀ r, r ∈ A ++ p :: q :: B ↔ r = p ∨ r ∈ A ++ q :: B := fun r => by simp only [List.mem_append, List.mem_cons]; grind
      have m2 : ∀ r, r ∈ A ++ p :: q :: B ↔ r = q ∨ r ∈ A ++ p :: B := fun r => by simp only [List.mem_append, List.mem_cons]; grind
      refine za_iload_n hc dM_normal_129 rfl ?_
      refine za_iconst hc 1 dM_normal_130 rfl ?_
      refine za_iadd hc dM_normal_131 ?_
      rw [show nI A.length + 1 = nI (A.length + 1) from (nI_succ _).symm]
      refine za_aload_n hc dM_normal_132 rfl ?_
      refine za_getI hc gfM_70 zob_62 dM_normal_133 ?_
      rw [hm.1, e1]
      refine za_icmp_ge 223 hc dM_normal_136 rfl (fun h_136 => ?_) (fun h_136 => ?_)
      · skip
        exact absurd ((nI_leI (by omega) (by omega)).mp h_136) (by omega)
      · skip
        refine za_aload_n hc dM_normal_139 rfl ?_
        refine za_getA hc gfM_41 zob_62 (p := 73) rfl dM_normal_140 ?_
        refine za_iload_n hc dM_normal_143 rfl ?_
        refine zm_lald hc (by assumption) dM_normal_144 (by omega) (by decide) ?_
        refine za_aload_n hc dM_normal_145 rfl ?_
        refine za_getA hc gfM_41 zob_62 (p := 73) rfl dM_normal_146 ?_
        refine za_iload_n hc dM_normal_149 rfl ?_
        refine za_iconst hc 1 dM_normal_150 rfl ?_
        refine za_iadd hc dM_normal_151 ?_
        rw [show nI A.length + 1 = nI (A.length + 1) from (nI_succ _).symm]
        refine zm_lald hc (by assumption) dM_normal_152 (by omega) (by decide) ?_
        refine za_lcmp_ne 179 hc dM_normal_153 dM_normal_154 rfl (fun h_153 => ?_) (fun h_153 => ?_)
        · skip
          have hnk : ¬ gkeq p q := fun z => h_153 (Int64.toInt_inj.mp (by rw [← ap.1, ← aq.1]; exact z.1))
          refine za_iconst hc 0 dM_normal_179 rfl ?_
          refine za_istore_n hc dM_normal_180 (by decide) ?_
          refine za_iload_n hc dM_normal_181 rfl ?_
          refine za_if_ne 191 hc dM_normal_182 rfl (fun h_182 => ?_) (fun h_182 => ?_)
          · skip
            exact absurd rfl h_182
          · skip
            refine za_iinc hc _ dM_normal_185 rfl ((nI_succ _).symm) (by decide) ?_
            refine za_goto 220 hc dM_normal_188 rfl ?_
            refine za_goto 129 hc dM_normal_220 rfl ?_
            refine za_take 2 ?_
            have e2 : A.length + 1 = (A ++ [p]).length := by simp
            rw [e2]
            have e3 : A ++ [p] ++ q :: B = A ++ p :: q :: B := by simp
            exact ih (A ++ [p]) q M1 (gpw_snoc hpw (gSrt_key hpq hnk)) (by rw [e3]; exact hsr) (by rw [e3]; exact hbe) (by rw [e3]; exact hsu) (by rw [e3]; exact hm) hb hs hk hf
        · skip
          have k1 : p.1 = q.1 := by rw [ap.1, aq.1, h_153]
          refine za_aload_n hc dM_normal_157 rfl ?_
          refine za_getA hc gfM_45 zob_62 (p := 74) rfl dM_normal_158 ?_
          refine za_iload_n hc dM_normal_161 rfl ?_
          refine zm_lald hc (by assumption) dM_normal_162 (by omega) (by decide) ?_
          refine za_aload_n hc dM_normal_163 rfl ?_
          refine za_getA hc gfM_45 zob_62 (p := 74) rfl dM_normal_164 ?_
          refine za_iload_n hc dM_normal_167 rfl ?_
          refine za_iconst hc 1 dM_normal_168 rfl ?_
          refine za_iadd hc dM_normal_169 ?_
          rw [show nI A.length + 1 = nI (A.length + 1) from (nI_succ _).symm]
          refine zm_lald hc (by assumption) dM_normal_170 (by omega) (by decide) ?_
          refine za_lcmp_ne 179 hc dM_normal_171 dM_normal_172 rfl (fun h_171 => ?_) (fun h_171 => ?_)
          · skip
            have hnk : ¬ gkeq p q := fun z => h_171 (Int64.toInt_inj.mp (by rw [← ap.2.1, ← aq.2.1]; exact z.2))
            refine za_iconst hc 0 dM_normal_179 rfl ?_
            refine za_istore_n hc dM_normal_180 (by decide) ?_
            refine za_iload_n hc dM_normal_181 rfl ?_
            refine za_if_ne 191 hc dM_normal_182 rfl (fun h_182 => ?_) (fun h_182 => ?_)
            · skip
              exact absurd rfl h_182
            · skip
              refine za_iinc hc _ dM_normal_185 rfl ((nI_succ _).symm) (by decide) ?_
              refine za_goto 220 hc dM_normal_188 rfl ?_
              refine za_goto 129 hc dM_normal_220 rfl ?_
              refine za_take 2 ?_
              have e2 : A.length + 1 = (A ++ [p]).length := by simp
              rw [e2]
              have e3 : A ++ [p] ++ q :: B = A ++ p :: q :: B := by simp
              exact ih (A ++ [p]) q M1 (gpw_snoc hpw (gSrt_key hpq hnk)) (by rw [e3]; exact hsr) (by rw [e3]; exact hbe) (by rw [e3]; exact hsu) (by rw [e3]; exact hm) hb hs hk hf
          · skip
            have hke : gkeq p q := ⟨k1, by rw [ap.2.1, aq.2.1, h_171]⟩
            have hcc := gSrt_c hpq hke
            refine za_iconst hc 1 dM_normal_175 rfl ?_
            refine za_goto 180 hc dM_normal_176 rfl ?_
            refine za_istore_n hc dM_normal_180 (by decide) ?_
            refine za_iload_n hc dM_normal_181 rfl ?_
            refine za_if_ne 191 hc dM_normal_182 rfl (fun h_182 => ?_) (fun h_182 => ?_)
            · skip
              refine za_aload_n hc dM_normal_191 rfl ?_
              refine za_aload_n hc dM_normal_192 rfl ?_
              refine za_getA hc gfM_48 zob_62 (p := 75) rfl dM_normal_193 ?_
              refine za_iload_n hc dM_normal_196 rfl ?_
              refine zm_lald hc (by assumption) dM_normal_197 (by omega) (by decide) ?_
              refine za_aload_n hc dM_normal_198 rfl ?_
              refine za_getA hc gfM_48 zob_62 (p := 75) rfl dM_normal_199 ?_
              refine za_iload_n hc dM_normal_202 rfl ?_
              refine za_iconst hc 1 dM_normal_203 rfl ?_
              refine za_iadd hc dM_normal_204 ?_
              rw [show nI A.length + 1 = nI (A.length + 1) from (nI_succ _).symm]
              refine zm_lald hc (by assumption) dM_normal_205 (by omega) (by decide) ?_
              refine za_lcmp_ne 214 hc dM_normal_206 dM_normal_207 rfl (fun h_206 => ?_) (fun h_206 => ?_)
              · skip
                have hcq : ¬ p.2.2.1 = q.2.2.1 := fun z => h_206 (Int64.toInt_inj.mp (by rw [← ap.2.2, ← aq.2.2]; exact z))
                refine za_iload_n hc dM_normal_214 rfl ?_
                refine za_iconst hc 1 dM_normal_215 rfl ?_
                refine za_iadd hc dM_normal_216 ?_
                have e3 : A ++ p :: q :: B = (A ++ [p]) ++ q :: B := by simp
                have e4 : (A ++ [p]) ++ B = A ++ p :: B := by simp
                rw [show nI A.length + 1 = nI (A ++ [p]).length by rw [← nI_succ]; simp]
                refine za_cV1v hc gsM_168 zob_62 (cM_remove_ l M1 (A0 := A ++ [p]) (B0 := B) (m := q) (by rw [← e3]; exact hm)) ⟨rfl, rfl⟩ ⟨Nat.le_of_ble_eq_true rfl, Nat.le_of_ble_eq_true rfl⟩ ⟨Nat.zero_le _, Nat.zero_le _⟩ dM_normal_217 (fun M_217 h_217 => ?_)
                obtain ⟨v1, v2, v3⟩ := h_217
                rw [e4] at v1
                refine za_goto 129 hc dM_normal_220 rfl ?_
                refine za_take 2 ?_
                exact ih A p M_217 hpw sr2 (fun r => (hbe r).trans (gBest_drop m2 (List.mem_append_right _ List.mem_cons_self) hke (Or.inl (by omega)) r)) (fun r hr => hsu r ((m2 r).mpr (Or.inr hr))) v1 (zbo_N v3 hb) (m3640_k hs v2 (by decide) (by decide)) (hk.tr (v2.wk (by decide))) (hf.tr (v3.wk (fun k z => mA_N z)))
              · skip
                have hcq : p.2.2.1 = q.2.2.1 := by rw [ap.2.2, aq.2.2, h_206]
                refine za_iload_n hc dM_normal_210 rfl ?_
                refine za_goto 217 hc dM_normal_211 rfl ?_
                refine za_cV1v hc gsM_168 zob_62 (cM_remove_ l M1 (A0 := A) (B0 := q :: B) (m := p) hm) ⟨rfl, rfl⟩ ⟨Nat.le_of_ble_eq_true rfl, Nat.le_of_ble_eq_true rfl⟩ ⟨Nat.zero_le _, Nat.zero_le _⟩ dM_normal_217 (fun M_217 h_217 => ?_)
                obtain ⟨v1, v2, v3⟩ := h_217
                refine za_goto 129 hc dM_normal_220 rfl ?_
                refine za_take 2 ?_
                exact ih A q M_217 (gpw_rep hpw hke) sr1 (fun r => (hbe r).trans (gBest_drop m1 (List.mem_append_right _ List.mem_cons_self) ⟨hke.1.symm, hke.2.symm⟩ (Or.inr ⟨hcq.symm, hcc.2 hcq⟩) r)) (fun r hr => hsu r ((m1 r).mpr (Or.inr hr))) v1 (zbo_N v3 hb) (m3640_k hs v2 (by decide) (by decide)) (hk.tr (v2.wk (by decide))) (hf.tr (v3.wk (fun k z => mA_N z)))
            · skip
              exact absurd h_182 (by decide)
  have LOOP2 : ∀ (R S : List gC) (M1 : zM), S ≠ [] → gSrt S → (∀ q, q ∈ S ++ R ↔ q ∈ (ms.map gnorm)) → mH M1 (S ++ R) → zbo M1 76 → m3640 M1 → mK nI_ M M1 → zfr mN M M1 → zW X (zqi (fun x M' => (x = 0 ∨ x = 1) ∧ (x = 1 ↔ gSat (ms.foldl gput [])) ∧ (x = 1 → mH M' (gthin [] (ms.foldl gput []))) ∧ (zbo M' 76 ∧ zbo M' 72) ∧ m3640 M' ∧ mK nI_ M M' ∧ zfr mN M M')) (0, 0) 82 [(0, .ref 62), (1, .int (nI S.length))] [] M1 := by
    intro R
    induction R with
    | nil =>
      intro S M1 hne hsr hmem hm hb hs hk hf
      rw [List.append_nil] at hm hmem
      have hml := hm.2.1
      obtain ⟨p, B, rfl⟩ := List.exists_cons_of_ne_nil hne
      refine za_iload_n hc dM_normal_82 rfl ?_
      refine za_aload_n hc dM_normal_83 rfl ?_
      refine za_getI hc gfM_70 zob_62 dM_normal_84 ?_
      rw [hm.1]
      refine za_icmp_ge 127 hc dM_normal_87 rfl (fun h_87 => ?_) (fun h_87 => ?_)
      · skip
        refine za_iconst hc 0 dM_normal_127 rfl ?_
        refine za_istore_n hc dM_normal_128 (by decide) ?_
        exact LOOP3 B [] p M1 (List.pairwise_singleton _ _) hsr (fun r => gBest_perm (fun q => (hmem q).symm) r) (fun r hr => (hmem r).mp hr) hm hb hs hk hf
      · skip
        exact absurd (Int32.le_refl _) h_87
    | cons x R ih =>
      intro S M1 hne hsr hmem hm hb hs hk hf
      have hml := hm.2.1
      rw [List.length_append, List.length_cons] at hml
      have e1 : (S ++ x :: R).length = S.length + 1 + R.length := by simp only [List.length_append, List.length_cons]; omega
      have inner : ∀ (n : Nat) (A B : List gC) (M1 : zM), A.length = n → A ++ B = S → (∀ b ∈ B, gbf x b) → mH M1 (A ++ x :: (B ++ R)) → zbo M1 76 → m3640 M1 → mK nI_ M M1 → zfr mN M M1 → zW X (zqi (fun x M' => (x = 0 ∨ x = 1) ∧ (x = 1 ↔ gSat (ms.foldl gput [])) ∧ (x = 1 → mH M' (gthin [] (ms.foldl gput []))) ∧ (zbo M' 76 ∧ zbo M' 72) ∧ m3640 M' ∧ mK nI_ M M' ∧ zfr mN M M')) (0, 0) 92 [(0, .ref 62), (1, .int (nI S.length)), (2, .int (nI n))] [] M1 := by
        clear hm hb hs hk hf M1
        intro n
        induction n with
        | zero =>
          intro A B M1 hA hAB hB hm hb hs hk hf
          obtain rfl := List.length_eq_zero_iff.mp hA
          refine za_iload_n hc dM_normal_92 rfl ?_
          refine za_if_le 121 hc dM_normal_93 rfl (fun h_93 => ?_) (fun h_93 => ?_)
          · skip
            refine za_iinc hc _ dM_normal_121 rfl ((nI_succ _).symm) (by decide) ?_
            refine za_goto 82 hc dM_normal_124 rfl ?_
            have e5 : S.length + 1 = ([] ++ x :: B).length := by rw [← hAB]; simp only [List.length_append, List.length_cons]; omega
            refine za_take 2 ?_
            rw [e5]
            have e6 : [] ++ x :: B ++ R = [] ++ x :: (B ++ R) := by simp
            refine ih ([] ++ x :: B) M1 (by simp) (gSrt_ins (by rw [hAB]; exact hsr) hB (fun A' a h => absurd h (by simp))) (fun q => ?_) (by rw [e6]; exact hm) hb hs hk hf
            rw [← hmem q, ← hAB]
            simp only [List.mem_append, List.mem_cons]; grind
          · skip
            exact absurd (Int32.le_refl _) h_93
        | succ n ihn =>
          intro A B M1 hA hAB hB hm hb hs hk hf
          obtain ⟨A2, a, hA2⟩ : ∃ A2 a, A = A2 ++ [a] := by
            rcases List.eq_nil_or_concat A with z | ⟨A2, a, z⟩
            · rw [z] at hA; cases hA
            · exact ⟨A2, a, by rw [z, List.concat_eq_append]⟩
          have hA3 : A2.length = n := by rw [hA2, List.length_append] at hA; simp only [List.length_cons, List.length_nil] at hA; omega
          have hml2 := hm.2.1
          rw [List.length_append, List.length_cons] at hml2
          have eL : A ++ x :: (B ++ R) = A2 ++ a :: x :: (B ++ R) := by rw [hA2]; simp
          have dx := hm.2.2.1 (n + 1) x (by rw [← hA, List.getElem?_append_right (Nat.le_refl _), Nat.sub_self]; rfl)
          have da := hm.2.2.1 n a (by rw [eL, ← hA3, List.getElem?_append_right (Nat.le_refl _), Nat.sub_self]; rfl)
          refine za_iload_n hc dM_normal_92 rfl ?_
          refine za_if_le 121 hc dM_normal_93 rfl (fun h_93 => ?_) (fun h_93 => ?_)
          · skip
            exact absurd ((nI_leI (b := 0) (by omega) (by decide)).mp h_93) (by omega)
          · skip
            refine za_aload_n hc dM_normal_96 rfl ?_
            refine za_iload_n hc dM_normal_97 rfl ?_
            refine za_iload_n hc dM_normal_98 rfl ?_
            refine za_iconst hc 1 dM_normal_99 rfl ?_
            refine za_isub hc dM_normal_100 ?_
            rw [show nI (n + 1) - 1 = nI n from by rw [show (1 : Int32) = nI 1 from rfl, pk_sub (by omega)]; rfl]
            refine za_cV2i hc gsM_165 zob_62 (cM_isBefore_ l M1 (i := n + 1) (j := n) (by omega) (by omega) hm.2.2.2) ⟨rfl, rfl⟩ ⟨Nat.le_of_ble_eq_true rfl, Nat.le_of_ble_eq_true rfl⟩ ⟨Nat.zero_le _, Nat.zero_le _⟩ dM_normal_101 (fun x_101 M_101 h_101 => ?_)
            obtain ⟨w0, w1, hm_101⟩ := h_101
            rw [hm_101]
            rw [dx, da] at w1
            refine za_if_eq 121 hc dM_normal_104 rfl (fun h_104 => ?_) (fun h_104 => ?_)
            · skip
              have hno : ¬ gbf x a := fun z => absurd (w1.mpr z) (by rw [h_104]; decide)
              refine za_iinc hc _ dM_normal_121 rfl ((nI_succ _).symm) (by decide) ?_
              refine za_goto 82 hc dM_normal_124 rfl ?_
              have e5 : S.length + 1 = (A ++ x :: B).length := by rw [← hAB]; simp only [List.length_append, List.length_cons]; omega
              refine za_take 2 ?_
              rw [e5]
              have e6 : A ++ x :: B ++ R = A ++ x :: (B ++ R) := by simp
              refine ih (A ++ x :: B) M1 (by simp) (gSrt_ins (by rw [hAB]; exact hsr) hB (fun A' a' h => by rw [hA2] at h; have h9 := List.append_inj_right' h rfl; cases h9; exact hno)) (fun q => ?_) (by rw [e6]; exact hm) hb hs hk hf
              rw [← hmem q, ← hAB]
              simp only [List.mem_append, List.mem_cons]; grind
            · skip
              have hye : gbf x a := w1.mp (w0.resolve_left h_104)
              refine za_aload_n hc dM_normal_107 rfl ?_
              refine za_iload_n hc dM_normal_108 rfl ?_
              refine za_iload_n hc dM_normal_109 rfl ?_
              refine za_iconst hc 1 dM_normal_110 rfl ?_
              refine za_isub hc dM_normal_111 ?_
              rw [show nI (n + 1) - 1 = nI n from by rw [show (1 : Int32) = nI 1 from rfl, pk_sub (by omega)]; rfl]
              refine za_cV2v hc gsM_157 zob_62 (cM_swap_ l M1 (i := n + 1) (j := n) (by omega) (by omega) hm.2.2.2) ⟨rfl, rfl⟩ ⟨Nat.le_of_ble_eq_true rfl, Nat.le_of_ble_eq_true rfl⟩ ⟨Nat.zero_le _, Nat.zero_le _⟩ dM_normal_112 (fun M_112 h_112 => ?_)
              obtain ⟨w2, w3, w4⟩ := h_112
              refine za_iinc hc _ dM_normal_115 rfl (nI_prd n) (by decide) ?_
              refine za_goto 92 hc dM_normal_118 rfl ?_
              refine ihn A2 (a :: B) M_112 hA3 (by rw [← hAB, hA2]; simp) (fun b hbb => by rcases List.mem_cons.mp hbb with z | z; rw [z]; exact hye; exact hB b z) ?_ (zbo_N (dA_mA w4) hb) (m3640_k hs (mK_dA (I := []) w4) (by decide) (by decide)) (hk.tr (mK_dA w4)) (hf.tr ((dA_mA w4).wk (fun k z => mA_N z)))
              exact mH_swap (B := B ++ R) (eL ▸ hm) (Or.inr ⟨by rw [hA3], hA3.symm⟩) w2 w3 (by rw [(w4 _ (by unfold dA; omega)).1])
      refine za_iload_n hc dM_normal_82 rfl ?_
      refine za_aload_n hc dM_normal_83 rfl ?_
      refine za_getI hc gfM_70 zob_62 dM_normal_84 ?_
      rw [hm.1, e1]
      refine za_icmp_ge 127 hc dM_normal_87 rfl (fun h_87 => ?_) (fun h_87 => ?_)
      · skip
        exact absurd ((nI_leI (by omega) (by omega)).mp h_87) (by omega)
      · skip
        refine za_iload_n hc dM_normal_90 rfl ?_
        refine za_istore_n hc dM_normal_91 (by decide) ?_
        exact inner S.length S [] M1 rfl (List.append_nil _) (fun b z => by cases z) hm hb hs hk hf
  have LOOP1 : ∀ (t dn : List gC) (M1 : zM), dn ++ t.map gnorm = (ms.map gnorm) → (∀ q ∈ t, q ∈ ms) → mH M1 (dn ++ t) → zbo M1 76 → m3640 M1 → mK nI_ M M1 → zfr mN M M1 → zW X (zqi (fun x M' => (x = 0 ∨ x = 1) ∧ (x = 1 ↔ gSat (ms.foldl gput [])) ∧ (x = 1 → mH M' (gthin [] (ms.foldl gput []))) ∧ (zbo M' 76 ∧ zbo M' 72) ∧ m3640 M' ∧ mK nI_ M M' ∧ zfr mN M M')) (0, 0) 11 [(0, .ref 62), (1, .int (nI dn.length))] [] M1 := by
    intro t
    induction t with
    | nil =>
      intro dn M1 hN hsub hm hb hs hk hf
      rw [List.append_nil] at hm
      simp only [List.map_nil, List.append_nil] at hN
      have hml := hm.2.1
      refine za_iload_n hc dM_normal_11 rfl ?_
      refine za_aload_n hc dM_normal_12 rfl ?_
      refine za_getI hc gfM_70 zob_62 dM_normal_13 ?_
      rw [hm.1]
      refine za_icmp_ge 80 hc dM_normal_16 rfl (fun h_16 => ?_) (fun h_16 => ?_)
      · skip
        refine za_iconst hc 1 dM_normal_80 rfl ?_
        refine za_istore_n hc dM_normal_81 (by decide) ?_
        cases hdn : dn with
        | nil =>
          rw [hdn] at hm hN
          have hC : [] = (ms.foldl gput []) := gCan_norm hok.2.1 (by rw [← hN]; exact gCan_nil)
          refine za_iload_n hc dM_normal_82 rfl ?_
          refine za_aload_n hc dM_normal_83 rfl ?_
          refine za_getI hc gfM_70 zob_62 dM_normal_84 ?_
          rw [hm.1]
          refine za_icmp_ge 127 hc dM_normal_87 rfl (fun h_87 => ?_) (fun h_87 => ?_)
          · skip
            refine za_iconst hc 0 dM_normal_127 rfl ?_
            refine za_istore_n hc dM_normal_128 (by decide) ?_
            refine za_iload_n hc dM_normal_129 rfl ?_
            refine za_iconst hc 1 dM_normal_130 rfl ?_
            refine za_iadd hc dM_normal_131 ?_
            refine za_aload_n hc dM_normal_132 rfl ?_
            refine za_getI hc gfM_70 zob_62 dM_normal_133 ?_
            rw [hm.1]
            refine za_icmp_ge 223 hc dM_normal_136 rfl (fun h_136 => ?_) (fun h_136 => ?_)
            · skip
              exact END 0 M1 (by rw [← hC]; exact hm) (by rw [← hC]; exact mOK_nil) hb hs hk hf
            · skip
              exact absurd (by decide : (nI ([] : List gC).length) ≤ (0 + 1 : Int32)) h_136
          · skip
            exact absurd (by decide : (nI ([] : List gC).length) ≤ (1 : Int32)) h_87
        | cons x r =>
          rw [hdn] at hm hN
          exact LOOP2 r [x] M1 (by simp) (List.pairwise_singleton _ _) (fun q => by rw [← hN]; exact Iff.rfl) hm hb hs hk hf
      · skip
        exact absurd (Int32.le_refl _) h_16
    | cons m t ih =>
      intro dn M1 hN hsub hm hb hs hk hf
      have hml := hm.2.1
      rw [List.length_append, List.length_cons] at hml
      have e1 : (dn ++ m :: t).length = dn.length + 1 + t.length := by simp only [List.length_append, List.length_cons]; omega
      have hmm := hsub m List.mem_cons_self
      have bm := hok.1 m hmm
      have hnzm := hok.2.1 m hmm
      have dk := hm.2.2.1 dn.length m (by rw [List.getElem?_append_right (Nat.le_refl _), Nat.sub_self]; rfl)
      have b1 : -200000000 ≤ (zJ M1 73 dn.length).toInt ∧ (zJ M1 73 dn.length).toInt ≤ 200000000 := by have := bm.1; rw [← dk] at this; exact this
      have b2 : -200000000 ≤ (zJ M1 74 dn.length).toInt ∧ (zJ M1 74 dn.length).toInt ≤ 200000000 := by have := bm.2.1; rw [← dk] at this; exact this
      have b3 : -200000000 ≤ (zJ M1 75 dn.length).toInt ∧ (zJ M1 75 dn.length).toInt ≤ 200000000 := by have := bm.2.2; rw [← dk] at this; exact this
      have hg : gg m = Nat.gcd (Nat.gcd (zJ M1 73 dn.length).toInt.natAbs (zJ M1 74 dn.length).toInt.natAbs) (zJ M1 75 dn.length).toInt.natAbs := by rw [← dk]; rfl
      have hgp := gg_pos hnzm
      have hl1 : Nat.gcd (zJ M1 73 dn.length).toInt.natAbs (zJ M1 74 dn.length).toInt.natAbs ≤ 200000000 := by
        by_cases h0 : 0 < (zJ M1 73 dn.length).toInt.natAbs
        · have := Nat.le_of_dvd h0 (Nat.gcd_dvd_left (zJ M1 73 dn.length).toInt.natAbs (zJ M1 74 dn.length).toInt.natAbs); omega
        · rw [show (zJ M1 73 dn.length).toInt.natAbs = 0 by omega, Nat.gcd_zero_left]; omega
      have hl2 : gg m ≤ 200000000 := by
        rw [hg]
        by_cases h0 : 0 < (zJ M1 75 dn.length).toInt.natAbs
        · have := Nat.le_of_dvd h0 (Nat.gcd_dvd_right (Nat.gcd (zJ M1 73 dn.length).toInt.natAbs (zJ M1 74 dn.length).toInt.natAbs) (zJ M1 75 dn.length).toInt.natAbs); omega
        · rw [show (zJ M1 75 dn.length).toInt.natAbs = 0 by omega, Nat.gcd_zero_right]; omega
      have hnz : ¬ lN (gg m) = 0 := fun z => absurd ((pk_lEQ (b := 0) (by omega) (by decide)).mp z) (by omega)
      refine za_iload_n hc dM_normal_11 rfl ?_
      refine za_aload_n hc dM_normal_12 rfl ?_
      refine za_getI hc gfM_70 zob_62 dM_normal_13 ?_
      rw [hm.1, e1]
      refine za_icmp_ge 80 hc dM_normal_16 rfl (fun h_16 => ?_) (fun h_16 => ?_)
      · skip
        exact absurd ((nI_leI (by omega) (by omega)).mp h_16) (by omega)
      · skip
        refine za_aload_n hc dM_normal_19 rfl ?_
        refine za_getA hc gfM_41 zob_62 (p := 73) rfl dM_normal_20 ?_
        refine za_iload_n hc dM_normal_23 rfl ?_
        refine zm_lald hc (by assumption) dM_normal_24 (by omega) (by decide) ?_
        refine za_aload_n hc dM_normal_25 rfl ?_
        refine za_getA hc gfM_45 zob_62 (p := 74) rfl dM_normal_26 ?_
        refine za_iload_n hc dM_normal_29 rfl ?_
        refine zm_lald hc (by assumption) dM_normal_30 (by omega) (by decide) ?_
        refine za_cS2l hc gsM_161 (cM_divisor_ l M1 _ _ _ (by omega) (by omega) rfl) ⟨rfl, rfl⟩ ⟨Nat.le_of_ble_eq_true rfl, Nat.le_of_ble_eq_true rfl⟩ ⟨Nat.zero_le _, Nat.zero_le _⟩ dM_normal_31 (fun x_31 M_31 h_31 => ?_)
        obtain ⟨q_31, hm_31⟩ := h_31
        rw [hm_31, q_31]
        refine za_aload_n hc dM_normal_34 rfl ?_
        refine za_getA hc gfM_48 zob_62 (p := 75) rfl dM_normal_35 ?_
        refine za_iload_n hc dM_normal_38 rfl ?_
        refine zm_lald hc (by assumption) dM_normal_39 (by omega) (by decide) ?_
        refine za_cS2l hc gsM_161 (cM_divisor_ l M1 _ _ (gg m) (by rw [pk_lT (by omega)]; omega) (by omega) (by rw [pk_lT (by omega), hg, Int.natAbs_natCast])) ⟨rfl, rfl⟩ ⟨Nat.le_of_ble_eq_true rfl, Nat.le_of_ble_eq_true rfl⟩ ⟨Nat.zero_le _, Nat.zero_le _⟩ dM_normal_40 (fun x_40 M_40 h_40 => ?_)
        obtain ⟨q_40, hm_40⟩ := h_40
        rw [hm_40, q_40]
        refine za_lstore_n hc dM_normal_43 (by decide) ?_
        refine za_aload_n hc dM_normal_44 rfl ?_
        refine za_getA hc gfM_41 zob_62 (p := 73) rfl dM_normal_45 ?_
        refine za_iload_n hc dM_normal_48 rfl ?_
        refine za_dup2 hc dM_normal_49 rfl rfl ?_
        refine zm_lald hc (by assumption) dM_normal_50 (by omega) (by decide) ?_
        refine za_lload_n hc dM_normal_51 rfl ?_
        refine za_ldiv hc dM_normal_52 hnz ?_
        refine zm_last hc (by assumption) dM_normal_53 (by omega) (by decide) ?_
        refine za_aload_n hc dM_normal_54 rfl ?_
        refine za_getA hc gfM_45 zob_62 (p := 74) rfl dM_normal_55 ?_
        refine za_iload_n hc dM_normal_58 rfl ?_
        refine za_dup2 hc dM_normal_59 rfl rfl ?_
        refine zm_lald hc (by assumption) dM_normal_60 (by omega) (by decide) ?_
        rw [zJ_o (by decide)]
        refine za_lload_n hc dM_normal_61 rfl ?_
        refine za_ldiv hc dM_normal_62 hnz ?_
        refine zm_last hc (by assumption) dM_normal_63 (by omega) (by decide) ?_
        refine za_aload_n hc dM_normal_64 rfl ?_
        refine za_getA hc gfM_48 zob_62 (p := 75) rfl dM_normal_65 ?_
        refine za_iload_n hc dM_normal_68 rfl ?_
        refine za_dup2 hc dM_normal_69 rfl rfl ?_
        refine zm_lald hc (by assumption) dM_normal_70 (by omega) (by decide) ?_
        rw [zJ_o (by decide), zJ_o (by decide)]
        refine za_lload_n hc dM_normal_71 rfl ?_
        refine za_ldiv hc dM_normal_72 hnz ?_
        refine zm_last hc (by assumption) dM_normal_73 (by omega) (by decide) ?_
        refine za_iinc hc _ dM_normal_74 rfl ((nI_succ _).symm) (by decide) ?_
        refine za_goto 11 hc dM_normal_77 rfl ?_
        refine za_take 2 ?_
        have e2 : dn.length + 1 = (dn ++ [gnorm m]).length := by simp
        rw [e2]
        have hd : ∀ j, dg (zsJ (zsJ (zsJ M1 73 dn.length (zJ M1 73 dn.length / lN (gg m))) 74 dn.length (zJ M1 74 dn.length / lN (gg m))) 75 dn.length (zJ M1 75 dn.length / lN (gg m))) 72 j = if j = dn.length then gnorm m else dg M1 72 j := fun j => by
          show ((zJ (zsJ (zsJ (zsJ M1 73 dn.length (zJ M1 73 dn.length / lN (gg m))) 74 dn.length (zJ M1 74 dn.length / lN (gg m))) 75 dn.length (zJ M1 75 dn.length / lN (gg m))) 73 j).toInt, (zJ (zsJ (zsJ (zsJ M1 73 dn.length (zJ M1 73 dn.length / lN (gg m))) 74 dn.length (zJ M1 74 dn.length / lN (gg m))) 75 dn.length (zJ M1 75 dn.length / lN (gg m))) 74 j).toInt, (zJ (zsJ (zsJ (zsJ M1 73 dn.length (zJ M1 73 dn.length / lN (gg m))) 74 dn.length (zJ M1 74 dn.length / lN (gg m))) 75 dn.length (zJ M1 75 dn.length / lN (gg m))) 75 j).toInt, zI (zsJ (zsJ (zsJ M1 73 dn.length (zJ M1 73 dn.length / lN (gg m))) 74 dn.length (zJ M1 74 dn.length / lN (gg m))) 75 dn.length (zJ M1 75 dn.length / lN (gg m))) 76 j == 1) = _
          rw [zJ_o (by decide), zJ_o (by decide), zJ_s, zJ_o (by decide), zJ_s, zJ_o (by decide), zJ_s, zJ_o (by decide), zJ_o (by decide), zI_sJ, zI_sJ, zI_sJ]
          by_cases c : j = dn.length
          · simp only [if_pos c]
            rw [l_div (by omega) (by omega), l_div (by omega) (by omega), l_div (by omega) (by omega), c]
            unfold gnorm
            rw [← dk]; rfl
          · simp only [if_neg c]; rfl
        have hfA : zfr mA M1 (zsJ (zsJ (zsJ M1 73 dn.length (zJ M1 73 dn.length / lN (gg m))) 74 dn.length (zJ M1 74 dn.length / lN (gg m))) 75 dn.length (zJ M1 75 dn.length / lN (gg m))) := (zfr_sJ (P := mA) (Or.inr (by decide))).tr ((zfr_sJ (P := mA) (Or.inr (by decide))).tr (zfr_sJ (P := mA) (Or.inr (by decide))))
        refine ih (dn ++ [gnorm m]) _ (by rw [List.append_assoc]; exact hN) (fun q hq => hsub q (List.mem_cons_of_mem _ hq)) ?_ (zbo_N hfA hb) (by exact hs) (by exact hk.tr (fun j _ => ⟨rfl, by rw [zJ_o (by decide), zJ_o (by decide), zJ_o (by decide)]⟩)) (hf.tr (hfA.wk (fun k z => mA_N z)))
        rw [List.append_assoc]
        exact mH_norm hm hd (fun j => hm.2.2.2 j) rfl
  refine za_aload_n hc dM_normal_0 rfl ?_
  refine za_getI hc gfM_146 zob_62 dM_normal_1 ?_
  refine za_if_eq 9 hc dM_normal_4 rfl (fun h_4 => ?_) (fun h_4 => ?_)
  · skip
    refine za_iconst hc 0 dM_normal_9 rfl ?_
    refine za_istore_n hc dM_normal_10 (by decide) ?_
    exact LOOP1 ms [] M rfl (fun q h => h) hH hb0 hs0 mK.rf zfr.rf
  · skip
    exact absurd hnv h_4
