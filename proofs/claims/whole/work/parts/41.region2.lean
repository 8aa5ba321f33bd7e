/-! Rows come into a region. -/
theorem zdr_rg {d r : Nat} (hd : zdr d) (hr : zrg r) {a b : Nat} (ha : a ≤ 8) (hb : b ≤ 2) : d + a ≠ r + b := by
  intro e
  have h : zlay (d + a) = zlay (r + b) := by rw [e]
  obtain ⟨-, d0, d1, d2, d3, d4, d5, d6, d7, d8⟩ := hd
  obtain ⟨-, r0, r1, r2⟩ := hr
  rcases (show a = 0 ∨ a = 1 ∨ a = 2 ∨ a = 3 ∨ a = 4 ∨ a = 5 ∨ a = 6 ∨ a = 7 ∨ a = 8 by omega) with rfl | rfl | rfl | rfl | rfl | rfl | rfl | rfl | rfl <;> rcases (show b = 0 ∨ b = 1 ∨ b = 2 by omega) with rfl | rfl | rfl <;> first
    | exact absurd ((d0.symm.trans h).trans r0) (by decide) | exact absurd ((d0.symm.trans h).trans r1) (by decide) | exact absurd ((d0.symm.trans h).trans r2) (by decide)
    | exact absurd ((d1.symm.trans h).trans r0) (by decide) | exact absurd ((d1.symm.trans h).trans r1) (by decide) | exact absurd ((d1.symm.trans h).trans r2) (by decide)
    | exact absurd ((d2.symm.trans h).trans r0) (by decide) | exact absurd ((d2.symm.trans h).trans r1) (by decide) | exact absurd ((d2.symm.trans h).trans r2) (by decide)
    | exact absurd ((d3.symm.trans h).trans r0) (by decide) | exact absurd ((d3.symm.trans h).trans r1) (by decide) | exact absurd ((d3.symm.trans h).trans r2) (by decide)
    | exact absurd ((d4.symm.trans h).trans r0) (by decide) | exact absurd ((d4.symm.trans h).trans r1) (by decide) | exact absurd ((d4.symm.trans h).trans r2) (by decide)
    | exact absurd ((d5.symm.trans h).trans r0) (by decide) | exact absurd ((d5.symm.trans h).trans r1) (by decide) | exact absurd ((d5.symm.trans h).trans r2) (by decide)
    | exact absurd ((d6.symm.trans h).trans r0) (by decide) | exact absurd ((d6.symm.trans h).trans r1) (by decide) | exact absurd ((d6.symm.trans h).trans r2) (by decide)
    | exact absurd ((d7.symm.trans h).trans r0) (by decide) | exact absurd ((d7.symm.trans h).trans r1) (by decide) | exact absurd ((d7.symm.trans h).trans r2) (by decide)
    | exact absurd ((d8.symm.trans h).trans r0) (by decide) | exact absurd ((d8.symm.trans h).trans r1) (by decide) | exact absurd ((d8.symm.trans h).trans r2) (by decide)
theorem zrg_rg {q r : Nat} (hq : zrg q) (hr : zrg r) (hne : q ≠ r) {a b : Nat} (ha : a ≤ 2) (hb : b ≤ 2) : q + a ≠ r + b := by
  intro e
  have h : zlay (q + a) = zlay (r + b) := by rw [e]
  obtain ⟨-, d0, d1, d2⟩ := hq
  obtain ⟨-, r0, r1, r2⟩ := hr
  rcases (show a = 0 ∨ a = 1 ∨ a = 2 by omega) with rfl | rfl | rfl <;> rcases (show b = 0 ∨ b = 1 ∨ b = 2 by omega) with rfl | rfl | rfl <;> first
    | (exfalso; exact hne (by omega))
    | exact absurd ((d0.symm.trans h).trans r1) (by decide) | exact absurd ((d0.symm.trans h).trans r2) (by decide)
    | exact absurd ((d1.symm.trans h).trans r0) (by decide) | exact absurd ((d1.symm.trans h).trans r2) (by decide)
    | exact absurd ((d2.symm.trans h).trans r0) (by decide) | exact absurd ((d2.symm.trans h).trans r1) (by decide)
theorem dF_rg {d r : Nat} (hd : zdr d) (hr : zrg r) {b : Nat} (hb : b ≤ 2) : ¬ dF d (r + b) := fun z => zdr_rg hd hr (a := r + b - d) (b := b) (by have := z.2; have := z.1; omega) hb (by have := z.1; omega)
theorem rF_dr {d r : Nat} (hd : zdr d) (hr : zrg r) {a : Nat} (ha : a ≤ 8) : ¬ rF r (d + a) := fun z => zdr_rg hd hr (a := a) (b := d + a - r) ha (by have := z.2; have := z.1; omega) (by have := z.1; omega)
theorem rF_rg {q r : Nat} (hq : zrg q) (hr : zrg r) (hne : q ≠ r) {a : Nat} (ha : a ≤ 2) : ¬ rF r (q + a) := fun z => zrg_rg hq hr hne (a := a) (b := q + a - r) ha (by have := z.2; have := z.1; omega) (by have := z.1; omega)
theorem l2i_int {x : Int64} (h : x.toInt.natAbs ≤ 10000) : x.toInt32.toInt = x.toInt := by
  rw [Int64.toInt_toInt32, i_bm (by omega) (by omega)]

set_option maxRecDepth 100000 in
set_option maxHeartbeats 4000000 in
theorem cR_append_ (l : Launch) {r d : Nat} {R : List (List gC)} {ls : List gC} (M : zM) (hr : zrg r) (hd : zdr d) (hR : rH M r R) (hH : dH M d ls) (hlt : R.length < 12) (hl12 : ls.length ≤ 12) (hlim : ∀ q ∈ ls, gLim q) : zMet l mR_append rR_append [.ref r, .ref d] M (zqv (fun M' => rH M' r (R ++ [ls]) ∧ zfr (rF r) M M')) := by
  refine za_enter (by decide) (Nat.le_of_ble_eq_true rfl) (fun X hc => ?_)
  have hro := hr.o
  have hrz := hr.z
  have hrn := hr.n
  have hdo := hd.o
  have hda := hd.a
  have hdb := hd.b
  have hdc := hd.c
  have hds := hd.s
  have hpo := hd.p.o
  have hl := hH.2.1
  have hrl := hR.2.1
  have loop : ∀ n i (M1 : zM), n + i = ls.length → zfr (rF r) M M1 → zI M1 r = zI M r → zI M1 (r + 1) R.length = nI ls.length → (∀ k, k ≠ R.length → zI M1 (r + 1) k = zI M (r + 1) k) → (∀ x, x < 48 * R.length → zI M1 (r + 2) x = zI M (r + 2) x) → (∀ k q, k < i → ls[k]? = some q → rg M1 r R.length k = q) → zW X (zqv (fun M' => rH M' r (R ++ [ls]) ∧ zfr (rF r) M M')) (0, 0) 15 [(0, .ref r), (1, .ref d), (2, .int (nI i))] [] M1 := by
    intro n
    induction n with
    | zero =>
      intro i M1 hn hf h0 hz hzo hx hq
      refine za_iload_n hc dR_append_15 rfl ?_
      refine za_aload_n hc dR_append_16 rfl ?_
      refine za_getS hc gfR_11 (by assumption) dR_append_17 ?_
      refine za_aload_n hc dR_append_20 rfl ?_
      refine za_getI hc gfR_18 (by assumption) dR_append_21 ?_
      rw [h0, hR.1]
      refine za_iald hc (by assumption) dR_append_24 (vp_in_nI (show R.length < 12 by omega) (by decide)) ?_
      rw [nI_clamp (show R.length < 2 ^ 31 by omega), hz]
      refine za_icmp_ge 107 hc dR_append_25 rfl (fun h_25 => ?_) (fun h_25 => ?_)
      · skip
        refine za_aload_n hc dR_append_107 rfl ?_
        refine za_dup hc dR_append_108 rfl ?_
        refine za_getI hc gfR_18 (by assumption) dR_append_109 ?_
        refine za_iconst hc 1 dR_append_112 rfl ?_
        refine za_iadd hc dR_append_113 ?_
        rw [h0, hR.1, show nI R.length + (1 : Int32) = nI (R.length + 1) from (nI_succ _).symm]
        refine za_putI hc gpR_18 (by assumption) dR_append_114 ?_
        refine za_vret hc rfl dR_append_117 ⟨Nat.zero_le _, Nat.zero_le _⟩ ?_
        refine ⟨rfl, ⟨?_, ?_, ?_⟩, hf.tr (zfr_sI ⟨Nat.le_refl _, by omega⟩)⟩
        · rw [zI_s, if_pos rfl, List.length_append]; rfl
        · rw [List.length_append]; simp only [List.length_cons, List.length_nil]; omega
        · intro j row hrow
          rw [zI_o (show ¬ r + 1 = r by omega)]
          have hrg : rg (zsI M1 r 2 (nI (R.length + 1))) r = rg M1 r := by funext a b; unfold rg; rw [zI_o (show ¬ r + 2 = r by omega)]
          rw [hrg]
          by_cases c : j < R.length
          · rw [List.getElem?_append_left c] at hrow
            obtain ⟨w1, w2, w3, w4⟩ := hR.2.2 j row hrow
            refine ⟨w1, by rw [hzo j (by omega)]; exact w2, fun i q hi => ?_, w4⟩
            have := (List.getElem?_eq_some_iff.mp hi).1
            rw [← w3 i q hi]
            unfold rg
            rw [hx _ (by omega), hx _ (by omega), hx _ (by omega), hx _ (by omega)]
          · have hj : j = R.length := by have := (List.getElem?_eq_some_iff.mp hrow).1; simp only [List.length_append, List.length_cons, List.length_nil] at this; omega
            subst hj
            rw [List.getElem?_append_right (Nat.le_refl _), Nat.sub_self] at hrow
            have : ls = row := by simpa using hrow
            subst this
            exact ⟨hl12, hz, fun i q hi => hq i q (by have := (List.getElem?_eq_some_iff.mp hi).1; omega) hi, hlim⟩
      · skip
        exact absurd ((nI_leI (by omega) (by omega)).mpr (show ls.length ≤ i by omega)) h_25
    | succ n ih =>
      intro i M1 hn hf h0 hz hzo hx hq
      have hli := List.getElem?_eq_getElem (l := ls) (show i < ls.length by omega)
      have hmem := List.getElem_mem (l := ls) (show i < ls.length by omega)
      have hlm := hlim _ hmem
      have hdgi := hH.2.2.1 i _ hli
      rw [← hdgi] at hlm
      have ka : zJ M1 (d + 1) = zJ M (d + 1) := (hf _ (rF_dr hd hr (by decide))).2.1
      have kb : zJ M1 (d + 2) = zJ M (d + 2) := (hf _ (rF_dr hd hr (by decide))).2.1
      have kc : zJ M1 (d + 3) = zJ M (d + 3) := (hf _ (rF_dr hd hr (by decide))).2.1
      have ks : zI M1 (d + 4) = zI M (d + 4) := (hf _ (rF_dr hd hr (by decide))).1
      have hne4 : ¬ d + 4 = r + 2 := zdr_rg hd hr (by decide) (by decide)
      refine za_iload_n hc dR_append_15 rfl ?_
      refine za_aload_n hc dR_append_16 rfl ?_
      refine za_getS hc gfR_11 (by assumption) dR_append_17 ?_
      refine za_aload_n hc dR_append_20 rfl ?_
      refine za_getI hc gfR_18 (by assumption) dR_append_21 ?_
      rw [h0, hR.1]
      refine za_iald hc (by assumption) dR_append_24 (vp_in_nI (show R.length < 12 by omega) (by decide)) ?_
      rw [nI_clamp (show R.length < 2 ^ 31 by omega), hz]
      refine za_icmp_ge 107 hc dR_append_25 rfl (fun h_25 => ?_) (fun h_25 => ?_)
      · skip
        exact absurd ((nI_leI (by omega) (by omega)).mp h_25) (by omega)
      · skip
        refine za_aload_n hc dR_append_28 rfl ?_
        refine za_getI hc gfR_18 (by assumption) dR_append_29 ?_
        refine za_bipush hc 48 dR_append_32 rfl ?_
        refine za_imul hc dR_append_34 ?_
        refine za_iload_n hc dR_append_35 rfl ?_
        refine za_iconst hc 4 dR_append_36 rfl ?_
        refine za_imul hc dR_append_37 ?_
        refine za_iadd hc dR_append_38 ?_
        rw [h0, hR.1, zix0]
        refine za_istore_n hc dR_append_39 (by decide) ?_
        refine za_aload_n hc dR_append_40 rfl ?_
        refine za_getS hc gfR_15 (by assumption) dR_append_41 ?_
        refine za_iload_n hc dR_append_44 rfl ?_
        refine za_aload_n hc dR_append_45 rfl ?_
        refine za_iload_n hc dR_append_46 rfl ?_
        refine za_cV1l hc gsR_60 (by assumption) (cD_x_ l M1 hd (show i < 36 by omega)) ⟨rfl, rfl⟩ ⟨Nat.le_of_ble_eq_true rfl, Nat.le_of_ble_eq_true rfl⟩ ⟨Nat.zero_le _, Nat.zero_le _⟩ dR_append_47 (fun x_47 M_47 h_47 => ?_)
        obtain ⟨q_47, hm_47⟩ := h_47
        rw [hm_47, q_47, ka]
        refine za_l2i hc dR_append_50 ?_
        refine za_iast hc (by assumption) dR_append_51 (vp_in_nI (show 48 * R.length + 4 * i < 576 by omega) (by decide)) ?_
        rw [nI_clamp (show 48 * R.length + 4 * i < 2 ^ 31 by omega)]
        refine za_aload_n hc dR_append_52 rfl ?_
        refine za_getS hc gfR_15 (by assumption) dR_append_53 ?_
        refine za_iload_n hc dR_append_56 rfl ?_
        refine za_iconst hc 1 dR_append_57 rfl ?_
        refine za_iadd hc dR_append_58 ?_
        refine za_aload_n hc dR_append_59 rfl ?_
        refine za_iload_n hc dR_append_60 rfl ?_
        refine za_cV1l hc gsR_66 (by assumption) (cD_y_ l _ hd (show i < 36 by omega)) ⟨rfl, rfl⟩ ⟨Nat.le_of_ble_eq_true rfl, Nat.le_of_ble_eq_true rfl⟩ ⟨Nat.zero_le _, Nat.zero_le _⟩ dR_append_61 (fun x_61 M_61 h_61 => ?_)
        obtain ⟨q_61, hm_61⟩ := h_61
        rw [hm_61, q_61, zJ_sI, kb]
        refine za_l2i hc dR_append_64 ?_
        refine za_iast hc (by assumption) dR_append_65 (by rw [show nI (48 * R.length + 4 * i) + (1 : Int32) = nI (48 * R.length + 4 * i + 1) from nI_add _ 1]; exact vp_in_nI (show 48 * R.length + 4 * i + 1 < 576 by omega) (by decide)) ?_
        rw [show nI (48 * R.length + 4 * i) + (1 : Int32) = nI (48 * R.length + 4 * i + 1) from nI_add _ 1, nI_clamp (show 48 * R.length + 4 * i + 1 < 2 ^ 31 by omega)]
        refine za_aload_n hc dR_append_66 rfl ?_
        refine za_getS hc gfR_15 (by assumption) dR_append_67 ?_
        refine za_iload_n hc dR_append_70 rfl ?_
        refine za_iconst hc 2 dR_append_71 rfl ?_
        refine za_iadd hc dR_append_72 ?_
        refine za_aload_n hc dR_append_73 rfl ?_
        refine za_iload_n hc dR_append_74 rfl ?_
        refine za_cV1l hc gsR_71 (by assumption) (cD_bound_ l _ hd (show i < 36 by omega)) ⟨rfl, rfl⟩ ⟨Nat.le_of_ble_eq_true rfl, Nat.le_of_ble_eq_true rfl⟩ ⟨Nat.zero_le _, Nat.zero_le _⟩ dR_append_75 (fun x_75 M_75 h_75 => ?_)
        obtain ⟨q_75, hm_75⟩ := h_75
        rw [hm_75, q_75, zJ_sI, zJ_sI, kc]
        refine za_l2i hc dR_append_78 ?_
        refine za_iast hc (by assumption) dR_append_79 (by rw [show nI (48 * R.length + 4 * i) + (2 : Int32) = nI (48 * R.length + 4 * i + 2) from nI_add _ 2]; exact vp_in_nI (show 48 * R.length + 4 * i + 2 < 576 by omega) (by decide)) ?_
        rw [show nI (48 * R.length + 4 * i) + (2 : Int32) = nI (48 * R.length + 4 * i + 2) from nI_add _ 2, nI_clamp (show 48 * R.length + 4 * i + 2 < 2 ^ 31 by omega)]
        refine za_aload_n hc dR_append_80 rfl ?_
        refine za_getS hc gfR_15 (by assumption) dR_append_81 ?_
        refine za_iload_n hc dR_append_84 rfl ?_
        refine za_iconst hc 3 dR_append_85 rfl ?_
        refine za_iadd hc dR_append_86 ?_
        refine za_aload_n hc dR_append_87 rfl ?_
        refine za_iload_n hc dR_append_88 rfl ?_
        refine za_cV1i hc gsR_77 (by assumption) (cD_isStrict_ l _ hd (show i < 36 by omega) (by rw [zI_o hne4, zI_o hne4, zI_o hne4, ks]; exact hH.2.2.2 i)) ⟨rfl, rfl⟩ ⟨Nat.le_of_ble_eq_true rfl, Nat.le_of_ble_eq_true rfl⟩ ⟨Nat.zero_le _, Nat.zero_le _⟩ dR_append_89 (fun x_89 M_89 h_89 => ?_)
        obtain ⟨q_89, hm_89⟩ := h_89
        rw [hm_89, q_89, zI_o hne4, zI_o hne4, zI_o hne4, ks]
        refine za_if_eq 99 hc dR_append_92 rfl (fun h_92 => ?_) (fun h_92 => ?_)
        · skip
          refine za_iconst hc 0 dR_append_99 rfl ?_
          refine za_iast hc (by assumption) dR_append_100 (by rw [show nI (48 * R.length + 4 * i) + (3 : Int32) = nI (48 * R.length + 4 * i + 3) from nI_add _ 3]; exact vp_in_nI (show 48 * R.length + 4 * i + 3 < 576 by omega) (by decide)) ?_
          rw [show nI (48 * R.length + 4 * i) + (3 : Int32) = nI (48 * R.length + 4 * i + 3) from nI_add _ 3, nI_clamp (show 48 * R.length + 4 * i + 3 < 2 ^ 31 by omega)]
          refine za_iinc hc _ dR_append_101 rfl ((nI_succ i).symm) (by decide) ?_
          refine za_goto 15 hc dR_append_104 rfl ?_
          refine za_take 3 ?_
          refine ih (i + 1) (zsI (zsI (zsI (zsI M1 (r + 2) (48 * R.length + 4 * i) (zJ M (d + 1) i).toInt32) (r + 2) (48 * R.length + 4 * i + 1) (zJ M (d + 2) i).toInt32) (r + 2) (48 * R.length + 4 * i + 2) (zJ M (d + 3) i).toInt32) (r + 2) (48 * R.length + 4 * i + 3) 0) (by omega) (hf.tr ((zfr_sI ⟨by omega, by omega⟩).tr ((zfr_sI ⟨by omega, by omega⟩).tr ((zfr_sI ⟨by omega, by omega⟩).tr (zfr_sI ⟨by omega, by omega⟩))))) ?_ ?_ ?_ ?_ ?_
          · rw [zI_o (by omega), zI_o (by omega), zI_o (by omega), zI_o (by omega)]; exact h0
          · rw [zI_o (by omega), zI_o (by omega), zI_o (by omega), zI_o (by omega)]; exact hz
          · rw [zI_o (by omega), zI_o (by omega), zI_o (by omega), zI_o (by omega)]; exact hzo
          · intro x hx2
            rw [zI_s, if_neg (by omega), zI_s, if_neg (by omega), zI_s, if_neg (by omega), zI_s, if_neg (by omega)]; exact hx x hx2
          · intro k q hk hkq
            by_cases c : k = i
            · subst c
              rw [hli] at hkq
              rw [← Option.some.inj hkq, ← hdgi]
              unfold rg dg
              have g1 : zI (zsI (zsI (zsI (zsI M1 (r + 2) (48 * R.length + 4 * k) (zJ M (d + 1) k).toInt32) (r + 2) (48 * R.length + 4 * k + 1) (zJ M (d + 2) k).toInt32) (r + 2) (48 * R.length + 4 * k + 2) (zJ M (d + 3) k).toInt32) (r + 2) (48 * R.length + 4 * k + 3) 0) (r + 2) (48 * R.length + 4 * k) = (zJ M (d + 1) k).toInt32 := by rw [zI_s, if_neg (by omega), zI_s, if_neg (by omega), zI_s, if_neg (by omega), zI_s, if_pos rfl]
              have g2 : zI (zsI (zsI (zsI (zsI M1 (r + 2) (48 * R.length + 4 * k) (zJ M (d + 1) k).toInt32) (r + 2) (48 * R.length + 4 * k + 1) (zJ M (d + 2) k).toInt32) (r + 2) (48 * R.length + 4 * k + 2) (zJ M (d + 3) k).toInt32) (r + 2) (48 * R.length + 4 * k + 3) 0) (r + 2) (48 * R.length + 4 * k + 1) = (zJ M (d + 2) k).toInt32 := by rw [zI_s, if_neg (by omega), zI_s, if_neg (by omega), zI_s, if_pos rfl]
              have g3 : zI (zsI (zsI (zsI (zsI M1 (r + 2) (48 * R.length + 4 * k) (zJ M (d + 1) k).toInt32) (r + 2) (48 * R.length + 4 * k + 1) (zJ M (d + 2) k).toInt32) (r + 2) (48 * R.length + 4 * k + 2) (zJ M (d + 3) k).toInt32) (r + 2) (48 * R.length + 4 * k + 3) 0) (r + 2) (48 * R.length + 4 * k + 2) = (zJ M (d + 3) k).toInt32 := by rw [zI_s, if_neg (by omega), zI_s, if_pos rfl]
              have g4 : zI (zsI (zsI (zsI (zsI M1 (r + 2) (48 * R.length + 4 * k) (zJ M (d + 1) k).toInt32) (r + 2) (48 * R.length + 4 * k + 1) (zJ M (d + 2) k).toInt32) (r + 2) (48 * R.length + 4 * k + 2) (zJ M (d + 3) k).toInt32) (r + 2) (48 * R.length + 4 * k + 3) 0) (r + 2) (48 * R.length + 4 * k + 3) = 0 := by rw [zI_s, if_pos rfl]
              rw [g1, g2, g3, g4, l2i_int hlm.1, l2i_int hlm.2.1, l2i_int hlm.2.2, h_92]
            · have hk2 := hq k q (by omega) hkq
              unfold rg at hk2 ⊢
              rw [zI_s, if_neg (by omega), zI_s, if_neg (by omega), zI_s, if_neg (by omega), zI_s, if_neg (by omega)]
              rw [zI_s, if_neg (by omega), zI_s, if_neg (by omega), zI_s, if_neg (by omega), zI_s, if_neg (by omega)]
              rw [zI_s, if_neg (by omega), zI_s, if_neg (by omega), zI_s, if_neg (by omega), zI_s, if_neg (by omega)]
              rw [zI_s, if_neg (by omega), zI_s, if_neg (by omega), zI_s, if_neg (by omega), zI_s, if_neg (by omega)]
              exact hk2
        · skip
          refine za_iconst hc 1 dR_append_95 rfl ?_
          refine za_goto 100 hc dR_append_96 rfl ?_
          refine za_iast hc (by assumption) dR_append_100 (by rw [show nI (48 * R.length + 4 * i) + (3 : Int32) = nI (48 * R.length + 4 * i + 3) from nI_add _ 3]; exact vp_in_nI (show 48 * R.length + 4 * i + 3 < 576 by omega) (by decide)) ?_
          rw [show nI (48 * R.length + 4 * i) + (3 : Int32) = nI (48 * R.length + 4 * i + 3) from nI_add _ 3, nI_clamp (show 48 * R.length + 4 * i + 3 < 2 ^ 31 by omega)]
          refine za_iinc hc _ dR_append_101 rfl ((nI_succ i).symm) (by decide) ?_
          refine za_goto 15 hc dR_append_104 rfl ?_
          refine za_take 3 ?_
          refine ih (i + 1) (zsI (zsI (zsI (zsI M1 (r + 2) (48 * R.length + 4 * i) (zJ M (d + 1) i).toInt32) (r + 2) (48 * R.length + 4 * i + 1) (zJ M (d + 2) i).toInt32) (r + 2) (48 * R.length + 4 * i + 2) (zJ M (d + 3) i).toInt32) (r + 2) (48 * R.length + 4 * i + 3) 1) (by omega) (hf.tr ((zfr_sI ⟨by omega, by omega⟩).tr ((zfr_sI ⟨by omega, by omega⟩).tr ((zfr_sI ⟨by omega, by omega⟩).tr (zfr_sI ⟨by omega, by omega⟩))))) ?_ ?_ ?_ ?_ ?_
          · rw [zI_o (by omega), zI_o (by omega), zI_o (by omega), zI_o (by omega)]; exact h0
          · rw [zI_o (by omega), zI_o (by omega), zI_o (by omega), zI_o (by omega)]; exact hz
          · rw [zI_o (by omega), zI_o (by omega), zI_o (by omega), zI_o (by omega)]; exact hzo
          · intro x hx2
            rw [zI_s, if_neg (by omega), zI_s, if_neg (by omega), zI_s, if_neg (by omega), zI_s, if_neg (by omega)]; exact hx x hx2
          · intro k q hk hkq
            by_cases c : k = i
            · subst c
              rw [hli] at hkq
              rw [← Option.some.inj hkq, ← hdgi]
              unfold rg dg
              have g1 : zI (zsI (zsI (zsI (zsI M1 (r + 2) (48 * R.length + 4 * k) (zJ M (d + 1) k).toInt32) (r + 2) (48 * R.length + 4 * k + 1) (zJ M (d + 2) k).toInt32) (r + 2) (48 * R.length + 4 * k + 2) (zJ M (d + 3) k).toInt32) (r + 2) (48 * R.length + 4 * k + 3) 1) (r + 2) (48 * R.length + 4 * k) = (zJ M (d + 1) k).toInt32 := by rw [zI_s, if_neg (by omega), zI_s, if_neg (by omega), zI_s, if_neg (by omega), zI_s, if_pos rfl]
              have g2 : zI (zsI (zsI (zsI (zsI M1 (r + 2) (48 * R.length + 4 * k) (zJ M (d + 1) k).toInt32) (r + 2) (48 * R.length + 4 * k + 1) (zJ M (d + 2) k).toInt32) (r + 2) (48 * R.length + 4 * k + 2) (zJ M (d + 3) k).toInt32) (r + 2) (48 * R.length + 4 * k + 3) 1) (r + 2) (48 * R.length + 4 * k + 1) = (zJ M (d + 2) k).toInt32 := by rw [zI_s, if_neg (by omega), zI_s, if_neg (by omega), zI_s, if_pos rfl]
              have g3 : zI (zsI (zsI (zsI (zsI M1 (r + 2) (48 * R.length + 4 * k) (zJ M (d + 1) k).toInt32) (r + 2) (48 * R.length + 4 * k + 1) (zJ M (d + 2) k).toInt32) (r + 2) (48 * R.length + 4 * k + 2) (zJ M (d + 3) k).toInt32) (r + 2) (48 * R.length + 4 * k + 3) 1) (r + 2) (48 * R.length + 4 * k + 2) = (zJ M (d + 3) k).toInt32 := by rw [zI_s, if_neg (by omega), zI_s, if_pos rfl]
              have g4 : zI (zsI (zsI (zsI (zsI M1 (r + 2) (48 * R.length + 4 * k) (zJ M (d + 1) k).toInt32) (r + 2) (48 * R.length + 4 * k + 1) (zJ M (d + 2) k).toInt32) (r + 2) (48 * R.length + 4 * k + 2) (zJ M (d + 3) k).toInt32) (r + 2) (48 * R.length + 4 * k + 3) 1) (r + 2) (48 * R.length + 4 * k + 3) = 1 := by rw [zI_s, if_pos rfl]
              rw [g1, g2, g3, g4, l2i_int hlm.1, l2i_int hlm.2.1, l2i_int hlm.2.2, (hH.2.2.2 k).resolve_left h_92]
            · have hk2 := hq k q (by omega) hkq
              unfold rg at hk2 ⊢
              rw [zI_s, if_neg (by omega), zI_s, if_neg (by omega), zI_s, if_neg (by omega), zI_s, if_neg (by omega)]
              rw [zI_s, if_neg (by omega), zI_s, if_neg (by omega), zI_s, if_neg (by omega), zI_s, if_neg (by omega)]
              rw [zI_s, if_neg (by omega), zI_s, if_neg (by omega), zI_s, if_neg (by omega), zI_s, if_neg (by omega)]
              rw [zI_s, if_neg (by omega), zI_s, if_neg (by omega), zI_s, if_neg (by omega), zI_s, if_neg (by omega)]
              exact hk2
  refine za_aload_n hc dR_append_0 rfl ?_
  refine za_getS hc gfR_11 (by assumption) dR_append_1 ?_
  refine za_aload_n hc dR_append_4 rfl ?_
  refine za_getI hc gfR_18 (by assumption) dR_append_5 ?_
  refine za_aload_n hc dR_append_8 rfl ?_
  rw [hR.1]
  refine za_cV0i hc gsR_52 (by assumption) (cD_memberCount_ l M hd) ⟨rfl, rfl⟩ ⟨Nat.le_of_ble_eq_true rfl, Nat.le_of_ble_eq_true rfl⟩ ⟨Nat.zero_le _, Nat.zero_le _⟩ dR_append_9 (fun x_9 M_9 h_9 => ?_)
  obtain ⟨q_9, hm_9⟩ := h_9
  rw [hm_9, q_9, hH.1]
  refine za_iast hc (by assumption) dR_append_12 (vp_in_nI (show R.length < 12 by omega) (by decide)) ?_
  rw [nI_clamp (show R.length < 2 ^ 31 by omega)]
  refine za_iconst hc 0 dR_append_13 rfl ?_
  refine za_istore_n hc dR_append_14 (by decide) ?_
  refine loop ls.length 0 _ (by omega) (zfr_sI ⟨by omega, by omega⟩) (zI_o (by omega)) (by rw [zI_s, if_pos rfl]) (fun k hk => by rw [zI_s, if_neg hk]) (fun x _ => by rw [zI_o (by omega)]) (fun k q hk => absurd hk (Nat.not_lt_zero _))
