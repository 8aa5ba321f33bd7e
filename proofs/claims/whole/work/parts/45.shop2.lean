/-! The workshop: PARTS, NOT. -/
theorem gflip_lim {m : gC} (h : gLim m) : gLim (gflip m) := by
  unfold gflip gLim; simp only [Int.natAbs_neg]; exact h
noncomputable def gcut (row : List gC) : Nat → List (List gC)
  | 0 => []
  | i + 1 => match row[i]? with
    | some m => (gadd (gcut row i) ((row.take i).foldl gput (gput [] (gflip m)))).getD (gcut row i)
    | none => gcut row i
theorem gadd_len {R R' : List (List gC)} {ls : List gC} (h : gadd R ls = some R') : R'.length ≤ R.length + 1 := by
  unfold gadd at h
  split at h
  · rw [← Option.some.inj h]; omega
  · split at h
    · cases h
    · split at h
      · rw [← Option.some.inj h]; omega
      · split at h
        · cases h
        · rw [← Option.some.inj h, List.length_append]; simp
theorem gadd_some {R : List (List gC)} {ls : List gC} (hR : R.length < 12) (hl : ls.length ≤ 12) (hq : ∀ q ∈ ls, gLim q) : ∃ R', gadd R ls = some R' := by
  obtain ⟨h1, h2⟩ := gthin_sub ls []
  have hg : glim (gthin [] ls) = true := glim_iff.mpr ⟨fun q h => hq q (by simpa using h1 q h), by simp only [List.nil_append] at h2; omega⟩
  unfold gadd
  split
  · exact ⟨_, rfl⟩
  · rw [if_neg (by rw [hg]; decide)]
    split
    · exact ⟨_, rfl⟩
    · rw [if_neg (by omega)]; exact ⟨_, rfl⟩
theorem gcut_len (row : List gC) : ∀ i, (gcut row i).length ≤ i := by
  intro i
  induction i with
  | zero => exact Nat.le_refl _
  | succ i ih =>
    unfold gcut
    split
    · rename_i m _
      cases h : gadd (gcut row i) ((row.take i).foldl gput (gput [] (gflip m))) with
      | none => simp only [Option.getD]; omega
      | some a => have := gadd_len h; simp only [Option.getD]; omega
    · omega
noncomputable def gnot1 : List (List gC) → List (List gC) → Option (List (List gC))
  | acc, [] => some acc
  | acc, row :: t => match gAnd acc (gcut row row.length) with
    | some a => gnot1 a t
    | none => none
noncomputable def gNot (P : List (List gC)) : Option (List (List gC)) := gnot1 [[]] P
theorem gSat_nil : gSat [] := ⟨0, 0, fun q h => by cases h⟩
theorem gadd_nil : gadd [] [] = some [[]] := by
  unfold gadd
  rw [if_neg (by rw [gsb_iff.mpr gSat_nil]; decide), if_neg (by decide), if_neg (by decide), if_neg (by decide)]
  rfl

set_option maxRecDepth 100000 in
set_option maxHeartbeats 4000000 in
theorem cW_setAside_ (l : Launch) (M : zM) : zMet l mW_setAside rW_setAside [.ref 12] M (zqr (fun x M' => x = zR M 12 2 ∧ M' = zsR (zsR M 12 3 (zR M 12 2)) 12 2 (zR M 12 3))) := by
  refine za_enter (by decide) (Nat.le_of_ble_eq_true rfl) (fun X hc => ?_)
  have hw := zob_12
  refine za_aload_n hc dW_setAside_0 rfl ?_
  refine za_getR hc gfW_26 (by assumption) dW_setAside_1 ?_
  refine za_astore_n hc dW_setAside_4 (by decide) ?_
  refine za_aload_n hc dW_setAside_5 rfl ?_
  refine za_aload_n hc dW_setAside_6 rfl ?_
  refine za_getR hc gfW_23 (by assumption) dW_setAside_7 ?_
  refine za_putR hc gpW_26 (by assumption) dW_setAside_10 ?_
  refine za_aload_n hc dW_setAside_13 rfl ?_
  refine za_aload_n hc dW_setAside_14 rfl ?_
  refine za_putR hc gpW_23 (by assumption) dW_setAside_15 ?_
  refine za_aload_n hc dW_setAside_18 rfl ?_
  refine za_getR hc gfW_26 (by assumption) dW_setAside_19 ?_
  exact za_aret hc rfl dW_setAside_22 ⟨Nat.zero_le _, Nat.zero_le _⟩ (⟨_, rfl, by rw [zR_sR, if_pos rfl, if_neg (by decide), zR_sR, if_pos rfl, if_pos rfl], rfl⟩)

set_option maxRecDepth 100000 in
set_option maxHeartbeats 4000000 in
theorem cW_cut_ (l : Launch) {p j : Nat} {P : List (List gC)} {row : List gC} (M : zM) (hI : wI M) (hp : zrg p) (hpn : p ≠ 22) (hP : rH M p P) (hrow : P[j]? = some row) : zMet l mW_cut rW_cut [.ref 12, .ref p, .int (nI j)] M (zqv (fun M' => rH M' 22 (gcut row row.length) ∧ wI M' ∧ zR M' 12 = zR M 12 ∧ zfr (wR 22) M M')) := by
  refine za_enter (by decide) (Nat.le_of_ble_eq_true rfl) (fun X hc => ?_)
  have hw := zob_12
  have hd := zdr_13
  have hdo := hd.o
  have hs := zrg_22
  have hso := hs.o
  have hno : zob (12 + 1) 0 := hd.o
  have hpo2 : zob (12 + 10) 2 := zrg_22.o
  have hpo := hp.o
  have hpl := hP.2.1
  have hj12 : j < 12 := by have := (List.getElem?_eq_some_iff.mp hrow).1; omega
  obtain ⟨a1, a2, a3, a4⟩ := hP.2.2 j row hrow
  have loop : ∀ n i (M1 : zM), n + i = row.length → rH M1 22 (gcut row i) → zbo M1 13 → sB M1 18 → zfr (wR 22) M M1 → zW X (zqv (fun M' => rH M' 22 (gcut row row.length) ∧ wI M' ∧ zR M' 12 = zR M 12 ∧ zfr (wR 22) M M')) (0, 0) 9 [(0, .ref 12), (1, .ref p), (2, .int (nI j)), (3, .int (nI i))] [] M1 := by
    intro n
    induction n with
    | zero =>
      intro i M1 hn hR1 hb1 hs1 hf
      obtain rfl : i = row.length := by omega
      have e12 : zR M1 12 = zR M 12 := (hf _ (wR_12 hs)).2.2
      have hP1 : rH M1 p P := rH_kept hP hf (wR_rg hs hp hpn (b := 0) (by decide)) (wR_rg hs hp hpn (by decide)) (wR_rg hs hp hpn (by decide))
      refine za_iload_n hc dW_cut_9 rfl ?_
      refine za_aload_n hc dW_cut_10 rfl ?_
      refine za_iload_n hc dW_cut_11 rfl ?_
      refine za_cV1i hc gsW_37 (by assumption) (cR_memberCount_ l M1 hp hj12) ⟨rfl, rfl⟩ ⟨Nat.le_of_ble_eq_true rfl, Nat.le_of_ble_eq_true rfl⟩ ⟨Nat.zero_le _, Nat.zero_le _⟩ dW_cut_12 (fun x_12 M_12 h_12 => ?_)
      obtain ⟨q_12, hm_12⟩ := h_12
      rw [hm_12, q_12, (hP1.2.2 j row hrow).2.1]
      refine za_icmp_ge 63 hc dW_cut_15 rfl (fun h_15 => ?_) (fun h_15 => ?_)
      · skip
        exact za_vret hc rfl dW_cut_63 ⟨Nat.zero_le _, Nat.zero_le _⟩ (⟨rfl, hR1, wI_kept hI hf (wR_12 hs) hb1 hs1, e12, hf⟩)
      · skip
        exact absurd (Int32.le_refl _) h_15
    | succ n ih =>
      intro i M1 hn hR1 hb1 hs1 hf
      have hi : i < row.length := by omega
      have hri := List.getElem?_eq_getElem (l := row) hi
      generalize hme : row[i] = m at hri
      have e12 : zR M1 12 = zR M 12 := (hf _ (wR_12 hs)).2.2
      have hP1 : rH M1 p P := rH_kept hP hf (wR_rg hs hp hpn (b := 0) (by decide)) (wR_rg hs hp hpn (by decide)) (wR_rg hs hp hpn (by decide))
      have hlm : gLim m := a4 m (List.mem_of_getElem? hri)
      have hH2 := dH_clear (d := 13) hb1
      have hf2 : zfr (wR 22) M (zsI M1 13 5 0) := hf.tr (zfr_sI (Or.inl ⟨by decide, by decide⟩))
      have hl1 := gput_len [] (gflip m)
      have hl2 := g_put_len (gput [] (gflip m)) (row.take i)
      simp only [List.length_nil] at hl1
      rw [List.length_take, Nat.min_eq_left (by omega)] at hl2
      have hlims : ∀ k ∈ (row.take i).foldl gput (gput [] (gflip m)), gLim k := gputs_lim (gput_lim (fun k hk => by cases hk) (gflip_lim hlm)) (fun k hk => a4 k (List.mem_of_mem_take hk))
      obtain ⟨R2, hR2⟩ := gadd_some (R := gcut row i) (by have := gcut_len row i; omega) (show ((row.take i).foldl gput (gput [] (gflip m))).length ≤ 12 by omega) hlims
      refine za_iload_n hc dW_cut_9 rfl ?_
      refine za_aload_n hc dW_cut_10 rfl ?_
      refine za_iload_n hc dW_cut_11 rfl ?_
      refine za_cV1i hc gsW_37 (by assumption) (cR_memberCount_ l M1 hp hj12) ⟨rfl, rfl⟩ ⟨Nat.le_of_ble_eq_true rfl, Nat.le_of_ble_eq_true rfl⟩ ⟨Nat.zero_le _, Nat.zero_le _⟩ dW_cut_12 (fun x_12 M_12 h_12 => ?_)
      obtain ⟨q_12, hm_12⟩ := h_12
      rw [hm_12, q_12, (hP1.2.2 j row hrow).2.1]
      refine za_icmp_ge 63 hc dW_cut_15 rfl (fun h_15 => ?_) (fun h_15 => ?_)
      · skip
        exact absurd ((nI_leI (by omega) (by omega)).mp h_15) (by omega)
      · skip
        refine za_aload_n hc dW_cut_18 rfl ?_
        refine za_getS hc gfW_10 (by assumption) dW_cut_19 ?_
        refine za_cV0v hc gsW_36 (by assumption) (cD_clear_ l M1 hd) ⟨rfl, rfl⟩ ⟨Nat.le_of_ble_eq_true rfl, Nat.le_of_ble_eq_true rfl⟩ ⟨Nat.zero_le _, Nat.zero_le _⟩ dW_cut_22 (fun M_22 h_22 => ?_)
        subst h_22
        have hP2 : rH (zsI M1 13 5 0) p P := rH_kept hP hf2 (wR_rg hs hp hpn (b := 0) (by decide)) (wR_rg hs hp hpn (by decide)) (wR_rg hs hp hpn (by decide))
        refine za_aload_n hc dW_cut_25 rfl ?_
        refine za_iload_n hc dW_cut_26 rfl ?_
        refine za_iload_n hc dW_cut_27 rfl ?_
        refine za_aload_n hc dW_cut_28 rfl ?_
        refine za_getS hc gfW_10 (by assumption) dW_cut_29 ?_
        refine za_cV3v hc gsW_65 (by assumption) (cR_pourContrary_ l (zsI M1 13 5 0) hp hd hP2 hrow hri hH2 (by decide)) ⟨rfl, rfl⟩ ⟨Nat.le_of_ble_eq_true rfl, Nat.le_of_ble_eq_true rfl⟩ ⟨Nat.zero_le _, Nat.zero_le _⟩ dW_cut_32 (fun M_32 h_32 => ?_)
        obtain ⟨g1, g2⟩ := h_32
        have hf3 : zfr (wR 22) M M_32 := hf2.tr (g2.wk (fun k z => Or.inl (dB_F z)))
        have hP3 : rH M_32 p P := rH_kept hP hf3 (wR_rg hs hp hpn (b := 0) (by decide)) (wR_rg hs hp hpn (by decide)) (wR_rg hs hp hpn (by decide))
        refine za_aload_n hc dW_cut_35 rfl ?_
        refine za_iload_n hc dW_cut_36 rfl ?_
        refine za_iload_n hc dW_cut_37 rfl ?_
        refine za_aload_n hc dW_cut_38 rfl ?_
        refine za_getS hc gfW_10 (by assumption) dW_cut_39 ?_
        refine za_cV3v hc gsW_41 (by assumption) (cR_pour_ l M_32 hp hd hP3 hrow (show i ≤ row.length by omega) g1 (by omega)) ⟨rfl, rfl⟩ ⟨Nat.le_of_ble_eq_true rfl, Nat.le_of_ble_eq_true rfl⟩ ⟨Nat.zero_le _, Nat.zero_le _⟩ dW_cut_42 (fun M_42 h_42 => ?_)
        obtain ⟨g3, g4⟩ := h_42
        have hf4 : zfr (wR 22) M M_42 := hf3.tr (g4.wk (fun k z => Or.inl (dB_F z)))
        have hfd : zfr (dF 13) M1 M_42 := (zfr_sI ⟨by decide, by decide⟩).tr ((g2.wk (fun k => dB_F)).tr (g4.wk (fun k => dB_F)))
        have hfB : zfr (dB 13) M1 M_42 := (zfr_sI ⟨by decide, by decide⟩).tr (g2.tr g4)
        have hR4 : rH M_42 22 (gcut row i) := rH_kept hR1 hfd (dF_rg hd hs (b := 0) (by decide)) (dF_rg hd hs (b := 1) (by decide)) (dF_rg hd hs (b := 2) (by decide))
        have hs4 : sB M_42 18 := sB_kept hs1 hfB (fun z => by have := z.2; omega) (fun z => by have := z.2; omega) (fun z => by have := z.2; omega)
        refine za_aload_n hc dW_cut_45 rfl ?_
        refine za_getS hc gfW_19 (by assumption) dW_cut_46 ?_
        refine za_aload_n hc dW_cut_49 rfl ?_
        refine za_getS hc gfW_10 (by assumption) dW_cut_50 ?_
        refine za_cV1i hc gsW_45 (by assumption) (cR_admit_ l M_42 hs hd hR4 g3 hs4 (Or.inl hlims)) ⟨rfl, rfl⟩ ⟨Nat.le_of_ble_eq_true rfl, Nat.le_of_ble_eq_true rfl⟩ ⟨Nat.zero_le _, Nat.zero_le _⟩ dW_cut_53 (fun x_53 M_53 h_53 => ?_)
        obtain ⟨v1, v2, v3, v4⟩ := h_53
        rw [hR2] at v1
        have hf5 : zfr (wR 22) M M_53 := hf4.tr v4
        refine za_pop hc dW_cut_56 rfl ?_
        refine za_iinc hc _ dW_cut_57 rfl ((nI_succ i).symm) (by decide) ?_
        refine za_goto 9 hc dW_cut_60 rfl ?_
        refine ih (i + 1) M_53 (by omega) ?_ v2 v3 hf5
        have e : gcut row (i + 1) = R2 := by unfold gcut; rw [hri]; simp only; rw [hR2]; rfl
        rw [e]; exact v1.2
  refine za_aload_n hc dW_cut_0 rfl ?_
  refine za_getS hc gfW_19 (by assumption) dW_cut_1 ?_
  refine za_cV0v hc gsW_29 (by assumption) (cR_clear_ l M hs) ⟨rfl, rfl⟩ ⟨Nat.le_of_ble_eq_true rfl, Nat.le_of_ble_eq_true rfl⟩ ⟨Nat.zero_le _, Nat.zero_le _⟩ dW_cut_4 (fun M_4 h_4 => ?_)
  subst h_4
  refine za_iconst hc 0 dW_cut_7 rfl ?_
  refine za_istore_n hc dW_cut_8 (by decide) ?_
  exact loop row.length 0 _ (by omega) rH_clear (zfr_bo (zfr_sI (P := rF 22) ⟨Nat.le_refl _, by omega⟩) (rF_dr hd hs (a := 4) (by decide)) hI.2.1) (sB_kept hI.2.2 (zfr_sI (P := rF 22) ⟨Nat.le_refl _, by omega⟩) (rF_dr hd hs (a := 6) (by decide)) (rF_dr hd hs (a := 7) (by decide)) (rF_dr hd hs (a := 8) (by decide))) (zfr_sI (Or.inr ⟨Nat.le_refl _, by omega⟩))

def wF : Nat → Prop := fun k => 12 ≤ k ∧ k ≤ 30
theorem wR_F {s k : Nat} (hs : 22 ≤ s ∧ s ≤ 28) (h : wR s k) : wF k := h.elim (fun z => ⟨by have := z.1; omega, by have := z.2; omega⟩) (fun z => ⟨by have := z.1; omega, by have := z.2; omega⟩)
theorem wI_rng {M : zM} (h : wI M) : 22 ≤ zR M 12 2 ∧ zR M 12 2 ≤ 28 := by rcases h.1 with h | h <;> rw [h.1] <;> decide
theorem wF_rg {r : Nat} (h : 30 < r) {b : Nat} : ¬ wF (r + b) := fun z => by have := z.2; omega

set_option maxRecDepth 100000 in
set_option maxHeartbeats 4000000 in
theorem cW_complement_ (l : Launch) {p : Nat} {P : List (List gC)} (M : zM) (hI : wI M) (hp : zrg p) (hp30 : 30 < p) (hP : rH M p P) : zMet l mW_complement rW_complement [.ref 12, .ref p] M (zqi (fun x M' => (match gNot P with | some R => x = 1 ∧ rH M' (zR M' 12 2) R | none => x = 0) ∧ wI M' ∧ zfr wF M M')) := by
  refine za_enter (by decide) (Nat.le_of_ble_eq_true rfl) (fun X hc => ?_)
  have hw := zob_12
  have hd := zdr_13
  have hdo := hd.o
  have hno : zob (12 + 1) 0 := hd.o
  have hpo2 : zob (12 + 10) 2 := zrg_22.o
  have hpo := hp.o
  have hpl := hP.2.1
  have loop : ∀ (t : List (List gC)) (i : Nat) (acc : List (List gC)) (M1 : zM), P.drop i = t → i + t.length = P.length → gnot1 acc t = gNot P → wI M1 → rH M1 (zR M1 12 2) acc → zfr wF M M1 → zW X (zqi (fun x M' => (match gNot P with | some R => x = 1 ∧ rH M' (zR M' 12 2) R | none => x = 0) ∧ wI M' ∧ zfr wF M M')) (0, 0) 28 [(0, .ref 12), (1, .ref p), (2, .int (nI i))] [] M1 := by
    intro t
    induction t with
    | nil =>
      intro i acc M1 hdr hn hg hI1 hR1 hf
      simp only [List.length_nil] at hn
      have hP1 : rH M1 p P := rH_kept hP hf (wF_rg hp30 (b := 0)) (wF_rg hp30) (wF_rg hp30)
      refine za_iload_n hc dW_complement_28 rfl ?_
      refine za_aload_n hc dW_complement_29 rfl ?_
      refine za_cV0i hc gsW_32 (by assumption) (cR_rowCount_ l M1 hp) ⟨rfl, rfl⟩ ⟨Nat.le_of_ble_eq_true rfl, Nat.le_of_ble_eq_true rfl⟩ ⟨Nat.zero_le _, Nat.zero_le _⟩ dW_complement_30 (fun x_30 M_30 h_30 => ?_)
      obtain ⟨q_30, hm_30⟩ := h_30
      rw [hm_30, q_30, hP1.1]
      refine za_icmp_ge 65 hc dW_complement_33 rfl (fun h_33 => ?_) (fun h_33 => ?_)
      · skip
        refine za_iconst hc 1 dW_complement_65 rfl ?_
        exact za_zret hc rfl (rfl) dW_complement_66 ⟨Nat.zero_le _, Nat.zero_le _⟩ (⟨1, rfl, by rw [← hg]; exact ⟨rfl, hR1⟩, hI1, hf⟩)
      · skip
        exact absurd ((nI_leI (by omega) (by omega)).mpr (show P.length ≤ i by omega)) h_33
    | cons row t ih =>
      intro i acc M1 hdr hn hg hI1 hR1 hf
      simp only [List.length_cons] at hn
      have hpi : P[i]? = some row := by rw [← List.head?_drop, hdr]; rfl
      have hdr2 : P.drop (i + 1) = t := by rw [← List.drop_drop, hdr]; rfl
      have hg : (match gAnd acc (gcut row row.length) with | some a => gnot1 a t | none => none) = gNot P := hg
      have hP1 : rH M1 p P := rH_kept hP hf (wF_rg hp30 (b := 0)) (wF_rg hp30) (wF_rg hp30)
      refine za_iload_n hc dW_complement_28 rfl ?_
      refine za_aload_n hc dW_complement_29 rfl ?_
      refine za_cV0i hc gsW_32 (by assumption) (cR_rowCount_ l M1 hp) ⟨rfl, rfl⟩ ⟨Nat.le_of_ble_eq_true rfl, Nat.le_of_ble_eq_true rfl⟩ ⟨Nat.zero_le _, Nat.zero_le _⟩ dW_complement_30 (fun x_30 M_30 h_30 => ?_)
      obtain ⟨q_30, hm_30⟩ := h_30
      rw [hm_30, q_30, hP1.1]
      refine za_icmp_ge 65 hc dW_complement_33 rfl (fun h_33 => ?_) (fun h_33 => ?_)
      · skip
        exact absurd ((nI_leI (by omega) (by omega)).mp h_33) (by omega)
      · skip
        refine za_aload_n hc dW_complement_36 rfl ?_
        refine za_aload_n hc dW_complement_37 rfl ?_
        refine za_iload_n hc dW_complement_38 rfl ?_
        refine za_cV2v hc gsW_53 (by assumption) (cW_cut_ l M1 hI1 hp (by omega) hP1 hpi) ⟨rfl, rfl⟩ ⟨Nat.le_of_ble_eq_true rfl, Nat.le_of_ble_eq_true rfl⟩ ⟨Nat.zero_le _, Nat.zero_le _⟩ dW_complement_39 (fun M_39 h_39 => ?_)
        obtain ⟨c1, c2, c3, c4⟩ := h_39
        have hne : zR M1 12 2 ≠ 22 := by rcases hI1.1 with h | h <;> rw [h.1] <;> decide
        have hR2 : rH M_39 (zR M1 12 2) acc := rH_kept hR1 c4 (wR_rg zrg_22 (wI_res hI1) hne (b := 0) (by decide)) (wR_rg zrg_22 (wI_res hI1) hne (by decide)) (wR_rg zrg_22 (wI_res hI1) hne (by decide))
        have hf2 : zfr wF M M_39 := hf.tr (c4.wk (fun k => wR_F (by decide)))
        refine za_aload_n hc dW_complement_42 rfl ?_
        refine za_aload_n hc dW_complement_43 rfl ?_
        refine za_cV0r hc gsW_57 (by assumption) (cW_setAside_ l M_39) ⟨rfl, rfl⟩ ⟨Nat.le_of_ble_eq_true rfl, Nat.le_of_ble_eq_true rfl⟩ ⟨Nat.zero_le _, Nat.zero_le _⟩ dW_complement_44 (fun x_44 M_44 h_44 => ?_)
        obtain ⟨q_44, hm_44⟩ := h_44
        rw [q_44, c3]
        have hr2 : zR M_44 12 2 = zR M1 12 3 := by rw [hm_44, zR_sR, if_pos rfl, if_pos rfl, c3]
        have hr3 : zR M_44 12 3 = zR M1 12 2 := by rw [hm_44, zR_sR, if_pos rfl, if_neg (by decide), zR_sR, if_pos rfl, if_pos rfl, c3]
        have eI : zI M_44 = zI M_39 := by rw [hm_44]; rfl
        have eJ : zJ M_44 = zJ M_39 := by rw [hm_44]; rfl
        have hI3 : wI M_44 := ⟨by rw [hr2, hr3]; rcases hI1.1 with h | h; exact Or.inr ⟨h.2, h.1⟩; exact Or.inl ⟨h.2, h.1⟩, by unfold zbo; rw [eI]; exact c2.2.1, by unfold sB; rw [eI, eJ]; exact c2.2.2⟩
        have rHe : ∀ s R, rH M_39 s R → rH M_44 s R := fun s R h => by unfold rH rg; rw [eI]; exact h
        have hs1 := wI_res hI1
        have hs1o := hs1.o
        have hf3 : zfr wF M M_44 := hf2.tr (by rw [hm_44]; exact (zfr_sR ⟨by decide, by decide⟩).tr (zfr_sR ⟨by decide, by decide⟩))
        refine za_aload_n hc dW_complement_47 rfl ?_
        refine za_getS hc gfW_19 (by assumption) dW_complement_48 ?_
        refine za_cV2i hc gsW_61 (by assumption) (cW_intersect_ l M_44 hI3 (wI_res hI1) zrg_22 (by rw [hr2]; rcases hI1.1 with h | h <;> rw [h.1, h.2] <;> decide) (by rw [hr2]; rcases hI1.1 with h | h <;> rw [h.2] <;> decide) (rHe _ _ hR2) (rHe _ _ c1)) ⟨rfl, rfl⟩ ⟨Nat.le_of_ble_eq_true rfl, Nat.le_of_ble_eq_true rfl⟩ ⟨Nat.zero_le _, Nat.zero_le _⟩ dW_complement_51 (fun x_51 M_51 h_51 => ?_)
        obtain ⟨d1, d2, d3, d4⟩ := h_51
        have hf4 : zfr wF M M_51 := hf3.tr (d4.wk (fun k => wR_F (wI_rng hI3)))
        rw [← d3] at d1
        refine za_if_ne 59 hc dW_complement_54 rfl (fun h_54 => ?_) (fun h_54 => ?_)
        · skip
          refine za_iinc hc _ dW_complement_59 rfl ((nI_succ i).symm) (by decide) ?_
          refine za_goto 28 hc dW_complement_62 rfl ?_
          cases hga : gAnd acc (gcut row row.length) with
          | none => rw [hga] at d1; exact absurd d1 h_54
          | some a =>
            rw [hga] at d1 hg
            exact ih (i + 1) a M_51 hdr2 (by omega) hg d2 d1.2 hf4
        · skip
          refine za_iconst hc 0 dW_complement_57 rfl ?_
          exact za_zret hc rfl (rfl) dW_complement_58 ⟨Nat.zero_le _, Nat.zero_le _⟩ (⟨0, rfl, by
          cases hga : gAnd acc (gcut row row.length) with
          | none => rw [hga] at hg; rw [← hg]
          | some a => rw [hga] at d1; rw [h_54] at d1; exact absurd d1.1 (by decide), d2, hf4⟩)
  have hs := wI_res hI
  have hso := hs.o
  have hrs : zfr (rF (zR M 12 2)) M (zsI M (zR M 12 2) 2 0) := zfr_sI ⟨Nat.le_refl _, by omega⟩
  have hb2 : zbo (zsI M (zR M 12 2) 2 0) 13 := zfr_bo hrs (rF_dr hd hs (a := 4) (by decide)) hI.2.1
  have hs2 : sB (zsI M (zR M 12 2) 2 0) 18 := sB_kept hI.2.2 hrs (rF_dr hd hs (a := 6) (by decide)) (rF_dr hd hs (a := 7) (by decide)) (rF_dr hd hs (a := 8) (by decide))
  have hcl : zfr (fun k => k = 13) (zsI M (zR M 12 2) 2 0) (zsI (zsI M (zR M 12 2) 2 0) 13 5 0) := zfr_sI rfl
  refine za_aload_n hc dW_complement_0 rfl ?_
  refine za_getR hc gfW_23 (by assumption) dW_complement_1 ?_
  refine za_cV0v hc gsW_29 (by assumption) (cR_clear_ l M hs) ⟨rfl, rfl⟩ ⟨Nat.le_of_ble_eq_true rfl, Nat.le_of_ble_eq_true rfl⟩ ⟨Nat.zero_le _, Nat.zero_le _⟩ dW_complement_4 (fun M_4 h_4 => ?_)
  subst h_4
  refine za_aload_n hc dW_complement_7 rfl ?_
  refine za_getS hc gfW_10 (by assumption) dW_complement_8 ?_
  refine za_cV0v hc gsW_36 (by assumption) (cD_clear_ l _ hd) ⟨rfl, rfl⟩ ⟨Nat.le_of_ble_eq_true rfl, Nat.le_of_ble_eq_true rfl⟩ ⟨Nat.zero_le _, Nat.zero_le _⟩ dW_complement_11 (fun M_11 h_11 => ?_)
  subst h_11
  have hR2 : rH (zsI (zsI M (zR M 12 2) 2 0) 13 5 0) (zR M 12 2) [] := rH_kept rH_clear hcl (fun z => zdr_rg hd hs (a := 0) (b := 0) (by decide) (by decide) z.symm) (fun z => zdr_rg hd hs (a := 0) (b := 1) (by decide) (by decide) z.symm) (fun z => zdr_rg hd hs (a := 0) (b := 2) (by decide) (by decide) z.symm)
  refine za_aload_n hc dW_complement_14 rfl ?_
  refine za_getR hc gfW_23 (by assumption) dW_complement_15 ?_
  refine za_aload_n hc dW_complement_18 rfl ?_
  refine za_getS hc gfW_10 (by assumption) dW_complement_19 ?_
  refine za_cV1i hc gsW_45 (by assumption) (cR_admit_ l _ hs hd hR2 (dH_clear hb2) (sB_kept hs2 hcl (by decide) (by decide) (by decide)) (Or.inl (fun k hk => by cases hk))) ⟨rfl, rfl⟩ ⟨Nat.le_of_ble_eq_true rfl, Nat.le_of_ble_eq_true rfl⟩ ⟨Nat.zero_le _, Nat.zero_le _⟩ dW_complement_22 (fun x_22 M_22 h_22 => ?_)
  obtain ⟨v1, v2, v3, v4⟩ := h_22
  rw [gadd_nil] at v1
  refine za_pop hc dW_complement_25 rfl ?_
  refine za_iconst hc 0 dW_complement_26 rfl ?_
  refine za_istore_n hc dW_complement_27 (by decide) ?_
  have hfw : zfr (wR (zR M 12 2)) M M_22 := (hrs.wk (fun k => Or.inr)).tr ((hcl.wk (fun k z => by subst z; exact Or.inl ⟨by decide, by decide⟩)).tr v4)
  have e12 := (hfw _ (wR_12 hs)).2.2
  exact loop P 0 [[]] M_22 rfl (by omega) rfl (wI_kept hI hfw (wR_12 hs) v2 v3) (by rw [e12]; exact v1.2) (hfw.wk (fun k => wR_F (wI_rng hI)))
