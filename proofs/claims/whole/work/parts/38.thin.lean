/-! What the others imply goes; the limits. -/
noncomputable def gsb (l : List gC) : Bool := @decide (gSat l) (Classical.propDecidable _)
theorem gsb_iff {l : List gC} : gsb l = true ↔ gSat l := by unfold gsb; exact @decide_eq_true_iff (gSat l) (Classical.propDecidable _)
noncomputable def gthin : List gC → List gC → List gC
  | dn, [] => dn
  | dn, m :: t => if gsb (dn ++ gflip m :: t) = true then gthin (dn ++ [m]) t else gthin dn t
theorem gflip_2 (m : gC) : gflip (gflip m) = m := by
  obtain ⟨a, b, c, s⟩ := m
  show (- -a, - -b, - -c, !(!s)) = _
  rw [Int.neg_neg, Int.neg_neg, Int.neg_neg, Bool.not_not]
theorem gOK_sub {l l' : List gC} (h : gOK l) (hs : ∀ q ∈ l', ∃ k ∈ l, (q = k ∨ q = gflip k)) : gOK l' := by
  have key : ∀ (a b c : Nat), (∀ q ∈ l, q.1.natAbs ≤ a ∧ q.2.1.natAbs ≤ b ∧ q.2.2.1.natAbs ≤ c) → ∀ q ∈ l', q.1.natAbs ≤ a ∧ q.2.1.natAbs ≤ b ∧ q.2.2.1.natAbs ≤ c := by
    intro a b c h q hq
    obtain ⟨k, hk, e⟩ := hs q hq
    have h1 := h k hk
    rcases e with rfl | rfl
    · exact h1
    · unfold gflip; simp only [Int.natAbs_neg]; exact h1
  rcases h with h | h | h
  · exact Or.inl (key _ _ _ h)
  · refine Or.inr (Or.inl (fun q hq => ?_))
    have := key 200000000 0 200000000 (fun q hq => ⟨(h q hq).1, by rw [(h q hq).2.1]; decide, (h q hq).2.2⟩) q hq
    omega
  · refine Or.inr (Or.inr (fun q hq => ?_))
    have := key 0 200000000 200000000 (fun q hq => ⟨by rw [(h q hq).1]; decide, (h q hq).2.1, (h q hq).2.2⟩) q hq
    omega
theorem dH_set {M M' : zM} {d j : Nat} {ls : List gC} {x : gC} (h : dH M d ls) (hj : j < ls.length) (g1 : ∀ i, dg M' d i = if i = j then x else dg M d i) (g2 : zbo M' d) (g3 : zI M' d = zI M d) : dH M' d (ls.set j x) :=
  ⟨by rw [g3, List.length_set]; exact h.1, by rw [List.length_set]; exact h.2.1, fun i q hq => by
    rw [g1]
    by_cases c : i = j
    · subst c
      rw [List.getElem?_set_self hj] at hq
      rw [if_pos rfl]; exact Option.some.inj hq
    · rw [List.getElem?_set_ne (Ne.symm c)] at hq
      rw [if_neg c]; exact h.2.2.1 i q hq, g2⟩
theorem g_set (dn t : List gC) (m x : gC) : (dn ++ m :: t).set dn.length x = dn ++ x :: t := by simp
theorem g_erase (dn t : List gC) (m : gC) : (dn ++ m :: t).eraseIdx dn.length = dn ++ t := by simp [List.eraseIdx_append]
theorem gthin_sub : ∀ (t dn : List gC), (∀ q ∈ gthin dn t, q ∈ dn ++ t) ∧ (gthin dn t).length ≤ (dn ++ t).length := by
  intro t
  induction t with
  | nil => intro dn; unfold gthin; exact ⟨fun q hq => List.mem_append_left _ hq, by simp⟩
  | cons m t ih =>
    intro dn
    unfold gthin
    split
    · obtain ⟨h1, h2⟩ := ih (dn ++ [m])
      exact ⟨fun q hq => by have := h1 q hq; simpa using this, by simp only [List.length_append, List.length_cons, List.length_nil] at h2 ⊢; omega⟩
    · obtain ⟨h1, h2⟩ := ih dn
      refine ⟨fun q hq => ?_, by simp only [List.length_append, List.length_cons] at h2 ⊢; omega⟩
      rcases List.mem_append.mp (h1 q hq) with h | h
      · exact List.mem_append_left _ h
      · exact List.mem_append_right _ (List.mem_cons_of_mem _ h)
theorem sB_kept {P : Nat → Prop} {M M' : zM} {p : Nat} (h : sB M p) (hf : zfr P M M') (h1 : ¬ P (p + 1)) (h2 : ¬ P (p + 2)) (h3 : ¬ P (p + 3)) : sB M' p := by
  unfold sB
  rw [(hf _ h1).2.1, (hf _ h2).2.1, (hf _ h3).1]
  exact h

set_option maxRecDepth 100000 in
set_option maxHeartbeats 4000000 in
theorem cD_dropImplied_ (l : Launch) {d : Nat} {ls : List gC} (M : zM) (hd : zdr d) (hH : dH M d ls) (hB : sB M (d + 5)) (hok : gOK ls) : zMet l mD_dropImplied rD_dropImplied [.ref d] M (zqv (fun M' => dH M' d (gthin [] ls) ∧ sB M' (d + 5) ∧ zfr (dF d) M M')) := by
  refine za_enter (by decide) (Nat.le_of_ble_eq_true rfl) (fun X hc => ?_)
  have hdo := hd.o
  have hda := hd.a
  have hdb := hd.b
  have hdc := hd.c
  have hds := hd.s
  have hpo := hd.p.o
  have hl := hH.2.1
  have loop : ∀ (t dn : List gC) (i : Nat) (M1 : zM), t.length + i = ls.length → (dn ++ t).length ≤ ls.length → gthin dn t = gthin [] ls → gOK (dn ++ t) → dH M1 d (dn ++ t) → sB M1 (d + 5) → zfr (dF d) M M1 → zW X (zqv (fun M' => dH M' d (gthin [] ls) ∧ sB M' (d + 5) ∧ zfr (dF d) M M')) (0, 0) 9 [(0, .ref d), (1, .int (nI dn.length)), (2, .int (nI ls.length)), (3, .int (nI i))] [] M1 := by
    intro t
    induction t with
    | nil =>
      intro dn i M1 hn hln hg hok1 hH1 hB1 hf1
      refine za_iload_n hc dD_dropImplied_9 rfl ?_
      refine za_iload_n hc dD_dropImplied_10 rfl ?_
      refine za_icmp_ge 52 hc dD_dropImplied_11 rfl (fun h_11 => ?_) (fun h_11 => ?_)
      · skip
        exact za_vret hc rfl dD_dropImplied_52 ⟨Nat.zero_le _, Nat.zero_le _⟩ (⟨rfl, by rw [← hg]; unfold gthin; rw [List.append_nil] at hH1; exact hH1, hB1, hf1⟩)
      · skip
        exact absurd ((nI_leI (by omega) (by omega)).mpr (by simp only [List.length_nil] at hn; omega)) h_11
    | cons m t ih =>
      intro dn i M1 hn hln hg hok1 hH1 hB1 hf1
      simp only [List.length_cons] at hn
      have hlen : (dn ++ m :: t).length = dn.length + (t.length + 1) := by simp
      have hjl : dn.length < (dn ++ m :: t).length := by omega
      have hmm : (dn ++ m :: t)[dn.length]? = some m := by simp
      have hd1 : dg M1 d dn.length = m := hH1.2.2.1 _ _ hmm
      have hbm : ∀ q ∈ dn ++ m :: t, q.1.natAbs ≤ 200000000 ∧ q.2.1.natAbs ≤ 200000000 ∧ q.2.2.1.natAbs ≤ 200000000 := fun q hq => by rcases hok1 with h | h | h <;> have := h q hq <;> omega
      have hb1 := hbm m (by simp)
      have hok2 : gOK (dn ++ gflip m :: t) := gOK_sub hok1 (fun q hq => by
        rcases List.mem_append.mp hq with h | h
        · exact ⟨q, List.mem_append_left _ h, Or.inl rfl⟩
        · rcases List.mem_cons.mp h with h | h
          · exact ⟨m, by simp, Or.inr h⟩
          · exact ⟨q, List.mem_append_right _ (List.mem_cons_of_mem _ h), Or.inl rfl⟩)
      refine za_iload_n hc dD_dropImplied_9 rfl ?_
      refine za_iload_n hc dD_dropImplied_10 rfl ?_
      refine za_icmp_ge 52 hc dD_dropImplied_11 rfl (fun h_11 => ?_) (fun h_11 => ?_)
      · skip
        exact absurd ((nI_leI (by omega) (by omega)).mp h_11) (by omega)
      · skip
        refine za_aload_n hc dD_dropImplied_14 rfl ?_
        refine za_iload_n hc dD_dropImplied_15 rfl ?_
        refine za_cV1v hc gsD_59 (by assumption) (cD_flip_ l M1 hd (show dn.length < 36 by omega) hH1.2.2.2 (by have e : (dg M1 d dn.length).1 = (zJ M1 (d + 1) dn.length).toInt := rfl; rw [hd1] at e; omega) (by have e : (dg M1 d dn.length).2.1 = (zJ M1 (d + 2) dn.length).toInt := rfl; rw [hd1] at e; omega) (by have e : (dg M1 d dn.length).2.2.1 = (zJ M1 (d + 3) dn.length).toInt := rfl; rw [hd1] at e; omega)) ⟨rfl, rfl⟩ ⟨Nat.le_of_ble_eq_true rfl, Nat.le_of_ble_eq_true rfl⟩ ⟨Nat.zero_le _, Nat.zero_le _⟩ dD_dropImplied_16 (fun M_16 h_16 => ?_)
        obtain ⟨g1, g2, g3⟩ := h_16
        have hH2 : dH M_16 d (dn ++ gflip m :: t) := by
          have := dH_set hH1 hjl g1 g2 (g3 d (fun z => by have := z.1; omega)).1
          rw [g_set, hd1] at this
          exact this
        have hB2 : sB M_16 (d + 5) := sB_kept hB1 g3 (fun z => by have := z.2; omega) (fun z => by have := z.2; omega) (fun z => by have := z.2; omega)
        refine za_aload_n hc dD_dropImplied_19 rfl ?_
        refine za_cV0i hc gsD_63 (by assumption) (cD_hasPoints_ l M_16 hd hH2 hB2 hok2) ⟨rfl, rfl⟩ ⟨Nat.le_of_ble_eq_true rfl, Nat.le_of_ble_eq_true rfl⟩ ⟨Nat.zero_le _, Nat.zero_le _⟩ dD_dropImplied_20 (fun x_20 M_20 h_20 => ?_)
        obtain ⟨k1, k2, k3, k4, k5⟩ := h_20
        refine za_istore hc dD_dropImplied_23 (by decide) ?_
        refine za_aload_n hc dD_dropImplied_25 rfl ?_
        refine za_iload_n hc dD_dropImplied_26 rfl ?_
        refine za_cV1v hc gsD_59 (by assumption) (cD_flip_ l M_20 hd (show dn.length < 36 by omega) k3.2.2.2 (by have e : (dg M_20 d dn.length).1 = (zJ M_20 (d + 1) dn.length).toInt := rfl; rw [k3.2.2.1 dn.length (gflip m) (by simp)] at e; have h0 : (gflip m).1 = -m.1 := rfl; omega) (by have e : (dg M_20 d dn.length).2.1 = (zJ M_20 (d + 2) dn.length).toInt := rfl; rw [k3.2.2.1 dn.length (gflip m) (by simp)] at e; have h0 : (gflip m).2.1 = -m.2.1 := rfl; omega) (by have e : (dg M_20 d dn.length).2.2.1 = (zJ M_20 (d + 3) dn.length).toInt := rfl; rw [k3.2.2.1 dn.length (gflip m) (by simp)] at e; have h0 : (gflip m).2.2.1 = -m.2.2.1 := rfl; omega)) ⟨rfl, rfl⟩ ⟨Nat.le_of_ble_eq_true rfl, Nat.le_of_ble_eq_true rfl⟩ ⟨Nat.zero_le _, Nat.zero_le _⟩ dD_dropImplied_27 (fun M_27 h_27 => ?_)
        obtain ⟨g4, g5, g6⟩ := h_27
        have hH3 : dH M_27 d (dn ++ m :: t) := by
          have := dH_set k3 (show dn.length < (dn ++ gflip m :: t).length by simp) g4 g5 (g6 d (fun z => by have := z.1; omega)).1
          rw [g_set, k3.2.2.1 dn.length (gflip m) (by simp), gflip_2] at this
          exact this
        have hB3 : sB M_27 (d + 5) := sB_kept k4 g6 (fun z => by have := z.2; omega) (fun z => by have := z.2; omega) (fun z => by have := z.2; omega)
        have hf3 : zfr (dF d) M M_27 := hf1.tr ((g3.wk (fun k z => dB_F (dA_B z))).tr ((k5.wk (fun k z => ⟨by have := z.1; omega, by have := z.2; omega⟩)).tr (g6.wk (fun k z => dB_F (dA_B z)))))
        refine za_iload hc dD_dropImplied_30 rfl ?_
        refine za_if_eq 41 hc dD_dropImplied_32 rfl (fun h_32 => ?_) (fun h_32 => ?_)
        · skip
          have hns : ¬ gsb (dn ++ gflip m :: t) = true := fun z => absurd (k2.mpr (gsb_iff.mp z)) (by rw [h_32]; decide)
          refine za_aload_n hc dD_dropImplied_41 rfl ?_
          refine za_iload_n hc dD_dropImplied_42 rfl ?_
          refine za_cV1v hc gsD_67 (by assumption) (cD_remove_ l M_27 hd hH3 hjl) ⟨rfl, rfl⟩ ⟨Nat.le_of_ble_eq_true rfl, Nat.le_of_ble_eq_true rfl⟩ ⟨Nat.zero_le _, Nat.zero_le _⟩ dD_dropImplied_43 (fun M_43 h_43 => ?_)
          obtain ⟨r1, r2⟩ := h_43
          rw [g_erase] at r1
          refine za_iinc hc _ dD_dropImplied_46 rfl ((nI_succ i).symm) (by decide) ?_
          refine za_goto 9 hc dD_dropImplied_49 rfl ?_
          refine za_take 4 ?_
          have hg2 : gthin dn t = gthin [] ls := hg ▸ (show gthin dn t = gthin dn (m :: t) from (if_neg hns).symm)
          exact ih dn (i + 1) M_43 (by omega) (by simp only [List.length_append, List.length_cons] at hln ⊢; omega) hg2 (gOK_sub hok1 (fun q hq => ⟨q, (List.mem_append.mp hq).elim (List.mem_append_left _) (fun h => List.mem_append_right _ (List.mem_cons_of_mem _ h)), Or.inl rfl⟩)) r1 (sB_kept hB3 r2 (fun z => by have := z.2; omega) (fun z => by have := z.2; omega) (fun z => by have := z.2; omega)) (hf3.tr (r2.wk (fun k => dB_F)))
        · skip
          have hys : gsb (dn ++ gflip m :: t) = true := gsb_iff.mpr (k2.mp (k1.resolve_left h_32))
          refine za_iinc hc _ dD_dropImplied_35 rfl ((nI_succ _).symm) (by decide) ?_
          refine za_goto 46 hc dD_dropImplied_38 rfl ?_
          refine za_iinc hc _ dD_dropImplied_46 rfl ((nI_succ i).symm) (by decide) ?_
          refine za_goto 9 hc dD_dropImplied_49 rfl ?_
          refine za_take 4 ?_
          have hg2 : gthin (dn ++ [m]) t = gthin [] ls := hg ▸ (show gthin (dn ++ [m]) t = gthin dn (m :: t) from (if_pos hys).symm)
          have hap : dn ++ [m] ++ t = dn ++ m :: t := by simp
          have := ih (dn ++ [m]) (i + 1) M_27 (by omega) (by rw [hap]; exact hln) hg2 (by rw [hap]; exact hok1) (by rw [hap]; exact hH3) hB3 hf3
          rw [show (dn ++ [m]).length = dn.length + 1 by simp] at this
          exact this
  refine za_iconst hc 0 dD_dropImplied_0 rfl ?_
  refine za_istore_n hc dD_dropImplied_1 (by decide) ?_
  refine za_aload_n hc dD_dropImplied_2 rfl ?_
  refine za_getI hc gfD_32 (by assumption) dD_dropImplied_3 ?_
  rw [hH.1]
  refine za_istore_n hc dD_dropImplied_6 (by decide) ?_
  refine za_iconst hc 0 dD_dropImplied_7 rfl ?_
  refine za_istore_n hc dD_dropImplied_8 (by decide) ?_
  exact loop ls [] 0 M (by omega) (by simp) rfl (by simpa using hok) (by simpa using hH) hB zfr.rf

def gLim (q : gC) : Prop := q.1.natAbs ≤ 10000 ∧ q.2.1.natAbs ≤ 10000 ∧ q.2.2.1.natAbs ≤ 10000

set_option maxRecDepth 100000 in
set_option maxHeartbeats 4000000 in
theorem cD_keepsLimits_ (l : Launch) {d : Nat} {ls : List gC} (M : zM) (hd : zdr d) (hH : dH M d ls) : zMet l mD_keepsLimits rD_keepsLimits [.ref d] M (zqi (fun r M' => (r = 0 ∨ r = 1) ∧ (r = 1 ↔ (∀ q ∈ ls, gLim q) ∧ ls.length ≤ 12) ∧ M' = M)) := by
  refine za_enter (by decide) (Nat.le_of_ble_eq_true rfl) (fun X hc => ?_)
  have hdo := hd.o
  have hda := hd.a
  have hdb := hd.b
  have hdc := hd.c
  have hds := hd.s
  have hpo := hd.p.o
  have hl := hH.2.1
  have loop : ∀ n i, n + i = ls.length → (∀ j, j < i → gLim (dg M d j)) → zW X (zqi (fun r M' => (r = 0 ∨ r = 1) ∧ (r = 1 ↔ (∀ q ∈ ls, gLim q) ∧ ls.length ≤ 12) ∧ M' = M)) (0, 0) 2 [(0, .ref d), (1, .int (nI i))] [] M := by
    intro n
    induction n with
    | zero =>
      intro i hn hall
      refine za_iload_n hc dD_keepsLimits_2 rfl ?_
      refine za_aload_n hc dD_keepsLimits_3 rfl ?_
      refine za_getI hc gfD_32 (by assumption) dD_keepsLimits_4 ?_
      rw [hH.1]
      refine za_icmp_ge 63 hc dD_keepsLimits_7 rfl (fun h_7 => ?_) (fun h_7 => ?_)
      · skip
        have hall2 : ∀ q ∈ ls, gLim q := fun q hq => by
          obtain ⟨j, hj⟩ := List.getElem?_of_mem hq
          rw [← hH.2.2.1 j q hj]
          exact hall j (by have := (List.getElem?_eq_some_iff.mp hj).1; omega)
        refine za_aload_n hc dD_keepsLimits_63 rfl ?_
        refine za_getI hc gfD_32 (by assumption) dD_keepsLimits_64 ?_
        rw [hH.1]
        refine za_bipush hc 12 dD_keepsLimits_67 rfl ?_
        refine za_icmp_gt 76 hc dD_keepsLimits_69 rfl (fun h_69 => ?_) (fun h_69 => ?_)
        · skip
          have c1 : ¬ ls.length ≤ 12 := fun z => absurd ((nI_ltI (a := 12) (by decide) (by omega)).mp h_69) (by omega)
          refine za_iconst hc 0 dD_keepsLimits_76 rfl ?_
          exact za_zret hc rfl (rfl) dD_keepsLimits_77 ⟨Nat.zero_le _, Nat.zero_le _⟩ (by first | exact ⟨1, rfl, Or.inr rfl, ⟨fun _ => ⟨hall2, c1⟩, fun _ => rfl⟩, rfl⟩ | exact ⟨0, rfl, Or.inl rfl, ⟨fun z => absurd z (by decide), fun z => absurd z.2 c1⟩, rfl⟩)
        · skip
          have c1 : ls.length ≤ 12 := Nat.not_lt.mp (fun z => h_69 ((nI_ltI (a := 12) (by decide) (by omega)).mpr z))
          refine za_iconst hc 1 dD_keepsLimits_72 rfl ?_
          refine za_goto 77 hc dD_keepsLimits_73 rfl ?_
          exact za_zret hc rfl (rfl) dD_keepsLimits_77 ⟨Nat.zero_le _, Nat.zero_le _⟩ (by first | exact ⟨1, rfl, Or.inr rfl, ⟨fun _ => ⟨hall2, c1⟩, fun _ => rfl⟩, rfl⟩ | exact ⟨0, rfl, Or.inl rfl, ⟨fun z => absurd z (by decide), fun z => absurd z.2 c1⟩, rfl⟩)
      · skip
        exact absurd ((nI_leI (by omega) (by omega)).mpr (show ls.length ≤ i by omega)) h_7
    | succ n ih =>
      intro i hn hall
      have hmem : dg M d i ∈ ls := by rw [dH_get hH (show i < ls.length by omega)]; exact List.getElem_mem _
      refine za_iload_n hc dD_keepsLimits_2 rfl ?_
      refine za_aload_n hc dD_keepsLimits_3 rfl ?_
      refine za_getI hc gfD_32 (by assumption) dD_keepsLimits_4 ?_
      rw [hH.1]
      refine za_icmp_ge 63 hc dD_keepsLimits_7 rfl (fun h_7 => ?_) (fun h_7 => ?_)
      · skip
        exact absurd ((nI_leI (by omega) (by omega)).mp h_7) (by omega)
      · skip
        refine za_aload_n hc dD_keepsLimits_10 rfl ?_
        refine za_getS hc gfD_11 (by assumption) dD_keepsLimits_11 ?_
        refine za_iload_n hc dD_keepsLimits_14 rfl ?_
        refine za_lald hc (by assumption) dD_keepsLimits_15 (vp_in_nI (show i < 36 by omega) (by decide)) ?_
        rw [nI_clamp (show i < 2 ^ 31 by omega)]
        refine za_ldc2 hc _ dD_keepsLimits_16 jlD_70 ?_
        refine za_cSN2i hc gsD_72 (cK_exceeds_ l M _ 10000 (by decide)) ⟨rfl, rfl⟩ ⟨Nat.le_of_ble_eq_true rfl, Nat.le_of_ble_eq_true rfl⟩ ⟨Nat.zero_le _, Nat.zero_le _⟩ dD_keepsLimits_19 (fun x_19 M_19 h_19 => ?_)
        obtain ⟨q1_19, hm_19⟩ := h_19
        rw [hm_19]
        rw [show (10000 : Int64).toInt = 10000 from by decide] at q1_19
        refine za_if_ne 55 hc dD_keepsLimits_22 rfl (fun h_22 => ?_) (fun h_22 => ?_)
        · skip
          have hx : ¬ gLim (dg M d i) := fun z => by
            rw [q1_19, if_neg (by have h1 : (zJ M (d + 1) i).toInt.natAbs ≤ 10000 := z.1; omega)] at h_22; exact h_22 rfl
          refine za_iconst hc 0 dD_keepsLimits_55 rfl ?_
          exact za_zret hc rfl (rfl) dD_keepsLimits_56 ⟨Nat.zero_le _, Nat.zero_le _⟩ (⟨0, rfl, Or.inl rfl, ⟨fun z => absurd z (by decide), fun z => absurd (z.1 _ hmem) hx⟩, rfl⟩)
        · skip
          have a1 : (zJ M (d + 1) i).toInt.natAbs ≤ 10000 := by
            by_cases z : (zJ M (d + 1) i).toInt < -10000 ∨ 10000 < (zJ M (d + 1) i).toInt
            · rw [q1_19, if_pos z] at h_22; exact absurd h_22 (by decide)
            · omega
          refine za_aload_n hc dD_keepsLimits_25 rfl ?_
          refine za_getS hc gfD_15 (by assumption) dD_keepsLimits_26 ?_
          refine za_iload_n hc dD_keepsLimits_29 rfl ?_
          refine za_lald hc (by assumption) dD_keepsLimits_30 (vp_in_nI (show i < 36 by omega) (by decide)) ?_
          rw [nI_clamp (show i < 2 ^ 31 by omega)]
          refine za_ldc2 hc _ dD_keepsLimits_31 jlD_70 ?_
          refine za_cSN2i hc gsD_72 (cK_exceeds_ l M _ 10000 (by decide)) ⟨rfl, rfl⟩ ⟨Nat.le_of_ble_eq_true rfl, Nat.le_of_ble_eq_true rfl⟩ ⟨Nat.zero_le _, Nat.zero_le _⟩ dD_keepsLimits_34 (fun x_34 M_34 h_34 => ?_)
          obtain ⟨q1_34, hm_34⟩ := h_34
          rw [hm_34]
          rw [show (10000 : Int64).toInt = 10000 from by decide] at q1_34
          refine za_if_ne 55 hc dD_keepsLimits_37 rfl (fun h_37 => ?_) (fun h_37 => ?_)
          · skip
            have hx : ¬ gLim (dg M d i) := fun z => by
              rw [q1_34, if_neg (by have h1 : (zJ M (d + 2) i).toInt.natAbs ≤ 10000 := z.2.1; omega)] at h_37; exact h_37 rfl
            refine za_iconst hc 0 dD_keepsLimits_55 rfl ?_
            exact za_zret hc rfl (rfl) dD_keepsLimits_56 ⟨Nat.zero_le _, Nat.zero_le _⟩ (⟨0, rfl, Or.inl rfl, ⟨fun z => absurd z (by decide), fun z => absurd (z.1 _ hmem) hx⟩, rfl⟩)
          · skip
            have a2 : (zJ M (d + 2) i).toInt.natAbs ≤ 10000 := by
              by_cases z : (zJ M (d + 2) i).toInt < -10000 ∨ 10000 < (zJ M (d + 2) i).toInt
              · rw [q1_34, if_pos z] at h_37; exact absurd h_37 (by decide)
              · omega
            refine za_aload_n hc dD_keepsLimits_40 rfl ?_
            refine za_getS hc gfD_18 (by assumption) dD_keepsLimits_41 ?_
            refine za_iload_n hc dD_keepsLimits_44 rfl ?_
            refine za_lald hc (by assumption) dD_keepsLimits_45 (vp_in_nI (show i < 36 by omega) (by decide)) ?_
            rw [nI_clamp (show i < 2 ^ 31 by omega)]
            refine za_ldc2 hc _ dD_keepsLimits_46 jlD_70 ?_
            refine za_cSN2i hc gsD_72 (cK_exceeds_ l M _ 10000 (by decide)) ⟨rfl, rfl⟩ ⟨Nat.le_of_ble_eq_true rfl, Nat.le_of_ble_eq_true rfl⟩ ⟨Nat.zero_le _, Nat.zero_le _⟩ dD_keepsLimits_49 (fun x_49 M_49 h_49 => ?_)
            obtain ⟨q1_49, hm_49⟩ := h_49
            rw [hm_49]
            rw [show (10000 : Int64).toInt = 10000 from by decide] at q1_49
            refine za_if_eq 57 hc dD_keepsLimits_52 rfl (fun h_52 => ?_) (fun h_52 => ?_)
            · skip
              have a3 : (zJ M (d + 3) i).toInt.natAbs ≤ 10000 := by
                by_cases z : (zJ M (d + 3) i).toInt < -10000 ∨ 10000 < (zJ M (d + 3) i).toInt
                · rw [q1_49, if_pos z] at h_52; exact absurd h_52 (by decide)
                · omega
              refine za_iinc hc _ dD_keepsLimits_57 rfl ((nI_succ i).symm) (by decide) ?_
              refine za_goto 2 hc dD_keepsLimits_60 rfl ?_
              refine ih (i + 1) (by omega) (fun j hj => ?_)
              by_cases c : j < i
              · exact hall j c
              · obtain rfl : j = i := by omega
                exact ⟨a1, a2, a3⟩
            · skip
              have hx : ¬ gLim (dg M d i) := fun z => by
                rw [q1_49, if_neg (by have h1 : (zJ M (d + 3) i).toInt.natAbs ≤ 10000 := z.2.2; omega)] at h_52; exact h_52 rfl
              refine za_iconst hc 0 dD_keepsLimits_55 rfl ?_
              exact za_zret hc rfl (rfl) dD_keepsLimits_56 ⟨Nat.zero_le _, Nat.zero_le _⟩ (⟨0, rfl, Or.inl rfl, ⟨fun z => absurd z (by decide), fun z => absurd (z.1 _ hmem) hx⟩, rfl⟩)
  refine za_iconst hc 0 dD_keepsLimits_0 rfl ?_
  refine za_istore_n hc dD_keepsLimits_1 (by decide) ?_
  exact loop ls.length 0 (by omega) (fun j hj => absurd hj (Nat.not_lt_zero _))
