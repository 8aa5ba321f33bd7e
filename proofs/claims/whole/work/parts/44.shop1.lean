/-! The workshop: AND, OR. -/
theorem gstr_lim {q m : gC} (hq : gLim q) (hm : gLim m) : gLim (gstr q m) := by
  unfold gstr
  split
  · exact ⟨hq.1, hq.2.1, hm.2.2⟩
  · split
    · exact ⟨hq.1, hq.2.1, hq.2.2⟩
    · exact hq
theorem gins_all {P : gC → Prop} {m : gC} (hm : P m) (hstr : ∀ q, P q → P (gstr q m)) : ∀ {ls : List gC}, (∀ q ∈ ls, P q) → ∀ q ∈ gins ls m, P q := by
  intro ls
  induction ls with
  | nil => intro _ q hq; rw [List.mem_singleton.mp hq]; exact hm
  | cons a t ih =>
    intro h q hq
    unfold gins at hq
    split at hq
    · rcases List.mem_cons.mp hq with e | e
      · rw [e]; exact h a List.mem_cons_self
      · exact ih (fun k hk => h k (List.mem_cons_of_mem _ hk)) q e
    · split at hq
      · rcases List.mem_cons.mp hq with e | e
        · rw [e]; exact hstr a (h a List.mem_cons_self)
        · exact h q (List.mem_cons_of_mem _ e)
      · rcases List.mem_cons.mp hq with e | e
        · rw [e]; exact hm
        · exact h q e
theorem gnorm_lim {m : gC} (hm : gLim m) : gLim (gnorm m) := by
  have h : ∀ (a : Int) (g : Nat), a.natAbs ≤ 10000 → (a.tdiv g).natAbs ≤ 10000 := fun a g h => Nat.le_of_lt_succ (g_tdivb (B := 10001) (by omega))
  exact ⟨h _ _ hm.1, h _ _ hm.2.1, h _ _ hm.2.2⟩
theorem gput_lim {ls : List gC} {m : gC} (h : ∀ q ∈ ls, gLim q) (hm : gLim m) : ∀ q ∈ gput ls m, gLim q := by
  unfold gput
  split
  · exact h
  · exact gins_all (gnorm_lim hm) (fun q hq => gstr_lim hq (gnorm_lim hm)) h
theorem gputs_lim {ms : List gC} : ∀ {ls : List gC}, (∀ q ∈ ls, gLim q) → (∀ q ∈ ms, gLim q) → ∀ q ∈ ms.foldl gput ls, gLim q := by
  induction ms with
  | nil => intro ls h _; exact h
  | cons m t ih => intro ls h hm; exact ih (gput_lim h (hm m List.mem_cons_self)) (fun q hq => hm q (List.mem_cons_of_mem _ hq))
noncomputable def gand1 (p : List gC) : List (List gC) → List (List gC) → Option (List (List gC))
  | acc, [] => some acc
  | acc, q :: t => match gadd acc ((p ++ q).foldl gput []) with
    | some a => gand1 p a t
    | none => none
noncomputable def gand2 (Q : List (List gC)) : List (List gC) → List (List gC) → Option (List (List gC))
  | acc, [] => some acc
  | acc, p :: t => match gand1 p acc Q with
    | some a => gand2 Q a t
    | none => none
noncomputable def gAnd (P Q : List (List gC)) : Option (List (List gC)) := gand2 Q [] P
noncomputable def gor1 : List (List gC) → List (List gC) → Option (List (List gC))
  | acc, [] => some acc
  | acc, q :: t => match gadd acc (q.foldl gput []) with
    | some a => gor1 a t
    | none => none
/-- the workshop's parts in order: where result and previous are, the draft fit for use -/
def wI (M : zM) : Prop := ((zR M 12 2 = 25 ∧ zR M 12 3 = 28) ∨ (zR M 12 2 = 28 ∧ zR M 12 3 = 25)) ∧ zbo M 13 ∧ sB M 18
theorem zrg_22 : zrg 22 := by unfold zrg; decide
theorem zrg_25 : zrg 25 := by unfold zrg; decide
theorem zrg_28 : zrg 28 := by unfold zrg; decide
theorem wI_res {M : zM} (h : wI M) : zrg (zR M 12 2) := by rcases h.1 with h | h <;> rw [h.1]; exact zrg_25; exact zrg_28
theorem wI_prv {M : zM} (h : wI M) : zrg (zR M 12 3) := by rcases h.1 with h | h <;> rw [h.2]; exact zrg_28; exact zrg_25
def wR (s : Nat) : Nat → Prop := fun k => dF 13 k ∨ rF s k
theorem zob_12 : zob 12 4 := ⟨by decide, by decide⟩
theorem wR_rg {s r b : Nat} (hs : zrg s) (hr : zrg r) (hne : r ≠ s) (hb : b ≤ 2) : ¬ wR s (r + b) := fun z => z.elim (dF_rg zdr_13 hr hb) (rF_rg hr hs hne hb)
theorem wR_12 {s : Nat} (hs : zrg s) : ¬ wR s 12 := fun z => z.elim (fun z => by have := z.1; omega) (fun z => by
  obtain ⟨-, h0, h1, h2⟩ := hs
  have hz : zlay 12 = (0, 4) := by decide
  rcases (show s = 12 ∨ s + 1 = 12 ∨ s + 2 = 12 by have := z.1; have := z.2; omega) with e | e | e
  · rw [e, hz] at h0; exact absurd h0 (by decide)
  · rw [e, hz] at h1; exact absurd h1 (by decide)
  · rw [e, hz] at h2; exact absurd h2 (by decide))
/-- what an operation answers: its region as the result, or that a limit is passed -/
def wP (M : zM) (s : Nat) (a : Option (List (List gC))) (x : Int32) (M' : zM) : Prop := (match a with | some R => x = 1 ∧ rH M' s R | none => x = 0) ∧ wI M' ∧ zR M' 12 = zR M 12 ∧ zfr (wR s) M M'
theorem wI_kept {P : Nat → Prop} {M M' : zM} (h : wI M) (hf : zfr P M M') (h12 : ¬ P 12) (hb : zbo M' 13) (hs : sB M' 18) : wI M' := ⟨by rw [(hf _ h12).2.2]; exact h.1, hb, hs⟩
theorem gok_row {ms : List gC} (h : ∀ q ∈ ms, gLim q) : gOK (ms.foldl gput []) := Or.inl (gputs_lim (fun q hq => by cases hq) h)

set_option maxRecDepth 100000 in
set_option maxHeartbeats 4000000 in
theorem cW_intersect_ (l : Launch) {p q : Nat} {P Q : List (List gC)} (M : zM) (hI : wI M) (hp : zrg p) (hq : zrg q) (hpn : p ≠ zR M 12 2) (hqn : q ≠ zR M 12 2) (hP : rH M p P) (hQ : rH M q Q) : zMet l mW_intersect rW_intersect [.ref 12, .ref p, .ref q] M (zqi (wP M (zR M 12 2) (gAnd P Q))) := by
  refine za_enter (by decide) (Nat.le_of_ble_eq_true rfl) (fun X hc => ?_)
  have hw := zob_12
  have hd := zdr_13
  have hdo := hd.o
  have hs := wI_res hI
  have hso := hs.o
  have hno : zob (12 + 1) 0 := hd.o
  have hpo := hp.o
  have hqo := hq.o
  have hpl := hP.2.1
  have hql := hQ.2.1
  have outer : ∀ (t : List (List gC)) (i : Nat) (acc : List (List gC)) (M1 : zM), P.drop i = t → i + t.length = P.length → gand2 Q acc t = gAnd P Q → rH M1 (zR M 12 2) acc → zbo M1 13 → sB M1 18 → zfr (wR (zR M 12 2)) M M1 → zW X (zqi (wP M (zR M 12 2) (gAnd P Q))) (0, 0) 9 [(0, .ref 12), (1, .ref p), (2, .ref q), (3, .int (nI i))] [] M1 := by
    intro t
    induction t with
    | nil =>
      intro i acc M1 hdr hn hg hR1 hb1 hs1 hf
      simp only [List.length_nil] at hn
      have e12 : zR M1 12 = zR M 12 := (hf _ (wR_12 hs)).2.2
      have hP1 : rH M1 p P := rH_kept hP hf (wR_rg hs hp hpn (b := 0) (by decide)) (wR_rg hs hp hpn (by decide)) (wR_rg hs hp hpn (by decide))
      have hQ1 : rH M1 q Q := rH_kept hQ hf (wR_rg hs hq hqn (b := 0) (by decide)) (wR_rg hs hq hqn (by decide)) (wR_rg hs hq hqn (by decide))
      refine za_iload_n hc dW_intersect_9 rfl ?_
      refine za_aload_n hc dW_intersect_10 rfl ?_
      refine za_cV0i hc gsW_32 (by assumption) (cR_rowCount_ l M1 hp) ⟨rfl, rfl⟩ ⟨Nat.le_of_ble_eq_true rfl, Nat.le_of_ble_eq_true rfl⟩ ⟨Nat.zero_le _, Nat.zero_le _⟩ dW_intersect_11 (fun x_11 M_11 h_11 => ?_)
      obtain ⟨q_11, hm_11⟩ := h_11
      rw [hm_11, q_11, hP1.1]
      refine za_icmp_ge 94 hc dW_intersect_14 rfl (fun h_14 => ?_) (fun h_14 => ?_)
      · skip
        refine za_iconst hc 1 dW_intersect_94 rfl ?_
        exact za_zret hc rfl (rfl) dW_intersect_95 ⟨Nat.zero_le _, Nat.zero_le _⟩ (⟨1, rfl, by rw [← hg]; exact ⟨rfl, hR1⟩, wI_kept hI hf (wR_12 hs) hb1 hs1, e12, hf⟩)
      · skip
        exact absurd ((nI_leI (by omega) (by omega)).mpr (show P.length ≤ i by omega)) h_14
    | cons pr t ih =>
      intro i acc M1 hdr hn hg hR1 hb1 hs1 hf
      simp only [List.length_cons] at hn
      have hpi : P[i]? = some pr := by rw [← List.head?_drop, hdr]; rfl
      have hdr2 : P.drop (i + 1) = t := by rw [← List.drop_drop, hdr]; rfl
      have inner : ∀ (u : List (List gC)) (j : Nat) (acc : List (List gC)) (M1 : zM), Q.drop j = u → j + u.length = Q.length → (match gand1 pr acc u with | some a => gand2 Q a t | none => none) = gAnd P Q → rH M1 (zR M 12 2) acc → zbo M1 13 → sB M1 18 → zfr (wR (zR M 12 2)) M M1 → zW X (zqi (wP M (zR M 12 2) (gAnd P Q))) (0, 0) 20 [(0, .ref 12), (1, .ref p), (2, .ref q), (3, .int (nI i)), (4, .int (nI j))] [] M1 := by
        clear hg hR1 hb1 hs1 hf M1 acc
        intro u
        induction u with
        | nil =>
          intro j acc M1 hdu hm hg hR1 hb1 hs1 hf
          simp only [List.length_nil] at hm
          have e12 : zR M1 12 = zR M 12 := (hf _ (wR_12 hs)).2.2
          have hP1 : rH M1 p P := rH_kept hP hf (wR_rg hs hp hpn (b := 0) (by decide)) (wR_rg hs hp hpn (by decide)) (wR_rg hs hp hpn (by decide))
          have hQ1 : rH M1 q Q := rH_kept hQ hf (wR_rg hs hq hqn (b := 0) (by decide)) (wR_rg hs hq hqn (by decide)) (wR_rg hs hq hqn (by decide))
          refine za_iload hc dW_intersect_20 rfl ?_
          refine za_aload_n hc dW_intersect_22 rfl ?_
          refine za_cV0i hc gsW_32 (by assumption) (cR_rowCount_ l M1 hq) ⟨rfl, rfl⟩ ⟨Nat.le_of_ble_eq_true rfl, Nat.le_of_ble_eq_true rfl⟩ ⟨Nat.zero_le _, Nat.zero_le _⟩ dW_intersect_23 (fun x_23 M_23 h_23 => ?_)
          obtain ⟨q_23, hm_23⟩ := h_23
          rw [hm_23, q_23, hQ1.1]
          refine za_icmp_ge 88 hc dW_intersect_26 rfl (fun h_26 => ?_) (fun h_26 => ?_)
          · skip
            refine za_iinc hc _ dW_intersect_88 rfl ((nI_succ i).symm) (by decide) ?_
            refine za_goto 9 hc dW_intersect_91 rfl ?_
            refine za_take 4 ?_
            exact ih (i + 1) acc M1 hdr2 (by omega) hg hR1 hb1 hs1 hf
          · skip
            exact absurd ((nI_leI (by omega) (by omega)).mpr (show Q.length ≤ j by omega)) h_26
        | cons qr u ihu =>
          intro j acc M1 hdu hm hg hR1 hb1 hs1 hf
          simp only [List.length_cons] at hm
          have hqj : Q[j]? = some qr := by rw [← List.head?_drop, hdu]; rfl
          have hdu2 : Q.drop (j + 1) = u := by rw [← List.drop_drop, hdu]; rfl
          have e12 : zR M1 12 = zR M 12 := (hf _ (wR_12 hs)).2.2
          have hP1 : rH M1 p P := rH_kept hP hf (wR_rg hs hp hpn (b := 0) (by decide)) (wR_rg hs hp hpn (by decide)) (wR_rg hs hp hpn (by decide))
          have hQ1 : rH M1 q Q := rH_kept hQ hf (wR_rg hs hq hqn (b := 0) (by decide)) (wR_rg hs hq hqn (by decide)) (wR_rg hs hq hqn (by decide))
          obtain ⟨a1, a2, a3, a4⟩ := hP1.2.2 i pr hpi
          obtain ⟨b1, b2, b3, b4⟩ := hQ1.2.2 j qr hqj
          have hH2 := dH_clear (d := 13) hb1
          have hf2 : zfr (wR (zR M 12 2)) M (zsI M1 13 5 0) := hf.tr (zfr_sI (Or.inl ⟨by decide, by decide⟩))
          refine za_iload hc dW_intersect_20 rfl ?_
          refine za_aload_n hc dW_intersect_22 rfl ?_
          refine za_cV0i hc gsW_32 (by assumption) (cR_rowCount_ l M1 hq) ⟨rfl, rfl⟩ ⟨Nat.le_of_ble_eq_true rfl, Nat.le_of_ble_eq_true rfl⟩ ⟨Nat.zero_le _, Nat.zero_le _⟩ dW_intersect_23 (fun x_23 M_23 h_23 => ?_)
          obtain ⟨q_23, hm_23⟩ := h_23
          rw [hm_23, q_23, hQ1.1]
          refine za_icmp_ge 88 hc dW_intersect_26 rfl (fun h_26 => ?_) (fun h_26 => ?_)
          · skip
            exact absurd ((nI_leI (by omega) (by omega)).mp h_26) (by omega)
          · skip
            refine za_aload_n hc dW_intersect_29 rfl ?_
            refine za_getS hc gfW_10 (by assumption) dW_intersect_30 ?_
            refine za_cV0v hc gsW_36 (by assumption) (cD_clear_ l M1 hd) ⟨rfl, rfl⟩ ⟨Nat.le_of_ble_eq_true rfl, Nat.le_of_ble_eq_true rfl⟩ ⟨Nat.zero_le _, Nat.zero_le _⟩ dW_intersect_33 (fun M_33 h_33 => ?_)
            subst h_33
            have hP2 : rH (zsI M1 13 5 0) p P := rH_kept hP hf2 (wR_rg hs hp hpn (b := 0) (by decide)) (wR_rg hs hp hpn (by decide)) (wR_rg hs hp hpn (by decide))
            have hQ2 : rH (zsI M1 13 5 0) q Q := rH_kept hQ hf2 (wR_rg hs hq hqn (b := 0) (by decide)) (wR_rg hs hq hqn (by decide)) (wR_rg hs hq hqn (by decide))
            refine za_aload_n hc dW_intersect_36 rfl ?_
            refine za_iload_n hc dW_intersect_37 rfl ?_
            refine za_aload_n hc dW_intersect_38 rfl ?_
            refine za_iload_n hc dW_intersect_39 rfl ?_
            refine za_cV1i hc gsW_37 (by assumption) (cR_memberCount_ l (zsI M1 13 5 0) hp (show i < 12 by omega)) ⟨rfl, rfl⟩ ⟨Nat.le_of_ble_eq_true rfl, Nat.le_of_ble_eq_true rfl⟩ ⟨Nat.zero_le _, Nat.zero_le _⟩ dW_intersect_40 (fun x_40 M_40 h_40 => ?_)
            obtain ⟨q_40, hm_40⟩ := h_40
            rw [hm_40, q_40, (hP2.2.2 i pr hpi).2.1]
            refine za_aload_n hc dW_intersect_43 rfl ?_
            refine za_getS hc gfW_10 (by assumption) dW_intersect_44 ?_
            refine za_cV3v hc gsW_41 (by assumption) (cR_pour_ l (zsI M1 13 5 0) hp hd hP2 hpi (Nat.le_refl _) hH2 (by simp only [List.length_nil]; omega)) ⟨rfl, rfl⟩ ⟨Nat.le_of_ble_eq_true rfl, Nat.le_of_ble_eq_true rfl⟩ ⟨Nat.zero_le _, Nat.zero_le _⟩ dW_intersect_47 (fun M_47 h_47 => ?_)
            obtain ⟨g1, g2⟩ := h_47
            rw [List.take_length] at g1
            have hf3 : zfr (wR (zR M 12 2)) M M_47 := hf2.tr (g2.wk (fun k z => Or.inl (dB_F z)))
            have hQ3 : rH M_47 q Q := rH_kept hQ hf3 (wR_rg hs hq hqn (b := 0) (by decide)) (wR_rg hs hq hqn (by decide)) (wR_rg hs hq hqn (by decide))
            refine za_aload_n hc dW_intersect_50 rfl ?_
            refine za_iload hc dW_intersect_51 rfl ?_
            refine za_aload_n hc dW_intersect_53 rfl ?_
            refine za_iload hc dW_intersect_54 rfl ?_
            refine za_cV1i hc gsW_37 (by assumption) (cR_memberCount_ l M_47 hq (show j < 12 by omega)) ⟨rfl, rfl⟩ ⟨Nat.le_of_ble_eq_true rfl, Nat.le_of_ble_eq_true rfl⟩ ⟨Nat.zero_le _, Nat.zero_le _⟩ dW_intersect_56 (fun x_56 M_56 h_56 => ?_)
            obtain ⟨q_56, hm_56⟩ := h_56
            rw [hm_56, q_56, (hQ3.2.2 j qr hqj).2.1]
            refine za_aload_n hc dW_intersect_59 rfl ?_
            refine za_getS hc gfW_10 (by assumption) dW_intersect_60 ?_
            refine za_cV3v hc gsW_41 (by assumption) (cR_pour_ l M_47 hq hd hQ3 hqj (Nat.le_refl _) g1 (by have := g_put_len [] pr; simp only [List.length_nil] at this; omega)) ⟨rfl, rfl⟩ ⟨Nat.le_of_ble_eq_true rfl, Nat.le_of_ble_eq_true rfl⟩ ⟨Nat.zero_le _, Nat.zero_le _⟩ dW_intersect_63 (fun M_63 h_63 => ?_)
            obtain ⟨g3, g4⟩ := h_63
            rw [List.take_length, ← List.foldl_append] at g3
            have hf4 : zfr (wR (zR M 12 2)) M M_63 := hf3.tr (g4.wk (fun k z => Or.inl (dB_F z)))
            have hfd : zfr (dF 13) M1 M_63 := (zfr_sI ⟨by decide, by decide⟩).tr ((g2.wk (fun k => dB_F)).tr (g4.wk (fun k => dB_F)))
            have hfB : zfr (dB 13) M1 M_63 := (zfr_sI ⟨by decide, by decide⟩).tr (g2.tr g4)
            have e63 : zR M_63 12 = zR M 12 := (hf4 _ (wR_12 hs)).2.2
            have hR4 : rH M_63 (zR M 12 2) acc := rH_kept hR1 hfd (dF_rg hd hs (b := 0) (by decide)) (dF_rg hd hs (b := 1) (by decide)) (dF_rg hd hs (b := 2) (by decide))
            have hs4 : sB M_63 18 := sB_kept hs1 hfB (fun z => by have := z.2; omega) (fun z => by have := z.2; omega) (fun z => by have := z.2; omega)
            refine za_aload_n hc dW_intersect_66 rfl ?_
            refine za_getR hc gfW_23 (by assumption) dW_intersect_67 ?_
            rw [e63]
            refine za_aload_n hc dW_intersect_70 rfl ?_
            refine za_getS hc gfW_10 (by assumption) dW_intersect_71 ?_
            refine za_cV1i hc gsW_45 (by assumption) (cR_admit_ l M_63 hs hd hR4 g3 hs4 (gok_row (fun m hm => (List.mem_append.mp hm).elim (a4 m) (b4 m)))) ⟨rfl, rfl⟩ ⟨Nat.le_of_ble_eq_true rfl, Nat.le_of_ble_eq_true rfl⟩ ⟨Nat.zero_le _, Nat.zero_le _⟩ dW_intersect_74 (fun x_74 M_74 h_74 => ?_)
            obtain ⟨v1, v2, v3, v4⟩ := h_74
            have hf5 : zfr (wR (zR M 12 2)) M M_74 := hf4.tr v4
            refine za_if_ne 82 hc dW_intersect_77 rfl (fun h_77 => ?_) (fun h_77 => ?_)
            · skip
              refine za_iinc hc _ dW_intersect_82 rfl ((nI_succ j).symm) (by decide) ?_
              refine za_goto 20 hc dW_intersect_85 rfl ?_
              cases hga : gadd acc ((pr ++ qr).foldl gput []) with
              | none => rw [hga] at v1; exact absurd v1 h_77
              | some a =>
                rw [hga] at v1
                unfold gand1 at hg
                rw [hga] at hg
                exact ihu (j + 1) a M_74 hdu2 (by omega) hg v1.2 v2 v3 hf5
            · skip
              refine za_iconst hc 0 dW_intersect_80 rfl ?_
              exact za_zret hc rfl (rfl) dW_intersect_81 ⟨Nat.zero_le _, Nat.zero_le _⟩ (⟨0, rfl, by
              cases hga : gadd acc ((pr ++ qr).foldl gput []) with
              | none => unfold gand1 at hg; rw [hga] at hg; rw [← hg]
              | some a => rw [hga] at v1; rw [h_77] at v1; exact absurd v1.1 (by decide), wI_kept hI hf5 (wR_12 hs) v2 v3, (hf5 _ (wR_12 hs)).2.2, hf5⟩)
      have e12 : zR M1 12 = zR M 12 := (hf _ (wR_12 hs)).2.2
      have hP1 : rH M1 p P := rH_kept hP hf (wR_rg hs hp hpn (b := 0) (by decide)) (wR_rg hs hp hpn (by decide)) (wR_rg hs hp hpn (by decide))
      have hQ1 : rH M1 q Q := rH_kept hQ hf (wR_rg hs hq hqn (b := 0) (by decide)) (wR_rg hs hq hqn (by decide)) (wR_rg hs hq hqn (by decide))
      refine za_iload_n hc dW_intersect_9 rfl ?_
      refine za_aload_n hc dW_intersect_10 rfl ?_
      refine za_cV0i hc gsW_32 (by assumption) (cR_rowCount_ l M1 hp) ⟨rfl, rfl⟩ ⟨Nat.le_of_ble_eq_true rfl, Nat.le_of_ble_eq_true rfl⟩ ⟨Nat.zero_le _, Nat.zero_le _⟩ dW_intersect_11 (fun x_11 M_11 h_11 => ?_)
      obtain ⟨q_11, hm_11⟩ := h_11
      rw [hm_11, q_11, hP1.1]
      refine za_icmp_ge 94 hc dW_intersect_14 rfl (fun h_14 => ?_) (fun h_14 => ?_)
      · skip
        exact absurd ((nI_leI (by omega) (by omega)).mp h_14) (by omega)
      · skip
        refine za_iconst hc 0 dW_intersect_17 rfl ?_
        refine za_istore hc dW_intersect_18 (by decide) ?_
        exact inner Q 0 acc M1 rfl (by omega) (by unfold gand2 at hg; exact hg) hR1 hb1 hs1 hf
  refine za_aload_n hc dW_intersect_0 rfl ?_
  refine za_getR hc gfW_23 (by assumption) dW_intersect_1 ?_
  refine za_cV0v hc gsW_29 (by assumption) (cR_clear_ l M hs) ⟨rfl, rfl⟩ ⟨Nat.le_of_ble_eq_true rfl, Nat.le_of_ble_eq_true rfl⟩ ⟨Nat.zero_le _, Nat.zero_le _⟩ dW_intersect_4 (fun M_4 h_4 => ?_)
  subst h_4
  refine za_iconst hc 0 dW_intersect_7 rfl ?_
  refine za_istore_n hc dW_intersect_8 (by decide) ?_
  exact outer P 0 [] _ rfl (by omega) rfl rH_clear (zfr_bo (zfr_sI (P := rF (zR M 12 2)) ⟨Nat.le_refl _, by omega⟩) (rF_dr hd hs (a := 4) (by decide)) hI.2.1) (sB_kept hI.2.2 (zfr_sI (P := rF (zR M 12 2)) ⟨Nat.le_refl _, by omega⟩) (rF_dr hd hs (a := 6) (by decide)) (rF_dr hd hs (a := 7) (by decide)) (rF_dr hd hs (a := 8) (by decide))) (zfr_sI (Or.inr ⟨Nat.le_refl _, by omega⟩))

set_option maxRecDepth 100000 in
set_option maxHeartbeats 4000000 in
theorem cW_unite_ (l : Launch) {p q : Nat} {P Q : List (List gC)} (M : zM) (hI : wI M) (hp : zrg p) (hq : zrg q) (hpn : p ≠ zR M 12 2) (hqn : q ≠ zR M 12 2) (hP : rH M p P) (hQ : rH M q Q) : zMet l mW_unite rW_unite [.ref 12, .ref p, .ref q] M (zqi (wP M (zR M 12 2) (gor1 P Q))) := by
  refine za_enter (by decide) (Nat.le_of_ble_eq_true rfl) (fun X hc => ?_)
  have hw := zob_12
  have hd := zdr_13
  have hdo := hd.o
  have hs := wI_res hI
  have hso := hs.o
  have hno : zob (12 + 1) 0 := hd.o
  have hpo := hp.o
  have hqo := hq.o
  have hql := hQ.2.1
  have loop : ∀ (u : List (List gC)) (j : Nat) (acc : List (List gC)) (M1 : zM), Q.drop j = u → j + u.length = Q.length → gor1 acc u = gor1 P Q → rH M1 (zR M 12 2) acc → zbo M1 13 → sB M1 18 → zfr (wR (zR M 12 2)) M M1 → zW X (zqi (wP M (zR M 12 2) (gor1 P Q))) (0, 0) 10 [(0, .ref 12), (1, .ref p), (2, .ref q), (3, .int (nI j))] [] M1 := by
    intro u
    induction u with
    | nil =>
      intro j acc M1 hdu hm hg hR1 hb1 hs1 hf
      simp only [List.length_nil] at hm
      have e12 : zR M1 12 = zR M 12 := (hf _ (wR_12 hs)).2.2
      have hQ1 : rH M1 q Q := rH_kept hQ hf (wR_rg hs hq hqn (b := 0) (by decide)) (wR_rg hs hq hqn (by decide)) (wR_rg hs hq hqn (by decide))
      refine za_iload_n hc dW_unite_10 rfl ?_
      refine za_aload_n hc dW_unite_11 rfl ?_
      refine za_cV0i hc gsW_32 (by assumption) (cR_rowCount_ l M1 hq) ⟨rfl, rfl⟩ ⟨Nat.le_of_ble_eq_true rfl, Nat.le_of_ble_eq_true rfl⟩ ⟨Nat.zero_le _, Nat.zero_le _⟩ dW_unite_12 (fun x_12 M_12 h_12 => ?_)
      obtain ⟨q_12, hm_12⟩ := h_12
      rw [hm_12, q_12, hQ1.1]
      refine za_icmp_ge 61 hc dW_unite_15 rfl (fun h_15 => ?_) (fun h_15 => ?_)
      · skip
        refine za_iconst hc 1 dW_unite_61 rfl ?_
        exact za_zret hc rfl (rfl) dW_unite_62 ⟨Nat.zero_le _, Nat.zero_le _⟩ (⟨1, rfl, by rw [← hg]; exact ⟨rfl, hR1⟩, wI_kept hI hf (wR_12 hs) hb1 hs1, e12, hf⟩)
      · skip
        exact absurd ((nI_leI (by omega) (by omega)).mpr (show Q.length ≤ j by omega)) h_15
    | cons qr u ihu =>
      intro j acc M1 hdu hm hg hR1 hb1 hs1 hf
      simp only [List.length_cons] at hm
      have hqj : Q[j]? = some qr := by rw [← List.head?_drop, hdu]; rfl
      have hdu2 : Q.drop (j + 1) = u := by rw [← List.drop_drop, hdu]; rfl
      have e12 : zR M1 12 = zR M 12 := (hf _ (wR_12 hs)).2.2
      have hQ1 : rH M1 q Q := rH_kept hQ hf (wR_rg hs hq hqn (b := 0) (by decide)) (wR_rg hs hq hqn (by decide)) (wR_rg hs hq hqn (by decide))
      obtain ⟨b1, b2, b3, b4⟩ := hQ1.2.2 j qr hqj
      have hH2 := dH_clear (d := 13) hb1
      have hf2 : zfr (wR (zR M 12 2)) M (zsI M1 13 5 0) := hf.tr (zfr_sI (Or.inl ⟨by decide, by decide⟩))
      refine za_iload_n hc dW_unite_10 rfl ?_
      refine za_aload_n hc dW_unite_11 rfl ?_
      refine za_cV0i hc gsW_32 (by assumption) (cR_rowCount_ l M1 hq) ⟨rfl, rfl⟩ ⟨Nat.le_of_ble_eq_true rfl, Nat.le_of_ble_eq_true rfl⟩ ⟨Nat.zero_le _, Nat.zero_le _⟩ dW_unite_12 (fun x_12 M_12 h_12 => ?_)
      obtain ⟨q_12, hm_12⟩ := h_12
      rw [hm_12, q_12, hQ1.1]
      refine za_icmp_ge 61 hc dW_unite_15 rfl (fun h_15 => ?_) (fun h_15 => ?_)
      · skip
        exact absurd ((nI_leI (by omega) (by omega)).mp h_15) (by omega)
      · skip
        refine za_aload_n hc dW_unite_18 rfl ?_
        refine za_getS hc gfW_10 (by assumption) dW_unite_19 ?_
        refine za_cV0v hc gsW_36 (by assumption) (cD_clear_ l M1 hd) ⟨rfl, rfl⟩ ⟨Nat.le_of_ble_eq_true rfl, Nat.le_of_ble_eq_true rfl⟩ ⟨Nat.zero_le _, Nat.zero_le _⟩ dW_unite_22 (fun M_22 h_22 => ?_)
        subst h_22
        have hQ2 : rH (zsI M1 13 5 0) q Q := rH_kept hQ hf2 (wR_rg hs hq hqn (b := 0) (by decide)) (wR_rg hs hq hqn (by decide)) (wR_rg hs hq hqn (by decide))
        refine za_aload_n hc dW_unite_25 rfl ?_
        refine za_iload_n hc dW_unite_26 rfl ?_
        refine za_aload_n hc dW_unite_27 rfl ?_
        refine za_iload_n hc dW_unite_28 rfl ?_
        refine za_cV1i hc gsW_37 (by assumption) (cR_memberCount_ l (zsI M1 13 5 0) hq (show j < 12 by omega)) ⟨rfl, rfl⟩ ⟨Nat.le_of_ble_eq_true rfl, Nat.le_of_ble_eq_true rfl⟩ ⟨Nat.zero_le _, Nat.zero_le _⟩ dW_unite_29 (fun x_29 M_29 h_29 => ?_)
        obtain ⟨q_29, hm_29⟩ := h_29
        rw [hm_29, q_29, (hQ2.2.2 j qr hqj).2.1]
        refine za_aload_n hc dW_unite_32 rfl ?_
        refine za_getS hc gfW_10 (by assumption) dW_unite_33 ?_
        refine za_cV3v hc gsW_41 (by assumption) (cR_pour_ l (zsI M1 13 5 0) hq hd hQ2 hqj (Nat.le_refl _) hH2 (by simp only [List.length_nil]; omega)) ⟨rfl, rfl⟩ ⟨Nat.le_of_ble_eq_true rfl, Nat.le_of_ble_eq_true rfl⟩ ⟨Nat.zero_le _, Nat.zero_le _⟩ dW_unite_36 (fun M_36 h_36 => ?_)
        obtain ⟨g3, g4⟩ := h_36
        rw [List.take_length] at g3
        have hf4 : zfr (wR (zR M 12 2)) M M_36 := hf2.tr (g4.wk (fun k z => Or.inl (dB_F z)))
        have hfd : zfr (dF 13) M1 M_36 := (zfr_sI ⟨by decide, by decide⟩).tr (g4.wk (fun k => dB_F))
        have hfB : zfr (dB 13) M1 M_36 := (zfr_sI ⟨by decide, by decide⟩).tr g4
        have e36 : zR M_36 12 = zR M 12 := (hf4 _ (wR_12 hs)).2.2
        have hR4 : rH M_36 (zR M 12 2) acc := rH_kept hR1 hfd (dF_rg hd hs (b := 0) (by decide)) (dF_rg hd hs (b := 1) (by decide)) (dF_rg hd hs (b := 2) (by decide))
        have hs4 : sB M_36 18 := sB_kept hs1 hfB (fun z => by have := z.2; omega) (fun z => by have := z.2; omega) (fun z => by have := z.2; omega)
        refine za_aload_n hc dW_unite_39 rfl ?_
        refine za_getR hc gfW_23 (by assumption) dW_unite_40 ?_
        rw [e36]
        refine za_aload_n hc dW_unite_43 rfl ?_
        refine za_getS hc gfW_10 (by assumption) dW_unite_44 ?_
        refine za_cV1i hc gsW_45 (by assumption) (cR_admit_ l M_36 hs hd hR4 g3 hs4 (gok_row b4)) ⟨rfl, rfl⟩ ⟨Nat.le_of_ble_eq_true rfl, Nat.le_of_ble_eq_true rfl⟩ ⟨Nat.zero_le _, Nat.zero_le _⟩ dW_unite_47 (fun x_47 M_47 h_47 => ?_)
        obtain ⟨v1, v2, v3, v4⟩ := h_47
        have hf5 : zfr (wR (zR M 12 2)) M M_47 := hf4.tr v4
        refine za_if_ne 55 hc dW_unite_50 rfl (fun h_50 => ?_) (fun h_50 => ?_)
        · skip
          refine za_iinc hc _ dW_unite_55 rfl ((nI_succ j).symm) (by decide) ?_
          refine za_goto 10 hc dW_unite_58 rfl ?_
          cases hga : gadd acc (qr.foldl gput []) with
          | none => rw [hga] at v1; exact absurd v1 h_50
          | some a =>
            rw [hga] at v1
            have hg : (match gadd acc (qr.foldl gput []) with | some a => gor1 a u | none => none) = gor1 P Q := hg
            rw [hga] at hg
            exact ihu (j + 1) a M_47 hdu2 (by omega) hg v1.2 v2 v3 hf5
        · skip
          refine za_iconst hc 0 dW_unite_53 rfl ?_
          exact za_zret hc rfl (rfl) dW_unite_54 ⟨Nat.zero_le _, Nat.zero_le _⟩ (⟨0, rfl, by
          cases hga : gadd acc (qr.foldl gput []) with
          | none => have hg : (match gadd acc (qr.foldl gput []) with | some a => gor1 a u | none => none) = gor1 P Q := hg; rw [hga] at hg; rw [← hg]
          | some a => rw [hga] at v1; rw [h_50] at v1; exact absurd v1.1 (by decide), wI_kept hI hf5 (wR_12 hs) v2 v3, (hf5 _ (wR_12 hs)).2.2, hf5⟩)
  refine za_aload_n hc dW_unite_0 rfl ?_
  refine za_getR hc gfW_23 (by assumption) dW_unite_1 ?_
  refine za_aload_n hc dW_unite_4 rfl ?_
  refine za_cV1v hc gsW_49 (by assumption) (cR_copy_ l M hs hp hpn hP) ⟨rfl, rfl⟩ ⟨Nat.le_of_ble_eq_true rfl, Nat.le_of_ble_eq_true rfl⟩ ⟨Nat.zero_le _, Nat.zero_le _⟩ dW_unite_5 (fun M_5 h_5 => ?_)
  obtain ⟨c1, c2⟩ := h_5
  refine za_iconst hc 0 dW_unite_8 rfl ?_
  refine za_istore_n hc dW_unite_9 (by decide) ?_
  have hfw : zfr (wR (zR M 12 2)) M M_5 := c2.wk (fun k => Or.inr)
  exact loop Q 0 P M_5 rfl (by omega) rfl c1 (zfr_bo c2 (rF_dr hd hs (a := 4) (by decide)) hI.2.1) (sB_kept hI.2.2 c2 (rF_dr hd hs (a := 6) (by decide)) (rF_dr hd hs (a := 7) (by decide)) (rF_dr hd hs (a := 8) (by decide))) hfw

set_option maxRecDepth 100000 in
set_option maxHeartbeats 4000000 in
theorem cW_result_ (l : Launch) (M : zM) : zMet l mW_result rW_result [.ref 12] M (zqr (fun x M' => x = zR M 12 2 ∧ M' = M)) := by
  refine za_enter (by decide) (Nat.le_of_ble_eq_true rfl) (fun X hc => ?_)
  have hw := zob_12
  refine za_aload_n hc dW_result_0 rfl ?_
  refine za_getR hc gfW_23 (by assumption) dW_result_1 ?_
  exact za_aret hc rfl dW_result_4 ⟨Nat.zero_le _, Nat.zero_le _⟩ (⟨_, rfl, rfl, rfl⟩)
