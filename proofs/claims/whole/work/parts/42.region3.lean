/-! A row is added to a region. -/
def glim (l : List gC) : Bool := l.all (fun q => decide (q.1.natAbs ≤ 10000) && (decide (q.2.1.natAbs ≤ 10000) && decide (q.2.2.1.natAbs ≤ 10000))) && decide (l.length ≤ 12)
theorem glim_iff {l : List gC} : glim l = true ↔ (∀ q ∈ l, gLim q) ∧ l.length ≤ 12 := by
  unfold glim gLim
  simp only [Bool.and_eq_true, List.all_eq_true, decide_eq_true_eq]
/-- ADDING: what comes of it; none where a limit is passed -/
noncomputable def gadd (R : List (List gC)) (ls : List gC) : Option (List (List gC)) :=
  if gsb ls = false then some R else if glim (gthin [] ls) = false then none else if gthin [] ls ∈ R then some R else if 12 ≤ R.length then none else some (R ++ [gthin [] ls])
/-- behind an adding: the region, or that a limit is passed; the draft is fit for use -/
def rAd (M : zM) (r d : Nat) (R : List (List gC)) (a : Option (List (List gC))) (x : Int32) (M' : zM) : Prop :=
  (match a with | some R' => x = 1 ∧ rH M' r R' | none => x = 0) ∧ zbo M' d ∧ sB M' (d + 5) ∧ zfr (fun k => dF d k ∨ rF r k) M M'

set_option maxRecDepth 100000 in
set_option maxHeartbeats 4000000 in
theorem cR_admit_ (l : Launch) {r d : Nat} {R : List (List gC)} {ls : List gC} (M : zM) (hr : zrg r) (hd : zdr d) (hR : rH M r R) (hH : dH M d ls) (hB : sB M (d + 5)) (hok : gOK ls) : zMet l mR_admit rR_admit [.ref r, .ref d] M (zqi (rAd M r d R (gadd R ls))) := by
  refine za_enter (by decide) (Nat.le_of_ble_eq_true rfl) (fun X hc => ?_)
  have hro := hr.o
  have hrz := hr.z
  have hrn := hr.n
  have hdo := hd.o
  have hda := hd.a
  have hdb := hd.b
  have hdc := hd.c
  have hds := hd.s
  have hpo := hd.p.o
  refine za_aload_n hc dR_admit_0 rfl ?_
  refine za_cV0i hc gsR_28 (by assumption) (cD_hasPoints_ l M hd hH hB hok) ⟨rfl, rfl⟩ ⟨Nat.le_of_ble_eq_true rfl, Nat.le_of_ble_eq_true rfl⟩ ⟨Nat.zero_le _, Nat.zero_le _⟩ dR_admit_1 (fun x_1 M_1 h_1 => ?_)
  obtain ⟨k1, k2, k3, k4, k5⟩ := h_1
  have hf1 : zfr (dF d) M M_1 := k5.wk (fun k z => ⟨by have := z.1; omega, by have := z.2; omega⟩)
  refine za_if_ne 9 hc dR_admit_4 rfl (fun h_4 => ?_) (fun h_4 => ?_)
  · skip
    have hs : gsb ls = true := gsb_iff.mpr (k2.mp (k1.resolve_left h_4))
    refine za_aload_n hc dR_admit_9 rfl ?_
    refine za_cV0v hc gsR_34 (by assumption) (cD_dropImplied_ l M_1 hd k3 k4 hok) ⟨rfl, rfl⟩ ⟨Nat.le_of_ble_eq_true rfl, Nat.le_of_ble_eq_true rfl⟩ ⟨Nat.zero_le _, Nat.zero_le _⟩ dR_admit_10 (fun M_10 h_10 => ?_)
    obtain ⟨t1, t2, t3⟩ := h_10
    have hf2 : zfr (dF d) M M_10 := hf1.tr t3
    have hR2 : rH M_10 r R := rH_kept hR hf2 (dF_rg hd hr (b := 0) (by decide)) (dF_rg hd hr (b := 1) (by decide)) (dF_rg hd hr (b := 2) (by decide))
    refine za_aload_n hc dR_admit_13 rfl ?_
    refine za_cV0i hc gsR_37 (by assumption) (cD_keepsLimits_ l M_10 hd t1) ⟨rfl, rfl⟩ ⟨Nat.le_of_ble_eq_true rfl, Nat.le_of_ble_eq_true rfl⟩ ⟨Nat.zero_le _, Nat.zero_le _⟩ dR_admit_14 (fun x_14 M_14 h_14 => ?_)
    obtain ⟨l1, l2, hm_14⟩ := h_14
    rw [hm_14]
    refine za_if_ne 22 hc dR_admit_17 rfl (fun h_17 => ?_) (fun h_17 => ?_)
    · skip
      have hk := l1.resolve_left h_17
      have hg : glim (gthin [] ls) = true := glim_iff.mpr (l2.mp hk)
      refine za_aload_n hc dR_admit_22 rfl ?_
      refine za_aload_n hc dR_admit_23 rfl ?_
      refine za_cV1i hc gsR_40 (by assumption) (cR_contains_ l M_10 hr hd hR2 t1) ⟨rfl, rfl⟩ ⟨Nat.le_of_ble_eq_true rfl, Nat.le_of_ble_eq_true rfl⟩ ⟨Nat.zero_le _, Nat.zero_le _⟩ dR_admit_24 (fun x_24 M_24 h_24 => ?_)
      obtain ⟨c1, c2, hm_24⟩ := h_24
      rw [hm_24]
      refine za_if_eq 32 hc dR_admit_27 rfl (fun h_27 => ?_) (fun h_27 => ?_)
      · skip
        have hn : ¬ gthin [] ls ∈ R := fun z => absurd (c2.mpr z) (by rw [h_27]; decide)
        refine za_aload_n hc dR_admit_32 rfl ?_
        refine za_getI hc gfR_18 (by assumption) dR_admit_33 ?_
        refine za_bipush hc 12 dR_admit_36 rfl ?_
        rw [hR2.1]
        refine za_icmp_lt 43 hc dR_admit_38 rfl (fun h_38 => ?_) (fun h_38 => ?_)
        · skip
          have hlt : R.length < 12 := (nI_ltI (b := 12) (by have := hR.2.1; omega) (by decide)).mp h_38
          refine za_aload_n hc dR_admit_43 rfl ?_
          refine za_aload_n hc dR_admit_44 rfl ?_
          refine za_cV1v hc gsR_44 (by assumption) (cR_append_ l M_10 hr hd hR2 t1 hlt (l2.mp hk).2 (l2.mp hk).1) ⟨rfl, rfl⟩ ⟨Nat.le_of_ble_eq_true rfl, Nat.le_of_ble_eq_true rfl⟩ ⟨Nat.zero_le _, Nat.zero_le _⟩ dR_admit_45 (fun M_45 h_45 => ?_)
          obtain ⟨a1, a2⟩ := h_45
          refine za_iconst hc 1 dR_admit_48 rfl ?_
          exact za_zret hc rfl (rfl) dR_admit_49 ⟨Nat.zero_le _, Nat.zero_le _⟩ (⟨1, rfl, by unfold gadd; rw [if_neg (by rw [hs]; decide), if_neg (by rw [hg]; decide), if_neg hn, if_neg (by omega)]; exact ⟨rfl, a1⟩, zfr_bo a2 (rF_dr hd hr (by decide)) t1.2.2.2, sB_kept t2 a2 (rF_dr hd hr (a := 6) (by decide)) (rF_dr hd hr (a := 7) (by decide)) (rF_dr hd hr (a := 8) (by decide)), (hf2.wk (fun k => Or.inl)).tr (a2.wk (fun k => Or.inr))⟩)
        · skip
          have hge : 12 ≤ R.length := Nat.not_lt.mp (fun z => h_38 ((nI_ltI (b := 12) (by have := hR.2.1; omega) (by decide)).mpr z))
          refine za_iconst hc 0 dR_admit_41 rfl ?_
          exact za_zret hc rfl (rfl) dR_admit_42 ⟨Nat.zero_le _, Nat.zero_le _⟩ (⟨0, rfl, by unfold gadd; rw [if_neg (by rw [hs]; decide), if_neg (by rw [hg]; decide), if_neg hn, if_pos hge], t1.2.2.2, t2, hf2.wk (fun k => Or.inl)⟩)
      · skip
        have hn : gthin [] ls ∈ R := c2.mp (c1.resolve_left h_27)
        refine za_iconst hc 1 dR_admit_30 rfl ?_
        exact za_zret hc rfl (rfl) dR_admit_31 ⟨Nat.zero_le _, Nat.zero_le _⟩ (⟨1, rfl, by unfold gadd; rw [if_neg (by rw [hs]; decide), if_neg (by rw [hg]; decide), if_pos hn]; exact ⟨rfl, hR2⟩, t1.2.2.2, t2, hf2.wk (fun k => Or.inl)⟩)
    · skip
      have hg : glim (gthin [] ls) = false := by cases z : glim (gthin [] ls) with | false => rfl | true => exact absurd (l2.mpr (glim_iff.mp z)) (by rw [h_17]; decide)
      refine za_iconst hc 0 dR_admit_20 rfl ?_
      exact za_zret hc rfl (rfl) dR_admit_21 ⟨Nat.zero_le _, Nat.zero_le _⟩ (⟨0, rfl, by unfold gadd; rw [if_neg (by rw [hs]; decide), if_pos hg], t1.2.2.2, t2, hf2.wk (fun k => Or.inl)⟩)
  · skip
    have hs : gsb ls = false := by cases z : gsb ls with | false => rfl | true => exact absurd (k2.mpr (gsb_iff.mp z)) (by rw [h_4]; decide)
    refine za_iconst hc 1 dR_admit_7 rfl ?_
    exact za_zret hc rfl (rfl) dR_admit_8 ⟨Nat.zero_le _, Nat.zero_le _⟩ (⟨1, rfl, by unfold gadd; rw [if_pos hs]; exact ⟨rfl, rH_kept hR hf1 (dF_rg hd hr (b := 0) (by decide)) (dF_rg hd hr (b := 1) (by decide)) (dF_rg hd hr (b := 2) (by decide))⟩, k3.2.2.2, k4, hf1.wk (fun k => Or.inl)⟩)

set_option maxRecDepth 100000 in
set_option maxHeartbeats 4000000 in
theorem cR_copy_ (l : Launch) {r q : Nat} {R : List (List gC)} (M : zM) (hr : zrg r) (hq : zrg q) (hne : q ≠ r) (hR : rH M q R) : zMet l mR_copy rR_copy [.ref r, .ref q] M (zqv (fun M' => rH M' r R ∧ zfr (rF r) M M')) := by
  refine za_enter (by decide) (Nat.le_of_ble_eq_true rfl) (fun X hc => ?_)
  have hro := hr.o
  have hrz := hr.z
  have hrn := hr.n
  have hqo := hq.o
  have hqz := hq.z
  have hqn := hq.n
  have hl := hR.2.1
  have loop : ∀ n i (M1 : zM), n + i = R.length → zfr (rF r) M M1 → zI M1 r 2 = nI R.length → (∀ j row, j < i → R[j]? = some row → zI M1 (r + 1) j = nI row.length ∧ ∀ x, x < 4 * row.length → zI M1 (r + 2) (48 * j + x) = zI M (q + 2) (48 * j + x)) → zW X (zqv (fun M' => rH M' r R ∧ zfr (rF r) M M')) (0, 0) 10 [(0, .ref r), (1, .ref q), (2, .int (nI i))] [] M1 := by
    intro n
    induction n with
    | zero =>
      intro i M1 hn hf h0 hx
      refine za_iload_n hc dR_copy_10 rfl ?_
      refine za_aload_n hc dR_copy_11 rfl ?_
      refine za_getI hc gfR_18 (by assumption) dR_copy_12 ?_
      rw [h0]
      refine za_icmp_ge 63 hc dR_copy_15 rfl (fun h_15 => ?_) (fun h_15 => ?_)
      · skip
        refine za_vret hc rfl dR_copy_63 ⟨Nat.zero_le _, Nat.zero_le _⟩ ⟨rfl, ⟨h0, hl, fun j row hrow => ?_⟩, hf⟩
        have hj := (List.getElem?_eq_some_iff.mp hrow).1
        obtain ⟨g1, g2⟩ := hx j row (by omega) hrow
        obtain ⟨w1, w2, w3, w4⟩ := hR.2.2 j row hrow
        refine ⟨w1, g1, fun k m hk => ?_, w4⟩
        have := (List.getElem?_eq_some_iff.mp hk).1
        rw [← w3 k m hk]
        unfold rg
        have a0 := g2 (4 * k) (by omega)
        have a1 := g2 (4 * k + 1) (by omega)
        have a2 := g2 (4 * k + 2) (by omega)
        have a3 := g2 (4 * k + 3) (by omega)
        rw [show 48 * j + (4 * k + 1) = 48 * j + 4 * k + 1 by omega] at a1
        rw [show 48 * j + (4 * k + 2) = 48 * j + 4 * k + 2 by omega] at a2
        rw [show 48 * j + (4 * k + 3) = 48 * j + 4 * k + 3 by omega] at a3
        rw [a0, a1, a2, a3]
      · skip
        exact absurd ((nI_leI (by omega) (by omega)).mpr (show R.length ≤ i by omega)) h_15
    | succ n ih =>
      intro i M1 hn hf h0 hx
      have hri := List.getElem?_eq_getElem (l := R) (show i < R.length by omega)
      obtain ⟨w1, w2, w3, w4⟩ := hR.2.2 i _ hri
      generalize hrow : R[i] = row at hri w1 w2 w3 w4
      have kz : zI M1 (q + 1) = zI M (q + 1) := (hf _ (rF_rg hq hr hne (by decide))).1
      have kn : zI M1 (q + 2) = zI M (q + 2) := (hf _ (rF_rg hq hr hne (by decide))).1
      have n1 : ¬ q + 2 = r + 1 := zrg_rg hq hr hne (by decide) (by decide)
      refine za_iload_n hc dR_copy_10 rfl ?_
      refine za_aload_n hc dR_copy_11 rfl ?_
      refine za_getI hc gfR_18 (by assumption) dR_copy_12 ?_
      rw [h0]
      refine za_icmp_ge 63 hc dR_copy_15 rfl (fun h_15 => ?_) (fun h_15 => ?_)
      · skip
        exact absurd ((nI_leI (by omega) (by omega)).mp h_15) (by omega)
      · skip
        refine za_aload_n hc dR_copy_18 rfl ?_
        refine za_getS hc gfR_11 (by assumption) dR_copy_19 ?_
        refine za_iload_n hc dR_copy_22 rfl ?_
        refine za_aload_n hc dR_copy_23 rfl ?_
        refine za_getS hc gfR_11 (by assumption) dR_copy_24 ?_
        refine za_iload_n hc dR_copy_27 rfl ?_
        refine za_iald hc (by assumption) dR_copy_28 (vp_in_nI (show i < 12 by omega) (by decide)) ?_
        rw [nI_clamp (show i < 2 ^ 31 by omega), kz, w2]
        refine za_iast hc (by assumption) dR_copy_29 (vp_in_nI (show i < 12 by omega) (by decide)) ?_
        rw [nI_clamp (show i < 2 ^ 31 by omega)]
        refine za_aload_n hc dR_copy_30 rfl ?_
        refine za_getS hc gfR_15 (by assumption) dR_copy_31 ?_
        refine za_iload_n hc dR_copy_34 rfl ?_
        refine za_bipush hc 48 dR_copy_35 rfl ?_
        refine za_imul hc dR_copy_37 ?_
        refine za_aload_n hc dR_copy_38 rfl ?_
        refine za_getS hc gfR_15 (by assumption) dR_copy_39 ?_
        refine za_iload_n hc dR_copy_42 rfl ?_
        refine za_bipush hc 48 dR_copy_43 rfl ?_
        refine za_imul hc dR_copy_45 ?_
        refine za_aload_n hc dR_copy_46 rfl ?_
        refine za_getS hc gfR_11 (by assumption) dR_copy_47 ?_
        refine za_iload_n hc dR_copy_50 rfl ?_
        refine za_iald hc (by assumption) dR_copy_51 (vp_in_nI (show i < 12 by omega) (by decide)) ?_
        rw [nI_clamp (show i < 2 ^ 31 by omega), zI_s, if_pos rfl]
        refine za_iconst hc 4 dR_copy_52 rfl ?_
        refine za_imul hc dR_copy_53 ?_
        rw [zix1, show nI row.length * (4 : Int32) = nI (4 * row.length) from by rw [show (4 : Int32) = nI 4 from rfl, pk_mul, Nat.mul_comm]]
        refine za_copyi hc jmR_22 (by assumption) (by assumption) (nI_pos (by omega)) (nI_pos (by omega)) (nI_pos (by omega)) (by rw [nI_clamp (show 48 * i < 2 ^ 31 by omega), nI_clamp (show 4 * row.length < 2 ^ 31 by omega)]; omega) (by rw [nI_clamp (show 48 * i < 2 ^ 31 by omega), nI_clamp (show 4 * row.length < 2 ^ 31 by omega)]; omega) ⟨Nat.le_of_ble_eq_true rfl, Nat.le_of_ble_eq_true rfl⟩ dR_copy_54 ?_
        rw [nI_clamp (show 48 * i < 2 ^ 31 by omega), nI_clamp (show 4 * row.length < 2 ^ 31 by omega)]
        refine za_iinc hc _ dR_copy_57 rfl ((nI_succ i).symm) (by decide) ?_
        refine za_goto 10 hc dR_copy_60 rfl ?_
        refine ih (i + 1) _ (by omega) (hf.tr ((zfr_sI ⟨by omega, by omega⟩).tr (zfr_rI ⟨by omega, by omega⟩))) ?_ ?_
        · rw [zI_rI, if_neg (show ¬ r = r + 2 by omega), zI_o (show ¬ r = r + 1 by omega)]; exact h0
        · intro j row' hj hr'
          rw [zI_rI, if_neg (show ¬ r + 1 = r + 2 by omega), zI_s, zI_rI, if_pos rfl, zI_o n1, kn, zI_o (show ¬ r + 2 = r + 1 by omega)]
          have hw1 := (hR.2.2 j row' hr').1
          by_cases c : j = i
          · subst c
            rw [hri] at hr'
            obtain rfl := Option.some.inj hr'
            rw [if_pos rfl]
            refine ⟨rfl, fun x hx2 => ?_⟩
            rw [pk_cpy_in (by omega) (by omega)]
            congr 1; omega
          · obtain ⟨g1, g2⟩ := hx j row' (by omega) hr'
            rw [if_neg c]
            refine ⟨g1, fun x hx2 => ?_⟩
            rw [pk_cpy_out (by omega)]; exact g2 x hx2
  refine za_aload_n hc dR_copy_0 rfl ?_
  refine za_aload_n hc dR_copy_1 rfl ?_
  refine za_getI hc gfR_18 (by assumption) dR_copy_2 ?_
  rw [hR.1]
  refine za_putI hc gpR_18 (by assumption) dR_copy_5 ?_
  refine za_iconst hc 0 dR_copy_8 rfl ?_
  refine za_istore_n hc dR_copy_9 (by decide) ?_
  refine loop R.length 0 _ (by omega) (zfr_sI ⟨Nat.le_refl _, by omega⟩) (by rw [zI_s, if_pos rfl]) (fun j row hj => absurd hj (Nat.not_lt_zero _))
