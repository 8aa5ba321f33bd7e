/-! A region holds a list of rows. -/
def rg (M : zM) (r j i : Nat) : gC := ((zI M (r + 2) (48 * j + 4 * i)).toInt, (zI M (r + 2) (48 * j + 4 * i + 1)).toInt, (zI M (r + 2) (48 * j + 4 * i + 2)).toInt, zI M (r + 2) (48 * j + 4 * i + 3) == 1)
def rH (M : zM) (r : Nat) (R : List (List gC)) : Prop := zI M r 2 = nI R.length ∧ R.length ≤ 12 ∧ ∀ j row, R[j]? = some row → row.length ≤ 12 ∧ zI M (r + 1) j = nI row.length ∧ (∀ i q, row[i]? = some q → rg M r j i = q) ∧ ∀ q ∈ row, gLim q
def rF (r : Nat) : Nat → Prop := fun k => r ≤ k ∧ k ≤ r + 2
theorem rH_clear {M : zM} {r : Nat} : rH (zsI M r 2 0) r [] := ⟨by rw [zI_s, if_pos rfl]; rfl, by decide, fun j row h => by simp at h⟩
theorem rH_kept {P : Nat → Prop} {M M' : zM} {r : Nat} {R : List (List gC)} (h : rH M r R) (hf : zfr P M M') (h0 : ¬ P r) (h1 : ¬ P (r + 1)) (h2 : ¬ P (r + 2)) : rH M' r R := by
  have e : rg M' r = rg M r := by funext j i; unfold rg; rw [(hf _ h2).1]
  unfold rH
  rw [(hf _ h0).1, (hf _ h1).1, e]
  exact h
theorem zix1 (j : Nat) : nI j * 48 = nI (48 * j) := by rw [show (48 : Int32) = nI 48 from rfl, pk_mul, Nat.mul_comm]
theorem i2l_int (x : Int32) : x.toInt64.toInt = x.toInt := Int32.toInt_toInt64 x
theorem b01 {x : Int32} (h : x = 0 ∨ x = 1) : ((if x = 1 then 1 else 0 : Int32) = x) := by rcases h with h | h <;> rw [h] <;> decide

set_option maxRecDepth 100000 in
set_option maxHeartbeats 4000000 in
theorem cR_isSame_ (l : Launch) {r d j : Nat} {R : List (List gC)} {row ls : List gC} (M : zM) (hr : zrg r) (hd : zdr d) (hR : rH M r R) (hrow : R[j]? = some row) (hH : dH M d ls) : zMet l mR_isSame rR_isSame [.ref r, .int (nI j), .ref d] M (zqi (fun x M' => (x = 0 ∨ x = 1) ∧ (x = 1 ↔ row = ls) ∧ M' = M)) := by
  refine za_enter (by decide) (Nat.le_of_ble_eq_true rfl) (fun X hc => ?_)
  have hro := hr.o
  have hrz := hr.z
  have hrn := hr.n
  have hdo := hd.o
  have hda := hd.a
  have hdb := hd.b
  have hdc := hd.c
  have hds := hd.s
  have hpo := hd.p.o
  obtain ⟨hw1, hw2, hw3, hw4⟩ := hR.2.2 j row hrow
  have hjl : j < 12 := by have := (List.getElem?_eq_some_iff.mp hrow).1; have := hR.2.1; omega
  have hl := hH.2.1
  have loop : ∀ n i, n + i = row.length → row.length = ls.length → (∀ k, k < i → row[k]? = ls[k]?) → zW X (zqi (fun x M' => (x = 0 ∨ x = 1) ∧ (x = 1 ↔ row = ls) ∧ M' = M)) (0, 0) 17 [(0, .ref r), (1, .int (nI j)), (2, .ref d), (3, .int (nI i))] [] M := by
    intro n
    induction n with
    | zero =>
      intro i hn hll hall
      refine za_iload_n hc dR_isSame_17 rfl ?_
      refine za_aload_n hc dR_isSame_18 rfl ?_
      refine za_getS hc gfR_11 (by assumption) dR_isSame_19 ?_
      refine za_iload_n hc dR_isSame_22 rfl ?_
      refine za_iald hc (by assumption) dR_isSame_23 (vp_in_nI hjl (by decide)) ?_
      rw [nI_clamp (show j < 2 ^ 31 by omega), hw2]
      refine za_icmp_ge 97 hc dR_isSame_24 rfl (fun h_24 => ?_) (fun h_24 => ?_)
      · skip
        have hx : row = ls := List.ext_getElem? (fun k => by
          by_cases c : k < i
          · exact hall k c
          · rw [List.getElem?_eq_none (by omega), List.getElem?_eq_none (by omega)])
        refine za_iconst hc 1 dR_isSame_97 rfl ?_
        exact za_zret hc rfl (rfl) dR_isSame_98 ⟨Nat.zero_le _, Nat.zero_le _⟩ (⟨1, rfl, Or.inr rfl, ⟨fun _ => hx, fun _ => rfl⟩, rfl⟩)
      · skip
        exact absurd ((nI_leI (by omega) (by omega)).mpr (show row.length ≤ i by omega)) h_24
    | succ n ih =>
      intro i hn hll hall
      have hri := List.getElem?_eq_getElem (l := row) (show i < row.length by omega)
      have hli := List.getElem?_eq_getElem (l := ls) (show i < ls.length by omega)
      have e1 := hw3 i _ hri
      have e2 := hH.2.2.1 i _ hli
      have hne : (rg M r j i ≠ dg M d i) → ¬ row = ls := fun h1 h2 => by rw [e1, e2] at h1; subst h2; exact h1 rfl
      have hj1 : i < 12 := by omega
      refine za_iload_n hc dR_isSame_17 rfl ?_
      refine za_aload_n hc dR_isSame_18 rfl ?_
      refine za_getS hc gfR_11 (by assumption) dR_isSame_19 ?_
      refine za_iload_n hc dR_isSame_22 rfl ?_
      refine za_iald hc (by assumption) dR_isSame_23 (vp_in_nI hjl (by decide)) ?_
      rw [nI_clamp (show j < 2 ^ 31 by omega), hw2]
      refine za_icmp_ge 97 hc dR_isSame_24 rfl (fun h_24 => ?_) (fun h_24 => ?_)
      · skip
        exact absurd ((nI_leI (by omega) (by omega)).mp h_24) (by omega)
      · skip
        refine za_aload_n hc dR_isSame_27 rfl ?_
        refine za_iload_n hc dR_isSame_28 rfl ?_
        refine za_iload_n hc dR_isSame_29 rfl ?_
        refine za_cV2i hc gsR_56 (by assumption) (cR_x_ l M hr hjl hj1) ⟨rfl, rfl⟩ ⟨Nat.le_of_ble_eq_true rfl, Nat.le_of_ble_eq_true rfl⟩ ⟨Nat.zero_le _, Nat.zero_le _⟩ dR_isSame_30 (fun x_30 M_30 h_30 => ?_)
        obtain ⟨q_30, hm_30⟩ := h_30
        rw [hm_30, q_30]
        refine za_i2l hc dR_isSame_33 ?_
        refine za_aload_n hc dR_isSame_34 rfl ?_
        refine za_iload_n hc dR_isSame_35 rfl ?_
        refine za_cV1l hc gsR_60 (by assumption) (cD_x_ l M hd (show i < 36 by omega)) ⟨rfl, rfl⟩ ⟨Nat.le_of_ble_eq_true rfl, Nat.le_of_ble_eq_true rfl⟩ ⟨Nat.zero_le _, Nat.zero_le _⟩ dR_isSame_36 (fun x_36 M_36 h_36 => ?_)
        obtain ⟨q_36, hm_36⟩ := h_36
        rw [hm_36, q_36]
        refine za_lcmp_ne 89 hc dR_isSame_39 dR_isSame_40 rfl (fun h_39 => ?_) (fun h_39 => ?_)
        · skip
          have hx : ¬ row = ls := hne (fun z => h_39 (Int64.toInt_inj.mp (by rw [i2l_int]; exact congrArg (fun q : gC => q.1) z)))
          refine za_iconst hc 0 dR_isSame_89 rfl ?_
          exact za_zret hc rfl (rfl) dR_isSame_90 ⟨Nat.zero_le _, Nat.zero_le _⟩ (⟨0, rfl, Or.inl rfl, ⟨fun z => absurd z (by decide), fun z => absurd z hx⟩, rfl⟩)
        · skip
          have v1 := congrArg Int64.toInt h_39
          rw [i2l_int] at v1
          refine za_aload_n hc dR_isSame_43 rfl ?_
          refine za_iload_n hc dR_isSame_44 rfl ?_
          refine za_iload_n hc dR_isSame_45 rfl ?_
          refine za_cV2i hc gsR_63 (by assumption) (cR_y_ l M hr hjl hj1) ⟨rfl, rfl⟩ ⟨Nat.le_of_ble_eq_true rfl, Nat.le_of_ble_eq_true rfl⟩ ⟨Nat.zero_le _, Nat.zero_le _⟩ dR_isSame_46 (fun x_46 M_46 h_46 => ?_)
          obtain ⟨q_46, hm_46⟩ := h_46
          rw [hm_46, q_46]
          refine za_i2l hc dR_isSame_49 ?_
          refine za_aload_n hc dR_isSame_50 rfl ?_
          refine za_iload_n hc dR_isSame_51 rfl ?_
          refine za_cV1l hc gsR_66 (by assumption) (cD_y_ l M hd (show i < 36 by omega)) ⟨rfl, rfl⟩ ⟨Nat.le_of_ble_eq_true rfl, Nat.le_of_ble_eq_true rfl⟩ ⟨Nat.zero_le _, Nat.zero_le _⟩ dR_isSame_52 (fun x_52 M_52 h_52 => ?_)
          obtain ⟨q_52, hm_52⟩ := h_52
          rw [hm_52, q_52]
          refine za_lcmp_ne 89 hc dR_isSame_55 dR_isSame_56 rfl (fun h_55 => ?_) (fun h_55 => ?_)
          · skip
            have hx : ¬ row = ls := hne (fun z => h_55 (Int64.toInt_inj.mp (by rw [i2l_int]; exact congrArg (fun q : gC => q.2.1) z)))
            refine za_iconst hc 0 dR_isSame_89 rfl ?_
            exact za_zret hc rfl (rfl) dR_isSame_90 ⟨Nat.zero_le _, Nat.zero_le _⟩ (⟨0, rfl, Or.inl rfl, ⟨fun z => absurd z (by decide), fun z => absurd z hx⟩, rfl⟩)
          · skip
            have v2 := congrArg Int64.toInt h_55
            rw [i2l_int] at v2
            refine za_aload_n hc dR_isSame_59 rfl ?_
            refine za_iload_n hc dR_isSame_60 rfl ?_
            refine za_iload_n hc dR_isSame_61 rfl ?_
            refine za_cV2i hc gsR_68 (by assumption) (cR_bound_ l M hr hjl hj1) ⟨rfl, rfl⟩ ⟨Nat.le_of_ble_eq_true rfl, Nat.le_of_ble_eq_true rfl⟩ ⟨Nat.zero_le _, Nat.zero_le _⟩ dR_isSame_62 (fun x_62 M_62 h_62 => ?_)
            obtain ⟨q_62, hm_62⟩ := h_62
            rw [hm_62, q_62]
            refine za_i2l hc dR_isSame_65 ?_
            refine za_aload_n hc dR_isSame_66 rfl ?_
            refine za_iload_n hc dR_isSame_67 rfl ?_
            refine za_cV1l hc gsR_71 (by assumption) (cD_bound_ l M hd (show i < 36 by omega)) ⟨rfl, rfl⟩ ⟨Nat.le_of_ble_eq_true rfl, Nat.le_of_ble_eq_true rfl⟩ ⟨Nat.zero_le _, Nat.zero_le _⟩ dR_isSame_68 (fun x_68 M_68 h_68 => ?_)
            obtain ⟨q_68, hm_68⟩ := h_68
            rw [hm_68, q_68]
            refine za_lcmp_ne 89 hc dR_isSame_71 dR_isSame_72 rfl (fun h_71 => ?_) (fun h_71 => ?_)
            · skip
              have hx : ¬ row = ls := hne (fun z => h_71 (Int64.toInt_inj.mp (by rw [i2l_int]; exact congrArg (fun q : gC => q.2.2.1) z)))
              refine za_iconst hc 0 dR_isSame_89 rfl ?_
              exact za_zret hc rfl (rfl) dR_isSame_90 ⟨Nat.zero_le _, Nat.zero_le _⟩ (⟨0, rfl, Or.inl rfl, ⟨fun z => absurd z (by decide), fun z => absurd z hx⟩, rfl⟩)
            · skip
              have v3 := congrArg Int64.toInt h_71
              rw [i2l_int] at v3
              refine za_aload_n hc dR_isSame_75 rfl ?_
              refine za_iload_n hc dR_isSame_76 rfl ?_
              refine za_iload_n hc dR_isSame_77 rfl ?_
              refine za_cV2i hc gsR_73 (by assumption) (cR_isStrict_ l M hr hjl hj1) ⟨rfl, rfl⟩ ⟨Nat.le_of_ble_eq_true rfl, Nat.le_of_ble_eq_true rfl⟩ ⟨Nat.zero_le _, Nat.zero_le _⟩ dR_isSame_78 (fun x_78 M_78 h_78 => ?_)
              obtain ⟨q_78, hm_78⟩ := h_78
              rw [hm_78, q_78]
              refine za_aload_n hc dR_isSame_81 rfl ?_
              refine za_iload_n hc dR_isSame_82 rfl ?_
              refine za_cV1i hc gsR_77 (by assumption) (cD_isStrict_ l M hd (show i < 36 by omega) (hH.2.2.2 i)) ⟨rfl, rfl⟩ ⟨Nat.le_of_ble_eq_true rfl, Nat.le_of_ble_eq_true rfl⟩ ⟨Nat.zero_le _, Nat.zero_le _⟩ dR_isSame_83 (fun x_83 M_83 h_83 => ?_)
              obtain ⟨q_83, hm_83⟩ := h_83
              rw [hm_83, q_83]
              refine za_icmp_eq 91 hc dR_isSame_86 rfl (fun h_86 => ?_) (fun h_86 => ?_)
              · skip
                have v4 : (zI M (r + 2) (48 * j + 4 * i + 3) == 1) = (zI M (d + 4) i == 1) := by rw [← h_86]; split <;> rename_i z <;> simp [z]
                refine za_iinc hc _ dR_isSame_91 rfl ((nI_succ i).symm) (by decide) ?_
                refine za_goto 17 hc dR_isSame_94 rfl ?_
                refine ih (i + 1) (by omega) hll (fun k hk => ?_)
                by_cases c : k < i
                · exact hall k c
                · obtain rfl : k = i := by omega
                  rw [hri, hli, ← e1, ← e2]
                  unfold rg dg
                  rw [v1, v2, v3, v4]
              · skip
                have hx : ¬ row = ls := hne (fun z => h_86 (by
                  have z4 : (zI M (r + 2) (48 * j + 4 * i + 3) == 1) = (zI M (d + 4) i == 1) := congrArg (fun q : gC => q.2.2.2) z
                  rcases hH.2.2.2 i with z5 | z5 <;> rw [z5] at z4 ⊢
                  · rw [if_neg (fun z6 => by rw [z6] at z4; cases z4)]
                  · rw [if_pos (by simpa using z4)]))
                refine za_iconst hc 0 dR_isSame_89 rfl ?_
                exact za_zret hc rfl (rfl) dR_isSame_90 ⟨Nat.zero_le _, Nat.zero_le _⟩ (⟨0, rfl, Or.inl rfl, ⟨fun z => absurd z (by decide), fun z => absurd z hx⟩, rfl⟩)
  refine za_aload_n hc dR_isSame_0 rfl ?_
  refine za_getS hc gfR_11 (by assumption) dR_isSame_1 ?_
  refine za_iload_n hc dR_isSame_4 rfl ?_
  refine za_iald hc (by assumption) dR_isSame_5 (vp_in_nI hjl (by decide)) ?_
  rw [nI_clamp (show j < 2 ^ 31 by omega), hw2]
  refine za_aload_n hc dR_isSame_6 rfl ?_
  refine za_cV0i hc gsR_52 (by assumption) (cD_memberCount_ l M hd) ⟨rfl, rfl⟩ ⟨Nat.le_of_ble_eq_true rfl, Nat.le_of_ble_eq_true rfl⟩ ⟨Nat.zero_le _, Nat.zero_le _⟩ dR_isSame_7 (fun x_7 M_7 h_7 => ?_)
  obtain ⟨q_7, hm_7⟩ := h_7
  rw [hm_7, q_7, hH.1]
  refine za_icmp_eq 15 hc dR_isSame_10 rfl (fun h_10 => ?_) (fun h_10 => ?_)
  · skip
    have hll : row.length = ls.length := (nI_eq (by omega) (by omega)).mp h_10
    refine za_iconst hc 0 dR_isSame_15 rfl ?_
    refine za_istore_n hc dR_isSame_16 (by decide) ?_
    exact loop row.length 0 (by omega) hll (fun k hk => absurd hk (Nat.not_lt_zero _))
  · skip
    have hx : ¬ row = ls := fun z => h_10 (by rw [z])
    refine za_iconst hc 0 dR_isSame_13 rfl ?_
    exact za_zret hc rfl (rfl) dR_isSame_14 ⟨Nat.zero_le _, Nat.zero_le _⟩ (⟨0, rfl, Or.inl rfl, ⟨fun z => absurd z (by decide), fun z => absurd z hx⟩, rfl⟩)

set_option maxRecDepth 100000 in
set_option maxHeartbeats 4000000 in
theorem cR_contains_ (l : Launch) {r d : Nat} {R : List (List gC)} {ls : List gC} (M : zM) (hr : zrg r) (hd : zdr d) (hR : rH M r R) (hH : dH M d ls) : zMet l mR_contains rR_contains [.ref r, .ref d] M (zqi (fun x M' => (x = 0 ∨ x = 1) ∧ (x = 1 ↔ ls ∈ R) ∧ M' = M)) := by
  refine za_enter (by decide) (Nat.le_of_ble_eq_true rfl) (fun X hc => ?_)
  have hro := hr.o
  have hrz := hr.z
  have hrn := hr.n
  have hdo := hd.o
  have hda := hd.a
  have hdb := hd.b
  have hdc := hd.c
  have hds := hd.s
  have hpo := hd.p.o
  have hl := hR.2.1
  have loop : ∀ n i, n + i = R.length → (∀ k, k < i → R[k]? ≠ some ls) → zW X (zqi (fun x M' => (x = 0 ∨ x = 1) ∧ (x = 1 ↔ ls ∈ R) ∧ M' = M)) (0, 0) 2 [(0, .ref r), (1, .ref d), (2, .int (nI i))] [] M := by
    intro n
    induction n with
    | zero =>
      intro i hn hall
      refine za_iload_n hc dR_contains_2 rfl ?_
      refine za_aload_n hc dR_contains_3 rfl ?_
      refine za_getI hc gfR_18 (by assumption) dR_contains_4 ?_
      rw [hR.1]
      refine za_icmp_ge 27 hc dR_contains_7 rfl (fun h_7 => ?_) (fun h_7 => ?_)
      · skip
        have hx : ¬ ls ∈ R := fun z => by
          obtain ⟨k, hk⟩ := List.getElem?_of_mem z
          exact hall k (by have := (List.getElem?_eq_some_iff.mp hk).1; omega) hk
        refine za_iconst hc 0 dR_contains_27 rfl ?_
        exact za_zret hc rfl (rfl) dR_contains_28 ⟨Nat.zero_le _, Nat.zero_le _⟩ (⟨0, rfl, Or.inl rfl, ⟨fun z => absurd z (by decide), fun z => absurd z hx⟩, rfl⟩)
      · skip
        exact absurd ((nI_leI (by omega) (by omega)).mpr (show R.length ≤ i by omega)) h_7
    | succ n ih =>
      intro i hn hall
      have hri := List.getElem?_eq_getElem (l := R) (show i < R.length by omega)
      refine za_iload_n hc dR_contains_2 rfl ?_
      refine za_aload_n hc dR_contains_3 rfl ?_
      refine za_getI hc gfR_18 (by assumption) dR_contains_4 ?_
      rw [hR.1]
      refine za_icmp_ge 27 hc dR_contains_7 rfl (fun h_7 => ?_) (fun h_7 => ?_)
      · skip
        exact absurd ((nI_leI (by omega) (by omega)).mp h_7) (by omega)
      · skip
        refine za_aload_n hc dR_contains_10 rfl ?_
        refine za_iload_n hc dR_contains_11 rfl ?_
        refine za_aload_n hc dR_contains_12 rfl ?_
        refine za_cV2i hc gsR_48 (by assumption) (cR_isSame_ l M hr hd hR hri hH) ⟨rfl, rfl⟩ ⟨Nat.le_of_ble_eq_true rfl, Nat.le_of_ble_eq_true rfl⟩ ⟨Nat.zero_le _, Nat.zero_le _⟩ dR_contains_13 (fun x_13 M_13 h_13 => ?_)
        obtain ⟨q1, q2, hm_13⟩ := h_13
        rw [hm_13]
        refine za_if_eq 21 hc dR_contains_16 rfl (fun h_16 => ?_) (fun h_16 => ?_)
        · skip
          refine za_iinc hc _ dR_contains_21 rfl ((nI_succ i).symm) (by decide) ?_
          refine za_goto 2 hc dR_contains_24 rfl ?_
          refine ih (i + 1) (by omega) (fun k hk => ?_)
          by_cases c : k < i
          · exact hall k c
          · obtain rfl : k = i := by omega
            rw [hri]
            intro z
            have := q2.mpr (Option.some.inj z)
            rw [h_16] at this; exact absurd this (by decide)
        · skip
          have hx : ls ∈ R := by rw [← q2.mp (q1.resolve_left h_16)]; exact List.getElem_mem _
          refine za_iconst hc 1 dR_contains_19 rfl ?_
          exact za_zret hc rfl (rfl) dR_contains_20 ⟨Nat.zero_le _, Nat.zero_le _⟩ (⟨1, rfl, Or.inr rfl, ⟨fun _ => hx, fun _ => rfl⟩, rfl⟩)
  refine za_iconst hc 0 dR_contains_0 rfl ?_
  refine za_istore_n hc dR_contains_1 (by decide) ?_
  exact loop R.length 0 (by omega) (fun k hk => absurd hk (Nat.not_lt_zero _))
