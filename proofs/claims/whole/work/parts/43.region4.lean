/-! Members of a region's row go into a draft; points of a region. -/
theorem s01 (x : Int32) : ((if x = 1 then 1 else 0 : Int32) == 1) = (x == 1) := by split <;> rename_i h <;> simp [h]
theorem s01b (x : Int32) : (if x = 1 then 1 else 0 : Int32) = 0 ∨ (if x = 1 then 1 else 0 : Int32) = 1 := by split <;> simp
theorem g_put_len (ls ms : List gC) : (ms.foldl gput ls).length ≤ ls.length + ms.length := by
  induction ms generalizing ls with
  | nil => exact Nat.le_refl _
  | cons m t ih =>
    have h1 := ih (gput ls m)
    have h2 := gput_len ls m
    simp only [List.foldl_cons, List.length_cons]
    omega
theorem g_foldl_snoc (ls ms : List gC) (m : gC) : (ms ++ [m]).foldl gput ls = gput (ms.foldl gput ls) m := by rw [List.foldl_append]; rfl

set_option maxRecDepth 100000 in
set_option maxHeartbeats 4000000 in
theorem cR_pour_ (l : Launch) {r d j few : Nat} {R : List (List gC)} {row ls : List gC} (M : zM) (hr : zrg r) (hd : zdr d) (hR : rH M r R) (hrow : R[j]? = some row) (hfew : few ≤ row.length) (hH : dH M d ls) (hlen : ls.length + few ≤ 36) : zMet l mR_pour rR_pour [.ref r, .int (nI j), .int (nI few), .ref d] M (zqv (fun M' => dH M' d ((row.take few).foldl gput ls) ∧ zfr (dB d) M M')) := by
  refine za_enter (by decide) (Nat.le_of_ble_eq_true rfl) (fun X hc => ?_)
  have hro := hr.o
  have hrz := hr.z
  have hrn := hr.n
  have hdo := hd.o
  have hda := hd.a
  have hdb := hd.b
  have hdc := hd.c
  have hds := hd.s
  have hpo := hd.p.o
  obtain ⟨hw1, hw2, hw3, hw4⟩ := hR.2.2 j row hrow
  have hjl : j < 12 := by have := (List.getElem?_eq_some_iff.mp hrow).1; have := hR.2.1; omega
  have loop : ∀ n i (M1 : zM), n + i = few → dH M1 d ((row.take i).foldl gput ls) → zfr (dB d) M M1 → zW X (zqv (fun M' => dH M' d ((row.take few).foldl gput ls) ∧ zfr (dB d) M M')) (0, 0) 3 [(0, .ref r), (1, .int (nI j)), (2, .int (nI few)), (3, .ref d), (4, .int (nI i))] [] M1 := by
    intro n
    induction n with
    | zero =>
      intro i M1 hn hH1 hf
      obtain rfl : i = few := by omega
      refine za_iload hc dR_pour_3 rfl ?_
      refine za_iload_n hc dR_pour_5 rfl ?_
      refine za_icmp_ge 50 hc dR_pour_6 rfl (fun h_6 => ?_) (fun h_6 => ?_)
      · skip
        exact za_vret hc rfl dR_pour_50 ⟨Nat.zero_le _, Nat.zero_le _⟩ (⟨rfl, hH1, hf⟩)
      · skip
        exact absurd (Int32.le_refl _) h_6
    | succ n ih =>
      intro i M1 hn hH1 hf
      have hi : i < row.length := by omega
      have hi12 : i < 12 := by omega
      have hri := List.getElem?_eq_getElem (l := row) hi
      have e1 := hw3 i _ hri
      have hlm := hw4 _ (List.getElem_mem hi)
      rw [← e1] at hlm
      have kn : zI M1 (r + 2) = zI M (r + 2) := (hf _ (fun z => dF_rg hd hr (b := 2) (by decide) (dB_F z))).1
      have b1 : (zI M (r + 2) (48 * j + 4 * i)).toInt.natAbs ≤ 10000 := hlm.1
      have b2 : (zI M (r + 2) (48 * j + 4 * i + 1)).toInt.natAbs ≤ 10000 := hlm.2.1
      have b3 : (zI M (r + 2) (48 * j + 4 * i + 2)).toInt.natAbs ≤ 10000 := hlm.2.2
      have htl : ((row.take i).foldl gput ls).length < 36 := by have := g_put_len ls (row.take i); rw [List.length_take] at this; omega
      refine za_iload hc dR_pour_3 rfl ?_
      refine za_iload_n hc dR_pour_5 rfl ?_
      refine za_icmp_ge 50 hc dR_pour_6 rfl (fun h_6 => ?_) (fun h_6 => ?_)
      · skip
        exact absurd ((nI_leI (by omega) (by omega)).mp h_6) (by omega)
      · skip
        refine za_aload_n hc dR_pour_9 rfl ?_
        refine za_aload_n hc dR_pour_10 rfl ?_
        refine za_iload_n hc dR_pour_11 rfl ?_
        refine za_iload hc dR_pour_12 rfl ?_
        refine za_cV2i hc gsR_56 (by assumption) (cR_x_ l M1 hr hjl hi12) ⟨rfl, rfl⟩ ⟨Nat.le_of_ble_eq_true rfl, Nat.le_of_ble_eq_true rfl⟩ ⟨Nat.zero_le _, Nat.zero_le _⟩ dR_pour_14 (fun x_14 M_14 h_14 => ?_)
        obtain ⟨q_14, hm_14⟩ := h_14
        rw [hm_14, q_14, kn]
        refine za_i2l hc dR_pour_17 ?_
        refine za_aload_n hc dR_pour_18 rfl ?_
        refine za_iload_n hc dR_pour_19 rfl ?_
        refine za_iload hc dR_pour_20 rfl ?_
        refine za_cV2i hc gsR_63 (by assumption) (cR_y_ l M1 hr hjl hi12) ⟨rfl, rfl⟩ ⟨Nat.le_of_ble_eq_true rfl, Nat.le_of_ble_eq_true rfl⟩ ⟨Nat.zero_le _, Nat.zero_le _⟩ dR_pour_22 (fun x_22 M_22 h_22 => ?_)
        obtain ⟨q_22, hm_22⟩ := h_22
        rw [hm_22, q_22, kn]
        refine za_i2l hc dR_pour_25 ?_
        refine za_aload_n hc dR_pour_26 rfl ?_
        refine za_iload_n hc dR_pour_27 rfl ?_
        refine za_iload hc dR_pour_28 rfl ?_
        refine za_cV2i hc gsR_68 (by assumption) (cR_bound_ l M1 hr hjl hi12) ⟨rfl, rfl⟩ ⟨Nat.le_of_ble_eq_true rfl, Nat.le_of_ble_eq_true rfl⟩ ⟨Nat.zero_le _, Nat.zero_le _⟩ dR_pour_30 (fun x_30 M_30 h_30 => ?_)
        obtain ⟨q_30, hm_30⟩ := h_30
        rw [hm_30, q_30, kn]
        refine za_i2l hc dR_pour_33 ?_
        refine za_aload_n hc dR_pour_34 rfl ?_
        refine za_iload_n hc dR_pour_35 rfl ?_
        refine za_iload hc dR_pour_36 rfl ?_
        refine za_cV2i hc gsR_73 (by assumption) (cR_isStrict_ l M1 hr hjl hi12) ⟨rfl, rfl⟩ ⟨Nat.le_of_ble_eq_true rfl, Nat.le_of_ble_eq_true rfl⟩ ⟨Nat.zero_le _, Nat.zero_le _⟩ dR_pour_38 (fun x_38 M_38 h_38 => ?_)
        obtain ⟨q_38, hm_38⟩ := h_38
        rw [hm_38, q_38, kn]
        refine za_cV4v hc gsR_80 (by assumption) (cD_put_ l M1 _ _ _ _ hd hH1 htl (s01b _) (by rw [i2l_int]; omega) (by rw [i2l_int]; omega) (by rw [i2l_int]; omega)) ⟨rfl, rfl⟩ ⟨Nat.le_of_ble_eq_true rfl, Nat.le_of_ble_eq_true rfl⟩ ⟨Nat.zero_le _, Nat.zero_le _⟩ dR_pour_41 (fun M_41 h_41 => ?_)
        obtain ⟨p1, p2⟩ := h_41
        refine za_iinc hc _ dR_pour_44 rfl ((nI_succ i).symm) (by decide) ?_
        refine za_goto 3 hc dR_pour_47 rfl ?_
        refine ih (i + 1) M_41 (by omega) ?_ (hf.tr p2)
        rw [i2l_int, i2l_int, i2l_int, s01] at p1
        rw [show row.take (i + 1) = row.take i ++ [row[i]] from by rw [List.take_succ, hri]; rfl, g_foldl_snoc, ← e1]
        exact p1
  refine za_iconst hc 0 dR_pour_0 rfl ?_
  refine za_istore hc dR_pour_1 (by decide) ?_
  exact loop few 0 M (by omega) (by rw [List.take_zero]; exact hH) zfr.rf

set_option maxRecDepth 100000 in
set_option maxHeartbeats 4000000 in
theorem cR_pourContrary_ (l : Launch) {r d j i : Nat} {R : List (List gC)} {row ls : List gC} {m : gC} (M : zM) (hr : zrg r) (hd : zdr d) (hR : rH M r R) (hrow : R[j]? = some row) (hm : row[i]? = some m) (hH : dH M d ls) (hlen : ls.length < 36) : zMet l mR_pourContrary rR_pourContrary [.ref r, .int (nI j), .int (nI i), .ref d] M (zqv (fun M' => dH M' d (gput ls (gflip m)) ∧ zfr (dB d) M M')) := by
  refine za_enter (by decide) (Nat.le_of_ble_eq_true rfl) (fun X hc => ?_)
  have hro := hr.o
  have hrz := hr.z
  have hrn := hr.n
  have hdo := hd.o
  have hda := hd.a
  have hdb := hd.b
  have hdc := hd.c
  have hds := hd.s
  have hpo := hd.p.o
  obtain ⟨hw1, hw2, hw3, hw4⟩ := hR.2.2 j row hrow
  have hjl : j < 12 := by have := (List.getElem?_eq_some_iff.mp hrow).1; have := hR.2.1; omega
  have hi := (List.getElem?_eq_some_iff.mp hm).1
  have hi12 : i < 12 := by omega
  have e1 := hw3 i _ hm
  have hlm := hw4 _ (List.mem_of_getElem? hm)
  rw [← e1] at hlm
  have b1 : (zI M (r + 2) (48 * j + 4 * i)).toInt.natAbs ≤ 10000 := hlm.1
  have b2 : (zI M (r + 2) (48 * j + 4 * i + 1)).toInt.natAbs ≤ 10000 := hlm.2.1
  have b3 : (zI M (r + 2) (48 * j + 4 * i + 2)).toInt.natAbs ≤ 10000 := hlm.2.2
  refine za_aload_n hc dR_pourContrary_0 rfl ?_
  refine za_aload_n hc dR_pourContrary_1 rfl ?_
  refine za_iload_n hc dR_pourContrary_2 rfl ?_
  refine za_iload_n hc dR_pourContrary_3 rfl ?_
  refine za_cV2i hc gsR_56 (by assumption) (cR_x_ l M hr hjl hi12) ⟨rfl, rfl⟩ ⟨Nat.le_of_ble_eq_true rfl, Nat.le_of_ble_eq_true rfl⟩ ⟨Nat.zero_le _, Nat.zero_le _⟩ dR_pourContrary_4 (fun x_4 M_4 h_4 => ?_)
  obtain ⟨q_4, hm_4⟩ := h_4
  rw [hm_4, q_4]
  refine za_ineg hc dR_pourContrary_7 ?_
  refine za_i2l hc dR_pourContrary_8 ?_
  refine za_aload_n hc dR_pourContrary_9 rfl ?_
  refine za_iload_n hc dR_pourContrary_10 rfl ?_
  refine za_iload_n hc dR_pourContrary_11 rfl ?_
  refine za_cV2i hc gsR_63 (by assumption) (cR_y_ l M hr hjl hi12) ⟨rfl, rfl⟩ ⟨Nat.le_of_ble_eq_true rfl, Nat.le_of_ble_eq_true rfl⟩ ⟨Nat.zero_le _, Nat.zero_le _⟩ dR_pourContrary_12 (fun x_12 M_12 h_12 => ?_)
  obtain ⟨q_12, hm_12⟩ := h_12
  rw [hm_12, q_12]
  refine za_ineg hc dR_pourContrary_15 ?_
  refine za_i2l hc dR_pourContrary_16 ?_
  refine za_aload_n hc dR_pourContrary_17 rfl ?_
  refine za_iload_n hc dR_pourContrary_18 rfl ?_
  refine za_iload_n hc dR_pourContrary_19 rfl ?_
  refine za_cV2i hc gsR_68 (by assumption) (cR_bound_ l M hr hjl hi12) ⟨rfl, rfl⟩ ⟨Nat.le_of_ble_eq_true rfl, Nat.le_of_ble_eq_true rfl⟩ ⟨Nat.zero_le _, Nat.zero_le _⟩ dR_pourContrary_20 (fun x_20 M_20 h_20 => ?_)
  obtain ⟨q_20, hm_20⟩ := h_20
  rw [hm_20, q_20]
  refine za_ineg hc dR_pourContrary_23 ?_
  refine za_i2l hc dR_pourContrary_24 ?_
  refine za_aload_n hc dR_pourContrary_25 rfl ?_
  refine za_iload_n hc dR_pourContrary_26 rfl ?_
  refine za_iload_n hc dR_pourContrary_27 rfl ?_
  refine za_cV2i hc gsR_73 (by assumption) (cR_isStrict_ l M hr hjl hi12) ⟨rfl, rfl⟩ ⟨Nat.le_of_ble_eq_true rfl, Nat.le_of_ble_eq_true rfl⟩ ⟨Nat.zero_le _, Nat.zero_le _⟩ dR_pourContrary_28 (fun x_28 M_28 h_28 => ?_)
  obtain ⟨q_28, hm_28⟩ := h_28
  rw [hm_28, q_28]
  refine za_if_ne 38 hc dR_pourContrary_31 rfl (fun h_31 => ?_) (fun h_31 => ?_)
  · skip
    have hsg : ((0 : Int32) == 1) = !(zI M (r + 2) (48 * j + 4 * i + 3) == 1) := by by_cases z : zI M (r + 2) (48 * j + 4 * i + 3) = 1; rw [z]; rfl; exact absurd (if_neg z) h_31
    refine za_iconst hc 0 dR_pourContrary_38 rfl ?_
    refine za_cV4v hc gsR_80 (by assumption) (cD_put_ l M _ _ _ _ hd hH hlen (by first | exact Or.inl rfl | exact Or.inr rfl) (by rw [i2l_int, i_neg (by omega)]; omega) (by rw [i2l_int, i_neg (by omega)]; omega) (by rw [i2l_int, i_neg (by omega)]; omega)) ⟨rfl, rfl⟩ ⟨Nat.le_of_ble_eq_true rfl, Nat.le_of_ble_eq_true rfl⟩ ⟨Nat.zero_le _, Nat.zero_le _⟩ dR_pourContrary_39 (fun M_39 h_39 => ?_)
    obtain ⟨p1, p2⟩ := h_39
    rw [i2l_int, i2l_int, i2l_int, i_neg (by omega), i_neg (by omega), i_neg (by omega), hsg] at p1
    exact za_vret hc rfl dR_pourContrary_42 ⟨Nat.zero_le _, Nat.zero_le _⟩ (⟨rfl, by rw [← e1]; exact p1, p2⟩)
  · skip
    have hsg : ((1 : Int32) == 1) = !(zI M (r + 2) (48 * j + 4 * i + 3) == 1) := by by_cases z : zI M (r + 2) (48 * j + 4 * i + 3) = 1; rw [if_pos z] at h_31; exact absurd h_31 (by decide); simp [z]
    refine za_iconst hc 1 dR_pourContrary_34 rfl ?_
    refine za_goto 39 hc dR_pourContrary_35 rfl ?_
    refine za_cV4v hc gsR_80 (by assumption) (cD_put_ l M _ _ _ _ hd hH hlen (by first | exact Or.inl rfl | exact Or.inr rfl) (by rw [i2l_int, i_neg (by omega)]; omega) (by rw [i2l_int, i_neg (by omega)]; omega) (by rw [i2l_int, i_neg (by omega)]; omega)) ⟨rfl, rfl⟩ ⟨Nat.le_of_ble_eq_true rfl, Nat.le_of_ble_eq_true rfl⟩ ⟨Nat.zero_le _, Nat.zero_le _⟩ dR_pourContrary_39 (fun M_39 h_39 => ?_)
    obtain ⟨p1, p2⟩ := h_39
    rw [i2l_int, i2l_int, i2l_int, i_neg (by omega), i_neg (by omega), i_neg (by omega), hsg] at p1
    exact za_vret hc rfl dR_pourContrary_42 ⟨Nat.zero_le _, Nat.zero_le _⟩ (⟨rfl, by rw [← e1]; exact p1, p2⟩)

/-- a member holds at (p / d, q / d) -/
def gHat (m : gC) (p q d : Int) : Prop := m.1 * p + m.2.1 * q < m.2.2.1 * d ∨ (m.1 * p + m.2.1 * q = m.2.2.1 * d ∧ m.2.2.2 = false)

set_option maxRecDepth 100000 in
set_option maxHeartbeats 4000000 in
theorem cR_rowHasPoint_ (l : Launch) {r j : Nat} {R : List (List gC)} {row : List gC} (M : zM) (p q e : Int32) (hr : zrg r) (hR : rH M r R) (hrow : R[j]? = some row) (hp : p.toInt.natAbs ≤ 10000) (hq : q.toInt.natAbs ≤ 10000) (he : e.toInt.natAbs ≤ 1000) : zMet l mR_rowHasPoint rR_rowHasPoint [.ref r, .int (nI j), .int p, .int q, .int e] M (zqi (fun x M' => (x = 0 ∨ x = 1) ∧ (x = 1 ↔ ∀ m ∈ row, gHat m p.toInt q.toInt e.toInt) ∧ M' = M)) := by
  refine za_enter (by decide) (Nat.le_of_ble_eq_true rfl) (fun X hc => ?_)
  have hro := hr.o
  have hrz := hr.z
  have hrn := hr.n
  obtain ⟨hw1, hw2, hw3, hw4⟩ := hR.2.2 j row hrow
  have hjl : j < 12 := by have := (List.getElem?_eq_some_iff.mp hrow).1; have := hR.2.1; omega
  have loop : ∀ n i, n + i = row.length → (∀ k m, k < i → row[k]? = some m → gHat m p.toInt q.toInt e.toInt) → zW X (zqi (fun x M' => (x = 0 ∨ x = 1) ∧ (x = 1 ↔ ∀ m ∈ row, gHat m p.toInt q.toInt e.toInt) ∧ M' = M)) (0, 0) 3 [(0, .ref r), (1, .int (nI j)), (2, .int p), (3, .int q), (4, .int e), (5, .int (nI i))] [] M := by
    intro n
    induction n with
    | zero =>
      intro i hn hall
      refine za_iload hc dR_rowHasPoint_3 rfl ?_
      refine za_aload_n hc dR_rowHasPoint_5 rfl ?_
      refine za_getS hc gfR_11 (by assumption) dR_rowHasPoint_6 ?_
      refine za_iload_n hc dR_rowHasPoint_9 rfl ?_
      refine za_iald hc (by assumption) dR_rowHasPoint_10 (vp_in_nI hjl (by decide)) ?_
      rw [nI_clamp (show j < 2 ^ 31 by omega), hw2]
      refine za_icmp_ge 79 hc dR_rowHasPoint_11 rfl (fun h_11 => ?_) (fun h_11 => ?_)
      · skip
        refine za_iconst hc 1 dR_rowHasPoint_79 rfl ?_
        exact za_zret hc rfl (rfl) dR_rowHasPoint_80 ⟨Nat.zero_le _, Nat.zero_le _⟩ (⟨1, rfl, Or.inr rfl, ⟨fun _ m hm => by
        obtain ⟨k, hk⟩ := List.getElem?_of_mem hm
        exact hall k m (by have := (List.getElem?_eq_some_iff.mp hk).1; omega) hk, fun _ => rfl⟩, rfl⟩)
      · skip
        exact absurd ((nI_leI (by omega) (by omega)).mpr (show row.length ≤ i by omega)) h_11
    | succ n ih =>
      intro i hn hall
      have hi : i < row.length := by omega
      have hi12 : i < 12 := by omega
      have hri := List.getElem?_eq_getElem (l := row) hi
      have e1 := hw3 i _ hri
      have hlm := hw4 _ (List.getElem_mem hi)
      rw [← e1] at hlm
      have b1 : (zI M (r + 2) (48 * j + 4 * i)).toInt.natAbs ≤ 10000 := hlm.1
      have b2 : (zI M (r + 2) (48 * j + 4 * i + 1)).toInt.natAbs ≤ 10000 := hlm.2.1
      have b3 : (zI M (r + 2) (48 * j + 4 * i + 2)).toInt.natAbs ≤ 10000 := hlm.2.2
      have p1 := g_mulb (A := 10000) (B := 10000) (a := (zI M (r + 2) (48 * j + 4 * i)).toInt) (b := p.toInt) (by omega) (by omega)
      have p2 := g_mulb (A := 10000) (B := 10000) (a := (zI M (r + 2) (48 * j + 4 * i + 1)).toInt) (b := q.toInt) (by omega) (by omega)
      have p3 := g_mulb (A := 10000) (B := 10000) (a := (zI M (r + 2) (48 * j + 4 * i + 2)).toInt) (b := e.toInt) (by omega) (by omega)
      have m1 := i_mul (x := (zI M (r + 2) (48 * j + 4 * i))) (y := p) (by omega) (by omega)
      have m2 := i_mul (x := (zI M (r + 2) (48 * j + 4 * i + 1))) (y := q) (by omega) (by omega)
      have m3 := i_mul (x := (zI M (r + 2) (48 * j + 4 * i + 2))) (y := e) (by omega) (by omega)
      have m4 : ((zI M (r + 2) (48 * j + 4 * i)) * p + (zI M (r + 2) (48 * j + 4 * i + 1)) * q).toInt = (zI M (r + 2) (48 * j + 4 * i)).toInt * p.toInt + (zI M (r + 2) (48 * j + 4 * i + 1)).toInt * q.toInt := by rw [i_add (by omega) (by omega), m1, m2]
      have hno : ¬ gHat (rg M r j i) p.toInt q.toInt e.toInt → ¬ ∀ m ∈ row, gHat m p.toInt q.toInt e.toInt := fun h1 h2 => h1 (by rw [e1]; exact h2 _ (List.getElem_mem hi))
      refine za_iload hc dR_rowHasPoint_3 rfl ?_
      refine za_aload_n hc dR_rowHasPoint_5 rfl ?_
      refine za_getS hc gfR_11 (by assumption) dR_rowHasPoint_6 ?_
      refine za_iload_n hc dR_rowHasPoint_9 rfl ?_
      refine za_iald hc (by assumption) dR_rowHasPoint_10 (vp_in_nI hjl (by decide)) ?_
      rw [nI_clamp (show j < 2 ^ 31 by omega), hw2]
      refine za_icmp_ge 79 hc dR_rowHasPoint_11 rfl (fun h_11 => ?_) (fun h_11 => ?_)
      · skip
        exact absurd ((nI_leI (by omega) (by omega)).mp h_11) (by omega)
      · skip
        refine za_aload_n hc dR_rowHasPoint_14 rfl ?_
        refine za_iload_n hc dR_rowHasPoint_15 rfl ?_
        refine za_iload hc dR_rowHasPoint_16 rfl ?_
        refine za_cV2i hc gsR_56 (by assumption) (cR_x_ l M hr hjl hi12) ⟨rfl, rfl⟩ ⟨Nat.le_of_ble_eq_true rfl, Nat.le_of_ble_eq_true rfl⟩ ⟨Nat.zero_le _, Nat.zero_le _⟩ dR_rowHasPoint_18 (fun x_18 M_18 h_18 => ?_)
        obtain ⟨q_18, hm_18⟩ := h_18
        rw [hm_18, q_18]
        refine za_iload_n hc dR_rowHasPoint_21 rfl ?_
        refine za_imul hc dR_rowHasPoint_22 ?_
        refine za_aload_n hc dR_rowHasPoint_23 rfl ?_
        refine za_iload_n hc dR_rowHasPoint_24 rfl ?_
        refine za_iload hc dR_rowHasPoint_25 rfl ?_
        refine za_cV2i hc gsR_63 (by assumption) (cR_y_ l M hr hjl hi12) ⟨rfl, rfl⟩ ⟨Nat.le_of_ble_eq_true rfl, Nat.le_of_ble_eq_true rfl⟩ ⟨Nat.zero_le _, Nat.zero_le _⟩ dR_rowHasPoint_27 (fun x_27 M_27 h_27 => ?_)
        obtain ⟨q_27, hm_27⟩ := h_27
        rw [hm_27, q_27]
        refine za_iload_n hc dR_rowHasPoint_30 rfl ?_
        refine za_imul hc dR_rowHasPoint_31 ?_
        refine za_iadd hc dR_rowHasPoint_32 ?_
        refine za_istore hc dR_rowHasPoint_33 (by decide) ?_
        refine za_aload_n hc dR_rowHasPoint_35 rfl ?_
        refine za_iload_n hc dR_rowHasPoint_36 rfl ?_
        refine za_iload hc dR_rowHasPoint_37 rfl ?_
        refine za_cV2i hc gsR_68 (by assumption) (cR_bound_ l M hr hjl hi12) ⟨rfl, rfl⟩ ⟨Nat.le_of_ble_eq_true rfl, Nat.le_of_ble_eq_true rfl⟩ ⟨Nat.zero_le _, Nat.zero_le _⟩ dR_rowHasPoint_39 (fun x_39 M_39 h_39 => ?_)
        obtain ⟨q_39, hm_39⟩ := h_39
        rw [hm_39, q_39]
        refine za_iload hc dR_rowHasPoint_42 rfl ?_
        refine za_imul hc dR_rowHasPoint_44 ?_
        refine za_istore hc dR_rowHasPoint_45 (by decide) ?_
        refine za_iload hc dR_rowHasPoint_47 rfl ?_
        refine za_iload hc dR_rowHasPoint_49 rfl ?_
        refine za_icmp_gt 71 hc dR_rowHasPoint_51 rfl (fun h_51 => ?_) (fun h_51 => ?_)
        · skip
          rw [Int32.lt_iff_toInt_lt, m4, m3] at h_51
          have hx : ¬ gHat (rg M r j i) p.toInt q.toInt e.toInt := by unfold gHat rg; simp only; omega
          refine za_iconst hc 0 dR_rowHasPoint_71 rfl ?_
          exact za_zret hc rfl (rfl) dR_rowHasPoint_72 ⟨Nat.zero_le _, Nat.zero_le _⟩ (⟨0, rfl, Or.inl rfl, ⟨fun z => absurd z (by decide), fun z => absurd z (hno hx)⟩, rfl⟩)
        · skip
          rw [Int32.lt_iff_toInt_lt, m4, m3] at h_51
          refine za_iload hc dR_rowHasPoint_54 rfl ?_
          refine za_iload hc dR_rowHasPoint_56 rfl ?_
          refine za_icmp_ne 73 hc dR_rowHasPoint_58 rfl (fun h_58 => ?_) (fun h_58 => ?_)
          · skip
            rw [← Int32.toInt_inj, m4, m3] at h_58
            have hy : gHat (rg M r j i) p.toInt q.toInt e.toInt := by unfold gHat rg; simp only; omega
            refine za_iinc hc _ dR_rowHasPoint_73 rfl ((nI_succ i).symm) (by decide) ?_
            refine za_goto 3 hc dR_rowHasPoint_76 rfl ?_
            refine za_take 6 ?_
            refine ih (i + 1) (by omega) (fun k m hk hkm => ?_)
            by_cases c : k < i
            · exact hall k m c hkm
            · obtain rfl : k = i := by omega
              rw [hri] at hkm; rw [← Option.some.inj hkm, ← e1]; exact hy
          · skip
            rw [← Int32.toInt_inj, m4, m3] at h_58
            refine za_aload_n hc dR_rowHasPoint_61 rfl ?_
            refine za_iload_n hc dR_rowHasPoint_62 rfl ?_
            refine za_iload hc dR_rowHasPoint_63 rfl ?_
            refine za_cV2i hc gsR_73 (by assumption) (cR_isStrict_ l M hr hjl hi12) ⟨rfl, rfl⟩ ⟨Nat.le_of_ble_eq_true rfl, Nat.le_of_ble_eq_true rfl⟩ ⟨Nat.zero_le _, Nat.zero_le _⟩ dR_rowHasPoint_65 (fun x_65 M_65 h_65 => ?_)
            obtain ⟨q_65, hm_65⟩ := h_65
            rw [hm_65, q_65]
            refine za_if_eq 73 hc dR_rowHasPoint_68 rfl (fun h_68 => ?_) (fun h_68 => ?_)
            · skip
              have hy : gHat (rg M r j i) p.toInt q.toInt e.toInt := Or.inr ⟨h_58, by
                show (zI M (r + 2) (48 * j + 4 * i + 3) == 1) = false
                by_cases z : zI M (r + 2) (48 * j + 4 * i + 3) = 1
                · rw [if_pos z] at h_68; exact absurd h_68 (by decide)
                · simp [z]⟩
              refine za_iinc hc _ dR_rowHasPoint_73 rfl ((nI_succ i).symm) (by decide) ?_
              refine za_goto 3 hc dR_rowHasPoint_76 rfl ?_
              refine za_take 6 ?_
              refine ih (i + 1) (by omega) (fun k m hk hkm => ?_)
              by_cases c : k < i
              · exact hall k m c hkm
              · obtain rfl : k = i := by omega
                rw [hri] at hkm; rw [← Option.some.inj hkm, ← e1]; exact hy
            · skip
              have hx : ¬ gHat (rg M r j i) p.toInt q.toInt e.toInt := fun z => by
                rcases z with z | ⟨z1, z2⟩
                · unfold rg at z; simp only at z; omega
                · have z3 : (zI M (r + 2) (48 * j + 4 * i + 3) == 1) = false := z2
                  exact h_68 (if_neg (fun w => by rw [w] at z3; exact absurd z3 (by decide)))
              refine za_iconst hc 0 dR_rowHasPoint_71 rfl ?_
              exact za_zret hc rfl (rfl) dR_rowHasPoint_72 ⟨Nat.zero_le _, Nat.zero_le _⟩ (⟨0, rfl, Or.inl rfl, ⟨fun z => absurd z (by decide), fun z => absurd z (hno hx)⟩, rfl⟩)
  refine za_iconst hc 0 dR_rowHasPoint_0 rfl ?_
  refine za_istore hc dR_rowHasPoint_1 (by decide) ?_
  exact loop row.length 0 (by omega) (fun k m hk => absurd hk (Nat.not_lt_zero _))

set_option maxRecDepth 100000 in
set_option maxHeartbeats 4000000 in
theorem cR_hasPoint_ (l : Launch) {r : Nat} {R : List (List gC)} (M : zM) (p q e : Int32) (hr : zrg r) (hR : rH M r R) (hp : p.toInt.natAbs ≤ 10000) (hq : q.toInt.natAbs ≤ 10000) (he : e.toInt.natAbs ≤ 1000) : zMet l mR_hasPoint rR_hasPoint [.ref r, .int p, .int q, .int e] M (zqi (fun x M' => (x = 0 ∨ x = 1) ∧ (x = 1 ↔ ∃ row ∈ R, ∀ m ∈ row, gHat m p.toInt q.toInt e.toInt) ∧ M' = M)) := by
  refine za_enter (by decide) (Nat.le_of_ble_eq_true rfl) (fun X hc => ?_)
  have hro := hr.o
  have hrz := hr.z
  have hrn := hr.n
  have hl := hR.2.1
  have loop : ∀ n i, n + i = R.length → (∀ k row, k < i → R[k]? = some row → ¬ ∀ m ∈ row, gHat m p.toInt q.toInt e.toInt) → zW X (zqi (fun x M' => (x = 0 ∨ x = 1) ∧ (x = 1 ↔ ∃ row ∈ R, ∀ m ∈ row, gHat m p.toInt q.toInt e.toInt) ∧ M' = M)) (0, 0) 3 [(0, .ref r), (1, .int p), (2, .int q), (3, .int e), (4, .int (nI i))] [] M := by
    intro n
    induction n with
    | zero =>
      intro i hn hall
      refine za_iload hc dR_hasPoint_3 rfl ?_
      refine za_aload_n hc dR_hasPoint_5 rfl ?_
      refine za_getI hc gfR_18 (by assumption) dR_hasPoint_6 ?_
      rw [hR.1]
      refine za_icmp_ge 32 hc dR_hasPoint_9 rfl (fun h_9 => ?_) (fun h_9 => ?_)
      · skip
        refine za_iconst hc 0 dR_hasPoint_32 rfl ?_
        exact za_zret hc rfl (rfl) dR_hasPoint_33 ⟨Nat.zero_le _, Nat.zero_le _⟩ (⟨0, rfl, Or.inl rfl, ⟨fun z => absurd z (by decide), fun ⟨row, h1, h2⟩ => by
        obtain ⟨k, hk⟩ := List.getElem?_of_mem h1
        exact absurd h2 (hall k row (by have := (List.getElem?_eq_some_iff.mp hk).1; omega) hk)⟩, rfl⟩)
      · skip
        exact absurd ((nI_leI (by omega) (by omega)).mpr (show R.length ≤ i by omega)) h_9
    | succ n ih =>
      intro i hn hall
      have hri := List.getElem?_eq_getElem (l := R) (show i < R.length by omega)
      refine za_iload hc dR_hasPoint_3 rfl ?_
      refine za_aload_n hc dR_hasPoint_5 rfl ?_
      refine za_getI hc gfR_18 (by assumption) dR_hasPoint_6 ?_
      rw [hR.1]
      refine za_icmp_ge 32 hc dR_hasPoint_9 rfl (fun h_9 => ?_) (fun h_9 => ?_)
      · skip
        exact absurd ((nI_leI (by omega) (by omega)).mp h_9) (by omega)
      · skip
        refine za_aload_n hc dR_hasPoint_12 rfl ?_
        refine za_iload hc dR_hasPoint_13 rfl ?_
        refine za_iload_n hc dR_hasPoint_15 rfl ?_
        refine za_iload_n hc dR_hasPoint_16 rfl ?_
        refine za_iload_n hc dR_hasPoint_17 rfl ?_
        refine za_cV4i hc gsR_84 (by assumption) (cR_rowHasPoint_ l M p q e hr hR hri hp hq he) ⟨rfl, rfl⟩ ⟨Nat.le_of_ble_eq_true rfl, Nat.le_of_ble_eq_true rfl⟩ ⟨Nat.zero_le _, Nat.zero_le _⟩ dR_hasPoint_18 (fun x_18 M_18 h_18 => ?_)
        obtain ⟨k1, k2, hm_18⟩ := h_18
        rw [hm_18]
        refine za_if_eq 26 hc dR_hasPoint_21 rfl (fun h_21 => ?_) (fun h_21 => ?_)
        · skip
          refine za_iinc hc _ dR_hasPoint_26 rfl ((nI_succ i).symm) (by decide) ?_
          refine za_goto 3 hc dR_hasPoint_29 rfl ?_
          refine ih (i + 1) (by omega) (fun k row hk hkr => ?_)
          by_cases c : k < i
          · exact hall k row c hkr
          · obtain rfl : k = i := by omega
            rw [hri] at hkr; rw [← Option.some.inj hkr]; exact fun z => absurd (k2.mpr z) (by rw [h_21]; decide)
        · skip
          refine za_iconst hc 1 dR_hasPoint_24 rfl ?_
          exact za_zret hc rfl (rfl) dR_hasPoint_25 ⟨Nat.zero_le _, Nat.zero_le _⟩ (⟨1, rfl, Or.inr rfl, ⟨fun _ => ⟨_, List.getElem_mem _, k2.mp (k1.resolve_left h_21)⟩, fun _ => rfl⟩, rfl⟩)
  refine za_iconst hc 0 dR_hasPoint_0 rfl ?_
  refine za_istore hc dR_hasPoint_1 (by decide) ?_
  exact loop R.length 0 (by omega) (fun k row hk => absurd hk (Nat.not_lt_zero _))
