/-! The model: parts, contrary. -/
theorem gputs_can {A : List gC} (hz : ∀ m ∈ A, gnz m) : gCan (A.map gnorm) (A.foldl gput []) := by
  obtain ⟨ns', h1, h2⟩ := gCan_puts A [] [] hz gCan_nil
  exact gCan_perm (fun q => (h1 q).trans ⟨fun z => z.resolve_left (fun w => by cases w), Or.inr⟩) h2
theorem gputs_perm {A B : List gC} (hz : ∀ m ∈ A, gnz m) (hm : ∀ q, q ∈ A ↔ q ∈ B) : A.foldl gput [] = B.foldl gput [] := by
  refine gCan_uniq (gputs_can hz) (gCan_perm (fun q => ?_) (gputs_can (A := B) (fun m h => hz m ((hm m).mpr h))))
  simp only [List.mem_map, hm]
theorem gnz_norm {m : gC} (h : gnz m) : gnz (gnorm m) := fun z => by
  obtain ⟨e1, e2, -⟩ := gnorm_mul (q := m)
  rw [z.1] at e1; rw [z.2] at e2
  exact h ⟨by rw [e1, Int.mul_zero], by rw [e2, Int.mul_zero]⟩
theorem gputs_nz {A : List gC} (hz : ∀ m ∈ A, gnz m) : ∀ q ∈ A.foldl gput [], gnz q := fun q hq => by
  obtain ⟨⟨m, hm, k, -⟩, -⟩ := ((gputs_can hz).2 q).mp hq
  obtain ⟨p, hp, rfl⟩ := List.mem_map.mp hm
  have := gnz_norm (hz p hp)
  unfold gnz at *; rw [← k.1, ← k.2]; exact this
theorem gadd_rz {R R' : List (List gC)} {ls : List gC} (h : gadd R ls = some R') (hR : gRz R) (hl : ∀ q ∈ ls, gnz q) : gRz R' := by
  unfold gadd at h
  split at h
  · rw [← Option.some.inj h]; exact hR
  · split at h
    · cases h
    · split at h
      · rw [← Option.some.inj h]; exact hR
      · split at h
        · cases h
        · rw [← Option.some.inj h]
          intro row hrow m hm
          rcases List.mem_append.mp hrow with z | z
          · exact hR row z m hm
          · rw [List.mem_singleton.mp z] at hm
            exact hl m (by simpa using (gthin_sub ls []).1 m hm)
theorem gand1_rz {pr : List gC} (hp : ∀ m ∈ pr, gnz m) : ∀ (Q acc R : List (List gC)), gRz Q → gRz acc → gand1 pr acc Q = some R → gRz R := by
  intro Q
  induction Q with
  | nil => intro acc R _ ha h; unfold gand1 at h; rw [← Option.some.inj h]; exact ha
  | cons q t ih =>
    intro acc R hQ ha h
    unfold gand1 at h
    cases e : gadd acc ((pr ++ q).foldl gput []) with
    | none => rw [e] at h; cases h
    | some a =>
      rw [e] at h
      refine ih a R (fun row hr => hQ row (List.mem_cons_of_mem _ hr)) (gadd_rz e ha (gputs_nz (fun m hm => ?_))) h
      rcases List.mem_append.mp hm with z | z
      · exact hp m z
      · exact hQ q List.mem_cons_self m z
theorem gand2_rz {Q : List (List gC)} (hQ : gRz Q) : ∀ (P acc R : List (List gC)), gRz P → gRz acc → gand2 Q acc P = some R → gRz R := by
  intro P
  induction P with
  | nil => intro acc R _ ha h; unfold gand2 at h; rw [← Option.some.inj h]; exact ha
  | cons p t ih =>
    intro acc R hP ha h
    unfold gand2 at h
    cases e : gand1 p acc Q with
    | none => rw [e] at h; cases h
    | some a => rw [e] at h; exact ih a R (fun row hr => hP row (List.mem_cons_of_mem _ hr)) (gand1_rz (hP p List.mem_cons_self) Q acc a hQ ha e) h
theorem gRz_nil : gRz [] := fun row h => by cases h
theorem gAnd_rz {P Q R : List (List gC)} (hP : gRz P) (hQ : gRz Q) (h : gAnd P Q = some R) : gRz R := gand2_rz hQ P [] R hP gRz_nil h
theorem gnz_flip {m : gC} (h : gnz m) : gnz (gflip m) := by unfold gnz gflip at *; simp only; omega
theorem gcut_list {row : List gC} {m : gC} (hz : ∀ q ∈ row, gnz q) (hm : m ∈ row) (i : Nat) : (row.take i ++ [gflip m]).foldl gput [] = (row.take i).foldl gput (gput [] (gflip m)) := by
  refine gputs_perm (B := gflip m :: row.take i) (fun q hq => ?_) (fun q => by simp only [List.mem_append, List.mem_cons, List.mem_singleton, List.not_mem_nil]; grind)
  rcases List.mem_append.mp hq with z | z
  · exact hz q (List.mem_of_mem_take z)
  · rw [List.mem_singleton.mp z]; exact gnz_flip (hz m hm)
theorem gcut_step {row : List gC} {m : gC} {i : Nat} {R : List (List gC)} (hri : row[i]? = some m) (h : gadd (gcut row i) ((row.take i).foldl gput (gput [] (gflip m))) = some R) : gcut row (i + 1) = R := by
  rw [gcut, hri]; simp only [h, Option.getD]
theorem gcut_rz {row : List gC} (hz : ∀ q ∈ row, gnz q) : ∀ i, gRz (gcut row i) := by
  intro i
  induction i with
  | zero => exact gRz_nil
  | succ i ih =>
    cases e : row[i]? with
    | none => rw [gcut, e]; exact ih
    | some m =>
      have hm := List.mem_of_getElem? e
      cases h : gadd (gcut row i) ((row.take i).foldl gput (gput [] (gflip m))) with
      | none => rw [gcut, e]; simp only [h, Option.getD]; exact ih
      | some R =>
        rw [gcut_step e h]
        refine gadd_rz h ih ?_
        rw [← gcut_list hz hm i]
        refine gputs_nz (fun q hq => ?_)
        rcases List.mem_append.mp hq with z | z
        · exact hz q (List.mem_of_mem_take z)
        · rw [List.mem_singleton.mp z]; exact gnz_flip (hz m hm)

set_option maxRecDepth 100000 in
set_option maxHeartbeats 4000000 in
theorem cM_parts_ (l : Launch) {to p j : Nat} {P : List (List gC)} {row : List gC} (M : zM) (ht14 : to < 14) (hp14 : p < 14) (hpt : to ≠ p) (hP : sH M p P) (hrow : P[j]? = some row) (hz : gRz P) (hps0 : zI M 62 24 = 0) (hF0 : sF [] M M) : zMet l mM_parts rM_parts [.ref 62, .int (nI to), .int (nI p), .int (nI j)] M (zqv (fun M' => zI M' 62 24 = 0 ∧ sH M' to (gcut row row.length) ∧ sF [to] M M')) := by
  refine za_enter (by decide) (Nat.le_of_ble_eq_true rfl) (fun X hc => ?_)
  have a63 := ar_63
  have a64 := ar_64
  have a65 := ar_65
  have a66 := ar_66
  have a67 := ar_67
  have a68 := ar_68
  have a73 := ar_73
  have a74 := ar_74
  have a75 := ar_75
  have a76 := ar_76
  have hpl := hP.2.1
  have hj12 : j < 12 := by have := (List.getElem?_eq_some_iff.mp hrow).1; omega
  have hrl := (hP.2.2 j row hrow).1
  have loop : ∀ (n i : Nat) (M1 : zM), n + i = row.length → zI M1 62 24 = 0 → sH M1 to (gcut row i) → sF [to] M M1 → zW X (zqv (fun M' => zI M' 62 24 = 0 ∧ sH M' to (gcut row row.length) ∧ sF [to] M M')) (0, 0) 10 [(0, .ref 62), (1, .int (nI to)), (2, .int (nI p)), (3, .int (nI j)), (4, .int (nI i))] [] M1 := by
    intro n
    induction n with
    | zero =>
      intro i M1 hn hps hS1 hF
      obtain rfl : i = row.length := by omega
      have hP1 : sH M1 p P := sH_k hP hF.2.2.2.2.2.1 (by simp; exact fun z => hpt z.symm)
      obtain ⟨b1, b2, b3, b4⟩ := hP1.2.2 j row hrow
      refine za_iload hc dM_parts_10 rfl ?_
      refine za_aload_n hc dM_parts_12 rfl ?_
      refine za_getA hc gfM_13 zob_62 (p := 64) rfl dM_parts_13 ?_
      refine za_bipush hc 12 dM_parts_16 rfl ?_
      refine za_iload_n hc dM_parts_18 rfl ?_
      refine za_imul hc dM_parts_19 ?_
      refine za_iload_n hc dM_parts_20 rfl ?_
      refine za_iadd hc dM_parts_21 ?_
      rw [zic]
      refine zm_iald hc (by assumption) dM_parts_22 (by omega) (by decide) ?_
      rw [b2]
      refine za_icmp_ge 104 hc dM_parts_23 rfl (fun h_23 => ?_) (fun h_23 => ?_)
      · skip
        exact za_vret hc rfl dM_parts_104 ⟨Nat.zero_le _, Nat.zero_le _⟩ (⟨rfl, hps, hS1, hF⟩)
      · skip
        exact absurd (Int32.le_refl _) h_23
    | succ n ih =>
      intro i M1 hn hps hS1 hF
      have hP1 : sH M1 p P := sH_k hP hF.2.2.2.2.2.1 (by simp; exact fun z => hpt z.symm)
      obtain ⟨b1, b2, b3, b4⟩ := hP1.2.2 j row hrow
      have hri := List.getElem?_eq_getElem (l := row) (show i < row.length by omega)
      generalize hme : row[i] = m at hri
      have hmm := List.mem_of_getElem? hri
      have dk := b3 i m hri
      have lm := b4 m hmm
      have hzm := hz row (List.mem_of_getElem? hrow) m hmm
      have hzr := hz row (List.mem_of_getElem? hrow)
      have hF2 := hF.bg
      have hP2 : sH (mBg M1) p P := sH_k hP hF2.2.2.2.2.2.1 (by simp; exact fun z => hpt z.symm)
      have em : ((zI M1 65 (144 * p + 12 * j + i)).toInt, (zI M1 66 (144 * p + 12 * j + i)).toInt, (zI M1 67 (144 * p + 12 * j + i)).toInt, zI M1 68 (144 * p + 12 * j + i) == 1) = m := dk
      have l1 : (zI M1 65 (144 * p + 12 * j + i)).toInt.natAbs ≤ 10000 := by rw [← em] at lm; exact lm.1
      have l2 : (zI M1 66 (144 * p + 12 * j + i)).toInt.natAbs ≤ 10000 := by rw [← em] at lm; exact lm.2.1
      have l3 : (zI M1 67 (144 * p + 12 * j + i)).toInt.natAbs ≤ 10000 := by rw [← em] at lm; exact lm.2.2
      have ef : ∀ s : Int32, (s == 1) = !(zI M1 68 (144 * p + 12 * j + i) == 1) → ((-(zI M1 65 (144 * p + 12 * j + i))).toInt64.toInt, (-(zI M1 66 (144 * p + 12 * j + i))).toInt64.toInt, (-(zI M1 67 (144 * p + 12 * j + i))).toInt64.toInt, s == 1) = gflip m := fun s hs => by rw [i2l_int, i2l_int, i2l_int, i_neg (by omega), i_neg (by omega), i_neg (by omega), hs, ← em]; rfl
      have hz2 : ¬ ((-(zI M1 65 (144 * p + 12 * j + i))).toInt64.toInt = 0 ∧ (-(zI M1 66 (144 * p + 12 * j + i))).toInt64.toInt = 0) := by rw [i2l_int, i2l_int, i_neg (by omega), i_neg (by omega)]; rw [← em] at hzm; unfold gnz at hzm; simp only at hzm; omega
      obtain ⟨R2, hR2⟩ := gadd_some (R := gcut row i) (by have := gcut_len row i; omega) (show ((row.take i).foldl gput (gput [] (gflip m))).length ≤ 12 by have hl1 := gput_len [] (gflip m); have hl2 := g_put_len (gput [] (gflip m)) (row.take i); simp only [List.length_nil] at hl1; rw [List.length_take, Nat.min_eq_left (by omega)] at hl2; omega) (gputs_lim (gput_lim (fun k hk => by cases hk) (gflip_lim lm)) (fun k hk => b4 k (List.mem_of_mem_take hk)))
      refine za_iload hc dM_parts_10 rfl ?_
      refine za_aload_n hc dM_parts_12 rfl ?_
      refine za_getA hc gfM_13 zob_62 (p := 64) rfl dM_parts_13 ?_
      refine za_bipush hc 12 dM_parts_16 rfl ?_
      refine za_iload_n hc dM_parts_18 rfl ?_
      refine za_imul hc dM_parts_19 ?_
      refine za_iload_n hc dM_parts_20 rfl ?_
      refine za_iadd hc dM_parts_21 ?_
      rw [zic]
      refine zm_iald hc (by assumption) dM_parts_22 (by omega) (by decide) ?_
      rw [b2]
      refine za_icmp_ge 104 hc dM_parts_23 rfl (fun h_23 => ?_) (fun h_23 => ?_)
      · skip
        exact absurd ((nI_leI (by omega) (by omega)).mp h_23) (by omega)
      · skip
        refine za_aload_n hc dM_parts_26 rfl ?_
        refine za_cV0v hc gsM_198 zob_62 (cM_begin_ l M1) ⟨rfl, rfl⟩ ⟨Nat.le_of_ble_eq_true rfl, Nat.le_of_ble_eq_true rfl⟩ ⟨Nat.zero_le _, Nat.zero_le _⟩ dM_parts_27 (fun M_27 h_27 => ?_)
        have hmb : M_27 = mBg M1 := h_27
        subst hmb
        refine za_aload_n hc dM_parts_30 rfl ?_
        refine za_iload_n hc dM_parts_31 rfl ?_
        refine za_iload_n hc dM_parts_32 rfl ?_
        refine za_iload hc dM_parts_33 rfl ?_
        refine za_cV3v hc gsM_201 zob_62 (cM_addRow_ l (mBg M1) hp14 hP2 hrow (few := i) (by omega) hzr (mBg_H hF.2.1) (by simp only [List.length_nil]; omega) mBg_n hF2.2.2.1) ⟨rfl, rfl⟩ ⟨Nat.le_of_ble_eq_true rfl, Nat.le_of_ble_eq_true rfl⟩ ⟨Nat.zero_le _, Nat.zero_le _⟩ dM_parts_35 (fun M_35 h_35 => ?_)
        obtain ⟨w1, w2, w3, w4⟩ := h_35
        rw [List.nil_append] at w1
        have hF3 : sF [to] M M_35 := hF2.add w3 w4 w1.2.2.2
        have e65 : zI M_35 65 = zI M1 65 := (w4 65 (mA_s 65 (by decide) (by decide))).1
        have e66 : zI M_35 66 = zI M1 66 := (w4 66 (mA_s 66 (by decide) (by decide))).1
        have e67 : zI M_35 67 = zI M1 67 := (w4 67 (mA_s 67 (by decide) (by decide))).1
        have e68 : zI M_35 68 = zI M1 68 := (w4 68 (mA_s 68 (by decide) (by decide))).1
        refine za_iload_n hc dM_parts_38 rfl ?_
        refine za_iload_n hc dM_parts_39 rfl ?_
        refine za_iload hc dM_parts_40 rfl ?_
        refine za_cS3i hc gsM_149 (cM_place_ l M_35 (p := p) (j := j) (i := i)) ⟨rfl, rfl⟩ ⟨Nat.le_of_ble_eq_true rfl, Nat.le_of_ble_eq_true rfl⟩ ⟨Nat.zero_le _, Nat.zero_le _⟩ dM_parts_42 (fun x_42 M_42 h_42 => ?_)
        obtain ⟨q_42, hm_42⟩ := h_42
        rw [hm_42, q_42]
        refine za_istore hc dM_parts_45 (by decide) ?_
        refine za_aload_n hc dM_parts_47 rfl ?_
        refine za_aload_n hc dM_parts_48 rfl ?_
        refine za_getA hc gfM_16 zob_62 (p := 65) rfl dM_parts_49 ?_
        refine za_iload hc dM_parts_52 rfl ?_
        refine zm_iald hc (by assumption) dM_parts_54 (by omega) (by decide) ?_
        rw [e65]
        refine za_ineg hc dM_parts_55 ?_
        refine za_i2l hc dM_parts_56 ?_
        refine za_aload_n hc dM_parts_57 rfl ?_
        refine za_getA hc gfM_19 zob_62 (p := 66) rfl dM_parts_58 ?_
        refine za_iload hc dM_parts_61 rfl ?_
        refine zm_iald hc (by assumption) dM_parts_63 (by omega) (by decide) ?_
        rw [e66]
        refine za_ineg hc dM_parts_64 ?_
        refine za_i2l hc dM_parts_65 ?_
        refine za_aload_n hc dM_parts_66 rfl ?_
        refine za_getA hc gfM_22 zob_62 (p := 67) rfl dM_parts_67 ?_
        refine za_iload hc dM_parts_70 rfl ?_
        refine zm_iald hc (by assumption) dM_parts_72 (by omega) (by decide) ?_
        rw [e67]
        refine za_ineg hc dM_parts_73 ?_
        refine za_i2l hc dM_parts_74 ?_
        refine za_aload_n hc dM_parts_75 rfl ?_
        refine za_getA hc gfM_25 zob_62 (p := 68) rfl dM_parts_76 ?_
        refine za_iload hc dM_parts_79 rfl ?_
        refine zm_zald hc (by assumption) dM_parts_81 (by omega) (by decide) ?_
        rw [e68]
        refine za_if_ne 89 hc dM_parts_82 rfl (fun h_82 => ?_) (fun h_82 => ?_)
        · skip
          have hsg : ((0 : Int32) == 1) = !(zI M1 68 (144 * p + 12 * j + i) == 1) := by rw [(hF.2.2.1 (144 * p + 12 * j + i)).resolve_left h_82]; rfl
          refine za_iconst hc 0 dM_parts_89 rfl ?_
          refine za_cV4v hc gsM_153 zob_62 (cM_add_ l M_35 _ _ _ 0 w1 (by rw [List.length_take]; omega) (by first | exact Or.inl rfl | exact Or.inr rfl) w2 (fun z => absurd z hz2)) ⟨rfl, rfl⟩ ⟨Nat.le_of_ble_eq_true rfl, Nat.le_of_ble_eq_true rfl⟩ ⟨Nat.zero_le _, Nat.zero_le _⟩ dM_parts_90 (fun M_90 h_90 => ?_)
          obtain ⟨x1, x2, x3, x4⟩ := h_90
          rw [if_neg hz2, ef 0 hsg] at x1
          have hF4 : sF [to] M M_90 := hF3.add x3 x4 x1.2.2.2
          have hS4 : sH M_90 to (gcut row i) := sH_k (I := []) hS1 ((sK_fr (mBg_fr (M := M1)) (fun k h1 h2 z => by unfold m62 at z; omega)).tr ((sK_fr w4 mA_s).tr (sK_fr x4 mA_s))) (by simp)
          have hps4 : zI M_90 62 24 = 0 := by rw [(x3 24 (by decide)).1, (w3 24 (by decide)).1, (mBg_k 24 (by decide)).1]; exact hps
          have hokm : mOK (row.take i ++ [gflip m]) := mOK_lim (fun k hk => by rcases List.mem_append.mp hk with z | z; exact b4 k (List.mem_of_mem_take z); rw [List.mem_singleton.mp z]; exact gflip_lim lm) (fun k hk => by rcases List.mem_append.mp hk with z | z; exact hzr k (List.mem_of_mem_take z); rw [List.mem_singleton.mp z]; exact gnz_flip hzm)
          refine za_aload_n hc dM_parts_93 rfl ?_
          refine za_iload_n hc dM_parts_94 rfl ?_
          refine za_cV1v hc gsM_205 zob_62 (cM_put_ l M_90 ht14 hS4 x1 hokm hps4 x2 hF4.1 hF4.2.2.1 hF4.2.2.2.1) ⟨rfl, rfl⟩ ⟨Nat.le_of_ble_eq_true rfl, Nat.le_of_ble_eq_true rfl⟩ ⟨Nat.zero_le _, Nat.zero_le _⟩ dM_parts_95 (fun M_95 h_95 => ?_)
          obtain ⟨v1, v2, v3, v4, v5, v6, v7⟩ := h_95
          have hF5 : sF [to] M M_95 := hF4.put (by simp) v2 v3 v4 v5 v6 v7
          rw [gcut_list hzr hmm i, hR2] at v1
          refine za_iinc hc _ dM_parts_98 rfl ((nI_succ i).symm) (by decide) ?_
          refine za_goto 10 hc dM_parts_101 rfl ?_
          refine za_take 5 ?_
          exact ih (i + 1) M_95 (by omega) v1.1 (by rw [gcut_step hri hR2]; exact v1.2) hF5
        · skip
          have hsg : ((1 : Int32) == 1) = !(zI M1 68 (144 * p + 12 * j + i) == 1) := by rw [h_82]; rfl
          refine za_iconst hc 1 dM_parts_85 rfl ?_
          refine za_goto 90 hc dM_parts_86 rfl ?_
          refine za_cV4v hc gsM_153 zob_62 (cM_add_ l M_35 _ _ _ 1 w1 (by rw [List.length_take]; omega) (by first | exact Or.inl rfl | exact Or.inr rfl) w2 (fun z => absurd z hz2)) ⟨rfl, rfl⟩ ⟨Nat.le_of_ble_eq_true rfl, Nat.le_of_ble_eq_true rfl⟩ ⟨Nat.zero_le _, Nat.zero_le _⟩ dM_parts_90 (fun M_90 h_90 => ?_)
          obtain ⟨x1, x2, x3, x4⟩ := h_90
          rw [if_neg hz2, ef 1 hsg] at x1
          have hF4 : sF [to] M M_90 := hF3.add x3 x4 x1.2.2.2
          have hS4 : sH M_90 to (gcut row i) := sH_k (I := []) hS1 ((sK_fr (mBg_fr (M := M1)) (fun k h1 h2 z => by unfold m62 at z; omega)).tr ((sK_fr w4 mA_s).tr (sK_fr x4 mA_s))) (by simp)
          have hps4 : zI M_90 62 24 = 0 := by rw [(x3 24 (by decide)).1, (w3 24 (by decide)).1, (mBg_k 24 (by decide)).1]; exact hps
          have hokm : mOK (row.take i ++ [gflip m]) := mOK_lim (fun k hk => by rcases List.mem_append.mp hk with z | z; exact b4 k (List.mem_of_mem_take z); rw [List.mem_singleton.mp z]; exact gflip_lim lm) (fun k hk => by rcases List.mem_append.mp hk with z | z; exact hzr k (List.mem_of_mem_take z); rw [List.mem_singleton.mp z]; exact gnz_flip hzm)
          refine za_aload_n hc dM_parts_93 rfl ?_
          refine za_iload_n hc dM_parts_94 rfl ?_
          refine za_cV1v hc gsM_205 zob_62 (cM_put_ l M_90 ht14 hS4 x1 hokm hps4 x2 hF4.1 hF4.2.2.1 hF4.2.2.2.1) ⟨rfl, rfl⟩ ⟨Nat.le_of_ble_eq_true rfl, Nat.le_of_ble_eq_true rfl⟩ ⟨Nat.zero_le _, Nat.zero_le _⟩ dM_parts_95 (fun M_95 h_95 => ?_)
          obtain ⟨v1, v2, v3, v4, v5, v6, v7⟩ := h_95
          have hF5 : sF [to] M M_95 := hF4.put (by simp) v2 v3 v4 v5 v6 v7
          rw [gcut_list hzr hmm i, hR2] at v1
          refine za_iinc hc _ dM_parts_98 rfl ((nI_succ i).symm) (by decide) ?_
          refine za_goto 10 hc dM_parts_101 rfl ?_
          refine za_take 5 ?_
          exact ih (i + 1) M_95 (by omega) v1.1 (by rw [gcut_step hri hR2]; exact v1.2) hF5
  refine za_aload_n hc dM_parts_0 rfl ?_
  refine za_getA hc gfM_7 zob_62 (p := 63) rfl dM_parts_1 ?_
  refine za_iload_n hc dM_parts_4 rfl ?_
  refine za_iconst hc 0 dM_parts_5 rfl ?_
  refine zm_iast hc (by assumption) dM_parts_6 ht14 (by decide) ?_
  refine za_iconst hc 0 dM_parts_7 rfl ?_
  refine za_istore hc dM_parts_8 (by decide) ?_
  exact loop row.length 0 (zsI M 63 to 0) (by omega) hps0 (by unfold gcut; exact sH_clear) ((hF0.wk (by simp)).clr (by simp))
