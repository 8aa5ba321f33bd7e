/-! The model: its regions; put. -/
def sg (M : zM) (p : Nat) : gC := ((zI M 65 p).toInt, (zI M 66 p).toInt, (zI M 67 p).toInt, zI M 68 p == 1)
def sbo (M : zM) : Prop := ∀ p, zI M 68 p = 0 ∨ zI M 68 p = 1
def sH (M : zM) (r : Nat) (R : List (List gC)) : Prop := zI M 63 r = nI R.length ∧ R.length ≤ 12 ∧ ∀ j row, R[j]? = some row → row.length ≤ 12 ∧ zI M 64 (12 * r + j) = nI row.length ∧ (∀ i q, row[i]? = some q → sg M (144 * r + 12 * j + i) = q) ∧ ∀ q ∈ row, gLim q
/-- all regions but those of I are as they were -/
def sK (I : List Nat) (M M' : zM) : Prop := ∀ r, r ∉ I → zI M' 63 r = zI M 63 r ∧ (∀ j, j < 12 → zI M' 64 (12 * r + j) = zI M 64 (12 * r + j)) ∧ ∀ k, k < 144 → sg M' (144 * r + k) = sg M (144 * r + k)
theorem sK.rf {I : List Nat} {M : zM} : sK I M M := fun _ _ => ⟨rfl, fun _ _ => rfl, fun _ _ => rfl⟩
theorem sK.tr {I : List Nat} {M M' M'' : zM} (h : sK I M M') (h' : sK I M' M'') : sK I M M'' := fun r hr => ⟨(h' r hr).1.trans (h r hr).1, fun j hj => ((h' r hr).2.1 j hj).trans ((h r hr).2.1 j hj), fun k hk => ((h' r hr).2.2 k hk).trans ((h r hr).2.2 k hk)⟩
theorem sK.wk {I I' : List Nat} {M M' : zM} (h : sK I M M') (hI : ∀ j, j ∈ I → j ∈ I') : sK I' M M' := fun r hr => h r (fun z => hr (hI r z))
theorem sK_fr {P : Nat → Prop} {I : List Nat} {M M' : zM} (h : zfr P M M') (hp : ∀ k, 63 ≤ k → k ≤ 68 → ¬ P k) : sK I M M' := fun r _ => ⟨by rw [(h 63 (hp 63 (by decide) (by decide))).1], fun j _ => by rw [(h 64 (hp 64 (by decide) (by decide))).1], fun k _ => by unfold sg; rw [(h 65 (hp 65 (by decide) (by decide))).1, (h 66 (hp 66 (by decide) (by decide))).1, (h 67 (hp 67 (by decide) (by decide))).1, (h 68 (hp 68 (by decide) (by decide))).1]⟩
theorem sbo_fr {P : Nat → Prop} {M M' : zM} (hb : sbo M) (h : zfr P M M') (hp : ¬ P 68) : sbo M' := fun p => by rw [(h 68 hp).1]; exact hb p
theorem sH_k {I : List Nat} {M M' : zM} {r : Nat} {R : List (List gC)} (h : sH M r R) (hk : sK I M M') (hr : r ∉ I) : sH M' r R := by
  obtain ⟨h1, h2, h3⟩ := h
  obtain ⟨k1, k2, k3⟩ := hk r hr
  refine ⟨k1.trans h1, h2, fun j row hj => ?_⟩
  have hj12 : j < 12 := by have := (List.getElem?_eq_some_iff.mp hj).1; omega
  obtain ⟨a1, a2, a3, a4⟩ := h3 j row hj
  refine ⟨a1, (k2 j hj12).trans a2, fun i q hq => ?_, a4⟩
  have hi : i < row.length := (List.getElem?_eq_some_iff.mp hq).1
  rw [Nat.add_assoc, k3 (12 * j + i) (by omega), ← Nat.add_assoc]
  exact a3 i q hq
theorem mN_s : ∀ k, 63 ≤ k → k ≤ 68 → ¬ mN k := fun k h1 h2 z => by unfold mN at z; omega
theorem zic (r j : Nat) : (12 : Int32) * nI r + nI j = nI (12 * r + j) := by rw [show (12 : Int32) = nI 12 from rfl, pk_mul, nI_add]
def mP : Nat → Prop := fun k => (62 ≤ k ∧ k ≤ 68) ∨ (73 ≤ k ∧ k ≤ 80)
theorem mN_P {k : Nat} (h : mN k) : mP k := by unfold mN at h; unfold mP; omega
theorem lim_Bd {q : gC} : gLim q ↔ gBd 10000 q := by unfold gLim gBd; omega
def sput (M : zM) (p : Nat) (a b c s : Int32) : zM := zsI (zsI (zsI (zsI M 65 p a) 66 p b) 67 p c) 68 p s
theorem sput_sg {M : zM} {p t : Nat} {a b c s : Int32} : sg (sput M p a b c s) t = if t = p then (a.toInt, b.toInt, c.toInt, s == 1) else sg M t := by
  unfold sg sput
  rw [zI_o (by decide), zI_o (by decide), zI_o (by decide), zI_s, zI_o (by decide), zI_o (by decide), zI_s, zI_o (by decide), zI_o (by decide), zI_s, zI_o (by decide), zI_o (by decide), zI_s, zI_o (by decide), zI_o (by decide), zI_o (by decide)]
  by_cases h : t = p
  · simp only [if_pos h]
  · simp only [if_neg h]
theorem sput_fr {M : zM} {p : Nat} {a b c s : Int32} : zfr (fun k => 65 ≤ k ∧ k ≤ 68) M (sput M p a b c s) := (zfr_sI (by decide)).tr ((zfr_sI (by decide)).tr ((zfr_sI (by decide)).tr (zfr_sI (by decide))))
theorem sput_bo {M : zM} {p : Nat} {a b c s : Int32} (h : sbo M) (hs : s = 0 ∨ s = 1) : sbo (sput M p a b c s) := fun t => by
  unfold sput
  rw [zI_s, zI_o (by decide), zI_o (by decide), zI_o (by decide)]
  split
  · exact hs
  · exact h t

theorem b01_eq {x y : Int32} (hx : x = 0 ∨ x = 1) (hy : y = 0 ∨ y = 1) (h : (x == 1) = (y == 1)) : x = y := by
  rcases hx with rfl | rfl <;> rcases hy with rfl | rfl
  · rfl
  · exact absurd h (by decide)
  · exact absurd h (by decide)
  · rfl

set_option maxRecDepth 100000 in
set_option maxHeartbeats 4000000 in
theorem cM_isRow_ (l : Launch) {r j : Nat} {R : List (List gC)} {row ls : List gC} (M : zM) (hr : r < 14) (hS : sH M r R) (hrow : R[j]? = some row) (hH : mH M ls) (hsb : sbo M) : zMet l mM_isRow rM_isRow [.ref 62, .int (nI r), .int (nI j)] M (zqi (fun x M' => (x = 0 ∨ x = 1) ∧ (x = 1 ↔ row = ls) ∧ M' = M)) := by
  refine za_enter (by decide) (Nat.le_of_ble_eq_true rfl) (fun X hc => ?_)
  have a63 := ar_63
  have a64 := ar_64
  have a65 := ar_65
  have a66 := ar_66
  have a67 := ar_67
  have a68 := ar_68
  have a73 := ar_73
  have a74 := ar_74
  have a75 := ar_75
  have a76 := ar_76
  have hl := hH.2.1
  have hj12 : j < 12 := by have := (List.getElem?_eq_some_iff.mp hrow).1; have := hS.2.1; omega
  obtain ⟨a1, a2, a3, a4⟩ := hS.2.2 j row hrow
  have loop : ∀ n k (v : Int32), n + k = ls.length → (v = 0 ∨ v = 1) → (v = 1 ↔ row.length = ls.length ∧ ∀ t, t < k → row[t]? = ls[t]?) → zW X (zqi (fun x M' => (x = 0 ∨ x = 1) ∧ (x = 1 ↔ row = ls) ∧ M' = M)) (0, 0) 27 [(0, .ref 62), (1, .int (nI r)), (2, .int (nI j)), (3, .int v), (4, .int (nI k))] [] M := by
    intro n
    induction n with
    | zero =>
      intro k v hn hv hall
      refine za_iload hc dM_isRow_27 rfl ?_
      refine za_aload_n hc dM_isRow_29 rfl ?_
      refine za_getI hc gfM_70 zob_62 dM_isRow_30 ?_
      rw [hH.1]
      refine za_icmp_ge 135 hc dM_isRow_33 rfl (fun h_33 => ?_) (fun h_33 => ?_)
      · skip
        refine za_iload_n hc dM_isRow_135 rfl ?_
        exact za_zret hc rfl (by rcases hv with z | z <;> rw [z] <;> rfl) dM_isRow_136 ⟨Nat.zero_le _, Nat.zero_le _⟩ (⟨_, rfl, hv, hall.trans ⟨fun h => List.ext_getElem? (fun t => by by_cases c : t < k; exact h.2 t c; rw [List.getElem?_eq_none (by omega), List.getElem?_eq_none (by omega)]), fun h => by rw [h]; exact ⟨rfl, fun t _ => rfl⟩⟩, rfl⟩)
      · skip
        exact absurd ((nI_leI (by omega) (by omega)).mpr (show ls.length ≤ k by omega)) h_33
    | succ n ih =>
      intro k v hn hv hall
      have hri := List.getElem?_eq_getElem (l := ls) (show k < ls.length by omega)
      generalize hme : ls[k] = m at hri
      have dk := hH.2.2.1 k m hri
      refine za_iload hc dM_isRow_27 rfl ?_
      refine za_aload_n hc dM_isRow_29 rfl ?_
      refine za_getI hc gfM_70 zob_62 dM_isRow_30 ?_
      rw [hH.1]
      refine za_icmp_ge 135 hc dM_isRow_33 rfl (fun h_33 => ?_) (fun h_33 => ?_)
      · skip
        exact absurd ((nI_leI (by omega) (by omega)).mp h_33) (by omega)
      · skip
        refine za_iload_n hc dM_isRow_36 rfl ?_
        refine za_if_eq 135 hc dM_isRow_37 rfl (fun h_37 => ?_) (fun h_37 => ?_)
        · skip
          subst h_37
          have hnn : ¬ row = ls := fun h => absurd (hall.mpr (by rw [h]; exact ⟨rfl, fun t _ => rfl⟩)) (by decide)
          refine za_iload_n hc dM_isRow_135 rfl ?_
          exact za_zret hc rfl (by rcases hv with z | z <;> rw [z] <;> rfl) dM_isRow_136 ⟨Nat.zero_le _, Nat.zero_le _⟩ (⟨_, rfl, Or.inl rfl, ⟨fun z => absurd z (by decide), fun z => absurd z hnn⟩, rfl⟩)
        · skip
          obtain ⟨hlen, hpre⟩ := hall.mp (hv.resolve_left h_37)
          have hk12 : k < 12 := by omega
          have hrr := List.getElem?_eq_getElem (l := row) (show k < row.length by omega)
          generalize hmr : row[k] = p at hrr
          have dp := a3 k p hrr
          have hpm : (row[k]? ≠ ls[k]?) ↔ p ≠ m := by rw [hrr, hri]; simp
          refine za_iload_n hc dM_isRow_40 rfl ?_
          refine za_iload_n hc dM_isRow_41 rfl ?_
          refine za_iload hc dM_isRow_42 rfl ?_
          refine za_cS3i hc gsM_149 (cM_place_ l M) ⟨rfl, rfl⟩ ⟨Nat.le_of_ble_eq_true rfl, Nat.le_of_ble_eq_true rfl⟩ ⟨Nat.zero_le _, Nat.zero_le _⟩ dM_isRow_44 (fun x_44 M_44 h_44 => ?_)
          obtain ⟨q_44, hm_44⟩ := h_44
          rw [hm_44, q_44]
          refine za_istore hc dM_isRow_47 (by decide) ?_
          refine za_aload_n hc dM_isRow_49 rfl ?_
          refine za_getA hc gfM_16 zob_62 (p := 65) rfl dM_isRow_50 ?_
          refine za_iload hc dM_isRow_53 rfl ?_
          refine zm_iald hc (by assumption) dM_isRow_55 (by omega) (by decide) ?_
          refine za_i2l hc dM_isRow_56 ?_
          refine za_aload_n hc dM_isRow_57 rfl ?_
          refine za_getA hc gfM_41 zob_62 (p := 73) rfl dM_isRow_58 ?_
          refine za_iload hc dM_isRow_61 rfl ?_
          refine zm_lald hc (by assumption) dM_isRow_63 (by omega) (by decide) ?_
          refine za_lcmp_ne 127 hc dM_isRow_64 dM_isRow_65 rfl (fun h_64 => ?_) (fun h_64 => ?_)
          · skip
            have hne : row[k]? ≠ ls[k]? := hpm.mpr (fun z => h_64 (Int64.toInt_inj.mp (by rw [i2l_int]; show (sg M (144 * r + 12 * j + k)).1 = (dg M 72 k).1; rw [dp, dk, z])))
            refine za_iconst hc 0 dM_isRow_127 rfl ?_
            refine za_istore_n hc dM_isRow_128 (by decide) ?_
            refine za_iinc hc _ dM_isRow_129 rfl ((nI_succ k).symm) (by decide) ?_
            refine za_goto 27 hc dM_isRow_132 rfl ?_
            refine za_take 5 ?_
            exact ih (k + 1) 0 (by omega) (Or.inl rfl) ⟨fun z => absurd z (by decide), fun z => absurd (z.2 k (by omega)) hne⟩
          · skip
            have c_64 : p.1 = m.1 := by rw [← dp, ← dk]; show (zI M 65 (144 * r + 12 * j + k)).toInt = (zJ M 73 k).toInt; rw [← h_64, i2l_int]
            refine za_aload_n hc dM_isRow_68 rfl ?_
            refine za_getA hc gfM_19 zob_62 (p := 66) rfl dM_isRow_69 ?_
            refine za_iload hc dM_isRow_72 rfl ?_
            refine zm_iald hc (by assumption) dM_isRow_74 (by omega) (by decide) ?_
            refine za_i2l hc dM_isRow_75 ?_
            refine za_aload_n hc dM_isRow_76 rfl ?_
            refine za_getA hc gfM_45 zob_62 (p := 74) rfl dM_isRow_77 ?_
            refine za_iload hc dM_isRow_80 rfl ?_
            refine zm_lald hc (by assumption) dM_isRow_82 (by omega) (by decide) ?_
            refine za_lcmp_ne 127 hc dM_isRow_83 dM_isRow_84 rfl (fun h_83 => ?_) (fun h_83 => ?_)
            · skip
              have hne : row[k]? ≠ ls[k]? := hpm.mpr (fun z => h_83 (Int64.toInt_inj.mp (by rw [i2l_int]; show (sg M (144 * r + 12 * j + k)).2.1 = (dg M 72 k).2.1; rw [dp, dk, z])))
              refine za_iconst hc 0 dM_isRow_127 rfl ?_
              refine za_istore_n hc dM_isRow_128 (by decide) ?_
              refine za_iinc hc _ dM_isRow_129 rfl ((nI_succ k).symm) (by decide) ?_
              refine za_goto 27 hc dM_isRow_132 rfl ?_
              refine za_take 5 ?_
              exact ih (k + 1) 0 (by omega) (Or.inl rfl) ⟨fun z => absurd z (by decide), fun z => absurd (z.2 k (by omega)) hne⟩
            · skip
              have c_83 : p.2.1 = m.2.1 := by rw [← dp, ← dk]; show (zI M 66 (144 * r + 12 * j + k)).toInt = (zJ M 74 k).toInt; rw [← h_83, i2l_int]
              refine za_aload_n hc dM_isRow_87 rfl ?_
              refine za_getA hc gfM_22 zob_62 (p := 67) rfl dM_isRow_88 ?_
              refine za_iload hc dM_isRow_91 rfl ?_
              refine zm_iald hc (by assumption) dM_isRow_93 (by omega) (by decide) ?_
              refine za_i2l hc dM_isRow_94 ?_
              refine za_aload_n hc dM_isRow_95 rfl ?_
              refine za_getA hc gfM_48 zob_62 (p := 75) rfl dM_isRow_96 ?_
              refine za_iload hc dM_isRow_99 rfl ?_
              refine zm_lald hc (by assumption) dM_isRow_101 (by omega) (by decide) ?_
              refine za_lcmp_ne 127 hc dM_isRow_102 dM_isRow_103 rfl (fun h_102 => ?_) (fun h_102 => ?_)
              · skip
                have hne : row[k]? ≠ ls[k]? := hpm.mpr (fun z => h_102 (Int64.toInt_inj.mp (by rw [i2l_int]; show (sg M (144 * r + 12 * j + k)).2.2.1 = (dg M 72 k).2.2.1; rw [dp, dk, z])))
                refine za_iconst hc 0 dM_isRow_127 rfl ?_
                refine za_istore_n hc dM_isRow_128 (by decide) ?_
                refine za_iinc hc _ dM_isRow_129 rfl ((nI_succ k).symm) (by decide) ?_
                refine za_goto 27 hc dM_isRow_132 rfl ?_
                refine za_take 5 ?_
                exact ih (k + 1) 0 (by omega) (Or.inl rfl) ⟨fun z => absurd z (by decide), fun z => absurd (z.2 k (by omega)) hne⟩
              · skip
                have c_102 : p.2.2.1 = m.2.2.1 := by rw [← dp, ← dk]; show (zI M 67 (144 * r + 12 * j + k)).toInt = (zJ M 75 k).toInt; rw [← h_102, i2l_int]
                refine za_aload_n hc dM_isRow_106 rfl ?_
                refine za_getA hc gfM_25 zob_62 (p := 68) rfl dM_isRow_107 ?_
                refine za_iload hc dM_isRow_110 rfl ?_
                refine zm_zald hc (by assumption) dM_isRow_112 (by omega) (by decide) ?_
                refine za_aload_n hc dM_isRow_113 rfl ?_
                refine za_getA hc gfM_51 zob_62 (p := 76) rfl dM_isRow_114 ?_
                refine za_iload hc dM_isRow_117 rfl ?_
                refine zm_zald hc (by assumption) dM_isRow_119 (by omega) (by decide) ?_
                refine za_icmp_ne 127 hc dM_isRow_120 rfl (fun h_120 => ?_) (fun h_120 => ?_)
                · skip
                  have hne : row[k]? ≠ ls[k]? := hpm.mpr (fun z => h_120 (b01_eq (hsb _) (hH.2.2.2 k) (by show (sg M (144 * r + 12 * j + k)).2.2.2 = (dg M 72 k).2.2.2; rw [dp, dk, z])))
                  refine za_iconst hc 0 dM_isRow_127 rfl ?_
                  refine za_istore_n hc dM_isRow_128 (by decide) ?_
                  refine za_iinc hc _ dM_isRow_129 rfl ((nI_succ k).symm) (by decide) ?_
                  refine za_goto 27 hc dM_isRow_132 rfl ?_
                  refine za_take 5 ?_
                  exact ih (k + 1) 0 (by omega) (Or.inl rfl) ⟨fun z => absurd z (by decide), fun z => absurd (z.2 k (by omega)) hne⟩
                · skip
                  have heq : row[k]? = ls[k]? := by
                    rw [hrr, hri]; refine congrArg some (Prod.ext c_64 (Prod.ext c_83 (Prod.ext c_102 ?_)))
                    rw [← dp, ← dk]; show (zI M 68 (144 * r + 12 * j + k) == 1) = (zI M 76 k == 1); rw [h_120]
                  refine za_iconst hc 1 dM_isRow_123 rfl ?_
                  refine za_goto 128 hc dM_isRow_124 rfl ?_
                  refine za_istore_n hc dM_isRow_128 (by decide) ?_
                  refine za_iinc hc _ dM_isRow_129 rfl ((nI_succ k).symm) (by decide) ?_
                  refine za_goto 27 hc dM_isRow_132 rfl ?_
                  refine za_take 5 ?_
                  exact ih (k + 1) 1 (by omega) (Or.inr rfl) ⟨fun _ => ⟨hlen, fun t ht => by by_cases c : t = k; rw [c]; exact heq; exact hpre t (by omega)⟩, fun _ => rfl⟩
  refine za_aload_n hc dM_isRow_0 rfl ?_
  refine za_getA hc gfM_13 zob_62 (p := 64) rfl dM_isRow_1 ?_
  refine za_bipush hc 12 dM_isRow_4 rfl ?_
  refine za_iload_n hc dM_isRow_6 rfl ?_
  refine za_imul hc dM_isRow_7 ?_
  refine za_iload_n hc dM_isRow_8 rfl ?_
  refine za_iadd hc dM_isRow_9 ?_
  rw [zic]
  refine zm_iald hc (by assumption) dM_isRow_10 (by omega) (by decide) ?_
  rw [a2]
  refine za_aload_n hc dM_isRow_11 rfl ?_
  refine za_getI hc gfM_70 zob_62 dM_isRow_12 ?_
  rw [hH.1]
  refine za_icmp_ne 22 hc dM_isRow_15 rfl (fun h_15 => ?_) (fun h_15 => ?_)
  · skip
    have hne : ¬ row.length = ls.length := fun z => h_15 (by rw [z])
    refine za_iconst hc 0 dM_isRow_22 rfl ?_
    refine za_istore_n hc dM_isRow_23 (by decide) ?_
    refine za_iconst hc 0 dM_isRow_24 rfl ?_
    refine za_istore hc dM_isRow_25 (by decide) ?_
    first
    | exact loop ls.length 0 0 (by omega) (Or.inl rfl) ⟨fun z => absurd z (by decide), fun z => absurd z.1 hne⟩
    | exact loop ls.length 0 1 (by omega) (Or.inr rfl) ⟨fun _ => ⟨heq, fun t h => absurd h (by omega)⟩, fun _ => rfl⟩
  · skip
    have heq : row.length = ls.length := by
      have t1 := (nI_leI (a := row.length) (b := ls.length) (by omega) (by omega)).mp (by rw [h_15]; exact Int32.le_refl _)
      have t2 := (nI_leI (a := ls.length) (b := row.length) (by omega) (by omega)).mp (by rw [h_15]; exact Int32.le_refl _)
      omega
    refine za_iconst hc 1 dM_isRow_18 rfl ?_
    refine za_goto 23 hc dM_isRow_19 rfl ?_
    refine za_istore_n hc dM_isRow_23 (by decide) ?_
    refine za_iconst hc 0 dM_isRow_24 rfl ?_
    refine za_istore hc dM_isRow_25 (by decide) ?_
    first
    | exact loop ls.length 0 0 (by omega) (Or.inl rfl) ⟨fun z => absurd z (by decide), fun z => absurd z.1 hne⟩
    | exact loop ls.length 0 1 (by omega) (Or.inr rfl) ⟨fun _ => ⟨heq, fun t h => absurd h (by omega)⟩, fun _ => rfl⟩
