/-! The model: copy, addRow. -/
theorem zi144 (r j : Nat) : (144 : Int32) * nI r + nI j = nI (144 * r + j) := by rw [show (144 : Int32) = nI 144 from rfl, pk_mul, nI_add]
def mS : Nat → Prop := fun k => 63 ≤ k ∧ k ≤ 68
theorem mS_P {k : Nat} (h : mS k) : mP k := by unfold mS at h; unfold mP; omega

set_option maxRecDepth 100000 in
set_option maxHeartbeats 4000000 in
theorem cM_copy_ (l : Launch) {to of : Nat} {R : List (List gC)} (M : zM) (ht : to < 14) (ho : of < 14) (hne : to ≠ of) (hS : sH M of R) (hsb0 : sbo M) : zMet l mM_copy rM_copy [.ref 62, .int (nI to), .int (nI of)] M (zqv (fun M' => sH M' to R ∧ sK [to] M M' ∧ sbo M' ∧ zfr mS M M')) := by
  refine za_enter (by decide) (Nat.le_of_ble_eq_true rfl) (fun X hc => ?_)
  have a63 := ar_63
  have a64 := ar_64
  have a65 := ar_65
  have a66 := ar_66
  have a67 := ar_67
  have a68 := ar_68
  have hRl := hS.2.1
  have L2 : ∀ (n k : Nat) (M1 : zM), n + k = 144 → zI M1 63 to = nI R.length → (∀ j, j < R.length → zI M1 64 (12 * to + j) = zI M 64 (12 * of + j)) → (∀ t, t < k → sg M1 (144 * to + t) = sg M (144 * of + t)) → sK [to] M M1 → sbo M1 → zfr mS M M1 → zW X (zqv (fun M' => sH M' to R ∧ sK [to] M M' ∧ sbo M' ∧ zfr mS M M')) (0, 0) 54 [(0, .ref 62), (1, .int (nI to)), (2, .int (nI of)), (3, .int (nI k))] [] M1 := by
    intro n
    induction n with
    | zero =>
      intro k M1 hn h63 h64 hcp hsk hsb hf
      refine za_iload_n hc dM_copy_54 rfl ?_
      refine za_sipush hc 144 dM_copy_55 rfl ?_
      rw [show (144 : Int32) = nI 144 from rfl]
      refine za_icmp_ge 163 hc dM_copy_58 rfl (fun h_58 => ?_) (fun h_58 => ?_)
      · skip
        exact za_vret hc rfl dM_copy_163 ⟨Nat.zero_le _, Nat.zero_le _⟩ (⟨rfl, ⟨h63, hRl, fun j row hj => by
        obtain ⟨a1, a2, a3, a4⟩ := hS.2.2 j row hj
        have hjl := (List.getElem?_eq_some_iff.mp hj).1
        refine ⟨a1, (h64 j hjl).trans a2, fun i q hq => ?_, a4⟩
        have hi := (List.getElem?_eq_some_iff.mp hq).1
        have e := hcp (12 * j + i) (by omega)
        rw [← Nat.add_assoc, ← Nat.add_assoc] at e
        exact e.trans (a3 i q hq)⟩, hsk, hsb, hf⟩)
      · skip
        exact absurd ((nI_leI (by omega) (by omega)).mpr (show 144 ≤ k by omega)) h_58
    | succ n ih =>
      intro k M1 hn h63 h64 hcp hsk hsb hf
      refine za_iload_n hc dM_copy_54 rfl ?_
      refine za_sipush hc 144 dM_copy_55 rfl ?_
      rw [show (144 : Int32) = nI 144 from rfl]
      refine za_icmp_ge 163 hc dM_copy_58 rfl (fun h_58 => ?_) (fun h_58 => ?_)
      · skip
        exact absurd ((nI_leI (by omega) (by omega)).mp h_58) (by omega)
      · skip
        refine za_aload_n hc dM_copy_61 rfl ?_
        refine za_getA hc gfM_16 zob_62 (p := 65) rfl dM_copy_62 ?_
        refine za_sipush hc 144 dM_copy_65 rfl ?_
        refine za_iload_n hc dM_copy_68 rfl ?_
        refine za_imul hc dM_copy_69 ?_
        refine za_iload_n hc dM_copy_70 rfl ?_
        refine za_iadd hc dM_copy_71 ?_
        refine za_aload_n hc dM_copy_72 rfl ?_
        refine za_getA hc gfM_16 zob_62 (p := 65) rfl dM_copy_73 ?_
        refine za_sipush hc 144 dM_copy_76 rfl ?_
        refine za_iload_n hc dM_copy_79 rfl ?_
        refine za_imul hc dM_copy_80 ?_
        refine za_iload_n hc dM_copy_81 rfl ?_
        refine za_iadd hc dM_copy_82 ?_
        rw [zi144, zi144]
        refine zm_iald hc (by assumption) dM_copy_83 (by omega) (by decide) ?_
        refine zm_iast hc (by assumption) dM_copy_84 (by omega) (by decide) ?_
        refine za_aload_n hc dM_copy_85 rfl ?_
        refine za_getA hc gfM_19 zob_62 (p := 66) rfl dM_copy_86 ?_
        refine za_sipush hc 144 dM_copy_89 rfl ?_
        refine za_iload_n hc dM_copy_92 rfl ?_
        refine za_imul hc dM_copy_93 ?_
        refine za_iload_n hc dM_copy_94 rfl ?_
        refine za_iadd hc dM_copy_95 ?_
        refine za_aload_n hc dM_copy_96 rfl ?_
        refine za_getA hc gfM_19 zob_62 (p := 66) rfl dM_copy_97 ?_
        refine za_sipush hc 144 dM_copy_100 rfl ?_
        refine za_iload_n hc dM_copy_103 rfl ?_
        refine za_imul hc dM_copy_104 ?_
        refine za_iload_n hc dM_copy_105 rfl ?_
        refine za_iadd hc dM_copy_106 ?_
        rw [zi144, zi144]
        refine zm_iald hc (by assumption) dM_copy_107 (by omega) (by decide) ?_
        rw [zI_o (by decide)]
        refine zm_iast hc (by assumption) dM_copy_108 (by omega) (by decide) ?_
        refine za_aload_n hc dM_copy_109 rfl ?_
        refine za_getA hc gfM_22 zob_62 (p := 67) rfl dM_copy_110 ?_
        refine za_sipush hc 144 dM_copy_113 rfl ?_
        refine za_iload_n hc dM_copy_116 rfl ?_
        refine za_imul hc dM_copy_117 ?_
        refine za_iload_n hc dM_copy_118 rfl ?_
        refine za_iadd hc dM_copy_119 ?_
        refine za_aload_n hc dM_copy_120 rfl ?_
        refine za_getA hc gfM_22 zob_62 (p := 67) rfl dM_copy_121 ?_
        refine za_sipush hc 144 dM_copy_124 rfl ?_
        refine za_iload_n hc dM_copy_127 rfl ?_
        refine za_imul hc dM_copy_128 ?_
        refine za_iload_n hc dM_copy_129 rfl ?_
        refine za_iadd hc dM_copy_130 ?_
        rw [zi144, zi144]
        refine zm_iald hc (by assumption) dM_copy_131 (by omega) (by decide) ?_
        rw [zI_o (by decide), zI_o (by decide)]
        refine zm_iast hc (by assumption) dM_copy_132 (by omega) (by decide) ?_
        refine za_aload_n hc dM_copy_133 rfl ?_
        refine za_getA hc gfM_25 zob_62 (p := 68) rfl dM_copy_134 ?_
        refine za_sipush hc 144 dM_copy_137 rfl ?_
        refine za_iload_n hc dM_copy_140 rfl ?_
        refine za_imul hc dM_copy_141 ?_
        refine za_iload_n hc dM_copy_142 rfl ?_
        refine za_iadd hc dM_copy_143 ?_
        refine za_aload_n hc dM_copy_144 rfl ?_
        refine za_getA hc gfM_25 zob_62 (p := 68) rfl dM_copy_145 ?_
        refine za_sipush hc 144 dM_copy_148 rfl ?_
        refine za_iload_n hc dM_copy_151 rfl ?_
        refine za_imul hc dM_copy_152 ?_
        refine za_iload_n hc dM_copy_153 rfl ?_
        refine za_iadd hc dM_copy_154 ?_
        rw [zi144, zi144]
        refine zm_zald hc (by assumption) dM_copy_155 (by omega) (by decide) ?_
        rw [zI_o (by decide), zI_o (by decide), zI_o (by decide)]
        refine zm_zast hc (by assumption) dM_copy_156 (by omega) (by decide) (hsb _) ?_
        refine za_iinc hc _ dM_copy_157 rfl ((nI_succ k).symm) (by decide) ?_
        refine za_goto 54 hc dM_copy_160 rfl ?_
        have fr : zfr (fun k => 65 ≤ k ∧ k ≤ 68) M1 (sput M1 (144 * to + k) (zI M1 65 (144 * of + k)) (zI M1 66 (144 * of + k)) (zI M1 67 (144 * of + k)) (zI M1 68 (144 * of + k))) := sput_fr
        have esg : ∀ t, sg (sput M1 (144 * to + k) (zI M1 65 (144 * of + k)) (zI M1 66 (144 * of + k)) (zI M1 67 (144 * of + k)) (zI M1 68 (144 * of + k))) t = if t = (144 * to + k) then sg M1 (144 * of + k) else sg M1 t := fun t => sput_sg
        refine ih (k + 1) (sput M1 (144 * to + k) (zI M1 65 (144 * of + k)) (zI M1 66 (144 * of + k)) (zI M1 67 (144 * of + k)) (zI M1 68 (144 * of + k))) (by omega) ?_ (fun j hj => ?_) (fun t ht => ?_) ?_ (sput_bo hsb (hsb _)) (hf.tr (fr.wk (fun k z => ⟨by omega, by omega⟩)))
        · exact (by rw [(fr 63 (by decide)).1] : zI _ 63 to = zI M1 63 to).trans h63
        · exact (by rw [(fr 64 (by decide)).1] : zI _ 64 _ = zI M1 64 _).trans (h64 j hj)
        · rw [esg]
          by_cases c : t = k
          · rw [if_pos (by rw [c]), c]; exact (hsk of (by simp; exact fun z => hne z.symm)).2.2 k (by omega)
          · rw [if_neg (by omega)]; exact hcp t (by omega)
        · refine hsk.tr (fun r2 hr2 => ⟨by rw [(fr 63 (by decide)).1], fun j _ => by rw [(fr 64 (by decide)).1], fun k2 hk2 => ?_⟩)
          have : r2 ≠ to := fun z => hr2 (by rw [z]; simp)
          rw [esg, if_neg (by omega)]
  have L1 : ∀ (n k : Nat) (M1 : zM), n + k = R.length → zI M1 63 to = nI R.length → (∀ j, j < k → zI M1 64 (12 * to + j) = zI M 64 (12 * of + j)) → sK [to] M M1 → sbo M1 → zfr mS M M1 → zW X (zqv (fun M' => sH M' to R ∧ sK [to] M M' ∧ sbo M' ∧ zfr mS M M')) (0, 0) 14 [(0, .ref 62), (1, .int (nI to)), (2, .int (nI of)), (3, .int (nI k))] [] M1 := by
    intro n
    induction n with
    | zero =>
      intro k M1 hn h63 h64 hsk hsb hf
      have hof : zI M1 63 of = nI R.length := (hsk of (by simp; exact fun z => hne z.symm)).1.trans hS.1
      refine za_iload_n hc dM_copy_14 rfl ?_
      refine za_aload_n hc dM_copy_15 rfl ?_
      refine za_getA hc gfM_7 zob_62 (p := 63) rfl dM_copy_16 ?_
      refine za_iload_n hc dM_copy_19 rfl ?_
      refine zm_iald hc (by assumption) dM_copy_20 (by omega) (by decide) ?_
      rw [hof]
      refine za_icmp_ge 52 hc dM_copy_21 rfl (fun h_21 => ?_) (fun h_21 => ?_)
      · skip
        refine za_iconst hc 0 dM_copy_52 rfl ?_
        refine za_istore_n hc dM_copy_53 (by decide) ?_
        exact L2 144 0 M1 (by omega) h63 (fun j hj => h64 j (by omega)) (fun t h => absurd h (by omega)) hsk hsb hf
      · skip
        exact absurd ((nI_leI (by omega) (by omega)).mpr (show R.length ≤ k by omega)) h_21
    | succ n ih =>
      intro k M1 hn h63 h64 hsk hsb hf
      have hof : zI M1 63 of = nI R.length := (hsk of (by simp; exact fun z => hne z.symm)).1.trans hS.1
      refine za_iload_n hc dM_copy_14 rfl ?_
      refine za_aload_n hc dM_copy_15 rfl ?_
      refine za_getA hc gfM_7 zob_62 (p := 63) rfl dM_copy_16 ?_
      refine za_iload_n hc dM_copy_19 rfl ?_
      refine zm_iald hc (by assumption) dM_copy_20 (by omega) (by decide) ?_
      rw [hof]
      refine za_icmp_ge 52 hc dM_copy_21 rfl (fun h_21 => ?_) (fun h_21 => ?_)
      · skip
        exact absurd ((nI_leI (by omega) (by omega)).mp h_21) (by omega)
      · skip
        refine za_aload_n hc dM_copy_24 rfl ?_
        refine za_getA hc gfM_13 zob_62 (p := 64) rfl dM_copy_25 ?_
        refine za_bipush hc 12 dM_copy_28 rfl ?_
        refine za_iload_n hc dM_copy_30 rfl ?_
        refine za_imul hc dM_copy_31 ?_
        refine za_iload_n hc dM_copy_32 rfl ?_
        refine za_iadd hc dM_copy_33 ?_
        refine za_aload_n hc dM_copy_34 rfl ?_
        refine za_getA hc gfM_13 zob_62 (p := 64) rfl dM_copy_35 ?_
        refine za_bipush hc 12 dM_copy_38 rfl ?_
        refine za_iload_n hc dM_copy_40 rfl ?_
        refine za_imul hc dM_copy_41 ?_
        refine za_iload_n hc dM_copy_42 rfl ?_
        refine za_iadd hc dM_copy_43 ?_
        rw [zic, zic]
        refine zm_iald hc (by assumption) dM_copy_44 (by omega) (by decide) ?_
        refine zm_iast hc (by assumption) dM_copy_45 (by omega) (by decide) ?_
        refine za_iinc hc _ dM_copy_46 rfl ((nI_succ k).symm) (by decide) ?_
        refine za_goto 14 hc dM_copy_49 rfl ?_
        have fr : zfr (fun k => k = 64) M1 (zsI M1 64 (12 * to + k) (zI M1 64 (12 * of + k))) := zfr_sI rfl
        refine ih (k + 1) (zsI M1 64 (12 * to + k) (zI M1 64 (12 * of + k))) (by omega) h63 (fun j hj => ?_) ?_ (sbo_fr hsb fr (by decide)) (hf.tr (fr.wk (fun k z => ⟨by omega, by omega⟩)))
        · rw [zI_s]
          by_cases c : j = k
          · rw [if_pos (by rw [c]), c]; exact (hsk of (by simp; exact fun z => hne z.symm)).2.1 k (by omega)
          · rw [if_neg (by omega)]; exact h64 j (by omega)
        · refine hsk.tr (fun r2 hr2 => ⟨rfl, fun j hj => ?_, fun k _ => rfl⟩)
          have : r2 ≠ to := fun z => hr2 (by rw [z]; simp)
          rw [zI_s, if_neg (by omega)]
  refine za_aload_n hc dM_copy_0 rfl ?_
  refine za_getA hc gfM_7 zob_62 (p := 63) rfl dM_copy_1 ?_
  refine za_iload_n hc dM_copy_4 rfl ?_
  refine za_aload_n hc dM_copy_5 rfl ?_
  refine za_getA hc gfM_7 zob_62 (p := 63) rfl dM_copy_6 ?_
  refine za_iload_n hc dM_copy_9 rfl ?_
  refine zm_iald hc (by assumption) dM_copy_10 (by omega) (by decide) ?_
  rw [hS.1]
  refine zm_iast hc (by assumption) dM_copy_11 (by omega) (by decide) ?_
  refine za_iconst hc 0 dM_copy_12 rfl ?_
  refine za_istore_n hc dM_copy_13 (by decide) ?_
  have fr : zfr (fun k => k = 63) M (zsI M 63 to (nI R.length)) := zfr_sI rfl
  exact L1 R.length 0 (zsI M 63 to (nI R.length)) (by omega) (by rw [zI_s, if_pos rfl]) (fun j h => absurd h (by omega)) (fun r2 hr2 => ⟨by rw [zI_s, if_neg (fun z => hr2 (by rw [z]; simp))], fun j _ => rfl, fun k _ => rfl⟩) (sbo_fr hsb0 fr (by decide)) (fr.wk (fun k z => ⟨by omega, by omega⟩))

theorem mA_s : ∀ k, 63 ≤ k → k ≤ 68 → ¬ mA k := fun k h1 h2 z => by unfold mA at z; omega
theorem gnz_add {x y : Int} {z : Int} {s : Bool} {ls : List gC} (h : gnz (x, y, z, s)) : (if x = 0 ∧ y = 0 then ls else ls ++ [(x, y, z, s)]) = ls ++ [(x, y, z, s)] := by rw [if_neg h]

set_option maxRecDepth 100000 in
set_option maxHeartbeats 4000000 in
theorem cM_addRow_ (l : Launch) {p j few : Nat} {P : List (List gC)} {row ls : List gC} (M : zM) (hp : p < 14) (hS : sH M p P) (hrow : P[j]? = some row) (hfew : few ≤ row.length) (hnz : ∀ m ∈ row, gnz m) (hH : mH M ls) (hlen : ls.length + few ≤ 40) (hnv : zI M 62 14 = 0) (hsb0 : sbo M) : zMet l mM_addRow rM_addRow [.ref 62, .int (nI p), .int (nI j), .int (nI few)] M (zqv (fun M' => mH M' (ls ++ row.take few) ∧ zI M' 62 14 = 0 ∧ mK [13, 14] M M' ∧ zfr mA M M')) := by
  refine za_enter (by decide) (Nat.le_of_ble_eq_true rfl) (fun X hc => ?_)
  have a63 := ar_63
  have a64 := ar_64
  have a65 := ar_65
  have a66 := ar_66
  have a67 := ar_67
  have a68 := ar_68
  have a73 := ar_73
  have a74 := ar_74
  have a75 := ar_75
  have a76 := ar_76
  have hj12 : j < 12 := by have := (List.getElem?_eq_some_iff.mp hrow).1; have := hS.2.1; omega
  obtain ⟨a1, a2, a3, a4⟩ := hS.2.2 j row hrow
  have loop : ∀ (n k : Nat) (M1 : zM), n + k = few → mH M1 (ls ++ row.take k) → zI M1 62 14 = 0 → mK [13, 14] M M1 → zfr mA M M1 → zW X (zqv (fun M' => mH M' (ls ++ row.take few) ∧ zI M' 62 14 = 0 ∧ mK [13, 14] M M' ∧ zfr mA M M')) (0, 0) 3 [(0, .ref 62), (1, .int (nI p)), (2, .int (nI j)), (3, .int (nI few)), (4, .int (nI k))] [] M1 := by
    intro n
    induction n with
    | zero =>
      intro k M1 hn hm hnv1 hk hf
      obtain rfl : k = few := by omega
      refine za_iload hc dM_addRow_3 rfl ?_
      refine za_iload_n hc dM_addRow_5 rfl ?_
      refine za_icmp_ge 59 hc dM_addRow_6 rfl (fun h_6 => ?_) (fun h_6 => ?_)
      · skip
        exact za_vret hc rfl dM_addRow_59 ⟨Nat.zero_le _, Nat.zero_le _⟩ (⟨rfl, hm, hnv1, hk, hf⟩)
      · skip
        exact absurd (Int32.le_refl _) h_6
    | succ n ih =>
      intro k M1 hn hm hnv1 hk hf
      have hri := List.getElem?_eq_getElem (l := row) (show k < row.length by omega)
      generalize hme : row[k] = m at hri
      have dk := a3 k m hri
      have e5 : zI M1 65 = zI M 65 := (hf 65 (mA_s 65 (by decide) (by decide))).1
      have e6 : zI M1 66 = zI M 66 := (hf 66 (mA_s 66 (by decide) (by decide))).1
      have e7 : zI M1 67 = zI M 67 := (hf 67 (mA_s 67 (by decide) (by decide))).1
      have e8 : zI M1 68 = zI M 68 := (hf 68 (mA_s 68 (by decide) (by decide))).1
      have em : ((zI M 65 (144 * p + 12 * j + k)).toInt64.toInt, (zI M 66 (144 * p + 12 * j + k)).toInt64.toInt, (zI M 67 (144 * p + 12 * j + k)).toInt64.toInt, zI M 68 (144 * p + 12 * j + k) == 1) = m := by rw [i2l_int, i2l_int, i2l_int]; exact dk
      have hz := hnz m (List.mem_of_getElem? hri)
      have hz2 : ¬ ((zI M 65 (144 * p + 12 * j + k)).toInt64.toInt = 0 ∧ (zI M 66 (144 * p + 12 * j + k)).toInt64.toInt = 0) := by rw [← em] at hz; exact hz
      have et : row.take (k + 1) = row.take k ++ [m] := by rw [List.take_add_one, hri]; rfl
      have hl2 : (ls ++ row.take k).length < 40 := by rw [List.length_append, List.length_take]; omega
      refine za_iload hc dM_addRow_3 rfl ?_
      refine za_iload_n hc dM_addRow_5 rfl ?_
      refine za_icmp_ge 59 hc dM_addRow_6 rfl (fun h_6 => ?_) (fun h_6 => ?_)
      · skip
        exact absurd ((nI_leI (by omega) (by omega)).mp h_6) (by omega)
      · skip
        refine za_iload_n hc dM_addRow_9 rfl ?_
        refine za_iload_n hc dM_addRow_10 rfl ?_
        refine za_iload hc dM_addRow_11 rfl ?_
        refine za_cS3i hc gsM_149 (cM_place_ l M1 (p := p) (j := j) (i := k)) ⟨rfl, rfl⟩ ⟨Nat.le_of_ble_eq_true rfl, Nat.le_of_ble_eq_true rfl⟩ ⟨Nat.zero_le _, Nat.zero_le _⟩ dM_addRow_13 (fun x_13 M_13 h_13 => ?_)
        obtain ⟨q_13, hm_13⟩ := h_13
        rw [hm_13, q_13]
        refine za_istore hc dM_addRow_16 (by decide) ?_
        refine za_aload_n hc dM_addRow_18 rfl ?_
        refine za_aload_n hc dM_addRow_19 rfl ?_
        refine za_getA hc gfM_16 zob_62 (p := 65) rfl dM_addRow_20 ?_
        refine za_iload hc dM_addRow_23 rfl ?_
        refine zm_iald hc (by assumption) dM_addRow_25 (by omega) (by decide) ?_
        rw [e5]
        refine za_i2l hc dM_addRow_26 ?_
        refine za_aload_n hc dM_addRow_27 rfl ?_
        refine za_getA hc gfM_19 zob_62 (p := 66) rfl dM_addRow_28 ?_
        refine za_iload hc dM_addRow_31 rfl ?_
        refine zm_iald hc (by assumption) dM_addRow_33 (by omega) (by decide) ?_
        rw [e6]
        refine za_i2l hc dM_addRow_34 ?_
        refine za_aload_n hc dM_addRow_35 rfl ?_
        refine za_getA hc gfM_22 zob_62 (p := 67) rfl dM_addRow_36 ?_
        refine za_iload hc dM_addRow_39 rfl ?_
        refine zm_iald hc (by assumption) dM_addRow_41 (by omega) (by decide) ?_
        rw [e7]
        refine za_i2l hc dM_addRow_42 ?_
        refine za_aload_n hc dM_addRow_43 rfl ?_
        refine za_getA hc gfM_25 zob_62 (p := 68) rfl dM_addRow_44 ?_
        refine za_iload hc dM_addRow_47 rfl ?_
        refine zm_zald hc (by assumption) dM_addRow_49 (by omega) (by decide) ?_
        rw [e8]
        refine za_cV4v hc gsM_153 zob_62 (cM_add_ l M1 _ _ _ _ hm hl2 (hsb0 _) hnv1 (fun z => absurd z hz2)) ⟨rfl, rfl⟩ ⟨Nat.le_of_ble_eq_true rfl, Nat.le_of_ble_eq_true rfl⟩ ⟨Nat.zero_le _, Nat.zero_le _⟩ dM_addRow_50 (fun M_50 h_50 => ?_)
        obtain ⟨w1, w2, w3, w4⟩ := h_50
        rw [if_neg hz2, em, List.append_assoc, ← et] at w1
        refine za_iinc hc _ dM_addRow_53 rfl ((nI_succ k).symm) (by decide) ?_
        refine za_goto 3 hc dM_addRow_56 rfl ?_
        refine za_take 5 ?_
        exact ih (k + 1) M_50 (by omega) w1 w2 (hk.tr w3) (hf.tr w4)
  refine za_iconst hc 0 dM_addRow_0 rfl ?_
  refine za_istore hc dM_addRow_1 (by decide) ?_
  exact loop few 0 M (by omega) (by rw [List.take_zero, List.append_nil]; exact hH) hnv mK.rf zfr.rf
