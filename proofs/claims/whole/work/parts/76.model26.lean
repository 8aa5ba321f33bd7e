/-! The model: holds. -/
def gBadH (p q d : Int32) : Prop := ¬ p.toInt.natAbs ≤ 10000 ∨ ¬ q.toInt.natAbs ≤ 10000 ∨ ¬ (1 ≤ d.toInt ∧ d.toInt ≤ 1000)

set_option maxRecDepth 100000 in
set_option maxHeartbeats 4000000 in
theorem cM_holds_ (l : Launch) {h : Nat} {P : List (List gC)} (M : zM) (hh : h ≤ 6) (hp : zI M 62 7 = nI h) (p q d : Int32) (hP : 1 ≤ h → sH M (h - 1) P) (hsb0 : sbo M) : zMet l mM_holds rM_holds [.ref 62, .int p, .int q, .int d] M (zqi (fun x M' => (h = 0 → x = 0 ∧ M' = zsI M 62 0 1) ∧ (0 < h → (gBadH p q d → x = 0 ∧ M' = zsI M 62 0 2) ∧ (¬ gBadH p q d → M' = zsI M 62 0 0 ∧ (x = 0 ∨ x = 1) ∧ (x = 1 ↔ ∃ row ∈ P, ∀ m ∈ row, gHat m p.toInt q.toInt d.toInt))))) := by
  refine za_enter (by decide) (Nat.le_of_ble_eq_true rfl) (fun X hc => ?_)
  have a63 := ar_63
  have a64 := ar_64
  have a65 := ar_65
  have a66 := ar_66
  have a67 := ar_67
  have a68 := ar_68
  have LOOP : 0 < h → ¬ gBadH p q d → ∀ N : zM, N = zsI M 62 0 0 → zI N 62 7 = nI h → sH N (h - 1) P → sbo N → zW X (zqi (fun x M' => (h = 0 → x = 0 ∧ M' = zsI M 62 0 1) ∧ (0 < h → (gBadH p q d → x = 0 ∧ M' = zsI M 62 0 2) ∧ (¬ gBadH p q d → M' = zsI M 62 0 0 ∧ (x = 0 ∨ x = 1) ∧ (x = 1 ↔ ∃ row ∈ P, ∀ m ∈ row, gHat m p.toInt q.toInt d.toInt))))) (0, 0) 64 [(0, .ref 62), (1, .int p), (2, .int q), (3, .int d), (4, .int 0), (5, .int (nI 0))] [] N := by
    intro hpos hok N hN hp1 hS hsb
    have hPl := hS.2.1
    have k1 : p.toInt.natAbs ≤ 10000 := Classical.byContradiction (fun z => hok (Or.inl z))
    have k2 : q.toInt.natAbs ≤ 10000 := Classical.byContradiction (fun z => hok (Or.inr (Or.inl z)))
    have k3 : 1 ≤ d.toInt ∧ d.toInt ≤ 1000 := Classical.byContradiction (fun z => hok (Or.inr (Or.inr z)))
    have outer : ∀ (t : List (List gC)) (r : Nat) (f : Int32), P.drop r = t → r + t.length = P.length → (f = 0 ∨ f = 1) → ((f = 1 ∨ ∃ row ∈ t, ∀ m ∈ row, gHat m p.toInt q.toInt d.toInt) ↔ ∃ row ∈ P, ∀ m ∈ row, gHat m p.toInt q.toInt d.toInt) → zW X (zqi (fun x M' => (h = 0 → x = 0 ∧ M' = zsI M 62 0 1) ∧ (0 < h → (gBadH p q d → x = 0 ∧ M' = zsI M 62 0 2) ∧ (¬ gBadH p q d → M' = zsI M 62 0 0 ∧ (x = 0 ∨ x = 1) ∧ (x = 1 ↔ ∃ row ∈ P, ∀ m ∈ row, gHat m p.toInt q.toInt d.toInt))))) (0, 0) 64 [(0, .ref 62), (1, .int p), (2, .int q), (3, .int d), (4, .int f), (5, .int (nI r))] [] N := by
      intro t
      induction t with
      | nil =>
        intro r f hdr hn hf hall
        simp only [List.length_nil] at hn
        refine za_iload hc dM_holds_64 rfl ?_
        refine za_aload_n hc dM_holds_66 rfl ?_
        refine za_getA hc gfM_7 zob_62 (p := 63) rfl dM_holds_67 ?_
        refine za_aload_n hc dM_holds_70 rfl ?_
        refine za_getI hc gfM_220 zob_62 dM_holds_71 ?_
        rw [hp1]
        refine za_iconst hc 1 dM_holds_74 rfl ?_
        refine za_isub hc dM_holds_75 ?_
        rw [nI_pr1 (by omega)]
        refine zm_iald hc (by assumption) dM_holds_76 (by omega) (by decide) ?_
        rw [hS.1]
        refine za_icmp_ge 228 hc dM_holds_77 rfl (fun h_77 => ?_) (fun h_77 => ?_)
        · skip
          refine za_iload hc dM_holds_228 rfl ?_
          exact za_zret hc rfl (by rcases hf with z | z <;> rw [z] <;> rfl) dM_holds_230 ⟨Nat.zero_le _, Nat.zero_le _⟩ (⟨_, rfl, fun z => absurd z (by omega), fun _ => ⟨fun z => absurd z hok, fun _ => ⟨hN, hf, ⟨fun z => hall.mp (Or.inl z), fun z => (hall.mpr z).elim (fun w => w) (fun ⟨_, w, _⟩ => by cases w)⟩⟩⟩⟩)
        · skip
          exact absurd ((nI_leI (by omega) (by omega)).mpr (show P.length ≤ r by omega)) h_77
      | cons row t ih =>
        intro r f hdr hn hf hall
        simp only [List.length_cons] at hn
        have hri : P[r]? = some row := by rw [← List.head?_drop, hdr]; rfl
        have hdr2 : P.drop (r + 1) = t := by rw [← List.drop_drop, hdr]; rfl
        obtain ⟨a1, a2, a3, a4⟩ := hS.2.2 r row hri
        have inner : ∀ (n k : Nat) (g : Int32), n + k = row.length → (g = 0 ∨ g = 1) → (g = 1 ↔ ∀ j m, j < k → row[j]? = some m → gHat m p.toInt q.toInt d.toInt) → zW X (zqi (fun x M' => (h = 0 → x = 0 ∧ M' = zsI M 62 0 1) ∧ (0 < h → (gBadH p q d → x = 0 ∧ M' = zsI M 62 0 2) ∧ (¬ gBadH p q d → M' = zsI M 62 0 0 ∧ (x = 0 ∨ x = 1) ∧ (x = 1 ↔ ∃ row ∈ P, ∀ m ∈ row, gHat m p.toInt q.toInt d.toInt))))) (0, 0) 86 [(0, .ref 62), (1, .int p), (2, .int q), (3, .int d), (4, .int f), (5, .int (nI r)), (6, .int g), (7, .int (nI k))] [] N := by
          intro n
          induction n with
          | zero =>
            intro k g hm hg hgl
            have hrow : g = 1 ↔ ∀ m ∈ row, gHat m p.toInt q.toInt d.toInt := hgl.trans ⟨fun z m hm2 => by obtain ⟨j, hj⟩ := List.getElem?_of_mem hm2; exact z j m (by have := (List.getElem?_eq_some_iff.mp hj).1; omega) hj, fun z j m _ hj => z m (List.mem_of_getElem? hj)⟩
            refine za_iload hc dM_holds_86 rfl ?_
            refine za_aload_n hc dM_holds_88 rfl ?_
            refine za_getA hc gfM_13 zob_62 (p := 64) rfl dM_holds_89 ?_
            refine za_bipush hc 12 dM_holds_92 rfl ?_
            refine za_aload_n hc dM_holds_94 rfl ?_
            refine za_getI hc gfM_220 zob_62 dM_holds_95 ?_
            rw [hp1]
            refine za_iconst hc 1 dM_holds_98 rfl ?_
            refine za_isub hc dM_holds_99 ?_
            rw [nI_pr1 (by omega)]
            refine za_imul hc dM_holds_100 ?_
            refine za_iload hc dM_holds_101 rfl ?_
            refine za_iadd hc dM_holds_103 ?_
            rw [zic]
            refine zm_iald hc (by assumption) dM_holds_104 (by omega) (by decide) ?_
            rw [a2]
            refine za_icmp_ge 205 hc dM_holds_105 rfl (fun h_105 => ?_) (fun h_105 => ?_)
            · skip
              refine za_iload hc dM_holds_205 rfl ?_
              refine za_if_ne 215 hc dM_holds_207 rfl (fun h_207 => ?_) (fun h_207 => ?_)
              · skip
                have hyes : f = 1 ∨ ∃ w ∈ row :: t, ∀ m ∈ w, gHat m p.toInt q.toInt d.toInt := Or.inl (hf.resolve_left h_207)
                refine za_iconst hc 1 dM_holds_215 rfl ?_
                refine za_goto 220 hc dM_holds_216 rfl ?_
                refine za_istore hc dM_holds_220 (by decide) ?_
                refine za_iinc hc _ dM_holds_222 rfl ((nI_succ r).symm) (by decide) ?_
                refine za_goto 64 hc dM_holds_225 rfl ?_
                refine za_take 6 ?_
                first
                | exact ih (r + 1) 1 hdr2 (by omega) (Or.inr rfl) ⟨fun _ => hall.mp hyes, fun _ => Or.inl rfl⟩
                | exact ih (r + 1) 0 hdr2 (by omega) (Or.inl rfl) ⟨fun z => hall.mp (z.elim (fun w => absurd w (by decide)) (fun ⟨w, w1, w2⟩ => Or.inr ⟨w, List.mem_cons_of_mem _ w1, w2⟩)), fun z => (hall.mpr z).elim (fun w => absurd w hnf) (fun ⟨w, w1, w2⟩ => (List.mem_cons.mp w1).elim (fun e => absurd (hrow.mpr (by rw [← e]; exact w2)) hng) (fun e => Or.inr ⟨w, e, w2⟩))⟩
              · skip
                have hnf : ¬ f = 1 := by rw [h_207]; decide
                refine za_iload hc dM_holds_210 rfl ?_
                refine za_if_eq 219 hc dM_holds_212 rfl (fun h_212 => ?_) (fun h_212 => ?_)
                · skip
                  have hng : ¬ g = 1 := by rw [h_212]; decide
                  refine za_iconst hc 0 dM_holds_219 rfl ?_
                  refine za_istore hc dM_holds_220 (by decide) ?_
                  refine za_iinc hc _ dM_holds_222 rfl ((nI_succ r).symm) (by decide) ?_
                  refine za_goto 64 hc dM_holds_225 rfl ?_
                  refine za_take 6 ?_
                  first
                  | exact ih (r + 1) 1 hdr2 (by omega) (Or.inr rfl) ⟨fun _ => hall.mp hyes, fun _ => Or.inl rfl⟩
                  | exact ih (r + 1) 0 hdr2 (by omega) (Or.inl rfl) ⟨fun z => hall.mp (z.elim (fun w => absurd w (by decide)) (fun ⟨w, w1, w2⟩ => Or.inr ⟨w, List.mem_cons_of_mem _ w1, w2⟩)), fun z => (hall.mpr z).elim (fun w => absurd w hnf) (fun ⟨w, w1, w2⟩ => (List.mem_cons.mp w1).elim (fun e => absurd (hrow.mpr (by rw [← e]; exact w2)) hng) (fun e => Or.inr ⟨w, e, w2⟩))⟩
                · skip
                  have hyes : f = 1 ∨ ∃ w ∈ row :: t, ∀ m ∈ w, gHat m p.toInt q.toInt d.toInt := Or.inr ⟨row, List.mem_cons_self, hrow.mp (hg.resolve_left h_212)⟩
                  refine za_iconst hc 1 dM_holds_215 rfl ?_
                  refine za_goto 220 hc dM_holds_216 rfl ?_
                  refine za_istore hc dM_holds_220 (by decide) ?_
                  refine za_iinc hc _ dM_holds_222 rfl ((nI_succ r).symm) (by decide) ?_
                  refine za_goto 64 hc dM_holds_225 rfl ?_
                  refine za_take 6 ?_
                  first
                  | exact ih (r + 1) 1 hdr2 (by omega) (Or.inr rfl) ⟨fun _ => hall.mp hyes, fun _ => Or.inl rfl⟩
                  | exact ih (r + 1) 0 hdr2 (by omega) (Or.inl rfl) ⟨fun z => hall.mp (z.elim (fun w => absurd w (by decide)) (fun ⟨w, w1, w2⟩ => Or.inr ⟨w, List.mem_cons_of_mem _ w1, w2⟩)), fun z => (hall.mpr z).elim (fun w => absurd w hnf) (fun ⟨w, w1, w2⟩ => (List.mem_cons.mp w1).elim (fun e => absurd (hrow.mpr (by rw [← e]; exact w2)) hng) (fun e => Or.inr ⟨w, e, w2⟩))⟩
            · skip
              exact absurd ((nI_leI (by omega) (by omega)).mpr (show row.length ≤ k by omega)) h_105
          | succ n ihn =>
            intro k g hm hg hgl
            have hrk := List.getElem?_eq_getElem (l := row) (show k < row.length by omega)
            generalize hme : row[k] = m at hrk
            have dm := a3 k m hrk
            have lm := a4 m (List.mem_of_getElem? hrk)
            have v1 : m.1 = (zI N 65 (144 * (h - 1) + 12 * r + k)).toInt ∧ m.2.1 = (zI N 66 (144 * (h - 1) + 12 * r + k)).toInt ∧ m.2.2.1 = (zI N 67 (144 * (h - 1) + 12 * r + k)).toInt ∧ m.2.2.2 = (zI N 68 (144 * (h - 1) + 12 * r + k) == 1) := by rw [← dm]; exact ⟨rfl, rfl, rfl, rfl⟩
            have lm1 := lm.1; have lm2 := lm.2.1; have lm3 := lm.2.2
            rw [v1.1] at lm1; rw [v1.2.1] at lm2; rw [v1.2.2.1] at lm3
            have e1 : ((zI N 65 (144 * (h - 1) + 12 * r + k)).toInt64 * p.toInt64 + (zI N 66 (144 * (h - 1) + 12 * r + k)).toInt64 * q.toInt64).toInt = m.1 * p.toInt + m.2.1 * q.toInt := by rw [l_lin (by rw [i2l_int]; omega) (by rw [i2l_int]; omega) (by rw [i2l_int]; omega) (by rw [i2l_int]; omega), i2l_int, i2l_int, i2l_int, i2l_int, v1.1, v1.2.1]
            have e2 : ((zI N 67 (144 * (h - 1) + 12 * r + k)).toInt64 * d.toInt64).toInt = m.2.2.1 * d.toInt := by rw [l_one (by rw [i2l_int]; omega) (by rw [i2l_int]; omega), i2l_int, i2l_int, v1.2.2.1]
            have hst : ∀ g2 : Int32, (g2 = 0 ∨ g2 = 1) → (g2 = 1 ↔ g = 1 ∧ gHat m p.toInt q.toInt d.toInt) → (g2 = 1 ↔ ∀ j m, j < k + 1 → row[j]? = some m → gHat m p.toInt q.toInt d.toInt) := fun g2 _ h2 => h2.trans ⟨fun z j m2 hj hj2 => by by_cases c : j = k; rw [c, hrk] at hj2; cases hj2; exact z.2; exact hgl.mp z.1 j m2 (by omega) hj2, fun z => ⟨hgl.mpr (fun j m2 hj hj2 => z j m2 (by omega) hj2), z k m (by omega) hrk⟩⟩
            refine za_iload hc dM_holds_86 rfl ?_
            refine za_aload_n hc dM_holds_88 rfl ?_
            refine za_getA hc gfM_13 zob_62 (p := 64) rfl dM_holds_89 ?_
            refine za_bipush hc 12 dM_holds_92 rfl ?_
            refine za_aload_n hc dM_holds_94 rfl ?_
            refine za_getI hc gfM_220 zob_62 dM_holds_95 ?_
            rw [hp1]
            refine za_iconst hc 1 dM_holds_98 rfl ?_
            refine za_isub hc dM_holds_99 ?_
            rw [nI_pr1 (by omega)]
            refine za_imul hc dM_holds_100 ?_
            refine za_iload hc dM_holds_101 rfl ?_
            refine za_iadd hc dM_holds_103 ?_
            rw [zic]
            refine zm_iald hc (by assumption) dM_holds_104 (by omega) (by decide) ?_
            rw [a2]
            refine za_icmp_ge 205 hc dM_holds_105 rfl (fun h_105 => ?_) (fun h_105 => ?_)
            · skip
              exact absurd ((nI_leI (by omega) (by omega)).mp h_105) (by omega)
            · skip
              refine za_aload_n hc dM_holds_108 rfl ?_
              refine za_getI hc gfM_220 zob_62 dM_holds_109 ?_
              rw [hp1]
              refine za_iconst hc 1 dM_holds_112 rfl ?_
              refine za_isub hc dM_holds_113 ?_
              rw [nI_pr1 (by omega)]
              refine za_iload hc dM_holds_114 rfl ?_
              refine za_iload hc dM_holds_116 rfl ?_
              refine za_cS3i hc gsM_149 (cM_place_ l N (p := h - 1) (j := r) (i := k)) ⟨rfl, rfl⟩ ⟨Nat.le_of_ble_eq_true rfl, Nat.le_of_ble_eq_true rfl⟩ ⟨Nat.zero_le _, Nat.zero_le _⟩ dM_holds_118 (fun x_118 M_118 h_118 => ?_)
              obtain ⟨q_118, hm_118⟩ := h_118
              rw [hm_118, q_118]
              refine za_istore hc dM_holds_121 (by decide) ?_
              refine za_aload_n hc dM_holds_123 rfl ?_
              refine za_getA hc gfM_16 zob_62 (p := 65) rfl dM_holds_124 ?_
              refine za_iload hc dM_holds_127 rfl ?_
              refine zm_iald hc (by assumption) dM_holds_129 (by omega) (by decide) ?_
              refine za_i2l hc dM_holds_130 ?_
              refine za_iload_n hc dM_holds_131 rfl ?_
              refine za_i2l hc dM_holds_132 ?_
              refine za_lmul hc dM_holds_133 ?_
              refine za_aload_n hc dM_holds_134 rfl ?_
              refine za_getA hc gfM_19 zob_62 (p := 66) rfl dM_holds_135 ?_
              refine za_iload hc dM_holds_138 rfl ?_
              refine zm_iald hc (by assumption) dM_holds_140 (by omega) (by decide) ?_
              refine za_i2l hc dM_holds_141 ?_
              refine za_iload_n hc dM_holds_142 rfl ?_
              refine za_i2l hc dM_holds_143 ?_
              refine za_lmul hc dM_holds_144 ?_
              refine za_ladd hc dM_holds_145 ?_
              refine za_lstore hc dM_holds_146 (by decide) ?_
              refine za_aload_n hc dM_holds_148 rfl ?_
              refine za_getA hc gfM_22 zob_62 (p := 67) rfl dM_holds_149 ?_
              refine za_iload hc dM_holds_152 rfl ?_
              refine zm_iald hc (by assumption) dM_holds_154 (by omega) (by decide) ?_
              refine za_i2l hc dM_holds_155 ?_
              refine za_iload_n hc dM_holds_156 rfl ?_
              refine za_i2l hc dM_holds_157 ?_
              refine za_lmul hc dM_holds_158 ?_
              refine za_lstore hc dM_holds_159 (by decide) ?_
              refine za_iload hc dM_holds_161 rfl ?_
              refine za_if_eq 196 hc dM_holds_163 rfl (fun h_163 => ?_) (fun h_163 => ?_)
              · skip
                have hnn : ¬ (g = 1 ∧ gHat m p.toInt q.toInt d.toInt) := fun z => absurd z.1 (by rw [h_163]; decide)
                refine za_iconst hc 0 dM_holds_196 rfl ?_
                refine za_istore hc dM_holds_197 (by decide) ?_
                refine za_iinc hc _ dM_holds_199 rfl ((nI_succ k).symm) (by decide) ?_
                refine za_goto 86 hc dM_holds_202 rfl ?_
                refine za_take 8 ?_
                first
                | exact ihn (k + 1) 1 (by omega) (Or.inr rfl) (hst 1 (Or.inr rfl) ⟨fun _ => ⟨hg1, hh⟩, fun _ => rfl⟩)
                | exact ihn (k + 1) 0 (by omega) (Or.inl rfl) (hst 0 (Or.inl rfl) ⟨fun z => absurd z (by decide), fun z => absurd z hnn⟩)
              · skip
                have hg1 := hg.resolve_left h_163
                refine za_lload hc dM_holds_166 rfl ?_
                refine za_lload hc dM_holds_168 rfl ?_
                refine za_lcmp_lt 192 hc dM_holds_170 dM_holds_171 rfl (fun h_170 => ?_) (fun h_170 => ?_)
                · skip
                  have hh : gHat m p.toInt q.toInt d.toInt := Or.inl (by rw [← e1, ← e2]; exact Int64.lt_iff_toInt_lt.mp h_170)
                  refine za_iconst hc 1 dM_holds_192 rfl ?_
                  refine za_goto 197 hc dM_holds_193 rfl ?_
                  refine za_istore hc dM_holds_197 (by decide) ?_
                  refine za_iinc hc _ dM_holds_199 rfl ((nI_succ k).symm) (by decide) ?_
                  refine za_goto 86 hc dM_holds_202 rfl ?_
                  refine za_take 8 ?_
                  first
                  | exact ihn (k + 1) 1 (by omega) (Or.inr rfl) (hst 1 (Or.inr rfl) ⟨fun _ => ⟨hg1, hh⟩, fun _ => rfl⟩)
                  | exact ihn (k + 1) 0 (by omega) (Or.inl rfl) (hst 0 (Or.inl rfl) ⟨fun z => absurd z (by decide), fun z => absurd z hnn⟩)
                · skip
                  have nl : ¬ m.1 * p.toInt + m.2.1 * q.toInt < m.2.2.1 * d.toInt := by rw [← e1, ← e2]; exact fun z => h_170 (Int64.lt_iff_toInt_lt.mpr z)
                  refine za_lload hc dM_holds_174 rfl ?_
                  refine za_lload hc dM_holds_176 rfl ?_
                  refine za_lcmp_ne 196 hc dM_holds_178 dM_holds_179 rfl (fun h_178 => ?_) (fun h_178 => ?_)
                  · skip
                    have hnn : ¬ (g = 1 ∧ gHat m p.toInt q.toInt d.toInt) := fun z => z.2.elim nl (fun w => h_178 (Int64.toInt_inj.mp (by rw [e1, e2]; exact w.1)))
                    refine za_iconst hc 0 dM_holds_196 rfl ?_
                    refine za_istore hc dM_holds_197 (by decide) ?_
                    refine za_iinc hc _ dM_holds_199 rfl ((nI_succ k).symm) (by decide) ?_
                    refine za_goto 86 hc dM_holds_202 rfl ?_
                    refine za_take 8 ?_
                    first
                    | exact ihn (k + 1) 1 (by omega) (Or.inr rfl) (hst 1 (Or.inr rfl) ⟨fun _ => ⟨hg1, hh⟩, fun _ => rfl⟩)
                    | exact ihn (k + 1) 0 (by omega) (Or.inl rfl) (hst 0 (Or.inl rfl) ⟨fun z => absurd z (by decide), fun z => absurd z hnn⟩)
                  · skip
                    have he : m.1 * p.toInt + m.2.1 * q.toInt = m.2.2.1 * d.toInt := by rw [← e1, ← e2, h_178]
                    refine za_aload_n hc dM_holds_182 rfl ?_
                    refine za_getA hc gfM_25 zob_62 (p := 68) rfl dM_holds_183 ?_
                    refine za_iload hc dM_holds_186 rfl ?_
                    refine zm_zald hc (by assumption) dM_holds_188 (by omega) (by decide) ?_
                    refine za_if_ne 196 hc dM_holds_189 rfl (fun h_189 => ?_) (fun h_189 => ?_)
                    · skip
                      have hnn : ¬ (g = 1 ∧ gHat m p.toInt q.toInt d.toInt) := fun z => z.2.elim nl (fun w => by rw [v1.2.2.2, (hsb _).resolve_left h_189] at w; exact absurd w.2 (by decide))
                      refine za_iconst hc 0 dM_holds_196 rfl ?_
                      refine za_istore hc dM_holds_197 (by decide) ?_
                      refine za_iinc hc _ dM_holds_199 rfl ((nI_succ k).symm) (by decide) ?_
                      refine za_goto 86 hc dM_holds_202 rfl ?_
                      refine za_take 8 ?_
                      first
                      | exact ihn (k + 1) 1 (by omega) (Or.inr rfl) (hst 1 (Or.inr rfl) ⟨fun _ => ⟨hg1, hh⟩, fun _ => rfl⟩)
                      | exact ihn (k + 1) 0 (by omega) (Or.inl rfl) (hst 0 (Or.inl rfl) ⟨fun z => absurd z (by decide), fun z => absurd z hnn⟩)
                    · skip
                      have hh : gHat m p.toInt q.toInt d.toInt := Or.inr ⟨he, by rw [v1.2.2.2, h_189]; rfl⟩
                      refine za_iconst hc 1 dM_holds_192 rfl ?_
                      refine za_goto 197 hc dM_holds_193 rfl ?_
                      refine za_istore hc dM_holds_197 (by decide) ?_
                      refine za_iinc hc _ dM_holds_199 rfl ((nI_succ k).symm) (by decide) ?_
                      refine za_goto 86 hc dM_holds_202 rfl ?_
                      refine za_take 8 ?_
                      first
                      | exact ihn (k + 1) 1 (by omega) (Or.inr rfl) (hst 1 (Or.inr rfl) ⟨fun _ => ⟨hg1, hh⟩, fun _ => rfl⟩)
                      | exact ihn (k + 1) 0 (by omega) (Or.inl rfl) (hst 0 (Or.inl rfl) ⟨fun z => absurd z (by decide), fun z => absurd z hnn⟩)
        refine za_iload hc dM_holds_64 rfl ?_
        refine za_aload_n hc dM_holds_66 rfl ?_
        refine za_getA hc gfM_7 zob_62 (p := 63) rfl dM_holds_67 ?_
        refine za_aload_n hc dM_holds_70 rfl ?_
        refine za_getI hc gfM_220 zob_62 dM_holds_71 ?_
        rw [hp1]
        refine za_iconst hc 1 dM_holds_74 rfl ?_
        refine za_isub hc dM_holds_75 ?_
        rw [nI_pr1 (by omega)]
        refine zm_iald hc (by assumption) dM_holds_76 (by omega) (by decide) ?_
        rw [hS.1]
        refine za_icmp_ge 228 hc dM_holds_77 rfl (fun h_77 => ?_) (fun h_77 => ?_)
        · skip
          exact absurd ((nI_leI (by omega) (by omega)).mp h_77) (by omega)
        · skip
          refine za_iconst hc 1 dM_holds_80 rfl ?_
          refine za_istore hc dM_holds_81 (by decide) ?_
          refine za_iconst hc 0 dM_holds_83 rfl ?_
          refine za_istore hc dM_holds_84 (by decide) ?_
          exact inner row.length 0 1 (by omega) (Or.inr rfl) ⟨fun _ j m h => absurd h (by omega), fun _ => rfl⟩
    exact outer P 0 0 rfl (by omega) (Or.inl rfl) ⟨fun z => z.elim (fun w => absurd w (by decide)) (fun w => w), fun z => Or.inr z⟩
  refine za_aload_n hc dM_holds_0 rfl ?_
  refine za_aload_n hc dM_holds_1 rfl ?_
  refine za_getI hc gfM_220 zob_62 dM_holds_2 ?_
  rw [hp]
  refine za_iconst hc 1 dM_holds_5 rfl ?_
  refine za_icmp_ge 13 hc dM_holds_6 rfl (fun h_6 => ?_) (fun h_6 => ?_)
  · skip
    have h1 : 1 ≤ h := (nI_lt1 hh).mp h_6
    refine za_iload_n hc dM_holds_13 rfl ?_
    refine za_i2l hc dM_holds_14 ?_
    refine za_cS1i hc gsM_187 (cM_isFar_ l M p.toInt64) ⟨rfl, rfl⟩ ⟨Nat.le_of_ble_eq_true rfl, Nat.le_of_ble_eq_true rfl⟩ ⟨Nat.zero_le _, Nat.zero_le _⟩ dM_holds_15 (fun x_15 M_15 h_15 => ?_)
    obtain ⟨q_15, hm_15⟩ := h_15
    rw [hm_15]
    subst q_15
    refine za_if_ne 41 hc dM_holds_18 rfl (fun h_18 => ?_) (fun h_18 => ?_)
    · skip
      have hbad : gBadH p q d := Or.inl (far_n.mp (far_1.mp h_18))
      refine za_iconst hc 2 dM_holds_41 rfl ?_
      refine za_goto 46 hc dM_holds_42 rfl ?_
      refine za_putI hc gpM_66 zob_62 dM_holds_46 ?_
      refine za_aload_n hc dM_holds_49 rfl ?_
      refine za_getI hc gfM_66 zob_62 dM_holds_50 ?_
      rw [zI_s, if_pos rfl]
      refine za_if_le 58 hc dM_holds_53 rfl (fun h_53 => ?_) (fun h_53 => ?_)
      · skip
        exact absurd h_53 (by decide)
      · skip
        refine za_iconst hc 0 dM_holds_56 rfl ?_
        exact za_zret hc rfl (rfl) dM_holds_57 ⟨Nat.zero_le _, Nat.zero_le _⟩ (⟨_, rfl, fun z => absurd z (by omega), fun _ => ⟨fun _ => ⟨rfl, rfl⟩, fun z => absurd hbad z⟩⟩)
    · skip
      have n1 : p.toInt.natAbs ≤ 10000 := Classical.byContradiction (fun w => far_0.mp h_18 (far_n.mpr w))
      refine za_iload_n hc dM_holds_21 rfl ?_
      refine za_i2l hc dM_holds_22 ?_
      refine za_cS1i hc gsM_187 (cM_isFar_ l M q.toInt64) ⟨rfl, rfl⟩ ⟨Nat.le_of_ble_eq_true rfl, Nat.le_of_ble_eq_true rfl⟩ ⟨Nat.zero_le _, Nat.zero_le _⟩ dM_holds_23 (fun x_23 M_23 h_23 => ?_)
      obtain ⟨q_23, hm_23⟩ := h_23
      rw [hm_23]
      subst q_23
      refine za_if_ne 41 hc dM_holds_26 rfl (fun h_26 => ?_) (fun h_26 => ?_)
      · skip
        have hbad : gBadH p q d := Or.inr (Or.inl (far_n.mp (far_1.mp h_26)))
        refine za_iconst hc 2 dM_holds_41 rfl ?_
        refine za_goto 46 hc dM_holds_42 rfl ?_
        refine za_putI hc gpM_66 zob_62 dM_holds_46 ?_
        refine za_aload_n hc dM_holds_49 rfl ?_
        refine za_getI hc gfM_66 zob_62 dM_holds_50 ?_
        rw [zI_s, if_pos rfl]
        refine za_if_le 58 hc dM_holds_53 rfl (fun h_53 => ?_) (fun h_53 => ?_)
        · skip
          exact absurd h_53 (by decide)
        · skip
          refine za_iconst hc 0 dM_holds_56 rfl ?_
          exact za_zret hc rfl (rfl) dM_holds_57 ⟨Nat.zero_le _, Nat.zero_le _⟩ (⟨_, rfl, fun z => absurd z (by omega), fun _ => ⟨fun _ => ⟨rfl, rfl⟩, fun z => absurd hbad z⟩⟩)
      · skip
        have n2 : q.toInt.natAbs ≤ 10000 := Classical.byContradiction (fun w => far_0.mp h_26 (far_n.mpr w))
        refine za_iload_n hc dM_holds_29 rfl ?_
        refine za_iconst hc 1 dM_holds_30 rfl ?_
        refine za_icmp_lt 41 hc dM_holds_31 rfl (fun h_31 => ?_) (fun h_31 => ?_)
        · skip
          have hbad : gBadH p q d := Or.inr (Or.inr (fun w => absurd (Int32.lt_iff_toInt_lt.mp h_31) (Int.not_lt.mpr w.1)))
          refine za_iconst hc 2 dM_holds_41 rfl ?_
          refine za_goto 46 hc dM_holds_42 rfl ?_
          refine za_putI hc gpM_66 zob_62 dM_holds_46 ?_
          refine za_aload_n hc dM_holds_49 rfl ?_
          refine za_getI hc gfM_66 zob_62 dM_holds_50 ?_
          rw [zI_s, if_pos rfl]
          refine za_if_le 58 hc dM_holds_53 rfl (fun h_53 => ?_) (fun h_53 => ?_)
          · skip
            exact absurd h_53 (by decide)
          · skip
            refine za_iconst hc 0 dM_holds_56 rfl ?_
            exact za_zret hc rfl (rfl) dM_holds_57 ⟨Nat.zero_le _, Nat.zero_le _⟩ (⟨_, rfl, fun z => absurd z (by omega), fun _ => ⟨fun _ => ⟨rfl, rfl⟩, fun z => absurd hbad z⟩⟩)
        · skip
          have n3 : 1 ≤ d.toInt := Int.not_lt.mp (fun w => h_31 (Int32.lt_iff_toInt_lt.mpr w))
          refine za_iload_n hc dM_holds_34 rfl ?_
          refine za_sipush hc 1000 dM_holds_35 rfl ?_
          refine za_icmp_le 45 hc dM_holds_38 rfl (fun h_38 => ?_) (fun h_38 => ?_)
          · skip
            have hok : ¬ gBadH p q d := fun w => by rcases w with w | w | w; exact w n1; exact w n2; exact w ⟨n3, Int32.le_iff_toInt_le.mp h_38⟩
            refine za_iconst hc 0 dM_holds_45 rfl ?_
            refine za_putI hc gpM_66 zob_62 dM_holds_46 ?_
            refine za_aload_n hc dM_holds_49 rfl ?_
            refine za_getI hc gfM_66 zob_62 dM_holds_50 ?_
            rw [zI_s, if_pos rfl]
            refine za_if_le 58 hc dM_holds_53 rfl (fun h_53 => ?_) (fun h_53 => ?_)
            · skip
              refine za_iconst hc 0 dM_holds_58 rfl ?_
              refine za_istore hc dM_holds_59 (by decide) ?_
              refine za_iconst hc 0 dM_holds_61 rfl ?_
              refine za_istore hc dM_holds_62 (by decide) ?_
              exact LOOP h1 hok _ rfl (by rw [zI_s, if_neg (by decide)]; exact hp) (sH_set (hP h1)) (fun k => hsb0 k)
            · skip
              exact absurd (Int32.le_refl _) h_53
          · skip
            have hbad : gBadH p q d := Or.inr (Or.inr (fun w => h_38 (Int32.le_iff_toInt_le.mpr w.2)))
            refine za_iconst hc 2 dM_holds_41 rfl ?_
            refine za_goto 46 hc dM_holds_42 rfl ?_
            refine za_putI hc gpM_66 zob_62 dM_holds_46 ?_
            refine za_aload_n hc dM_holds_49 rfl ?_
            refine za_getI hc gfM_66 zob_62 dM_holds_50 ?_
            rw [zI_s, if_pos rfl]
            refine za_if_le 58 hc dM_holds_53 rfl (fun h_53 => ?_) (fun h_53 => ?_)
            · skip
              exact absurd h_53 (by decide)
            · skip
              refine za_iconst hc 0 dM_holds_56 rfl ?_
              exact za_zret hc rfl (rfl) dM_holds_57 ⟨Nat.zero_le _, Nat.zero_le _⟩ (⟨_, rfl, fun z => absurd z (by omega), fun _ => ⟨fun _ => ⟨rfl, rfl⟩, fun z => absurd hbad z⟩⟩)
  · skip
    have h0 : h = 0 := by have : ¬ 1 ≤ h := fun z => h_6 ((nI_lt1 hh).mpr z); omega
    refine za_iconst hc 1 dM_holds_9 rfl ?_
    refine za_goto 46 hc dM_holds_10 rfl ?_
    refine za_putI hc gpM_66 zob_62 dM_holds_46 ?_
    refine za_aload_n hc dM_holds_49 rfl ?_
    refine za_getI hc gfM_66 zob_62 dM_holds_50 ?_
    rw [zI_s, if_pos rfl]
    refine za_if_le 58 hc dM_holds_53 rfl (fun h_53 => ?_) (fun h_53 => ?_)
    · skip
      exact absurd h_53 (by decide)
    · skip
      refine za_iconst hc 0 dM_holds_56 rfl ?_
      exact za_zret hc rfl (rfl) dM_holds_57 ⟨Nat.zero_le _, Nat.zero_le _⟩ (⟨_, rfl, fun _ => ⟨rfl, rfl⟩, fun z => absurd z (by omega)⟩)
