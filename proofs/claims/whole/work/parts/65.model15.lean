/-! The model: freed. -/
def gapp (ls : List gC) (m : gC) : List gC := if m.1 = 0 ∧ m.2.1 = 0 then ls else ls ++ [m]
theorem gapp_len (D : List gC) : ∀ acc : List gC, (D.foldl gapp acc).length ≤ acc.length + D.length := by
  induction D with
  | nil => intro acc; exact Nat.le_refl _
  | cons m t ih =>
    intro acc
    have h1 := ih (gapp acc m)
    have h2 : (gapp acc m).length ≤ acc.length + 1 := by unfold gapp; split; omega; simp
    simp only [List.foldl_cons, List.length_cons]; omega
theorem gapp_snoc (D : List gC) (m : gC) (acc : List gC) : (D ++ [m]).foldl gapp acc = gapp (D.foldl gapp acc) m := by rw [List.foldl_append]; rfl
theorem gapp_put (D : List gC) : ∀ acc : List gC, (D.foldl gapp acc).foldl gput [] = D.foldl gput (acc.foldl gput []) := by
  induction D with
  | nil => intro acc; rfl
  | cons m t ih =>
    intro acc
    rw [List.foldl_cons, List.foldl_cons, ih]
    congr 1
    unfold gapp gput
    split
    · rfl
    · rw [List.foldl_append]; simp only [List.foldl_cons, List.foldl_nil]; rename_i h; rw [if_neg h]
theorem gapp_mem (D : List gC) : ∀ acc : List gC, ∀ q ∈ D.foldl gapp acc, q ∈ acc ∨ (q ∈ D ∧ gnz q) := by
  induction D with
  | nil => intro acc q hq; exact Or.inl hq
  | cons m t ih =>
    intro acc q hq
    rcases ih (gapp acc m) q hq with z | z
    · unfold gapp at z
      split at z
      · exact Or.inl z
      · rename_i h
        rcases List.mem_append.mp z with w | w
        · exact Or.inl w
        · rw [List.mem_singleton.mp w]; exact Or.inr ⟨List.mem_cons_self, h⟩
    · exact Or.inr ⟨List.mem_cons_of_mem _ z.1, z.2⟩
theorem g_sumz {col : Int32} {m k : gC} {x y : Rat} (hm : gst m x y) (hk : gst k x y) (h1 : 0 < gu col m) (h2 : gu col k < 0) (h0 : (gsum col m k).1 = 0 ∧ (gsum col m k).2.1 = 0) : 0 ≤ (gsum col m k).2.2.1 ∧ ((gsum col m k).2.2.1 = 0 → (gsum col m k).2.2.2 = false) := by
  have a1 : (0 : Rat) < ((-gu col k : Int) : Rat) := Rat.intCast_pos.mpr (by omega)
  have a2 : (0 : Rat) < ((gu col m : Int) : Rat) := Rat.intCast_pos.mpr h1
  generalize hα : -gu col k = α at a1
  generalize hβ : gu col m = β at a2
  have e1 : α * m.1 + β * k.1 = 0 := by rw [← hα, ← hβ]; exact h0.1
  have e2 : α * m.2.1 + β * k.2.1 = 0 := by rw [← hα, ← hβ]; exact h0.2
  have ec : (gsum col m k).2.2.1 = α * m.2.2.1 + β * k.2.2.1 := by rw [← hα, ← hβ]; rfl
  have es : (gsum col m k).2.2.2 = (m.2.2.2 || k.2.2.2) := rfl
  have e3 : (α : Rat) * gv m x y + (β : Rat) * gv k x y = 0 := by
    have r1 : (α : Rat) * (m.1 : Rat) + (β : Rat) * (k.1 : Rat) = 0 := by have := congrArg (fun z : Int => (z : Rat)) e1; simpa [Rat.intCast_mul, Rat.intCast_add] using this
    have r2 : (α : Rat) * (m.2.1 : Rat) + (β : Rat) * (k.2.1 : Rat) = 0 := by have := congrArg (fun z : Int => (z : Rat)) e2; simpa [Rat.intCast_mul, Rat.intCast_add] using this
    have : (α : Rat) * gv m x y + (β : Rat) * gv k x y = ((α : Rat) * (m.1 : Rat) + (β : Rat) * (k.1 : Rat)) * x + ((α : Rat) * (m.2.1 : Rat) + (β : Rat) * (k.2.1 : Rat)) * y := by unfold gv; grind
    rw [this, r1, r2]; grind
  have e4 : ((α * m.2.2.1 + β * k.2.2.1 : Int) : Rat) = (α : Rat) * gk m + (β : Rat) * gk k := by unfold gk; push_cast; rfl
  obtain ⟨m1, m2⟩ := gst_iff.mp hm
  obtain ⟨k1, k2⟩ := gst_iff.mp hk
  unfold gcl at m1 k1
  have p1 := Rat.mul_le_mul_of_nonneg_left m1 (Rat.le_of_lt a1)
  have p2 := Rat.mul_le_mul_of_nonneg_left k1 (Rat.le_of_lt a2)
  rw [ec, es]
  refine ⟨Rat.intCast_nonneg.mp (by rw [e4]; grind), fun z => ?_⟩
  have z4 : (α : Rat) * gk m + (β : Rat) * gk k = 0 := by rw [← e4, z]; rfl
  cases hs : m.2.2.2 with
  | true => have q := Rat.mul_lt_mul_of_pos_left (m2 hs) a1; exfalso; grind
  | false =>
    cases ht : k.2.2.2 with
    | true => have q := Rat.mul_lt_mul_of_pos_left (k2 ht) a2; exfalso; grind
    | false => rfl

set_option maxRecDepth 100000 in
set_option maxHeartbeats 4000000 in
theorem cM_freed_ (l : Launch) {p j : Nat} {P : List (List gC)} {row : List gC} {x y : Rat} (M : zM) (col : Int32) (hp14 : p < 14) (hS : sH M p P) (hrow : P[j]? = some row) (hz : ∀ q ∈ row, gnz q) (hxy : ∀ q ∈ row, gst q x y) (hH : mH M []) (hnv : zI M 62 14 = 0) (hsb0 : sbo M) : zMet l mM_freed rM_freed [.ref 62, .int (nI p), .int (nI j), .int col] M (zqv (fun M' => mH M' ((gels col row).foldl gapp []) ∧ zI M' 62 14 = 0 ∧ mK [13, 14] M M' ∧ zfr mA M M')) := by
  refine za_enter (by decide) (Nat.le_of_ble_eq_true rfl) (fun X hc => ?_)
  have a63 := ar_63
  have a64 := ar_64
  have a65 := ar_65
  have a66 := ar_66
  have a67 := ar_67
  have a68 := ar_68
  have a73 := ar_73
  have a74 := ar_74
  have a75 := ar_75
  have a76 := ar_76
  have hj12 : j < 12 := by have := (List.getElem?_eq_some_iff.mp hrow).1; have := hS.2.1; omega
  obtain ⟨a1, a2, a3, a4⟩ := hS.2.2 j row hrow
  have hgl := gels_len (col := col) a1
  have outer : ∀ (t : List gC) (i : Nat) (D : List gC) (M1 : zM), row.drop i = t → i + t.length = row.length → D ++ t.flatMap (gel col row) = gels col row → mH M1 (D.foldl gapp []) → zI M1 62 14 = 0 → mK [13, 14] M M1 → zfr mA M M1 → zW X (zqv (fun M' => mH M' ((gels col row).foldl gapp []) ∧ zI M' 62 14 = 0 ∧ mK [13, 14] M M' ∧ zfr mA M M')) (0, 0) 16 [(0, .ref 62), (1, .int (nI p)), (2, .int (nI j)), (3, .int col), (4, .int (nI row.length)), (5, .int (nI i))] [] M1 := by
    intro t
    induction t with
    | nil =>
      intro i D M1 hdr hn hD hm hnv1 hk hf
      simp only [List.length_nil] at hn
      simp only [List.flatMap_nil, List.append_nil] at hD
      refine za_iload hc dM_freed_16 rfl ?_
      refine za_iload hc dM_freed_18 rfl ?_
      refine za_icmp_ge 269 hc dM_freed_20 rfl (fun h_20 => ?_) (fun h_20 => ?_)
      · skip
        exact za_vret hc rfl dM_freed_269 ⟨Nat.zero_le _, Nat.zero_le _⟩ (⟨rfl, by rw [← hD]; exact hm, hnv1, hk, hf⟩)
      · skip
        exact absurd ((nI_leI (by omega) (by omega)).mpr (show row.length ≤ i by omega)) h_20
    | cons m t ih =>
      intro i D M1 hdr hn hD hm hnv1 hk hf
      simp only [List.length_cons] at hn
      have hrm : row[i]? = some m := by rw [← List.head?_drop, hdr]; rfl
      have hdr2 : row.drop (i + 1) = t := by rw [← List.drop_drop, hdr]; rfl
      rw [List.flatMap_cons, ← List.append_assoc] at hD
      have emm : sg M (144 * p + 12 * j + i) = m := a3 _ _ hrm
      have lmm := a4 m (List.mem_of_getElem? hrm)
      have l1m : (zI M 65 (144 * p + 12 * j + i)).toInt.natAbs ≤ 10000 := by rw [← emm] at lmm; exact lmm.1
      have l2m : (zI M 66 (144 * p + 12 * j + i)).toInt.natAbs ≤ 10000 := by rw [← emm] at lmm; exact lmm.2.1
      have l3m : (zI M 67 (144 * p + 12 * j + i)).toInt.natAbs ≤ 10000 := by rw [← emm] at lmm; exact lmm.2.2
      have v1m : m.1 = (zI M 65 (144 * p + 12 * j + i)).toInt := by rw [← emm]; rfl
      have v2m : m.2.1 = (zI M 66 (144 * p + 12 * j + i)).toInt := by rw [← emm]; rfl
      have v3m : m.2.2.1 = (zI M 67 (144 * p + 12 * j + i)).toInt := by rw [← emm]; rfl
      have v4m : m.2.2.2 = (zI M 68 (144 * p + 12 * j + i) == 1) := by rw [← emm]; rfl
      have TAIL : ∀ (k : Nat) (u : Int64) (M1 : zM), mH M1 ((D ++ gel col row m).foldl gapp []) → zI M1 62 14 = 0 → mK [13, 14] M M1 → zfr mA M M1 → zW X (zqv (fun M' => mH M' ((gels col row).foldl gapp []) ∧ zI M' 62 14 = 0 ∧ mK [13, 14] M M' ∧ zfr mA M M')) (0, 0) 263 [(0, .ref 62), (1, .int (nI p)), (2, .int (nI j)), (3, .int col), (4, .int (nI row.length)), (5, .int (nI i)), (6, .int (nI (144 * p + 12 * j + i))), (7, .long u), (9, .int (nI k))] [] M1 := by
        intro k u M1 hm hnv1 hk hf
        refine za_iinc hc _ dM_freed_263 rfl ((nI_succ i).symm) (by decide) ?_
        refine za_goto 16 hc dM_freed_266 rfl ?_
        refine za_take 6 ?_
        exact ih (i + 1) (D ++ gel col row m) M1 hdr2 (by omega) hD hm hnv1 hk hf
      have inner : 0 < gu col m → ∀ (w : List gC) (k : Nat) (E : List gC) (u : Int64) (M1 : zM), row.drop k = w → k + w.length = row.length → u.toInt = gu col m → E ++ w.filterMap (gels1 col m) = D ++ gel col row m → mH M1 (E.foldl gapp []) → zI M1 62 14 = 0 → mK [13, 14] M M1 → zfr mA M M1 → zW X (zqv (fun M' => mH M' ((gels col row).foldl gapp []) ∧ zI M' 62 14 = 0 ∧ mK [13, 14] M M' ∧ zfr mA M M')) (0, 0) 102 [(0, .ref 62), (1, .int (nI p)), (2, .int (nI j)), (3, .int col), (4, .int (nI row.length)), (5, .int (nI i)), (6, .int (nI (144 * p + 12 * j + i))), (7, .long u), (9, .int (nI k))] [] M1 := by
        intro hpos w
        induction w with
        | nil =>
          intro k E u M1 hdw hmw hu hE hm hnv1 hk hf
          simp only [List.length_nil] at hmw
          simp only [List.filterMap_nil, List.append_nil] at hE
          refine za_iload hc dM_freed_102 rfl ?_
          refine za_iload hc dM_freed_104 rfl ?_
          refine za_icmp_ge 263 hc dM_freed_106 rfl (fun h_106 => ?_) (fun h_106 => ?_)
          · skip
            exact TAIL k u M1 (by rw [← hE]; exact hm) hnv1 hk hf
          · skip
            exact absurd ((nI_leI (by omega) (by omega)).mpr (show row.length ≤ k by omega)) h_106
        | cons q w ihw =>
          intro k E u M1 hdw hmw hu hE hm hnv1 hk hf
          simp only [List.length_cons] at hmw
          have hrq : row[k]? = some q := by rw [← List.head?_drop, hdw]; rfl
          have hdw2 : row.drop (k + 1) = w := by rw [← List.drop_drop, hdw]; rfl
          have emq : sg M (144 * p + 12 * j + k) = q := a3 _ _ hrq
          have lmq := a4 q (List.mem_of_getElem? hrq)
          have l1q : (zI M 65 (144 * p + 12 * j + k)).toInt.natAbs ≤ 10000 := by rw [← emq] at lmq; exact lmq.1
          have l2q : (zI M 66 (144 * p + 12 * j + k)).toInt.natAbs ≤ 10000 := by rw [← emq] at lmq; exact lmq.2.1
          have l3q : (zI M 67 (144 * p + 12 * j + k)).toInt.natAbs ≤ 10000 := by rw [← emq] at lmq; exact lmq.2.2
          have v1q : q.1 = (zI M 65 (144 * p + 12 * j + k)).toInt := by rw [← emq]; rfl
          have v2q : q.2.1 = (zI M 66 (144 * p + 12 * j + k)).toInt := by rw [← emq]; rfl
          have v3q : q.2.2.1 = (zI M 67 (144 * p + 12 * j + k)).toInt := by rw [← emq]; rfl
          have v4q : q.2.2.2 = (zI M 68 (144 * p + 12 * j + k) == 1) := by rw [← emq]; rfl
          have e65 : zI M1 65 = zI M 65 := (hf 65 (mA_s 65 (by decide) (by decide))).1
          have e66 : zI M1 66 = zI M 66 := (hf 66 (mA_s 66 (by decide) (by decide))).1
          have e67 : zI M1 67 = zI M 67 := (hf 67 (mA_s 67 (by decide) (by decide))).1
          have e68 : zI M1 68 = zI M 68 := (hf 68 (mA_s 68 (by decide) (by decide))).1
          have hgu : -10000 ≤ gu col m ∧ gu col m ≤ 10000 := by have := gu_lim (col := col) lmm; omega
          have hgq : -10000 ≤ gu col q ∧ gu col q ≤ 10000 := by have := gu_lim (col := col) lmq; omega
          have hEl : E.length ≤ 36 := by have h9 := congrArg List.length hE; have h8 := congrArg List.length hD; simp only [List.length_append] at h9 h8; omega
          have STEP : ∀ ll : Int64, ll.toInt = -gu col q → zW X (zqv (fun M' => mH M' ((gels col row).foldl gapp []) ∧ zI M' 62 14 = 0 ∧ mK [13, 14] M M' ∧ zfr mA M M')) (0, 0) 152 [(0, .ref 62), (1, .int (nI p)), (2, .int (nI j)), (3, .int col), (4, .int (nI row.length)), (5, .int (nI i)), (6, .int (nI (144 * p + 12 * j + i))), (7, .long u), (9, .int (nI k)), (10, .int (nI (144 * p + 12 * j + k))), (11, .long ll)] [] M1 := by
            intro ll hll
            refine za_lload hc dM_freed_152 rfl ?_
            refine za_lconst hc 0 dM_freed_154 rfl ?_
            refine za_lcmp_le 257 hc dM_freed_155 dM_freed_156 rfl (fun h_155 => ?_) (fun h_155 => ?_)
            · skip
              have hle : ll.toInt ≤ 0 := Int64.le_iff_toInt_le.mp h_155
              have hno : ¬ gu col q < 0 := by omega
              rw [List.filterMap_cons] at hE
              unfold gels1 at hE
              rw [if_neg hno] at hE
              refine za_iinc hc _ dM_freed_257 rfl ((nI_succ k).symm) (by decide) ?_
              refine za_goto 102 hc dM_freed_260 rfl ?_
              refine za_take 9 ?_
              exact ihw (k + 1) E u M1 hdw2 (by omega) hu hE hm hnv1 hk hf
            · skip
              have hgt : ¬ ll.toInt ≤ 0 := fun z => h_155 (Int64.le_iff_toInt_le.mpr z)
              have hqn : gu col q < 0 := by omega
              have s1 : (ll * (zI M 65 (144 * p + 12 * j + i)).toInt64 + u * (zI M 65 (144 * p + 12 * j + k)).toInt64).toInt = (gsum col m q).1 := by
                rw [l_lin (by omega) (by omega) (by rw [i2l_int]; omega) (by rw [i2l_int]; omega), i2l_int, i2l_int, hll, hu]
                show _ = -gu col q * m.1 + gu col m * q.1
                rw [v1m, v1q]
              have s2 : (ll * (zI M 66 (144 * p + 12 * j + i)).toInt64 + u * (zI M 66 (144 * p + 12 * j + k)).toInt64).toInt = (gsum col m q).2.1 := by
                rw [l_lin (by omega) (by omega) (by rw [i2l_int]; omega) (by rw [i2l_int]; omega), i2l_int, i2l_int, hll, hu]
                show _ = -gu col q * m.2.1 + gu col m * q.2.1
                rw [v2m, v2q]
              have s3 : (ll * (zI M 67 (144 * p + 12 * j + i)).toInt64 + u * (zI M 67 (144 * p + 12 * j + k)).toInt64).toInt = (gsum col m q).2.2.1 := by
                rw [l_lin (by omega) (by omega) (by rw [i2l_int]; omega) (by rw [i2l_int]; omega), i2l_int, i2l_int, hll, hu]
                show _ = -gu col q * m.2.2.1 + gu col m * q.2.2.1
                rw [v3m, v3q]
              refine za_aload_n hc dM_freed_159 rfl ?_
              refine za_lload hc dM_freed_160 rfl ?_
              refine za_aload_n hc dM_freed_162 rfl ?_
              refine za_getA hc gfM_16 zob_62 (p := 65) rfl dM_freed_163 ?_
              refine za_iload hc dM_freed_166 rfl ?_
              refine zm_iald hc (by assumption) dM_freed_168 (by omega) (by decide) ?_
              rw [e65]
              refine za_i2l hc dM_freed_169 ?_
              refine za_lmul hc dM_freed_170 ?_
              refine za_lload hc dM_freed_171 rfl ?_
              refine za_aload_n hc dM_freed_173 rfl ?_
              refine za_getA hc gfM_16 zob_62 (p := 65) rfl dM_freed_174 ?_
              refine za_iload hc dM_freed_177 rfl ?_
              refine zm_iald hc (by assumption) dM_freed_179 (by omega) (by decide) ?_
              rw [e65]
              refine za_i2l hc dM_freed_180 ?_
              refine za_lmul hc dM_freed_181 ?_
              refine za_ladd hc dM_freed_182 ?_
              refine za_lload hc dM_freed_183 rfl ?_
              refine za_aload_n hc dM_freed_185 rfl ?_
              refine za_getA hc gfM_19 zob_62 (p := 66) rfl dM_freed_186 ?_
              refine za_iload hc dM_freed_189 rfl ?_
              refine zm_iald hc (by assumption) dM_freed_191 (by omega) (by decide) ?_
              rw [e66]
              refine za_i2l hc dM_freed_192 ?_
              refine za_lmul hc dM_freed_193 ?_
              refine za_lload hc dM_freed_194 rfl ?_
              refine za_aload_n hc dM_freed_196 rfl ?_
              refine za_getA hc gfM_19 zob_62 (p := 66) rfl dM_freed_197 ?_
              refine za_iload hc dM_freed_200 rfl ?_
              refine zm_iald hc (by assumption) dM_freed_202 (by omega) (by decide) ?_
              rw [e66]
              refine za_i2l hc dM_freed_203 ?_
              refine za_lmul hc dM_freed_204 ?_
              refine za_ladd hc dM_freed_205 ?_
              refine za_lload hc dM_freed_206 rfl ?_
              refine za_aload_n hc dM_freed_208 rfl ?_
              refine za_getA hc gfM_22 zob_62 (p := 67) rfl dM_freed_209 ?_
              refine za_iload hc dM_freed_212 rfl ?_
              refine zm_iald hc (by assumption) dM_freed_214 (by omega) (by decide) ?_
              rw [e67]
              refine za_i2l hc dM_freed_215 ?_
              refine za_lmul hc dM_freed_216 ?_
              refine za_lload hc dM_freed_217 rfl ?_
              refine za_aload_n hc dM_freed_219 rfl ?_
              refine za_getA hc gfM_22 zob_62 (p := 67) rfl dM_freed_220 ?_
              refine za_iload hc dM_freed_223 rfl ?_
              refine zm_iald hc (by assumption) dM_freed_225 (by omega) (by decide) ?_
              rw [e67]
              refine za_i2l hc dM_freed_226 ?_
              refine za_lmul hc dM_freed_227 ?_
              refine za_ladd hc dM_freed_228 ?_
              refine za_aload_n hc dM_freed_229 rfl ?_
              refine za_getA hc gfM_25 zob_62 (p := 68) rfl dM_freed_230 ?_
              refine za_iload hc dM_freed_233 rfl ?_
              refine zm_zald hc (by assumption) dM_freed_235 (by omega) (by decide) ?_
              rw [e68]
              refine za_if_ne 249 hc dM_freed_236 rfl (fun h_236 => ?_) (fun h_236 => ?_)
              · skip
                have hsv : ((1 : Int32) == 1) = (gsum col m q).2.2.2 := by show _ = (m.2.2.2 || q.2.2.2); rw [v4m, (hsb0 _).resolve_left h_236]; rfl
                refine za_iconst hc 1 dM_freed_249 rfl ?_
                refine za_goto 254 hc dM_freed_250 rfl ?_
                refine za_cV4v hc gsM_153 zob_62 (cM_add_ l M1 _ _ _ 1 hm (by have := gapp_len E []; simp only [List.length_nil] at this; omega) (by first | exact Or.inl rfl | exact Or.inr rfl) hnv1 (fun z => by have h7 := g_sumz (hxy m (List.mem_of_getElem? hrm)) (hxy q (List.mem_of_getElem? hrq)) hpos hqn ⟨by rw [← s1]; exact z.1, by rw [← s2]; exact z.2⟩; rw [s3]; exact ⟨h7.1, fun w9 => by have := h7.2 w9; rw [← hsv] at this; exact absurd this (by decide)⟩)) ⟨rfl, rfl⟩ ⟨Nat.le_of_ble_eq_true rfl, Nat.le_of_ble_eq_true rfl⟩ ⟨Nat.zero_le _, Nat.zero_le _⟩ dM_freed_254 (fun M_254 h_254 => ?_)
                obtain ⟨x1, x2, x3, x4⟩ := h_254
                have es : (if (ll * (zI M 65 (144 * p + 12 * j + i)).toInt64 + u * (zI M 65 (144 * p + 12 * j + k)).toInt64).toInt = 0 ∧ (ll * (zI M 66 (144 * p + 12 * j + i)).toInt64 + u * (zI M 66 (144 * p + 12 * j + k)).toInt64).toInt = 0 then E.foldl gapp [] else E.foldl gapp [] ++ [((ll * (zI M 65 (144 * p + 12 * j + i)).toInt64 + u * (zI M 65 (144 * p + 12 * j + k)).toInt64).toInt, (ll * (zI M 66 (144 * p + 12 * j + i)).toInt64 + u * (zI M 66 (144 * p + 12 * j + k)).toInt64).toInt, (ll * (zI M 67 (144 * p + 12 * j + i)).toInt64 + u * (zI M 67 (144 * p + 12 * j + k)).toInt64).toInt, ((1 : Int32) == 1))]) = (E ++ [gsum col m q]).foldl gapp [] := by
                  rw [gapp_snoc]; unfold gapp; rw [← s1, ← s2]
                  have e9 : ((ll * (zI M 65 (144 * p + 12 * j + i)).toInt64 + u * (zI M 65 (144 * p + 12 * j + k)).toInt64).toInt, (ll * (zI M 66 (144 * p + 12 * j + i)).toInt64 + u * (zI M 66 (144 * p + 12 * j + k)).toInt64).toInt, (ll * (zI M 67 (144 * p + 12 * j + i)).toInt64 + u * (zI M 67 (144 * p + 12 * j + k)).toInt64).toInt, ((1 : Int32) == 1)) = gsum col m q := by rw [s1, s2, s3, hsv]
                  rw [e9]
                rw [es] at x1
                refine za_iinc hc _ dM_freed_257 rfl ((nI_succ k).symm) (by decide) ?_
                refine za_goto 102 hc dM_freed_260 rfl ?_
                refine za_take 9 ?_
                rw [List.filterMap_cons] at hE
                unfold gels1 at hE
                rw [if_pos hqn] at hE
                exact ihw (k + 1) (E ++ [gsum col m q]) u M_254 hdw2 (by omega) hu (by rw [List.append_assoc]; exact hE) x1 x2 (hk.tr x3) (hf.tr x4)
              · skip
                have hs0 : m.2.2.2 = false := by rw [v4m, h_236]; rfl
                refine za_aload_n hc dM_freed_239 rfl ?_
                refine za_getA hc gfM_25 zob_62 (p := 68) rfl dM_freed_240 ?_
                refine za_iload hc dM_freed_243 rfl ?_
                refine zm_zald hc (by assumption) dM_freed_245 (by omega) (by decide) ?_
                rw [e68]
                refine za_if_eq 253 hc dM_freed_246 rfl (fun h_246 => ?_) (fun h_246 => ?_)
                · skip
                  have hsv : ((0 : Int32) == 1) = (gsum col m q).2.2.2 := by show _ = (m.2.2.2 || q.2.2.2); rw [hs0, v4q, h_246]; rfl
                  refine za_iconst hc 0 dM_freed_253 rfl ?_
                  refine za_cV4v hc gsM_153 zob_62 (cM_add_ l M1 _ _ _ 0 hm (by have := gapp_len E []; simp only [List.length_nil] at this; omega) (by first | exact Or.inl rfl | exact Or.inr rfl) hnv1 (fun z => by have h7 := g_sumz (hxy m (List.mem_of_getElem? hrm)) (hxy q (List.mem_of_getElem? hrq)) hpos hqn ⟨by rw [← s1]; exact z.1, by rw [← s2]; exact z.2⟩; rw [s3]; exact ⟨h7.1, fun w9 => by have := h7.2 w9; rfl⟩)) ⟨rfl, rfl⟩ ⟨Nat.le_of_ble_eq_true rfl, Nat.le_of_ble_eq_true rfl⟩ ⟨Nat.zero_le _, Nat.zero_le _⟩ dM_freed_254 (fun M_254 h_254 => ?_)
                  obtain ⟨x1, x2, x3, x4⟩ := h_254
                  have es : (if (ll * (zI M 65 (144 * p + 12 * j + i)).toInt64 + u * (zI M 65 (144 * p + 12 * j + k)).toInt64).toInt = 0 ∧ (ll * (zI M 66 (144 * p + 12 * j + i)).toInt64 + u * (zI M 66 (144 * p + 12 * j + k)).toInt64).toInt = 0 then E.foldl gapp [] else E.foldl gapp [] ++ [((ll * (zI M 65 (144 * p + 12 * j + i)).toInt64 + u * (zI M 65 (144 * p + 12 * j + k)).toInt64).toInt, (ll * (zI M 66 (144 * p + 12 * j + i)).toInt64 + u * (zI M 66 (144 * p + 12 * j + k)).toInt64).toInt, (ll * (zI M 67 (144 * p + 12 * j + i)).toInt64 + u * (zI M 67 (144 * p + 12 * j + k)).toInt64).toInt, ((0 : Int32) == 1))]) = (E ++ [gsum col m q]).foldl gapp [] := by
                    rw [gapp_snoc]; unfold gapp; rw [← s1, ← s2]
                    have e9 : ((ll * (zI M 65 (144 * p + 12 * j + i)).toInt64 + u * (zI M 65 (144 * p + 12 * j + k)).toInt64).toInt, (ll * (zI M 66 (144 * p + 12 * j + i)).toInt64 + u * (zI M 66 (144 * p + 12 * j + k)).toInt64).toInt, (ll * (zI M 67 (144 * p + 12 * j + i)).toInt64 + u * (zI M 67 (144 * p + 12 * j + k)).toInt64).toInt, ((0 : Int32) == 1)) = gsum col m q := by rw [s1, s2, s3, hsv]
                    rw [e9]
                  rw [es] at x1
                  refine za_iinc hc _ dM_freed_257 rfl ((nI_succ k).symm) (by decide) ?_
                  refine za_goto 102 hc dM_freed_260 rfl ?_
                  refine za_take 9 ?_
                  rw [List.filterMap_cons] at hE
                  unfold gels1 at hE
                  rw [if_pos hqn] at hE
                  exact ihw (k + 1) (E ++ [gsum col m q]) u M_254 hdw2 (by omega) hu (by rw [List.append_assoc]; exact hE) x1 x2 (hk.tr x3) (hf.tr x4)
                · skip
                  have hsv : ((1 : Int32) == 1) = (gsum col m q).2.2.2 := by show _ = (m.2.2.2 || q.2.2.2); rw [hs0, v4q, (hsb0 _).resolve_left h_246]; rfl
                  refine za_iconst hc 1 dM_freed_249 rfl ?_
                  refine za_goto 254 hc dM_freed_250 rfl ?_
                  refine za_cV4v hc gsM_153 zob_62 (cM_add_ l M1 _ _ _ 1 hm (by have := gapp_len E []; simp only [List.length_nil] at this; omega) (by first | exact Or.inl rfl | exact Or.inr rfl) hnv1 (fun z => by have h7 := g_sumz (hxy m (List.mem_of_getElem? hrm)) (hxy q (List.mem_of_getElem? hrq)) hpos hqn ⟨by rw [← s1]; exact z.1, by rw [← s2]; exact z.2⟩; rw [s3]; exact ⟨h7.1, fun w9 => by have := h7.2 w9; rw [← hsv] at this; exact absurd this (by decide)⟩)) ⟨rfl, rfl⟩ ⟨Nat.le_of_ble_eq_true rfl, Nat.le_of_ble_eq_true rfl⟩ ⟨Nat.zero_le _, Nat.zero_le _⟩ dM_freed_254 (fun M_254 h_254 => ?_)
                  obtain ⟨x1, x2, x3, x4⟩ := h_254
                  have es : (if (ll * (zI M 65 (144 * p + 12 * j + i)).toInt64 + u * (zI M 65 (144 * p + 12 * j + k)).toInt64).toInt = 0 ∧ (ll * (zI M 66 (144 * p + 12 * j + i)).toInt64 + u * (zI M 66 (144 * p + 12 * j + k)).toInt64).toInt = 0 then E.foldl gapp [] else E.foldl gapp [] ++ [((ll * (zI M 65 (144 * p + 12 * j + i)).toInt64 + u * (zI M 65 (144 * p + 12 * j + k)).toInt64).toInt, (ll * (zI M 66 (144 * p + 12 * j + i)).toInt64 + u * (zI M 66 (144 * p + 12 * j + k)).toInt64).toInt, (ll * (zI M 67 (144 * p + 12 * j + i)).toInt64 + u * (zI M 67 (144 * p + 12 * j + k)).toInt64).toInt, ((1 : Int32) == 1))]) = (E ++ [gsum col m q]).foldl gapp [] := by
                    rw [gapp_snoc]; unfold gapp; rw [← s1, ← s2]
                    have e9 : ((ll * (zI M 65 (144 * p + 12 * j + i)).toInt64 + u * (zI M 65 (144 * p + 12 * j + k)).toInt64).toInt, (ll * (zI M 66 (144 * p + 12 * j + i)).toInt64 + u * (zI M 66 (144 * p + 12 * j + k)).toInt64).toInt, (ll * (zI M 67 (144 * p + 12 * j + i)).toInt64 + u * (zI M 67 (144 * p + 12 * j + k)).toInt64).toInt, ((1 : Int32) == 1)) = gsum col m q := by rw [s1, s2, s3, hsv]
                    rw [e9]
                  rw [es] at x1
                  refine za_iinc hc _ dM_freed_257 rfl ((nI_succ k).symm) (by decide) ?_
                  refine za_goto 102 hc dM_freed_260 rfl ?_
                  refine za_take 9 ?_
                  rw [List.filterMap_cons] at hE
                  unfold gels1 at hE
                  rw [if_pos hqn] at hE
                  exact ihw (k + 1) (E ++ [gsum col m q]) u M_254 hdw2 (by omega) hu (by rw [List.append_assoc]; exact hE) x1 x2 (hk.tr x3) (hf.tr x4)
          refine za_iload hc dM_freed_102 rfl ?_
          refine za_iload hc dM_freed_104 rfl ?_
          refine za_icmp_ge 263 hc dM_freed_106 rfl (fun h_106 => ?_) (fun h_106 => ?_)
          · skip
            exact absurd ((nI_leI (by omega) (by omega)).mp h_106) (by omega)
          · skip
            refine za_lload hc dM_freed_109 rfl ?_
            refine za_lconst hc 0 dM_freed_111 rfl ?_
            refine za_lcmp_le 263 hc dM_freed_112 dM_freed_113 rfl (fun h_112 => ?_) (fun h_112 => ?_)
            · skip
              exact absurd (Int64.le_iff_toInt_le.mp h_112) (by show ¬ u.toInt ≤ 0; omega)
            · skip
              refine za_iload_n hc dM_freed_116 rfl ?_
              refine za_iload_n hc dM_freed_117 rfl ?_
              refine za_iload hc dM_freed_118 rfl ?_
              refine za_cS3i hc gsM_149 (cM_place_ l M1 (p := p) (j := j) (i := k)) ⟨rfl, rfl⟩ ⟨Nat.le_of_ble_eq_true rfl, Nat.le_of_ble_eq_true rfl⟩ ⟨Nat.zero_le _, Nat.zero_le _⟩ dM_freed_120 (fun x_120 M_120 h_120 => ?_)
              obtain ⟨q_120, hm_120⟩ := h_120
              rw [hm_120, q_120]
              refine za_istore hc dM_freed_123 (by decide) ?_
              refine za_iload_n hc dM_freed_125 rfl ?_
              refine za_if_ne 141 hc dM_freed_126 rfl (fun h_126 => ?_) (fun h_126 => ?_)
              · skip
                have hgc : gu col q = q.2.1 := by unfold gu; rw [if_neg h_126]
                refine za_aload_n hc dM_freed_141 rfl ?_
                refine za_getA hc gfM_19 zob_62 (p := 66) rfl dM_freed_142 ?_
                refine za_iload hc dM_freed_145 rfl ?_
                refine zm_iald hc (by assumption) dM_freed_147 (by omega) (by decide) ?_
                rw [e66]
                refine za_ineg hc dM_freed_148 ?_
                refine za_i2l hc dM_freed_149 ?_
                refine za_lstore hc dM_freed_150 (by decide) ?_
                first
                | exact STEP _ (by rw [i2l_int, i_neg (by omega), hgc, v1q])
                | exact STEP _ (by rw [i2l_int, i_neg (by omega), hgc, v2q])
              · skip
                have hgc : gu col q = q.1 := by unfold gu; rw [if_pos h_126]
                refine za_aload_n hc dM_freed_129 rfl ?_
                refine za_getA hc gfM_16 zob_62 (p := 65) rfl dM_freed_130 ?_
                refine za_iload hc dM_freed_133 rfl ?_
                refine zm_iald hc (by assumption) dM_freed_135 (by omega) (by decide) ?_
                rw [e65]
                refine za_ineg hc dM_freed_136 ?_
                refine za_i2l hc dM_freed_137 ?_
                refine za_goto 150 hc dM_freed_138 rfl ?_
                refine za_lstore hc dM_freed_150 (by decide) ?_
                first
                | exact STEP _ (by rw [i2l_int, i_neg (by omega), hgc, v1q])
                | exact STEP _ (by rw [i2l_int, i_neg (by omega), hgc, v2q])
      have e65 : zI M1 65 = zI M 65 := (hf 65 (mA_s 65 (by decide) (by decide))).1
      have e66 : zI M1 66 = zI M 66 := (hf 66 (mA_s 66 (by decide) (by decide))).1
      have e67 : zI M1 67 = zI M 67 := (hf 67 (mA_s 67 (by decide) (by decide))).1
      have e68 : zI M1 68 = zI M 68 := (hf 68 (mA_s 68 (by decide) (by decide))).1
      have hDl : D.length ≤ 36 := by have h8 := congrArg List.length hD; simp only [List.length_append] at h8; omega
      have MIDL : ∀ u : Int64, u.toInt = gu col m → zW X (zqv (fun M' => mH M' ((gels col row).foldl gapp []) ∧ zI M' 62 14 = 0 ∧ mK [13, 14] M M' ∧ zfr mA M M')) (0, 0) 57 [(0, .ref 62), (1, .int (nI p)), (2, .int (nI j)), (3, .int col), (4, .int (nI row.length)), (5, .int (nI i)), (6, .int (nI (144 * p + 12 * j + i))), (7, .long u)] [] M1 := by
        intro u hu
        refine za_lload hc dM_freed_57 rfl ?_
        refine za_lconst hc 0 dM_freed_59 rfl ?_
        refine za_lcmp_ne 99 hc dM_freed_60 dM_freed_61 rfl (fun h_60 => ?_) (fun h_60 => ?_)
        · skip
          have hne : ¬ gu col m = 0 := by rw [← hu]; exact fun z => h_60 (Int64.toInt_inj.mp z)
          refine za_iconst hc 0 dM_freed_99 rfl ?_
          refine za_istore hc dM_freed_100 (by decide) ?_
          by_cases hpos : 0 < gu col m
          · exact inner hpos row 0 D u M1 rfl (by omega) hu (by unfold gel; rw [if_neg hne, if_pos hpos]) hm hnv1 hk hf
          · have hgel : gel col row m = [] := by unfold gel; rw [if_neg hne, if_neg hpos]
            refine za_iload hc dM_freed_102 rfl ?_
            refine za_iload hc dM_freed_104 rfl ?_
            refine za_icmp_ge 263 hc dM_freed_106 rfl (fun h_106 => ?_) (fun h_106 => ?_)
            · skip
              exact TAIL 0 u M1 (by rw [hgel, List.append_nil]; exact hm) hnv1 hk hf
            · skip
              refine za_lload hc dM_freed_109 rfl ?_
              refine za_lconst hc 0 dM_freed_111 rfl ?_
              refine za_lcmp_le 263 hc dM_freed_112 dM_freed_113 rfl (fun h_112 => ?_) (fun h_112 => ?_)
              · skip
                exact TAIL 0 u M1 (by rw [hgel, List.append_nil]; exact hm) hnv1 hk hf
              · skip
                exact absurd (Int64.le_iff_toInt_le.mpr (by show u.toInt ≤ 0; omega)) h_112
        · skip
          have h0 : gu col m = 0 := by rw [← hu, h_60]; rfl
          have hgel : gel col row m = [m] := by unfold gel; rw [if_pos h0]
          have hzm := hz m (List.mem_of_getElem? hrm)
          have hz2 : ¬ ((zI M 65 (144 * p + 12 * j + i)).toInt64.toInt = 0 ∧ (zI M 66 (144 * p + 12 * j + i)).toInt64.toInt = 0) := by rw [i2l_int, i2l_int, ← v1m, ← v2m]; exact hzm
          have e9 : ((zI M 65 (144 * p + 12 * j + i)).toInt64.toInt, (zI M 66 (144 * p + 12 * j + i)).toInt64.toInt, (zI M 67 (144 * p + 12 * j + i)).toInt64.toInt, zI M 68 (144 * p + 12 * j + i) == 1) = m := by rw [i2l_int, i2l_int, i2l_int]; exact emm
          refine za_aload_n hc dM_freed_64 rfl ?_
          refine za_aload_n hc dM_freed_65 rfl ?_
          refine za_getA hc gfM_16 zob_62 (p := 65) rfl dM_freed_66 ?_
          refine za_iload hc dM_freed_69 rfl ?_
          refine zm_iald hc (by assumption) dM_freed_71 (by omega) (by decide) ?_
          rw [e65]
          refine za_i2l hc dM_freed_72 ?_
          refine za_aload_n hc dM_freed_73 rfl ?_
          refine za_getA hc gfM_19 zob_62 (p := 66) rfl dM_freed_74 ?_
          refine za_iload hc dM_freed_77 rfl ?_
          refine zm_iald hc (by assumption) dM_freed_79 (by omega) (by decide) ?_
          rw [e66]
          refine za_i2l hc dM_freed_80 ?_
          refine za_aload_n hc dM_freed_81 rfl ?_
          refine za_getA hc gfM_22 zob_62 (p := 67) rfl dM_freed_82 ?_
          refine za_iload hc dM_freed_85 rfl ?_
          refine zm_iald hc (by assumption) dM_freed_87 (by omega) (by decide) ?_
          rw [e67]
          refine za_i2l hc dM_freed_88 ?_
          refine za_aload_n hc dM_freed_89 rfl ?_
          refine za_getA hc gfM_25 zob_62 (p := 68) rfl dM_freed_90 ?_
          refine za_iload hc dM_freed_93 rfl ?_
          refine zm_zald hc (by assumption) dM_freed_95 (by omega) (by decide) ?_
          rw [e68]
          refine za_cV4v hc gsM_153 zob_62 (cM_add_ l M1 _ _ _ _ hm (by have := gapp_len D []; simp only [List.length_nil] at this; omega) (hsb0 _) hnv1 (fun z => absurd z hz2)) ⟨rfl, rfl⟩ ⟨Nat.le_of_ble_eq_true rfl, Nat.le_of_ble_eq_true rfl⟩ ⟨Nat.zero_le _, Nat.zero_le _⟩ dM_freed_96 (fun M_96 h_96 => ?_)
          obtain ⟨x1, x2, x3, x4⟩ := h_96
          rw [if_neg hz2, e9] at x1
          have x1b : mH M_96 ((D ++ gel col row m).foldl gapp []) := by rw [hgel, gapp_snoc]; unfold gapp; rw [if_neg hzm]; exact x1
          refine za_iconst hc 0 dM_freed_99 rfl ?_
          refine za_istore hc dM_freed_100 (by decide) ?_
          refine za_iload hc dM_freed_102 rfl ?_
          refine za_iload hc dM_freed_104 rfl ?_
          refine za_icmp_ge 263 hc dM_freed_106 rfl (fun h_106 => ?_) (fun h_106 => ?_)
          · skip
            exact TAIL 0 u M_96 x1b x2 (hk.tr x3) (hf.tr x4)
          · skip
            refine za_lload hc dM_freed_109 rfl ?_
            refine za_lconst hc 0 dM_freed_111 rfl ?_
            refine za_lcmp_le 263 hc dM_freed_112 dM_freed_113 rfl (fun h_112 => ?_) (fun h_112 => ?_)
            · skip
              exact TAIL 0 u M_96 x1b x2 (hk.tr x3) (hf.tr x4)
            · skip
              exact absurd (Int64.le_iff_toInt_le.mpr (by show u.toInt ≤ 0; omega)) h_112
      refine za_iload hc dM_freed_16 rfl ?_
      refine za_iload hc dM_freed_18 rfl ?_
      refine za_icmp_ge 269 hc dM_freed_20 rfl (fun h_20 => ?_) (fun h_20 => ?_)
      · skip
        exact absurd ((nI_leI (by omega) (by omega)).mp h_20) (by omega)
      · skip
        refine za_iload_n hc dM_freed_23 rfl ?_
        refine za_iload_n hc dM_freed_24 rfl ?_
        refine za_iload hc dM_freed_25 rfl ?_
        refine za_cS3i hc gsM_149 (cM_place_ l M1 (p := p) (j := j) (i := i)) ⟨rfl, rfl⟩ ⟨Nat.le_of_ble_eq_true rfl, Nat.le_of_ble_eq_true rfl⟩ ⟨Nat.zero_le _, Nat.zero_le _⟩ dM_freed_27 (fun x_27 M_27 h_27 => ?_)
        obtain ⟨q_27, hm_27⟩ := h_27
        rw [hm_27, q_27]
        refine za_istore hc dM_freed_30 (by decide) ?_
        refine za_iload_n hc dM_freed_32 rfl ?_
        refine za_if_ne 47 hc dM_freed_33 rfl (fun h_33 => ?_) (fun h_33 => ?_)
        · skip
          have hgc : gu col m = m.2.1 := by unfold gu; rw [if_neg h_33]
          refine za_aload_n hc dM_freed_47 rfl ?_
          refine za_getA hc gfM_19 zob_62 (p := 66) rfl dM_freed_48 ?_
          refine za_iload hc dM_freed_51 rfl ?_
          refine zm_iald hc (by assumption) dM_freed_53 (by omega) (by decide) ?_
          rw [e66]
          refine za_i2l hc dM_freed_54 ?_
          refine za_lstore hc dM_freed_55 (by decide) ?_
          first
          | exact MIDL _ (by rw [i2l_int, hgc, v1m])
          | exact MIDL _ (by rw [i2l_int, hgc, v2m])
        · skip
          have hgc : gu col m = m.1 := by unfold gu; rw [if_pos h_33]
          refine za_aload_n hc dM_freed_36 rfl ?_
          refine za_getA hc gfM_16 zob_62 (p := 65) rfl dM_freed_37 ?_
          refine za_iload hc dM_freed_40 rfl ?_
          refine zm_iald hc (by assumption) dM_freed_42 (by omega) (by decide) ?_
          rw [e65]
          refine za_i2l hc dM_freed_43 ?_
          refine za_goto 55 hc dM_freed_44 rfl ?_
          refine za_lstore hc dM_freed_55 (by decide) ?_
          first
          | exact MIDL _ (by rw [i2l_int, hgc, v1m])
          | exact MIDL _ (by rw [i2l_int, hgc, v2m])
  refine za_aload_n hc dM_freed_0 rfl ?_
  refine za_getA hc gfM_13 zob_62 (p := 64) rfl dM_freed_1 ?_
  refine za_bipush hc 12 dM_freed_4 rfl ?_
  refine za_iload_n hc dM_freed_6 rfl ?_
  refine za_imul hc dM_freed_7 ?_
  refine za_iload_n hc dM_freed_8 rfl ?_
  refine za_iadd hc dM_freed_9 ?_
  rw [zic]
  refine zm_iald hc (by assumption) dM_freed_10 (by omega) (by decide) ?_
  rw [a2]
  refine za_istore hc dM_freed_11 (by decide) ?_
  refine za_iconst hc 0 dM_freed_13 rfl ?_
  refine za_istore hc dM_freed_14 (by decide) ?_
  exact outer row 0 [] M rfl (by omega) (by rw [List.nil_append]; rfl) hH hnv mK.rf zfr.rf
