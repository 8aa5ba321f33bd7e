/-! The model: put. -/
def sAd (r : Nat) (a : Option (List (List gC))) (M' : zM) : Prop := match a with
  | some R' => zI M' 62 24 = 0 ∧ sH M' r R'
  | none => zI M' 62 24 = 1 ∧ ∃ R', sH M' r R'
def pI : List Nat := 24 :: nI_
theorem gadd_1 {R : List (List gC)} {l : List gC} (h : ¬ gSat l) : gadd R l = some R := by
  unfold gadd
  rw [if_pos (by cases e : gsb l; rfl; exact absurd (gsb_iff.mp e) h)]
theorem gadd_2 {R : List (List gC)} {l : List gC} (h : gSat l) (h2 : ¬ ((∀ q ∈ gthin [] l, gLim q) ∧ (gthin [] l).length ≤ 12)) : gadd R l = none := by
  unfold gadd
  rw [if_neg (by rw [gsb_iff.mpr h]; decide), if_pos (by cases e : glim (gthin [] l); rfl; exact absurd (glim_iff.mp e) h2)]
theorem gadd_3 {R : List (List gC)} {l : List gC} (h : gSat l) (h2 : (∀ q ∈ gthin [] l, gLim q) ∧ (gthin [] l).length ≤ 12) : gadd R l = if gthin [] l ∈ R then some R else if 12 ≤ R.length then none else some (R ++ [gthin [] l]) := by
  unfold gadd
  rw [if_neg (by rw [gsb_iff.mpr h]; decide), if_neg (by rw [glim_iff.mpr h2]; decide)]
theorem far_1 {v : Int64} : ¬ (if v.toInt < -10000 ∨ 10000 < v.toInt then (1 : Int32) else 0) = 0 ↔ v.toInt < -10000 ∨ 10000 < v.toInt := by split <;> simp_all
theorem far_0 {v : Int64} : (if v.toInt < -10000 ∨ 10000 < v.toInt then (1 : Int32) else 0) = 0 ↔ ¬ (v.toInt < -10000 ∨ 10000 < v.toInt) := by split <;> simp_all

set_option maxRecDepth 100000 in
set_option maxHeartbeats 4000000 in
theorem cM_put_ (l : Launch) {r : Nat} {R : List (List gC)} {ms : List gC} (M : zM) (hr : r < 14) (hS : sH M r R) (hH : mH M ms) (hok : mOK ms) (hp0 : zI M 62 24 = 0) (hnv : zI M 62 14 = 0) (hb0 : zbo M 76) (hsb0 : sbo M) (hs0 : m3640 M) : zMet l mM_put rM_put [.ref 62, .int (nI r)] M (zqv (fun M' => sAd r (gadd R (ms.foldl gput [])) M' ∧ (zbo M' 76 ∧ zbo M' 72) ∧ sbo M' ∧ m3640 M' ∧ mK pI M M' ∧ sK [r] M M' ∧ zfr mP M M')) := by
  refine za_enter (by decide) (Nat.le_of_ble_eq_true rfl) (fun X hc => ?_)
  have a63 := ar_63
  have a64 := ar_64
  have a65 := ar_65
  have a66 := ar_66
  have a67 := ar_67
  have a68 := ar_68
  have a73 := ar_73
  have a74 := ar_74
  have a75 := ar_75
  have a76 := ar_76
  generalize hTT : (gthin [] (ms.foldl gput [])) = TT
  have APP : gadd R (ms.foldl gput []) = some (R ++ [TT]) → (∀ q ∈ TT, gLim q) → TT.length ≤ 12 → R.length < 12 → ∀ (n k : Nat) (M1 : zM), n + k = TT.length → zI M1 62 24 = 0 → zI M1 63 r = nI R.length → zI M1 64 (12 * r + R.length) = nI TT.length → (∀ t q, t < k → TT[t]? = some q → sg M1 (144 * r + 12 * R.length + t) = q) → (∀ j, j < R.length → zI M1 64 (12 * r + j) = zI M 64 (12 * r + j)) → (∀ t, t < 12 * R.length → sg M1 (144 * r + t) = sg M (144 * r + t)) → mH M1 TT → zbo M1 76 → sbo M1 → m3640 M1 → mK pI M M1 → sK [r] M M1 → zfr mP M M1 → zW X (zqv (fun M' => sAd r (gadd R (ms.foldl gput [])) M' ∧ (zbo M' 76 ∧ zbo M' 72) ∧ sbo M' ∧ m3640 M' ∧ mK pI M M' ∧ sK [r] M M' ∧ zfr mP M M')) (0, 0) 163 [(0, .ref 62), (1, .int (nI r)), (2, .int (nI R.length)), (3, .int (nI k))] [] M1 := by
    intro hga hlim hlen hRl n
    induction n with
    | zero =>
      intro k M1 hn hp h63 h64 hcp ho1 ho2 hm hb76 hsb hs hk hsk hf
      refine za_iload_n hc dM_put_163 rfl ?_
      refine za_aload_n hc dM_put_164 rfl ?_
      refine za_getI hc gfM_70 zob_62 dM_put_165 ?_
      rw [hm.1]
      refine za_icmp_ge 240 hc dM_put_168 rfl (fun h_168 => ?_) (fun h_168 => ?_)
      · skip
        refine za_aload_n hc dM_put_240 rfl ?_
        refine za_getA hc gfM_7 zob_62 (p := 63) rfl dM_put_241 ?_
        refine za_iload_n hc dM_put_244 rfl ?_
        refine za_dup2 hc dM_put_245 rfl rfl ?_
        refine zm_iald hc (by assumption) dM_put_246 (by omega) (by decide) ?_
        rw [h63]
        refine za_iconst hc 1 dM_put_247 rfl ?_
        refine za_iadd hc dM_put_248 ?_
        rw [show nI R.length + 1 = nI (R.length + 1) from (nI_succ _).symm]
        refine zm_iast hc (by assumption) dM_put_249 (by omega) (by decide) ?_
        have fr : zfr (fun k => k = 63) M1 (zsI M1 63 r (nI (R.length + 1))) := zfr_sI rfl
        refine za_vret hc rfl dM_put_250 ⟨Nat.zero_le _, Nat.zero_le _⟩ ⟨rfl, ?_, ⟨zfr_bo (d := 76) fr (by decide) hb76, zfr_bo (d := 72) fr (by decide) hm.2.2.2⟩, sbo_fr hsb fr (by decide), m3640_k (I := []) hs (mK_fr fr (by decide)) (by decide) (by decide), hk.tr (mK_fr fr (by decide)), hsk.tr (fun r2 hr2 => ⟨by rw [zI_s, if_neg (fun z => hr2 (by rw [z]; simp))], fun j _ => rfl, fun k _ => rfl⟩), hf.tr (fr.wk (fun k z => Or.inl (by omega)))⟩
        rw [hga]
        refine ⟨hp, by rw [zI_s, if_pos rfl, List.length_append]; rfl, by rw [List.length_append]; simp only [List.length_cons, List.length_nil]; omega, fun j row hj => ?_⟩
        by_cases c : j < R.length
        · rw [List.getElem?_append_left c] at hj
          obtain ⟨a1, a2, a3, a4⟩ := hS.2.2 j row hj
          refine ⟨a1, (ho1 j c).trans a2, fun i q hq => ?_, a4⟩
          have hi := (List.getElem?_eq_some_iff.mp hq).1
          have e := ho2 (12 * j + i) (by omega)
          rw [← Nat.add_assoc] at e
          exact e.trans (a3 i q hq)
        · have hj2 : j = R.length := by have := (List.getElem?_eq_some_iff.mp hj).1; rw [List.length_append] at this; simp only [List.length_cons, List.length_nil] at this; omega
          rw [hj2, List.getElem?_append_right (Nat.le_refl _), Nat.sub_self] at hj
          cases hj
          rw [hj2]
          exact ⟨hlen, h64, fun i q hq => hcp i q (by have := (List.getElem?_eq_some_iff.mp hq).1; omega) hq, hlim⟩
      · skip
        exact absurd ((nI_leI (by omega) (by omega)).mpr (show TT.length ≤ k by omega)) h_168
    | succ n ih =>
      intro k M1 hn hp h63 h64 hcp ho1 ho2 hm hb76 hsb hs hk hsk hf
      have hri := List.getElem?_eq_getElem (l := TT) (show k < TT.length by omega)
      generalize hme : TT[k] = m at hri
      have dk := hm.2.2.1 k m hri
      have lm := hlim m (List.mem_of_getElem? hri)
      rw [← dk] at lm
      refine za_iload_n hc dM_put_163 rfl ?_
      refine za_aload_n hc dM_put_164 rfl ?_
      refine za_getI hc gfM_70 zob_62 dM_put_165 ?_
      rw [hm.1]
      refine za_icmp_ge 240 hc dM_put_168 rfl (fun h_168 => ?_) (fun h_168 => ?_)
      · skip
        exact absurd ((nI_leI (by omega) (by omega)).mp h_168) (by omega)
      · skip
        refine za_iload_n hc dM_put_171 rfl ?_
        refine za_iload_n hc dM_put_172 rfl ?_
        refine za_iload_n hc dM_put_173 rfl ?_
        refine za_cS3i hc gsM_149 (cM_place_ l M1 (p := r) (j := R.length) (i := k)) ⟨rfl, rfl⟩ ⟨Nat.le_of_ble_eq_true rfl, Nat.le_of_ble_eq_true rfl⟩ ⟨Nat.zero_le _, Nat.zero_le _⟩ dM_put_174 (fun x_174 M_174 h_174 => ?_)
        obtain ⟨q_174, hm_174⟩ := h_174
        rw [hm_174, q_174]
        refine za_istore hc dM_put_177 (by decide) ?_
        refine za_aload_n hc dM_put_179 rfl ?_
        refine za_getA hc gfM_16 zob_62 (p := 65) rfl dM_put_180 ?_
        refine za_iload hc dM_put_183 rfl ?_
        refine za_aload_n hc dM_put_185 rfl ?_
        refine za_getA hc gfM_41 zob_62 (p := 73) rfl dM_put_186 ?_
        refine za_iload_n hc dM_put_189 rfl ?_
        refine zm_lald hc (by assumption) dM_put_190 (by omega) (by decide) ?_
        refine za_l2i hc dM_put_191 ?_
        refine zm_iast hc (by assumption) dM_put_192 (by omega) (by decide) ?_
        refine za_aload_n hc dM_put_193 rfl ?_
        refine za_getA hc gfM_19 zob_62 (p := 66) rfl dM_put_194 ?_
        refine za_iload hc dM_put_197 rfl ?_
        refine za_aload_n hc dM_put_199 rfl ?_
        refine za_getA hc gfM_45 zob_62 (p := 74) rfl dM_put_200 ?_
        refine za_iload_n hc dM_put_203 rfl ?_
        refine zm_lald hc (by assumption) dM_put_204 (by omega) (by decide) ?_
        rw [zJ_sI]
        refine za_l2i hc dM_put_205 ?_
        refine zm_iast hc (by assumption) dM_put_206 (by omega) (by decide) ?_
        refine za_aload_n hc dM_put_207 rfl ?_
        refine za_getA hc gfM_22 zob_62 (p := 67) rfl dM_put_208 ?_
        refine za_iload hc dM_put_211 rfl ?_
        refine za_aload_n hc dM_put_213 rfl ?_
        refine za_getA hc gfM_48 zob_62 (p := 75) rfl dM_put_214 ?_
        refine za_iload_n hc dM_put_217 rfl ?_
        refine zm_lald hc (by assumption) dM_put_218 (by omega) (by decide) ?_
        rw [zJ_sI, zJ_sI]
        refine za_l2i hc dM_put_219 ?_
        refine zm_iast hc (by assumption) dM_put_220 (by omega) (by decide) ?_
        refine za_aload_n hc dM_put_221 rfl ?_
        refine za_getA hc gfM_25 zob_62 (p := 68) rfl dM_put_222 ?_
        refine za_iload hc dM_put_225 rfl ?_
        refine za_aload_n hc dM_put_227 rfl ?_
        refine za_getA hc gfM_51 zob_62 (p := 76) rfl dM_put_228 ?_
        refine za_iload_n hc dM_put_231 rfl ?_
        refine zm_zald hc (by assumption) dM_put_232 (by omega) (by decide) ?_
        rw [zI_o (by decide), zI_o (by decide), zI_o (by decide)]
        refine zm_zast hc (by assumption) dM_put_233 (by omega) (by decide) (hm.2.2.2 k) ?_
        refine za_iinc hc _ dM_put_234 rfl ((nI_succ k).symm) (by decide) ?_
        refine za_goto 163 hc dM_put_237 rfl ?_
        refine za_take 4 ?_
        have fr : zfr (fun k => 65 ≤ k ∧ k ≤ 68) M1 (sput M1 (144 * r + 12 * R.length + k) (zJ M1 73 k).toInt32 (zJ M1 74 k).toInt32 (zJ M1 75 k).toInt32 (zI M1 76 k)) := sput_fr
        have esg : ∀ t, sg (sput M1 (144 * r + 12 * R.length + k) (zJ M1 73 k).toInt32 (zJ M1 74 k).toInt32 (zJ M1 75 k).toInt32 (zI M1 76 k)) t = if t = (144 * r + 12 * R.length + k) then m else sg M1 t := fun t => by
          refine sput_sg.trans ?_
          rw [l2i_int lm.1, l2i_int lm.2.1, l2i_int lm.2.2, ← dk]; rfl
        refine ih (k + 1) (sput M1 (144 * r + 12 * R.length + k) (zJ M1 73 k).toInt32 (zJ M1 74 k).toInt32 (zJ M1 75 k).toInt32 (zI M1 76 k)) (by omega) ?_ ?_ ?_ (fun t q ht hq => ?_) (fun j hj => ?_) (fun t ht => ?_) ?_ ?_ (sput_bo hsb (hm.2.2.2 k)) ?_ ?_ ?_ ?_
        · exact (by rw [(fr 62 (by decide)).1] : zI _ 62 24 = zI M1 62 24).trans hp
        · exact (by rw [(fr 63 (by decide)).1] : zI _ 63 r = zI M1 63 r).trans h63
        · exact (by rw [(fr 64 (by decide)).1] : zI _ 64 _ = zI M1 64 _).trans h64
        · rw [esg]
          by_cases c : t = k
          · rw [c, hri] at hq; cases hq; rw [if_pos (by rw [c])]
          · rw [if_neg (by omega)]; exact hcp t q (by omega) hq
        · exact (by rw [(fr 64 (by decide)).1] : zI _ 64 _ = zI M1 64 _).trans (ho1 j hj)
        · rw [esg, if_neg (by omega)]; exact ho2 t ht
        · exact mH_kept hm fr (by rw [(fr 62 (by decide)).1]) (by decide) (by decide) (by decide) (by decide)
        · exact zfr_bo (d := 76) fr (by decide) hb76
        · exact m3640_k (I := []) hs (mK_fr fr (by decide)) (by decide) (by decide)
        · exact hk.tr (mK_fr fr (by decide))
        · refine hsk.tr (fun r2 hr2 => ⟨by rw [(fr 63 (by decide)).1], fun j _ => by rw [(fr 64 (by decide)).1], fun k2 hk2 => ?_⟩)
          have : r2 ≠ r := fun z => hr2 (by rw [z]; simp)
          rw [esg, if_neg (by omega)]
        · exact hf.tr (fr.wk (fun k z => Or.inl (by omega)))
  have SCAN : gadd R (ms.foldl gput []) = (if TT ∈ R then some R else if 12 ≤ R.length then none else some (R ++ [TT])) → (∀ q ∈ TT, gLim q) → TT.length ≤ 12 → ∀ (n k : Nat) (M1 : zM), n + k = R.length → (∀ j, j < k → R[j]? ≠ some TT) → zI M1 62 24 = 0 → mH M1 TT → zbo M1 76 → sbo M1 → m3640 M1 → mK pI M M1 → sK [] M M1 → zfr mP M M1 → zW X (zqv (fun M' => sAd r (gadd R (ms.foldl gput [])) M' ∧ (zbo M' 76 ∧ zbo M' 72) ∧ sbo M' ∧ m3640 M' ∧ mK pI M M' ∧ sK [r] M M' ∧ zfr mP M M')) (0, 0) 96 [(0, .ref 62), (1, .int (nI r)), (2, .int (nI k))] [] M1 := by
    intro hga hlim hlen n
    induction n with
    | zero =>
      intro k M1 hn hno hp hm hb76 hsb hs hk hsk hf
      have hS1 : sH M1 r R := sH_k hS hsk (by simp)
      have hRl := hS1.2.1
      have hnm : ¬ TT ∈ R := fun z => by obtain ⟨j, hj⟩ := List.getElem?_of_mem z; exact hno j (by have := (List.getElem?_eq_some_iff.mp hj).1; omega) hj
      rw [if_neg hnm] at hga
      refine za_iload_n hc dM_put_96 rfl ?_
      refine za_aload_n hc dM_put_97 rfl ?_
      refine za_getA hc gfM_7 zob_62 (p := 63) rfl dM_put_98 ?_
      refine za_iload_n hc dM_put_101 rfl ?_
      refine zm_iald hc (by assumption) dM_put_102 (by omega) (by decide) ?_
      rw [hS1.1]
      refine za_icmp_ge 122 hc dM_put_103 rfl (fun h_103 => ?_) (fun h_103 => ?_)
      · skip
        refine za_aload_n hc dM_put_122 rfl ?_
        refine za_getA hc gfM_7 zob_62 (p := 63) rfl dM_put_123 ?_
        refine za_iload_n hc dM_put_126 rfl ?_
        refine zm_iald hc (by assumption) dM_put_127 (by omega) (by decide) ?_
        refine za_bipush hc 12 dM_put_128 rfl ?_
        rw [hS1.1, show (12 : Int32) = nI 12 from rfl]
        refine za_icmp_ne 139 hc dM_put_130 rfl (fun h_130 => ?_) (fun h_130 => ?_)
        · skip
          have hlt : R.length < 12 := by have : R.length ≠ 12 := fun z => h_130 (by rw [z]); omega
          refine za_aload_n hc dM_put_139 rfl ?_
          refine za_getA hc gfM_7 zob_62 (p := 63) rfl dM_put_140 ?_
          refine za_iload_n hc dM_put_143 rfl ?_
          refine zm_iald hc (by assumption) dM_put_144 (by omega) (by decide) ?_
          rw [hS1.1]
          refine za_istore_n hc dM_put_145 (by decide) ?_
          refine za_aload_n hc dM_put_146 rfl ?_
          refine za_getA hc gfM_13 zob_62 (p := 64) rfl dM_put_147 ?_
          refine za_bipush hc 12 dM_put_150 rfl ?_
          refine za_iload_n hc dM_put_152 rfl ?_
          refine za_imul hc dM_put_153 ?_
          refine za_iload_n hc dM_put_154 rfl ?_
          refine za_iadd hc dM_put_155 ?_
          rw [zic]
          refine za_aload_n hc dM_put_156 rfl ?_
          refine za_getI hc gfM_70 zob_62 dM_put_157 ?_
          rw [hm.1]
          refine zm_iast hc (by assumption) dM_put_160 (by omega) (by decide) ?_
          refine za_iconst hc 0 dM_put_161 rfl ?_
          refine za_istore_n hc dM_put_162 (by decide) ?_
          have fr : zfr (fun k => k = 64) M1 (zsI M1 64 (12 * r + R.length) (nI TT.length)) := zfr_sI rfl
          rw [if_neg (by omega)] at hga
          refine APP hga hlim hlen hlt TT.length 0 (zsI M1 64 (12 * r + R.length) (nI TT.length)) (by omega) hp hS1.1 (by rw [zI_s, if_pos rfl]) (fun t q h => absurd h (by omega)) (fun j hj => ?_) (fun t ht => ?_) (mH_kept hm fr rfl (by decide) (by decide) (by decide) (by decide)) (zfr_bo (d := 76) fr (by decide) hb76) (sbo_fr hsb fr (by decide)) (m3640_k (I := []) hs (mK_fr fr (by decide)) (by decide) (by decide)) (hk.tr (mK_fr fr (by decide))) ?_ (hf.tr (fr.wk (fun k z => Or.inl (by omega))))
          · rw [zI_s, if_neg (by omega)]; exact (hsk r (by simp)).2.1 j (by omega)
          · exact (hsk r (by simp)).2.2 t (by omega)
          · refine (hsk.wk (by simp)).tr (fun r2 hr2 => ⟨rfl, fun j hj => ?_, fun k _ => rfl⟩)
            have : r2 ≠ r := fun z => hr2 (by rw [z]; simp)
            rw [zI_s, if_neg (by omega)]
        · skip
          have h12 : 12 ≤ R.length := (nI_leI (by decide) (by omega)).mp (by rw [h_130]; exact Int32.le_refl _)
          rw [if_pos h12] at hga
          refine za_aload_n hc dM_put_133 rfl ?_
          refine za_iconst hc 1 dM_put_134 rfl ?_
          refine za_putZ hc gpM_181 zob_62 (nz01 (by first | exact Or.inl rfl | exact Or.inr rfl)) dM_put_135 ?_
          have fr : zfr m62 M1 (zsI M1 62 24 1) := zfr_sI rfl
          exact za_vret hc rfl dM_put_138 ⟨Nat.zero_le _, Nat.zero_le _⟩ ⟨rfl, by rw [hga]; exact ⟨by rw [zI_s, if_pos rfl], R, sH_k hS (hsk.tr (sK_fr fr (fun k h1 h2 z => by unfold m62 at z; omega))) (by simp)⟩, ⟨zfr_bo (d := 76) fr (by unfold m62; decide) hb76, zfr_bo (d := 72) fr (by unfold m62; decide) hm.2.2.2⟩, sbo_fr hsb fr (by unfold m62; decide), m3640_k (I := [24]) hs (mK_sI (by decide)) (by decide) (by decide), hk.tr (mK_sI (by decide)), (hsk.tr (sK_fr fr (fun k h1 h2 z => by unfold m62 at z; omega))).wk (by simp), hf.tr (fr.wk (fun k z => mN_P (m62_N z)))⟩
      · skip
        exact absurd ((nI_leI (by omega) (by omega)).mpr (show R.length ≤ k by omega)) h_103
    | succ n ih =>
      intro k M1 hn hno hp hm hb76 hsb hs hk hsk hf
      have hS1 : sH M1 r R := sH_k hS hsk (by simp)
      have hRl := hS1.2.1
      have hri := List.getElem?_eq_getElem (l := R) (show k < R.length by omega)
      generalize hme : R[k] = row at hri
      refine za_iload_n hc dM_put_96 rfl ?_
      refine za_aload_n hc dM_put_97 rfl ?_
      refine za_getA hc gfM_7 zob_62 (p := 63) rfl dM_put_98 ?_
      refine za_iload_n hc dM_put_101 rfl ?_
      refine zm_iald hc (by assumption) dM_put_102 (by omega) (by decide) ?_
      rw [hS1.1]
      refine za_icmp_ge 122 hc dM_put_103 rfl (fun h_103 => ?_) (fun h_103 => ?_)
      · skip
        exact absurd ((nI_leI (by omega) (by omega)).mp h_103) (by omega)
      · skip
        refine za_aload_n hc dM_put_106 rfl ?_
        refine za_iload_n hc dM_put_107 rfl ?_
        refine za_iload_n hc dM_put_108 rfl ?_
        refine za_cV2i hc gsM_191 zob_62 (cM_isRow_ l M1 hr hS1 hri hm hsb) ⟨rfl, rfl⟩ ⟨Nat.le_of_ble_eq_true rfl, Nat.le_of_ble_eq_true rfl⟩ ⟨Nat.zero_le _, Nat.zero_le _⟩ dM_put_109 (fun x_109 M_109 h_109 => ?_)
        obtain ⟨w0, w1, hm_109⟩ := h_109
        rw [hm_109]
        refine za_if_eq 116 hc dM_put_112 rfl (fun h_112 => ?_) (fun h_112 => ?_)
        · skip
          have hnr : ¬ row = TT := fun z => absurd (w1.mpr z) (by rw [h_112]; decide)
          refine za_iinc hc _ dM_put_116 rfl ((nI_succ k).symm) (by decide) ?_
          refine za_goto 96 hc dM_put_119 rfl ?_
          exact ih (k + 1) M1 (by omega) (fun j hj => by by_cases c : j = k; rw [c, hri]; exact fun z => hnr (Option.some.inj z); exact hno j (by omega)) hp hm hb76 hsb hs hk hsk hf
        · skip
          have hyr : row = TT := w1.mp (w0.resolve_left h_112)
          rw [if_pos (by rw [← hyr]; exact List.mem_of_getElem? hri)] at hga
          exact za_vret hc rfl dM_put_115 ⟨Nat.zero_le _, Nat.zero_le _⟩ (⟨rfl, by rw [hga]; exact ⟨hp, hS1⟩, ⟨hb76, hm.2.2.2⟩, hsb, hs, hk, hsk.wk (by simp), hf⟩)
  have MID : gSat (ms.foldl gput []) → ∀ (k : Nat) (M1 : zM), (zI M1 62 24 = 0 ∨ zI M1 62 24 = 1) → (zI M1 62 24 = 1 ↔ ∃ q ∈ TT, ¬ gLim q) → mH M1 TT → zbo M1 76 → sbo M1 → m3640 M1 → mK pI M M1 → sK [] M M1 → zfr mP M M1 → zW X (zqv (fun M' => sAd r (gadd R (ms.foldl gput [])) M' ∧ (zbo M' 76 ∧ zbo M' 72) ∧ sbo M' ∧ m3640 M' ∧ mK pI M M' ∧ sK [r] M M' ∧ zfr mP M M')) (0, 0) 72 [(0, .ref 62), (1, .int (nI r)), (2, .int (nI k))] [] M1 := by
    intro hsat k M1 hp01 hpq hm hb76 hsb hs hk hsk hf
    have hml := hm.2.1
    refine za_aload_n hc dM_put_72 rfl ?_
    refine za_getI hc gfM_70 zob_62 dM_put_73 ?_
    refine za_bipush hc 12 dM_put_76 rfl ?_
    rw [hm.1, show (12 : Int32) = nI 12 from rfl]
    refine za_icmp_le 86 hc dM_put_78 rfl (fun h_78 => ?_) (fun h_78 => ?_)
    · skip
      have h12 : TT.length ≤ 12 := (nI_leI (by omega) (by decide)).mp h_78
      refine za_aload_n hc dM_put_86 rfl ?_
      refine za_getI hc gfM_181 zob_62 dM_put_87 ?_
      refine za_if_eq 94 hc dM_put_90 rfl (fun h_90 => ?_) (fun h_90 => ?_)
      · skip
        have hall : ∀ q ∈ TT, gLim q := fun q hq => Classical.byContradiction (fun z => absurd (hpq.mpr ⟨q, hq, z⟩) (by rw [h_90]; decide))
        have hga := gadd_3 (R := R) hsat (by rw [hTT]; exact ⟨hall, h12⟩)
        rw [hTT] at hga
        refine za_iconst hc 0 dM_put_94 rfl ?_
        refine za_istore_n hc dM_put_95 (by decide) ?_
        exact SCAN hga hall h12 R.length 0 M1 (by omega) (fun j h => absurd h (by omega)) h_90 hm hb76 hsb hs hk hsk hf
      · skip
        have hga : gadd R (ms.foldl gput []) = none := gadd_2 hsat (by rw [hTT]; exact fun z => by obtain ⟨q, hq, h⟩ := hpq.mp (hp01.resolve_left h_90); exact h (z.1 q hq))
        exact za_vret hc rfl dM_put_93 ⟨Nat.zero_le _, Nat.zero_le _⟩ (⟨rfl, by rw [hga]; exact ⟨hp01.resolve_left h_90, R, sH_k hS hsk (by simp)⟩, ⟨hb76, hm.2.2.2⟩, hsb, hs, hk, hsk.wk (by simp), hf⟩)
    · skip
      have h12 : ¬ TT.length ≤ 12 := fun z => h_78 ((nI_leI (by omega) (by decide)).mpr z)
      refine za_aload_n hc dM_put_81 rfl ?_
      refine za_iconst hc 1 dM_put_82 rfl ?_
      refine za_putZ hc gpM_181 zob_62 (nz01 (by first | exact Or.inl rfl | exact Or.inr rfl)) dM_put_83 ?_
      refine za_aload_n hc dM_put_86 rfl ?_
      refine za_getI hc gfM_181 zob_62 dM_put_87 ?_
      rw [zI_s, if_pos rfl]
      refine za_if_eq 94 hc dM_put_90 rfl (fun h_90 => ?_) (fun h_90 => ?_)
      · skip
        exact absurd h_90 (by decide)
      · skip
        have fr : zfr m62 M1 (zsI M1 62 24 1) := zfr_sI rfl
        have hga : gadd R (ms.foldl gput []) = none := gadd_2 hsat (by rw [hTT]; exact fun z => h12 z.2)
        exact za_vret hc rfl dM_put_93 ⟨Nat.zero_le _, Nat.zero_le _⟩ ⟨rfl, by rw [hga]; exact ⟨by rw [zI_s, if_pos rfl], R, sH_k hS (hsk.tr (sK_fr fr (fun k h1 h2 z => by unfold m62 at z; omega))) (by simp)⟩, ⟨zfr_bo (d := 76) fr (by unfold m62; decide) hb76, zfr_bo (d := 72) fr (by unfold m62; decide) hm.2.2.2⟩, sbo_fr hsb fr (by unfold m62; decide), m3640_k (I := [24]) hs (mK_sI (by decide)) (by decide) (by decide), hk.tr (mK_sI (by decide)), (hsk.tr (sK_fr fr (fun k h1 h2 z => by unfold m62 at z; omega))).wk (by simp), hf.tr (fr.wk (fun k z => mN_P (m62_N z)))⟩
  have FAR : gSat (ms.foldl gput []) → ∀ (n k : Nat) (M1 : zM), n + k = TT.length → (zI M1 62 24 = 0 ∨ zI M1 62 24 = 1) → (zI M1 62 24 = 1 ↔ ∃ t q, t < k ∧ TT[t]? = some q ∧ ¬ gLim q) → mH M1 TT → zbo M1 76 → sbo M1 → m3640 M1 → mK pI M M1 → sK [] M M1 → zfr mP M M1 → zW X (zqv (fun M' => sAd r (gadd R (ms.foldl gput [])) M' ∧ (zbo M' 76 ∧ zbo M' 72) ∧ sbo M' ∧ m3640 M' ∧ mK pI M M' ∧ sK [r] M M' ∧ zfr mP M M')) (0, 0) 17 [(0, .ref 62), (1, .int (nI r)), (2, .int (nI k))] [] M1 := by
    intro hsat n
    induction n with
    | zero =>
      intro k M1 hn hp01 hpq hm hb76 hsb hs hk hsk hf
      have hml := hm.2.1
      refine za_iload_n hc dM_put_17 rfl ?_
      refine za_aload_n hc dM_put_18 rfl ?_
      refine za_getI hc gfM_70 zob_62 dM_put_19 ?_
      rw [hm.1]
      refine za_icmp_ge 72 hc dM_put_22 rfl (fun h_22 => ?_) (fun h_22 => ?_)
      · skip
        exact MID hsat k M1 hp01 (hpq.trans ⟨fun ⟨t, q, _, h2, h3⟩ => ⟨q, List.mem_of_getElem? h2, h3⟩, fun ⟨q, hq, h3⟩ => by obtain ⟨t, ht⟩ := List.getElem?_of_mem hq; exact ⟨t, q, by have := (List.getElem?_eq_some_iff.mp ht).1; omega, ht, h3⟩⟩) hm hb76 hsb hs hk hsk hf
      · skip
        exact absurd ((nI_leI (by omega) (by omega)).mpr (show TT.length ≤ k by omega)) h_22
    | succ n ih =>
      intro k M1 hn hp01 hpq hm hb76 hsb hs hk hsk hf
      have hml := hm.2.1
      have hri := List.getElem?_eq_getElem (l := TT) (show k < TT.length by omega)
      generalize hme : TT[k] = m at hri
      have dk := hm.2.2.1 k m hri
      have ln : gLim m ↔ (zJ M1 73 k).toInt.natAbs ≤ 10000 ∧ (zJ M1 74 k).toInt.natAbs ≤ 10000 ∧ (zJ M1 75 k).toInt.natAbs ≤ 10000 := by rw [← dk]; exact Iff.rfl
      refine za_iload_n hc dM_put_17 rfl ?_
      refine za_aload_n hc dM_put_18 rfl ?_
      refine za_getI hc gfM_70 zob_62 dM_put_19 ?_
      rw [hm.1]
      refine za_icmp_ge 72 hc dM_put_22 rfl (fun h_22 => ?_) (fun h_22 => ?_)
      · skip
        exact absurd ((nI_leI (by omega) (by omega)).mp h_22) (by omega)
      · skip
        refine za_aload_n hc dM_put_25 rfl ?_
        refine za_getA hc gfM_41 zob_62 (p := 73) rfl dM_put_26 ?_
        refine za_iload_n hc dM_put_29 rfl ?_
        refine zm_lald hc (by assumption) dM_put_30 (by omega) (by decide) ?_
        refine za_cS1i hc gsM_187 (cM_isFar_ l M1 (zJ M1 73 k)) ⟨rfl, rfl⟩ ⟨Nat.le_of_ble_eq_true rfl, Nat.le_of_ble_eq_true rfl⟩ ⟨Nat.zero_le _, Nat.zero_le _⟩ dM_put_31 (fun x_31 M_31 h_31 => ?_)
        obtain ⟨q_31, hm_31⟩ := h_31
        rw [hm_31]
        subst q_31
        refine za_if_ne 61 hc dM_put_34 rfl (fun h_34 => ?_) (fun h_34 => ?_)
        · skip
          have hfar : ¬ gLim m := fun z => by have := far_1.mp h_34; have := ln.mp z; omega
          refine za_aload_n hc dM_put_61 rfl ?_
          refine za_iconst hc 1 dM_put_62 rfl ?_
          refine za_putZ hc gpM_181 zob_62 (nz01 (by first | exact Or.inl rfl | exact Or.inr rfl)) dM_put_63 ?_
          refine za_iinc hc _ dM_put_66 rfl ((nI_succ k).symm) (by decide) ?_
          refine za_goto 17 hc dM_put_69 rfl ?_
          have fr : zfr m62 M1 (zsI M1 62 24 1) := zfr_sI rfl
          exact ih (k + 1) (zsI M1 62 24 1) (by omega) (by rw [zI_s, if_pos rfl]; exact Or.inr rfl) ⟨fun _ => ⟨k, m, by omega, hri, hfar⟩, fun _ => by rw [zI_s, if_pos rfl]⟩ (mH_62 hm fr (by rw [zI_s, if_neg (by decide)])) (zfr_bo (d := 76) fr (by unfold m62; decide) hb76) (sbo_fr hsb fr (by unfold m62; decide)) (m3640_k (I := [24]) hs (mK_sI (by decide)) (by decide) (by decide)) (hk.tr (mK_sI (by decide))) (hsk.tr (sK_fr fr (fun k h1 h2 z => by unfold m62 at z; omega))) (hf.tr (fr.wk (fun k z => mN_P (m62_N z))))
        · skip
          have n_34 := far_0.mp h_34
          refine za_aload_n hc dM_put_37 rfl ?_
          refine za_getA hc gfM_45 zob_62 (p := 74) rfl dM_put_38 ?_
          refine za_iload_n hc dM_put_41 rfl ?_
          refine zm_lald hc (by assumption) dM_put_42 (by omega) (by decide) ?_
          refine za_cS1i hc gsM_187 (cM_isFar_ l M1 (zJ M1 74 k)) ⟨rfl, rfl⟩ ⟨Nat.le_of_ble_eq_true rfl, Nat.le_of_ble_eq_true rfl⟩ ⟨Nat.zero_le _, Nat.zero_le _⟩ dM_put_43 (fun x_43 M_43 h_43 => ?_)
          obtain ⟨q_43, hm_43⟩ := h_43
          rw [hm_43]
          subst q_43
          refine za_if_ne 61 hc dM_put_46 rfl (fun h_46 => ?_) (fun h_46 => ?_)
          · skip
            have hfar : ¬ gLim m := fun z => by have := far_1.mp h_46; have := ln.mp z; omega
            refine za_aload_n hc dM_put_61 rfl ?_
            refine za_iconst hc 1 dM_put_62 rfl ?_
            refine za_putZ hc gpM_181 zob_62 (nz01 (by first | exact Or.inl rfl | exact Or.inr rfl)) dM_put_63 ?_
            refine za_iinc hc _ dM_put_66 rfl ((nI_succ k).symm) (by decide) ?_
            refine za_goto 17 hc dM_put_69 rfl ?_
            have fr : zfr m62 M1 (zsI M1 62 24 1) := zfr_sI rfl
            exact ih (k + 1) (zsI M1 62 24 1) (by omega) (by rw [zI_s, if_pos rfl]; exact Or.inr rfl) ⟨fun _ => ⟨k, m, by omega, hri, hfar⟩, fun _ => by rw [zI_s, if_pos rfl]⟩ (mH_62 hm fr (by rw [zI_s, if_neg (by decide)])) (zfr_bo (d := 76) fr (by unfold m62; decide) hb76) (sbo_fr hsb fr (by unfold m62; decide)) (m3640_k (I := [24]) hs (mK_sI (by decide)) (by decide) (by decide)) (hk.tr (mK_sI (by decide))) (hsk.tr (sK_fr fr (fun k h1 h2 z => by unfold m62 at z; omega))) (hf.tr (fr.wk (fun k z => mN_P (m62_N z))))
          · skip
            have n_46 := far_0.mp h_46
            refine za_aload_n hc dM_put_49 rfl ?_
            refine za_getA hc gfM_48 zob_62 (p := 75) rfl dM_put_50 ?_
            refine za_iload_n hc dM_put_53 rfl ?_
            refine zm_lald hc (by assumption) dM_put_54 (by omega) (by decide) ?_
            refine za_cS1i hc gsM_187 (cM_isFar_ l M1 (zJ M1 75 k)) ⟨rfl, rfl⟩ ⟨Nat.le_of_ble_eq_true rfl, Nat.le_of_ble_eq_true rfl⟩ ⟨Nat.zero_le _, Nat.zero_le _⟩ dM_put_55 (fun x_55 M_55 h_55 => ?_)
            obtain ⟨q_55, hm_55⟩ := h_55
            rw [hm_55]
            subst q_55
            refine za_if_eq 66 hc dM_put_58 rfl (fun h_58 => ?_) (fun h_58 => ?_)
            · skip
              have n_58 := far_0.mp h_58
              have hok1 : gLim m := ln.mpr (by omega)
              refine za_iinc hc _ dM_put_66 rfl ((nI_succ k).symm) (by decide) ?_
              refine za_goto 17 hc dM_put_69 rfl ?_
              refine ih (k + 1) M1 (by omega) hp01 (hpq.trans ⟨fun ⟨t, q, h1, h2, h3⟩ => ⟨t, q, by omega, h2, h3⟩, fun ⟨t, q, h1, h2, h3⟩ => ⟨t, q, ?_, h2, h3⟩⟩) hm hb76 hsb hs hk hsk hf
              by_cases c : t = k
              · rw [c, hri] at h2; cases h2; exact absurd hok1 h3
              · omega
            · skip
              have hfar : ¬ gLim m := fun z => by have := far_1.mp h_58; have := ln.mp z; omega
              refine za_aload_n hc dM_put_61 rfl ?_
              refine za_iconst hc 1 dM_put_62 rfl ?_
              refine za_putZ hc gpM_181 zob_62 (nz01 (by first | exact Or.inl rfl | exact Or.inr rfl)) dM_put_63 ?_
              refine za_iinc hc _ dM_put_66 rfl ((nI_succ k).symm) (by decide) ?_
              refine za_goto 17 hc dM_put_69 rfl ?_
              have fr : zfr m62 M1 (zsI M1 62 24 1) := zfr_sI rfl
              exact ih (k + 1) (zsI M1 62 24 1) (by omega) (by rw [zI_s, if_pos rfl]; exact Or.inr rfl) ⟨fun _ => ⟨k, m, by omega, hri, hfar⟩, fun _ => by rw [zI_s, if_pos rfl]⟩ (mH_62 hm fr (by rw [zI_s, if_neg (by decide)])) (zfr_bo (d := 76) fr (by unfold m62; decide) hb76) (sbo_fr hsb fr (by unfold m62; decide)) (m3640_k (I := [24]) hs (mK_sI (by decide)) (by decide) (by decide)) (hk.tr (mK_sI (by decide))) (hsk.tr (sK_fr fr (fun k h1 h2 z => by unfold m62 at z; omega))) (hf.tr (fr.wk (fun k z => mN_P (m62_N z))))
  refine za_aload_n hc dM_put_0 rfl ?_
  refine za_getI hc gfM_181 zob_62 dM_put_1 ?_
  refine za_if_ne 14 hc dM_put_4 rfl (fun h_4 => ?_) (fun h_4 => ?_)
  · skip
    exact absurd hp0 h_4
  · skip
    refine za_aload_n hc dM_put_7 rfl ?_
    refine za_cV0i hc gsM_184 zob_62 (cM_normal_ l M hH hok hnv hb0 hs0) ⟨rfl, rfl⟩ ⟨Nat.le_of_ble_eq_true rfl, Nat.le_of_ble_eq_true rfl⟩ ⟨Nat.zero_le _, Nat.zero_le _⟩ dM_put_8 (fun x_8 M_8 h_8 => ?_)
    obtain ⟨w0, w1, w2, w3, w4, w5, w6⟩ := h_8
    have hsk8 : sK [] M M_8 := sK_fr w6 mN_s
    have hk8 : mK pI M M_8 := w5.wk (by decide)
    have hf8 : zfr mP M M_8 := w6.wk (fun k z => mN_P z)
    have hsb8 : sbo M_8 := sbo_fr hsb0 w6 (mN_s 68 (by decide) (by decide))
    have hp8 : zI M_8 62 24 = 0 := by rw [(w5 24 (by decide)).1]; exact hp0
    refine za_if_ne 15 hc dM_put_11 rfl (fun h_11 => ?_) (fun h_11 => ?_)
    · skip
      have hx := w0.resolve_left h_11
      have hm8 := w2 hx
      rw [hTT] at hm8
      refine za_iconst hc 0 dM_put_15 rfl ?_
      refine za_istore_n hc dM_put_16 (by decide) ?_
      exact FAR (w1.mp hx) TT.length 0 M_8 (by omega) (Or.inl hp8) ⟨fun z => absurd z (by rw [hp8]; decide), fun ⟨t, q, h, _⟩ => absurd h (by omega)⟩ hm8 w3.1 hsb8 w4 hk8 hsk8 hf8
    · skip
      have hns : ¬ gSat (ms.foldl gput []) := fun z => absurd (w1.mpr z) (by rw [h_11]; decide)
      exact za_vret hc rfl dM_put_14 ⟨Nat.zero_le _, Nat.zero_le _⟩ (⟨rfl, by rw [gadd_1 hns]; exact ⟨hp8, sH_k hS hsk8 (by simp)⟩, w3, hsb8, w4, hk8, hsk8.wk (by simp), hf8⟩)
