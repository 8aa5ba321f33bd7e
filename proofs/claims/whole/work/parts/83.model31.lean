/-! The model: least. -/
def gBadF (f g : Int32) : Prop := ¬ f.toInt.natAbs ≤ 100 ∨ ¬ g.toInt.natAbs ≤ 100
def lI : List Nat := [0, 13, 14, 19, 24, 25, 26, 27, 28, 29, 30, 31, 32, 33, 34, 35, 36, 37, 38, 39, 40, 41, 42, 43]
/-- what stands while least works -/
def lF (M M1 : zM) : Prop := zbo M1 76 ∧ zbo M1 72 ∧ sbo M1 ∧ m3640 M1 ∧ mK lI M M1 ∧ sK [] M M1 ∧ zfr mP M M1
theorem lF.f62 {J : List Nat} {M M1 M2 : zM} (h : lF M M1) (hk : mK J M1 M2) (hf : zfr m62 M1 M2) (hJ : ∀ j, j ∈ J → j ∈ lI) (h3 : m3640 M2) : lF M M2 := ⟨zfr_bo (d := 76) hf (by unfold m62; decide) h.1, zfr_bo (d := 72) hf (by unfold m62; decide) h.2.1, sbo_fr h.2.2.1 hf (by unfold m62; decide), h3, h.2.2.2.2.1.tr (hk.wk hJ), h.2.2.2.2.2.1.tr (sK_fr hf (fun k h1 h2 z => by unfold m62 at z; omega)), h.2.2.2.2.2.2.tr (hf.wk (fun k z => m62_P z))⟩
theorem lF.sI {M M1 : zM} {j : Nat} {v : Int32} (h : lF M M1) (hj : j ∈ lI) (h36 : 36 ≠ j) (h39 : 39 ≠ j) : lF M (zsI M1 62 j v) := h.f62 (J := [j]) (mK_sI (List.mem_singleton.mpr rfl)) (zfr_sI (P := m62) rfl) (fun i hi => by rw [List.mem_singleton.mp hi]; exact hj) (m3640_k (I := [j]) h.2.2.2.1 (mK_sI (List.mem_singleton.mpr rfl)) (fun z => h36 (List.mem_singleton.mp z)) (fun z => h39 (List.mem_singleton.mp z)))
theorem lF.sJ {M M1 : zM} {j : Nat} {v : Int64} (h : lF M M1) (hj : j ∈ lI) : lF M (zsJ M1 62 j v) := h.f62 (J := [j]) (mK_sJ (List.mem_singleton.mpr rfl)) (zfr_sJ (P := m62) rfl) (fun i hi => by rw [List.mem_singleton.mp hi]; exact hj) (by unfold m3640; rw [zI_sJ]; exact h.2.2.2.1)
theorem lF.add {M M1 M2 : zM} (h : lF M M1) (hk : mK [13, 14] M1 M2) (hf : zfr mA M1 M2) (hb : zbo M2 72) : lF M M2 := ⟨zbo_N hf h.1, hb, sbo_fr h.2.2.1 hf (mA_s 68 (by decide) (by decide)), m3640_k h.2.2.2.1 hk (by decide) (by decide), h.2.2.2.2.1.tr (hk.wk (by decide)), h.2.2.2.2.2.1.tr (sK_fr hf mA_s), h.2.2.2.2.2.2.tr (hf.wk (fun k z => mN_P (mA_N z)))⟩
theorem mQ_s : ∀ k, 63 ≤ k → k ≤ 68 → ¬ mQ k := fun k h1 h2 z => by unfold mQ at z; omega
theorem mQ_P {k : Nat} (h : mQ k) : mP k := by unfold mQ at h; unfold mP; omega
theorem lF.ask {M M1 M2 : zM} (h : lF M M1) (hk : mK [19] M1 M2) (hf : zfr mQ M1 M2) (hb : zbo M2 76) : lF M M2 := ⟨hb, zfr_bo (d := 72) hf (mQ_n (by decide)) h.2.1, sbo_fr h.2.2.1 hf (mQ_s 68 (by decide) (by decide)), m3640_k h.2.2.2.1 hk (by decide) (by decide), h.2.2.2.2.1.tr (hk.wk (by decide)), h.2.2.2.2.2.1.tr (sK_fr hf mQ_s), h.2.2.2.2.2.2.tr (hf.wk (fun k z => mQ_P z))⟩
theorem lF.ofF {M : zM} (h : sF [] M M) : lF M M := ⟨h.1, h.2.1, h.2.2.1, h.2.2.2.1, mK.rf, sK.rf, zfr.rf⟩
/-- what least tells -/
def lTold (P : List (List gC)) (f g : Int) (x : Int32) (M' : zM) : Prop := (zI M' 62 28 = 0 ∧ gLst P f g x 0 0) ∨ (zI M' 62 28 = 1 ∧ gLst P f g x (zJ M' 62 26).toInt (zJ M' 62 27).toInt)
theorem f_far {f : Int32} (h0 : ¬ f < -100) (h1 : ¬ 100 < f) : f.toInt.natAbs ≤ 100 := by
  have a : ¬ f.toInt < -100 := fun z => h0 (Int32.lt_iff_toInt_lt.mpr z)
  have b : ¬ 100 < f.toInt := fun z => h1 (Int32.lt_iff_toInt_lt.mpr z)
  omega
theorem f_far1 {f : Int32} (h0 : f < -100) : ¬ f.toInt.natAbs ≤ 100 := by
  have a : f.toInt < -100 := Int32.lt_iff_toInt_lt.mp h0
  omega
theorem f_far2 {f : Int32} (h0 : 100 < f) : ¬ f.toInt.natAbs ≤ 100 := by
  have a : 100 < f.toInt := Int32.lt_iff_toInt_lt.mp h0
  omega

set_option maxRecDepth 100000 in
set_option maxHeartbeats 4000000 in
theorem cM_least_ (l : Launch) {h : Nat} {P : List (List gC)} (M : zM) (hh : h ≤ 6) (hp : zI M 62 7 = nI h) (f g : Int32) (hP : 1 ≤ h → sH M (h - 1) P ∧ gGd P) (hF0 : sF [] M M) : zMet l mM_least rM_least [.ref 62, .int f, .int g] M (zqi (fun x M' => (h = 0 → x = 0 ∧ M' = zsI M 62 0 1) ∧ (0 < h → (gBadF f g → x = 0 ∧ M' = zsI M 62 0 2) ∧ (¬ gBadF f g → zI M' 62 0 = 0 ∧ lTold P f.toInt g.toInt x M' ∧ lF M M')))) := by
  refine za_enter (by decide) (Nat.le_of_ble_eq_true rfl) (fun X hc => ?_)
  have a63 := ar_63
  have a64 := ar_64
  have a65 := ar_65
  have a66 := ar_66
  have a67 := ar_67
  have a68 := ar_68
  have MAIN : 0 < h → ¬ gBadF f g → ∀ N0 : zM, zI N0 62 0 = 0 → zI N0 62 25 = 3 → lF M N0 → zW X (zqi (fun x M' => (h = 0 → x = 0 ∧ M' = zsI M 62 0 1) ∧ (0 < h → (gBadF f g → x = 0 ∧ M' = zsI M 62 0 2) ∧ (¬ gBadF f g → zI M' 62 0 = 0 ∧ lTold P f.toInt g.toInt x M' ∧ lF M M')))) (0, 0) 66 [(0, .ref 62), (1, .int f), (2, .int g), (3, .int (nI 0))] [] N0 := by
    intro hpos hok N0 hn0 hn25 hnF
    obtain ⟨hS0, hGd⟩ := hP hpos
    have hPl := hS0.2.1
    have hf : f.toInt.natAbs ≤ 100 := Classical.byContradiction (fun z => hok (Or.inl z))
    have hg : g.toInt.natAbs ≤ 100 := Classical.byContradiction (fun z => hok (Or.inr z))
    have hf6 : f.toInt64.toInt.natAbs ≤ 100 := by rw [i2l_int]; exact hf
    have hg6 : g.toInt64.toInt.natAbs ≤ 100 := by rw [i2l_int]; exact hg
    have END : ∀ (r : Nat) (M1 : zM), (r = P.length ∨ zI M1 62 25 = 2) → gSo P f.toInt g.toInt r (zI M1 62 25) (zJ M1 62 26).toInt (zJ M1 62 27).toInt → zI M1 62 0 = 0 → lF M M1 → zW X (zqi (fun x M' => (h = 0 → x = 0 ∧ M' = zsI M 62 0 1) ∧ (0 < h → (gBadF f g → x = 0 ∧ M' = zsI M 62 0 2) ∧ (¬ gBadF f g → zI M' 62 0 = 0 ∧ lTold P f.toInt g.toInt x M' ∧ lF M M')))) (0, 0) 265 [(0, .ref 62), (1, .int f), (2, .int g), (3, .int (nI r))] [] M1 := by
      intro r M1 hr hso h0c hF1
      refine za_aload_n hc dM_least_265 rfl ?_
      refine za_aload_n hc dM_least_266 rfl ?_
      refine za_getI hc gfM_245 zob_62 dM_least_267 ?_
      refine za_iconst hc 2 dM_least_270 rfl ?_
      refine za_icmp_ge 278 hc dM_least_271 rfl (fun h_271 => ?_) (fun h_271 => ?_)
      · skip
        have hge : ¬ zI M1 62 25 < 2 := Int32.not_lt.mpr h_271
        refine za_iconst hc 0 dM_least_278 rfl ?_
        refine za_putZ hc gpM_248 zob_62 (nz01 (by first | exact Or.inl rfl | exact Or.inr rfl)) dM_least_279 ?_
        refine za_aload_n hc dM_least_282 rfl ?_
        refine za_getI hc gfM_248 zob_62 dM_least_283 ?_
        rw [zI_s, if_pos rfl]
        refine za_if_ne 294 hc dM_least_286 rfl (fun h_286 => ?_) (fun h_286 => ?_)
        · skip
          exact absurd rfl h_286
        · skip
          refine za_aload_n hc dM_least_289 rfl ?_
          refine za_getI hc gfM_245 zob_62 dM_least_290 ?_
          rw [zI_s, if_neg (by decide)]
          exact za_iret hc rfl dM_least_293 ⟨Nat.zero_le _, Nat.zero_le _⟩ (⟨_, rfl, fun z => absurd z (by omega), fun _ => ⟨fun z => absurd z hok, fun _ => ⟨by rw [zI_s, if_neg (by decide)]; exact h0c, Or.inl ⟨by rw [zI_s, if_pos rfl], gSo_no hso hr hge⟩, hF1.sI (by decide) (by decide) (by decide)⟩⟩⟩)
      · skip
        have hlt : zI M1 62 25 < 2 := Int32.not_le.mp h_271
        obtain ⟨y1, y2⟩ := gSo_yes hso hr hlt
        obtain ⟨y3, y4, y5⟩ := gSo_pos hso (fun z => by rw [z] at hlt; exact absurd hlt (by decide)) (fun z => by rw [z] at hlt; exact absurd hlt (by decide))
        have hgp : 0 < Nat.gcd (zJ M1 62 26).toInt.natAbs (zJ M1 62 27).toInt.natAbs := Nat.gcd_pos_of_pos_right _ (by omega)
        have hgl : Nat.gcd (zJ M1 62 26).toInt.natAbs (zJ M1 62 27).toInt.natAbs < 2 ^ 62 := by have := Nat.le_of_dvd (show 0 < (zJ M1 62 27).toInt.natAbs by omega) (Nat.gcd_dvd_right (zJ M1 62 26).toInt.natAbs (zJ M1 62 27).toInt.natAbs); omega
        have hnz : ¬ lN (Nat.gcd (zJ M1 62 26).toInt.natAbs (zJ M1 62 27).toInt.natAbs) = 0 := fun z => by have := (pk_lEQ (b := 0) (by omega) (by decide)).mp z; omega
        refine za_iconst hc 1 dM_least_274 rfl ?_
        refine za_goto 279 hc dM_least_275 rfl ?_
        refine za_putZ hc gpM_248 zob_62 (nz01 (by first | exact Or.inl rfl | exact Or.inr rfl)) dM_least_279 ?_
        refine za_aload_n hc dM_least_282 rfl ?_
        refine za_getI hc gfM_248 zob_62 dM_least_283 ?_
        rw [zI_s, if_pos rfl]
        refine za_if_ne 294 hc dM_least_286 rfl (fun h_286 => ?_) (fun h_286 => ?_)
        · skip
          refine za_aload_n hc dM_least_294 rfl ?_
          refine za_getJ hc gfM_258 zob_62 dM_least_295 ?_
          rw [zJ_sI]
          refine za_aload_n hc dM_least_298 rfl ?_
          refine za_getJ hc gfM_261 zob_62 dM_least_299 ?_
          rw [zJ_sI]
          refine za_cS2l hc gsM_161 (cM_divisor_ l (zsI M1 62 28 1) (zJ M1 62 26) (zJ M1 62 27) (Nat.gcd (zJ M1 62 26).toInt.natAbs (zJ M1 62 27).toInt.natAbs) (by omega) (by omega) rfl) ⟨rfl, rfl⟩ ⟨Nat.le_of_ble_eq_true rfl, Nat.le_of_ble_eq_true rfl⟩ ⟨Nat.zero_le _, Nat.zero_le _⟩ dM_least_302 (fun x_302 M_302 h_302 => ?_)
          obtain ⟨q_302, hm_302⟩ := h_302
          rw [hm_302, q_302]
          refine za_lstore_n hc dM_least_305 (by decide) ?_
          refine za_aload_n hc dM_least_306 rfl ?_
          refine za_dup hc dM_least_307 rfl ?_
          refine za_getJ hc gfM_258 zob_62 dM_least_308 ?_
          rw [zJ_sI]
          refine za_lload_n hc dM_least_311 rfl ?_
          refine za_ldiv hc dM_least_312 hnz ?_
          refine za_putJ hc gpM_258 zob_62 dM_least_313 ?_
          refine za_aload_n hc dM_least_316 rfl ?_
          refine za_dup hc dM_least_317 rfl ?_
          refine za_getJ hc gfM_261 zob_62 dM_least_318 ?_
          rw [zJ_s, if_neg (by decide), zJ_sI]
          refine za_lload_n hc dM_least_321 rfl ?_
          refine za_ldiv hc dM_least_322 hnz ?_
          refine za_putJ hc gpM_261 zob_62 dM_least_323 ?_
          refine za_aload_n hc dM_least_326 rfl ?_
          refine za_getI hc gfM_245 zob_62 dM_least_327 ?_
          rw [zI_sJ, zI_sJ, zI_s, if_neg (by decide)]
          exact za_iret hc rfl dM_least_330 ⟨Nat.zero_le _, Nat.zero_le _⟩ (⟨_, rfl, fun z => absurd z (by omega), fun _ => ⟨fun z => absurd z hok, fun _ => ⟨by rw [zI_sJ, zI_sJ, zI_s, if_neg (by decide)]; exact h0c, Or.inr ⟨by rw [zI_sJ, zI_sJ, zI_s, if_pos rfl], by rw [zJ_s, if_neg (by decide), zJ_s, if_pos rfl, zJ_s, if_pos rfl, l_div (by omega) hgl, l_div (by omega) hgl]; exact y2⟩, ((hF1.sI (by decide) (by decide) (by decide)).sJ (by decide)).sJ (by decide)⟩⟩⟩)
        · skip
          exact absurd h_286 (by decide)
    have LOOP : ∀ (t : List (List gC)) (r : Nat) (M1 : zM), P.drop r = t → r + t.length = P.length → gSo P f.toInt g.toInt r (zI M1 62 25) (zJ M1 62 26).toInt (zJ M1 62 27).toInt → zI M1 62 0 = 0 → lF M M1 → zW X (zqi (fun x M' => (h = 0 → x = 0 ∧ M' = zsI M 62 0 1) ∧ (0 < h → (gBadF f g → x = 0 ∧ M' = zsI M 62 0 2) ∧ (¬ gBadF f g → zI M' 62 0 = 0 ∧ lTold P f.toInt g.toInt x M' ∧ lF M M')))) (0, 0) 66 [(0, .ref 62), (1, .int f), (2, .int g), (3, .int (nI r))] [] M1 := by
      intro t
      induction t with
      | nil =>
        intro r M1 hdr hn hso h0c hF1
        simp only [List.length_nil] at hn
        have hp1 : zI M1 62 7 = nI h := by rw [(hF1.2.2.2.2.1 7 (by decide)).1]; exact hp
        have hS1 : sH M1 (h - 1) P := sH_k hS0 hF1.2.2.2.2.2.1 (by simp)
        refine za_iload_n hc dM_least_66 rfl ?_
        refine za_aload_n hc dM_least_67 rfl ?_
        refine za_getA hc gfM_7 zob_62 (p := 63) rfl dM_least_68 ?_
        refine za_aload_n hc dM_least_71 rfl ?_
        refine za_getI hc gfM_220 zob_62 dM_least_72 ?_
        rw [hp1]
        refine za_iconst hc 1 dM_least_75 rfl ?_
        refine za_isub hc dM_least_76 ?_
        rw [nI_pr1 (by omega)]
        refine zm_iald hc (by assumption) dM_least_77 (by omega) (by decide) ?_
        rw [hS1.1]
        refine za_icmp_ge 265 hc dM_least_78 rfl (fun h_78 => ?_) (fun h_78 => ?_)
        · skip
          exact END r M1 (Or.inl (by omega)) hso h0c hF1
        · skip
          exact absurd ((nI_leI (by omega) (by omega)).mpr (show P.length ≤ r by omega)) h_78
      | cons row t ih =>
        intro r M1 hdr hn hso h0c hF1
        simp only [List.length_cons] at hn
        have hp1 : zI M1 62 7 = nI h := by rw [(hF1.2.2.2.2.1 7 (by decide)).1]; exact hp
        have hS1 : sH M1 (h - 1) P := sH_k hS0 hF1.2.2.2.2.2.1 (by simp)
        have hri : P[r]? = some row := by rw [← List.head?_drop, hdr]; rfl
        have hdr2 : P.drop (r + 1) = t := by rw [← List.drop_drop, hdr]; rfl
        have hrm := List.mem_of_getElem? hri
        obtain ⟨a1, a2, a3, a4⟩ := hS1.2.2 r row hri
        have hsat := hGd.2 row hrm
        have hrz := hGd.1 row hrm
        have hB1 : ∀ q ∈ row, gBd 10000 q := fun q hq => lim_Bd.mp (a4 q hq)
        have hB2 : ∀ q ∈ row, gBd 200000000 q := fun q hq => by have := hB1 q hq; unfold gBd at *; omega
        have AFTER : zI M1 62 25 ≠ 2 → ∀ M2 : zM, gRowA row f.toInt g.toInt (zI M2 62 40) (zI M2 62 41) (zJ M2 62 42).toInt (zJ M2 62 43).toInt → (zI M2 62 41 = 0 ∨ zI M2 62 41 = 1) → zI M2 62 25 = zI M1 62 25 → zJ M2 62 26 = zJ M1 62 26 → zJ M2 62 27 = zJ M1 62 27 → zI M2 62 0 = 0 → lF M M2 → zW X (zqi (fun x M' => (h = 0 → x = 0 ∧ M' = zsI M 62 0 1) ∧ (0 < h → (gBadF f g → x = 0 ∧ M' = zsI M 62 0 2) ∧ (¬ gBadF f g → zI M' 62 0 = 0 ∧ lTold P f.toInt g.toInt x M' ∧ lF M M')))) (0, 0) 157 [(0, .ref 62), (1, .int f), (2, .int g), (3, .int (nI r))] [] M2 := by
          intro hn2 M2 hra h41 e25 e26 e27 e0 hF2
          rw [← e25] at hn2
          rw [← e25, ← e26, ← e27] at hso
          have STEP : zI M2 62 40 = 1 → ∀ w : Int32, ((w = -1 ∧ (zI M2 62 25 = 3 ∨ (zJ M2 62 42).toInt * (zJ M2 62 27).toInt < (zJ M2 62 26).toInt * (zJ M2 62 43).toInt)) ∨ (w = 0 ∧ zI M2 62 25 ≠ 3 ∧ (zJ M2 62 42).toInt * (zJ M2 62 27).toInt = (zJ M2 62 26).toInt * (zJ M2 62 43).toInt) ∨ (w = 1 ∧ zI M2 62 25 ≠ 3 ∧ (zJ M2 62 26).toInt * (zJ M2 62 43).toInt < (zJ M2 62 42).toInt * (zJ M2 62 27).toInt)) → zW X (zqi (fun x M' => (h = 0 → x = 0 ∧ M' = zsI M 62 0 1) ∧ (0 < h → (gBadF f g → x = 0 ∧ M' = zsI M 62 0 2) ∧ (¬ gBadF f g → zI M' 62 0 = 0 ∧ lTold P f.toInt g.toInt x M' ∧ lF M M')))) (0, 0) 205 [(0, .ref 62), (1, .int f), (2, .int g), (3, .int (nI r)), (4, .int w)] [] M2 := by
            intro hb1 w hw
            obtain ⟨gi1, gi2, gi3⟩ := hra.2.2 hb1
            rcases hw with ⟨rfl, hlt⟩ | ⟨rfl, hn3, heq⟩ | ⟨rfl, hn3, hgt⟩
            · skip
              have hs2 : gSo P f.toInt g.toInt (r + 1) (if (zI M2 62 41 == 1) = true then 0 else 1) (zJ M2 62 42).toInt (zJ M2 62 43).toInt := by
                by_cases c3 : zI M2 62 25 = 3
                · exact gSo_first hri hso c3 gi1 gi2 gi3
                · exact (gSo_next hri hso c3 hn2 gi1 gi2 gi3).1 (hlt.resolve_left c3)
              refine za_iload hc dM_least_205 rfl ?_
              refine za_if_lt 222 hc dM_least_207 rfl (fun h_207 => ?_) (fun h_207 => ?_)
              · skip
                refine za_aload_n hc dM_least_222 rfl ?_
                refine za_aload_n hc dM_least_223 rfl ?_
                refine za_getI hc gfM_236 zob_62 dM_least_224 ?_
                refine za_if_eq 234 hc dM_least_227 rfl (fun h_227 => ?_) (fun h_227 => ?_)
                · skip
                  have hk0 := h_227
                  refine za_iconst hc 1 dM_least_234 rfl ?_
                  refine za_putI hc gpM_245 zob_62 dM_least_235 ?_
                  refine za_iload hc dM_least_238 rfl ?_
                  refine za_if_ge 259 hc dM_least_240 rfl (fun h_240 => ?_) (fun h_240 => ?_)
                  · skip
                    exact absurd h_240 (by decide)
                  · skip
                    refine za_aload_n hc dM_least_243 rfl ?_
                    refine za_aload_n hc dM_least_244 rfl ?_
                    refine za_getJ hc gfM_239 zob_62 dM_least_245 ?_
                    rw [zJ_sI]
                    refine za_putJ hc gpM_258 zob_62 dM_least_248 ?_
                    refine za_aload_n hc dM_least_251 rfl ?_
                    refine za_aload_n hc dM_least_252 rfl ?_
                    refine za_getJ hc gfM_242 zob_62 dM_least_253 ?_
                    rw [zJ_s, if_neg (by decide), zJ_sI]
                    refine za_putJ hc gpM_261 zob_62 dM_least_256 ?_
                    refine za_iinc hc _ dM_least_259 rfl ((nI_succ r).symm) (by decide) ?_
                    refine za_goto 66 hc dM_least_262 rfl ?_
                    refine za_take 4 ?_
                    first
                    | (refine ih (r + 1) (zsJ (zsJ (zsI M2 62 25 1) 62 26 (zJ M2 62 42)) 62 27 (zJ M2 62 43)) hdr2 (by omega) ?_ (by rw [zI_sJ, zI_sJ, zI_s, if_neg (by decide)]; exact e0) (((hF2.sI (by decide) (by decide) (by decide)).sJ (by decide)).sJ (by decide)); rw [zI_sJ, zI_sJ, zI_s, if_pos rfl, zJ_s, if_neg (by decide), zJ_s, if_pos rfl, zJ_s, if_pos rfl]; rw [hk0] at hs2; exact hs2)
                    | (refine ih (r + 1) (zsJ (zsJ (zsI M2 62 25 0) 62 26 (zJ M2 62 42)) 62 27 (zJ M2 62 43)) hdr2 (by omega) ?_ (by rw [zI_sJ, zI_sJ, zI_s, if_neg (by decide)]; exact e0) (((hF2.sI (by decide) (by decide) (by decide)).sJ (by decide)).sJ (by decide)); rw [zI_sJ, zI_sJ, zI_s, if_pos rfl, zJ_s, if_neg (by decide), zJ_s, if_pos rfl, zJ_s, if_pos rfl]; rw [hk1] at hs2; exact hs2)
                · skip
                  have hk1 := h41.resolve_left h_227
                  refine za_iconst hc 0 dM_least_230 rfl ?_
                  refine za_goto 235 hc dM_least_231 rfl ?_
                  refine za_putI hc gpM_245 zob_62 dM_least_235 ?_
                  refine za_iload hc dM_least_238 rfl ?_
                  refine za_if_ge 259 hc dM_least_240 rfl (fun h_240 => ?_) (fun h_240 => ?_)
                  · skip
                    exact absurd h_240 (by decide)
                  · skip
                    refine za_aload_n hc dM_least_243 rfl ?_
                    refine za_aload_n hc dM_least_244 rfl ?_
                    refine za_getJ hc gfM_239 zob_62 dM_least_245 ?_
                    rw [zJ_sI]
                    refine za_putJ hc gpM_258 zob_62 dM_least_248 ?_
                    refine za_aload_n hc dM_least_251 rfl ?_
                    refine za_aload_n hc dM_least_252 rfl ?_
                    refine za_getJ hc gfM_242 zob_62 dM_least_253 ?_
                    rw [zJ_s, if_neg (by decide), zJ_sI]
                    refine za_putJ hc gpM_261 zob_62 dM_least_256 ?_
                    refine za_iinc hc _ dM_least_259 rfl ((nI_succ r).symm) (by decide) ?_
                    refine za_goto 66 hc dM_least_262 rfl ?_
                    refine za_take 4 ?_
                    first
                    | (refine ih (r + 1) (zsJ (zsJ (zsI M2 62 25 1) 62 26 (zJ M2 62 42)) 62 27 (zJ M2 62 43)) hdr2 (by omega) ?_ (by rw [zI_sJ, zI_sJ, zI_s, if_neg (by decide)]; exact e0) (((hF2.sI (by decide) (by decide) (by decide)).sJ (by decide)).sJ (by decide)); rw [zI_sJ, zI_sJ, zI_s, if_pos rfl, zJ_s, if_neg (by decide), zJ_s, if_pos rfl, zJ_s, if_pos rfl]; rw [hk0] at hs2; exact hs2)
                    | (refine ih (r + 1) (zsJ (zsJ (zsI M2 62 25 0) 62 26 (zJ M2 62 42)) 62 27 (zJ M2 62 43)) hdr2 (by omega) ?_ (by rw [zI_sJ, zI_sJ, zI_s, if_neg (by decide)]; exact e0) (((hF2.sI (by decide) (by decide) (by decide)).sJ (by decide)).sJ (by decide)); rw [zI_sJ, zI_sJ, zI_s, if_pos rfl, zJ_s, if_neg (by decide), zJ_s, if_pos rfl, zJ_s, if_pos rfl]; rw [hk1] at hs2; exact hs2)
              · skip
                exact absurd (by decide) h_207
            · skip
              obtain ⟨-, k1, k2, -⟩ := gSo_next hri hso hn3 hn2 gi1 gi2 gi3
              refine za_iload hc dM_least_205 rfl ?_
              refine za_if_lt 222 hc dM_least_207 rfl (fun h_207 => ?_) (fun h_207 => ?_)
              · skip
                exact absurd h_207 (by decide)
              · skip
                refine za_iload hc dM_least_210 rfl ?_
                refine za_if_ne 238 hc dM_least_212 rfl (fun h_212 => ?_) (fun h_212 => ?_)
                · skip
                  exact absurd rfl h_212
                · skip
                  refine za_aload_n hc dM_least_215 rfl ?_
                  refine za_getI hc gfM_236 zob_62 dM_least_216 ?_
                  refine za_if_eq 238 hc dM_least_219 rfl (fun h_219 => ?_) (fun h_219 => ?_)
                  · skip
                    have hk0 := h_219
                    refine za_iload hc dM_least_238 rfl ?_
                    refine za_if_ge 259 hc dM_least_240 rfl (fun h_240 => ?_) (fun h_240 => ?_)
                    · skip
                      refine za_iinc hc _ dM_least_259 rfl ((nI_succ r).symm) (by decide) ?_
                      refine za_goto 66 hc dM_least_262 rfl ?_
                      refine za_take 4 ?_
                      first
                      | exact ih (r + 1) M2 hdr2 (by omega) (k2 heq (by rw [hk0]; rfl)) e0 hF2
                      | exact ih (r + 1) (zsI M2 62 25 0) hdr2 (by omega) (by rw [zI_s, if_pos rfl, zJ_sI]; exact k1 heq (by rw [hk1]; rfl)) (by rw [zI_s, if_neg (by decide)]; exact e0) (hF2.sI (by decide) (by decide) (by decide))
                    · skip
                      exact absurd (by decide) h_240
                  · skip
                    have hk1 := h41.resolve_left h_219
                    refine za_aload_n hc dM_least_222 rfl ?_
                    refine za_aload_n hc dM_least_223 rfl ?_
                    refine za_getI hc gfM_236 zob_62 dM_least_224 ?_
                    refine za_if_eq 234 hc dM_least_227 rfl (fun h_227 => ?_) (fun h_227 => ?_)
                    · skip
                      exact absurd h_227 h_219
                    · skip
                      refine za_iconst hc 0 dM_least_230 rfl ?_
                      refine za_goto 235 hc dM_least_231 rfl ?_
                      refine za_putI hc gpM_245 zob_62 dM_least_235 ?_
                      refine za_iload hc dM_least_238 rfl ?_
                      refine za_if_ge 259 hc dM_least_240 rfl (fun h_240 => ?_) (fun h_240 => ?_)
                      · skip
                        refine za_iinc hc _ dM_least_259 rfl ((nI_succ r).symm) (by decide) ?_
                        refine za_goto 66 hc dM_least_262 rfl ?_
                        refine za_take 4 ?_
                        first
                        | exact ih (r + 1) M2 hdr2 (by omega) (k2 heq (by rw [hk0]; rfl)) e0 hF2
                        | exact ih (r + 1) (zsI M2 62 25 0) hdr2 (by omega) (by rw [zI_s, if_pos rfl, zJ_sI]; exact k1 heq (by rw [hk1]; rfl)) (by rw [zI_s, if_neg (by decide)]; exact e0) (hF2.sI (by decide) (by decide) (by decide))
                      · skip
                        exact absurd (by decide) h_240
            · skip
              refine za_iload hc dM_least_205 rfl ?_
              refine za_if_lt 222 hc dM_least_207 rfl (fun h_207 => ?_) (fun h_207 => ?_)
              · skip
                exact absurd h_207 (by decide)
              · skip
                refine za_iload hc dM_least_210 rfl ?_
                refine za_if_ne 238 hc dM_least_212 rfl (fun h_212 => ?_) (fun h_212 => ?_)
                · skip
                  refine za_iload hc dM_least_238 rfl ?_
                  refine za_if_ge 259 hc dM_least_240 rfl (fun h_240 => ?_) (fun h_240 => ?_)
                  · skip
                    refine za_iinc hc _ dM_least_259 rfl ((nI_succ r).symm) (by decide) ?_
                    refine za_goto 66 hc dM_least_262 rfl ?_
                    refine za_take 4 ?_
                    exact ih (r + 1) M2 hdr2 (by omega) ((gSo_next hri hso hn3 hn2 gi1 gi2 gi3).2.2.2 hgt) e0 hF2
                  · skip
                    exact absurd (by decide) h_240
                · skip
                  exact absurd h_212 (by decide)
          refine za_aload_n hc dM_least_157 rfl ?_
          refine za_getI hc gfM_233 zob_62 dM_least_158 ?_
          refine za_if_ne 172 hc dM_least_161 rfl (fun h_161 => ?_) (fun h_161 => ?_)
          · skip
            have hb1 : zI M2 62 40 = 1 := hra.1.resolve_left h_161
            obtain ⟨gi1, gi2, gi3⟩ := hra.2.2 hb1
            have gp := gi1.1
            refine za_aload_n hc dM_least_172 rfl ?_
            refine za_getI hc gfM_245 zob_62 dM_least_173 ?_
            refine za_iconst hc 3 dM_least_176 rfl ?_
            refine za_icmp_ne 184 hc dM_least_177 rfl (fun h_177 => ?_) (fun h_177 => ?_)
            · skip
              obtain ⟨u1, u2, u3⟩ := gSo_pos hso h_177 hn2
              refine za_aload_n hc dM_least_184 rfl ?_
              refine za_getJ hc gfM_239 zob_62 dM_least_185 ?_
              refine za_aload_n hc dM_least_188 rfl ?_
              refine za_getJ hc gfM_242 zob_62 dM_least_189 ?_
              refine za_aload_n hc dM_least_192 rfl ?_
              refine za_getJ hc gfM_258 zob_62 dM_least_193 ?_
              refine za_aload_n hc dM_least_196 rfl ?_
              refine za_getJ hc gfM_261 zob_62 dM_least_197 ?_
              refine za_cS4i hc gsM_132 (cM_compare_ l M2 _ _ _ _ _ (by omega) gp (by omega) (by omega) u1 (by omega) rfl) ⟨rfl, rfl⟩ ⟨Nat.le_of_ble_eq_true rfl, Nat.le_of_ble_eq_true rfl⟩ ⟨Nat.zero_le _, Nat.zero_le _⟩ dM_least_200 (fun x_200 M_200 h_200 => ?_)
              obtain ⟨q_200, hm_200⟩ := h_200
              rw [hm_200, q_200]
              refine za_istore hc dM_least_203 (by decide) ?_
              first
              | exact STEP hb1 (-1) (Or.inl ⟨rfl, Or.inl h_177⟩)
              | exact STEP hb1 _ (by rcases cmpS_or ((zJ M2 62 42).toInt * (zJ M2 62 27).toInt) ((zJ M2 62 26).toInt * (zJ M2 62 43).toInt) with ⟨h1, h2⟩ | ⟨h1, h2⟩ | ⟨h1, h2⟩; exact Or.inl ⟨h1, Or.inr h2⟩; exact Or.inr (Or.inl ⟨h1, h_177, h2⟩); exact Or.inr (Or.inr ⟨h1, h_177, h2⟩))
            · skip
              refine za_iconst hc (-1) dM_least_180 rfl ?_
              refine za_goto 203 hc dM_least_181 rfl ?_
              refine za_istore hc dM_least_203 (by decide) ?_
              first
              | exact STEP hb1 (-1) (Or.inl ⟨rfl, Or.inl h_177⟩)
              | exact STEP hb1 _ (by rcases cmpS_or ((zJ M2 62 42).toInt * (zJ M2 62 27).toInt) ((zJ M2 62 26).toInt * (zJ M2 62 43).toInt) with ⟨h1, h2⟩ | ⟨h1, h2⟩ | ⟨h1, h2⟩; exact Or.inl ⟨h1, Or.inr h2⟩; exact Or.inr (Or.inl ⟨h1, h_177, h2⟩); exact Or.inr (Or.inr ⟨h1, h_177, h2⟩))
          · skip
            refine za_aload_n hc dM_least_164 rfl ?_
            refine za_iconst hc 2 dM_least_165 rfl ?_
            refine za_putI hc gpM_245 zob_62 dM_least_166 ?_
            refine za_goto 259 hc dM_least_169 rfl ?_
            refine za_iinc hc _ dM_least_259 rfl ((nI_succ r).symm) (by decide) ?_
            refine za_goto 66 hc dM_least_262 rfl ?_
            exact ih (r + 1) (zsI M2 62 25 2) hdr2 (by omega) (by rw [zI_s, if_pos rfl]; exact gSo_un hri (hra.2.1 h_161)) (by rw [zI_s, if_neg (by decide)]; exact e0) (hF2.sI (by decide) (by decide) (by decide))
        refine za_iload_n hc dM_least_66 rfl ?_
        refine za_aload_n hc dM_least_67 rfl ?_
        refine za_getA hc gfM_7 zob_62 (p := 63) rfl dM_least_68 ?_
        refine za_aload_n hc dM_least_71 rfl ?_
        refine za_getI hc gfM_220 zob_62 dM_least_72 ?_
        rw [hp1]
        refine za_iconst hc 1 dM_least_75 rfl ?_
        refine za_isub hc dM_least_76 ?_
        rw [nI_pr1 (by omega)]
        refine zm_iald hc (by assumption) dM_least_77 (by omega) (by decide) ?_
        rw [hS1.1]
        refine za_icmp_ge 265 hc dM_least_78 rfl (fun h_78 => ?_) (fun h_78 => ?_)
        · skip
          exact absurd ((nI_leI (by omega) (by omega)).mp h_78) (by omega)
        · skip
          refine za_aload_n hc dM_least_81 rfl ?_
          refine za_getI hc gfM_245 zob_62 dM_least_82 ?_
          refine za_iconst hc 2 dM_least_85 rfl ?_
          refine za_icmp_eq 265 hc dM_least_86 rfl (fun h_86 => ?_) (fun h_86 => ?_)
          · skip
            exact END r M1 (Or.inr h_86) hso h0c hF1
          · skip
            refine za_aload_n hc dM_least_89 rfl ?_
            refine za_cV0v hc gsM_198 zob_62 (cM_begin_ l M1) ⟨rfl, rfl⟩ ⟨Nat.le_of_ble_eq_true rfl, Nat.le_of_ble_eq_true rfl⟩ ⟨Nat.zero_le _, Nat.zero_le _⟩ dM_least_90 (fun M_90 h_90 => ?_)
            have hmb : M_90 = mBg M1 := h_90
            subst hmb
            have hF2 : lF M (mBg M1) := hF1.f62 mBg_k mBg_fr (by decide) (m3640_k hF1.2.2.2.1 mBg_k (by decide) (by decide))
            have hS2 : sH (mBg M1) (h - 1) P := sH_k hS0 hF2.2.2.2.2.2.1 (by simp)
            have hp8 : zI (mBg M1) 62 7 = nI h := by rw [(mBg_k 7 (by decide)).1]; exact hp1
            have c64 : zI (mBg M1) 64 = zI M1 64 := rfl
            refine za_aload_n hc dM_least_93 rfl ?_
            refine za_aload_n hc dM_least_94 rfl ?_
            refine za_getI hc gfM_220 zob_62 dM_least_95 ?_
            rw [hp8]
            refine za_iconst hc 1 dM_least_98 rfl ?_
            refine za_isub hc dM_least_99 ?_
            rw [nI_pr1 (by omega)]
            refine za_iload_n hc dM_least_100 rfl ?_
            refine za_aload_n hc dM_least_101 rfl ?_
            refine za_getA hc gfM_13 zob_62 (p := 64) rfl dM_least_102 ?_
            refine za_bipush hc 12 dM_least_105 rfl ?_
            refine za_aload_n hc dM_least_107 rfl ?_
            refine za_getI hc gfM_220 zob_62 dM_least_108 ?_
            rw [hp8]
            refine za_iconst hc 1 dM_least_111 rfl ?_
            refine za_isub hc dM_least_112 ?_
            rw [nI_pr1 (by omega)]
            refine za_imul hc dM_least_113 ?_
            refine za_iload_n hc dM_least_114 rfl ?_
            refine za_iadd hc dM_least_115 ?_
            rw [zic]
            refine zm_iald hc (by assumption) dM_least_116 (by omega) (by decide) ?_
            rw [c64, a2]
            refine za_cV3v hc gsM_201 zob_62 (cM_addRow_ l (mBg M1) (by omega) hS2 hri (Nat.le_refl _) hrz (mBg_H hF1.2.1) (by simp only [List.length_nil]; omega) mBg_n hF2.2.2.1) ⟨rfl, rfl⟩ ⟨Nat.le_of_ble_eq_true rfl, Nat.le_of_ble_eq_true rfl⟩ ⟨Nat.zero_le _, Nat.zero_le _⟩ dM_least_117 (fun M_117 h_117 => ?_)
            obtain ⟨w1, w2, w3, w4⟩ := h_117
            rw [List.take_length, List.nil_append] at w1
            have hF3 := hF2.add w3 w4 w1.2.2.2
            refine za_aload_n hc dM_least_120 rfl ?_
            refine za_cV0v hc gsM_172 zob_62 (cM_ask_ l M_117 w1 hF3.1) ⟨rfl, rfl⟩ ⟨Nat.le_of_ble_eq_true rfl, Nat.le_of_ble_eq_true rfl⟩ ⟨Nat.zero_le _, Nat.zero_le _⟩ dM_least_121 (fun M_121 h_121 => ?_)
            obtain ⟨v1, v2, v3, v4⟩ := h_121
            have hF4 := hF3.ask v3 v4 v1.2.2.2
            have c0 : zI M_121 62 0 = 0 := by rw [(v3 0 (by decide)).1, (w3 0 (by decide)).1, (mBg_k 0 (by decide)).1]; exact h0c
            have c25 : zI M_121 62 25 = zI M1 62 25 := by rw [(v3 25 (by decide)).1, (w3 25 (by decide)).1, (mBg_k 25 (by decide)).1]
            have c26 : zJ M_121 62 26 = zJ M1 62 26 := by rw [(v3 26 (by decide)).2, (w3 26 (by decide)).2, (mBg_k 26 (by decide)).2]
            have c27 : zJ M_121 62 27 = zJ M1 62 27 := by rw [(v3 27 (by decide)).2, (w3 27 (by decide)).2, (mBg_k 27 (by decide)).2]
            refine za_aload_n hc dM_least_124 rfl ?_
            refine za_getI hc gfM_73 zob_62 dM_least_125 ?_
            rw [v1.1]
            refine za_if_eq 138 hc dM_least_128 rfl (fun h_128 => ?_) (fun h_128 => ?_)
            · skip
              have he : row = [] := List.length_eq_zero_iff.mp (Nat.le_zero.mp ((nI_leI (by omega) (by decide)).mp (by rw [h_128]; exact Int32.le_refl _ : nI row.length ≤ nI 0)))
              have hcr : ∀ h0, row[0]? = some h0 → ∀ q ∈ row, gcr h0 q = 0 := fun h0 z => by rw [he] at z; cases z
              refine za_aload_n hc dM_least_138 rfl ?_
              refine za_iload_n hc dM_least_139 rfl ?_
              refine za_i2l hc dM_least_140 ?_
              refine za_iload_n hc dM_least_141 rfl ?_
              refine za_i2l hc dM_least_142 ?_
              refine za_cV2v hc gsM_251 zob_62 (cM_ofBand_ l M_121 f.toInt64 g.toInt64 v1 hB2 hrz hcr hsat hf6 hg6 hF4.2.2.2.1) ⟨rfl, rfl⟩ ⟨Nat.le_of_ble_eq_true rfl, Nat.le_of_ble_eq_true rfl⟩ ⟨Nat.zero_le _, Nat.zero_le _⟩ dM_least_143 (fun M_143 h_143 => ?_)
              obtain ⟨o1, o2, o3, o4, o5⟩ := h_143
              rw [i2l_int, i2l_int] at o1
              have hF5 : lF M M_143 := hF4.f62 o4 o5 (by decide) o3
              refine za_goto 157 hc dM_least_146 rfl ?_
              first
              | exact AFTER h_86 M_143 o1 o2 ((o4 25 (by decide)).1.trans c25) ((o4 26 (by decide)).2.trans c26) ((o4 27 (by decide)).2.trans c27) ((o4 0 (by decide)).1.trans c0) hF5
              | exact AFTER h_86 M_154 o1 o2 ((o4 25 (by decide)).1.trans c25) ((o4 26 (by decide)).2.trans c26) ((o4 27 (by decide)).2.trans c27) ((o4 0 (by decide)).1.trans c0) hF5
            · skip
              have hne : 0 < row.length := Nat.pos_of_ne_zero (fun z => h_128 (by rw [z]; rfl))
              obtain ⟨h0, hh0⟩ : ∃ h0, row[0]? = some h0 := ⟨_, List.getElem?_eq_getElem hne⟩
              refine za_aload_n hc dM_least_131 rfl ?_
              refine za_cV0i hc gsM_98 zob_62 (cM_isBand_ l M_121 v1 hh0 hB2) ⟨rfl, rfl⟩ ⟨Nat.le_of_ble_eq_true rfl, Nat.le_of_ble_eq_true rfl⟩ ⟨Nat.zero_le _, Nat.zero_le _⟩ dM_least_132 (fun x_132 M_132 h_132 => ?_)
              obtain ⟨b0, b1, hm_132⟩ := h_132
              rw [hm_132]
              refine za_if_eq 149 hc dM_least_135 rfl (fun h_135 => ?_) (fun h_135 => ?_)
              · skip
                have hnb : gNb row := g_nb (List.mem_of_getElem? hh0) hrz (fun z => absurd (b1.mpr z) (by rw [h_135]; decide))
                refine za_aload_n hc dM_least_149 rfl ?_
                refine za_iload_n hc dM_least_150 rfl ?_
                refine za_i2l hc dM_least_151 ?_
                refine za_iload_n hc dM_least_152 rfl ?_
                refine za_i2l hc dM_least_153 ?_
                refine za_cV2v hc gsM_255 zob_62 (cM_ofCorners_ l M_121 f.toInt64 g.toInt64 v1 hB1 hnb hsat hf6 hg6 hF4.2.2.2.1) ⟨rfl, rfl⟩ ⟨Nat.le_of_ble_eq_true rfl, Nat.le_of_ble_eq_true rfl⟩ ⟨Nat.zero_le _, Nat.zero_le _⟩ dM_least_154 (fun M_154 h_154 => ?_)
                obtain ⟨o1, o2, o3, o4, o5⟩ := h_154
                rw [i2l_int, i2l_int] at o1
                have hF5 : lF M M_154 := hF4.f62 o4 o5 (by decide) o3
                first
                | exact AFTER h_86 M_143 o1 o2 ((o4 25 (by decide)).1.trans c25) ((o4 26 (by decide)).2.trans c26) ((o4 27 (by decide)).2.trans c27) ((o4 0 (by decide)).1.trans c0) hF5
                | exact AFTER h_86 M_154 o1 o2 ((o4 25 (by decide)).1.trans c25) ((o4 26 (by decide)).2.trans c26) ((o4 27 (by decide)).2.trans c27) ((o4 0 (by decide)).1.trans c0) hF5
              · skip
                have hall := b1.mp (b0.resolve_left h_135)
                have hcr : ∀ h1, row[0]? = some h1 → ∀ q ∈ row, gcr h1 q = 0 := fun h1 z => by rw [hh0] at z; cases z; exact hall
                refine za_aload_n hc dM_least_138 rfl ?_
                refine za_iload_n hc dM_least_139 rfl ?_
                refine za_i2l hc dM_least_140 ?_
                refine za_iload_n hc dM_least_141 rfl ?_
                refine za_i2l hc dM_least_142 ?_
                refine za_cV2v hc gsM_251 zob_62 (cM_ofBand_ l M_121 f.toInt64 g.toInt64 v1 hB2 hrz hcr hsat hf6 hg6 hF4.2.2.2.1) ⟨rfl, rfl⟩ ⟨Nat.le_of_ble_eq_true rfl, Nat.le_of_ble_eq_true rfl⟩ ⟨Nat.zero_le _, Nat.zero_le _⟩ dM_least_143 (fun M_143 h_143 => ?_)
                obtain ⟨o1, o2, o3, o4, o5⟩ := h_143
                rw [i2l_int, i2l_int] at o1
                have hF5 : lF M M_143 := hF4.f62 o4 o5 (by decide) o3
                refine za_goto 157 hc dM_least_146 rfl ?_
                first
                | exact AFTER h_86 M_143 o1 o2 ((o4 25 (by decide)).1.trans c25) ((o4 26 (by decide)).2.trans c26) ((o4 27 (by decide)).2.trans c27) ((o4 0 (by decide)).1.trans c0) hF5
                | exact AFTER h_86 M_154 o1 o2 ((o4 25 (by decide)).1.trans c25) ((o4 26 (by decide)).2.trans c26) ((o4 27 (by decide)).2.trans c27) ((o4 0 (by decide)).1.trans c0) hF5
    exact LOOP P 0 N0 rfl (by omega) (Or.inl ⟨hn25, rfl⟩) hn0 hnF
  refine za_aload_n hc dM_least_0 rfl ?_
  refine za_aload_n hc dM_least_1 rfl ?_
  refine za_getI hc gfM_220 zob_62 dM_least_2 ?_
  rw [hp]
  refine za_iconst hc 1 dM_least_5 rfl ?_
  refine za_icmp_ge 13 hc dM_least_6 rfl (fun h_6 => ?_) (fun h_6 => ?_)
  · skip
    have h1 : 1 ≤ h := (nI_lt1 hh).mp h_6
    refine za_iload_n hc dM_least_13 rfl ?_
    refine za_bipush hc (-100) dM_least_14 rfl ?_
    refine za_icmp_lt 37 hc dM_least_16 rfl (fun h_16 => ?_) (fun h_16 => ?_)
    · skip
      have hbad : gBadF f g := Or.inl (f_far1 h_16)
      refine za_iconst hc 2 dM_least_37 rfl ?_
      refine za_goto 42 hc dM_least_38 rfl ?_
      refine za_putI hc gpM_66 zob_62 dM_least_42 ?_
      refine za_aload_n hc dM_least_45 rfl ?_
      refine za_getI hc gfM_66 zob_62 dM_least_46 ?_
      rw [zI_s, if_pos rfl]
      refine za_if_le 54 hc dM_least_49 rfl (fun h_49 => ?_) (fun h_49 => ?_)
      · skip
        exact absurd h_49 (by decide)
      · skip
        refine za_iconst hc 0 dM_least_52 rfl ?_
        exact za_iret hc rfl dM_least_53 ⟨Nat.zero_le _, Nat.zero_le _⟩ (⟨_, rfl, fun z => absurd z (by omega), fun _ => ⟨fun _ => ⟨rfl, rfl⟩, fun z => absurd hbad z⟩⟩)
    · skip
      refine za_iload_n hc dM_least_19 rfl ?_
      refine za_bipush hc 100 dM_least_20 rfl ?_
      refine za_icmp_gt 37 hc dM_least_22 rfl (fun h_22 => ?_) (fun h_22 => ?_)
      · skip
        have hbad : gBadF f g := Or.inl (f_far2 h_22)
        refine za_iconst hc 2 dM_least_37 rfl ?_
        refine za_goto 42 hc dM_least_38 rfl ?_
        refine za_putI hc gpM_66 zob_62 dM_least_42 ?_
        refine za_aload_n hc dM_least_45 rfl ?_
        refine za_getI hc gfM_66 zob_62 dM_least_46 ?_
        rw [zI_s, if_pos rfl]
        refine za_if_le 54 hc dM_least_49 rfl (fun h_49 => ?_) (fun h_49 => ?_)
        · skip
          exact absurd h_49 (by decide)
        · skip
          refine za_iconst hc 0 dM_least_52 rfl ?_
          exact za_iret hc rfl dM_least_53 ⟨Nat.zero_le _, Nat.zero_le _⟩ (⟨_, rfl, fun z => absurd z (by omega), fun _ => ⟨fun _ => ⟨rfl, rfl⟩, fun z => absurd hbad z⟩⟩)
      · skip
        refine za_iload_n hc dM_least_25 rfl ?_
        refine za_bipush hc (-100) dM_least_26 rfl ?_
        refine za_icmp_lt 37 hc dM_least_28 rfl (fun h_28 => ?_) (fun h_28 => ?_)
        · skip
          have hbad : gBadF f g := Or.inr (f_far1 h_28)
          refine za_iconst hc 2 dM_least_37 rfl ?_
          refine za_goto 42 hc dM_least_38 rfl ?_
          refine za_putI hc gpM_66 zob_62 dM_least_42 ?_
          refine za_aload_n hc dM_least_45 rfl ?_
          refine za_getI hc gfM_66 zob_62 dM_least_46 ?_
          rw [zI_s, if_pos rfl]
          refine za_if_le 54 hc dM_least_49 rfl (fun h_49 => ?_) (fun h_49 => ?_)
          · skip
            exact absurd h_49 (by decide)
          · skip
            refine za_iconst hc 0 dM_least_52 rfl ?_
            exact za_iret hc rfl dM_least_53 ⟨Nat.zero_le _, Nat.zero_le _⟩ (⟨_, rfl, fun z => absurd z (by omega), fun _ => ⟨fun _ => ⟨rfl, rfl⟩, fun z => absurd hbad z⟩⟩)
        · skip
          refine za_iload_n hc dM_least_31 rfl ?_
          refine za_bipush hc 100 dM_least_32 rfl ?_
          refine za_icmp_le 41 hc dM_least_34 rfl (fun h_34 => ?_) (fun h_34 => ?_)
          · skip
            have hok : ¬ gBadF f g := fun z => z.elim (fun w => w (f_far h_16 h_22)) (fun w => w (f_far h_28 (Int32.not_lt.mpr h_34)))
            refine za_iconst hc 0 dM_least_41 rfl ?_
            refine za_putI hc gpM_66 zob_62 dM_least_42 ?_
            refine za_aload_n hc dM_least_45 rfl ?_
            refine za_getI hc gfM_66 zob_62 dM_least_46 ?_
            rw [zI_s, if_pos rfl]
            refine za_if_le 54 hc dM_least_49 rfl (fun h_49 => ?_) (fun h_49 => ?_)
            · skip
              refine za_aload_n hc dM_least_54 rfl ?_
              refine za_iconst hc 3 dM_least_55 rfl ?_
              refine za_putI hc gpM_245 zob_62 dM_least_56 ?_
              refine za_aload_n hc dM_least_59 rfl ?_
              refine za_iconst hc 0 dM_least_60 rfl ?_
              refine za_putZ hc gpM_248 zob_62 (nz01 (by first | exact Or.inl rfl | exact Or.inr rfl)) dM_least_61 ?_
              refine za_iconst hc 0 dM_least_64 rfl ?_
              refine za_istore_n hc dM_least_65 (by decide) ?_
              exact MAIN h1 hok (zsI (zsI (zsI M 62 0 0) 62 25 3) 62 28 0) (by rw [zI_s, if_neg (by decide), zI_s, if_neg (by decide), zI_s, if_pos rfl]) (by rw [zI_s, if_neg (by decide), zI_s, if_pos rfl]) ((((lF.ofF hF0).sI (by decide) (by decide) (by decide)).sI (by decide) (by decide) (by decide)).sI (by decide) (by decide) (by decide))
            · skip
              exact absurd (Int32.le_refl _) h_49
          · skip
            have hbad : gBadF f g := Or.inr (f_far2 (Int32.not_le.mp h_34))
            refine za_iconst hc 2 dM_least_37 rfl ?_
            refine za_goto 42 hc dM_least_38 rfl ?_
            refine za_putI hc gpM_66 zob_62 dM_least_42 ?_
            refine za_aload_n hc dM_least_45 rfl ?_
            refine za_getI hc gfM_66 zob_62 dM_least_46 ?_
            rw [zI_s, if_pos rfl]
            refine za_if_le 54 hc dM_least_49 rfl (fun h_49 => ?_) (fun h_49 => ?_)
            · skip
              exact absurd h_49 (by decide)
            · skip
              refine za_iconst hc 0 dM_least_52 rfl ?_
              exact za_iret hc rfl dM_least_53 ⟨Nat.zero_le _, Nat.zero_le _⟩ (⟨_, rfl, fun z => absurd z (by omega), fun _ => ⟨fun _ => ⟨rfl, rfl⟩, fun z => absurd hbad z⟩⟩)
  · skip
    have h0 : h = 0 := by have : ¬ 1 ≤ h := fun z => h_6 ((nI_lt1 hh).mpr z); omega
    refine za_iconst hc 1 dM_least_9 rfl ?_
    refine za_goto 42 hc dM_least_10 rfl ?_
    refine za_putI hc gpM_66 zob_62 dM_least_42 ?_
    refine za_aload_n hc dM_least_45 rfl ?_
    refine za_getI hc gfM_66 zob_62 dM_least_46 ?_
    rw [zI_s, if_pos rfl]
    refine za_if_le 54 hc dM_least_49 rfl (fun h_49 => ?_) (fun h_49 => ?_)
    · skip
      exact absurd h_49 (by decide)
    · skip
      refine za_iconst hc 0 dM_least_52 rfl ?_
      exact za_iret hc rfl dM_least_53 ⟨Nat.zero_le _, Nat.zero_le _⟩ (⟨_, rfl, fun _ => ⟨rfl, rfl⟩, fun z => absurd z (by omega)⟩)
