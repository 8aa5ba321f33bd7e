/-! The model: ofCorners. -/
def kI : List Nat := [29, 30, 31, 32, 33, 40, 41, 42, 43]
theorem cmpS_or (a b : Int) : (cmpS a b = -1 ∧ a < b) ∨ (cmpS a b = 0 ∧ a = b) ∨ (cmpS a b = 1 ∧ b < a) := by
  unfold cmpS
  by_cases h : a < b
  · rw [if_pos h]; exact Or.inl ⟨rfl, h⟩
  · rw [if_neg h]
    by_cases h2 : a = b
    · rw [if_pos h2]; exact Or.inr (Or.inl ⟨rfl, h2⟩)
    · rw [if_neg h2]; exact Or.inr (Or.inr ⟨rfl, by omega⟩)
theorem lb_0or (x : Int64) : (0 : Int64) ||| x = x := lb_ext (fun k => by rw [lb_or, lb_zero]; rfl)
theorem oEnd2 {ls : List gC} {f g : Int} {M M2 : zM} {t : Int32} (hk : mK kI M M2) (hf : zfr m62 M M2) (h3 : m3640 M2) (ht : t = 0 ∨ t = 1) (hr : gRowA ls f g (zI M2 62 40) t (zJ M2 62 42).toInt (zJ M2 62 43).toInt) : oQ ls f g M (zsI M2 62 41 t) := by
  refine ⟨?_, ?_, m3640_k h3 (mK_sI (I := [41]) (by decide)) (by decide) (by decide), (hk.wk (by decide)).tr (mK_sI (by decide)), hf.tr (zfr_sI (P := m62) rfl)⟩
  · rw [zI_s, if_neg (by decide), zI_s, if_pos rfl]; exact hr
  · rw [zI_s, if_pos rfl]; exact ht
theorem l_fw {p : gC} {b : Int32} {X Y : Int} (bp : gBd 10000 p) (w1 : gwi p b X Y) : (-200000000 ≤ X ∧ X ≤ 200000000) ∧ (-200000000 ≤ Y ∧ Y ≤ 200000000) := by
  have b1 := bp.1; have b2 := bp.2.1; unfold gwi at w1; split at w1 <;> omega
theorem b0_l {x : Int64} {v : Int} (h : x.toInt = v) : (x < 0 ↔ v < 0) ∧ (x = 0 ↔ v = 0) := by
  have z0 : (0 : Int64).toInt = 0 := rfl
  refine ⟨by rw [Int64.lt_iff_toInt_lt, z0, h], by rw [← t0_iff, h]⟩
theorem l_fxy {f g X Y : Int} (hf : f.natAbs ≤ 100) (hg : g.natAbs ≤ 100) (b1 : -200000000 ≤ X ∧ X ≤ 200000000) (b2 : -200000000 ≤ Y ∧ Y ≤ 200000000) : -40000000000 ≤ f * X + g * Y ∧ f * X + g * Y ≤ 40000000000 := by
  have e1 : (f * X).natAbs ≤ 100 * 200000000 := by rw [Int.natAbs_mul]; exact Nat.mul_le_mul hf (by omega)
  have e2 : (g * Y).natAbs ≤ 100 * 200000000 := by rw [Int.natAbs_mul]; exact Nat.mul_le_mul hg (by omega)
  omega

set_option maxRecDepth 100000 in
set_option maxHeartbeats 4000000 in
theorem cM_ofCorners_ (l : Launch) {ls : List gC} (M : zM) (f g : Int64) (hH : qH M ls) (hB : ∀ q ∈ ls, gBd 10000 q) (hnb : gNb ls) (hsat : gSat ls) (hf : f.toInt.natAbs ≤ 100) (hg : g.toInt.natAbs ≤ 100) (h30 : m3640 M) : zMet l mM_ofCorners rM_ofCorners [.ref 62, .long f, .long g] M (zqv (fun M' => oQ ls f.toInt g.toInt M M')) := by
  refine za_enter (by decide) (Nat.le_of_ble_eq_true rfl) (fun X hc => ?_)
  have a77 := ar_77
  have a78 := ar_78
  have a79 := ar_79
  have a80 := ar_80
  have hl := hH.2.1
  have hfB : -10000 ≤ f.toInt ∧ f.toInt ≤ 10000 := by omega
  have hgB : -10000 ≤ g.toInt ∧ g.toInt ≤ 10000 := by omega
  have WAYS : ∀ (b v : Int32) (N D : Int) (set0 : Int64), gBnd ls f.toInt g.toInt (2 * ls.length) b → gHitF ls f.toInt g.toInt (fun _ _ => True) v N D set0 → gSndF ls f.toInt g.toInt v N D set0 → ∀ (n i : Nat) (set : Int64) (M1 : zM), n + i = 2 * ls.length → (∀ k, lb set0 k = true → lb set k = true) → gWitF ls f.toInt g.toInt i set → gSnW ls f.toInt g.toInt N D set → zI M1 62 40 = b → (zJ M1 62 42).toInt = N → (zJ M1 62 43).toInt = D → mK kI M M1 → zfr m62 M M1 → zW X (zqv (fun M' => oQ ls f.toInt g.toInt M M')) (0, 0) 216 [(0, .ref 62), (1, .long f), (3, .long g), (5, .int v), (6, .long set), (8, .int (nI i))] [] M1 := by
    intro b v N D set0 hbn hhit hsnd n
    induction n with
    | zero =>
      intro i set M1 hn hsub hwit hsn e40 e42 e43 hk1 hf1
      have hH1 : qH M1 ls := qH_62 hH hf1 (hk1 19 (by decide)).1
      refine za_iload hc dM_ofCorners_216 rfl ?_
      refine za_iconst hc 2 dM_ofCorners_218 rfl ?_
      refine za_aload_n hc dM_ofCorners_219 rfl ?_
      refine za_getI hc gfM_73 zob_62 dM_ofCorners_220 ?_
      rw [hH1.1]
      refine za_imul hc dM_ofCorners_223 ?_
      rw [show (2 : Int32) = nI 2 from rfl, pk_mul]
      refine za_icmp_ge 284 hc dM_ofCorners_224 rfl (fun h_224 => ?_) (fun h_224 => ?_)
      · skip
        refine za_aload_n hc dM_ofCorners_284 rfl ?_
        refine za_lload hc dM_ofCorners_285 rfl ?_
        refine za_aload_n hc dM_ofCorners_287 rfl ?_
        refine za_cV0l hc gsM_120 zob_62 (cM_strictOnes_ l M1 hH1) ⟨rfl, rfl⟩ ⟨Nat.le_of_ble_eq_true rfl, Nat.le_of_ble_eq_true rfl⟩ ⟨Nat.zero_le _, Nat.zero_le _⟩ dM_ofCorners_288 (fun x_288 M_288 h_288 => ?_)
        obtain ⟨q_288, hm_288⟩ := h_288
        rw [hm_288]
        have hwit2 : gWitF ls f.toInt g.toInt (2 * ls.length) set := by rw [show 2 * ls.length = i by omega]; exact hwit
        refine za_lcmp_ne 299 hc dM_ofCorners_291 dM_ofCorners_292 rfl (fun h_291 => ?_) (fun h_291 => ?_)
        · skip
          refine za_iconst hc 0 dM_ofCorners_299 rfl ?_
          refine za_putZ hc gpM_236 zob_62 (nz01 (by first | exact Or.inl rfl | exact Or.inr rfl)) dM_ofCorners_300 ?_
          exact za_vret hc rfl dM_ofCorners_303 ⟨Nat.zero_le _, Nat.zero_le _⟩ (by first | exact ⟨rfl, oEnd2 hk1 hf1 ⟨by rw [(hk1 36 (by decide)).1]; exact h30.1, by rw [(hk1 39 (by decide)).1]; exact h30.2⟩ (Or.inr rfl) (g_told hnb hsat (by rw [e40]; exact hbn) (by rw [e42, e43]; exact hhit) (by rw [e42, e43]; exact hsnd) hsub hwit2 (by rw [e42, e43]; exact hsn) q_288 ⟨fun _ => h_291, fun _ => rfl⟩)⟩ | exact ⟨rfl, oEnd2 hk1 hf1 ⟨by rw [(hk1 36 (by decide)).1]; exact h30.1, by rw [(hk1 39 (by decide)).1]; exact h30.2⟩ (Or.inl rfl) (g_told hnb hsat (by rw [e40]; exact hbn) (by rw [e42, e43]; exact hhit) (by rw [e42, e43]; exact hsnd) hsub hwit2 (by rw [e42, e43]; exact hsn) q_288 ⟨fun z => absurd z (by decide), fun z => absurd z h_291⟩)⟩)
        · skip
          refine za_iconst hc 1 dM_ofCorners_295 rfl ?_
          refine za_goto 300 hc dM_ofCorners_296 rfl ?_
          refine za_putZ hc gpM_236 zob_62 (nz01 (by first | exact Or.inl rfl | exact Or.inr rfl)) dM_ofCorners_300 ?_
          exact za_vret hc rfl dM_ofCorners_303 ⟨Nat.zero_le _, Nat.zero_le _⟩ (by first | exact ⟨rfl, oEnd2 hk1 hf1 ⟨by rw [(hk1 36 (by decide)).1]; exact h30.1, by rw [(hk1 39 (by decide)).1]; exact h30.2⟩ (Or.inr rfl) (g_told hnb hsat (by rw [e40]; exact hbn) (by rw [e42, e43]; exact hhit) (by rw [e42, e43]; exact hsnd) hsub hwit2 (by rw [e42, e43]; exact hsn) q_288 ⟨fun _ => h_291, fun _ => rfl⟩)⟩ | exact ⟨rfl, oEnd2 hk1 hf1 ⟨by rw [(hk1 36 (by decide)).1]; exact h30.1, by rw [(hk1 39 (by decide)).1]; exact h30.2⟩ (Or.inl rfl) (g_told hnb hsat (by rw [e40]; exact hbn) (by rw [e42, e43]; exact hhit) (by rw [e42, e43]; exact hsnd) hsub hwit2 (by rw [e42, e43]; exact hsn) q_288 ⟨fun z => absurd z (by decide), fun z => absurd z h_291⟩)⟩)
      · skip
        exact absurd ((nI_leI (by omega) (by omega)).mpr (show 2 * ls.length ≤ i by omega)) h_224
    | succ n ih =>
      intro i set M1 hn hsub hwit hsn e40 e42 e43 hk1 hf1
      have hH1 : qH M1 ls := qH_62 hH hf1 (hk1 19 (by decide)).1
      have hi2 : i / 2 < ls.length := by omega
      have hri := List.getElem?_eq_getElem (l := ls) hi2
      generalize hme : ls[i / 2] = p at hri
      refine za_iload hc dM_ofCorners_216 rfl ?_
      refine za_iconst hc 2 dM_ofCorners_218 rfl ?_
      refine za_aload_n hc dM_ofCorners_219 rfl ?_
      refine za_getI hc gfM_73 zob_62 dM_ofCorners_220 ?_
      rw [hH1.1]
      refine za_imul hc dM_ofCorners_223 ?_
      rw [show (2 : Int32) = nI 2 from rfl, pk_mul]
      refine za_icmp_ge 284 hc dM_ofCorners_224 rfl (fun h_224 => ?_) (fun h_224 => ?_)
      · skip
        exact absurd ((nI_leI (by omega) (by omega)).mp h_224) (by omega)
      · skip
        refine za_aload_n hc dM_ofCorners_227 rfl ?_
        refine za_iload hc dM_ofCorners_228 rfl ?_
        refine za_iconst hc 2 dM_ofCorners_230 rfl ?_
        refine za_idiv hc dM_ofCorners_231 (by decide) ?_
        rw [show (2 : Int32) = nI 2 from rfl, pk_div (by omega) (by decide) (by decide)]
        refine za_iload hc dM_ofCorners_232 rfl ?_
        refine za_iconst hc 2 dM_ofCorners_234 rfl ?_
        refine za_irem hc dM_ofCorners_235 (by decide) ?_
        rw [show (2 : Int32) = nI 2 from rfl, pk_rem (by omega) (by decide) (by decide)]
        refine za_iconst hc 1 dM_ofCorners_236 rfl ?_
        refine za_icmp_ne 244 hc dM_ofCorners_237 rfl (fun h_237 => ?_) (fun h_237 => ?_)
        · skip
          have hev : ¬ i % 2 = 1 := fun z => h_237 (by rw [z]; rfl)
          refine za_iconst hc 0 dM_ofCorners_244 rfl ?_
          refine za_cV2i hc gsM_113 zob_62 (cM_way_ l M1 (i := i / 2) 0 hH1 hB hri) ⟨rfl, rfl⟩ ⟨Nat.le_of_ble_eq_true rfl, Nat.le_of_ble_eq_true rfl⟩ ⟨Nat.zero_le _, Nat.zero_le _⟩ dM_ofCorners_245 (fun x_245 M_245 h_245 => ?_)
          obtain ⟨w0, w1, w2, w3, w4⟩ := h_245
          have hk2 := hk1.tr (w3.wk (by decide))
          have hf2 := hf1.tr w4
          have hH2 : qH M_245 ls := qH_62 hH hf2 (hk2 19 (by decide)).1
          have bp := hB p (List.mem_of_getElem? hri)
          have hbv : (0 : Int32) = if i % 2 = 1 then 1 else 0 := by rw [if_neg hev]
          have bX := l_fw bp w1
          have lw := b0_l (l_lin (a := f) (b := g) hfB hgB bX.1 bX.2)
          have e40b : zI M_245 62 40 = zI M1 62 40 := (w3 40 (by decide)).1
          have e42b : zJ M_245 62 42 = zJ M1 62 42 := (w3 42 (by decide)).2
          have e43b : zJ M_245 62 43 = zJ M1 62 43 := (w3 43 (by decide)).2
          refine za_if_eq 278 hc dM_ofCorners_248 rfl (fun h_248 => ?_) (fun h_248 => ?_)
          · skip
            have hx0 := h_248
            refine za_iinc hc _ dM_ofCorners_278 rfl ((nI_succ i).symm) (by decide) ?_
            refine za_goto 216 hc dM_ofCorners_281 rfl ?_
            exact ih (i + 1) set M_245 (by omega) hsub (gWitF_step hwit hri hbv w1 (fun k hk => hk) (fun z => absurd (w2.mpr z) (by rw [hx0]; decide))) hsn (e40b.trans e40) (by rw [e42b]; exact e42) (by rw [e43b]; exact e43) hk2 hf2
          · skip
            have hx1 : x_245 = 1 := w0.resolve_left h_248
            refine za_lload_n hc dM_ofCorners_251 rfl ?_
            refine za_aload_n hc dM_ofCorners_252 rfl ?_
            refine za_getJ hc gfM_92 zob_62 dM_ofCorners_253 ?_
            refine za_lmul hc dM_ofCorners_256 ?_
            refine za_lload_n hc dM_ofCorners_257 rfl ?_
            refine za_aload_n hc dM_ofCorners_258 rfl ?_
            refine za_getJ hc gfM_95 zob_62 dM_ofCorners_259 ?_
            refine za_lmul hc dM_ofCorners_262 ?_
            refine za_ladd hc dM_ofCorners_263 ?_
            refine za_lconst hc 0 dM_ofCorners_264 rfl ?_
            refine za_lcmp_ne 278 hc dM_ofCorners_265 dM_ofCorners_266 rfl (fun h_265 => ?_) (fun h_265 => ?_)
            · skip
              have hnz0 := h_265
              refine za_iinc hc _ dM_ofCorners_278 rfl ((nI_succ i).symm) (by decide) ?_
              refine za_goto 216 hc dM_ofCorners_281 rfl ?_
              exact ih (i + 1) set M_245 (by omega) hsub (gWitF_step hwit hri hbv w1 (fun k hk => hk) (fun _ z => absurd (lw.2.mpr z) hnz0)) hsn (e40b.trans e40) (by rw [e42b]; exact e42) (by rw [e43b]; exact e43) hk2 hf2
            · skip
              have hzz := h_265
              refine za_lload hc dM_ofCorners_269 rfl ?_
              refine za_aload_n hc dM_ofCorners_271 rfl ?_
              refine za_cV0l hc gsM_117 zob_62 (cM_inWay_ l M_245 hH2 hB bX.1 bX.2) ⟨rfl, rfl⟩ ⟨Nat.le_of_ble_eq_true rfl, Nat.le_of_ble_eq_true rfl⟩ ⟨Nat.zero_le _, Nat.zero_le _⟩ dM_ofCorners_272 (fun x_272 M_272 h_272 => ?_)
              obtain ⟨q_272, hm_272⟩ := h_272
              rw [hm_272]
              refine za_lor hc dM_ofCorners_275 ?_
              refine za_lstore hc dM_ofCorners_276 (by decide) ?_
              refine za_iinc hc _ dM_ofCorners_278 rfl ((nI_succ i).symm) (by decide) ?_
              refine za_goto 216 hc dM_ofCorners_281 rfl ?_
              refine ih (i + 1) _ M_245 (by omega) (fun k hk => by rw [lb_or, hsub k hk]; rfl) (gWitF_step hwit hri hbv w1 (fun k hk => by rw [lb_or, hk]; rfl) (fun _ _ k m b1 b2 b3 => by rw [lb_or, Bool.or_eq_true]; exact Or.inr ((q_272 k).mpr ⟨m, b1, b2, b3⟩))) (fun k hk => ?_) (e40b.trans e40) (by rw [e42b]; exact e42) (by rw [e43b]; exact e43) hk2 hf2
              rw [lb_or, Bool.or_eq_true] at hk
              rcases hk with hk | hk
              · exact hsn k hk
              · obtain ⟨m, m1, m2, m3⟩ := (q_272 k).mp hk
                exact ⟨m, m1, m2, Or.inr ⟨_, _, gWay_of (List.mem_of_getElem? hri) w1 (w2.mp hx1), by rw [gVal_int, lw.2.mp hzz]; rfl, by rw [gv_int]; exact Rat.intCast_neg_iff.mpr m3⟩⟩
        · skip
          have hod : i % 2 = 1 := by
            have := (nI_leI (a := i % 2) (b := 1) (by omega) (by decide)).mp (by rw [h_237]; exact Int32.le_refl _)
            have t2 := (nI_leI (a := 1) (b := i % 2) (by decide) (by omega)).mp (by rw [h_237]; exact Int32.le_refl _)
            omega
          refine za_iconst hc 1 dM_ofCorners_240 rfl ?_
          refine za_goto 245 hc dM_ofCorners_241 rfl ?_
          refine za_cV2i hc gsM_113 zob_62 (cM_way_ l M1 (i := i / 2) 1 hH1 hB hri) ⟨rfl, rfl⟩ ⟨Nat.le_of_ble_eq_true rfl, Nat.le_of_ble_eq_true rfl⟩ ⟨Nat.zero_le _, Nat.zero_le _⟩ dM_ofCorners_245 (fun x_245 M_245 h_245 => ?_)
          obtain ⟨w0, w1, w2, w3, w4⟩ := h_245
          have hk2 := hk1.tr (w3.wk (by decide))
          have hf2 := hf1.tr w4
          have hH2 : qH M_245 ls := qH_62 hH hf2 (hk2 19 (by decide)).1
          have bp := hB p (List.mem_of_getElem? hri)
          have hbv : (1 : Int32) = if i % 2 = 1 then 1 else 0 := by rw [if_pos hod]
          have bX := l_fw bp w1
          have lw := b0_l (l_lin (a := f) (b := g) hfB hgB bX.1 bX.2)
          have e40b : zI M_245 62 40 = zI M1 62 40 := (w3 40 (by decide)).1
          have e42b : zJ M_245 62 42 = zJ M1 62 42 := (w3 42 (by decide)).2
          have e43b : zJ M_245 62 43 = zJ M1 62 43 := (w3 43 (by decide)).2
          refine za_if_eq 278 hc dM_ofCorners_248 rfl (fun h_248 => ?_) (fun h_248 => ?_)
          · skip
            have hx0 := h_248
            refine za_iinc hc _ dM_ofCorners_278 rfl ((nI_succ i).symm) (by decide) ?_
            refine za_goto 216 hc dM_ofCorners_281 rfl ?_
            exact ih (i + 1) set M_245 (by omega) hsub (gWitF_step hwit hri hbv w1 (fun k hk => hk) (fun z => absurd (w2.mpr z) (by rw [hx0]; decide))) hsn (e40b.trans e40) (by rw [e42b]; exact e42) (by rw [e43b]; exact e43) hk2 hf2
          · skip
            have hx1 : x_245 = 1 := w0.resolve_left h_248
            refine za_lload_n hc dM_ofCorners_251 rfl ?_
            refine za_aload_n hc dM_ofCorners_252 rfl ?_
            refine za_getJ hc gfM_92 zob_62 dM_ofCorners_253 ?_
            refine za_lmul hc dM_ofCorners_256 ?_
            refine za_lload_n hc dM_ofCorners_257 rfl ?_
            refine za_aload_n hc dM_ofCorners_258 rfl ?_
            refine za_getJ hc gfM_95 zob_62 dM_ofCorners_259 ?_
            refine za_lmul hc dM_ofCorners_262 ?_
            refine za_ladd hc dM_ofCorners_263 ?_
            refine za_lconst hc 0 dM_ofCorners_264 rfl ?_
            refine za_lcmp_ne 278 hc dM_ofCorners_265 dM_ofCorners_266 rfl (fun h_265 => ?_) (fun h_265 => ?_)
            · skip
              have hnz0 := h_265
              refine za_iinc hc _ dM_ofCorners_278 rfl ((nI_succ i).symm) (by decide) ?_
              refine za_goto 216 hc dM_ofCorners_281 rfl ?_
              exact ih (i + 1) set M_245 (by omega) hsub (gWitF_step hwit hri hbv w1 (fun k hk => hk) (fun _ z => absurd (lw.2.mpr z) hnz0)) hsn (e40b.trans e40) (by rw [e42b]; exact e42) (by rw [e43b]; exact e43) hk2 hf2
            · skip
              have hzz := h_265
              refine za_lload hc dM_ofCorners_269 rfl ?_
              refine za_aload_n hc dM_ofCorners_271 rfl ?_
              refine za_cV0l hc gsM_117 zob_62 (cM_inWay_ l M_245 hH2 hB bX.1 bX.2) ⟨rfl, rfl⟩ ⟨Nat.le_of_ble_eq_true rfl, Nat.le_of_ble_eq_true rfl⟩ ⟨Nat.zero_le _, Nat.zero_le _⟩ dM_ofCorners_272 (fun x_272 M_272 h_272 => ?_)
              obtain ⟨q_272, hm_272⟩ := h_272
              rw [hm_272]
              refine za_lor hc dM_ofCorners_275 ?_
              refine za_lstore hc dM_ofCorners_276 (by decide) ?_
              refine za_iinc hc _ dM_ofCorners_278 rfl ((nI_succ i).symm) (by decide) ?_
              refine za_goto 216 hc dM_ofCorners_281 rfl ?_
              refine ih (i + 1) _ M_245 (by omega) (fun k hk => by rw [lb_or, hsub k hk]; rfl) (gWitF_step hwit hri hbv w1 (fun k hk => by rw [lb_or, hk]; rfl) (fun _ _ k m b1 b2 b3 => by rw [lb_or, Bool.or_eq_true]; exact Or.inr ((q_272 k).mpr ⟨m, b1, b2, b3⟩))) (fun k hk => ?_) (e40b.trans e40) (by rw [e42b]; exact e42) (by rw [e43b]; exact e43) hk2 hf2
              rw [lb_or, Bool.or_eq_true] at hk
              rcases hk with hk | hk
              · exact hsn k hk
              · obtain ⟨m, m1, m2, m3⟩ := (q_272 k).mp hk
                exact ⟨m, m1, m2, Or.inr ⟨_, _, gWay_of (List.mem_of_getElem? hri) w1 (w2.mp hx1), by rw [gVal_int, lw.2.mp hzz]; rfl, by rw [gv_int]; exact Rat.intCast_neg_iff.mpr m3⟩⟩
  have CORN : ∀ (b : Int32), gBnd ls f.toInt g.toInt (2 * ls.length) b → ∀ (n i : Nat) (v : Int32) (N D : Int) (set : Int64) (M1 : zM), n + i = ls.length → gHitF ls f.toInt g.toInt (fun a _ => a < i) v N D set → gSndF ls f.toInt g.toInt v N D set → zI M1 62 40 = b → (zJ M1 62 42).toInt = N → (zJ M1 62 43).toInt = D → mK kI M M1 → zfr m62 M M1 → zW X (zqv (fun M' => oQ ls f.toInt g.toInt M M')) (0, 0) 81 [(0, .ref 62), (1, .long f), (3, .long g), (5, .int v), (6, .long set), (8, .int (nI i))] [] M1 := by
    intro b hbn n
    induction n with
    | zero =>
      intro i v N D set M1 hn hhit hsnd e40 e42 e43 hk1 hf1
      have hH1 : qH M1 ls := qH_62 hH hf1 (hk1 19 (by decide)).1
      have hhit2 : gHitF ls f.toInt g.toInt (fun _ _ => True) v N D set := fun a b p q _ hab ha hb => hhit a b p q (by have := (List.getElem?_eq_some_iff.mp ha).1; omega) hab ha hb
      refine za_iload hc dM_ofCorners_81 rfl ?_
      refine za_aload_n hc dM_ofCorners_83 rfl ?_
      refine za_getI hc gfM_73 zob_62 dM_ofCorners_84 ?_
      rw [hH1.1]
      refine za_icmp_ge 213 hc dM_ofCorners_87 rfl (fun h_87 => ?_) (fun h_87 => ?_)
      · skip
        refine za_iconst hc 0 dM_ofCorners_213 rfl ?_
        refine za_istore hc dM_ofCorners_214 (by decide) ?_
        exact WAYS b v N D set hbn hhit2 hsnd (2 * ls.length) 0 set M1 (by omega) (fun k hk => hk) (fun i h => absurd h (by omega)) (fun k hk => by obtain ⟨m, c1, c2, c3⟩ := hsnd.2.2.2 k hk; exact ⟨m, c1, c2, Or.inl c3⟩) e40 e42 e43 hk1 hf1
      · skip
        exact absurd ((nI_leI (by omega) (by omega)).mpr (show ls.length ≤ i by omega)) h_87
    | succ n ih =>
      intro i v N D set M1 hn hhit hsnd e40 e42 e43 hk1 hf1
      have hri := List.getElem?_eq_getElem (l := ls) (show i < ls.length by omega)
      generalize hme : ls[i] = p at hri
      have inner : ∀ (n2 j : Nat) (v : Int32) (N D : Int) (set : Int64) (M1 : zM), n2 + j = ls.length → i < j → gHitF ls f.toInt g.toInt (fun a b => a < i ∨ (a = i ∧ b < j)) v N D set → gSndF ls f.toInt g.toInt v N D set → zI M1 62 40 = b → (zJ M1 62 42).toInt = N → (zJ M1 62 43).toInt = D → mK kI M M1 → zfr m62 M M1 → zW X (zqv (fun M' => oQ ls f.toInt g.toInt M M')) (0, 0) 96 [(0, .ref 62), (1, .long f), (3, .long g), (5, .int v), (6, .long set), (8, .int (nI i)), (9, .int (nI j))] [] M1 := by
        intro n2
        induction n2 with
        | zero =>
          intro j v N D set M1 hm hij hhit hsnd e40 e42 e43 hk1 hf1
          have hH1 : qH M1 ls := qH_62 hH hf1 (hk1 19 (by decide)).1
          refine za_iload hc dM_ofCorners_96 rfl ?_
          refine za_aload_n hc dM_ofCorners_98 rfl ?_
          refine za_getI hc gfM_73 zob_62 dM_ofCorners_99 ?_
          rw [hH1.1]
          refine za_icmp_ge 207 hc dM_ofCorners_102 rfl (fun h_102 => ?_) (fun h_102 => ?_)
          · skip
            refine za_iinc hc _ dM_ofCorners_207 rfl ((nI_succ i).symm) (by decide) ?_
            refine za_goto 81 hc dM_ofCorners_210 rfl ?_
            refine za_take 6 ?_
            refine ih (i + 1) v N D set M1 (by omega) (fun a b p q hP hab ha hb => hhit a b p q ?_ hab ha hb) hsnd e40 e42 e43 hk1 hf1
            have := (List.getElem?_eq_some_iff.mp hb).1
            omega
          · skip
            exact absurd ((nI_leI (by omega) (by omega)).mpr (show ls.length ≤ j by omega)) h_102
        | succ n2 ih2 =>
          intro j v N D set M1 hm hij hhit hsnd e40 e42 e43 hk1 hf1
          have hH1 : qH M1 ls := qH_62 hH hf1 (hk1 19 (by decide)).1
          have hrj := List.getElem?_eq_getElem (l := ls) (show j < ls.length by omega)
          generalize hmj : ls[j] = q at hrj
          refine za_iload hc dM_ofCorners_96 rfl ?_
          refine za_aload_n hc dM_ofCorners_98 rfl ?_
          refine za_getI hc gfM_73 zob_62 dM_ofCorners_99 ?_
          rw [hH1.1]
          refine za_icmp_ge 207 hc dM_ofCorners_102 rfl (fun h_102 => ?_) (fun h_102 => ?_)
          · skip
            exact absurd ((nI_leI (by omega) (by omega)).mp h_102) (by omega)
          · skip
            refine za_aload_n hc dM_ofCorners_105 rfl ?_
            refine za_iload hc dM_ofCorners_106 rfl ?_
            refine za_iload hc dM_ofCorners_108 rfl ?_
            refine za_cV2i hc gsM_105 zob_62 (cM_corner_ l M1 (i := i) (j := j) hH1 hB hri hrj) ⟨rfl, rfl⟩ ⟨Nat.le_of_ble_eq_true rfl, Nat.le_of_ble_eq_true rfl⟩ ⟨Nat.zero_le _, Nat.zero_le _⟩ dM_ofCorners_110 (fun x_110 M_110 h_110 => ?_)
            obtain ⟨w0, w1, w2, w3, w4⟩ := h_110
            have hk2 := hk1.tr (w3.wk (by decide))
            have hf2 := hf1.tr w4
            have hH2 : qH M_110 ls := qH_62 hH hf2 (hk2 19 (by decide)).1
            have e40b : zI M_110 62 40 = b := (w3 40 (by decide)).1.trans e40
            have e42b : (zJ M_110 62 42).toInt = N := by rw [(w3 42 (by decide)).2]; exact e42
            have e43b : (zJ M_110 62 43).toInt = D := by rw [(w3 43 (by decide)).2]; exact e43
            refine za_if_ne 119 hc dM_ofCorners_113 rfl (fun h_113 => ?_) (fun h_113 => ?_)
            · skip
              have hx1 := w0.resolve_left h_113
              have hg0 : gcr p q ≠ 0 := fun z => h_113 (w1 z)
              obtain ⟨w5, w6⟩ := w2 hg0
              have en : (f * (zJ M_110 62 29) + g * (zJ M_110 62 30)).toInt = f.toInt * (zJ M_110 62 29).toInt + g.toInt * (zJ M_110 62 30).toInt := l_lin hfB hgB w5.2.1 w5.2.2.1
              have hpm := List.mem_of_getElem? hri
              have hqm := List.mem_of_getElem? hrj
              have STEP : ∀ w : Int32, ((w = -1 ∧ (v = 0 ∨ (f * (zJ M_110 62 29) + g * (zJ M_110 62 30)).toInt * D < N * (zJ M_110 62 31).toInt)) ∨ (w = 0 ∧ v = 1 ∧ (f * (zJ M_110 62 29) + g * (zJ M_110 62 30)).toInt * D = N * (zJ M_110 62 31).toInt) ∨ (w = 1 ∧ v = 1 ∧ N * (zJ M_110 62 31).toInt < (f * (zJ M_110 62 29) + g * (zJ M_110 62 30)).toInt * D)) → zW X (zqv (fun M' => oQ ls f.toInt g.toInt M M')) (0, 0) 165 [(0, .ref 62), (1, .long f), (3, .long g), (5, .int 1), (6, .long set), (8, .int (nI i)), (9, .int (nI j)), (10, .long (f * (zJ M_110 62 29) + g * (zJ M_110 62 30))), (12, .int w)] [] M_110 := by
                intro w hw
                rw [en] at hw
                rcases hw with ⟨rfl, hlt⟩ | ⟨rfl, hv1, heq⟩ | ⟨rfl, hv1, hgt⟩
                · skip
                  refine za_iload hc dM_ofCorners_165 rfl ?_
                  refine za_if_ge 187 hc dM_ofCorners_167 rfl (fun h_167 => ?_) (fun h_167 => ?_)
                  · skip
                    exact absurd h_167 (by decide)
                  · skip
                    refine za_aload_n hc dM_ofCorners_170 rfl ?_
                    refine za_lload hc dM_ofCorners_171 rfl ?_
                    refine za_putJ hc gpM_239 zob_62 dM_ofCorners_173 ?_
                    refine za_aload_n hc dM_ofCorners_176 rfl ?_
                    refine za_aload_n hc dM_ofCorners_177 rfl ?_
                    refine za_getJ hc gfM_82 zob_62 dM_ofCorners_178 ?_
                    rw [zJ_s, if_neg (by decide)]
                    refine za_putJ hc gpM_242 zob_62 dM_ofCorners_181 ?_
                    refine za_lconst hc 0 dM_ofCorners_184 rfl ?_
                    refine za_lstore hc dM_ofCorners_185 (by decide) ?_
                    have hk3 : mK [42, 43] M_110 (zsJ (zsJ M_110 62 42 (f * (zJ M_110 62 29) + g * (zJ M_110 62 30))) 62 43 (zJ M_110 62 31)) := (mK_sJ (by decide)).tr (mK_sJ (by decide))
                    have hf3 : zfr m62 M_110 (zsJ (zsJ M_110 62 42 (f * (zJ M_110 62 29) + g * (zJ M_110 62 30))) 62 43 (zJ M_110 62 31)) := (zfr_sJ (P := m62) rfl).tr (zfr_sJ (P := m62) rfl)
                    have hH3 : qH (zsJ (zsJ M_110 62 42 (f * (zJ M_110 62 29) + g * (zJ M_110 62 30))) 62 43 (zJ M_110 62 31)) ls := qH_62 hH2 hf3 (hk3 19 (by decide)).1
                    have j29 : zJ (zsJ (zsJ M_110 62 42 (f * (zJ M_110 62 29) + g * (zJ M_110 62 30))) 62 43 (zJ M_110 62 31)) 62 29 = (zJ M_110 62 29) := (hk3 29 (by decide)).2
                    have j30 : zJ (zsJ (zsJ M_110 62 42 (f * (zJ M_110 62 29) + g * (zJ M_110 62 30))) 62 43 (zJ M_110 62 31)) 62 30 = (zJ M_110 62 30) := (hk3 30 (by decide)).2
                    have j31 : zJ (zsJ (zsJ M_110 62 42 (f * (zJ M_110 62 29) + g * (zJ M_110 62 30))) 62 43 (zJ M_110 62 31)) 62 31 = (zJ M_110 62 31) := (hk3 31 (by decide)).2
                    refine za_iload hc dM_ofCorners_187 rfl ?_
                    refine za_if_gt 201 hc dM_ofCorners_189 rfl (fun h_189 => ?_) (fun h_189 => ?_)
                    · skip
                      exact absurd h_189 (by decide)
                    · skip
                      refine za_lload hc dM_ofCorners_192 rfl ?_
                      refine za_aload_n hc dM_ofCorners_194 rfl ?_
                      refine za_cV0l hc gsM_109 zob_62 (cM_inCorner_ l (zsJ (zsJ M_110 62 42 (f * (zJ M_110 62 29) + g * (zJ M_110 62 30))) 62 43 (zJ M_110 62 31)) hH3 hB (by rw [j29]; exact w5.2.1) (by rw [j30]; exact w5.2.2.1) (by rw [j31]; have := w5.1; omega)) ⟨rfl, rfl⟩ ⟨Nat.le_of_ble_eq_true rfl, Nat.le_of_ble_eq_true rfl⟩ ⟨Nat.zero_le _, Nat.zero_le _⟩ dM_ofCorners_195 (fun x_195 M_195 h_195 => ?_)
                      obtain ⟨q_195, hm_195⟩ := h_195
                      rw [hm_195]
                      rw [j29, j30, j31] at q_195
                      refine za_lor hc dM_ofCorners_198 ?_
                      refine za_lstore hc dM_ofCorners_199 (by decide) ?_
                      refine za_iinc hc _ dM_ofCorners_201 rfl ((nI_succ j).symm) (by decide) ?_
                      refine za_goto 96 hc dM_ofCorners_204 rfl ?_
                      rw [lb_0or]
                      refine za_take 7 ?_
                      refine ih2 (j + 1) 1 (f.toInt * (zJ M_110 62 29).toInt + g.toInt * (zJ M_110 62 30).toInt) (zJ M_110 62 31).toInt _ (zsJ (zsJ M_110 62 42 (f * (zJ M_110 62 29) + g * (zJ M_110 62 30))) 62 43 (zJ M_110 62 31)) (by omega) (by omega) (gHitF_lt hhit hsnd (fun a b h => by rcases h with h | ⟨h1, h2⟩; exact Or.inl (Or.inl h); by_cases c : b = j; exact Or.inr ⟨h1, c⟩; exact Or.inl (Or.inr ⟨h1, by omega⟩)) hri hrj w5 q_195 hlt) (gSndF_lt hpm hqm hg0 w5 (w6.mp hx1) hf hg q_195) ((hk3 40 (by decide)).1.trans e40b) ?_ ?_ (hk2.tr (hk3.wk (by decide))) (hf2.tr hf3)
                      · rw [zJ_s, if_neg (by decide), zJ_s, if_pos rfl]; exact en
                      · rw [zJ_s, if_pos rfl]
                · skip
                  refine za_iload hc dM_ofCorners_165 rfl ?_
                  refine za_if_ge 187 hc dM_ofCorners_167 rfl (fun h_167 => ?_) (fun h_167 => ?_)
                  · skip
                    refine za_iload hc dM_ofCorners_187 rfl ?_
                    refine za_if_gt 201 hc dM_ofCorners_189 rfl (fun h_189 => ?_) (fun h_189 => ?_)
                    · skip
                      exact absurd h_189 (by decide)
                    · skip
                      refine za_lload hc dM_ofCorners_192 rfl ?_
                      refine za_aload_n hc dM_ofCorners_194 rfl ?_
                      refine za_cV0l hc gsM_109 zob_62 (cM_inCorner_ l M_110 hH2 hB w5.2.1 w5.2.2.1 (by have := w5.1; omega)) ⟨rfl, rfl⟩ ⟨Nat.le_of_ble_eq_true rfl, Nat.le_of_ble_eq_true rfl⟩ ⟨Nat.zero_le _, Nat.zero_le _⟩ dM_ofCorners_195 (fun x_195 M_195 h_195 => ?_)
                      obtain ⟨q_195, hm_195⟩ := h_195
                      rw [hm_195]
                      refine za_lor hc dM_ofCorners_198 ?_
                      refine za_lstore hc dM_ofCorners_199 (by decide) ?_
                      refine za_iinc hc _ dM_ofCorners_201 rfl ((nI_succ j).symm) (by decide) ?_
                      refine za_goto 96 hc dM_ofCorners_204 rfl ?_
                      refine za_take 7 ?_
                      exact ih2 (j + 1) 1 N D _ M_110 (by omega) (by omega) (gHitF_ge hhit hsnd (fun a b h => by rcases h with h | ⟨h1, h2⟩; exact Or.inl (Or.inl h); by_cases c : b = j; exact Or.inr ⟨h1, c⟩; exact Or.inl (Or.inr ⟨h1, by omega⟩)) hri hrj w5 hv1 (by omega) (fun k hk => by rw [lb_or, hk]; rfl) (fun _ k m c1 c2 c3 => by rw [lb_or, Bool.or_eq_true]; exact Or.inr ((q_195 k).mpr ⟨m, c1, c2, c3⟩))) (gSndF_eq hsnd hv1 hpm hqm hg0 w5 (w6.mp hx1) heq q_195) e40b e42b e43b hk2 hf2
                  · skip
                    exact absurd (by decide) h_167
                · skip
                  refine za_iload hc dM_ofCorners_165 rfl ?_
                  refine za_if_ge 187 hc dM_ofCorners_167 rfl (fun h_167 => ?_) (fun h_167 => ?_)
                  · skip
                    refine za_iload hc dM_ofCorners_187 rfl ?_
                    refine za_if_gt 201 hc dM_ofCorners_189 rfl (fun h_189 => ?_) (fun h_189 => ?_)
                    · skip
                      refine za_iinc hc _ dM_ofCorners_201 rfl ((nI_succ j).symm) (by decide) ?_
                      refine za_goto 96 hc dM_ofCorners_204 rfl ?_
                      refine za_take 7 ?_
                      exact ih2 (j + 1) 1 N D set M_110 (by omega) (by omega) (gHitF_ge hhit hsnd (fun a b h => by rcases h with h | ⟨h1, h2⟩; exact Or.inl (Or.inl h); by_cases c : b = j; exact Or.inr ⟨h1, c⟩; exact Or.inl (Or.inr ⟨h1, by omega⟩)) hri hrj w5 hv1 (by omega) (fun k hk => hk) (fun z => absurd z (by omega))) (hv1 ▸ hsnd) e40b e42b e43b hk2 hf2
                    · skip
                      exact absurd (by decide) h_189
                  · skip
                    exact absurd (by decide) h_167
              refine za_lload_n hc dM_ofCorners_119 rfl ?_
              refine za_aload_n hc dM_ofCorners_120 rfl ?_
              refine za_getJ hc gfM_86 zob_62 dM_ofCorners_121 ?_
              refine za_lmul hc dM_ofCorners_124 ?_
              refine za_lload_n hc dM_ofCorners_125 rfl ?_
              refine za_aload_n hc dM_ofCorners_126 rfl ?_
              refine za_getJ hc gfM_89 zob_62 dM_ofCorners_127 ?_
              refine za_lmul hc dM_ofCorners_130 ?_
              refine za_ladd hc dM_ofCorners_131 ?_
              refine za_lstore hc dM_ofCorners_132 (by decide) ?_
              refine za_iload hc dM_ofCorners_134 rfl ?_
              refine za_if_eq 159 hc dM_ofCorners_136 rfl (fun h_136 => ?_) (fun h_136 => ?_)
              · skip
                have hv0 := h_136
                refine za_iconst hc (-1) dM_ofCorners_159 rfl ?_
                refine za_istore hc dM_ofCorners_160 (by decide) ?_
                refine za_iconst hc 1 dM_ofCorners_162 rfl ?_
                refine za_istore hc dM_ofCorners_163 (by decide) ?_
                first
                | exact STEP (-1) (Or.inl ⟨rfl, Or.inl hv0⟩)
                | exact STEP _ (by rcases cmpS_or ((f * (zJ M_110 62 29) + g * (zJ M_110 62 30)).toInt * D) (N * (zJ M_110 62 31).toInt) with ⟨h1, h2⟩ | ⟨h1, h2⟩ | ⟨h1, h2⟩; exact Or.inl ⟨h1, Or.inr h2⟩; exact Or.inr (Or.inl ⟨h1, hv1, h2⟩); exact Or.inr (Or.inr ⟨h1, hv1, h2⟩))
              · skip
                have hv1 : v = 1 := hsnd.1.resolve_left h_136
                obtain ⟨s1, s2, -⟩ := hsnd.2.2.1 hv1
                have bn := l_fxy hf hg w5.2.1 w5.2.2.1
                refine za_lload hc dM_ofCorners_139 rfl ?_
                refine za_aload_n hc dM_ofCorners_141 rfl ?_
                refine za_getJ hc gfM_82 zob_62 dM_ofCorners_142 ?_
                refine za_aload_n hc dM_ofCorners_145 rfl ?_
                refine za_getJ hc gfM_239 zob_62 dM_ofCorners_146 ?_
                refine za_aload_n hc dM_ofCorners_149 rfl ?_
                refine za_getJ hc gfM_242 zob_62 dM_ofCorners_150 ?_
                refine za_cS4i hc gsM_132 (cM_compare_ l M_110 _ _ _ _ _ (by rw [en]; omega) w5.1.1 (by have := w5.1.2; omega) (by rw [e42b]; omega) (by rw [e43b]; omega) (by rw [e43b]; omega) rfl) ⟨rfl, rfl⟩ ⟨Nat.le_of_ble_eq_true rfl, Nat.le_of_ble_eq_true rfl⟩ ⟨Nat.zero_le _, Nat.zero_le _⟩ dM_ofCorners_153 (fun x_153 M_153 h_153 => ?_)
                obtain ⟨q_153, hm_153⟩ := h_153
                rw [hm_153, q_153, e42b, e43b]
                refine za_goto 160 hc dM_ofCorners_156 rfl ?_
                refine za_istore hc dM_ofCorners_160 (by decide) ?_
                refine za_iconst hc 1 dM_ofCorners_162 rfl ?_
                refine za_istore hc dM_ofCorners_163 (by decide) ?_
                first
                | exact STEP (-1) (Or.inl ⟨rfl, Or.inl hv0⟩)
                | exact STEP _ (by rcases cmpS_or ((f * (zJ M_110 62 29) + g * (zJ M_110 62 30)).toInt * D) (N * (zJ M_110 62 31).toInt) with ⟨h1, h2⟩ | ⟨h1, h2⟩ | ⟨h1, h2⟩; exact Or.inl ⟨h1, Or.inr h2⟩; exact Or.inr (Or.inl ⟨h1, hv1, h2⟩); exact Or.inr (Or.inr ⟨h1, hv1, h2⟩))
            · skip
              have hno : gcr p q ≠ 0 → ∃ X Y D : Int, gAt p q X Y D ∧ ¬ ∀ m ∈ ls, gd2 m X Y D := fun hg => ⟨_, _, _, (w2 hg).1, fun z => absurd ((w2 hg).2.mpr z) (by rw [h_113]; decide)⟩
              refine za_goto 201 hc dM_ofCorners_116 rfl ?_
              refine za_iinc hc _ dM_ofCorners_201 rfl ((nI_succ j).symm) (by decide) ?_
              refine za_goto 96 hc dM_ofCorners_204 rfl ?_
              exact ih2 (j + 1) v N D set M_110 (by omega) (by omega) (gHitF_no hhit (fun a b h => by rcases h with h | ⟨h1, h2⟩; exact Or.inl (Or.inl h); by_cases c : b = j; exact Or.inr ⟨h1, c⟩; exact Or.inl (Or.inr ⟨h1, by omega⟩)) hri hrj hno) hsnd e40b e42b e43b hk2 hf2
      have hH1 : qH M1 ls := qH_62 hH hf1 (hk1 19 (by decide)).1
      refine za_iload hc dM_ofCorners_81 rfl ?_
      refine za_aload_n hc dM_ofCorners_83 rfl ?_
      refine za_getI hc gfM_73 zob_62 dM_ofCorners_84 ?_
      rw [hH1.1]
      refine za_icmp_ge 213 hc dM_ofCorners_87 rfl (fun h_87 => ?_) (fun h_87 => ?_)
      · skip
        exact absurd ((nI_leI (by omega) (by omega)).mp h_87) (by omega)
      · skip
        refine za_iload hc dM_ofCorners_90 rfl ?_
        refine za_iconst hc 1 dM_ofCorners_92 rfl ?_
        refine za_iadd hc dM_ofCorners_93 ?_
        rw [show nI i + 1 = nI (i + 1) from (nI_succ i).symm]
        refine za_istore hc dM_ofCorners_94 (by decide) ?_
        refine inner n (i + 1) v N D set M1 (by omega) (by omega) (fun a b p q hP hab ha hb => hhit a b p q ?_ hab ha hb) hsnd e40 e42 e43 hk1 hf1
        rcases hP with z | ⟨z1, z2⟩
        · exact z
        · omega
  have BND : ∀ (n i : Nat) (M1 : zM), n + i = 2 * ls.length → gBnd ls f.toInt g.toInt i (zI M1 62 40) → mK kI M M1 → zfr m62 M M1 → zW X (zqv (fun M' => oQ ls f.toInt g.toInt M M')) (0, 0) 11 [(0, .ref 62), (1, .long f), (3, .long g), (5, .int 0), (6, .int (nI i))] [] M1 := by
    intro n
    induction n with
    | zero =>
      intro i M1 hn hbn hk1 hf1
      have hH1 : qH M1 ls := qH_62 hH hf1 (hk1 19 (by decide)).1
      have hbn2 : gBnd ls f.toInt g.toInt (2 * ls.length) (zI M1 62 40) := by rw [show 2 * ls.length = i by omega]; exact hbn
      refine za_iload hc dM_ofCorners_11 rfl ?_
      refine za_iconst hc 2 dM_ofCorners_13 rfl ?_
      refine za_aload_n hc dM_ofCorners_14 rfl ?_
      refine za_getI hc gfM_73 zob_62 dM_ofCorners_15 ?_
      rw [hH1.1]
      refine za_imul hc dM_ofCorners_18 ?_
      rw [show (2 : Int32) = nI 2 from rfl, pk_mul]
      refine za_icmp_ge 75 hc dM_ofCorners_19 rfl (fun h_19 => ?_) (fun h_19 => ?_)
      · skip
        refine za_lconst hc 0 dM_ofCorners_75 rfl ?_
        refine za_lstore hc dM_ofCorners_76 (by decide) ?_
        refine za_iconst hc 0 dM_ofCorners_78 rfl ?_
        refine za_istore hc dM_ofCorners_79 (by decide) ?_
        exact CORN (zI M1 62 40) hbn2 ls.length 0 0 _ _ 0 M1 (by omega) (fun a b p q h => absurd h (by omega)) ⟨Or.inl rfl, fun _ => rfl, fun z => absurd z (by decide), fun k hk => by rw [lb_zero] at hk; cases hk⟩ rfl rfl rfl hk1 hf1
      · skip
        exact absurd ((nI_leI (by omega) (by omega)).mpr (show 2 * ls.length ≤ i by omega)) h_19
    | succ n ih =>
      intro i M1 hn hbn hk1 hf1
      have hH1 : qH M1 ls := qH_62 hH hf1 (hk1 19 (by decide)).1
      have hi2 : i / 2 < ls.length := by omega
      have hri := List.getElem?_eq_getElem (l := ls) hi2
      generalize hme : ls[i / 2] = p at hri
      refine za_iload hc dM_ofCorners_11 rfl ?_
      refine za_iconst hc 2 dM_ofCorners_13 rfl ?_
      refine za_aload_n hc dM_ofCorners_14 rfl ?_
      refine za_getI hc gfM_73 zob_62 dM_ofCorners_15 ?_
      rw [hH1.1]
      refine za_imul hc dM_ofCorners_18 ?_
      rw [show (2 : Int32) = nI 2 from rfl, pk_mul]
      refine za_icmp_ge 75 hc dM_ofCorners_19 rfl (fun h_19 => ?_) (fun h_19 => ?_)
      · skip
        exact absurd ((nI_leI (by omega) (by omega)).mp h_19) (by omega)
      · skip
        refine za_aload_n hc dM_ofCorners_22 rfl ?_
        refine za_iload hc dM_ofCorners_23 rfl ?_
        refine za_iconst hc 2 dM_ofCorners_25 rfl ?_
        refine za_idiv hc dM_ofCorners_26 (by decide) ?_
        rw [show (2 : Int32) = nI 2 from rfl, pk_div (by omega) (by decide) (by decide)]
        refine za_iload hc dM_ofCorners_27 rfl ?_
        refine za_iconst hc 2 dM_ofCorners_29 rfl ?_
        refine za_irem hc dM_ofCorners_30 (by decide) ?_
        rw [show (2 : Int32) = nI 2 from rfl, pk_rem (by omega) (by decide) (by decide)]
        refine za_iconst hc 1 dM_ofCorners_31 rfl ?_
        refine za_icmp_ne 39 hc dM_ofCorners_32 rfl (fun h_32 => ?_) (fun h_32 => ?_)
        · skip
          have hev : ¬ i % 2 = 1 := fun z => h_32 (by rw [z]; rfl)
          refine za_iconst hc 0 dM_ofCorners_39 rfl ?_
          refine za_cV2i hc gsM_113 zob_62 (cM_way_ l M1 (i := i / 2) 0 hH1 hB hri) ⟨rfl, rfl⟩ ⟨Nat.le_of_ble_eq_true rfl, Nat.le_of_ble_eq_true rfl⟩ ⟨Nat.zero_le _, Nat.zero_le _⟩ dM_ofCorners_40 (fun x_40 M_40 h_40 => ?_)
          obtain ⟨w0, w1, w2, w3, w4⟩ := h_40
          have hk2 := hk1.tr (w3.wk (by decide))
          have hf2 := hf1.tr w4
          have hH2 : qH M_40 ls := qH_62 hH hf2 (hk2 19 (by decide)).1
          have bp := hB p (List.mem_of_getElem? hri)
          have hbv : (0 : Int32) = if i % 2 = 1 then 1 else 0 := by rw [if_neg hev]
          have bX := l_fw bp w1
          have lw := b0_l (l_lin (a := f) (b := g) hfB hgB bX.1 bX.2)
          have e40b : zI M_40 62 40 = zI M1 62 40 := (w3 40 (by decide)).1
          have e42b : zJ M_40 62 42 = zJ M1 62 42 := (w3 42 (by decide)).2
          have e43b : zJ M_40 62 43 = zJ M1 62 43 := (w3 43 (by decide)).2
          refine za_if_eq 69 hc dM_ofCorners_43 rfl (fun h_43 => ?_) (fun h_43 => ?_)
          · skip
            have hx0 := h_43
            refine za_iinc hc _ dM_ofCorners_69 rfl ((nI_succ i).symm) (by decide) ?_
            refine za_goto 11 hc dM_ofCorners_72 rfl ?_
            exact ih (i + 1) M_40 (by omega) (by rw [e40b]; exact gBnd_ok hbn hri hbv w1 (fun z => absurd (w2.mpr z) (by rw [hx0]; decide))) hk2 hf2
          · skip
            have hx1 : x_40 = 1 := w0.resolve_left h_43
            refine za_lload_n hc dM_ofCorners_46 rfl ?_
            refine za_aload_n hc dM_ofCorners_47 rfl ?_
            refine za_getJ hc gfM_92 zob_62 dM_ofCorners_48 ?_
            refine za_lmul hc dM_ofCorners_51 ?_
            refine za_lload_n hc dM_ofCorners_52 rfl ?_
            refine za_aload_n hc dM_ofCorners_53 rfl ?_
            refine za_getJ hc gfM_95 zob_62 dM_ofCorners_54 ?_
            refine za_lmul hc dM_ofCorners_57 ?_
            refine za_ladd hc dM_ofCorners_58 ?_
            refine za_lconst hc 0 dM_ofCorners_59 rfl ?_
            refine za_lcmp_ge 69 hc dM_ofCorners_60 dM_ofCorners_61 rfl (fun h_60 => ?_) (fun h_60 => ?_)
            · skip
              have hpos : ¬ _ < (0 : Int64) := Int64.not_lt.mpr h_60
              refine za_iinc hc _ dM_ofCorners_69 rfl ((nI_succ i).symm) (by decide) ?_
              refine za_goto 11 hc dM_ofCorners_72 rfl ?_
              exact ih (i + 1) M_40 (by omega) (by rw [e40b]; exact gBnd_ok hbn hri hbv w1 (fun _ => Int.not_lt.mp (fun z => hpos (lw.1.mpr z)))) hk2 hf2
            · skip
              have hneg : _ < (0 : Int64) := Int64.not_le.mp h_60
              refine za_aload_n hc dM_ofCorners_64 rfl ?_
              refine za_iconst hc 0 dM_ofCorners_65 rfl ?_
              refine za_putZ hc gpM_233 zob_62 (nz01 (by first | exact Or.inl rfl | exact Or.inr rfl)) dM_ofCorners_66 ?_
              refine za_iinc hc _ dM_ofCorners_69 rfl ((nI_succ i).symm) (by decide) ?_
              refine za_goto 11 hc dM_ofCorners_72 rfl ?_
              refine ih (i + 1) (zsI M_40 62 40 0) (by omega) ?_ (hk2.tr (mK_sI (by decide))) (hf2.tr (zfr_sI (P := m62) rfl))
              rw [zI_s, if_pos rfl]
              exact gBnd_bad (List.mem_of_getElem? hri) w1 (w2.mp hx1) (lw.1.mp hneg)
        · skip
          have hod : i % 2 = 1 := by
            have := (nI_leI (a := i % 2) (b := 1) (by omega) (by decide)).mp (by rw [h_32]; exact Int32.le_refl _)
            have t2 := (nI_leI (a := 1) (b := i % 2) (by decide) (by omega)).mp (by rw [h_32]; exact Int32.le_refl _)
            omega
          refine za_iconst hc 1 dM_ofCorners_35 rfl ?_
          refine za_goto 40 hc dM_ofCorners_36 rfl ?_
          refine za_cV2i hc gsM_113 zob_62 (cM_way_ l M1 (i := i / 2) 1 hH1 hB hri) ⟨rfl, rfl⟩ ⟨Nat.le_of_ble_eq_true rfl, Nat.le_of_ble_eq_true rfl⟩ ⟨Nat.zero_le _, Nat.zero_le _⟩ dM_ofCorners_40 (fun x_40 M_40 h_40 => ?_)
          obtain ⟨w0, w1, w2, w3, w4⟩ := h_40
          have hk2 := hk1.tr (w3.wk (by decide))
          have hf2 := hf1.tr w4
          have hH2 : qH M_40 ls := qH_62 hH hf2 (hk2 19 (by decide)).1
          have bp := hB p (List.mem_of_getElem? hri)
          have hbv : (1 : Int32) = if i % 2 = 1 then 1 else 0 := by rw [if_pos hod]
          have bX := l_fw bp w1
          have lw := b0_l (l_lin (a := f) (b := g) hfB hgB bX.1 bX.2)
          have e40b : zI M_40 62 40 = zI M1 62 40 := (w3 40 (by decide)).1
          have e42b : zJ M_40 62 42 = zJ M1 62 42 := (w3 42 (by decide)).2
          have e43b : zJ M_40 62 43 = zJ M1 62 43 := (w3 43 (by decide)).2
          refine za_if_eq 69 hc dM_ofCorners_43 rfl (fun h_43 => ?_) (fun h_43 => ?_)
          · skip
            have hx0 := h_43
            refine za_iinc hc _ dM_ofCorners_69 rfl ((nI_succ i).symm) (by decide) ?_
            refine za_goto 11 hc dM_ofCorners_72 rfl ?_
            exact ih (i + 1) M_40 (by omega) (by rw [e40b]; exact gBnd_ok hbn hri hbv w1 (fun z => absurd (w2.mpr z) (by rw [hx0]; decide))) hk2 hf2
          · skip
            have hx1 : x_40 = 1 := w0.resolve_left h_43
            refine za_lload_n hc dM_ofCorners_46 rfl ?_
            refine za_aload_n hc dM_ofCorners_47 rfl ?_
            refine za_getJ hc gfM_92 zob_62 dM_ofCorners_48 ?_
            refine za_lmul hc dM_ofCorners_51 ?_
            refine za_lload_n hc dM_ofCorners_52 rfl ?_
            refine za_aload_n hc dM_ofCorners_53 rfl ?_
            refine za_getJ hc gfM_95 zob_62 dM_ofCorners_54 ?_
            refine za_lmul hc dM_ofCorners_57 ?_
            refine za_ladd hc dM_ofCorners_58 ?_
            refine za_lconst hc 0 dM_ofCorners_59 rfl ?_
            refine za_lcmp_ge 69 hc dM_ofCorners_60 dM_ofCorners_61 rfl (fun h_60 => ?_) (fun h_60 => ?_)
            · skip
              have hpos : ¬ _ < (0 : Int64) := Int64.not_lt.mpr h_60
              refine za_iinc hc _ dM_ofCorners_69 rfl ((nI_succ i).symm) (by decide) ?_
              refine za_goto 11 hc dM_ofCorners_72 rfl ?_
              exact ih (i + 1) M_40 (by omega) (by rw [e40b]; exact gBnd_ok hbn hri hbv w1 (fun _ => Int.not_lt.mp (fun z => hpos (lw.1.mpr z)))) hk2 hf2
            · skip
              have hneg : _ < (0 : Int64) := Int64.not_le.mp h_60
              refine za_aload_n hc dM_ofCorners_64 rfl ?_
              refine za_iconst hc 0 dM_ofCorners_65 rfl ?_
              refine za_putZ hc gpM_233 zob_62 (nz01 (by first | exact Or.inl rfl | exact Or.inr rfl)) dM_ofCorners_66 ?_
              refine za_iinc hc _ dM_ofCorners_69 rfl ((nI_succ i).symm) (by decide) ?_
              refine za_goto 11 hc dM_ofCorners_72 rfl ?_
              refine ih (i + 1) (zsI M_40 62 40 0) (by omega) ?_ (hk2.tr (mK_sI (by decide))) (hf2.tr (zfr_sI (P := m62) rfl))
              rw [zI_s, if_pos rfl]
              exact gBnd_bad (List.mem_of_getElem? hri) w1 (w2.mp hx1) (lw.1.mp hneg)
  refine za_iconst hc 0 dM_ofCorners_0 rfl ?_
  refine za_istore hc dM_ofCorners_1 (by decide) ?_
  refine za_aload_n hc dM_ofCorners_3 rfl ?_
  refine za_iconst hc 1 dM_ofCorners_4 rfl ?_
  refine za_putZ hc gpM_233 zob_62 (nz01 (by first | exact Or.inl rfl | exact Or.inr rfl)) dM_ofCorners_5 ?_
  refine za_iconst hc 0 dM_ofCorners_8 rfl ?_
  refine za_istore hc dM_ofCorners_9 (by decide) ?_
  exact BND (2 * ls.length) 0 (zsI M 62 40 1) (by omega) (by rw [zI_s, if_pos rfl]; exact ⟨Or.inr rfl, fun z => absurd z (by decide), fun _ i h => absurd h (by omega)⟩) (mK_sI (by decide)) (zfr_sI (P := m62) rfl)
