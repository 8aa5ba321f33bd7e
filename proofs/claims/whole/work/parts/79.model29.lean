/-! The model: ofBand. -/
def oI : List Nat := [29, 30, 31, 32, 33, 34, 35, 36, 37, 38, 39, 40, 41, 42, 43]
abbrev oS (M : zM) (b t : Int32) (N D : Int64) : zM := zsJ (zsJ (zsI (zsI M 62 40 b) 62 41 t) 62 42 N) 62 43 D
theorem oS_40 {M : zM} {b t : Int32} {N D : Int64} : zI (oS M b t N D) 62 40 = b := by rw [zI_sJ, zI_sJ, zI_s, if_neg (by decide), zI_s, if_pos rfl]
theorem oS_41 {M : zM} {b t : Int32} {N D : Int64} : zI (oS M b t N D) 62 41 = t := by rw [zI_sJ, zI_sJ, zI_s, if_pos rfl]
theorem oS_42 {M : zM} {b t : Int32} {N D : Int64} : zJ (oS M b t N D) 62 42 = N := by rw [zJ_s, if_neg (by decide), zJ_s, if_pos rfl]
theorem oS_43 {M : zM} {b t : Int32} {N D : Int64} : zJ (oS M b t N D) 62 43 = D := by rw [zJ_s, if_pos rfl]
theorem oS_k {M : zM} {b t : Int32} {N D : Int64} : mK [40, 41, 42, 43] M (oS M b t N D) := (mK_sI (by decide)).tr ((mK_sI (by decide)).tr ((mK_sJ (by decide)).tr (mK_sJ (by decide))))
theorem oS_f {M : zM} {b t : Int32} {N D : Int64} : zfr m62 M (oS M b t N D) := (zfr_sI (P := m62) rfl).tr ((zfr_sI (P := m62) rfl).tr ((zfr_sJ (P := m62) rfl).tr (zfr_sJ (P := m62) rfl)))
/-- what of a row is told -/
def oQ (ls : List gC) (f g : Int) (M M' : zM) : Prop := gRowA ls f g (zI M' 62 40) (zI M' 62 41) (zJ M' 62 42).toInt (zJ M' 62 43).toInt ∧ (zI M' 62 41 = 0 ∨ zI M' 62 41 = 1) ∧ m3640 M' ∧ mK oI M M' ∧ zfr m62 M M'
theorem oEnd {ls : List gC} {f g : Int} {M M2 : zM} {b t : Int32} {N D : Int64} (hk : mK oI M M2) (hf : zfr m62 M M2) (h3 : m3640 M2) (ht : t = 0 ∨ t = 1) (hr : gRowA ls f g b t N.toInt D.toInt) : oQ ls f g M (oS M2 b t N D) := by
  refine ⟨?_, ?_, m3640_k h3 oS_k (by decide) (by decide), hk.tr (oS_k.wk (by decide)), hf.tr oS_f⟩
  · rw [oS_40, oS_41, oS_42, oS_43]; exact hr
  · rw [oS_41]; exact ht
theorem t0_iff {x : Int64} : x.toInt = 0 ↔ x = 0 := ⟨fun z => Int64.toInt_inj.mp z, fun z => by rw [z]; rfl⟩
theorem row_end {ls : List gC} {f g : Int} {φ N D : Int64} {st b t : Int32} (hst : st = 0 ∨ st = 1) (hr : (D.toInt = 0 → gUn ls f g) ∧ (D.toInt ≠ 0 → gInf (gPt ls) f g (φ.toInt * N.toInt) D.toInt (!(st == 1)))) (he : D.toInt = 0 ∨ ((-200000000 ≤ N.toInt ∧ N.toInt ≤ 200000000) ∧ 0 < D.toInt ∧ D.toInt ≤ 200000000)) (hφ : φ.toInt.natAbs ≤ 100)
    (hb : (b = 1 ∧ ¬ D ≤ 0) ∨ (b = 0 ∧ D ≤ 0)) (ht : (t = 1 ∧ st = 0) ∨ (t = 0 ∧ ¬ st = 0)) : gRowA ls f g b t (φ * N).toInt D.toInt := by
  have z0 : (0 : Int64).toInt = 0 := rfl
  rcases hb with ⟨hb, hd⟩ | ⟨hb, hd⟩
  · have hd2 : ¬ D.toInt ≤ 0 := fun z => hd (Int64.le_iff_toInt_le.mpr z)
    obtain ⟨n1, n2, n3⟩ := he.resolve_left (by omega)
    have e : (φ * N).toInt = φ.toInt * N.toInt := l_one (by omega) n1
    have ek : (t == 1) = !(st == 1) := by
      rcases ht with ⟨h1, h2⟩ | ⟨h1, h2⟩
      · rw [h1, h2]; rfl
      · rw [h1, hst.resolve_left h2]; rfl
    refine ⟨Or.inr hb, fun z => absurd (hb.symm.trans z) (by decide), fun _ => ⟨?_, ?_, n3⟩⟩
    · rw [e, ek]; exact hr.2 (by omega)
    · rw [e]
      have : (φ.toInt * N.toInt).natAbs ≤ 100 * 200000000 := by rw [Int.natAbs_mul]; exact Nat.mul_le_mul hφ (by omega)
      omega
  · have hd2 : D.toInt ≤ 0 := Int64.le_iff_toInt_le.mp hd
    exact ⟨Or.inl hb, fun _ => hr.1 (by omega), fun z => absurd (hb.symm.trans z) (by decide)⟩

set_option maxRecDepth 100000 in
set_option maxHeartbeats 4000000 in
theorem cM_ofBand_ (l : Launch) {ls : List gC} (M : zM) (f g : Int64) (hH : qH M ls) (hB2 : ∀ q ∈ ls, gBd 200000000 q) (hnz : ∀ q ∈ ls, ¬ (q.1 = 0 ∧ q.2.1 = 0)) (hcr : ∀ h0, ls[0]? = some h0 → ∀ q ∈ ls, gcr h0 q = 0) (hsat : gSat ls) (hf : f.toInt.natAbs ≤ 100) (hg : g.toInt.natAbs ≤ 100) (h30 : m3640 M) : zMet l mM_ofBand rM_ofBand [.ref 62, .long f, .long g] M (zqv (fun M' => oQ ls f.toInt g.toInt M M')) := by
  refine za_enter (by decide) (Nat.le_of_ble_eq_true rfl) (fun X hc => ?_)
  have a77 := ar_77
  have a78 := ar_78
  have a79 := ar_79
  have a80 := ar_80
  have TAIL : ∀ (M1 : zM), mK oI M M1 → zfr m62 M M1 → m3640 M1 → zI M1 62 41 = 1 → zJ M1 62 42 = 0 → zJ M1 62 43 = 1 → ((zI M1 62 40 = 1 ∧ f = 0 ∧ g = 0) ∨ (zI M1 62 40 = 0 ∧ ¬ (f = 0 ∧ g = 0))) → zW X (zqv (fun M' => oQ ls f.toInt g.toInt M M')) (0, 0) 36 [(0, .ref 62), (1, .long f), (3, .long g)] [] M1 := by
    intro M1 hk1 hf1 h3 e41 e42 e43 hbb
    have hH1 : qH M1 ls := qH_62 hH hf1 (hk1 19 (by decide)).1
    have hl := hH.2.1
    have END : gRowA ls f.toInt g.toInt (zI M1 62 40) (zI M1 62 41) (zJ M1 62 42).toInt (zJ M1 62 43).toInt → oQ ls f.toInt g.toInt M M1 := fun h => ⟨h, Or.inr e41, h3, hk1, hf1⟩
    have AFTER : ∀ (φ : Int64) (h0 : gC) (M2 : zM) (up : Bool) (α β : Rat), ls[0]? = some h0 → ¬ (f = 0 ∧ g = 0) → φ.toInt ≠ 0 → φ.toInt.natAbs ≤ 100 → (∀ x y : Rat, (f.toInt : Rat) * x + (g.toInt : Rat) * y = (φ.toInt : Rat) * (α * x + β * y)) → (∀ t : Rat, ∃ x y : Rat, α * x + β * y = t) → 0 ≤ (loE M2).2.1 → 0 ≤ (hiE M2).2.1 → (∀ x y : Rat, (∀ m ∈ ls, gst m x y) ↔ gEs (hiE M2) (α * x + β * y) ∧ gEs (loE M2) (-(α * x + β * y))) → eB (hiE M2) → eB (loE M2) → m3640 M2 → mK oI M M2 → zfr m62 M M2 → zW X (zqv (fun M' => oQ ls f.toInt g.toInt M M')) (0, 0) 94 [(0, .ref 62), (1, .long f), (3, .long g), (5, .long φ)] [] M2 := by
      intro φ h0 M2 up α β hh hfg hφ0 hφ hform hs y4 y2 hS b1 b2 h32 hk2 hf2
      refine za_lload hc dM_ofBand_94 rfl ?_
      refine za_lconst hc 0 dM_ofBand_96 rfl ?_
      refine za_lcmp_le 105 hc dM_ofBand_97 dM_ofBand_98 rfl (fun h_97 => ?_) (fun h_97 => ?_)
      · skip
        have hneg : φ.toInt < 0 := by have z0 : (0 : Int64).toInt = 0 := rfl; have := Int64.le_iff_toInt_le.mp h_97; omega
        have hr := g_bandHi hneg hform hs y4 y2 hS hsat
        refine za_iconst hc 0 dM_ofBand_105 rfl ?_
        refine za_istore hc dM_ofBand_106 (by decide) ?_
        refine za_aload_n hc dM_ofBand_108 rfl ?_
        refine za_iload hc dM_ofBand_109 rfl ?_
        refine za_if_eq 131 hc dM_ofBand_111 rfl (fun h_111 => ?_) (fun h_111 => ?_)
        · skip
          refine za_aload_n hc dM_ofBand_131 rfl ?_
          refine za_getJ hc gfM_126 zob_62 dM_ofBand_132 ?_
          refine za_lconst hc 0 dM_ofBand_135 rfl ?_
          refine za_lcmp_le 144 hc dM_ofBand_136 dM_ofBand_137 rfl (fun h_136 => ?_) (fun h_136 => ?_)
          · skip
            refine za_iconst hc 0 dM_ofBand_144 rfl ?_
            refine za_putZ hc gpM_233 zob_62 (nz01 (by first | exact Or.inl rfl | exact Or.inr rfl)) dM_ofBand_145 ?_
            refine za_aload_n hc dM_ofBand_148 rfl ?_
            refine za_iload hc dM_ofBand_149 rfl ?_
            refine za_if_eq 169 hc dM_ofBand_151 rfl (fun h_151 => ?_) (fun h_151 => ?_)
            · skip
              refine za_aload_n hc dM_ofBand_169 rfl ?_
              refine za_getI hc gfM_136 zob_62 dM_ofBand_170 ?_
              rw [zI_s, if_neg (by decide)]
              refine za_if_ne 180 hc dM_ofBand_173 rfl (fun h_173 => ?_) (fun h_173 => ?_)
              · skip
                refine za_iconst hc 0 dM_ofBand_180 rfl ?_
                refine za_putZ hc gpM_236 zob_62 (nz01 (by first | exact Or.inl rfl | exact Or.inr rfl)) dM_ofBand_181 ?_
                refine za_aload_n hc dM_ofBand_184 rfl ?_
                refine za_lload hc dM_ofBand_185 rfl ?_
                refine za_iload hc dM_ofBand_187 rfl ?_
                refine za_if_eq 199 hc dM_ofBand_189 rfl (fun h_189 => ?_) (fun h_189 => ?_)
                · skip
                  refine za_aload_n hc dM_ofBand_199 rfl ?_
                  refine za_getJ hc gfM_129 zob_62 dM_ofBand_200 ?_
                  rw [zJ_sI, zJ_sI]
                  refine za_lmul hc dM_ofBand_203 ?_
                  refine za_putJ hc gpM_239 zob_62 dM_ofBand_204 ?_
                  refine za_aload_n hc dM_ofBand_207 rfl ?_
                  refine za_iload hc dM_ofBand_208 rfl ?_
                  refine za_if_eq 220 hc dM_ofBand_210 rfl (fun h_210 => ?_) (fun h_210 => ?_)
                  · skip
                    refine za_aload_n hc dM_ofBand_220 rfl ?_
                    refine za_getJ hc gfM_126 zob_62 dM_ofBand_221 ?_
                    rw [zJ_s, if_neg (by decide), zJ_sI, zJ_sI]
                    refine za_putJ hc gpM_242 zob_62 dM_ofBand_224 ?_
                    exact za_vret hc rfl dM_ofBand_227 ⟨Nat.zero_le _, Nat.zero_le _⟩ (by first | exact ⟨rfl, oEnd hk2 hf2 h32 (Or.inr rfl) (row_end h32.2 hr (by have := b1; unfold eB hiE at this; simp only at this; omega) hφ (Or.inl ⟨rfl, h_136⟩) (Or.inl ⟨rfl, h_173⟩))⟩ | exact ⟨rfl, oEnd hk2 hf2 h32 (Or.inl rfl) (row_end h32.2 hr (by have := b1; unfold eB hiE at this; simp only at this; omega) hφ (Or.inl ⟨rfl, h_136⟩) (Or.inr ⟨rfl, h_173⟩))⟩ | exact ⟨rfl, oEnd hk2 hf2 h32 (Or.inr rfl) (row_end h32.2 hr (by have := b1; unfold eB hiE at this; simp only at this; omega) hφ (Or.inr ⟨rfl, h_136⟩) (Or.inl ⟨rfl, h_173⟩))⟩ | exact ⟨rfl, oEnd hk2 hf2 h32 (Or.inl rfl) (row_end h32.2 hr (by have := b1; unfold eB hiE at this; simp only at this; omega) hφ (Or.inr ⟨rfl, h_136⟩) (Or.inr ⟨rfl, h_173⟩))⟩)
                  · skip
                    exact absurd rfl h_210
                · skip
                  exact absurd rfl h_189
              · skip
                refine za_iconst hc 1 dM_ofBand_176 rfl ?_
                refine za_goto 181 hc dM_ofBand_177 rfl ?_
                refine za_putZ hc gpM_236 zob_62 (nz01 (by first | exact Or.inl rfl | exact Or.inr rfl)) dM_ofBand_181 ?_
                refine za_aload_n hc dM_ofBand_184 rfl ?_
                refine za_lload hc dM_ofBand_185 rfl ?_
                refine za_iload hc dM_ofBand_187 rfl ?_
                refine za_if_eq 199 hc dM_ofBand_189 rfl (fun h_189 => ?_) (fun h_189 => ?_)
                · skip
                  refine za_aload_n hc dM_ofBand_199 rfl ?_
                  refine za_getJ hc gfM_129 zob_62 dM_ofBand_200 ?_
                  rw [zJ_sI, zJ_sI]
                  refine za_lmul hc dM_ofBand_203 ?_
                  refine za_putJ hc gpM_239 zob_62 dM_ofBand_204 ?_
                  refine za_aload_n hc dM_ofBand_207 rfl ?_
                  refine za_iload hc dM_ofBand_208 rfl ?_
                  refine za_if_eq 220 hc dM_ofBand_210 rfl (fun h_210 => ?_) (fun h_210 => ?_)
                  · skip
                    refine za_aload_n hc dM_ofBand_220 rfl ?_
                    refine za_getJ hc gfM_126 zob_62 dM_ofBand_221 ?_
                    rw [zJ_s, if_neg (by decide), zJ_sI, zJ_sI]
                    refine za_putJ hc gpM_242 zob_62 dM_ofBand_224 ?_
                    exact za_vret hc rfl dM_ofBand_227 ⟨Nat.zero_le _, Nat.zero_le _⟩ (by first | exact ⟨rfl, oEnd hk2 hf2 h32 (Or.inr rfl) (row_end h32.2 hr (by have := b1; unfold eB hiE at this; simp only at this; omega) hφ (Or.inl ⟨rfl, h_136⟩) (Or.inl ⟨rfl, h_173⟩))⟩ | exact ⟨rfl, oEnd hk2 hf2 h32 (Or.inl rfl) (row_end h32.2 hr (by have := b1; unfold eB hiE at this; simp only at this; omega) hφ (Or.inl ⟨rfl, h_136⟩) (Or.inr ⟨rfl, h_173⟩))⟩ | exact ⟨rfl, oEnd hk2 hf2 h32 (Or.inr rfl) (row_end h32.2 hr (by have := b1; unfold eB hiE at this; simp only at this; omega) hφ (Or.inr ⟨rfl, h_136⟩) (Or.inl ⟨rfl, h_173⟩))⟩ | exact ⟨rfl, oEnd hk2 hf2 h32 (Or.inl rfl) (row_end h32.2 hr (by have := b1; unfold eB hiE at this; simp only at this; omega) hφ (Or.inr ⟨rfl, h_136⟩) (Or.inr ⟨rfl, h_173⟩))⟩)
                  · skip
                    exact absurd rfl h_210
                · skip
                  exact absurd rfl h_189
            · skip
              exact absurd rfl h_151
          · skip
            refine za_iconst hc 1 dM_ofBand_140 rfl ?_
            refine za_goto 145 hc dM_ofBand_141 rfl ?_
            refine za_putZ hc gpM_233 zob_62 (nz01 (by first | exact Or.inl rfl | exact Or.inr rfl)) dM_ofBand_145 ?_
            refine za_aload_n hc dM_ofBand_148 rfl ?_
            refine za_iload hc dM_ofBand_149 rfl ?_
            refine za_if_eq 169 hc dM_ofBand_151 rfl (fun h_151 => ?_) (fun h_151 => ?_)
            · skip
              refine za_aload_n hc dM_ofBand_169 rfl ?_
              refine za_getI hc gfM_136 zob_62 dM_ofBand_170 ?_
              rw [zI_s, if_neg (by decide)]
              refine za_if_ne 180 hc dM_ofBand_173 rfl (fun h_173 => ?_) (fun h_173 => ?_)
              · skip
                refine za_iconst hc 0 dM_ofBand_180 rfl ?_
                refine za_putZ hc gpM_236 zob_62 (nz01 (by first | exact Or.inl rfl | exact Or.inr rfl)) dM_ofBand_181 ?_
                refine za_aload_n hc dM_ofBand_184 rfl ?_
                refine za_lload hc dM_ofBand_185 rfl ?_
                refine za_iload hc dM_ofBand_187 rfl ?_
                refine za_if_eq 199 hc dM_ofBand_189 rfl (fun h_189 => ?_) (fun h_189 => ?_)
                · skip
                  refine za_aload_n hc dM_ofBand_199 rfl ?_
                  refine za_getJ hc gfM_129 zob_62 dM_ofBand_200 ?_
                  rw [zJ_sI, zJ_sI]
                  refine za_lmul hc dM_ofBand_203 ?_
                  refine za_putJ hc gpM_239 zob_62 dM_ofBand_204 ?_
                  refine za_aload_n hc dM_ofBand_207 rfl ?_
                  refine za_iload hc dM_ofBand_208 rfl ?_
                  refine za_if_eq 220 hc dM_ofBand_210 rfl (fun h_210 => ?_) (fun h_210 => ?_)
                  · skip
                    refine za_aload_n hc dM_ofBand_220 rfl ?_
                    refine za_getJ hc gfM_126 zob_62 dM_ofBand_221 ?_
                    rw [zJ_s, if_neg (by decide), zJ_sI, zJ_sI]
                    refine za_putJ hc gpM_242 zob_62 dM_ofBand_224 ?_
                    exact za_vret hc rfl dM_ofBand_227 ⟨Nat.zero_le _, Nat.zero_le _⟩ (by first | exact ⟨rfl, oEnd hk2 hf2 h32 (Or.inr rfl) (row_end h32.2 hr (by have := b1; unfold eB hiE at this; simp only at this; omega) hφ (Or.inl ⟨rfl, h_136⟩) (Or.inl ⟨rfl, h_173⟩))⟩ | exact ⟨rfl, oEnd hk2 hf2 h32 (Or.inl rfl) (row_end h32.2 hr (by have := b1; unfold eB hiE at this; simp only at this; omega) hφ (Or.inl ⟨rfl, h_136⟩) (Or.inr ⟨rfl, h_173⟩))⟩ | exact ⟨rfl, oEnd hk2 hf2 h32 (Or.inr rfl) (row_end h32.2 hr (by have := b1; unfold eB hiE at this; simp only at this; omega) hφ (Or.inr ⟨rfl, h_136⟩) (Or.inl ⟨rfl, h_173⟩))⟩ | exact ⟨rfl, oEnd hk2 hf2 h32 (Or.inl rfl) (row_end h32.2 hr (by have := b1; unfold eB hiE at this; simp only at this; omega) hφ (Or.inr ⟨rfl, h_136⟩) (Or.inr ⟨rfl, h_173⟩))⟩)
                  · skip
                    exact absurd rfl h_210
                · skip
                  exact absurd rfl h_189
              · skip
                refine za_iconst hc 1 dM_ofBand_176 rfl ?_
                refine za_goto 181 hc dM_ofBand_177 rfl ?_
                refine za_putZ hc gpM_236 zob_62 (nz01 (by first | exact Or.inl rfl | exact Or.inr rfl)) dM_ofBand_181 ?_
                refine za_aload_n hc dM_ofBand_184 rfl ?_
                refine za_lload hc dM_ofBand_185 rfl ?_
                refine za_iload hc dM_ofBand_187 rfl ?_
                refine za_if_eq 199 hc dM_ofBand_189 rfl (fun h_189 => ?_) (fun h_189 => ?_)
                · skip
                  refine za_aload_n hc dM_ofBand_199 rfl ?_
                  refine za_getJ hc gfM_129 zob_62 dM_ofBand_200 ?_
                  rw [zJ_sI, zJ_sI]
                  refine za_lmul hc dM_ofBand_203 ?_
                  refine za_putJ hc gpM_239 zob_62 dM_ofBand_204 ?_
                  refine za_aload_n hc dM_ofBand_207 rfl ?_
                  refine za_iload hc dM_ofBand_208 rfl ?_
                  refine za_if_eq 220 hc dM_ofBand_210 rfl (fun h_210 => ?_) (fun h_210 => ?_)
                  · skip
                    refine za_aload_n hc dM_ofBand_220 rfl ?_
                    refine za_getJ hc gfM_126 zob_62 dM_ofBand_221 ?_
                    rw [zJ_s, if_neg (by decide), zJ_sI, zJ_sI]
                    refine za_putJ hc gpM_242 zob_62 dM_ofBand_224 ?_
                    exact za_vret hc rfl dM_ofBand_227 ⟨Nat.zero_le _, Nat.zero_le _⟩ (by first | exact ⟨rfl, oEnd hk2 hf2 h32 (Or.inr rfl) (row_end h32.2 hr (by have := b1; unfold eB hiE at this; simp only at this; omega) hφ (Or.inl ⟨rfl, h_136⟩) (Or.inl ⟨rfl, h_173⟩))⟩ | exact ⟨rfl, oEnd hk2 hf2 h32 (Or.inl rfl) (row_end h32.2 hr (by have := b1; unfold eB hiE at this; simp only at this; omega) hφ (Or.inl ⟨rfl, h_136⟩) (Or.inr ⟨rfl, h_173⟩))⟩ | exact ⟨rfl, oEnd hk2 hf2 h32 (Or.inr rfl) (row_end h32.2 hr (by have := b1; unfold eB hiE at this; simp only at this; omega) hφ (Or.inr ⟨rfl, h_136⟩) (Or.inl ⟨rfl, h_173⟩))⟩ | exact ⟨rfl, oEnd hk2 hf2 h32 (Or.inl rfl) (row_end h32.2 hr (by have := b1; unfold eB hiE at this; simp only at this; omega) hφ (Or.inr ⟨rfl, h_136⟩) (Or.inr ⟨rfl, h_173⟩))⟩)
                  · skip
                    exact absurd rfl h_210
                · skip
                  exact absurd rfl h_189
            · skip
              exact absurd rfl h_151
        · skip
          exact absurd rfl h_111
      · skip
        have hpos : 0 < φ.toInt := by have z0 : (0 : Int64).toInt = 0 := rfl; have : ¬ φ.toInt ≤ 0 := fun z => h_97 (Int64.le_iff_toInt_le.mpr z); omega
        have hr := g_bandLo hpos hform hs y4 y2 hS hsat
        have en : -(loE M2).1 = (zJ M2 62 34).toInt := Int.neg_neg _
        rw [en] at hr
        refine za_iconst hc 1 dM_ofBand_101 rfl ?_
        refine za_goto 106 hc dM_ofBand_102 rfl ?_
        refine za_istore hc dM_ofBand_106 (by decide) ?_
        refine za_aload_n hc dM_ofBand_108 rfl ?_
        refine za_iload hc dM_ofBand_109 rfl ?_
        refine za_if_eq 131 hc dM_ofBand_111 rfl (fun h_111 => ?_) (fun h_111 => ?_)
        · skip
          exact absurd h_111 (by decide)
        · skip
          refine za_aload_n hc dM_ofBand_114 rfl ?_
          refine za_getJ hc gfM_123 zob_62 dM_ofBand_115 ?_
          refine za_lconst hc 0 dM_ofBand_118 rfl ?_
          refine za_lcmp_le 127 hc dM_ofBand_119 dM_ofBand_120 rfl (fun h_119 => ?_) (fun h_119 => ?_)
          · skip
            refine za_iconst hc 0 dM_ofBand_127 rfl ?_
            refine za_goto 145 hc dM_ofBand_128 rfl ?_
            refine za_putZ hc gpM_233 zob_62 (nz01 (by first | exact Or.inl rfl | exact Or.inr rfl)) dM_ofBand_145 ?_
            refine za_aload_n hc dM_ofBand_148 rfl ?_
            refine za_iload hc dM_ofBand_149 rfl ?_
            refine za_if_eq 169 hc dM_ofBand_151 rfl (fun h_151 => ?_) (fun h_151 => ?_)
            · skip
              exact absurd h_151 (by decide)
            · skip
              refine za_aload_n hc dM_ofBand_154 rfl ?_
              refine za_getI hc gfM_143 zob_62 dM_ofBand_155 ?_
              rw [zI_s, if_neg (by decide)]
              refine za_if_ne 165 hc dM_ofBand_158 rfl (fun h_158 => ?_) (fun h_158 => ?_)
              · skip
                refine za_iconst hc 0 dM_ofBand_165 rfl ?_
                refine za_goto 181 hc dM_ofBand_166 rfl ?_
                refine za_putZ hc gpM_236 zob_62 (nz01 (by first | exact Or.inl rfl | exact Or.inr rfl)) dM_ofBand_181 ?_
                refine za_aload_n hc dM_ofBand_184 rfl ?_
                refine za_lload hc dM_ofBand_185 rfl ?_
                refine za_iload hc dM_ofBand_187 rfl ?_
                refine za_if_eq 199 hc dM_ofBand_189 rfl (fun h_189 => ?_) (fun h_189 => ?_)
                · skip
                  exact absurd h_189 (by decide)
                · skip
                  refine za_aload_n hc dM_ofBand_192 rfl ?_
                  refine za_getJ hc gfM_140 zob_62 dM_ofBand_193 ?_
                  rw [zJ_sI, zJ_sI]
                  refine za_goto 203 hc dM_ofBand_196 rfl ?_
                  refine za_lmul hc dM_ofBand_203 ?_
                  refine za_putJ hc gpM_239 zob_62 dM_ofBand_204 ?_
                  refine za_aload_n hc dM_ofBand_207 rfl ?_
                  refine za_iload hc dM_ofBand_208 rfl ?_
                  refine za_if_eq 220 hc dM_ofBand_210 rfl (fun h_210 => ?_) (fun h_210 => ?_)
                  · skip
                    exact absurd h_210 (by decide)
                  · skip
                    refine za_aload_n hc dM_ofBand_213 rfl ?_
                    refine za_getJ hc gfM_123 zob_62 dM_ofBand_214 ?_
                    rw [zJ_s, if_neg (by decide), zJ_sI, zJ_sI]
                    refine za_goto 224 hc dM_ofBand_217 rfl ?_
                    refine za_putJ hc gpM_242 zob_62 dM_ofBand_224 ?_
                    exact za_vret hc rfl dM_ofBand_227 ⟨Nat.zero_le _, Nat.zero_le _⟩ (by first | exact ⟨rfl, oEnd hk2 hf2 h32 (Or.inr rfl) (row_end h32.1 hr (by have := b2; unfold eB loE at this; simp only at this; omega) hφ (Or.inl ⟨rfl, h_119⟩) (Or.inl ⟨rfl, h_158⟩))⟩ | exact ⟨rfl, oEnd hk2 hf2 h32 (Or.inl rfl) (row_end h32.1 hr (by have := b2; unfold eB loE at this; simp only at this; omega) hφ (Or.inl ⟨rfl, h_119⟩) (Or.inr ⟨rfl, h_158⟩))⟩ | exact ⟨rfl, oEnd hk2 hf2 h32 (Or.inr rfl) (row_end h32.1 hr (by have := b2; unfold eB loE at this; simp only at this; omega) hφ (Or.inr ⟨rfl, h_119⟩) (Or.inl ⟨rfl, h_158⟩))⟩ | exact ⟨rfl, oEnd hk2 hf2 h32 (Or.inl rfl) (row_end h32.1 hr (by have := b2; unfold eB loE at this; simp only at this; omega) hφ (Or.inr ⟨rfl, h_119⟩) (Or.inr ⟨rfl, h_158⟩))⟩)
              · skip
                refine za_iconst hc 1 dM_ofBand_161 rfl ?_
                refine za_goto 181 hc dM_ofBand_162 rfl ?_
                refine za_putZ hc gpM_236 zob_62 (nz01 (by first | exact Or.inl rfl | exact Or.inr rfl)) dM_ofBand_181 ?_
                refine za_aload_n hc dM_ofBand_184 rfl ?_
                refine za_lload hc dM_ofBand_185 rfl ?_
                refine za_iload hc dM_ofBand_187 rfl ?_
                refine za_if_eq 199 hc dM_ofBand_189 rfl (fun h_189 => ?_) (fun h_189 => ?_)
                · skip
                  exact absurd h_189 (by decide)
                · skip
                  refine za_aload_n hc dM_ofBand_192 rfl ?_
                  refine za_getJ hc gfM_140 zob_62 dM_ofBand_193 ?_
                  rw [zJ_sI, zJ_sI]
                  refine za_goto 203 hc dM_ofBand_196 rfl ?_
                  refine za_lmul hc dM_ofBand_203 ?_
                  refine za_putJ hc gpM_239 zob_62 dM_ofBand_204 ?_
                  refine za_aload_n hc dM_ofBand_207 rfl ?_
                  refine za_iload hc dM_ofBand_208 rfl ?_
                  refine za_if_eq 220 hc dM_ofBand_210 rfl (fun h_210 => ?_) (fun h_210 => ?_)
                  · skip
                    exact absurd h_210 (by decide)
                  · skip
                    refine za_aload_n hc dM_ofBand_213 rfl ?_
                    refine za_getJ hc gfM_123 zob_62 dM_ofBand_214 ?_
                    rw [zJ_s, if_neg (by decide), zJ_sI, zJ_sI]
                    refine za_goto 224 hc dM_ofBand_217 rfl ?_
                    refine za_putJ hc gpM_242 zob_62 dM_ofBand_224 ?_
                    exact za_vret hc rfl dM_ofBand_227 ⟨Nat.zero_le _, Nat.zero_le _⟩ (by first | exact ⟨rfl, oEnd hk2 hf2 h32 (Or.inr rfl) (row_end h32.1 hr (by have := b2; unfold eB loE at this; simp only at this; omega) hφ (Or.inl ⟨rfl, h_119⟩) (Or.inl ⟨rfl, h_158⟩))⟩ | exact ⟨rfl, oEnd hk2 hf2 h32 (Or.inl rfl) (row_end h32.1 hr (by have := b2; unfold eB loE at this; simp only at this; omega) hφ (Or.inl ⟨rfl, h_119⟩) (Or.inr ⟨rfl, h_158⟩))⟩ | exact ⟨rfl, oEnd hk2 hf2 h32 (Or.inr rfl) (row_end h32.1 hr (by have := b2; unfold eB loE at this; simp only at this; omega) hφ (Or.inr ⟨rfl, h_119⟩) (Or.inl ⟨rfl, h_158⟩))⟩ | exact ⟨rfl, oEnd hk2 hf2 h32 (Or.inl rfl) (row_end h32.1 hr (by have := b2; unfold eB loE at this; simp only at this; omega) hφ (Or.inr ⟨rfl, h_119⟩) (Or.inr ⟨rfl, h_158⟩))⟩)
          · skip
            refine za_iconst hc 1 dM_ofBand_123 rfl ?_
            refine za_goto 145 hc dM_ofBand_124 rfl ?_
            refine za_putZ hc gpM_233 zob_62 (nz01 (by first | exact Or.inl rfl | exact Or.inr rfl)) dM_ofBand_145 ?_
            refine za_aload_n hc dM_ofBand_148 rfl ?_
            refine za_iload hc dM_ofBand_149 rfl ?_
            refine za_if_eq 169 hc dM_ofBand_151 rfl (fun h_151 => ?_) (fun h_151 => ?_)
            · skip
              exact absurd h_151 (by decide)
            · skip
              refine za_aload_n hc dM_ofBand_154 rfl ?_
              refine za_getI hc gfM_143 zob_62 dM_ofBand_155 ?_
              rw [zI_s, if_neg (by decide)]
              refine za_if_ne 165 hc dM_ofBand_158 rfl (fun h_158 => ?_) (fun h_158 => ?_)
              · skip
                refine za_iconst hc 0 dM_ofBand_165 rfl ?_
                refine za_goto 181 hc dM_ofBand_166 rfl ?_
                refine za_putZ hc gpM_236 zob_62 (nz01 (by first | exact Or.inl rfl | exact Or.inr rfl)) dM_ofBand_181 ?_
                refine za_aload_n hc dM_ofBand_184 rfl ?_
                refine za_lload hc dM_ofBand_185 rfl ?_
                refine za_iload hc dM_ofBand_187 rfl ?_
                refine za_if_eq 199 hc dM_ofBand_189 rfl (fun h_189 => ?_) (fun h_189 => ?_)
                · skip
                  exact absurd h_189 (by decide)
                · skip
                  refine za_aload_n hc dM_ofBand_192 rfl ?_
                  refine za_getJ hc gfM_140 zob_62 dM_ofBand_193 ?_
                  rw [zJ_sI, zJ_sI]
                  refine za_goto 203 hc dM_ofBand_196 rfl ?_
                  refine za_lmul hc dM_ofBand_203 ?_
                  refine za_putJ hc gpM_239 zob_62 dM_ofBand_204 ?_
                  refine za_aload_n hc dM_ofBand_207 rfl ?_
                  refine za_iload hc dM_ofBand_208 rfl ?_
                  refine za_if_eq 220 hc dM_ofBand_210 rfl (fun h_210 => ?_) (fun h_210 => ?_)
                  · skip
                    exact absurd h_210 (by decide)
                  · skip
                    refine za_aload_n hc dM_ofBand_213 rfl ?_
                    refine za_getJ hc gfM_123 zob_62 dM_ofBand_214 ?_
                    rw [zJ_s, if_neg (by decide), zJ_sI, zJ_sI]
                    refine za_goto 224 hc dM_ofBand_217 rfl ?_
                    refine za_putJ hc gpM_242 zob_62 dM_ofBand_224 ?_
                    exact za_vret hc rfl dM_ofBand_227 ⟨Nat.zero_le _, Nat.zero_le _⟩ (by first | exact ⟨rfl, oEnd hk2 hf2 h32 (Or.inr rfl) (row_end h32.1 hr (by have := b2; unfold eB loE at this; simp only at this; omega) hφ (Or.inl ⟨rfl, h_119⟩) (Or.inl ⟨rfl, h_158⟩))⟩ | exact ⟨rfl, oEnd hk2 hf2 h32 (Or.inl rfl) (row_end h32.1 hr (by have := b2; unfold eB loE at this; simp only at this; omega) hφ (Or.inl ⟨rfl, h_119⟩) (Or.inr ⟨rfl, h_158⟩))⟩ | exact ⟨rfl, oEnd hk2 hf2 h32 (Or.inr rfl) (row_end h32.1 hr (by have := b2; unfold eB loE at this; simp only at this; omega) hφ (Or.inr ⟨rfl, h_119⟩) (Or.inl ⟨rfl, h_158⟩))⟩ | exact ⟨rfl, oEnd hk2 hf2 h32 (Or.inl rfl) (row_end h32.1 hr (by have := b2; unfold eB loE at this; simp only at this; omega) hφ (Or.inr ⟨rfl, h_119⟩) (Or.inr ⟨rfl, h_158⟩))⟩)
              · skip
                refine za_iconst hc 1 dM_ofBand_161 rfl ?_
                refine za_goto 181 hc dM_ofBand_162 rfl ?_
                refine za_putZ hc gpM_236 zob_62 (nz01 (by first | exact Or.inl rfl | exact Or.inr rfl)) dM_ofBand_181 ?_
                refine za_aload_n hc dM_ofBand_184 rfl ?_
                refine za_lload hc dM_ofBand_185 rfl ?_
                refine za_iload hc dM_ofBand_187 rfl ?_
                refine za_if_eq 199 hc dM_ofBand_189 rfl (fun h_189 => ?_) (fun h_189 => ?_)
                · skip
                  exact absurd h_189 (by decide)
                · skip
                  refine za_aload_n hc dM_ofBand_192 rfl ?_
                  refine za_getJ hc gfM_140 zob_62 dM_ofBand_193 ?_
                  rw [zJ_sI, zJ_sI]
                  refine za_goto 203 hc dM_ofBand_196 rfl ?_
                  refine za_lmul hc dM_ofBand_203 ?_
                  refine za_putJ hc gpM_239 zob_62 dM_ofBand_204 ?_
                  refine za_aload_n hc dM_ofBand_207 rfl ?_
                  refine za_iload hc dM_ofBand_208 rfl ?_
                  refine za_if_eq 220 hc dM_ofBand_210 rfl (fun h_210 => ?_) (fun h_210 => ?_)
                  · skip
                    exact absurd h_210 (by decide)
                  · skip
                    refine za_aload_n hc dM_ofBand_213 rfl ?_
                    refine za_getJ hc gfM_123 zob_62 dM_ofBand_214 ?_
                    rw [zJ_s, if_neg (by decide), zJ_sI, zJ_sI]
                    refine za_goto 224 hc dM_ofBand_217 rfl ?_
                    refine za_putJ hc gpM_242 zob_62 dM_ofBand_224 ?_
                    exact za_vret hc rfl dM_ofBand_227 ⟨Nat.zero_le _, Nat.zero_le _⟩ (by first | exact ⟨rfl, oEnd hk2 hf2 h32 (Or.inr rfl) (row_end h32.1 hr (by have := b2; unfold eB loE at this; simp only at this; omega) hφ (Or.inl ⟨rfl, h_119⟩) (Or.inl ⟨rfl, h_158⟩))⟩ | exact ⟨rfl, oEnd hk2 hf2 h32 (Or.inl rfl) (row_end h32.1 hr (by have := b2; unfold eB loE at this; simp only at this; omega) hφ (Or.inl ⟨rfl, h_119⟩) (Or.inr ⟨rfl, h_158⟩))⟩ | exact ⟨rfl, oEnd hk2 hf2 h32 (Or.inr rfl) (row_end h32.1 hr (by have := b2; unfold eB loE at this; simp only at this; omega) hφ (Or.inr ⟨rfl, h_119⟩) (Or.inl ⟨rfl, h_158⟩))⟩ | exact ⟨rfl, oEnd hk2 hf2 h32 (Or.inl rfl) (row_end h32.1 hr (by have := b2; unfold eB loE at this; simp only at this; omega) hφ (Or.inr ⟨rfl, h_119⟩) (Or.inr ⟨rfl, h_158⟩))⟩)
    refine za_aload_n hc dM_ofBand_36 rfl ?_
    refine za_getI hc gfM_233 zob_62 dM_ofBand_37 ?_
    refine za_if_ne 70 hc dM_ofBand_40 rfl (fun h_40 => ?_) (fun h_40 => ?_)
    · skip
      obtain ⟨-, ef, eg⟩ : zI M1 62 40 = 1 ∧ f = 0 ∧ g = 0 := hbb.resolve_right (fun z => h_40 z.1)
      have e40 : zI M1 62 40 = 1 := (hbb.resolve_right (fun z => h_40 z.1)).1
      have hrow : gRowA ls f.toInt g.toInt (zI M1 62 40) (zI M1 62 41) (zJ M1 62 42).toInt (zJ M1 62 43).toInt := by
        rw [e40, e41, e42, e43, ef, eg]
        exact ⟨Or.inr rfl, fun z => absurd z (by decide), fun _ => ⟨gInf_z hsat, by decide, by decide⟩⟩
      exact za_vret hc rfl dM_ofBand_70 ⟨Nat.zero_le _, Nat.zero_le _⟩ (⟨rfl, END hrow⟩)
    · skip
      have hfg : ¬ (f = 0 ∧ g = 0) := (hbb.resolve_left (fun z => absurd (z.1.symm.trans h_40) (by decide))).2
      have e40 := h_40
      have hfg2 : ¬ (f.toInt = 0 ∧ g.toInt = 0) := fun z => hfg ⟨t0_iff.mp z.1, t0_iff.mp z.2⟩
      have rowU : gUn ls f.toInt g.toInt → gRowA ls f.toInt g.toInt (zI M1 62 40) (zI M1 62 41) (zJ M1 62 42).toInt (zJ M1 62 43).toInt := fun h => ⟨Or.inl e40, fun _ => h, fun z => absurd (e40.symm.trans z) (by decide)⟩
      refine za_aload_n hc dM_ofBand_43 rfl ?_
      refine za_getI hc gfM_73 zob_62 dM_ofBand_44 ?_
      rw [hH1.1]
      refine za_if_eq 70 hc dM_ofBand_47 rfl (fun h_47 => ?_) (fun h_47 => ?_)
      · skip
        have he : ls = [] := List.length_eq_zero_iff.mp (Nat.le_zero.mp ((nI_leI (by omega) (by decide)).mp (by rw [h_47]; exact Int32.le_refl _ : nI ls.length ≤ nI 0)))
        have hrow := rowU (by rw [he]; exact g_nilUn hfg2)
        exact za_vret hc rfl dM_ofBand_70 ⟨Nat.zero_le _, Nat.zero_le _⟩ (⟨rfl, END hrow⟩)
      · skip
        have hne : 0 < ls.length := Nat.pos_of_ne_zero (fun z => h_47 (by rw [z]; rfl))
        obtain ⟨h0, hh⟩ : ∃ h0, ls[0]? = some h0 := ⟨_, List.getElem?_eq_getElem hne⟩
        have d1 : (zJ M1 77 0).toInt = h0.1 ∧ (zJ M1 78 0).toInt = h0.2.1 := by rw [← hH1.2.2.1 0 h0 hh]; exact ⟨rfl, rfl⟩
        have bb := hB2 h0 (List.mem_of_getElem? hh)
        have l1 : (f * zJ M1 78 0).toInt = f.toInt * h0.2.1 := by rw [l_one (by omega) (by rw [d1.2]; exact bb.2.1), d1.2]
        have l2 : (g * zJ M1 77 0).toInt = g.toInt * h0.1 := by rw [l_one (by omega) (by rw [d1.1]; exact bb.1), d1.1]
        refine za_lload_n hc dM_ofBand_50 rfl ?_
        refine za_aload_n hc dM_ofBand_51 rfl ?_
        refine za_getA hc gfM_57 zob_62 (p := 78) rfl dM_ofBand_52 ?_
        refine za_iconst hc (nI 0) dM_ofBand_55 rfl ?_
        refine zm_lald hc (by assumption) dM_ofBand_56 (by decide) (by decide) ?_
        refine za_lmul hc dM_ofBand_57 ?_
        refine za_lload_n hc dM_ofBand_58 rfl ?_
        refine za_aload_n hc dM_ofBand_59 rfl ?_
        refine za_getA hc gfM_54 zob_62 (p := 77) rfl dM_ofBand_60 ?_
        refine za_iconst hc (nI 0) dM_ofBand_63 rfl ?_
        refine zm_lald hc (by assumption) dM_ofBand_64 (by decide) (by decide) ?_
        refine za_lmul hc dM_ofBand_65 ?_
        refine za_lcmp_eq 71 hc dM_ofBand_66 dM_ofBand_67 rfl (fun h_66 => ?_) (fun h_66 => ?_)
        · skip
          have hpar : f.toInt * h0.2.1 = g.toInt * h0.1 := by rw [← l1, ← l2, h_66]
          refine za_aload_n hc dM_ofBand_71 rfl ?_
          refine za_cV0i hc gsM_102 zob_62 (cM_band_ l M1 hH1 hB2 (fun up hup => (g_line (List.mem_of_getElem? hh) hnz (hcr h0 hh) hup).1) h3.1 h3.2) ⟨rfl, rfl⟩ ⟨Nat.le_of_ble_eq_true rfl, Nat.le_of_ble_eq_true rfl⟩ ⟨Nat.zero_le _, Nat.zero_le _⟩ dM_ofBand_72 (fun x_72 M_72 h_72 => ?_)
          obtain ⟨r0, up, r1, r2, r3, r4, r5, r6, r7, r8⟩ := h_72
          obtain ⟨z1, α, β, z2, z3, z4⟩ := g_line (List.mem_of_getElem? hh) hnz (hcr h0 hh) r1
          obtain ⟨y1, y2⟩ := hiF_s up ls ((zJ M1 62 37).toInt, 0, zI M1 62 39 == 1) rfl
          obtain ⟨y3, y4⟩ := loF_s up ls (-(zJ M1 62 34).toInt, 0, zI M1 62 36 == 1) rfl z1
          rw [← r2] at y1 y2
          rw [← r3] at y3 y4
          obtain ⟨hφ0, hform⟩ := g_form (List.mem_of_getElem? hh) hnz (hcr h0 hh) r1 hfg2 hpar z4
          have hH2 : qH M_72 ls := qH_62 hH1 r8 (r7 19 (by decide)).1
          have d2 : (zJ M_72 77 0).toInt = h0.1 := by rw [← hH2.2.2.1 0 h0 hh]; rfl
          refine za_pop hc dM_ofBand_75 rfl ?_
          refine za_aload_n hc dM_ofBand_76 rfl ?_
          refine za_getA hc gfM_54 zob_62 (p := 77) rfl dM_ofBand_77 ?_
          refine za_iconst hc (nI 0) dM_ofBand_80 rfl ?_
          refine zm_lald hc (by assumption) dM_ofBand_81 (by decide) (by decide) ?_
          refine za_lconst hc 0 dM_ofBand_82 rfl ?_
          refine za_lcmp_ne 91 hc dM_ofBand_83 dM_ofBand_84 rfl (fun h_83 => ?_) (fun h_83 => ?_)
          · skip
            have hz0 : ¬ h0.1 = 0 := fun z => h_83 (t0_iff.mp (by rw [d2]; exact z))
            refine za_lload_n hc dM_ofBand_91 rfl ?_
            refine za_lstore hc dM_ofBand_92 (by decide) ?_
            first
            | exact AFTER _ h0 M_72 up α β hh hfg (by rw [if_neg hz0] at hφ0; exact hφ0) hf (by rw [if_neg hz0] at hform; exact hform) z3 y4 y2 (fun x y => g_band α β z2 z3 z1 y1 y3 x y) r4.1 r4.2 r6 (hk1.tr (r7.wk (by decide))) (hf1.tr r8)
            | exact AFTER _ h0 M_72 up α β hh hfg (by rw [if_pos hz1] at hφ0; exact hφ0) hg (by rw [if_pos hz1] at hform; exact hform) z3 y4 y2 (fun x y => g_band α β z2 z3 z1 y1 y3 x y) r4.1 r4.2 r6 (hk1.tr (r7.wk (by decide))) (hf1.tr r8)
          · skip
            have hz1 : h0.1 = 0 := by rw [← d2, h_83]; rfl
            refine za_lload_n hc dM_ofBand_87 rfl ?_
            refine za_goto 92 hc dM_ofBand_88 rfl ?_
            refine za_lstore hc dM_ofBand_92 (by decide) ?_
            first
            | exact AFTER _ h0 M_72 up α β hh hfg (by rw [if_neg hz0] at hφ0; exact hφ0) hf (by rw [if_neg hz0] at hform; exact hform) z3 y4 y2 (fun x y => g_band α β z2 z3 z1 y1 y3 x y) r4.1 r4.2 r6 (hk1.tr (r7.wk (by decide))) (hf1.tr r8)
            | exact AFTER _ h0 M_72 up α β hh hfg (by rw [if_pos hz1] at hφ0; exact hφ0) hg (by rw [if_pos hz1] at hform; exact hform) z3 y4 y2 (fun x y => g_band α β z2 z3 z1 y1 y3 x y) r4.1 r4.2 r6 (hk1.tr (r7.wk (by decide))) (hf1.tr r8)
        · skip
          have hrow := rowU (g_sideUn hsat (hcr h0 hh) (fun z => h_66 (Int64.toInt_inj.mp (by rw [l1, l2]; exact z))))
          exact za_vret hc rfl dM_ofBand_70 ⟨Nat.zero_le _, Nat.zero_le _⟩ (⟨rfl, END hrow⟩)
  refine za_aload_n hc dM_ofBand_0 rfl ?_
  refine za_lload_n hc dM_ofBand_1 rfl ?_
  refine za_lconst hc 0 dM_ofBand_2 rfl ?_
  refine za_lcmp_ne 17 hc dM_ofBand_3 dM_ofBand_4 rfl (fun h_3 => ?_) (fun h_3 => ?_)
  · skip
    refine za_iconst hc 0 dM_ofBand_17 rfl ?_
    refine za_putZ hc gpM_233 zob_62 (nz01 (by first | exact Or.inl rfl | exact Or.inr rfl)) dM_ofBand_18 ?_
    refine za_aload_n hc dM_ofBand_21 rfl ?_
    refine za_iconst hc 1 dM_ofBand_22 rfl ?_
    refine za_putZ hc gpM_236 zob_62 (nz01 (by first | exact Or.inl rfl | exact Or.inr rfl)) dM_ofBand_23 ?_
    refine za_aload_n hc dM_ofBand_26 rfl ?_
    refine za_lconst hc 0 dM_ofBand_27 rfl ?_
    refine za_putJ hc gpM_239 zob_62 dM_ofBand_28 ?_
    refine za_aload_n hc dM_ofBand_31 rfl ?_
    refine za_lconst hc 1 dM_ofBand_32 rfl ?_
    refine za_putJ hc gpM_242 zob_62 dM_ofBand_33 ?_
    first
    | exact TAIL (oS M 1 1 0 1) (oS_k.wk (by decide)) oS_f (m3640_k h30 oS_k (by decide) (by decide)) oS_41 oS_42 oS_43 (Or.inl ⟨oS_40, h_3, h_9⟩)
    | exact TAIL (oS M 0 1 0 1) (oS_k.wk (by decide)) oS_f (m3640_k h30 oS_k (by decide) (by decide)) oS_41 oS_42 oS_43 (Or.inr ⟨oS_40, fun z => h_3 z.1⟩)
    | exact TAIL (oS M 0 1 0 1) (oS_k.wk (by decide)) oS_f (m3640_k h30 oS_k (by decide) (by decide)) oS_41 oS_42 oS_43 (Or.inr ⟨oS_40, fun z => h_9 z.2⟩)
  · skip
    refine za_lload_n hc dM_ofBand_7 rfl ?_
    refine za_lconst hc 0 dM_ofBand_8 rfl ?_
    refine za_lcmp_ne 17 hc dM_ofBand_9 dM_ofBand_10 rfl (fun h_9 => ?_) (fun h_9 => ?_)
    · skip
      refine za_iconst hc 0 dM_ofBand_17 rfl ?_
      refine za_putZ hc gpM_233 zob_62 (nz01 (by first | exact Or.inl rfl | exact Or.inr rfl)) dM_ofBand_18 ?_
      refine za_aload_n hc dM_ofBand_21 rfl ?_
      refine za_iconst hc 1 dM_ofBand_22 rfl ?_
      refine za_putZ hc gpM_236 zob_62 (nz01 (by first | exact Or.inl rfl | exact Or.inr rfl)) dM_ofBand_23 ?_
      refine za_aload_n hc dM_ofBand_26 rfl ?_
      refine za_lconst hc 0 dM_ofBand_27 rfl ?_
      refine za_putJ hc gpM_239 zob_62 dM_ofBand_28 ?_
      refine za_aload_n hc dM_ofBand_31 rfl ?_
      refine za_lconst hc 1 dM_ofBand_32 rfl ?_
      refine za_putJ hc gpM_242 zob_62 dM_ofBand_33 ?_
      first
      | exact TAIL (oS M 1 1 0 1) (oS_k.wk (by decide)) oS_f (m3640_k h30 oS_k (by decide) (by decide)) oS_41 oS_42 oS_43 (Or.inl ⟨oS_40, h_3, h_9⟩)
      | exact TAIL (oS M 0 1 0 1) (oS_k.wk (by decide)) oS_f (m3640_k h30 oS_k (by decide) (by decide)) oS_41 oS_42 oS_43 (Or.inr ⟨oS_40, fun z => h_3 z.1⟩)
      | exact TAIL (oS M 0 1 0 1) (oS_k.wk (by decide)) oS_f (m3640_k h30 oS_k (by decide) (by decide)) oS_41 oS_42 oS_43 (Or.inr ⟨oS_40, fun z => h_9 z.2⟩)
    · skip
      refine za_iconst hc 1 dM_ofBand_13 rfl ?_
      refine za_goto 18 hc dM_ofBand_14 rfl ?_
      refine za_putZ hc gpM_233 zob_62 (nz01 (by first | exact Or.inl rfl | exact Or.inr rfl)) dM_ofBand_18 ?_
      refine za_aload_n hc dM_ofBand_21 rfl ?_
      refine za_iconst hc 1 dM_ofBand_22 rfl ?_
      refine za_putZ hc gpM_236 zob_62 (nz01 (by first | exact Or.inl rfl | exact Or.inr rfl)) dM_ofBand_23 ?_
      refine za_aload_n hc dM_ofBand_26 rfl ?_
      refine za_lconst hc 0 dM_ofBand_27 rfl ?_
      refine za_putJ hc gpM_239 zob_62 dM_ofBand_28 ?_
      refine za_aload_n hc dM_ofBand_31 rfl ?_
      refine za_lconst hc 1 dM_ofBand_32 rfl ?_
      refine za_putJ hc gpM_242 zob_62 dM_ofBand_33 ?_
      first
      | exact TAIL (oS M 1 1 0 1) (oS_k.wk (by decide)) oS_f (m3640_k h30 oS_k (by decide) (by decide)) oS_41 oS_42 oS_43 (Or.inl ⟨oS_40, h_3, h_9⟩)
      | exact TAIL (oS M 0 1 0 1) (oS_k.wk (by decide)) oS_f (m3640_k h30 oS_k (by decide) (by decide)) oS_41 oS_42 oS_43 (Or.inr ⟨oS_40, fun z => h_3 z.1⟩)
      | exact TAIL (oS M 0 1 0 1) (oS_k.wk (by decide)) oS_f (m3640_k h30 oS_k (by decide) (by decide)) oS_41 oS_42 oS_43 (Or.inr ⟨oS_40, fun z => h_9 z.2⟩)
