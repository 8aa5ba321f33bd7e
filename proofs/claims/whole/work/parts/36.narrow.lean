/-! Span.narrow. -/
def sE (M : zM) (p e : Nat) : gE := ((zJ M (p + 1) e).toInt, (zJ M (p + 2) e).toInt, zI M (p + 3) e == 1)
/-- a span within bounds -/
def sB (M : zM) (p : Nat) : Prop := (∀ e, -1073741824 ≤ (zJ M (p + 1) e).toInt ∧ (zJ M (p + 1) e).toInt ≤ 1073741824) ∧ (∀ e, 0 ≤ (zJ M (p + 2) e).toInt ∧ (zJ M (p + 2) e).toInt ≤ 1073741824) ∧ ∀ e, zI M (p + 3) e = 0 ∨ zI M (p + 3) e = 1
def sA (p : Nat) : Nat → Prop := fun k => p + 1 ≤ k ∧ k ≤ p + 3
def sPost (M : zM) (p : Nat) (n m : Int64) (s : Int32) (r : Int32) (M' : zM) : Prop :=
  zfr (sA p) M M' ∧ sB M' p ∧ (r = 0 ∨ r = 1) ∧ (n.toInt = 0 → M' = M ∧ (r = 1 ↔ 0 < m.toInt ∨ (m.toInt = 0 ∧ s = 0))) ∧
  (n.toInt ≠ 0 → sE M' p 0 = (if 0 < n.toInt then gEup (sE M p 0) m.toInt n.toInt (s == 1) else sE M p 0) ∧ sE M' p 1 = (if 0 < n.toInt then sE M p 1 else gEup (sE M p 1) m.toInt (-n.toInt) (s == 1)) ∧ (r = 1 ↔ gGap (sE M' p 0) (sE M' p 1)))
theorem lz : (0 : Int64).toInt = 0 := by decide

set_option maxRecDepth 100000 in
set_option maxHeartbeats 4000000 in
theorem cS_narrow_ (l : Launch) {p : Nat} (M : zM) (n m : Int64) (s : Int32) (hp : zsp p) (hB : sB M p) (hs : s = 0 ∨ s = 1) (hbd : n.toInt ≠ 0 → (-1073741824 ≤ n.toInt ∧ n.toInt ≤ 1073741824) ∧ (-1073741824 ≤ m.toInt ∧ m.toInt ≤ 1073741824)) : zMet l mS_narrow rS_narrow [.ref p, .long n, .long m, .int s] M (zqi (sPost M p n m s)) := by
  refine za_enter (by decide) (Nat.le_of_ble_eq_true rfl) (fun X hc => ?_)
  have h0 := hp.o
  have h1 := hp.t
  have h2 := hp.b
  have h3 := hp.s
  have fin : ∀ (M1 : zM), zfr (sA p) M M1 → sB M1 p → (n.toInt ≠ 0 ∧ sE M1 p 0 = (if 0 < n.toInt then gEup (sE M p 0) m.toInt n.toInt (s == 1) else sE M p 0) ∧ sE M1 p 1 = (if 0 < n.toInt then sE M p 1 else gEup (sE M p 1) m.toInt (-n.toInt) (s == 1))) → zW X (zqi (sPost M p n m s)) (0, 0) 138 [(0, .ref p)] [] M1 := by
    intro M1 hf hB1 he
    have b1 := hB1.2.1 0
    have b2 := hB1.2.1 1
    have t1 := hB1.1 0
    have t2 := hB1.1 1
    have p1 := g_mulb t1 (show -1073741824 ≤ _ ∧ _ ≤ (1073741824 : Int) from ⟨by omega, b2.2⟩)
    have p2 := g_mulb t2 (show -1073741824 ≤ _ ∧ _ ≤ (1073741824 : Int) from ⟨by omega, b1.2⟩)
    refine za_aload_n hc dS_narrow_138 rfl ?_
    refine za_getS hc gfS_13 (by assumption) dS_narrow_139 ?_
    refine za_iconst hc 0 dS_narrow_142 rfl ?_
    refine za_lald hc (by assumption) dS_narrow_143 (by unfold vp_in; decide) ?_
    refine za_lconst hc 0 dS_narrow_144 rfl ?_
    refine za_lcmp_eq 160 hc dS_narrow_145 dS_narrow_146 rfl (fun h_145 => ?_) (fun h_145 => ?_)
    · skip
      have z1 : zJ M1 (p + 2) 0 = 0 := h_145
      refine za_iconst hc 1 dS_narrow_160 rfl ?_
      exact za_zret hc rfl (rfl) dS_narrow_161 ⟨Nat.zero_le _, Nat.zero_le _⟩ (by first | exact ⟨1, rfl, hf, hB1, Or.inr rfl, fun z => absurd z he.1, fun _ => ⟨he.2.1, he.2.2, ⟨fun _ => Or.inl (by show (zJ M1 (p + 2) 0).toInt = 0; rw [z1]; rfl), fun _ => rfl⟩⟩⟩ | exact ⟨1, rfl, hf, hB1, Or.inr rfl, fun z => absurd z he.1, fun _ => ⟨he.2.1, he.2.2, ⟨fun _ => Or.inr (Or.inl (by show (zJ M1 (p + 2) 1).toInt = 0; rw [z2]; rfl)), fun _ => rfl⟩⟩⟩)
    · skip
      have z1 : ¬ zJ M1 (p + 2) 0 = 0 := h_145
      rw [← Int64.toInt_inj, lz] at z1
      refine za_aload_n hc dS_narrow_149 rfl ?_
      refine za_getS hc gfS_13 (by assumption) dS_narrow_150 ?_
      refine za_iconst hc 1 dS_narrow_153 rfl ?_
      refine za_lald hc (by assumption) dS_narrow_154 (by unfold vp_in; decide) ?_
      refine za_lconst hc 0 dS_narrow_155 rfl ?_
      refine za_lcmp_ne 162 hc dS_narrow_156 dS_narrow_157 rfl (fun h_156 => ?_) (fun h_156 => ?_)
      · skip
        have z2 : ¬ zJ M1 (p + 2) 1 = 0 := h_156
        rw [← Int64.toInt_inj, lz] at z2
        have hgap : (zJ M1 (p + 1) 0 * zJ M1 (p + 2) 1 + zJ M1 (p + 1) 1 * zJ M1 (p + 2) 0).toInt = (zJ M1 (p + 1) 0).toInt * (zJ M1 (p + 2) 1).toInt + (zJ M1 (p + 1) 1).toInt * (zJ M1 (p + 2) 0).toInt := by
          have e1 := l_mul (x := zJ M1 (p + 1) 0) (y := zJ M1 (p + 2) 1) (by omega) (by omega)
          have e2 := l_mul (x := zJ M1 (p + 1) 1) (y := zJ M1 (p + 2) 0) (by omega) (by omega)
          rw [l_add (by omega) (by omega), e1, e2]
        refine za_aload_n hc dS_narrow_162 rfl ?_
        refine za_getS hc gfS_7 (by assumption) dS_narrow_163 ?_
        refine za_iconst hc 0 dS_narrow_166 rfl ?_
        refine za_lald hc (by assumption) dS_narrow_167 (by unfold vp_in; decide) ?_
        refine za_aload_n hc dS_narrow_168 rfl ?_
        refine za_getS hc gfS_13 (by assumption) dS_narrow_169 ?_
        refine za_iconst hc 1 dS_narrow_172 rfl ?_
        refine za_lald hc (by assumption) dS_narrow_173 (by unfold vp_in; decide) ?_
        refine za_lmul hc dS_narrow_174 ?_
        refine za_aload_n hc dS_narrow_175 rfl ?_
        refine za_getS hc gfS_7 (by assumption) dS_narrow_176 ?_
        refine za_iconst hc 1 dS_narrow_179 rfl ?_
        refine za_lald hc (by assumption) dS_narrow_180 (by unfold vp_in; decide) ?_
        refine za_aload_n hc dS_narrow_181 rfl ?_
        refine za_getS hc gfS_13 (by assumption) dS_narrow_182 ?_
        refine za_iconst hc 0 dS_narrow_185 rfl ?_
        refine za_lald hc (by assumption) dS_narrow_186 (by unfold vp_in; decide) ?_
        refine za_lmul hc dS_narrow_187 ?_
        refine za_ladd hc dS_narrow_188 ?_
        refine za_lstore hc dS_narrow_189 (by decide) ?_
        refine za_lload hc dS_narrow_191 rfl ?_
        refine za_lconst hc 0 dS_narrow_193 rfl ?_
        refine za_lcmp_gt 223 hc dS_narrow_194 dS_narrow_195 rfl (fun h_194 => ?_) (fun h_194 => ?_)
        · skip
          have c1 : 0 < (zJ M1 (p + 1) 0).toInt * (zJ M1 (p + 2) 1).toInt + (zJ M1 (p + 1) 1).toInt * (zJ M1 (p + 2) 0).toInt := by rw [← hgap]; exact (Int64.lt_iff_toInt_lt.mp h_194)
          refine za_iconst hc 1 dS_narrow_223 rfl ?_
          refine za_goto 228 hc dS_narrow_224 rfl ?_
          exact za_zret hc rfl (rfl) dS_narrow_228 ⟨Nat.zero_le _, Nat.zero_le _⟩ (by first | exact ⟨1, rfl, hf, hB1, Or.inr rfl, fun z => absurd z he.1, fun _ => ⟨he.2.1, he.2.2, ⟨fun _ => Or.inr (Or.inr (Or.inl c1)), fun _ => rfl⟩⟩⟩ | exact ⟨1, rfl, hf, hB1, Or.inr rfl, fun z => absurd z he.1, fun _ => ⟨he.2.1, he.2.2, ⟨fun _ => Or.inr (Or.inr (Or.inr ⟨c2, by show (zI M1 (p + 3) 0 == 1) = false; rw [s1]; rfl, by show (zI M1 (p + 3) 1 == 1) = false; rw [s2]; rfl⟩)), fun _ => rfl⟩⟩⟩ | exact ⟨0, rfl, hf, hB1, Or.inl rfl, fun z => absurd z he.1, fun _ => ⟨he.2.1, he.2.2, ⟨fun z => absurd z (by decide), fun z => absurd z (by rintro (z | z | z | ⟨z, z3, z4⟩); exact z1 z; exact z2 z; exact c1 z; exact c2 z)⟩⟩⟩ | exact ⟨0, rfl, hf, hB1, Or.inl rfl, fun z => absurd z he.1, fun _ => ⟨he.2.1, he.2.2, ⟨fun z => absurd z (by decide), fun z => absurd z (by rintro (z | z | z | ⟨z, z3, z4⟩); exact z1 z; exact z2 z; exact c1 z; have z3 : (zI M1 (p + 3) 0 == 1) = false := z3; rw [s1] at z3; exact absurd z3 (by decide))⟩⟩⟩ | exact ⟨0, rfl, hf, hB1, Or.inl rfl, fun z => absurd z he.1, fun _ => ⟨he.2.1, he.2.2, ⟨fun z => absurd z (by decide), fun z => absurd z (by rintro (z | z | z | ⟨z, z3, z4⟩); exact z1 z; exact z2 z; exact c1 z; have z4 : (zI M1 (p + 3) 1 == 1) = false := z4; rw [s2] at z4; exact absurd z4 (by decide))⟩⟩⟩)
        · skip
          have c1 : ¬ 0 < (zJ M1 (p + 1) 0).toInt * (zJ M1 (p + 2) 1).toInt + (zJ M1 (p + 1) 1).toInt * (zJ M1 (p + 2) 0).toInt := fun z => h_194 (Int64.lt_iff_toInt_lt.mpr (by rw [lz]; exact hgap ▸ z))
          refine za_lload hc dS_narrow_198 rfl ?_
          refine za_lconst hc 0 dS_narrow_200 rfl ?_
          refine za_lcmp_ne 227 hc dS_narrow_201 dS_narrow_202 rfl (fun h_201 => ?_) (fun h_201 => ?_)
          · skip
            have c2 : ¬ (zJ M1 (p + 1) 0).toInt * (zJ M1 (p + 2) 1).toInt + (zJ M1 (p + 1) 1).toInt * (zJ M1 (p + 2) 0).toInt = 0 := fun z => h_201 (Int64.toInt_inj.mp (by rw [lz]; exact hgap.trans z))
            refine za_iconst hc 0 dS_narrow_227 rfl ?_
            exact za_zret hc rfl (rfl) dS_narrow_228 ⟨Nat.zero_le _, Nat.zero_le _⟩ (by first | exact ⟨1, rfl, hf, hB1, Or.inr rfl, fun z => absurd z he.1, fun _ => ⟨he.2.1, he.2.2, ⟨fun _ => Or.inr (Or.inr (Or.inl c1)), fun _ => rfl⟩⟩⟩ | exact ⟨1, rfl, hf, hB1, Or.inr rfl, fun z => absurd z he.1, fun _ => ⟨he.2.1, he.2.2, ⟨fun _ => Or.inr (Or.inr (Or.inr ⟨c2, by show (zI M1 (p + 3) 0 == 1) = false; rw [s1]; rfl, by show (zI M1 (p + 3) 1 == 1) = false; rw [s2]; rfl⟩)), fun _ => rfl⟩⟩⟩ | exact ⟨0, rfl, hf, hB1, Or.inl rfl, fun z => absurd z he.1, fun _ => ⟨he.2.1, he.2.2, ⟨fun z => absurd z (by decide), fun z => absurd z (by rintro (z | z | z | ⟨z, z3, z4⟩); exact z1 z; exact z2 z; exact c1 z; exact c2 z)⟩⟩⟩ | exact ⟨0, rfl, hf, hB1, Or.inl rfl, fun z => absurd z he.1, fun _ => ⟨he.2.1, he.2.2, ⟨fun z => absurd z (by decide), fun z => absurd z (by rintro (z | z | z | ⟨z, z3, z4⟩); exact z1 z; exact z2 z; exact c1 z; have z3 : (zI M1 (p + 3) 0 == 1) = false := z3; rw [s1] at z3; exact absurd z3 (by decide))⟩⟩⟩ | exact ⟨0, rfl, hf, hB1, Or.inl rfl, fun z => absurd z he.1, fun _ => ⟨he.2.1, he.2.2, ⟨fun z => absurd z (by decide), fun z => absurd z (by rintro (z | z | z | ⟨z, z3, z4⟩); exact z1 z; exact z2 z; exact c1 z; have z4 : (zI M1 (p + 3) 1 == 1) = false := z4; rw [s2] at z4; exact absurd z4 (by decide))⟩⟩⟩)
          · skip
            have c2 : (zJ M1 (p + 1) 0).toInt * (zJ M1 (p + 2) 1).toInt + (zJ M1 (p + 1) 1).toInt * (zJ M1 (p + 2) 0).toInt = 0 := by rw [← hgap]; exact congrArg Int64.toInt h_201
            refine za_aload_n hc dS_narrow_205 rfl ?_
            refine za_getS hc gfS_16 (by assumption) dS_narrow_206 ?_
            refine za_iconst hc 0 dS_narrow_209 rfl ?_
            refine za_zald hc (by assumption) dS_narrow_210 (by unfold vp_in; decide) ?_
            refine za_if_ne 227 hc dS_narrow_211 rfl (fun h_211 => ?_) (fun h_211 => ?_)
            · skip
              have s1 : zI M1 (p + 3) 0 = 1 := (hB1.2.2 0).resolve_left h_211
              refine za_iconst hc 0 dS_narrow_227 rfl ?_
              exact za_zret hc rfl (rfl) dS_narrow_228 ⟨Nat.zero_le _, Nat.zero_le _⟩ (by first | exact ⟨1, rfl, hf, hB1, Or.inr rfl, fun z => absurd z he.1, fun _ => ⟨he.2.1, he.2.2, ⟨fun _ => Or.inr (Or.inr (Or.inl c1)), fun _ => rfl⟩⟩⟩ | exact ⟨1, rfl, hf, hB1, Or.inr rfl, fun z => absurd z he.1, fun _ => ⟨he.2.1, he.2.2, ⟨fun _ => Or.inr (Or.inr (Or.inr ⟨c2, by show (zI M1 (p + 3) 0 == 1) = false; rw [s1]; rfl, by show (zI M1 (p + 3) 1 == 1) = false; rw [s2]; rfl⟩)), fun _ => rfl⟩⟩⟩ | exact ⟨0, rfl, hf, hB1, Or.inl rfl, fun z => absurd z he.1, fun _ => ⟨he.2.1, he.2.2, ⟨fun z => absurd z (by decide), fun z => absurd z (by rintro (z | z | z | ⟨z, z3, z4⟩); exact z1 z; exact z2 z; exact c1 z; exact c2 z)⟩⟩⟩ | exact ⟨0, rfl, hf, hB1, Or.inl rfl, fun z => absurd z he.1, fun _ => ⟨he.2.1, he.2.2, ⟨fun z => absurd z (by decide), fun z => absurd z (by rintro (z | z | z | ⟨z, z3, z4⟩); exact z1 z; exact z2 z; exact c1 z; have z3 : (zI M1 (p + 3) 0 == 1) = false := z3; rw [s1] at z3; exact absurd z3 (by decide))⟩⟩⟩ | exact ⟨0, rfl, hf, hB1, Or.inl rfl, fun z => absurd z he.1, fun _ => ⟨he.2.1, he.2.2, ⟨fun z => absurd z (by decide), fun z => absurd z (by rintro (z | z | z | ⟨z, z3, z4⟩); exact z1 z; exact z2 z; exact c1 z; have z4 : (zI M1 (p + 3) 1 == 1) = false := z4; rw [s2] at z4; exact absurd z4 (by decide))⟩⟩⟩)
            · skip
              have s1 : zI M1 (p + 3) 0 = 0 := h_211
              refine za_aload_n hc dS_narrow_214 rfl ?_
              refine za_getS hc gfS_16 (by assumption) dS_narrow_215 ?_
              refine za_iconst hc 1 dS_narrow_218 rfl ?_
              refine za_zald hc (by assumption) dS_narrow_219 (by unfold vp_in; decide) ?_
              refine za_if_ne 227 hc dS_narrow_220 rfl (fun h_220 => ?_) (fun h_220 => ?_)
              · skip
                have s2 : zI M1 (p + 3) 1 = 1 := (hB1.2.2 1).resolve_left h_220
                refine za_iconst hc 0 dS_narrow_227 rfl ?_
                exact za_zret hc rfl (rfl) dS_narrow_228 ⟨Nat.zero_le _, Nat.zero_le _⟩ (by first | exact ⟨1, rfl, hf, hB1, Or.inr rfl, fun z => absurd z he.1, fun _ => ⟨he.2.1, he.2.2, ⟨fun _ => Or.inr (Or.inr (Or.inl c1)), fun _ => rfl⟩⟩⟩ | exact ⟨1, rfl, hf, hB1, Or.inr rfl, fun z => absurd z he.1, fun _ => ⟨he.2.1, he.2.2, ⟨fun _ => Or.inr (Or.inr (Or.inr ⟨c2, by show (zI M1 (p + 3) 0 == 1) = false; rw [s1]; rfl, by show (zI M1 (p + 3) 1 == 1) = false; rw [s2]; rfl⟩)), fun _ => rfl⟩⟩⟩ | exact ⟨0, rfl, hf, hB1, Or.inl rfl, fun z => absurd z he.1, fun _ => ⟨he.2.1, he.2.2, ⟨fun z => absurd z (by decide), fun z => absurd z (by rintro (z | z | z | ⟨z, z3, z4⟩); exact z1 z; exact z2 z; exact c1 z; exact c2 z)⟩⟩⟩ | exact ⟨0, rfl, hf, hB1, Or.inl rfl, fun z => absurd z he.1, fun _ => ⟨he.2.1, he.2.2, ⟨fun z => absurd z (by decide), fun z => absurd z (by rintro (z | z | z | ⟨z, z3, z4⟩); exact z1 z; exact z2 z; exact c1 z; have z3 : (zI M1 (p + 3) 0 == 1) = false := z3; rw [s1] at z3; exact absurd z3 (by decide))⟩⟩⟩ | exact ⟨0, rfl, hf, hB1, Or.inl rfl, fun z => absurd z he.1, fun _ => ⟨he.2.1, he.2.2, ⟨fun z => absurd z (by decide), fun z => absurd z (by rintro (z | z | z | ⟨z, z3, z4⟩); exact z1 z; exact z2 z; exact c1 z; have z4 : (zI M1 (p + 3) 1 == 1) = false := z4; rw [s2] at z4; exact absurd z4 (by decide))⟩⟩⟩)
              · skip
                have s2 : zI M1 (p + 3) 1 = 0 := h_220
                refine za_iconst hc 1 dS_narrow_223 rfl ?_
                refine za_goto 228 hc dS_narrow_224 rfl ?_
                exact za_zret hc rfl (rfl) dS_narrow_228 ⟨Nat.zero_le _, Nat.zero_le _⟩ (by first | exact ⟨1, rfl, hf, hB1, Or.inr rfl, fun z => absurd z he.1, fun _ => ⟨he.2.1, he.2.2, ⟨fun _ => Or.inr (Or.inr (Or.inl c1)), fun _ => rfl⟩⟩⟩ | exact ⟨1, rfl, hf, hB1, Or.inr rfl, fun z => absurd z he.1, fun _ => ⟨he.2.1, he.2.2, ⟨fun _ => Or.inr (Or.inr (Or.inr ⟨c2, by show (zI M1 (p + 3) 0 == 1) = false; rw [s1]; rfl, by show (zI M1 (p + 3) 1 == 1) = false; rw [s2]; rfl⟩)), fun _ => rfl⟩⟩⟩ | exact ⟨0, rfl, hf, hB1, Or.inl rfl, fun z => absurd z he.1, fun _ => ⟨he.2.1, he.2.2, ⟨fun z => absurd z (by decide), fun z => absurd z (by rintro (z | z | z | ⟨z, z3, z4⟩); exact z1 z; exact z2 z; exact c1 z; exact c2 z)⟩⟩⟩ | exact ⟨0, rfl, hf, hB1, Or.inl rfl, fun z => absurd z he.1, fun _ => ⟨he.2.1, he.2.2, ⟨fun z => absurd z (by decide), fun z => absurd z (by rintro (z | z | z | ⟨z, z3, z4⟩); exact z1 z; exact z2 z; exact c1 z; have z3 : (zI M1 (p + 3) 0 == 1) = false := z3; rw [s1] at z3; exact absurd z3 (by decide))⟩⟩⟩ | exact ⟨0, rfl, hf, hB1, Or.inl rfl, fun z => absurd z he.1, fun _ => ⟨he.2.1, he.2.2, ⟨fun z => absurd z (by decide), fun z => absurd z (by rintro (z | z | z | ⟨z, z3, z4⟩); exact z1 z; exact z2 z; exact c1 z; have z4 : (zI M1 (p + 3) 1 == 1) = false := z4; rw [s2] at z4; exact absurd z4 (by decide))⟩⟩⟩)
      · skip
        have z2 : zJ M1 (p + 2) 1 = 0 := h_156
        refine za_iconst hc 1 dS_narrow_160 rfl ?_
        exact za_zret hc rfl (rfl) dS_narrow_161 ⟨Nat.zero_le _, Nat.zero_le _⟩ (by first | exact ⟨1, rfl, hf, hB1, Or.inr rfl, fun z => absurd z he.1, fun _ => ⟨he.2.1, he.2.2, ⟨fun _ => Or.inl (by show (zJ M1 (p + 2) 0).toInt = 0; rw [z1]; rfl), fun _ => rfl⟩⟩⟩ | exact ⟨1, rfl, hf, hB1, Or.inr rfl, fun z => absurd z he.1, fun _ => ⟨he.2.1, he.2.2, ⟨fun _ => Or.inr (Or.inl (by show (zJ M1 (p + 2) 1).toInt = 0; rw [z2]; rfl)), fun _ => rfl⟩⟩⟩)
  have tail : ∀ (e : Nat) (b : Int64), ((e = 0 ∧ 0 < n.toInt ∧ b.toInt = n.toInt) ∨ (e = 1 ∧ n.toInt < 0 ∧ b.toInt = -n.toInt)) → (-1073741824 ≤ m.toInt ∧ m.toInt ≤ 1073741824) → b.toInt ≤ 1073741824 → zW X (zqi (sPost M p n m s)) (0, 0) 56 [(0, .ref p), (1, .long n), (3, .long m), (5, .int s), (6, .int (nI e)), (7, .long b)] [] M := by
    intro e b heb hm hb
    have he2 : e < 2 := by omega
    have hbp : 0 < b.toInt := by omega
    have hn0 : n.toInt ≠ 0 := by omega
    have q1 := g_mulb hm (show -1073741824 ≤ _ ∧ _ ≤ (1073741824 : Int) from ⟨by have := (hB.2.1 e).1; omega, (hB.2.1 e).2⟩)
    have q2 := g_mulb (hB.1 e) (show -1073741824 ≤ b.toInt ∧ b.toInt ≤ (1073741824 : Int) from ⟨by omega, hb⟩)
    have m1 := l_mul (x := m) (y := zJ M (p + 2) e) (by omega) (by omega)
    have m2 := l_mul (x := zJ M (p + 1) e) (y := b) (by omega) (by omega)
    have hoth : ∀ i, i ≠ e → sE (zsI (zsJ (zsJ M (p + 1) e m) (p + 2) e b) (p + 3) e s) p i = sE M p i := fun i hi => by
      unfold sE
      rw [zJ_sI, zJ_o (show ¬ p + 1 = p + 2 by omega), zJ_s, zJ_s, zJ_o (show ¬ p + 2 = p + 1 by omega), zI_s, zI_sJ, zI_sJ]
      simp only [if_neg hi]
    have hown : sE (zsI (zsJ (zsJ M (p + 1) e m) (p + 2) e b) (p + 3) e s) p e = (m.toInt, b.toInt, s == 1) := by
      unfold sE
      rw [zJ_sI, zJ_o (show ¬ p + 1 = p + 2 by omega), zJ_s, zJ_s, zI_s]
      simp only [if_true]
    have ends : ∀ M1, sE M1 p e = gEup (sE M p e) m.toInt b.toInt (s == 1) → (∀ i, i ≠ e → sE M1 p i = sE M p i) → (n.toInt ≠ 0 ∧ sE M1 p 0 = (if 0 < n.toInt then gEup (sE M p 0) m.toInt n.toInt (s == 1) else sE M p 0) ∧ sE M1 p 1 = (if 0 < n.toInt then sE M p 1 else gEup (sE M p 1) m.toInt (-n.toInt) (s == 1))) := by
      intro M1 g1 g2
      rcases heb with ⟨rfl, g3, g4⟩ | ⟨rfl, g3, g4⟩
      · rw [g4] at g1; exact ⟨hn0, by rw [if_pos g3]; exact g1, by rw [if_pos g3]; exact g2 1 (by decide)⟩
      · rw [g4] at g1; exact ⟨hn0, by rw [if_neg (by omega)]; exact g2 0 (by decide), by rw [if_neg (by omega)]; exact g1⟩
    refine za_lload_n hc dS_narrow_56 rfl ?_
    refine za_aload_n hc dS_narrow_57 rfl ?_
    refine za_getS hc gfS_13 (by assumption) dS_narrow_58 ?_
    refine za_iload hc dS_narrow_61 rfl ?_
    refine za_lald hc (by assumption) dS_narrow_63 (vp_in_nI he2 (by decide)) ?_
    rw [nI_clamp (show e < 2 ^ 31 by omega)]
    refine za_lmul hc dS_narrow_64 ?_
    refine za_lstore hc dS_narrow_65 (by decide) ?_
    refine za_aload_n hc dS_narrow_67 rfl ?_
    refine za_getS hc gfS_7 (by assumption) dS_narrow_68 ?_
    refine za_iload hc dS_narrow_71 rfl ?_
    refine za_lald hc (by assumption) dS_narrow_73 (vp_in_nI he2 (by decide)) ?_
    rw [nI_clamp (show e < 2 ^ 31 by omega)]
    refine za_lload hc dS_narrow_74 rfl ?_
    refine za_lmul hc dS_narrow_76 ?_
    refine za_lstore hc dS_narrow_77 (by decide) ?_
    refine za_aload_n hc dS_narrow_79 rfl ?_
    refine za_getS hc gfS_13 (by assumption) dS_narrow_80 ?_
    refine za_iload hc dS_narrow_83 rfl ?_
    refine za_lald hc (by assumption) dS_narrow_85 (vp_in_nI he2 (by decide)) ?_
    rw [nI_clamp (show e < 2 ^ 31 by omega)]
    refine za_lconst hc 0 dS_narrow_86 rfl ?_
    refine za_lcmp_eq 112 hc dS_narrow_87 dS_narrow_88 rfl (fun h_87 => ?_) (fun h_87 => ?_)
    · skip
      have u0 : (zJ M (p + 2) e).toInt = 0 := by rw [h_87]; rfl
      refine za_aload_n hc dS_narrow_112 rfl ?_
      refine za_getS hc gfS_7 (by assumption) dS_narrow_113 ?_
      refine za_iload hc dS_narrow_116 rfl ?_
      refine za_lload_n hc dS_narrow_118 rfl ?_
      refine za_last hc (by assumption) dS_narrow_119 (vp_in_nI he2 (by decide)) ?_
      refine za_aload_n hc dS_narrow_120 rfl ?_
      refine za_getS hc gfS_13 (by assumption) dS_narrow_121 ?_
      refine za_iload hc dS_narrow_124 rfl ?_
      refine za_lload hc dS_narrow_126 rfl ?_
      refine za_last hc (by assumption) dS_narrow_128 (vp_in_nI he2 (by decide)) ?_
      refine za_aload_n hc dS_narrow_129 rfl ?_
      refine za_getS hc gfS_16 (by assumption) dS_narrow_130 ?_
      refine za_iload hc dS_narrow_133 rfl ?_
      refine za_iload hc dS_narrow_135 rfl ?_
      refine za_zast hc (by assumption) dS_narrow_137 (vp_in_nI he2 (by decide)) ?_
      rw [nI_clamp (show e < 2 ^ 31 by omega), zn01 hs]
      refine za_take 1 ?_
      refine fin _ ((zfr_sJ ⟨by omega, by omega⟩).tr ((zfr_sJ ⟨by omega, by omega⟩).tr (zfr_sI ⟨by omega, by omega⟩))) ⟨fun i => ?_, fun i => ?_, fun i => ?_⟩ (ends _ (hown.trans ?_) hoth)
      · rw [zJ_sI, zJ_o (show ¬ p + 1 = p + 2 by omega), zJ_s]; split
        · exact hm
        · exact hB.1 i
      · rw [zJ_sI, zJ_s, zJ_o (show ¬ p + 2 = p + 1 by omega)]; split
        · exact ⟨by omega, hb⟩
        · exact hB.2.1 i
      · rw [zI_s, zI_sJ, zI_sJ]; split
        · exact hs
        · exact hB.2.2 i
      · unfold gEup; rw [if_pos ?_]
        exact Or.inl u0
    · skip
      have n0 : ¬ (zJ M (p + 2) e).toInt = 0 := fun z => h_87 (Int64.toInt_inj.mp z)
      refine za_lload hc dS_narrow_91 rfl ?_
      refine za_lload hc dS_narrow_93 rfl ?_
      refine za_lcmp_lt 112 hc dS_narrow_95 dS_narrow_96 rfl (fun h_95 => ?_) (fun h_95 => ?_)
      · skip
        have u1 : m.toInt * (zJ M (p + 2) e).toInt < (zJ M (p + 1) e).toInt * b.toInt := by rw [← m1, ← m2]; exact Int64.lt_iff_toInt_lt.mp h_95
        refine za_aload_n hc dS_narrow_112 rfl ?_
        refine za_getS hc gfS_7 (by assumption) dS_narrow_113 ?_
        refine za_iload hc dS_narrow_116 rfl ?_
        refine za_lload_n hc dS_narrow_118 rfl ?_
        refine za_last hc (by assumption) dS_narrow_119 (vp_in_nI he2 (by decide)) ?_
        refine za_aload_n hc dS_narrow_120 rfl ?_
        refine za_getS hc gfS_13 (by assumption) dS_narrow_121 ?_
        refine za_iload hc dS_narrow_124 rfl ?_
        refine za_lload hc dS_narrow_126 rfl ?_
        refine za_last hc (by assumption) dS_narrow_128 (vp_in_nI he2 (by decide)) ?_
        refine za_aload_n hc dS_narrow_129 rfl ?_
        refine za_getS hc gfS_16 (by assumption) dS_narrow_130 ?_
        refine za_iload hc dS_narrow_133 rfl ?_
        refine za_iload hc dS_narrow_135 rfl ?_
        refine za_zast hc (by assumption) dS_narrow_137 (vp_in_nI he2 (by decide)) ?_
        rw [nI_clamp (show e < 2 ^ 31 by omega), zn01 hs]
        refine za_take 1 ?_
        refine fin _ ((zfr_sJ ⟨by omega, by omega⟩).tr ((zfr_sJ ⟨by omega, by omega⟩).tr (zfr_sI ⟨by omega, by omega⟩))) ⟨fun i => ?_, fun i => ?_, fun i => ?_⟩ (ends _ (hown.trans ?_) hoth)
        · rw [zJ_sI, zJ_o (show ¬ p + 1 = p + 2 by omega), zJ_s]; split
          · exact hm
          · exact hB.1 i
        · rw [zJ_sI, zJ_s, zJ_o (show ¬ p + 2 = p + 1 by omega)]; split
          · exact ⟨by omega, hb⟩
          · exact hB.2.1 i
        · rw [zI_s, zI_sJ, zI_sJ]; split
          · exact hs
          · exact hB.2.2 i
        · unfold gEup; rw [if_pos ?_]
          exact Or.inr (Or.inl u1)
      · skip
        have n1 : ¬ m.toInt * (zJ M (p + 2) e).toInt < (zJ M (p + 1) e).toInt * b.toInt := by rw [← m1, ← m2]; exact fun z => h_95 (Int64.lt_iff_toInt_lt.mpr z)
        refine za_lload hc dS_narrow_99 rfl ?_
        refine za_lload hc dS_narrow_101 rfl ?_
        refine za_lcmp_ne 138 hc dS_narrow_103 dS_narrow_104 rfl (fun h_103 => ?_) (fun h_103 => ?_)
        · skip
          have n2 : ¬ m.toInt * (zJ M (p + 2) e).toInt = (zJ M (p + 1) e).toInt * b.toInt := by rw [← m1, ← m2]; exact fun z => h_103 (Int64.toInt_inj.mp z)
          refine za_take 1 ?_
          refine fin _ zfr.rf hB (ends _ ?_ (fun _ _ => rfl))
          unfold gEup; rw [if_neg ?_]
          rintro (z | z | z); exact n0 z; exact n1 z; exact n2 z.1
        · skip
          have e2 : m.toInt * (zJ M (p + 2) e).toInt = (zJ M (p + 1) e).toInt * b.toInt := by rw [← m1, ← m2, h_103]
          refine za_iload hc dS_narrow_107 rfl ?_
          refine za_if_eq 138 hc dS_narrow_109 rfl (fun h_109 => ?_) (fun h_109 => ?_)
          · skip
            have n3 : ¬ (s == 1) = true := by rw [h_109]; decide
            refine za_take 1 ?_
            refine fin _ zfr.rf hB (ends _ ?_ (fun _ _ => rfl))
            unfold gEup; rw [if_neg ?_]
            rintro (z | z | z); exact n0 z; exact n1 z; exact n3 z.2
          · skip
            have e3 : (s == 1) = true := by rw [hs.resolve_left h_109]; rfl
            refine za_aload_n hc dS_narrow_112 rfl ?_
            refine za_getS hc gfS_7 (by assumption) dS_narrow_113 ?_
            refine za_iload hc dS_narrow_116 rfl ?_
            refine za_lload_n hc dS_narrow_118 rfl ?_
            refine za_last hc (by assumption) dS_narrow_119 (vp_in_nI he2 (by decide)) ?_
            refine za_aload_n hc dS_narrow_120 rfl ?_
            refine za_getS hc gfS_13 (by assumption) dS_narrow_121 ?_
            refine za_iload hc dS_narrow_124 rfl ?_
            refine za_lload hc dS_narrow_126 rfl ?_
            refine za_last hc (by assumption) dS_narrow_128 (vp_in_nI he2 (by decide)) ?_
            refine za_aload_n hc dS_narrow_129 rfl ?_
            refine za_getS hc gfS_16 (by assumption) dS_narrow_130 ?_
            refine za_iload hc dS_narrow_133 rfl ?_
            refine za_iload hc dS_narrow_135 rfl ?_
            refine za_zast hc (by assumption) dS_narrow_137 (vp_in_nI he2 (by decide)) ?_
            rw [nI_clamp (show e < 2 ^ 31 by omega), zn01 hs]
            refine za_take 1 ?_
            refine fin _ ((zfr_sJ ⟨by omega, by omega⟩).tr ((zfr_sJ ⟨by omega, by omega⟩).tr (zfr_sI ⟨by omega, by omega⟩))) ⟨fun i => ?_, fun i => ?_, fun i => ?_⟩ (ends _ (hown.trans ?_) hoth)
            · rw [zJ_sI, zJ_o (show ¬ p + 1 = p + 2 by omega), zJ_s]; split
              · exact hm
              · exact hB.1 i
            · rw [zJ_sI, zJ_s, zJ_o (show ¬ p + 2 = p + 1 by omega)]; split
              · exact ⟨by omega, hb⟩
              · exact hB.2.1 i
            · rw [zI_s, zI_sJ, zI_sJ]; split
              · exact hs
              · exact hB.2.2 i
            · unfold gEup; rw [if_pos ?_]
              exact Or.inr (Or.inr ⟨e2, e3⟩)
  refine za_lload_n hc dS_narrow_0 rfl ?_
  refine za_lconst hc 0 dS_narrow_1 rfl ?_
  refine za_lcmp_ne 29 hc dS_narrow_2 dS_narrow_3 rfl (fun h_2 => ?_) (fun h_2 => ?_)
  · skip
    have hn0 : n.toInt ≠ 0 := fun z => h_2 (Int64.toInt_inj.mp z)
    have hm := hbd hn0
    refine za_lload_n hc dS_narrow_29 rfl ?_
    refine za_lconst hc 0 dS_narrow_30 rfl ?_
    refine za_lcmp_le 39 hc dS_narrow_31 dS_narrow_32 rfl (fun h_31 => ?_) (fun h_31 => ?_)
    · skip
      have d1 : n.toInt < 0 := by have : n.toInt ≤ 0 := Int64.le_iff_toInt_le.mp h_31; omega
      refine za_iconst hc 1 dS_narrow_39 rfl ?_
      refine za_istore hc dS_narrow_40 (by decide) ?_
      refine za_lload_n hc dS_narrow_42 rfl ?_
      refine za_lconst hc 0 dS_narrow_43 rfl ?_
      refine za_lcmp_le 52 hc dS_narrow_44 dS_narrow_45 rfl (fun h_44 => ?_) (fun h_44 => ?_)
      · skip
        have d2 : n.toInt ≤ 0 := Int64.le_iff_toInt_le.mp h_44
        refine za_lload_n hc dS_narrow_52 rfl ?_
        refine za_lneg hc dS_narrow_53 ?_
        refine za_lstore hc dS_narrow_54 (by decide) ?_
        first | exact absurd d1 (by omega) | exact tail 0 n (Or.inl ⟨rfl, d1, rfl⟩) hm.2 (by omega) | exact tail 1 (-n) (Or.inr ⟨rfl, d1, l_neg (by omega)⟩) hm.2 (by rw [l_neg (by omega)]; omega)
      · skip
        have d2 : ¬ n.toInt ≤ 0 := fun z => h_44 (Int64.le_iff_toInt_le.mpr z)
        refine za_lload_n hc dS_narrow_48 rfl ?_
        refine za_goto 54 hc dS_narrow_49 rfl ?_
        refine za_lstore hc dS_narrow_54 (by decide) ?_
        first | exact absurd d1 (by omega) | exact tail 0 n (Or.inl ⟨rfl, d1, rfl⟩) hm.2 (by omega) | exact tail 1 (-n) (Or.inr ⟨rfl, d1, l_neg (by omega)⟩) hm.2 (by rw [l_neg (by omega)]; omega)
    · skip
      have d1 : 0 < n.toInt := by have : ¬ n.toInt ≤ 0 := fun z => h_31 (Int64.le_iff_toInt_le.mpr z); omega
      refine za_iconst hc 0 dS_narrow_35 rfl ?_
      refine za_goto 40 hc dS_narrow_36 rfl ?_
      refine za_istore hc dS_narrow_40 (by decide) ?_
      refine za_lload_n hc dS_narrow_42 rfl ?_
      refine za_lconst hc 0 dS_narrow_43 rfl ?_
      refine za_lcmp_le 52 hc dS_narrow_44 dS_narrow_45 rfl (fun h_44 => ?_) (fun h_44 => ?_)
      · skip
        have d2 : n.toInt ≤ 0 := Int64.le_iff_toInt_le.mp h_44
        refine za_lload_n hc dS_narrow_52 rfl ?_
        refine za_lneg hc dS_narrow_53 ?_
        refine za_lstore hc dS_narrow_54 (by decide) ?_
        first | exact absurd d1 (by omega) | exact tail 0 n (Or.inl ⟨rfl, d1, rfl⟩) hm.2 (by omega) | exact tail 1 (-n) (Or.inr ⟨rfl, d1, l_neg (by omega)⟩) hm.2 (by rw [l_neg (by omega)]; omega)
      · skip
        have d2 : ¬ n.toInt ≤ 0 := fun z => h_44 (Int64.le_iff_toInt_le.mpr z)
        refine za_lload_n hc dS_narrow_48 rfl ?_
        refine za_goto 54 hc dS_narrow_49 rfl ?_
        refine za_lstore hc dS_narrow_54 (by decide) ?_
        first | exact absurd d1 (by omega) | exact tail 0 n (Or.inl ⟨rfl, d1, rfl⟩) hm.2 (by omega) | exact tail 1 (-n) (Or.inr ⟨rfl, d1, l_neg (by omega)⟩) hm.2 (by rw [l_neg (by omega)]; omega)
  · skip
    have hn0 : n.toInt = 0 := by rw [h_2]; rfl
    refine za_lload_n hc dS_narrow_6 rfl ?_
    refine za_lconst hc 0 dS_narrow_7 rfl ?_
    refine za_lcmp_gt 23 hc dS_narrow_8 dS_narrow_9 rfl (fun h_8 => ?_) (fun h_8 => ?_)
    · skip
      have c1 : 0 < m.toInt := Int64.lt_iff_toInt_lt.mp h_8
      refine za_iconst hc 1 dS_narrow_23 rfl ?_
      refine za_goto 28 hc dS_narrow_24 rfl ?_
      exact za_zret hc rfl (rfl) dS_narrow_28 ⟨Nat.zero_le _, Nat.zero_le _⟩ (by first | exact ⟨1, rfl, zfr.rf, hB, Or.inr rfl, fun _ => ⟨rfl, fun _ => Or.inl c1, fun _ => rfl⟩, fun z => absurd hn0 z⟩ | exact ⟨1, rfl, zfr.rf, hB, Or.inr rfl, fun _ => ⟨rfl, fun _ => Or.inr ⟨c2, c3⟩, fun _ => rfl⟩, fun z => absurd hn0 z⟩ | exact ⟨0, rfl, zfr.rf, hB, Or.inl rfl, fun _ => ⟨rfl, fun z => absurd z (by decide), fun z => by rcases z with z | z; exact absurd z c1; first | exact absurd z.1 c2 | exact absurd z.2 c3⟩, fun z => absurd hn0 z⟩)
    · skip
      have c1 : ¬ 0 < m.toInt := fun z => h_8 (Int64.lt_iff_toInt_lt.mpr z)
      refine za_lload_n hc dS_narrow_12 rfl ?_
      refine za_lconst hc 0 dS_narrow_13 rfl ?_
      refine za_lcmp_ne 27 hc dS_narrow_14 dS_narrow_15 rfl (fun h_14 => ?_) (fun h_14 => ?_)
      · skip
        have c2 : ¬ m.toInt = 0 := fun z => h_14 (Int64.toInt_inj.mp z)
        refine za_iconst hc 0 dS_narrow_27 rfl ?_
        exact za_zret hc rfl (rfl) dS_narrow_28 ⟨Nat.zero_le _, Nat.zero_le _⟩ (by first | exact ⟨1, rfl, zfr.rf, hB, Or.inr rfl, fun _ => ⟨rfl, fun _ => Or.inl c1, fun _ => rfl⟩, fun z => absurd hn0 z⟩ | exact ⟨1, rfl, zfr.rf, hB, Or.inr rfl, fun _ => ⟨rfl, fun _ => Or.inr ⟨c2, c3⟩, fun _ => rfl⟩, fun z => absurd hn0 z⟩ | exact ⟨0, rfl, zfr.rf, hB, Or.inl rfl, fun _ => ⟨rfl, fun z => absurd z (by decide), fun z => by rcases z with z | z; exact absurd z c1; first | exact absurd z.1 c2 | exact absurd z.2 c3⟩, fun z => absurd hn0 z⟩)
      · skip
        have c2 : m.toInt = 0 := by rw [h_14]; rfl
        refine za_iload hc dS_narrow_18 rfl ?_
        refine za_if_ne 27 hc dS_narrow_20 rfl (fun h_20 => ?_) (fun h_20 => ?_)
        · skip
          have c3 : ¬ s = 0 := h_20
          refine za_iconst hc 0 dS_narrow_27 rfl ?_
          exact za_zret hc rfl (rfl) dS_narrow_28 ⟨Nat.zero_le _, Nat.zero_le _⟩ (by first | exact ⟨1, rfl, zfr.rf, hB, Or.inr rfl, fun _ => ⟨rfl, fun _ => Or.inl c1, fun _ => rfl⟩, fun z => absurd hn0 z⟩ | exact ⟨1, rfl, zfr.rf, hB, Or.inr rfl, fun _ => ⟨rfl, fun _ => Or.inr ⟨c2, c3⟩, fun _ => rfl⟩, fun z => absurd hn0 z⟩ | exact ⟨0, rfl, zfr.rf, hB, Or.inl rfl, fun _ => ⟨rfl, fun z => absurd z (by decide), fun z => by rcases z with z | z; exact absurd z c1; first | exact absurd z.1 c2 | exact absurd z.2 c3⟩, fun z => absurd hn0 z⟩)
        · skip
          have c3 : s = 0 := h_20
          refine za_iconst hc 1 dS_narrow_23 rfl ?_
          refine za_goto 28 hc dS_narrow_24 rfl ?_
          exact za_zret hc rfl (rfl) dS_narrow_28 ⟨Nat.zero_le _, Nat.zero_le _⟩ (by first | exact ⟨1, rfl, zfr.rf, hB, Or.inr rfl, fun _ => ⟨rfl, fun _ => Or.inl c1, fun _ => rfl⟩, fun z => absurd hn0 z⟩ | exact ⟨1, rfl, zfr.rf, hB, Or.inr rfl, fun _ => ⟨rfl, fun _ => Or.inr ⟨c2, c3⟩, fun _ => rfl⟩, fun z => absurd hn0 z⟩ | exact ⟨0, rfl, zfr.rf, hB, Or.inl rfl, fun _ => ⟨rfl, fun z => absurd z (by decide), fun z => by rcases z with z | z; exact absurd z c1; first | exact absurd z.1 c2 | exact absurd z.2 c3⟩, fun z => absurd hn0 z⟩)
