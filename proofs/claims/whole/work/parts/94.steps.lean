/-! One call on both sides: the same number is thrown, the same is answered, what holds between calls holds again. -/
theorem cF_m {k : Nat} (h1 : 62 ≤ k) (h2 : k ≤ 80) : ¬ cF k := by unfold cF; omega
theorem kF_c {r k : Nat} (hr : r ≤ 59) (h : kF r k) : cF k := by
  rcases h with h | h | h
  · unfold cF; omega
  · have := h.2; unfold cF; omega
  · have := h.2; unfold cF; omega
theorem wF_c {k : Nat} (h : wF k) : cF k := by have := h.2; unfold cF; omega
theorem kF_d {r k : Nat} (hr : 32 ≤ r) (h1 : 3 ≤ k) (h2 : k ≤ 11) : ¬ kF r k := fun z => by
  rcases z with z | z | z
  · omega
  · have := z.1; omega
  · have := z.1; omega
theorem kF_31 {r : Nat} (hr : 32 ≤ r) : ¬ kF r 31 := fun z => by
  rcases z with z | z | z
  · omega
  · have := z.2; omega
  · have := z.1; omega
theorem kF_n {r k b : Nat} (hk : 32 ≤ k) (hb : b ≤ 2) (hd : k + 2 < r ∨ r + 2 < k) : ¬ kF r (k + b) := fun z => by
  rcases z with z | z | z
  · omega
  · have := z.2; omega
  · have := z.1; have := z.2; omega
theorem kF_62 {r : Nat} (hr : r ≤ 59) : ¬ kF r 62 := fun z => by
  rcases z with z | z | z
  · omega
  · have := z.2; omega
  · have := z.2; omega
/-- a class call that refused: the workshop alone was written -/
theorem zVK.w {M M1 : zM} {h : Nat} {cs : List gC} {R : Nat → List (List gC)} (v : zVK M h cs R) (hw : wI M1) (hf : zfr wF M M1) : zVK M1 h cs R := by
  have hh := v.1
  have e0 : zI M1 0 = zI M 0 := (hf 0 (fun z => by have := z.1; omega)).1
  exact v.of hf (fun k h1 h2 z => by have := z.1; omega) (fun z => by have := z.2; omega) hh (by rw [e0]; exact v.2.1) (by rw [e0]) hw (fun i hi => v.st hf hi (fun b hb z => by have := z.2; omega)) (fun i hi => v.tb hf hi (fun b hb z => by have := z.2; omega))
/-- region j of the pile is written anew -/
theorem zVK.put {M M1 : zM} {h h' j : Nat} {cs : List gC} {R : Nat → List (List gC)} {A : List (List gC)} (v : zVK M h cs R) (hj : j < 6) (hh : h' ≤ 6) (hle : ∀ i, i < h' → i ≠ j → i < h) (h5 : zI M1 0 5 = nI h') (h6 : zI M1 0 6 = zI M 0 6) (hr : rH M1 (32 + 3 * j) A) (hw : wI M1) (hf : zfr (kF (32 + 3 * j)) M M1) : zVK M1 h' cs (uR R j A) := by
  refine v.of hf (fun k h1 h2 => kF_d (by omega) h1 h2) (kF_31 (by omega)) hh h5 h6 hw (fun i hi => ?_) (fun i hi => ?_)
  · by_cases c : i = j
    · subst c; rw [uR_1]; exact hr
    · rw [uR_2 c]; exact v.st hf (hle i hi c) (fun b hb => kF_n (by omega) hb (by omega))
  · rw [uR_2 (by omega)]; exact v.tb hf hi (fun b hb => kF_n (by omega) hb (by omega))
theorem zVM.put {I : List Nat} {M M1 : zM} {h h' j : Nat} {cs : List gC} {R : Nat → List (List gC)} {A : List (List gC)} (v : zVM M h cs R) (hG : sG I M M1) (hj : j < 6) (hI : ∀ i, i ∈ I → i = j ∨ 10 ≤ i) (hh : h' ≤ 6) (hle : ∀ i, i < h' → i ≠ j → i < h) (hp : zI M1 62 7 = nI h') (hr : sH M1 j A) : zVM M1 h' cs (uR R j A) := by
  refine v.g hG hh hp (fun i hi => ?_) (fun i hi => ?_)
  · by_cases c : i = j
    · subst c; rw [uR_1]; exact hr
    · rw [uR_2 c]; exact v.st hG (hle i hi c) (fun z => (hI i z).elim c (fun w => by omega))
  · rw [uR_2 (by omega)]; exact v.tb hG hi (fun z => (hI _ z).elim (fun w => by omega) (fun w => by omega))
theorem zVG.put {h h' j : Nat} {R : Nat → List (List gC)} {A : List (List gC)} (v : zVG h R) (hj : j < 6) (hle : ∀ i, i < h' → i ≠ j → i < h) (hA : gGd A) : zVG h' (uR R j A) := by
  refine ⟨fun i hi => ?_, fun i hi => ?_⟩
  · by_cases c : i = j
    · subst c; rw [uR_1]; exact hA
    · rw [uR_2 c]; exact v.1 i (hle i hi c)
  · rw [uR_2 (by omega)]; exact v.2 i hi
theorem zVG.less {h h' : Nat} {R : Nat → List (List gC)} (v : zVG h R) (hle : h' ≤ h) : zVG h' R := ⟨fun i hi => v.1 i (by omega), v.2⟩
theorem m_fr {I : List Nat} {M M1 : zM} (hG : sG I M M1) : zfr mP M M1 := hG.2.2.2.2.2.2
theorem zVK.m {I : List Nat} {M M1 : zM} {h : Nat} {cs : List gC} {R : Nat → List (List gC)} (v : zVK M h cs R) (hG : sG I M M1) : zVK M1 h cs R := v.fr (m_fr hG) (fun k hk z => by have := mP_o z; omega)
/-- and, or -/
abbrev kBin (M : zM) (h : Nat) (g : Option (List (List gC))) (x : Int32) (M1 : zM) : Prop := (x = 0 ∧ (2 ≤ h ∧ ∃ A, g = some A ∧ zI M1 0 5 = nI (h - 1) ∧ zI M1 0 6 = zI M 0 6 ∧ rH M1 (32 + 3 * (h - 2)) A ∧ wI M1 ∧ zfr (kF (32 + 3 * (h - 2))) M M1)) ∨ ∃ e : Nat, ((e = 1 ∧ h < 2 ∧ M1 = M) ∨ (e = 2 ∧ 2 ≤ h ∧ g = none ∧ wI M1 ∧ zfr wF M M1)) ∧ x = zcod [1, 2] e
theorem vm_bin {M M1 : zM} {h : Nat} {cs : List gC} {R : Nat → List (List gC)} {g : Option (List (List gC))} {x : Int32} (v : zV M h cs R) (k : kBin M h g x M1) : zVM M1 h cs R := by
  have hh := v.1.1
  rcases k with ⟨-, h2, A, -, -, -, -, -, hf⟩ | ⟨e, ⟨-, -, rfl⟩ | ⟨-, -, -, -, hf⟩, -⟩
  · exact v.2.1.fr (hf.wk (fun k z => kF_c (by omega) z)) (fun k h1 h2 => cF_m h1 h2)
  · exact v.2.1
  · exact v.2.1.fr (hf.wk (fun k z => wF_c z)) (fun k h1 h2 => cF_m h1 h2)
abbrev mBin (M1 : zM) (h : Nat) (g : Option (List (List gC))) (M2 : zM) : Prop := (h < 2 → M2 = zsI M1 62 0 1) ∧ (2 ≤ h → (match g with | some R => zI M2 62 0 = 0 ∧ zI M2 62 7 = nI (h - 1) ∧ sH M2 (h - 2) R | none => zI M2 62 0 = 2 ∧ zI M2 62 7 = nI h ∧ sG [10] M1 M2) ∧ sG [10, h - 2] M1 M2)
theorem st_bin {M M1 M2 : zM} {h : Nat} {cs : List gC} {R : Nat → List (List gC)} {g : Option (List (List gC))} {x : Int32} (hg : 2 ≤ h → ∀ A, g = some A → gGd A) (v : zV M h cs R) (k : kBin M h g x M1)
    (m : mBin M1 h g M2) : zI M2 62 0 = x ∧ ∃ h' cs' R', zV M2 h' cs' R' := by
  have vm := vm_bin v k
  have hh := v.1.1
  rcases k with ⟨hx, h2, A, hga, h5, h6, hr, hw, hf⟩ | ⟨e, ⟨he, hlt, rfl⟩ | ⟨he, h2, hga, hw, hf⟩, hx⟩
  · obtain ⟨m1, m2⟩ := m.2 h2
    rw [hga] at m1
    obtain ⟨m3, m4, m5⟩ := m1
    refine ⟨m3.trans hx.symm, h - 1, cs, uR R (h - 2) A, ?_, ?_, v.2.2.1.put (by omega) (fun i hi hn => by omega) (hg h2 A hga), ?_⟩
    · exact (v.1.put (by omega) (by omega) (fun i hi hn => by omega) h5 h6 hr hw hf).m m2
    · exact vm.put m2 (by omega) (fun i hi => by simp at hi; omega) (by omega) (fun i hi hn => by omega) m4 m5
    · exact (v.2.2.2.fr hf (kF_31 (by omega)) (kF_62 (by omega))).g m2
  · rw [m.1 hlt]
    refine ⟨?_, h, cs, R, v.no 1⟩
    rw [zI_s, if_pos rfl, hx, he]; decide
  · obtain ⟨m1, m2⟩ := m.2 h2
    rw [hga] at m1
    obtain ⟨m3, m4, m5⟩ := m1
    refine ⟨by rw [m3, hx, he]; decide, h, cs, R, (v.1.w hw hf).m m5, vm.same m5 m4 (by simp), v.2.2.1, ?_⟩
    exact (v.2.2.2.fr hf (fun z => by have := z.2; omega) (fun z => by have := z.2; omega)).g m5
/-- not -/
abbrev kNot (M : zM) (h : Nat) (P : List (List gC)) (x : Int32) (M1 : zM) : Prop := (x = 0 ∧ (1 ≤ h ∧ ∃ A, gNot P = some A ∧ zI M1 0 = zI M 0 ∧ rH M1 (32 + 3 * (h - 1)) A ∧ wI M1 ∧ zfr (kF (32 + 3 * (h - 1))) M M1)) ∨ ∃ e : Nat, ((e = 1 ∧ h < 1 ∧ M1 = M) ∨ (e = 2 ∧ 1 ≤ h ∧ gNot P = none ∧ wI M1 ∧ zfr wF M M1)) ∧ x = zcod [1, 2] e
theorem vm_not {M M1 : zM} {h : Nat} {cs : List gC} {R : Nat → List (List gC)} {P : List (List gC)} {x : Int32} (v : zV M h cs R) (k : kNot M h P x M1) : zVM M1 h cs R := by
  have hh := v.1.1
  rcases k with ⟨-, h2, A, -, -, -, -, hf⟩ | ⟨e, ⟨-, -, rfl⟩ | ⟨-, -, -, -, hf⟩, -⟩
  · exact v.2.1.fr (hf.wk (fun k z => kF_c (by omega) z)) (fun k h1 h2 => cF_m h1 h2)
  · exact v.2.1
  · exact v.2.1.fr (hf.wk (fun k z => wF_c z)) (fun k h1 h2 => cF_m h1 h2)
theorem st_not {M M1 M2 : zM} {h : Nat} {cs : List gC} {R : Nat → List (List gC)} {x : Int32} (v : zV M h cs R) (k : kNot M h (R (h - 1)) x M1)
    (m : (h = 0 → M2 = zsI M1 62 0 1) ∧ (0 < h → (match gNot (R (h - 1)) with | some R => zI M2 62 0 = 0 ∧ zI M2 62 7 = nI h ∧ sH M2 (h - 1) R | none => zI M2 62 0 = 2 ∧ zI M2 62 7 = nI h ∧ sG [11, 12, 13] M1 M2) ∧ sG [11, 12, 13, h - 1] M1 M2)) : zI M2 62 0 = x ∧ ∃ h' cs' R', zV M2 h' cs' R' := by
  have vm := vm_not v k
  have hh := v.1.1
  rcases k with ⟨hx, h2, A, hga, h5, hr, hw, hf⟩ | ⟨e, ⟨he, hlt, rfl⟩ | ⟨he, h2, hga, hw, hf⟩, hx⟩
  · obtain ⟨m1, m2⟩ := m.2 h2
    rw [hga] at m1
    obtain ⟨m3, m4, m5⟩ := m1
    refine ⟨m3.trans hx.symm, h, cs, uR R (h - 1) A, ?_, ?_, v.2.2.1.put (by omega) (fun i hi hn => by omega) (gGd_not (v.2.2.1.1 (h - 1) (by omega)) hga), ?_⟩
    · exact (v.1.put (by omega) (by omega) (fun i hi hn => by omega) (by rw [h5]; exact v.1.2.1) (by rw [h5]) hr hw hf).m m2
    · exact vm.put m2 (by omega) (fun i hi => by simp at hi; omega) (by omega) (fun i hi hn => by omega) m4 m5
    · exact (v.2.2.2.fr hf (kF_31 (by omega)) (kF_62 (by omega))).g m2
  · rw [m.1 (by omega)]
    refine ⟨?_, h, cs, R, v.no 1⟩
    rw [zI_s, if_pos rfl, hx, he]; decide
  · obtain ⟨m1, m2⟩ := m.2 h2
    rw [hga] at m1
    obtain ⟨m3, m4, m5⟩ := m1
    refine ⟨by rw [m3, hx, he]; decide, h, cs, R, (v.1.w hw hf).m m5, vm.same m5 m4 (by simp), v.2.2.1, ?_⟩
    exact (v.2.2.2.fr hf (fun z => by have := z.2; omega) (fun z => by have := z.2; omega)).g m5
/-- free -/
abbrev kFree (M : zM) (h : Nat) (P : List (List gC)) (col x : Int32) (M1 : zM) : Prop := (x = 0 ∧ (¬ (col < 0 ∨ 2 ≤ col) ∧ 1 ≤ h ∧ ∃ A, gfr1 col [] P = some A ∧ zI M1 0 = zI M 0 ∧ rH M1 (32 + 3 * (h - 1)) A ∧ wI M1 ∧ zfr (kF (32 + 3 * (h - 1))) M M1)) ∨ ∃ e : Nat, ((e = 0 ∧ (col < 0 ∨ 2 ≤ col) ∧ M1 = M) ∨ (e = 1 ∧ ¬ (col < 0 ∨ 2 ≤ col) ∧ h < 1 ∧ M1 = M) ∨ (e = 2 ∧ ¬ (col < 0 ∨ 2 ≤ col) ∧ 1 ≤ h ∧ gfr1 col [] P = none ∧ wI M1 ∧ zfr wF M M1)) ∧ x = zcod [0, 1, 2] e
theorem vm_free {M M1 : zM} {h : Nat} {cs : List gC} {R : Nat → List (List gC)} {P : List (List gC)} {col x : Int32} (v : zV M h cs R) (k : kFree M h P col x M1) : zVM M1 h cs R := by
  have hh := v.1.1
  rcases k with ⟨-, -, h2, A, -, -, -, -, hf⟩ | ⟨e, ⟨-, -, rfl⟩ | ⟨-, -, -, rfl⟩ | ⟨-, -, -, -, -, hf⟩, -⟩
  · exact v.2.1.fr (hf.wk (fun k z => kF_c (by omega) z)) (fun k h1 h2 => cF_m h1 h2)
  · exact v.2.1
  · exact v.2.1
  · exact v.2.1.fr (hf.wk (fun k z => wF_c z)) (fun k h1 h2 => cF_m h1 h2)
theorem st_freeB {M M1 M2 : zM} {h : Nat} {cs : List gC} {R : Nat → List (List gC)} {P : List (List gC)} {col x : Int32} (v : zV M h cs R) (hb : col < 0 ∨ 2 ≤ col) (k : kFree M h P col x M1) (m : M2 = zsI M1 62 0 1) : zI M2 62 0 = x ∧ ∃ h' cs' R', zV M2 h' cs' R' := by
  rcases k with ⟨hx, hn, -⟩ | ⟨e, ⟨he, -, rfl⟩ | ⟨-, hn, -⟩ | ⟨-, hn, -⟩, hx⟩
  · exact absurd hb hn
  · rw [m]
    refine ⟨?_, h, cs, R, v.no 1⟩
    rw [zI_s, if_pos rfl, hx, he]; decide
  · exact absurd hb hn
  · exact absurd hb hn
theorem st_free {M M1 M2 : zM} {h : Nat} {cs : List gC} {R : Nat → List (List gC)} {col x : Int32} (v : zV M h cs R) (hb : ¬ (col < 0 ∨ 2 ≤ col)) (k : kFree M h (R (h - 1)) col x M1)
    (m : (h = 0 → M2 = zsI M1 62 0 2) ∧ (0 < h → (match gfr1 col [] (R (h - 1)) with | some R => zI M2 62 0 = 0 ∧ zI M2 62 7 = nI h ∧ sH M2 (h - 1) R | none => zI M2 62 0 = 3 ∧ zI M2 62 7 = nI h ∧ sG [10] M1 M2) ∧ sG [10, h - 1] M1 M2)) : zI M2 62 0 = x ∧ ∃ h' cs' R', zV M2 h' cs' R' := by
  have vm := vm_free v k
  have hh := v.1.1
  rcases k with ⟨hx, -, h2, A, hga, h5, hr, hw, hf⟩ | ⟨e, ⟨-, hn, -⟩ | ⟨he, -, hlt, rfl⟩ | ⟨he, -, h2, hga, hw, hf⟩, hx⟩
  · obtain ⟨m1, m2⟩ := m.2 h2
    rw [hga] at m1
    obtain ⟨m3, m4, m5⟩ := m1
    refine ⟨m3.trans hx.symm, h, cs, uR R (h - 1) A, ?_, ?_, v.2.2.1.put (by omega) (fun i hi hn => by omega) (gGd_free hga), ?_⟩
    · exact (v.1.put (by omega) (by omega) (fun i hi hn => by omega) (by rw [h5]; exact v.1.2.1) (by rw [h5]) hr hw hf).m m2
    · exact vm.put m2 (by omega) (fun i hi => by simp at hi; omega) (by omega) (fun i hi hn => by omega) m4 m5
    · exact (v.2.2.2.fr hf (kF_31 (by omega)) (kF_62 (by omega))).g m2
  · exact absurd hn hb
  · rw [m.1 (by omega)]
    refine ⟨?_, h, cs, R, v.no 2⟩
    rw [zI_s, if_pos rfl, hx, he]; decide
  · obtain ⟨m1, m2⟩ := m.2 h2
    rw [hga] at m1
    obtain ⟨m3, m4, m5⟩ := m1
    refine ⟨by rw [m3, hx, he]; decide, h, cs, R, (v.1.w hw hf).m m5, vm.same m5 m4 (by simp), v.2.2.1, ?_⟩
    exact (v.2.2.2.fr hf (fun z => by have := z.2; omega) (fun z => by have := z.2; omega)).g m5
/-- keep -/
abbrev kKeep (M : zM) (h : Nat) (P : List (List gC)) (t x : Int32) (M1 : zM) : Prop := (x = 0 ∧ (1 ≤ h ∧ ∃ tt, tt < 4 ∧ t = nI tt ∧ zI M1 0 5 = nI (h - 1) ∧ zI M1 0 6 = zI M 0 6 ∧ rH M1 (50 + 3 * tt) P ∧ zfr (fun k => k = 0 ∨ rF (50 + 3 * tt) k) M M1)) ∨ ∃ e : Nat, ((e = 0 ∧ (t < 0 ∨ 4 ≤ t) ∧ M1 = M) ∨ (e = 1 ∧ ¬ (t < 0 ∨ 4 ≤ t) ∧ h < 1 ∧ M1 = M)) ∧ x = zcod [0, 1] e
theorem rf_c {r k : Nat} (hr : r ≤ 59) (h : k = 0 ∨ rF r k) : cF k := h.elim (fun z => by unfold cF; omega) (fun z => by have := z.2; unfold cF; omega)
theorem vm_keep {M M1 : zM} {h : Nat} {cs : List gC} {R : Nat → List (List gC)} {P : List (List gC)} {t x : Int32} (v : zV M h cs R) (k : kKeep M h P t x M1) : zVM M1 h cs R := by
  rcases k with ⟨-, h2, tt, h3, -, -, -, -, hf⟩ | ⟨e, ⟨-, -, rfl⟩ | ⟨-, -, -, rfl⟩, -⟩
  · exact v.2.1.fr (hf.wk (fun k z => rf_c (by omega) z)) (fun k h1 h2 => cF_m h1 h2)
  · exact v.2.1
  · exact v.2.1
theorem st_keepB {M M1 M2 : zM} {h : Nat} {cs : List gC} {R : Nat → List (List gC)} {P : List (List gC)} {t x : Int32} (v : zV M h cs R) (hb : t < 0 ∨ 4 ≤ t) (k : kKeep M h P t x M1) (m : M2 = zsI M1 62 0 1) : zI M2 62 0 = x ∧ ∃ h' cs' R', zV M2 h' cs' R' := by
  rcases k with ⟨hx, -, tt, htt, he, -⟩ | ⟨e, ⟨he, -, rfl⟩ | ⟨-, hn, -⟩, hx⟩
  · exact absurd hb (by rw [he]; exact ix_no (n := 4) (by decide) htt)
  · rw [m]
    refine ⟨?_, h, cs, R, v.no 1⟩
    rw [zI_s, if_pos rfl, hx, he]; decide
  · exact absurd hb hn
theorem st_keep {M M1 M2 : zM} {h t : Nat} {cs : List gC} {R : Nat → List (List gC)} {x : Int32} (v : zV M h cs R) (ht : t < 4) (k : kKeep M h (R (h - 1)) (nI t) x M1)
    (m : (h = 0 → M2 = zsI M1 62 0 2) ∧ (0 < h → zI M2 62 0 = 0 ∧ zI M2 62 7 = nI (h - 1) ∧ sH M2 (6 + t) (R (h - 1)) ∧ sG [6 + t] M1 M2)) : zI M2 62 0 = x ∧ ∃ h' cs' R', zV M2 h' cs' R' := by
  have vm := vm_keep v k
  have hh := v.1.1
  rcases k with ⟨hx, h2, tt, htt, hte, h5, h6, hr, hf⟩ | ⟨e, ⟨-, hn, -⟩ | ⟨he, -, hlt, rfl⟩, hx⟩
  · have htt2 : t = tt := nI_inj3 hte (by omega) (by omega)
    subst htt2
    obtain ⟨m1, m2, m3, m4⟩ := m.2 h2
    have n0 : ∀ k, 3 ≤ k → k ≤ 49 → ¬ (k = 0 ∨ rF (50 + 3 * t) k) := fun k h1 h2 z => z.elim (fun z => by omega) (fun z => by have := z.1; omega)
    refine ⟨m1.trans hx.symm, h - 1, cs, uR R (6 + t) (R (h - 1)), ?_, ?_, ⟨fun i hi => ?_, fun i hi => ?_⟩, ?_⟩
    · refine (v.1.of hf (fun k h1 h2 => n0 k h1 (by omega)) (n0 31 (by decide) (by decide)) (by omega) h5 h6 (wI_f v.1.2.2.2.2.2.1 hf (fun k z => n0 k (by have := z.1; omega) (by have := z.2; omega))) (fun i hi => ?_) (fun i hi => ?_)).m m4
      · rw [uR_2 (by omega)]; exact v.1.st hf (by omega) (fun b hb => n0 _ (by omega) (by omega))
      · by_cases c : i = t
        · subst c; rw [uR_1]; exact hr
        · rw [uR_2 (by omega)]; exact v.1.tb hf hi (fun b hb z => z.elim (fun z => by omega) (fun z => by have := z.1; have := z.2; omega))
    · refine vm.g m4 (by omega) m2 (fun i hi => ?_) (fun i hi => ?_)
      · rw [uR_2 (by omega)]; exact vm.st m4 (by omega) (by simp; omega)
      · by_cases c : i = t
        · subst c; rw [uR_1]; exact m3
        · rw [uR_2 (by omega)]; exact vm.tb m4 hi (by simp; omega)
    · rw [uR_2 (by omega)]; exact v.2.2.1.1 i (by omega)
    · by_cases c : i = t
      · subst c; rw [uR_1]; exact v.2.2.1.1 (h - 1) (by omega)
      · rw [uR_2 (by omega)]; exact v.2.2.1.2 i hi
    · exact (v.2.2.2.fr hf (n0 31 (by decide) (by decide)) (fun z => z.elim (fun z => by omega) (fun z => by have := z.2; omega))).g m4
  · exact absurd hn (ix_no (n := 4) (by decide) ht)
  · rw [m.1 (by omega)]
    refine ⟨?_, h, cs, R, v.no 2⟩
    rw [zI_s, if_pos rfl, hx, he]; decide
/-- load -/
abbrev kLoad (M : zM) (h : Nat) (R : Nat → List (List gC)) (t x : Int32) (M1 : zM) : Prop := (x = 0 ∧ ∃ (r : Int32) (M0 : zM), (h < 6 ∧ ∃ tt, tt < 4 ∧ t = nI tt ∧ r = nI (h + 1) ∧ zI M0 0 5 = nI (h + 1) ∧ zI M0 0 6 = zI M 0 6 ∧ rH M0 (32 + 3 * h) (R (6 + tt)) ∧ zfr (fun k => k = 0 ∨ rF (32 + 3 * h) k) M M0) ∧ M1 = zsJ M0 81 0 r.toInt64) ∨ ∃ e : Nat, ((e = 0 ∧ (t < 0 ∨ 4 ≤ t) ∧ M1 = M) ∨ (e = 1 ∧ ¬ (t < 0 ∨ 4 ≤ t) ∧ h = 6 ∧ M1 = M)) ∧ x = zcod [0, 1] e
theorem out_fr {M : zM} {x : Int64} : zfr cF M (zsJ M 81 0 x) := zfr_sJ (P := cF) (Or.inr rfl)
theorem vm_load {M M1 : zM} {h : Nat} {cs : List gC} {R R0 : Nat → List (List gC)} {t x : Int32} (v : zV M h cs R) (k : kLoad M h R0 t x M1) : zVM M1 h cs R := by
  rcases k with ⟨-, r, M0, ⟨h2, tt, h3, -, -, -, -, -, hf⟩, rfl⟩ | ⟨e, ⟨-, -, rfl⟩ | ⟨-, -, -, rfl⟩, -⟩
  · exact v.2.1.fr ((hf.wk (fun k z => rf_c (by omega) z)).tr out_fr) (fun k h1 h2 => cF_m h1 h2)
  · exact v.2.1
  · exact v.2.1
theorem st_loadB {M M1 M2 : zM} {h : Nat} {cs : List gC} {R R0 : Nat → List (List gC)} {t x b : Int32} (v : zV M h cs R) (hb : t < 0 ∨ 4 ≤ t) (k : kLoad M h R0 t x M1) (m : b = 0 ∧ M2 = zsI M1 62 0 1) : zI M2 62 0 = x ∧ (x = 0 → zJ M2 81 0 = b.toInt64) ∧ ∃ h' cs' R', zV M2 h' cs' R' := by
  rcases k with ⟨hx, r, M0, ⟨-, tt, htt, he, -⟩, -⟩ | ⟨e, ⟨he, -, rfl⟩ | ⟨-, hn, -⟩, hx⟩
  · exact absurd hb (by rw [he]; exact ix_no (n := 4) (by decide) htt)
  · rw [m.2]
    have hx1 : x = 1 := by rw [hx, he]; decide
    exact ⟨by rw [zI_s, if_pos rfl, hx1], fun z => absurd (hx1.symm.trans z) (by decide), h, cs, R, v.no 1⟩
  · exact absurd hb hn
theorem st_load {M M1 M2 : zM} {h t : Nat} {cs : List gC} {R : Nat → List (List gC)} {x b : Int32} (v : zV M h cs R) (ht : t < 4) (k : kLoad M h R (nI t) x M1)
    (m : (h = 6 → b = 0 ∧ M2 = zsI M1 62 0 2) ∧ (h < 6 → b = nI (h + 1) ∧ zI M2 62 0 = 0 ∧ zI M2 62 7 = nI (h + 1) ∧ sH M2 h (R (6 + t)) ∧ sG [h] M1 M2)) : zI M2 62 0 = x ∧ (x = 0 → zJ M2 81 0 = b.toInt64) ∧ ∃ h' cs' R', zV M2 h' cs' R' := by
  have vm := vm_load v k
  have hh := v.1.1
  rcases k with ⟨hx, r, M0, ⟨h2, tt, htt, hte, hr0, h5, h6, hr, hf⟩, rfl⟩ | ⟨e, ⟨-, hn, -⟩ | ⟨he, -, hlt, rfl⟩, hx⟩
  · have htt2 : t = tt := nI_inj3 hte (by omega) (by omega)
    subst htt2
    obtain ⟨m1, m2, m3, m4, m5⟩ := m.2 h2
    have g0 : zfr (fun k => k = 0 ∨ rF (32 + 3 * h) k ∨ k = 81) M (zsJ M0 81 0 r.toInt64) := (hf.wk (fun k z => z.elim Or.inl (fun z => Or.inr (Or.inl z)))).tr (zfr_sJ (Or.inr (Or.inr rfl)))
    have n0 : ∀ k, 3 ≤ k → k ≤ 31 → ¬ (k = 0 ∨ rF (32 + 3 * h) k ∨ k = 81) := fun k h1 h2 z => by
      rcases z with z | z | z
      · omega
      · have := z.1; omega
      · omega
    refine ⟨m2.trans hx.symm, fun _ => ?_, h + 1, cs, uR R h (R (6 + t)), ?_, ?_, v.2.2.1.put (by omega) (fun i hi hn => by omega) (v.2.2.1.2 t ht), ?_⟩
    · rw [(m_fr m5 81 (fun z => by have := mP_o z; omega)).2.1, zJ_s, if_pos rfl, m1, hr0]
    · refine (v.1.of g0 (fun k h1 h2 => n0 k h1 (by omega)) (n0 31 (by decide) (by decide)) (by omega) h5 h6 (wI_f v.1.2.2.2.2.2.1 g0 (fun k z => n0 k (by have := z.1; omega) (by have := z.2; omega))) (fun i hi => ?_) (fun i hi => ?_)).m m5
      · by_cases c : i = h
        · subst c; rw [uR_1]; exact hr
        · rw [uR_2 c]; exact v.1.st g0 (by omega) (fun b hb z => by
            rcases z with z | z | z
            · omega
            · have := z.1; have := z.2; omega
            · omega)
      · rw [uR_2 (by omega)]; exact v.1.tb g0 hi (fun b hb z => by
          rcases z with z | z | z
          · omega
          · have := z.1; have := z.2; omega
          · omega)
    · exact vm.put m5 (by omega) (fun i hi => by simp at hi; omega) (by omega) (fun i hi hn => by omega) m3 m4
    · exact (v.2.2.2.fr g0 (n0 31 (by decide) (by decide)) (fun z => by
        rcases z with z | z | z
        · omega
        · have := z.2; omega
        · omega)).g m5
  · exact absurd hn (ix_no (n := 4) (by decide) ht)
  · rw [(m.1 hlt).2]
    have hx1 : x = 2 := by rw [hx, he]; decide
    exact ⟨by rw [zI_s, if_pos rfl, hx1], fun z => absurd (hx1.symm.trans z) (by decide), h, cs, R, v.no 2⟩
