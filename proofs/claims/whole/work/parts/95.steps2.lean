/-! One call on both sides: member, row, and what only asks. -/
theorem gput_snoc (cs : List gC) (m : gC) : (cs ++ [m]).foldl gput [] = gput (cs.foldl gput []) m := by rw [List.foldl_append]; rfl
theorem gins_len (m : gC) : ∀ ls : List gC, (gins ls m).length ≤ ls.length + 1 := by
  intro ls
  induction ls with
  | nil => exact Nat.le_refl _
  | cons a t ih =>
    unfold gins
    split
    · simp only [List.length_cons]; omega
    · split
      · simp only [List.length_cons]; omega
      · simp only [List.length_cons]; omega
theorem gput_lenk (ls : List gC) (m : gC) : (gput ls m).length ≤ ls.length + 1 := by
  unfold gput
  split
  · omega
  · exact gins_len _ _
theorem gputs_len (cs : List gC) : ∀ ls : List gC, (cs.foldl gput ls).length ≤ ls.length + cs.length := by
  induction cs with
  | nil => intro ls; exact Nat.le_refl _
  | cons m t ih => intro ls; have h1 := ih (gput ls m); have h2 := gput_lenk ls m; simp only [List.foldl_cons, List.length_cons]; omega
theorem gputs_len0 (cs : List gC) : (cs.foldl gput []).length ≤ cs.length := by have := gputs_len cs []; simpa using this
/-- member -/
abbrev kMember (M : zM) (cs : List gC) (a b c s x : Int32) (M1 : zM) : Prop := (x = 0 ∧ ∃ (r : Int32) (M0 : zM), (¬ gBadM a b c ∧ cs.length < 12 ∧ r = nI (cs.length + 1) ∧ zI M0 0 6 = nI (cs.length + 1) ∧ zI M0 0 5 = zI M 0 5 ∧ dH M0 3 (gput (cs.foldl gput []) (a.toInt, b.toInt, c.toInt, s == 1)) ∧ zfr (fun k => k = 0 ∨ dB 3 k) M M0) ∧ M1 = zsJ M0 81 0 r.toInt64) ∨ ∃ e : Nat, ((e = 0 ∧ gBadM a b c ∧ M1 = M) ∨ (e = 1 ∧ ¬ gBadM a b c ∧ cs.length = 12 ∧ M1 = M)) ∧ x = zcod [0, 1] e
theorem dB_c {k : Nat} (h : k = 0 ∨ dB 3 k) : cF k := h.elim (fun z => by unfold cF; omega) (fun z => by have := z.2; unfold cF; omega)
theorem vm_member {M M1 : zM} {h : Nat} {cs : List gC} {R : Nat → List (List gC)} {a b c s x : Int32} (v : zV M h cs R) (k : kMember M cs a b c s x M1) : zVM M1 h cs R := by
  rcases k with ⟨-, r, M0, ⟨-, -, -, -, -, -, hf⟩, rfl⟩ | ⟨e, ⟨-, -, rfl⟩ | ⟨-, -, -, rfl⟩, -⟩
  · exact v.2.1.fr ((hf.wk (fun k z => dB_c z)).tr out_fr) (fun k h1 h2 => cF_m h1 h2)
  · exact v.2.1
  · exact v.2.1
theorem st_member {M M1 M2 : zM} {h : Nat} {cs : List gC} {R : Nat → List (List gC)} {a b c s x y : Int32} (v : zV M h cs R) (k : kMember M cs a b c s x M1)
    (m : (gBadM a b c → y = 0 ∧ M2 = zsI M1 62 0 1) ∧ (¬ gBadM a b c → (cs.length = 12 → y = 0 ∧ M2 = zsI M1 62 0 2) ∧ (cs.length < 12 → y = nI (cs.length + 1) ∧ cH M2 (cs ++ [(a.toInt, b.toInt, c.toInt, s == 1)]) ∧ zI M2 62 0 = 0 ∧ mK [0, 8] M1 M2 ∧ zfr mC M1 M2))) : zI M2 62 0 = x ∧ (x = 0 → zJ M2 81 0 = y.toInt64) ∧ ∃ h' cs' R', zV M2 h' cs' R' := by
  have vm := vm_member v k
  have hh := v.1.1
  rcases k with ⟨hx, r, M0, ⟨hok, hlt, hr, h6, h5, hd, hf⟩, rfl⟩ | ⟨e, ⟨he, hb, rfl⟩ | ⟨he, hok, h12, rfl⟩, hx⟩
  · obtain ⟨m1, m2, m3, m4, m5⟩ := (m.2 hok).2 hlt
    have g1 : zfr (fun k => k = 81 ∨ mC k) M0 M2 := (zfr_sJ (P := fun k => k = 81 ∨ mC k) (Or.inl rfl)).tr (m5.wk (fun k z => Or.inr z))
    have c1 : ∀ k, k < 62 → ¬ (k = 81 ∨ mC k) := fun k hk z => z.elim (fun z => by omega) (fun z => by unfold mC at z; omega)
    have g2 : zfr (fun k => k = 0 ∨ dB 3 k ∨ k = 81 ∨ mC k) M M2 := (hf.wk (fun k z => z.elim Or.inl (fun z => Or.inr (Or.inl z)))).tr (g1.wk (fun k z => Or.inr (Or.inr z)))
    have c2 : ∀ k, 8 ≤ k → k < 62 → ¬ (k = 0 ∨ dB 3 k ∨ k = 81 ∨ mC k) := fun k h1 h2 z => by
      rcases z with z | z | z
      · omega
      · have := z.2; omega
      · exact c1 k h2 z
    have e0 : zI M2 0 = zI M0 0 := (g1 0 (c1 0 (by decide))).1
    refine ⟨m3.trans hx.symm, fun _ => ?_, h, cs ++ [(a.toInt, b.toInt, c.toInt, s == 1)], R, ?_, ?_, v.2.2.1, ?_⟩
    · rw [(m5 81 (by unfold mC; omega)).2.1, zJ_s, if_pos rfl, m1, hr]
    · refine ⟨hh, by rw [e0, h5]; exact v.1.2.1, by rw [e0, h6, List.length_append]; rfl, ?_, sB_kept v.1.2.2.2.2.1 g2 (c2 _ (by decide) (by decide)) (c2 _ (by decide) (by decide)) (c2 _ (by decide) (by decide)), wI_f v.1.2.2.2.2.2.1 g2 (fun k z => c2 k (by have := z.1; omega) (by have := z.2; omega)), iZ_f v.1.2.2.2.2.2.2.1 g2 (c2 _ (by decide) (by decide)), fun i hi => v.1.st g2 hi (fun b hb => c2 _ (by omega) (by omega)), fun i hi => v.1.tb g2 hi (fun b hb => c2 _ (by omega) (by omega))⟩
      rw [gput_snoc]
      exact dH_kept hd g1 (c1 _ (by decide)) (c1 _ (by decide)) (c1 _ (by decide)) (c1 _ (by decide)) (c1 _ (by decide))
    · obtain ⟨a0, a1, a2, a3, a4, a5⟩ := vm
      have n1 : ∀ k, 63 ≤ k → k ≤ 68 → ¬ mC k := fun k h1 h2 z => by unfold mC at z; omega
      refine ⟨a0, by rw [(m4 7 (by decide)).1]; exact a1, m2, ⟨zfr_bo (d := 76) m5 (by unfold mC; omega) a3.1, zfr_bo (d := 72) m5 (by unfold mC; omega) a3.2.1, sbo_fr a3.2.2.1 m5 (n1 68 (by decide) (by decide)), m3640_k a3.2.2.2.1 m4 (by decide) (by decide), mK.rf, sK.rf, zfr.rf⟩, fun i hi => sH_f (a4 i hi) m5 n1, fun i hi => sH_f (a5 i hi) m5 n1⟩
    · have vt : zVT (zsJ M0 81 0 r.toInt64) := v.2.2.2.fr (P := fun k => k = 0 ∨ dB 3 k ∨ k = 81) ((hf.wk (fun k z => z.elim Or.inl (fun z => Or.inr (Or.inl z)))).tr (zfr_sJ (Or.inr (Or.inr rfl)))) (fun z => by rcases z with z | z | z; omega; have := z.2; omega; omega) (fun z => by rcases z with z | z | z; omega; have := z.2; omega; omega)
      unfold zVT at vt ⊢
      rw [(m4 28 (by decide)).1, (m4 26 (by decide)).2, (m4 27 (by decide)).2, (m5 31 (by unfold mC; omega)).2.1]; exact vt
  · rw [(m.1 hb).2]
    have hx1 : x = 1 := by rw [hx, he]; decide
    exact ⟨by rw [zI_s, if_pos rfl, hx1], fun z => absurd (hx1.symm.trans z) (by decide), h, cs, R, v.no 1⟩
  · rw [((m.2 hok).1 h12).2]
    have hx1 : x = 2 := by rw [hx, he]; decide
    exact ⟨by rw [zI_s, if_pos rfl, hx1], fun z => absurd (hx1.symm.trans z) (by decide), h, cs, R, v.no 2⟩
/-- row -/
abbrev kRow (M : zM) (h : Nat) (ls : List gC) (x : Int32) (M1 : zM) : Prop := (x = 0 ∧ ∃ (r : Int32) (M0 : zM), (h < 6 ∧ r = nI (h + 1) ∧ ∃ A, gadd [] ls = some A ∧ zI M0 0 5 = nI (h + 1) ∧ zI M0 0 6 = 0 ∧ rH M0 (32 + 3 * h) A ∧ dH M0 3 [] ∧ sB M0 8 ∧ zfr (fun k => k = 0 ∨ dF 3 k ∨ rF (32 + 3 * h) k) M M0) ∧ M1 = zsJ M0 81 0 r.toInt64) ∨ ∃ e : Nat, (e = 1 ∧ h = 6 ∧ M1 = M) ∧ x = zcod [1] e
theorem vm_row {M M1 : zM} {h : Nat} {cs ls : List gC} {R : Nat → List (List gC)} {x : Int32} (v : zV M h cs R) (k : kRow M h ls x M1) : zVM M1 h cs R := by
  rcases k with ⟨-, r, M0, ⟨hlt, -, A, -, -, -, -, -, -, hf⟩, rfl⟩ | ⟨e, ⟨-, -, rfl⟩, -⟩
  · exact v.2.1.fr ((hf.wk (fun k z => by rcases z with z | z | z; unfold cF; omega; have := z.2; unfold cF; omega; have := z.2; unfold cF; omega)).tr out_fr) (fun k h1 h2 => cF_m h1 h2)
  · exact v.2.1
theorem st_row {M M1 M2 : zM} {h : Nat} {cs : List gC} {R : Nat → List (List gC)} {x y : Int32} (v : zV M h cs R) (k : kRow M h (cs.foldl gput []) x M1)
    (m : (h = 6 → y = 0 ∧ M2 = zsI M1 62 0 1) ∧ (h < 6 → y = nI (h + 1) ∧ ∃ M8, sG [h] M1 M8 ∧ zI M8 62 0 = 0 ∧ zI M8 62 7 = nI h ∧ M2 = zsI (zsI M8 62 8 0) 62 7 (nI (h + 1)) ∧ ∀ R, gadd [] (cs.foldl gput []) = some R → sH M8 h R)) : zI M2 62 0 = x ∧ (x = 0 → zJ M2 81 0 = y.toInt64) ∧ ∃ h' cs' R', zV M2 h' cs' R' := by
  have vm := vm_row v k
  have hh := v.1.1
  rcases k with ⟨hx, r, M0, ⟨hlt, hr, A, hga, h5, h6, hrh, hd, hsb, hf⟩, rfl⟩ | ⟨e, ⟨he, h6, rfl⟩, hx⟩
  · obtain ⟨m1, M8, g8, m2, m3, rfl, m4⟩ := m.2 hlt
    have hS := m4 A hga
    have s2 : zfr m62 M8 (zsI (zsI M8 62 8 0) 62 7 (nI (h + 1))) := (zfr_sI (P := m62) rfl).tr (zfr_sI (P := m62) rfl)
    have k2 : mK [8, 7] M8 (zsI (zsI M8 62 8 0) 62 7 (nI (h + 1))) := (mK_sI (by decide)).tr (mK_sI (by decide))
    have n62 : ∀ k, 63 ≤ k → k ≤ 68 → ¬ m62 k := fun k h1 h2 z => by unfold m62 at z; omega
    have g1 : zfr (fun k => k = 81 ∨ mP k) M0 (zsI (zsI M8 62 8 0) 62 7 (nI (h + 1))) := (zfr_sJ (P := fun k => k = 81 ∨ mP k) (Or.inl rfl)).tr (((m_fr g8).wk (fun k z => Or.inr z)).tr (s2.wk (fun k z => Or.inr (m62_P z))))
    have c1 : ∀ k, k < 62 → ¬ (k = 81 ∨ mP k) := fun k hk z => z.elim (fun z => by omega) (fun z => by have := mP_o z; omega)
    have g2 : zfr (fun k => (k = 0 ∨ dF 3 k ∨ rF (32 + 3 * h) k) ∨ k = 81 ∨ mP k) M (zsI (zsI M8 62 8 0) 62 7 (nI (h + 1))) := (hf.wk (fun k z => Or.inl z)).tr (g1.wk (fun k z => Or.inr z))
    have c2 : ∀ k, 12 ≤ k → k < 62 → ¬ rF (32 + 3 * h) k → ¬ ((k = 0 ∨ dF 3 k ∨ rF (32 + 3 * h) k) ∨ k = 81 ∨ mP k) := fun k h1 h2 h3 z => by
      rcases z with (z | z | z) | z
      · omega
      · have := z.2; omega
      · exact h3 z
      · exact c1 k h2 z
    have rn : ∀ k, k < 32 → ¬ rF (32 + 3 * h) k := fun k h1 z => by have := z.1; omega
    have e0 : zI (zsI (zsI M8 62 8 0) 62 7 (nI (h + 1))) 0 = zI M0 0 := (g1 0 (c1 0 (by decide))).1
    refine ⟨by rw [zI_s, if_neg (by decide), zI_s, if_neg (by decide), m2, hx], fun _ => ?_, h + 1, [], uR R h A, ?_, ?_, v.2.2.1.put (by omega) (fun i hi hn => by omega) (gGd_row hga), ?_⟩
    · rw [zJ_sI, zJ_sI, (m_fr g8 81 (fun z => by have := mP_o z; omega)).2.1, zJ_s, if_pos rfl, m1, hr]
    · refine ⟨by omega, by rw [e0]; exact h5, by rw [e0]; exact h6, dH_kept hd g1 (c1 _ (by decide)) (c1 _ (by decide)) (c1 _ (by decide)) (c1 _ (by decide)) (c1 _ (by decide)), sB_kept hsb g1 (c1 _ (by decide)) (c1 _ (by decide)) (c1 _ (by decide)), wI_f v.1.2.2.2.2.2.1 g2 (fun k z => c2 k (by have := z.1; omega) (by have := z.2; omega) (rn k (by have := z.2; omega))), iZ_f v.1.2.2.2.2.2.2.1 g2 (c2 _ (by decide) (by decide) (rn _ (by decide))), fun i hi => ?_, fun i hi => ?_⟩
      · by_cases c : i = h
        · subst c; rw [uR_1]; exact rH_kept hrh g1 (c1 _ (by omega)) (c1 _ (by omega)) (c1 _ (by omega))
        · rw [uR_2 c]; exact v.1.st g2 (by omega) (fun b hb => c2 _ (by omega) (by omega) (fun z => by have := z.1; have := z.2; omega))
      · rw [uR_2 (by omega)]; exact v.1.tb g2 hi (fun b hb => c2 _ (by omega) (by omega) (fun z => by have := z.1; have := z.2; omega))
    · have fh := g8.here
      refine ⟨by omega, by rw [zI_s, if_pos rfl], ⟨by rw [zI_s, if_neg (by decide), zI_s, if_pos rfl]; rfl, by decide, (fun j q hq => by simp at hq), (fun q hq => by cases hq), fun j => ?_⟩, ⟨zfr_bo (d := 76) s2 (by unfold m62; decide) fh.1, zfr_bo (d := 72) s2 (by unfold m62; decide) fh.2.1, sbo_fr fh.2.2.1 s2 (by unfold m62; decide), m3640_k fh.2.2.2.1 k2 (by decide) (by decide), mK.rf, sK.rf, zfr.rf⟩, fun i hi => ?_, fun i hi => ?_⟩
      · rw [(s2 72 (by unfold m62; decide)).1, (m_fr g8 72 (by unfold mP; omega)).1]
        exact vm.2.2.1.2.2.2.2 j
      · by_cases c : i = h
        · subst c; rw [uR_1]; exact sH_f hS s2 n62
        · rw [uR_2 c]; exact sH_f (vm.st g8 (by omega) (by simp; omega)) s2 n62
      · rw [uR_2 (by omega)]; exact sH_f (vm.tb g8 hi (by simp; omega)) s2 n62
    · have vt : zVT (zsJ M0 81 0 r.toInt64) := v.2.2.2.fr (P := fun k => (k = 0 ∨ dF 3 k ∨ rF (32 + 3 * h) k) ∨ k = 81) ((hf.wk (fun k z => Or.inl z)).tr (zfr_sJ (Or.inr rfl))) (fun z => by rcases z with (z | z | z) | z; omega; have := z.2; omega; exact rn _ (by decide) z; omega) (fun z => by rcases z with (z | z | z) | z; omega; have := z.2; omega; have := z.2; omega; omega)
      have vt8 := vt.g g8
      unfold zVT at vt8 ⊢
      rw [(k2 28 (by decide)).1, (k2 26 (by decide)).2, (k2 27 (by decide)).2]; exact vt8
  · rw [(m.1 h6).2]
    have hx1 : x = 1 := by rw [hx, he]; decide
    exact ⟨by rw [zI_s, if_pos rfl, hx1], fun z => absurd (hx1.symm.trans z) (by decide), h, cs, R, v.no 1⟩
/-- drop, pile -/
theorem vm_drop {M M1 : zM} {h : Nat} {cs : List gC} {R : Nat → List (List gC)} {x : Int32} (v : zV M h cs R) (k : (h = 0 → x = 0 ∧ M1 = M) ∧ (0 < h → x = 1 ∧ M1 = zsI M 0 5 (nI (h - 1)))) : zVM M1 h cs R := by
  rcases Nat.eq_zero_or_pos h with hz | hz
  · rw [(k.1 hz).2]; exact v.2.1
  · rw [(k.2 hz).2]; exact v.2.1.fr (zfr_sI (P := fun k => k = 0) rfl) (fun k h1 h2 z => by omega)
theorem st_drop {M M1 M2 : zM} {h : Nat} {cs : List gC} {R : Nat → List (List gC)} {x y : Int32} (v : zV M h cs R) (k : (h = 0 → x = 0 ∧ M1 = M) ∧ (0 < h → x = 1 ∧ M1 = zsI M 0 5 (nI (h - 1)))) (m : (h = 0 → y = 0 ∧ M2 = zsI M1 62 0 0) ∧ (0 < h → y = 1 ∧ M2 = zsI (zsI M1 62 0 0) 62 7 (nI (h - 1)))) : x = y ∧ ∃ h' cs' R', zV M2 h' cs' R' := by
  have vm := vm_drop v k
  have hh := v.1.1
  rcases Nat.eq_zero_or_pos h with hz | hz
  · obtain ⟨k1, k2⟩ := k.1 hz
    obtain ⟨m1, m2⟩ := m.1 hz
    rw [m2, k2]
    exact ⟨k1.trans m1.symm, h, cs, R, v.no 0⟩
  · obtain ⟨k1, k2⟩ := k.2 hz
    obtain ⟨m1, m2⟩ := m.2 hz
    have f0 : zfr (fun k => k = 0) M M1 := by rw [k2]; exact zfr_sI rfl
    have hG : sG [] M1 M2 := by rw [m2]; exact ((vm.2.2.2.1.g).set (j := 0) (by decide) (by decide) (by decide)).set (j := 7) (by decide) (by decide) (by decide)
    refine ⟨k1.trans m1.symm, h - 1, cs, R, ?_, vm.g hG (by omega) (by rw [m2, zI_s, if_pos rfl]) (fun i hi => vm.st hG (by omega) (by simp)) (fun i hi => vm.tb hG hi (by simp)), v.2.2.1.less (by omega), (v.2.2.2.fr f0 (by decide) (by decide)).g hG⟩
    refine (v.1.of f0 (fun k h1 h2 z => by omega) (by decide) (by omega) (by rw [k2, zI_s, if_pos rfl]) (by rw [k2, zI_s, if_neg (by decide)]) (wI_f v.1.2.2.2.2.2.1 f0 (fun k h z => by have := h.1; omega)) (fun i hi => v.1.st f0 (by omega) (fun b hb z => by omega)) (fun i hi => v.1.tb f0 hi (fun b hb z => by omega))).m hG
theorem st_pile {M M1 M2 : zM} {h : Nat} {cs : List gC} {R : Nat → List (List gC)} {x y : Int32} (v : zV M h cs R) (k : x = zI M 0 5 ∧ M1 = M) (m : y = zI M1 62 7 ∧ M2 = zsI M1 62 0 0) : x = y ∧ ∃ h' cs' R', zV M2 h' cs' R' := by
  rw [m.2, k.1, m.1, k.2]
  exact ⟨v.1.2.1.trans v.2.1.2.1.symm, h, cs, R, v.no 0⟩
/-- a question: what is answered lies in the law's long -/
theorem zV.ask {M : zM} {h : Nat} {cs : List gC} {R : Nat → List (List gC)} {w : Int64} (v : zV M h cs R) : zI (zsI (zsJ M 81 0 w) 62 0 0) 62 0 = 0 ∧ zJ (zsI (zsJ M 81 0 w) 62 0 0) 81 0 = w ∧ zV (zsI (zsJ M 81 0 w) 62 0 0) h cs R := ⟨by rw [zI_s, if_pos rfl], by rw [zJ_sI, zJ_s, if_pos rfl], v.out.no 0⟩
abbrev kRows (M : zM) (h : Nat) (x : Int32) (M1 : zM) : Prop := (x = 0 ∧ ∃ (r : Int32) (M0 : zM), (1 ≤ h ∧ r = zI M (32 + 3 * (h - 1)) 2 ∧ M0 = M) ∧ M1 = zsJ M0 81 0 r.toInt64) ∨ ∃ e : Nat, (e = 1 ∧ h < 1 ∧ M1 = M) ∧ x = zcod [1] e
theorem vm_rows {M M1 : zM} {h : Nat} {cs : List gC} {R : Nat → List (List gC)} {x : Int32} (v : zV M h cs R) (k : kRows M h x M1) : zVM M1 h cs R := by
  rcases k with ⟨-, r, M0, ⟨-, -, rfl⟩, rfl⟩ | ⟨e, ⟨-, -, rfl⟩, -⟩
  · exact v.out.2.1
  · exact v.2.1
theorem st_rows {M M1 M2 : zM} {h : Nat} {cs : List gC} {R : Nat → List (List gC)} {x y : Int32} (v : zV M h cs R) (k : kRows M h x M1) (m : (h = 0 → y = 0 ∧ M2 = zsI M1 62 0 1) ∧ (0 < h → y = zI M1 63 (h - 1) ∧ M2 = zsI M1 62 0 0)) : zI M2 62 0 = x ∧ (x = 0 → zJ M2 81 0 = y.toInt64) ∧ ∃ h' cs' R', zV M2 h' cs' R' := by
  have vm := vm_rows v k
  rcases k with ⟨hx, r, M0, ⟨h1, hr, rfl⟩, rfl⟩ | ⟨e, ⟨he, hlt, rfl⟩, hx⟩
  · obtain ⟨m1, m2⟩ := m.2 h1
    obtain ⟨q1, q2, q3⟩ := v.ask (w := r.toInt64)
    rw [m2]
    refine ⟨q1.trans hx.symm, fun _ => ?_, h, cs, R, q3⟩
    rw [q2, hr, m1, (v.1.2.2.2.2.2.2.2.1 (h - 1) (by omega)).1, (vm.2.2.2.2.1 (h - 1) (by omega)).1]
  · rw [(m.1 (by omega)).2]
    have hx1 : x = 1 := by rw [hx, he]; decide
    exact ⟨by rw [zI_s, if_pos rfl, hx1], fun z => absurd (hx1.symm.trans z) (by decide), h, cs, R, v.no 1⟩
abbrev kMembers (M : zM) (h : Nat) (P : List (List gC)) (a x : Int32) (M1 : zM) : Prop := (x = 0 ∧ ∃ (r : Int32) (M0 : zM), (1 ≤ h ∧ (∃ k, k < P.length ∧ a = nI k ∧ r = zI M (32 + 3 * (h - 1) + 1) k) ∧ M0 = M) ∧ M1 = zsJ M0 81 0 r.toInt64) ∨ ∃ e : Nat, ((e = 1 ∧ h < 1 ∧ M1 = M) ∨ (e = 3 ∧ 1 ≤ h ∧ (a < 0 ∨ nI P.length ≤ a) ∧ M1 = M)) ∧ x = zcod [1, 3] e
theorem vm_members {M M1 : zM} {h : Nat} {cs : List gC} {R : Nat → List (List gC)} {P : List (List gC)} {a x : Int32} (v : zV M h cs R) (k : kMembers M h P a x M1) : zVM M1 h cs R := by
  rcases k with ⟨-, r, M0, ⟨-, -, rfl⟩, rfl⟩ | ⟨e, ⟨-, -, rfl⟩ | ⟨-, -, -, rfl⟩, -⟩
  · exact v.out.2.1
  · exact v.2.1
  · exact v.2.1
theorem st_members {M M1 M2 : zM} {h : Nat} {cs : List gC} {R : Nat → List (List gC)} {a x y : Int32} (v : zV M h cs R) (k : kMembers M h (R (h - 1)) a x M1) (m : (h = 0 → y = 0 ∧ M2 = zsI M1 62 0 1) ∧ (0 < h → (∀ k, k < (R (h - 1)).length → a = nI k → y = zI M1 64 (12 * (h - 1) + k) ∧ M2 = zsI M1 62 0 0) ∧ (a < 0 ∨ nI (R (h - 1)).length ≤ a → y = 0 ∧ M2 = zsI M1 62 0 2))) : zI M2 62 0 = x ∧ (x = 0 → zJ M2 81 0 = y.toInt64) ∧ ∃ h' cs' R', zV M2 h' cs' R' := by
  have vm := vm_members v k
  rcases k with ⟨hx, r, M0, ⟨h1, ⟨k, hk, ha, hr⟩, rfl⟩, rfl⟩ | ⟨e, ⟨he, hlt, rfl⟩ | ⟨he, h1, hb, rfl⟩, hx⟩
  · obtain ⟨m1, m2⟩ := (m.2 h1).1 k hk ha
    obtain ⟨q1, q2, q3⟩ := v.ask (w := r.toInt64)
    rw [m2]
    refine ⟨q1.trans hx.symm, fun _ => ?_, h, cs, R, q3⟩
    have hrow := List.getElem?_eq_getElem (l := R (h - 1)) hk
    have e1 := ((v.1.2.2.2.2.2.2.2.1 (h - 1) (by omega)).2.2 k _ hrow).2.1
    have e2 := ((vm.2.2.2.2.1 (h - 1) (by omega)).2.2 k _ hrow).2.1
    rw [q2, hr, m1, e1, e2]
  · rw [(m.1 (by omega)).2]
    have hx1 : x = 1 := by rw [hx, he]; decide
    exact ⟨by rw [zI_s, if_pos rfl, hx1], fun z => absurd (hx1.symm.trans z) (by decide), h, cs, R, v.no 1⟩
  · rw [((m.2 h1).2 hb).2]
    have hx1 : x = 2 := by rw [hx, he]; decide
    exact ⟨by rw [zI_s, if_pos rfl, hx1], fun z => absurd (hx1.symm.trans z) (by decide), h, cs, R, v.no 2⟩
abbrev kPart (M : zM) (h : Nat) (P : List (List gC)) (a b c x : Int32) (M1 : zM) : Prop := (x = 0 ∧ ∃ (r : Int32) (M0 : zM), (1 ≤ h ∧ gPq P a b c r.toInt 0 ∧ M0 = M) ∧ M1 = zsJ M0 81 0 r.toInt64) ∨ ∃ e : Nat, ((e = 1 ∧ h < 1 ∧ M1 = M) ∨ (1 ≤ h ∧ M1 = M ∧ ((e = 3 ∧ gPq P a b c 0 2) ∨ (e = 0 ∧ gPq P a b c 0 3)))) ∧ x = zcod [1, 3, 0] e
theorem vm_part {M M1 : zM} {h : Nat} {cs : List gC} {R : Nat → List (List gC)} {P : List (List gC)} {a b c x : Int32} (v : zV M h cs R) (k : kPart M h P a b c x M1) : zVM M1 h cs R := by
  rcases k with ⟨-, r, M0, ⟨-, -, rfl⟩, rfl⟩ | ⟨e, ⟨-, -, rfl⟩ | ⟨-, rfl, -⟩, -⟩
  · exact v.out.2.1
  · exact v.2.1
  · exact v.2.1
theorem st_part {M M1 M2 : zM} {h : Nat} {cs : List gC} {R : Nat → List (List gC)} {a b c x y : Int32} (v : zV M h cs R) (k : kPart M h (R (h - 1)) a b c x M1) (m : (h = 0 → y = 0 ∧ M2 = zsI M1 62 0 1) ∧ (0 < h → ∃ d : Int32, M2 = zsI M1 62 0 d ∧ gPq (R (h - 1)) a b c y.toInt d)) : zI M2 62 0 = x ∧ (x = 0 → zJ M2 81 0 = y.toInt64) ∧ ∃ h' cs' R', zV M2 h' cs' R' := by
  have un : 1 ≤ h → ∀ {p p' : Int} {d d' : Int32}, gPq (R (h - 1)) a b c p d → gPq (R (h - 1)) a b c p' d' → d = d' ∧ p = p' := fun h1 {p p' d d'} g g' => by
    have hr := v.1.2.2.2.2.2.2.2.1 (h - 1) (by omega)
    exact gPq_uniq hr.2.1 (fun row hrow => by obtain ⟨i, hi⟩ := List.getElem?_of_mem hrow; exact (hr.2.2 i row hi).1) g g'
  rcases k with ⟨hx, r, M0, ⟨h1, hq, rfl⟩, rfl⟩ | ⟨e, ⟨he, hlt, rfl⟩ | ⟨h1, rfl, hq⟩, hx⟩
  · obtain ⟨d, m1, m2⟩ := m.2 h1
    obtain ⟨rfl, e2⟩ := un h1 hq m2
    obtain ⟨q1, q2, q3⟩ := v.ask (w := r.toInt64)
    rw [m1]
    exact ⟨q1.trans hx.symm, fun _ => by rw [q2, Int32.toInt_inj.mp e2], h, cs, R, q3⟩
  · rw [(m.1 (by omega)).2]
    have hx1 : x = 1 := by rw [hx, he]; decide
    exact ⟨by rw [zI_s, if_pos rfl, hx1], fun z => absurd (hx1.symm.trans z) (by decide), h, cs, R, v.no 1⟩
  · obtain ⟨d, m1, m2⟩ := m.2 h1
    rw [m1]
    rcases hq with ⟨he, hq⟩ | ⟨he, hq⟩
    · obtain ⟨rfl, -⟩ := un h1 hq m2
      have hx1 : x = 2 := by rw [hx, he]; decide
      exact ⟨by rw [zI_s, if_pos rfl, hx1], fun z => absurd (hx1.symm.trans z) (by decide), h, cs, R, v.no 2⟩
    · obtain ⟨rfl, -⟩ := un h1 hq m2
      have hx1 : x = 3 := by rw [hx, he]; decide
      exact ⟨by rw [zI_s, if_pos rfl, hx1], fun z => absurd (hx1.symm.trans z) (by decide), h, cs, R, v.no 3⟩
theorem b01k {r y : Int32} {p : Prop} (hr : r = 0 ∨ r = 1) (hy : y = 0 ∨ y = 1) (h1 : r = 1 ↔ p) (h2 : y = 1 ↔ p) : (if r = 0 then (0 : Int64) else 1) = if y = 0 then 0 else 1 := by
  by_cases c : p
  · rw [h1.mpr c, h2.mpr c]
  · rw [hr.resolve_right (fun z => c (h1.mp z)), hy.resolve_right (fun z => c (h2.mp z))]
abbrev kHolds (M : zM) (h : Nat) (P : List (List gC)) (a b c x : Int32) (M1 : zM) : Prop := (x = 0 ∧ ∃ (r : Int32) (M0 : zM), (1 ≤ h ∧ ¬ gBadH a b c ∧ (r = 0 ∨ r = 1) ∧ (r = 1 ↔ ∃ row ∈ P, ∀ m ∈ row, gHat m a.toInt b.toInt c.toInt) ∧ M0 = M) ∧ M1 = zsJ M0 81 0 (if r = 0 then 0 else 1)) ∨ ∃ e : Nat, ((e = 1 ∧ h < 1 ∧ M1 = M) ∨ (e = 0 ∧ 1 ≤ h ∧ gBadH a b c ∧ M1 = M)) ∧ x = zcod [1, 0] e
theorem vm_holds {M M1 : zM} {h : Nat} {cs : List gC} {R : Nat → List (List gC)} {P : List (List gC)} {a b c x : Int32} (v : zV M h cs R) (k : kHolds M h P a b c x M1) : zVM M1 h cs R := by
  rcases k with ⟨-, r, M0, ⟨-, -, -, -, rfl⟩, rfl⟩ | ⟨e, ⟨-, -, rfl⟩ | ⟨-, -, -, rfl⟩, -⟩
  · exact v.out.2.1
  · exact v.2.1
  · exact v.2.1
theorem st_holds {M M1 M2 : zM} {h : Nat} {cs : List gC} {R : Nat → List (List gC)} {a b c x y : Int32} (v : zV M h cs R) (k : kHolds M h (R (h - 1)) a b c x M1) (m : (h = 0 → y = 0 ∧ M2 = zsI M1 62 0 1) ∧ (0 < h → (gBadH a b c → y = 0 ∧ M2 = zsI M1 62 0 2) ∧ (¬ gBadH a b c → M2 = zsI M1 62 0 0 ∧ (y = 0 ∨ y = 1) ∧ (y = 1 ↔ ∃ row ∈ R (h - 1), ∀ m ∈ row, gHat m a.toInt b.toInt c.toInt)))) : zI M2 62 0 = x ∧ (x = 0 → zJ M2 81 0 = if y = 0 then 0 else 1) ∧ ∃ h' cs' R', zV M2 h' cs' R' := by
  rcases k with ⟨hx, r, M0, ⟨h1, hok, hr, hq, rfl⟩, rfl⟩ | ⟨e, ⟨he, hlt, rfl⟩ | ⟨he, h1, hb, rfl⟩, hx⟩
  · obtain ⟨m1, m2, m3⟩ := (m.2 h1).2 hok
    obtain ⟨q1, q2, q3⟩ := v.ask (w := if r = 0 then 0 else 1)
    rw [m1]
    exact ⟨q1.trans hx.symm, fun _ => by rw [q2]; exact b01k hr m2 hq m3, h, cs, R, q3⟩
  · rw [(m.1 (by omega)).2]
    have hx1 : x = 1 := by rw [hx, he]; decide
    exact ⟨by rw [zI_s, if_pos rfl, hx1], fun z => absurd (hx1.symm.trans z) (by decide), h, cs, R, v.no 1⟩
  · rw [((m.2 h1).1 hb).2]
    have hx1 : x = 2 := by rw [hx, he]; decide
    exact ⟨by rw [zI_s, if_pos rfl, hx1], fun z => absurd (hx1.symm.trans z) (by decide), h, cs, R, v.no 2⟩
/-- within -/
abbrev kWithin (M : zM) (h : Nat) (g : Option (List (List gC))) (x : Int32) (M1 : zM) : Prop := (x = 0 ∧ ∃ (r : Int32) (M0 : zM), (2 ≤ h ∧ ∃ W, g = some W ∧ (r = 0 ∨ r = 1) ∧ (r = 1 ↔ W = []) ∧ wI M0 ∧ zfr wF M M0) ∧ M1 = zsJ M0 81 0 (if r = 0 then 0 else 1)) ∨ ∃ e : Nat, ((e = 1 ∧ h < 2 ∧ M1 = M) ∨ (e = 2 ∧ 2 ≤ h ∧ g = none ∧ wI M1 ∧ zfr wF M M1)) ∧ x = zcod [1, 2] e
theorem vm_within {M M1 : zM} {h : Nat} {cs : List gC} {R : Nat → List (List gC)} {g : Option (List (List gC))} {x : Int32} (v : zV M h cs R) (k : kWithin M h g x M1) : zVM M1 h cs R := by
  rcases k with ⟨-, r, M0, ⟨-, W, -, -, -, -, hf⟩, rfl⟩ | ⟨e, ⟨-, -, rfl⟩ | ⟨-, -, -, -, hf⟩, -⟩
  · exact v.2.1.fr ((hf.wk (fun k z => wF_c z)).tr out_fr) (fun k h1 h2 => cF_m h1 h2)
  · exact v.2.1
  · exact v.2.1.fr (hf.wk (fun k z => wF_c z)) (fun k h1 h2 => cF_m h1 h2)
abbrev mWithin (M1 : zM) (h : Nat) (g : Option (List (List gC))) (y : Int32) (M2 : zM) : Prop := (h < 2 → y = 0 ∧ M2 = zsI M1 62 0 1) ∧ (2 ≤ h → (match g with | some R => zI M2 62 0 = 0 ∧ (y = 0 ∨ y = 1) ∧ (y = 1 ↔ R = []) | none => zI M2 62 0 = 2 ∧ y = 0) ∧ zI M2 62 7 = nI h ∧ sG [10, 11, 12, 13] M1 M2)
theorem st_within {M M1 M2 : zM} {h : Nat} {cs : List gC} {R : Nat → List (List gC)} {g : Option (List (List gC))} {x y : Int32} (v : zV M h cs R) (k : kWithin M h g x M1) (m : mWithin M1 h g y M2) : zI M2 62 0 = x ∧ (x = 0 → zJ M2 81 0 = if y = 0 then 0 else 1) ∧ ∃ h' cs' R', zV M2 h' cs' R' := by
  have vm := vm_within v k
  rcases k with ⟨hx, r, M0, ⟨h2, W, hga, hr, hq, hw, hf⟩, rfl⟩ | ⟨e, ⟨he, hlt, rfl⟩ | ⟨he, h2, hga, hw, hf⟩, hx⟩
  · obtain ⟨m1, m2, m3⟩ := m.2 h2
    rw [hga] at m1
    obtain ⟨m4, m5, m6⟩ := m1
    refine ⟨m4.trans hx.symm, fun _ => ?_, h, cs, R, ?_, vm.same m3 m2 (by simp), v.2.2.1, ?_⟩
    · rw [(m_fr m3 81 (fun z => by have := mP_o z; omega)).2.1, zJ_s, if_pos rfl]; exact b01k hr m5 hq m6
    · exact ((v.1.w hw hf).fr (zfr_sJ (P := fun k => k = 81) rfl) (fun k hk z => by omega)).m m3
    · exact ((v.2.2.2.fr hf (fun z => by have := z.2; omega) (fun z => by have := z.2; omega)).fr (zfr_sJ (P := fun k => k = 81) rfl) (by decide) (by decide)).g m3
  · rw [(m.1 hlt).2]
    have hx1 : x = 1 := by rw [hx, he]; decide
    exact ⟨by rw [zI_s, if_pos rfl, hx1], fun z => absurd (hx1.symm.trans z) (by decide), h, cs, R, v.no 1⟩
  · obtain ⟨m1, m2, m3⟩ := m.2 h2
    rw [hga] at m1
    have hx1 : x = 2 := by rw [hx, he]; decide
    refine ⟨by rw [m1.1, hx1], fun z => absurd (hx1.symm.trans z) (by decide), h, cs, R, (v.1.w hw hf).m m3, vm.same m3 m2 (by simp), v.2.2.1, ?_⟩
    exact (v.2.2.2.fr hf (fun z => by have := z.2; omega) (fun z => by have := z.2; omega)).g m3
/-- least -/
abbrev kLeast (M : zM) (h : Nat) (P : List (List gC)) (f g x : Int32) (M1 : zM) : Prop := (x = 0 ∧ ∃ (r : Int32) (M0 : zM), (1 ≤ h ∧ ¬ gBadF f g ∧ gLst P f.toInt g.toInt r (zJ M0 31 0).toInt (zJ M0 31 1).toInt ∧ iZ M0 ∧ zfr iF M M0) ∧ M1 = zsJ M0 81 0 r.toInt64) ∨ ∃ e : Nat, ((e = 1 ∧ h < 1 ∧ M1 = M) ∨ (e = 0 ∧ 1 ≤ h ∧ gBadF f g ∧ M1 = M)) ∧ x = zcod [1, 0] e
theorem vm_least {M M1 : zM} {h : Nat} {cs : List gC} {R : Nat → List (List gC)} {P : List (List gC)} {f g x : Int32} (v : zV M h cs R) (k : kLeast M h P f g x M1) : zVM M1 h cs R := by
  rcases k with ⟨-, r, M0, ⟨-, -, -, -, hf⟩, rfl⟩ | ⟨e, ⟨-, -, rfl⟩ | ⟨-, -, -, rfl⟩, -⟩
  · exact v.2.1.fr ((hf.wk (fun k z => by unfold iF at z; unfold cF; omega)).tr out_fr) (fun k h1 h2 => cF_m h1 h2)
  · exact v.2.1
  · exact v.2.1
theorem st_least {M M1 M2 : zM} {h : Nat} {cs : List gC} {R : Nat → List (List gC)} {f g x y : Int32} (v : zV M h cs R) (k : kLeast M h (R (h - 1)) f g x M1) (m : (h = 0 → y = 0 ∧ M2 = zsI M1 62 0 1) ∧ (0 < h → (gBadF f g → y = 0 ∧ M2 = zsI M1 62 0 2) ∧ (¬ gBadF f g → zI M2 62 0 = 0 ∧ lTold (R (h - 1)) f.toInt g.toInt y M2 ∧ lF M1 M2))) : zI M2 62 0 = x ∧ (x = 0 → zJ M2 81 0 = y.toInt64) ∧ ∃ h' cs' R', zV M2 h' cs' R' := by
  have vm := vm_least v k
  have hh := v.1.1
  rcases k with ⟨hx, r, M0, ⟨h1, hok, hq, hz, hf⟩, rfl⟩ | ⟨e, ⟨he, hlt, rfl⟩ | ⟨he, h1, hb, rfl⟩, hx⟩
  · obtain ⟨m1, m2, m3⟩ := (m.2 h1).2 hok
    have fm : zfr mP (zsJ M0 81 0 r.toInt64) M2 := m3.2.2.2.2.2.2
    have e31 : zJ M2 31 = zJ M0 31 := by rw [(fm 31 (fun z => by have := mP_o z; omega)).2.1]; rfl
    have e81 : zJ M2 81 0 = r.toInt64 := by rw [(fm 81 (fun z => by have := mP_o z; omega)).2.1, zJ_s, if_pos rfl]
    have ni : ∀ k, k ≠ 31 → ¬ iF k := fun k h z => h z
    have hv : r = y ∧ zVT M2 := by
      rcases m2 with ⟨t1, t2⟩ | ⟨t1, t2⟩
      · obtain ⟨u1, u2, u3⟩ := gLst_uniq hq t2
        exact ⟨u1, Or.inl ⟨t1, by rw [e31]; exact t0_iff.mp u2, by rw [e31]; exact t0_iff.mp u3⟩⟩
      · obtain ⟨u1, u2, u3⟩ := gLst_uniq hq t2
        exact ⟨u1, Or.inr ⟨t1, by rw [e31]; exact Int64.toInt_inj.mp u2, by rw [e31]; exact Int64.toInt_inj.mp u3⟩⟩
    refine ⟨m1.trans hx.symm, fun _ => by rw [e81, hv.1], h, cs, R, ?_, ?_, v.2.2.1, hv.2⟩
    · have hf2 := hf
      have e0 : zI M0 0 = zI M 0 := (hf 0 (ni 0 (by decide))).1
      have vk0 : zVK M0 h cs R := ⟨hh, by rw [e0]; exact v.1.2.1, by rw [e0]; exact v.1.2.2.1, dH_kept v.1.2.2.2.1 hf (ni _ (by decide)) (ni _ (by decide)) (ni _ (by decide)) (ni _ (by decide)) (ni _ (by decide)), sB_kept v.1.2.2.2.2.1 hf (ni _ (by decide)) (ni _ (by decide)) (ni _ (by decide)), wI_f v.1.2.2.2.2.2.1 hf (fun k z => ni k (by have := z.2; omega)), hz, fun i hi => v.1.st hf hi (fun b hb => ni _ (by omega)), fun i hi => v.1.tb hf hi (fun b hb => ni _ (by omega))⟩
      exact (vk0.fr (zfr_sJ (P := fun k => k = 81) rfl) (fun k hk z => by omega)).fr fm (fun k hk z => by have := mP_o z; omega)
    · obtain ⟨a0, a1, a2, a3, a4, a5⟩ := vm
      exact ⟨a0, by rw [(m3.2.2.2.2.1 7 (by decide)).1]; exact a1, cH_f a2 fm (fun k h1 h2 z => by unfold mP at z; omega) (m3.2.2.2.2.1 8 (by decide)).1, ⟨m3.1, m3.2.1, m3.2.2.1, m3.2.2.2.1, mK.rf, sK.rf, zfr.rf⟩, fun i hi => sH_k (a4 i hi) m3.2.2.2.2.2.1 (by simp), fun i hi => sH_k (a5 i hi) m3.2.2.2.2.2.1 (by simp)⟩
  · rw [(m.1 (by omega)).2]
    have hx1 : x = 1 := by rw [hx, he]; decide
    exact ⟨by rw [zI_s, if_pos rfl, hx1], fun z => absurd (hx1.symm.trans z) (by decide), h, cs, R, v.no 1⟩
  · rw [((m.2 h1).1 hb).2]
    have hx1 : x = 2 := by rw [hx, he]; decide
    exact ⟨by rw [zI_s, if_pos rfl, hx1], fun z => absurd (hx1.symm.trans z) (by decide), h, cs, R, v.no 2⟩
/-- value -/
abbrev kValue (M : zM) (pt x : Int32) (M1 : zM) : Prop := (x = 0 ∧ ∃ (r : Int64) (M0 : zM), ((pt = 0 ∨ pt = 1) ∧ r = (if pt = 0 then zJ M 31 0 else zJ M 31 1) ∧ M0 = M) ∧ M1 = zsJ M0 81 0 r) ∨ ∃ e : Nat, (e = 0 ∧ ¬ (pt = 0 ∨ pt = 1) ∧ M1 = M) ∧ x = zcod [0] e
theorem vm_value {M M1 : zM} {h : Nat} {cs : List gC} {R : Nat → List (List gC)} {pt x : Int32} (v : zV M h cs R) (k : kValue M pt x M1) : zVM M1 h cs R := by
  rcases k with ⟨-, r, M0, ⟨-, -, rfl⟩, rfl⟩ | ⟨e, ⟨-, -, rfl⟩, -⟩
  · exact v.out.2.1
  · exact v.2.1
theorem pt_or {pt : Int32} : (pt < 0 ∨ 1 < pt) ∨ (pt = 0 ∨ pt = 1) := by
  rcases ix_or pt 2 (by decide) with ⟨k, hk, e⟩ | z | z
  · subst e
    match k, hk with
    | 0, _ => exact Or.inr (Or.inl rfl)
    | 1, _ => exact Or.inr (Or.inr rfl)
    | n + 2, h => omega
  · exact Or.inl (Or.inl z)
  · refine Or.inl (Or.inr ?_)
    have := Int32.le_iff_toInt_le.mp z
    have h2 : (nI 2).toInt = 2 := rfl
    have h1 : (1 : Int32).toInt = 1 := rfl
    exact Int32.lt_iff_toInt_lt.mpr (by omega)
theorem pt_no {pt : Int32} (h : pt = 0 ∨ pt = 1) : ¬ pt < 0 ∧ pt ≤ 1 := by rcases h with z | z <;> rw [z] <;> decide
theorem st_value {M M1 M2 : zM} {h : Nat} {cs : List gC} {R : Nat → List (List gC)} {pt x : Int32} {y : Int64} (v : zV M h cs R) (k : kValue M pt x M1) (m : (pt < 0 ∨ 1 < pt → M2 = zsI M1 62 0 1) ∧ (¬ pt < 0 ∧ pt ≤ 1 → M2 = zsI M1 62 0 0 ∧ y = if zI M1 62 28 = 0 then 0 else if pt = 0 then zJ M1 62 26 else zJ M1 62 27)) : zI M2 62 0 = x ∧ (x = 0 → zJ M2 81 0 = y) ∧ ∃ h' cs' R', zV M2 h' cs' R' := by
  rcases k with ⟨hx, r, M0, ⟨hpt, hr, rfl⟩, rfl⟩ | ⟨e, ⟨he, hn, rfl⟩, hx⟩
  · obtain ⟨m1, m2⟩ := m.2 (pt_no hpt)
    obtain ⟨q1, q2, q3⟩ := v.ask (w := r)
    rw [m1]
    refine ⟨q1.trans hx.symm, fun _ => ?_, h, cs, R, q3⟩
    rw [q2, hr, m2]
    have e1 : zI (zsJ M0 81 0 r) 62 28 = zI M0 62 28 := rfl
    have e2 : zJ (zsJ M0 81 0 r) 62 = zJ M0 62 := by unfold zsJ; rw [zJ_rJ, if_neg (by decide)]
    rw [e1, e2]
    rcases v.2.2.2 with ⟨t1, t2, t3⟩ | ⟨t1, t2, t3⟩
    · rw [if_pos t1, t2, t3]; split <;> rfl
    · have hz : ¬ zI M0 62 28 = 0 := by rw [t1]; decide
      rw [t2, t3, if_neg hz]
  · rw [m.1 (pt_or.resolve_right hn)]
    have hx1 : x = 1 := by rw [hx, he]; decide
    exact ⟨by rw [zI_s, if_pos rfl, hx1], fun z => absurd (hx1.symm.trans z) (by decide), h, cs, R, v.no 1⟩
