/-! What holds of both sides between two calls of a script. -/
def uR (R : Nat → List (List gC)) (i : Nat) (A : List (List gC)) : Nat → List (List gC) := fun j => if j = i then A else R j
theorem uR_1 {R : Nat → List (List gC)} {i : Nat} {A : List (List gC)} : uR R i A i = A := if_pos rfl
theorem uR_2 {R : Nat → List (List gC)} {i j : Nat} {A : List (List gC)} (h : j ≠ i) : uR R i A j = R j := if_neg h
/-- the class: h regions on the pile, cs collected, the regions R -/
def zVK (M : zM) (h : Nat) (cs : List gC) (R : Nat → List (List gC)) : Prop := h ≤ 6 ∧ zI M 0 5 = nI h ∧ zI M 0 6 = nI cs.length ∧ dH M 3 (cs.foldl gput []) ∧ sB M 8 ∧ wI M ∧ iZ M ∧ (∀ i, i < h → rH M (32 + 3 * i) (R i)) ∧ ∀ i, i < 4 → rH M (50 + 3 * i) (R (6 + i))
/-- the reference -/
def zVM (M : zM) (h : Nat) (cs : List gC) (R : Nat → List (List gC)) : Prop := h ≤ 6 ∧ zI M 62 7 = nI h ∧ cH M cs ∧ sF [] M M ∧ (∀ i, i < h → sH M i (R i)) ∧ ∀ i, i < 4 → sH M (6 + i) (R (6 + i))
/-- rows are good where they are used -/
def zVG (h : Nat) (R : Nat → List (List gC)) : Prop := (∀ i, i < h → gGd (R i)) ∧ ∀ i, i < 4 → gGd (R (6 + i))
/-- what least has told -/
def zVT (M : zM) : Prop := (zI M 62 28 = 0 ∧ zJ M 31 0 = 0 ∧ zJ M 31 1 = 0) ∨ (zI M 62 28 = 1 ∧ zJ M 31 0 = zJ M 62 26 ∧ zJ M 31 1 = zJ M 62 27)
def zV (M : zM) (h : Nat) (cs : List gC) (R : Nat → List (List gC)) : Prop := zVK M h cs R ∧ zVM M h cs R ∧ zVG h R ∧ zVT M
/-- places of the reference; all else; the class's own and what the law holds -/
def oF : Nat → Prop := fun k => 62 ≤ k
def cF : Nat → Prop := fun k => k < 62 ∨ k = 81
theorem iZ_f {P : Nat → Prop} {M M' : zM} (h : iZ M) (hf : zfr P M M') (hn : ¬ P 31) : iZ M' := by unfold iZ; rw [(hf 31 hn).1]; exact h
theorem zVK.of {P : Nat → Prop} {M M' : zM} {h h' : Nat} {cs : List gC} {R R' : Nat → List (List gC)} (v : zVK M h cs R) (hf : zfr P M M') (hd : ∀ k, 3 ≤ k → k ≤ 11 → ¬ P k) (h31 : ¬ P 31) (hh : h' ≤ 6) (h5 : zI M' 0 5 = nI h') (h6 : zI M' 0 6 = zI M 0 6) (hw : wI M') (hreg : ∀ i, i < h' → rH M' (32 + 3 * i) (R' i)) (htab : ∀ i, i < 4 → rH M' (50 + 3 * i) (R' (6 + i))) : zVK M' h' cs R' := by
  obtain ⟨a0, a1, a2, a3, a4, a5, a6, a7, a8⟩ := v
  exact ⟨hh, h5, h6.trans a2, dH_kept a3 hf (hd _ (by decide) (by decide)) (hd _ (by decide) (by decide)) (hd _ (by decide) (by decide)) (hd _ (by decide) (by decide)) (hd _ (by decide) (by decide)), sB_kept a4 hf (hd _ (by decide) (by decide)) (hd _ (by decide) (by decide)) (hd _ (by decide) (by decide)), hw, iZ_f a6 hf h31, hreg, htab⟩
theorem zVK.st {P : Nat → Prop} {M M' : zM} {h i : Nat} {cs : List gC} {R : Nat → List (List gC)} (v : zVK M h cs R) (hf : zfr P M M') (hi : i < h) (hn : ∀ b, b ≤ 2 → ¬ P (32 + 3 * i + b)) : rH M' (32 + 3 * i) (R i) := rH_kept (v.2.2.2.2.2.2.2.1 i hi) hf (hn 0 (by decide)) (hn 1 (by decide)) (hn 2 (by decide))
theorem zVK.tb {P : Nat → Prop} {M M' : zM} {h i : Nat} {cs : List gC} {R : Nat → List (List gC)} (v : zVK M h cs R) (hf : zfr P M M') (hi : i < 4) (hn : ∀ b, b ≤ 2 → ¬ P (50 + 3 * i + b)) : rH M' (50 + 3 * i) (R (6 + i)) := rH_kept (v.2.2.2.2.2.2.2.2 i hi) hf (hn 0 (by decide)) (hn 1 (by decide)) (hn 2 (by decide))
theorem zVK.fr {P : Nat → Prop} {M M' : zM} {h : Nat} {cs : List gC} {R : Nat → List (List gC)} (v : zVK M h cs R) (hf : zfr P M M') (hn : ∀ k, k < 62 → ¬ P k) : zVK M' h cs R := by
  have hh := v.1
  exact v.of hf (fun k _ h => hn k (by omega)) (hn _ (by decide)) hh (by rw [(hf 0 (hn 0 (by decide))).1]; exact v.2.1) (by rw [(hf 0 (hn 0 (by decide))).1]) (wI_f v.2.2.2.2.2.1 hf (fun k h => hn k (by have := h.2; omega))) (fun i hi => v.st hf hi (fun b hb => hn _ (by omega))) (fun i hi => v.tb hf hi (fun b hb => hn _ (by omega)))
theorem cH_f {P : Nat → Prop} {M M' : zM} {cs : List gC} (v : cH M cs) (hf : zfr P M M') (hn : ∀ k, 69 ≤ k → k ≤ 72 → ¬ P k) (h8 : zI M' 62 8 = zI M 62 8) : cH M' cs := by
  obtain ⟨a1, a2, a3, a4, a5⟩ := v
  refine ⟨h8.trans a1, a2, fun j q hq => ?_, a4, fun j => by rw [(hf 72 (hn _ (by decide) (by decide))).1]; exact a5 j⟩
  rw [← a3 j q hq]
  unfold cg
  rw [(hf 69 (hn _ (by decide) (by decide))).1, (hf 70 (hn _ (by decide) (by decide))).1, (hf 71 (hn _ (by decide) (by decide))).1, (hf 72 (hn _ (by decide) (by decide))).1]
theorem sH_f {P : Nat → Prop} {M M' : zM} {r : Nat} {A : List (List gC)} (h : sH M r A) (hf : zfr P M M') (hn : ∀ k, 63 ≤ k → k ≤ 68 → ¬ P k) : sH M' r A := sH_k (I := []) h (sK_fr hf hn) (by simp)
theorem sF_f {P : Nat → Prop} {M M' : zM} (v : sF [] M M) (hf : zfr P M M') (hn : ∀ k, 62 ≤ k → k ≤ 80 → ¬ P k) : sF [] M' M' := ⟨zfr_bo (d := 76) hf (hn _ (by decide) (by decide)) v.1, zfr_bo (d := 72) hf (hn _ (by decide) (by decide)) v.2.1, sbo_fr v.2.2.1 hf (hn _ (by decide) (by decide)), by unfold m3640; rw [(hf 62 (hn _ (by decide) (by decide))).1]; exact v.2.2.2.1, mK.rf, sK.rf, zfr.rf⟩
theorem zVM.fr {P : Nat → Prop} {M M' : zM} {h : Nat} {cs : List gC} {R : Nat → List (List gC)} (v : zVM M h cs R) (hf : zfr P M M') (hn : ∀ k, 62 ≤ k → k ≤ 80 → ¬ P k) : zVM M' h cs R := by
  obtain ⟨a0, a1, a2, a3, a4, a5⟩ := v
  have e : zI M' 62 = zI M 62 := (hf 62 (hn _ (by decide) (by decide))).1
  exact ⟨a0, by rw [e]; exact a1, cH_f a2 hf (fun k h1 h2 => hn k (by omega) (by omega)) (by rw [e]), sF_f a3 hf hn, fun i hi => sH_f (a4 i hi) hf (fun k h1 h2 => hn k (by omega) (by omega)), fun i hi => sH_f (a5 i hi) hf (fun k h1 h2 => hn k (by omega) (by omega))⟩
theorem zVT.fr {P : Nat → Prop} {M M' : zM} (v : zVT M) (hf : zfr P M M') (h31 : ¬ P 31) (h62 : ¬ P 62) : zVT M' := by unfold zVT; rw [(hf 62 h62).1, (hf 62 h62).2.1, (hf 31 h31).2.1]; exact v
theorem mP_o {k : Nat} (h : mP k) : 62 ≤ k ∧ k ≤ 80 := by unfold mP at h; omega
theorem zVM.g {I : List Nat} {M M' : zM} {h h' : Nat} {cs : List gC} {R R' : Nat → List (List gC)} (v : zVM M h cs R) (hG : sG I M M') (hh : h' ≤ 6) (hp : zI M' 62 7 = nI h') (hr : ∀ i, i < h' → sH M' i (R' i)) (ht : ∀ i, i < 4 → sH M' (6 + i) (R' (6 + i))) : zVM M' h' cs R' :=
  ⟨hh, hp, cH_f v.2.2.1 hG.2.2.2.2.2.2 (fun k h1 h2 z => by unfold mP at z; omega) (hG.2.2.2.2.1 8 (by decide)).1, hG.here, hr, ht⟩
theorem zVM.st {I : List Nat} {M M' : zM} {h i : Nat} {cs : List gC} {R : Nat → List (List gC)} (v : zVM M h cs R) (hG : sG I M M') (hi : i < h) (hn : i ∉ I) : sH M' i (R i) := sH_k (v.2.2.2.2.1 i hi) hG.2.2.2.2.2.1 hn
theorem zVM.tb {I : List Nat} {M M' : zM} {h i : Nat} {cs : List gC} {R : Nat → List (List gC)} (v : zVM M h cs R) (hG : sG I M M') (hi : i < 4) (hn : 6 + i ∉ I) : sH M' (6 + i) (R (6 + i)) := sH_k (v.2.2.2.2.2 i hi) hG.2.2.2.2.2.1 hn
theorem zVM.same {I : List Nat} {M M' : zM} {h : Nat} {cs : List gC} {R : Nat → List (List gC)} (v : zVM M h cs R) (hG : sG I M M') (hp : zI M' 62 7 = nI h) (hI : ∀ i, i ∈ I → 10 ≤ i) : zVM M' h cs R := by
  have hh := v.1
  exact v.g hG hh hp (fun i hi => v.st hG hi (fun z => by have := hI i z; omega)) (fun i hi => v.tb hG hi (fun z => by have := hI _ z; omega))
theorem zVM.s0 {M : zM} {h : Nat} {cs : List gC} {R : Nat → List (List gC)} (v : zVM M h cs R) (c : Int32) : sG [] M (zsI M 62 0 c) := (v.2.2.2.1.g).set (j := 0) (by decide) (by decide) (by decide)
theorem zVT.g {I : List Nat} {M M' : zM} (v : zVT M) (hG : sG I M M') : zVT M' := by
  unfold zVT
  rw [(hG.2.2.2.2.1 28 (by decide)).1, (hG.2.2.2.2.1 26 (by decide)).2, (hG.2.2.2.2.1 27 (by decide)).2, (hG.2.2.2.2.2.2 31 (fun z => by have := mP_o z; omega)).2.1]; exact v
/-- the reference refused the call: only its number of the refusal is written -/
theorem zV.no {M : zM} {h : Nat} {cs : List gC} {R : Nat → List (List gC)} (v : zV M h cs R) (c : Int32) : zV (zsI M 62 0 c) h cs R :=
  ⟨v.1.fr (zfr_sI (P := m62) rfl) (fun k hk z => by unfold m62 at z; omega), v.2.1.same (v.2.1.s0 c) (by rw [zI_s, if_neg (by decide)]; exact v.2.1.2.1) (by simp), v.2.2.1, v.2.2.2.g (v.2.1.s0 c)⟩
theorem zV.out {M : zM} {h : Nat} {cs : List gC} {R : Nat → List (List gC)} {x : Int64} (v : zV M h cs R) : zV (zsJ M 81 0 x) h cs R :=
  ⟨v.1.fr (zfr_sJ (P := fun k => k = 81) rfl) (fun k hk z => by omega), v.2.1.fr (zfr_sJ (P := fun k => k = 81) rfl) (fun k h1 h2 z => by omega), v.2.2.1, v.2.2.2.fr (zfr_sJ (P := fun k => k = 81) rfl) (by decide) (by decide)⟩
theorem zcod_0 (a : Nat) (l : List Nat) : zcod (a :: l) a = 1 := by unfold zcod; rw [List.findIdx_cons]; simp; rfl
