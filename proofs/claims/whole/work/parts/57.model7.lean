/-! The model: the normal form. -/
def gbs (s : Bool) : Int := if s = true then 1 else 0
theorem gbf_i {p q : gC} : gbf p q ↔ p.1 < q.1 ∨ (p.1 = q.1 ∧ (p.2.1 < q.2.1 ∨ (p.2.1 = q.2.1 ∧ (p.2.2.1 < q.2.2.1 ∨ (p.2.2.1 = q.2.2.1 ∧ gbs p.2.2.2 < gbs q.2.2.2))))) := by
  have : (p.2.2.2 = false ∧ q.2.2.2 = true) ↔ gbs p.2.2.2 < gbs q.2.2.2 := by cases p.2.2.2 <;> cases q.2.2.2 <;> simp [gbs]
  unfold gbf
  rw [this]
theorem gbf_asym {p q : gC} (h : gbf p q) : ¬ gbf q p := by rw [gbf_i] at *; omega
theorem gle_tr {p q r : gC} (h1 : ¬ gbf q p) (h2 : ¬ gbf r q) : ¬ gbf r p := by rw [gbf_i] at *; omega
def gSrt (l : List gC) : Prop := l.Pairwise (fun p q => ¬ gbf q p)
theorem gSrt_ins {A B : List gC} {x : gC} (h : gSrt (A ++ B)) (hB : ∀ b ∈ B, gbf x b) (hA : ∀ A' a, A = A' ++ [a] → ¬ gbf x a) : gSrt (A ++ x :: B) := by
  unfold gSrt at *
  rw [List.pairwise_append] at *
  obtain ⟨h1, h2, h3⟩ := h
  have hAx : ∀ a ∈ A, ¬ gbf x a := fun a ha => by
    rcases List.eq_nil_or_concat A with z | ⟨A', z, e⟩
    · rw [z] at ha; cases ha
    · rw [List.concat_eq_append] at e
      have hz := hA A' z e
      rw [e] at ha h1
      rcases List.mem_append.mp ha with w | w
      · exact gle_tr ((List.pairwise_append.mp h1).2.2 a w z List.mem_cons_self) hz
      · rw [List.mem_singleton.mp w]; exact hz
  refine ⟨h1, List.pairwise_cons.mpr ⟨fun b hb => gbf_asym (hB b hb), h2⟩, fun a ha b hb => ?_⟩
  rcases List.mem_cons.mp hb with z | z
  · rw [z]; exact hAx a ha
  · exact h3 a ha b z
/-- one that says no more than another may go -/
theorem gBest_drop {L L' : List gC} {m p : gC} (hL : ∀ r, r ∈ L ↔ r = m ∨ r ∈ L') (hp : p ∈ L') (hk : gkeq p m) (hc : p.2.2.1 < m.2.2.1 ∨ (p.2.2.1 = m.2.2.1 ∧ (m.2.2.2 = true → p.2.2.2 = true))) (q : gC) : gBest L q ↔ gBest L' q := by
  unfold gBest
  have kq : gkeq m q → gkeq p q := fun z => ⟨hk.1.trans z.1, hk.2.trans z.2⟩
  constructor
  · rintro ⟨⟨a, ha, a1, a2⟩, b, c⟩
    have mn : ∀ r ∈ L', gkeq r q → q.2.2.1 ≤ r.2.2.1 := fun r hr => b r ((hL r).mpr (Or.inr hr))
    refine ⟨?_, mn, ?_⟩
    · rcases (hL a).mp ha with z | z
      · subst z
        refine ⟨p, hp, kq a1, ?_⟩
        have := mn p hp (kq a1)
        omega
      · exact ⟨a, z, a1, a2⟩
    · rw [c]
      constructor
      · rintro ⟨r, hr, r1, r2, r3⟩
        rcases (hL r).mp hr with z | z
        · subst z
          have := mn p hp (kq r1)
          rcases hc with w | ⟨w1, w2⟩
          · omega
          · exact ⟨p, hp, kq r1, by omega, w2 r3⟩
        · exact ⟨r, z, r1, r2, r3⟩
      · rintro ⟨r, hr, r1⟩; exact ⟨r, (hL r).mpr (Or.inr hr), r1⟩
  · rintro ⟨⟨a, ha, a1, a2⟩, b, c⟩
    refine ⟨⟨a, (hL a).mpr (Or.inr ha), a1, a2⟩, fun r hr r1 => ?_, ?_⟩
    · rcases (hL r).mp hr with z | z
      · subst z
        have := b p hp (kq r1)
        omega
      · exact b r z r1
    · rw [c]
      constructor
      · rintro ⟨r, hr, r1⟩; exact ⟨r, (hL r).mpr (Or.inr hr), r1⟩
      · rintro ⟨r, hr, r1, r2, r3⟩
        rcases (hL r).mp hr with z | z
        · subst z
          have := b p hp (kq r1)
          rcases hc with w | ⟨w1, w2⟩
          · omega
          · exact ⟨p, hp, kq r1, by omega, w2 r3⟩
        · exact ⟨r, z, r1, r2, r3⟩
theorem gBest_perm {L L' : List gC} (h : ∀ r, r ∈ L ↔ r ∈ L') (q : gC) : gBest L q ↔ gBest L' q := by
  have : (fun r => r ∈ L) = (fun r => r ∈ L') := funext (fun r => propext (h r))
  unfold gBest
  simp only [h]
theorem gkeq_ns {l : List gC} (h : l.Pairwise gklt) : ∀ p ∈ l, ∀ q ∈ l, gkeq p q → p = q := by
  induction l with
  | nil => intro p hp; cases hp
  | cons a t ih =>
    obtain ⟨h1, h2⟩ := List.pairwise_cons.mp h
    intro p hp q hq hk
    rcases List.mem_cons.mp hp with z | z <;> rcases List.mem_cons.mp hq with w | w
    · rw [z, w]
    · subst z; exact absurd hk (gklt_ne (h1 q w))
    · subst w; exact absurd ⟨hk.1.symm, hk.2.symm⟩ (gklt_ne (h1 p z))
    · exact ih h2 p z q w hk
theorem gCan_end {N L : List gC} (hp : L.Pairwise gklt) (hb : ∀ q, gBest N q ↔ gBest L q) : gCan N L := by
  refine ⟨hp, fun q => ?_⟩
  rw [hb]
  constructor
  · intro hq
    exact ⟨⟨q, hq, ⟨rfl, rfl⟩, rfl⟩, fun m hm hk => by rw [gkeq_ns hp m hm q hq hk]; exact Int.le_refl _, ⟨fun z => ⟨q, hq, ⟨rfl, rfl⟩, rfl, z⟩, fun ⟨m, hm, hk, _, h3⟩ => by rw [← gkeq_ns hp m hm q hq hk]; exact h3⟩⟩
  · rintro ⟨⟨m, hm, m1, m2⟩, b, c⟩
    have : m = q := by
      refine Prod.ext m1.1 (Prod.ext m1.2 (Prod.ext m2 (Bool.eq_iff_iff.mpr ?_)))
      rw [c]
      constructor
      · intro z; exact ⟨m, hm, m1, m2, z⟩
      · rintro ⟨r, hr, r1, r2, r3⟩
        rw [gkeq_ns hp m hm r hr ⟨m1.1.trans r1.1.symm, m1.2.trans r1.2.symm⟩]; exact r3
    rw [← this]; exact hm
theorem gCan_puts (ms : List gC) : ∀ (ns l : List gC), (∀ m ∈ ms, gnz m) → gCan ns l → ∃ ns', (∀ q, q ∈ ns' ↔ q ∈ ns ∨ q ∈ ms.map gnorm) ∧ gCan ns' (ms.foldl gput l) := by
  induction ms with
  | nil => exact fun ns l _ h => ⟨ns, fun q => by simp, h⟩
  | cons m t ih =>
    intro ns l hz h
    have e : gput l m = gins l (gnorm m) := by unfold gput; rw [if_neg (hz m List.mem_cons_self)]
    obtain ⟨ns', h1, h2⟩ := ih (gnorm m :: ns) (gput l m) (fun q hq => hz q (List.mem_cons_of_mem _ hq)) (by rw [e]; exact gCan_ins h)
    refine ⟨ns', fun q => (h1 q).trans ?_, h2⟩
    simp only [List.mem_cons, List.map_cons]
    constructor
    · rintro ((z | z) | z)
      · exact Or.inr (Or.inl z)
      · exact Or.inl z
      · exact Or.inr (Or.inr z)
    · rintro (z | z | z)
      · exact Or.inl (Or.inr z)
      · exact Or.inl (Or.inl z)
      · exact Or.inr z
theorem gCan_norm {ms L : List gC} (hz : ∀ m ∈ ms, gnz m) (h : gCan (ms.map gnorm) L) : L = ms.foldl gput [] := by
  obtain ⟨ns', h1, h2⟩ := gCan_puts ms [] [] hz gCan_nil
  exact gCan_uniq h (gCan_perm (fun q => (h1 q).trans ⟨fun z => z.resolve_left (fun w => by cases w), Or.inr⟩) h2)
def mOK (ls : List gC) : Prop := (∀ q ∈ ls, gBd 200000000 q) ∧ (∀ q ∈ ls, gnz q) ∧ ((∀ q ∈ ls, gBd 10000 q) ∨ ∀ p ∈ ls, ∀ q ∈ ls, gcr p q = 0)
theorem gcr_fl (p q : gC) : gcr (gflip p) q = -gcr p q := by unfold gcr gflip; simp only; grind
theorem gcr_fr (p q : gC) : gcr p (gflip q) = -gcr p q := by unfold gcr gflip; simp only; grind
theorem gthin_c (dn : List gC) (m : gC) (t : List gC) : gthin dn (m :: t) = if gsb (dn ++ gflip m :: t) = true then gthin (dn ++ [m]) t else gthin dn t := by rw [gthin]
theorem gBd_flip {B : Int} {q : gC} (h : gBd B q) : gBd B (gflip q) := by unfold gBd gflip at *; simp only; omega
theorem mOK_sub {ls l2 : List gC} (h : mOK ls) (hs : ∀ q ∈ l2, ∃ p ∈ ls, q = p ∨ q = gflip p) : mOK l2 := by
  obtain ⟨h1, h2, h3⟩ := h
  refine ⟨fun q hq => ?_, fun q hq => ?_, ?_⟩
  · obtain ⟨p, hp, rfl | rfl⟩ := hs q hq
    · exact h1 _ hp
    · exact gBd_flip (h1 p hp)
  · obtain ⟨p, hp, rfl | rfl⟩ := hs q hq
    · exact h2 _ hp
    · have := h2 p hp; unfold gnz gflip at *; simp only; omega
  · rcases h3 with h3 | h3
    · left
      intro q hq
      obtain ⟨p, hp, rfl | rfl⟩ := hs q hq
      · exact h3 _ hp
      · exact gBd_flip (h3 p hp)
    · right
      intro a ha b hb
      obtain ⟨p, hp, e1⟩ := hs a ha
      obtain ⟨q, hq, e2⟩ := hs b hb
      have := h3 p hp q hq
      rcases e1 with rfl | rfl <;> rcases e2 with rfl | rfl
      · exact this
      · rw [gcr_fr, this]; rfl
      · rw [gcr_fl, this]; rfl
      · rw [gcr_fl, gcr_fr, this]; rfl
theorem gnorm_mul {q : gC} : q.1 = (gg q : Int) * (gnorm q).1 ∧ q.2.1 = (gg q : Int) * (gnorm q).2.1 ∧ q.2.2.1 = (gg q : Int) * (gnorm q).2.2.1 := by
  have d1 : gg q ∣ Nat.gcd q.1.natAbs q.2.1.natAbs := Nat.gcd_dvd_left _ _
  exact ⟨g_tdg _ _ (Nat.dvd_trans d1 (Nat.gcd_dvd_left _ _)), g_tdg _ _ (Nat.dvd_trans d1 (Nat.gcd_dvd_right _ _)), g_tdg _ _ (Nat.gcd_dvd_right _ _)⟩
theorem gBd_norm {B : Int} {q : gC} (h : gBd B q) : gBd B (gnorm q) := by
  have f : ∀ (a : Int), -B ≤ a ∧ a ≤ B → -B ≤ a.tdiv (gg q) ∧ a.tdiv (gg q) ≤ B := fun a ha => by
    have : (a.tdiv (gg q)).natAbs ≤ a.natAbs := by rw [Int.natAbs_tdiv]; exact Nat.div_le_self _ _
    omega
  exact ⟨f _ h.1, f _ h.2.1, f _ h.2.2⟩
theorem mOK_norm {ms : List gC} (h : mOK ms) : mOK (ms.map gnorm) := by
  obtain ⟨h1, h2, h3⟩ := h
  have nz : ∀ q ∈ ms, gnz (gnorm q) := fun q hq z => by
    obtain ⟨e1, e2, -⟩ := gnorm_mul (q := q)
    rw [z.1] at e1; rw [z.2] at e2
    exact h2 q hq ⟨by rw [e1, Int.mul_zero], by rw [e2, Int.mul_zero]⟩
  refine ⟨fun q hq => ?_, fun q hq => ?_, ?_⟩
  · obtain ⟨p, hp, rfl⟩ := List.mem_map.mp hq; exact gBd_norm (h1 p hp)
  · obtain ⟨p, hp, rfl⟩ := List.mem_map.mp hq; exact nz p hp
  · rcases h3 with h3 | h3
    · left; intro q hq; obtain ⟨p, hp, rfl⟩ := List.mem_map.mp hq; exact gBd_norm (h3 p hp)
    · right
      intro a ha b hb
      obtain ⟨p, hp, rfl⟩ := List.mem_map.mp ha
      obtain ⟨q, hq, rfl⟩ := List.mem_map.mp hb
      have hc := h3 p hp q hq
      have g1 := gg_pos (q := p) (h2 p hp)
      have g2 := gg_pos (q := q) (h2 q hq)
      obtain ⟨e1, e2, -⟩ := gnorm_mul (q := p)
      obtain ⟨e3, e4, -⟩ := gnorm_mul (q := q)
      have e : gcr p q = (gg p : Int) * ((gg q : Int) * gcr (gnorm p) (gnorm q)) := by
        show p.1 * q.2.1 - q.1 * p.2.1 = _
        rw [e1, e2, e3, e4]; unfold gcr; grind
      rw [e] at hc
      rcases Int.mul_eq_zero.mp hc with z | z
      · omega
      · rcases Int.mul_eq_zero.mp z with z | z
        · omega
        · exact z
def m3640 (M : zM) : Prop := (zI M 62 36 = 0 ∨ zI M 62 36 = 1) ∧ (zI M 62 39 = 0 ∨ zI M 62 39 = 1)
def nI_ : List Nat := [13, 19, 29, 30, 31, 32, 33, 34, 35, 36, 37, 38, 39]
def mN : Nat → Prop := fun k => k = 62 ∨ (73 ≤ k ∧ k ≤ 80)
theorem mA_N {k : Nat} (h : mA k) : mN k := by unfold mA mN at *; omega
theorem mQ_N {k : Nat} (h : mQ k) : mN k := by unfold mQ mN at *; omega
theorem m62_N {k : Nat} (h : m62 k) : mN k := Or.inl h
theorem m3640_k {I : List Nat} {M M' : zM} (h : m3640 M) (hk : mK I M M') (h1 : 36 ∉ I) (h2 : 39 ∉ I) : m3640 M' := ⟨by rw [(hk 36 h1).1]; exact h.1, by rw [(hk 39 h2).1]; exact h.2⟩
theorem zbo_N {M M' : zM} (hf : zfr mA M M') (h : zbo M 76) : zbo M' 76 := zfr_bo (d := 76) hf (mA_n (by decide)) h
theorem zput4_dg76 {M : zM} {t j : Nat} {a b c : Int64} {s : Int32} : dg (zput4 M 76 t a b c s) 76 j = if j = t then (a.toInt, b.toInt, c.toInt, s == 1) else dg M 76 j := zput4_dg

set_option maxRecDepth 100000 in
set_option maxHeartbeats 4000000 in
theorem cM_thin_ (l : Launch) {ls : List gC} (M : zM) (hH : mH M ls) (hok : mOK ls) (hb0 : zbo M 76) (hs0 : m3640 M) : zMet l mM_thin rM_thin [.ref 62] M (zqv (fun M' => mH M' (gthin [] ls) ∧ zbo M' 76 ∧ m3640 M' ∧ mK nI_ M M' ∧ zfr mN M M')) := by
  refine za_enter (by decide) (Nat.le_of_ble_eq_true rfl) (fun X hc => ?_)
  have a77 := ar_77
  have a78 := ar_78
  have a79 := ar_79
  have a80 := ar_80
  have a73 := ar_73
  have a74 := ar_74
  have a75 := ar_75
  have a76 := ar_76
  have loop : ∀ (t dn : List gC) (M1 : zM), gthin dn t = gthin [] ls → mH M1 (dn ++ t) → mOK (dn ++ t) → zbo M1 76 → m3640 M1 → mK nI_ M M1 → zfr mN M M1 → zW X (zqv (fun M' => mH M' (gthin [] ls) ∧ zbo M' 76 ∧ m3640 M' ∧ mK nI_ M M' ∧ zfr mN M M')) (0, 0) 2 [(0, .ref 62), (1, .int (nI dn.length))] [] M1 := by
    intro t
    induction t with
    | nil =>
      intro dn M1 hg hm hok hb hs hk hf
      rw [List.append_nil] at hm
      have hml := hm.2.1
      refine za_iload_n hc dM_thin_2 rfl ?_
      refine za_aload_n hc dM_thin_3 rfl ?_
      refine za_getI hc gfM_70 zob_62 dM_thin_4 ?_
      rw [hm.1]
      refine za_icmp_ge 94 hc dM_thin_7 rfl (fun h_7 => ?_) (fun h_7 => ?_)
      · skip
        exact za_vret hc rfl dM_thin_94 ⟨Nat.zero_le _, Nat.zero_le _⟩ (⟨rfl, by rw [← hg]; exact hm, hb, hs, hk, hf⟩)
      · skip
        exact absurd (Int32.le_refl _) h_7
    | cons m t ih =>
      intro dn M1 hg hm hok hb hs hk hf
      have hml := hm.2.1
      rw [List.length_append, List.length_cons] at hml
      have hri : (dn ++ m :: t)[dn.length]? = some m := by rw [List.getElem?_append_right (Nat.le_refl _), Nat.sub_self]; rfl
      have bm := hok.1 m (List.mem_append_right _ List.mem_cons_self)
      have FIN : ∀ (M2 : zM), qH M2 (dn ++ gflip m :: t) → mH M2 (dn ++ m :: t) → mK nI_ M M2 → zfr mN M M2 → m3640 M2 → zbo M2 76 → mOK (dn ++ gflip m :: t) → zW X (zqv (fun M' => mH M' (gthin [] ls) ∧ zbo M' 76 ∧ m3640 M' ∧ mK nI_ M M' ∧ zfr mN M M')) (0, 0) 73 [(0, .ref 62), (1, .int (nI dn.length))] [] M2 := by
        intro M2 hq3 hm3 hk3 hf3 hs3 hb3 hok3
        refine za_aload_n hc dM_thin_73 rfl ?_
        refine za_cV0i hc gsM_175 zob_62 (cM_hasPoints_ l M2 hq3 hok3.1 hok3.2.1 hok3.2.2 hs3.1 hs3.2) ⟨rfl, rfl⟩ ⟨Nat.le_of_ble_eq_true rfl, Nat.le_of_ble_eq_true rfl⟩ ⟨Nat.zero_le _, Nat.zero_le _⟩ dM_thin_74 (fun x_74 M_74 h_74 => ?_)
        obtain ⟨w0, w1, w2, w3, w4⟩ := h_74
        have hm4 : mH M_74 (dn ++ m :: t) := mH_62 hm3 w4 (w3 13 (by decide)).1
        have hb4 : zbo M_74 76 := zfr_bo (d := 76) w4 (by unfold m62; decide) hb3
        have hk4 := hk3.tr (w3.wk (by decide))
        have hf4 := hf3.tr (w4.wk (fun k z => m62_N z))
        refine za_if_eq 86 hc dM_thin_77 rfl (fun h_77 => ?_) (fun h_77 => ?_)
        · skip
          have hno : gsb (dn ++ gflip m :: t) = false := by
            cases e : gsb (dn ++ gflip m :: t)
            · rfl
            · exact absurd (w1.mpr (gsb_iff.mp e)) (by rw [h_77]; decide)
          rw [gthin_c, hno, if_neg (by decide)] at hg
          refine za_aload_n hc dM_thin_86 rfl ?_
          refine za_iload_n hc dM_thin_87 rfl ?_
          refine za_cV1v hc gsM_168 zob_62 (cM_remove_ l M_74 hm4) ⟨rfl, rfl⟩ ⟨Nat.le_of_ble_eq_true rfl, Nat.le_of_ble_eq_true rfl⟩ ⟨Nat.zero_le _, Nat.zero_le _⟩ dM_thin_88 (fun M_88 h_88 => ?_)
          obtain ⟨v1, v2, v3⟩ := h_88
          refine za_goto 2 hc dM_thin_91 rfl ?_
          refine ih dn M_88 hg v1 (mOK_sub hok (fun q hq => ?_)) (zbo_N v3 hb4) (m3640_k w2 v2 (by decide) (by decide)) (hk4.tr (v2.wk (by decide))) (hf4.tr (v3.wk (fun k z => mA_N z)))
          rcases List.mem_append.mp hq with z | z
          · exact ⟨q, List.mem_append_left _ z, Or.inl rfl⟩
          · exact ⟨q, List.mem_append_right _ (List.mem_cons_of_mem _ z), Or.inl rfl⟩
        · skip
          have hye : gsb (dn ++ gflip m :: t) = true := gsb_iff.mpr (w1.mp (w0.resolve_left h_77))
          rw [gthin_c, if_pos hye] at hg
          refine za_iinc hc _ dM_thin_80 rfl ((nI_succ dn.length).symm) (by decide) ?_
          refine za_goto 2 hc dM_thin_83 rfl ?_
          have e1 : (dn ++ [m]).length = dn.length + 1 := by simp
          rw [← e1]
          exact ih (dn ++ [m]) M_74 hg (by rw [List.append_assoc]; exact hm4) (by rw [List.append_assoc]; exact hok) hb4 w2 hk4 hf4
      refine za_iload_n hc dM_thin_2 rfl ?_
      refine za_aload_n hc dM_thin_3 rfl ?_
      refine za_getI hc gfM_70 zob_62 dM_thin_4 ?_
      rw [hm.1, List.length_append, List.length_cons]
      refine za_icmp_ge 94 hc dM_thin_7 rfl (fun h_7 => ?_) (fun h_7 => ?_)
      · skip
        exact absurd ((nI_leI (by omega) (by omega)).mp h_7) (by omega)
      · skip
        refine za_aload_n hc dM_thin_10 rfl ?_
        refine za_cV0v hc gsM_172 zob_62 (cM_ask_ l M1 hm hb) ⟨rfl, rfl⟩ ⟨Nat.le_of_ble_eq_true rfl, Nat.le_of_ble_eq_true rfl⟩ ⟨Nat.zero_le _, Nat.zero_le _⟩ dM_thin_11 (fun M_11 h_11 => ?_)
        obtain ⟨a1, a2, a3, a4⟩ := h_11
        have dk := a2.2.2.1 dn.length m hri
        have b1 : -200000000 ≤ (zJ M_11 73 dn.length).toInt ∧ (zJ M_11 73 dn.length).toInt ≤ 200000000 := by have := bm.1; rw [← dk] at this; exact this
        have b2 : -200000000 ≤ (zJ M_11 74 dn.length).toInt ∧ (zJ M_11 74 dn.length).toInt ≤ 200000000 := by have := bm.2.1; rw [← dk] at this; exact this
        have b3 : -200000000 ≤ (zJ M_11 75 dn.length).toInt ∧ (zJ M_11 75 dn.length).toInt ≤ 200000000 := by have := bm.2.2; rw [← dk] at this; exact this
        have hk2 : mK nI_ M M_11 := hk.tr (a3.wk (by decide))
        have hf2 : zfr mN M M_11 := hf.tr (a4.wk (fun k z => mQ_N z))
        refine za_aload_n hc dM_thin_14 rfl ?_
        refine za_getA hc gfM_54 zob_62 (p := 77) rfl dM_thin_15 ?_
        refine za_iload_n hc dM_thin_18 rfl ?_
        refine za_aload_n hc dM_thin_19 rfl ?_
        refine za_getA hc gfM_41 zob_62 (p := 73) rfl dM_thin_20 ?_
        refine za_iload_n hc dM_thin_23 rfl ?_
        refine zm_lald hc (by assumption) dM_thin_24 (by omega) (by decide) ?_
        refine za_lneg hc dM_thin_25 ?_
        refine zm_last hc (by assumption) dM_thin_26 (by omega) (by decide) ?_
        refine za_aload_n hc dM_thin_27 rfl ?_
        refine za_getA hc gfM_57 zob_62 (p := 78) rfl dM_thin_28 ?_
        refine za_iload_n hc dM_thin_31 rfl ?_
        refine za_aload_n hc dM_thin_32 rfl ?_
        refine za_getA hc gfM_45 zob_62 (p := 74) rfl dM_thin_33 ?_
        refine za_iload_n hc dM_thin_36 rfl ?_
        refine zm_lald hc (by assumption) dM_thin_37 (by omega) (by decide) ?_
        rw [zJ_o (by decide)]
        refine za_lneg hc dM_thin_38 ?_
        refine zm_last hc (by assumption) dM_thin_39 (by omega) (by decide) ?_
        refine za_aload_n hc dM_thin_40 rfl ?_
        refine za_getA hc gfM_60 zob_62 (p := 79) rfl dM_thin_41 ?_
        refine za_iload_n hc dM_thin_44 rfl ?_
        refine za_aload_n hc dM_thin_45 rfl ?_
        refine za_getA hc gfM_48 zob_62 (p := 75) rfl dM_thin_46 ?_
        refine za_iload_n hc dM_thin_49 rfl ?_
        refine zm_lald hc (by assumption) dM_thin_50 (by omega) (by decide) ?_
        rw [zJ_o (by decide), zJ_o (by decide)]
        refine za_lneg hc dM_thin_51 ?_
        refine zm_last hc (by assumption) dM_thin_52 (by omega) (by decide) ?_
        refine za_aload_n hc dM_thin_53 rfl ?_
        refine za_getA hc gfM_63 zob_62 (p := 80) rfl dM_thin_54 ?_
        refine za_iload_n hc dM_thin_57 rfl ?_
        refine za_aload_n hc dM_thin_58 rfl ?_
        refine za_getA hc gfM_51 zob_62 (p := 76) rfl dM_thin_59 ?_
        refine za_iload_n hc dM_thin_62 rfl ?_
        refine zm_zald hc (by assumption) dM_thin_63 (by omega) (by decide) ?_
        rw [zI_sJ, zI_sJ, zI_sJ]
        refine za_if_ne 71 hc dM_thin_64 rfl (fun h_64 => ?_) (fun h_64 => ?_)
        · skip
          have sp : (zI M_11 76 dn.length == 1) = true := by rw [(a2.2.2.2 dn.length).resolve_left h_64]; rfl
          refine za_iconst hc 0 dM_thin_71 rfl ?_
          refine zm_zast hc (by assumption) dM_thin_72 (by omega) (by decide) (by first | exact Or.inl rfl | exact Or.inr rfl) ?_
          have hq3 : qH (zput4 M_11 76 dn.length (-(zJ M_11 73 dn.length)) (-(zJ M_11 74 dn.length)) (-(zJ M_11 75 dn.length)) 0) (dn ++ gflip m :: t) := by
            refine ⟨?_, ?_, fun j q hq => ?_, zput4_bo a1.2.2.2 (by decide)⟩
            · refine Eq.trans (show _ = zI M_11 62 19 from rfl) (a1.1.trans ?_)
              simp
            · rw [List.length_append, List.length_cons]; exact hml
            · refine (zput4_dg76).trans ?_
              by_cases c : j = dn.length
              · rw [if_pos c]
                rw [c, List.getElem?_append_right (Nat.le_refl _), Nat.sub_self] at hq
                rw [← Option.some.inj hq, ← dk, l_neg (by omega), l_neg (by omega), l_neg (by omega)]
                show (_, _, _, _) = (_, _, _, !(zI M_11 76 dn.length == 1))
                rw [sp]; rfl
              · rw [if_neg c]
                refine a1.2.2.1 j q ?_
                by_cases c2 : j < dn.length
                · rw [List.getElem?_append_left c2] at hq ⊢; exact hq
                · rw [List.getElem?_append_right (by omega)] at hq ⊢
                  obtain ⟨n, hn⟩ : ∃ n, j - dn.length = n + 1 := ⟨j - dn.length - 1, by omega⟩
                  rw [hn] at hq ⊢; exact hq
          have hm3 : mH (zput4 M_11 76 dn.length (-(zJ M_11 73 dn.length)) (-(zJ M_11 74 dn.length)) (-(zJ M_11 75 dn.length)) 0) (dn ++ m :: t) := mH_kept a2 zp4_fQ (by rfl) (mQ_n (by decide)) (mQ_n (by decide)) (mQ_n (by decide)) (mQ_n (by decide))
          have hk3 : mK nI_ M (zput4 M_11 76 dn.length (-(zJ M_11 73 dn.length)) (-(zJ M_11 74 dn.length)) (-(zJ M_11 75 dn.length)) 0) := hk2.tr (mK_fr zput4_fr (by unfold dA; omega))
          have hf3 : zfr mN M (zput4 M_11 76 dn.length (-(zJ M_11 73 dn.length)) (-(zJ M_11 74 dn.length)) (-(zJ M_11 75 dn.length)) 0) := hf2.tr (zp4_fQ.wk (fun k z => mQ_N z))
          have hs3 : m3640 (zput4 M_11 76 dn.length (-(zJ M_11 73 dn.length)) (-(zJ M_11 74 dn.length)) (-(zJ M_11 75 dn.length)) 0) := m3640_k hs (a3.tr (mK_fr zput4_fr (by unfold dA; omega))) (by decide) (by decide)
          have hb3 : zbo (zput4 M_11 76 dn.length (-(zJ M_11 73 dn.length)) (-(zJ M_11 74 dn.length)) (-(zJ M_11 75 dn.length)) 0) 76 := zput4_bo a1.2.2.2 (by decide)
          have hok3 : mOK (dn ++ gflip m :: t) := mOK_sub hok (fun q hq => by
            rcases List.mem_append.mp hq with z | z
            · exact ⟨q, List.mem_append_left _ z, Or.inl rfl⟩
            · rcases List.mem_cons.mp z with z | z
              · exact ⟨m, List.mem_append_right _ List.mem_cons_self, Or.inr z⟩
              · exact ⟨q, List.mem_append_right _ (List.mem_cons_of_mem _ z), Or.inl rfl⟩)
          exact FIN _ hq3 hm3 hk3 hf3 hs3 hb3 hok3
        · skip
          have sp : (zI M_11 76 dn.length == 1) = false := by rw [h_64]; rfl
          refine za_iconst hc 1 dM_thin_67 rfl ?_
          refine za_goto 72 hc dM_thin_68 rfl ?_
          refine zm_zast hc (by assumption) dM_thin_72 (by omega) (by decide) (by first | exact Or.inl rfl | exact Or.inr rfl) ?_
          have hq3 : qH (zput4 M_11 76 dn.length (-(zJ M_11 73 dn.length)) (-(zJ M_11 74 dn.length)) (-(zJ M_11 75 dn.length)) 1) (dn ++ gflip m :: t) := by
            refine ⟨?_, ?_, fun j q hq => ?_, zput4_bo a1.2.2.2 (by decide)⟩
            · refine Eq.trans (show _ = zI M_11 62 19 from rfl) (a1.1.trans ?_)
              simp
            · rw [List.length_append, List.length_cons]; exact hml
            · refine (zput4_dg76).trans ?_
              by_cases c : j = dn.length
              · rw [if_pos c]
                rw [c, List.getElem?_append_right (Nat.le_refl _), Nat.sub_self] at hq
                rw [← Option.some.inj hq, ← dk, l_neg (by omega), l_neg (by omega), l_neg (by omega)]
                show (_, _, _, _) = (_, _, _, !(zI M_11 76 dn.length == 1))
                rw [sp]; rfl
              · rw [if_neg c]
                refine a1.2.2.1 j q ?_
                by_cases c2 : j < dn.length
                · rw [List.getElem?_append_left c2] at hq ⊢; exact hq
                · rw [List.getElem?_append_right (by omega)] at hq ⊢
                  obtain ⟨n, hn⟩ : ∃ n, j - dn.length = n + 1 := ⟨j - dn.length - 1, by omega⟩
                  rw [hn] at hq ⊢; exact hq
          have hm3 : mH (zput4 M_11 76 dn.length (-(zJ M_11 73 dn.length)) (-(zJ M_11 74 dn.length)) (-(zJ M_11 75 dn.length)) 1) (dn ++ m :: t) := mH_kept a2 zp4_fQ (by rfl) (mQ_n (by decide)) (mQ_n (by decide)) (mQ_n (by decide)) (mQ_n (by decide))
          have hk3 : mK nI_ M (zput4 M_11 76 dn.length (-(zJ M_11 73 dn.length)) (-(zJ M_11 74 dn.length)) (-(zJ M_11 75 dn.length)) 1) := hk2.tr (mK_fr zput4_fr (by unfold dA; omega))
          have hf3 : zfr mN M (zput4 M_11 76 dn.length (-(zJ M_11 73 dn.length)) (-(zJ M_11 74 dn.length)) (-(zJ M_11 75 dn.length)) 1) := hf2.tr (zp4_fQ.wk (fun k z => mQ_N z))
          have hs3 : m3640 (zput4 M_11 76 dn.length (-(zJ M_11 73 dn.length)) (-(zJ M_11 74 dn.length)) (-(zJ M_11 75 dn.length)) 1) := m3640_k hs (a3.tr (mK_fr zput4_fr (by unfold dA; omega))) (by decide) (by decide)
          have hb3 : zbo (zput4 M_11 76 dn.length (-(zJ M_11 73 dn.length)) (-(zJ M_11 74 dn.length)) (-(zJ M_11 75 dn.length)) 1) 76 := zput4_bo a1.2.2.2 (by decide)
          have hok3 : mOK (dn ++ gflip m :: t) := mOK_sub hok (fun q hq => by
            rcases List.mem_append.mp hq with z | z
            · exact ⟨q, List.mem_append_left _ z, Or.inl rfl⟩
            · rcases List.mem_cons.mp z with z | z
              · exact ⟨m, List.mem_append_right _ List.mem_cons_self, Or.inr z⟩
              · exact ⟨q, List.mem_append_right _ (List.mem_cons_of_mem _ z), Or.inl rfl⟩)
          exact FIN _ hq3 hm3 hk3 hf3 hs3 hb3 hok3
  refine za_iconst hc 0 dM_thin_0 rfl ?_
  refine za_istore_n hc dM_thin_1 (by decide) ?_
  exact loop ls [] M rfl hH hok hb0 hs0 mK.rf zfr.rf
