/-! A member is laid into a draft. -/
theorem gins_lt {q m : gC} {l : List gC} (h : gklt q m) : gins (q :: l) m = q :: gins l m := if_pos h
theorem gins_eq {q m : gC} {l : List gC} (h : gkeq q m) : gins (q :: l) m = gstr q m :: l := (if_neg (fun z => gklt_ne z h)).trans (if_pos h)
theorem gins_gt {q m : gC} {l : List gC} (h : ¬ gklt q m) (h' : ¬ gkeq q m) : gins (q :: l) m = m :: q :: l := (if_neg h).trans (if_neg h')
theorem gins_set : ∀ (ls : List gC) (p : Nat) (q m : gC), (∀ j k, j < p → ls[j]? = some k → gklt k m) → ls[p]? = some q → gkeq q m → gins ls m = ls.set p (gstr q m) := by
  intro ls
  induction ls with
  | nil => intro p q m _ h _; simp at h
  | cons a t ih =>
    intro p q m hlt hq hk
    cases p with
    | zero =>
      have : a = q := by simpa using hq
      subst this
      rw [gins_eq hk]
      rfl
    | succ p =>
      rw [gins_lt (hlt 0 a (by omega) rfl), ih p q m (fun j k hj hk => hlt (j + 1) k (by omega) (by simpa using hk)) (by simpa using hq) hk]
      rfl
theorem gins_at : ∀ (ls : List gC) (p : Nat) (m : gC), p ≤ ls.length → (∀ j k, j < p → ls[j]? = some k → gklt k m) → (∀ q, ls[p]? = some q → ¬ gklt q m ∧ ¬ gkeq q m) → gins ls m = ls.insertIdx p m := by
  intro ls
  induction ls with
  | nil =>
    intro p m hp _ _
    have : p = 0 := by simpa using hp
    subst this
    rfl
  | cons a t ih =>
    intro p m hp hlt hq
    cases p with
    | zero =>
      obtain ⟨h1, h2⟩ := hq a rfl
      rw [gins_gt h1 h2]
      rfl
    | succ p =>
      rw [gins_lt (hlt 0 a (by omega) rfl), ih p m (by simpa using hp) (fun j k hj hk => hlt (j + 1) k (by omega) (by simpa using hk)) (fun q h => hq q (by simpa using h))]
      rfl
theorem cD_strengthen_ (l : Launch) {d j : Nat} (M : zM) (c : Int64) (s : Int32) (x y : Int) (hd : zdr d) (hj : j < 36) (hb : zbo M d) (hs : s = 0 ∨ s = 1) : zMet l mD_strengthen rD_strengthen [.ref d, .int (nI j), .long c, .int s] M (zqv (fun M' => (∀ i, dg M' d i = if i = j then gstr (dg M d j) (x, y, c.toInt, s == 1) else dg M d i) ∧ zbo M' d ∧ zfr (dA d) M M')) :=
  zMet_mono (fun r M' h => by
    obtain ⟨h0, h⟩ := h
    refine ⟨h0, ?_⟩
    have hs1 : (s == 1) = true ↔ s = 1 := by simp
    by_cases c1 : c.toInt < (zJ M (d + 3) j).toInt
    · rw [if_pos c1] at h
      subst h
      refine ⟨fun i => ?_, fun i => ?_, (zfr_sJ ⟨by omega, by omega⟩).tr (zfr_sI ⟨by omega, by omega⟩)⟩
      · unfold dg gstr
        rw [zJ_sI, zJ_o (by omega), zJ_o (by omega), zJ_s, zI_s, zI_sJ]
        by_cases hi : i = j
        · subst hi
          simp only [if_true]
          rw [if_pos c1]
        · simp only [if_neg hi]
      · rw [zI_s, zI_sJ]; split
        · exact hs
        · exact hb i
    · rw [if_neg c1] at h
      by_cases c2 : c.toInt = (zJ M (d + 3) j).toInt ∧ s = 1
      · rw [if_pos c2] at h
        subst h
        refine ⟨fun i => ?_, fun i => ?_, zfr_sI ⟨by omega, by omega⟩⟩
        · unfold dg gstr
          rw [zJ_sI, zI_s]
          by_cases hi : i = j
          · subst hi
            simp only [if_true]
            rw [if_neg c1, if_pos ⟨c2.1, hs1.mpr c2.2⟩]
            rfl
          · simp only [if_neg hi]
        · rw [zI_s]; split
          · exact Or.inr rfl
          · exact hb i
      · rw [if_neg c2] at h
        subst h
        refine ⟨fun i => ?_, hb, zfr.rf⟩
        by_cases hi : i = j
        · rw [if_pos hi, hi]
          unfold gstr dg
          rw [if_neg c1, if_neg (fun z => c2 ⟨z.1, hs1.mp z.2⟩)]
        · rw [if_neg hi]) (cD_strengthen0 l M c s hd hj hb hs)

set_option maxRecDepth 100000 in
set_option maxHeartbeats 4000000 in
theorem cD_insert_ (l : Launch) {d : Nat} {ls : List gC} (M : zM) (a b c : Int64) (s : Int32) (hd : zdr d) (hH : dH M d ls) (hlt : ls.length < 36) (hs : s = 0 ∨ s = 1) : zMet l mD_insert rD_insert [.ref d, .long a, .long b, .long c, .int s] M (zqv (fun M' => dH M' d (gins ls (a.toInt, b.toInt, c.toInt, s == 1)) ∧ zfr (dB d) M M')) := by
  refine za_enter (by decide) (Nat.le_of_ble_eq_true rfl) (fun X hc => ?_)
  have hdo := hd.o
  have hda := hd.a
  have hdb := hd.b
  have hdc := hd.c
  have hds := hd.s
  have hpo := hd.p.o
  have hl := hH.2.1
  have hmd : ∀ j k, ls[j]? = some k → dg M d j = k := hH.2.2.1
  have loop2 : ∀ n i e (M1 : zM), e = i + n → i ≤ ls.length → e ≤ ls.length → gins ls (a.toInt, b.toInt, c.toInt, s == 1) = ls.insertIdx i (a.toInt, b.toInt, c.toInt, s == 1) → zI M1 d 5 = nI ls.length → (∀ j, dg M1 d j = if e < j ∧ j ≤ ls.length then dg M d (j - 1) else dg M d j) → zbo M1 d → zfr (dA d) M M1 → zW X (zqv (fun M' => dH M' d (gins ls (a.toInt, b.toInt, c.toInt, s == 1)) ∧ zfr (dB d) M M')) (0, 0) 114 [(0, .ref d), (1, .long a), (3, .long b), (5, .long c), (7, .int s), (8, .int (nI i)), (9, .int (nI e))] [] M1 := by
    intro n
    induction n with
    | zero =>
      intro i e M1 he hi hel hg hz1 hdg1 hb1 hf1
      refine za_iload hc dD_insert_114 rfl ?_
      refine za_iload hc dD_insert_116 rfl ?_
      refine za_icmp_le 137 hc dD_insert_118 rfl (fun h_118 => ?_) (fun h_118 => ?_)
      · skip
        have hle : e ≤ i := (nI_leI (by omega) (by omega)).mp h_118
        obtain rfl : i = e := by omega
        refine za_aload_n hc dD_insert_137 rfl ?_
        refine za_dup hc dD_insert_138 rfl ?_
        refine za_getI hc gfD_32 (by assumption) dD_insert_139 ?_
        refine za_iconst hc 1 dD_insert_142 rfl ?_
        refine za_iadd hc dD_insert_143 ?_
        rw [hz1, show nI ls.length + (1 : Int32) = nI (ls.length + 1) from (nI_succ _).symm]
        refine za_putI hc gpD_32 (by assumption) dD_insert_144 ?_
        refine za_aload_n hc dD_insert_147 rfl ?_
        refine za_getS hc gfD_11 (by assumption) dD_insert_148 ?_
        refine za_iload hc dD_insert_151 rfl ?_
        refine za_lload_n hc dD_insert_153 rfl ?_
        refine za_last hc (by assumption) dD_insert_154 (vp_in_nI (show i < 36 by omega) (by decide)) ?_
        refine za_aload_n hc dD_insert_155 rfl ?_
        refine za_getS hc gfD_15 (by assumption) dD_insert_156 ?_
        refine za_iload hc dD_insert_159 rfl ?_
        refine za_lload_n hc dD_insert_161 rfl ?_
        refine za_last hc (by assumption) dD_insert_162 (vp_in_nI (show i < 36 by omega) (by decide)) ?_
        refine za_aload_n hc dD_insert_163 rfl ?_
        refine za_getS hc gfD_18 (by assumption) dD_insert_164 ?_
        refine za_iload hc dD_insert_167 rfl ?_
        refine za_lload hc dD_insert_169 rfl ?_
        refine za_last hc (by assumption) dD_insert_171 (vp_in_nI (show i < 36 by omega) (by decide)) ?_
        refine za_aload_n hc dD_insert_172 rfl ?_
        refine za_getS hc gfD_21 (by assumption) dD_insert_173 ?_
        refine za_iload hc dD_insert_176 rfl ?_
        refine za_iload hc dD_insert_178 rfl ?_
        refine za_zast hc (by assumption) dD_insert_180 (vp_in_nI (show i < 36 by omega) (by decide)) ?_
        rw [nI_clamp (show i < 2 ^ 31 by omega), zn01 hs]
        refine za_vret hc rfl dD_insert_181 ⟨Nat.zero_le _, Nat.zero_le _⟩ ?_
        have hin : i ≤ ls.length := hi
        refine ⟨rfl, ⟨?_, ?_, ?_, ?_⟩, ?_⟩
        · rw [zI_o (show ¬ d = d + 4 by omega), zI_sJ, zI_sJ, zI_sJ, zI_s, if_pos rfl, hg, List.length_insertIdx_of_le_length hin]
        · rw [hg, List.length_insertIdx_of_le_length hin]; omega
        · intro j q hq
          have e1 : dg (zsI (zsJ (zsJ (zsJ (zsI M1 d 5 (nI (ls.length + 1))) (d + 1) i a) (d + 2) i b) (d + 3) i c) (d + 4) i s) d j = if j = i then (a.toInt, b.toInt, c.toInt, s == 1) else dg (zsI M1 d 5 (nI (ls.length + 1))) d j := zput4_dg
          rw [e1, zfr_dg (zfr_sI (P := fun k => k = d) (j := 5) rfl) (by omega) (by omega) (by omega) (by omega), hdg1]
          rw [hg, List.getElem?_insertIdx] at hq
          by_cases c1 : j < i
          · rw [if_pos c1] at hq; rw [if_neg (by omega), if_neg (by omega)]; exact hmd j q hq
          · rw [if_neg c1] at hq
            by_cases c2 : j = i
            · rw [if_pos c2, if_pos (by omega)] at hq; rw [if_pos c2]; exact Option.some.inj hq
            · rw [if_neg c2] at hq
              have hj := (List.getElem?_eq_some_iff.mp hq).1
              rw [if_neg c2, if_pos ⟨by omega, by omega⟩]; exact hmd (j - 1) q hq
        · intro j; rw [zI_s, zI_sJ, zI_sJ, zI_sJ, zI_o (show ¬ d + 4 = d by omega)]; split
          · exact hs
          · exact hb1 j
        · exact (hf1.wk (fun k => dA_B)).tr ((zfr_sI ⟨Nat.le_refl _, by omega⟩).tr ((zfr_sJ ⟨by omega, by omega⟩).tr ((zfr_sJ ⟨by omega, by omega⟩).tr ((zfr_sJ ⟨by omega, by omega⟩).tr (zfr_sI ⟨by omega, by omega⟩)))))
      · skip
        exact absurd ((nI_leI (by omega) (by omega)).mpr (show e ≤ i by omega)) h_118
    | succ n ih =>
      intro i e M1 he hi hel hg hz1 hdg1 hb1 hf1
      refine za_iload hc dD_insert_114 rfl ?_
      refine za_iload hc dD_insert_116 rfl ?_
      refine za_icmp_le 137 hc dD_insert_118 rfl (fun h_118 => ?_) (fun h_118 => ?_)
      · skip
        exact absurd ((nI_leI (by omega) (by omega)).mp h_118) (by omega)
      · skip
        refine za_aload_n hc dD_insert_121 rfl ?_
        refine za_iload hc dD_insert_122 rfl ?_
        refine za_iconst hc 1 dD_insert_124 rfl ?_
        refine za_isub hc dD_insert_125 ?_
        rw [show nI e - (1 : Int32) = nI (e - 1) from pk_sub (a := e) (b := 1) (by omega)]
        refine za_iload hc dD_insert_126 rfl ?_
        refine za_cV2v hc gsD_48 (by assumption) (cD_move_ l M1 hd (show e - 1 < 36 by omega) (show e < 36 by omega) hb1) ⟨rfl, rfl⟩ ⟨Nat.le_of_ble_eq_true rfl, Nat.le_of_ble_eq_true rfl⟩ ⟨Nat.zero_le _, Nat.zero_le _⟩ dD_insert_128 (fun M_128 h_128 => ?_)
        obtain ⟨g1, g2, g3⟩ := h_128
        refine za_iinc hc _ dD_insert_131 rfl (show nI e + Int32.ofInt (-1) = nI (e - 1) from sb_m1 (by omega)) (by decide) ?_
        refine za_goto 114 hc dD_insert_134 rfl ?_
        refine ih i (e - 1) M_128 (by omega) hi (by omega) hg ?_ ?_ g2 (hf1.tr g3)
        · rw [(g3 d (fun z => by have := z.1; omega)).1]; exact hz1
        · intro j
          rw [g1, hdg1, hdg1]
          by_cases hj : j = e
          · rw [if_pos hj, if_neg (by omega), if_pos ⟨by omega, by omega⟩, hj]
          · rw [if_neg hj]
            by_cases h2 : e < j ∧ j ≤ ls.length
            · rw [if_pos h2, if_pos ⟨by omega, h2.2⟩]
            · rw [if_neg h2, if_neg (by omega)]
  have ins98 : ∀ i, i ≤ ls.length → (∀ j, j < i → gklt (dg M d j) (a.toInt, b.toInt, c.toInt, s == 1)) → (i = ls.length ∨ (¬ gklt (dg M d i) (a.toInt, b.toInt, c.toInt, s == 1) ∧ ¬ gkeq (dg M d i) (a.toInt, b.toInt, c.toInt, s == 1))) → zW X (zqv (fun M' => dH M' d (gins ls (a.toInt, b.toInt, c.toInt, s == 1)) ∧ zfr (dB d) M M')) (0, 0) 98 [(0, .ref d), (1, .long a), (3, .long b), (5, .long c), (7, .int s), (8, .int (nI i))] [] M := by
    intro i hi hall hx
    refine za_aload_n hc dD_insert_98 rfl ?_
    refine za_getI hc gfD_32 (by assumption) dD_insert_99 ?_
    refine za_bipush hc 36 dD_insert_102 rfl ?_
    rw [hH.1]
    refine za_icmp_lt 108 hc dD_insert_104 rfl (fun h_104 => ?_) (fun h_104 => ?_)
    · skip
      refine za_aload_n hc dD_insert_108 rfl ?_
      refine za_getI hc gfD_32 (by assumption) dD_insert_109 ?_
      rw [hH.1]
      refine za_istore hc dD_insert_112 (by decide) ?_
      refine loop2 (ls.length - i) i ls.length M (by omega) hi (Nat.le_refl _) (gins_at ls i _ hi (fun j k hj hk => by rw [← hmd j k hk]; exact hall j hj) (fun q hq => ?_)) hH.1 (fun j => by rw [if_neg (by omega)]) hH.2.2.2 zfr.rf
      rcases hx with hx | hx
      · have := (List.getElem?_eq_some_iff.mp hq).1; omega
      · rw [← hmd i q hq]; exact hx
    · skip
      exact absurd ((nI_ltI (b := 36) (by omega) (by decide)).mpr hlt) h_104
  have after : ∀ i, i ≤ ls.length → (∀ j, j < i → gklt (dg M d j) (a.toInt, b.toInt, c.toInt, s == 1)) → (i = ls.length ∨ ¬ gklt (dg M d i) (a.toInt, b.toInt, c.toInt, s == 1)) → zW X (zqv (fun M' => dH M' d (gins ls (a.toInt, b.toInt, c.toInt, s == 1)) ∧ zfr (dB d) M M')) (0, 0) 54 [(0, .ref d), (1, .long a), (3, .long b), (5, .long c), (7, .int s), (8, .int (nI i))] [] M := by
    intro i hi hall hx
    refine za_iload hc dD_insert_54 rfl ?_
    refine za_aload_n hc dD_insert_56 rfl ?_
    refine za_getI hc gfD_32 (by assumption) dD_insert_57 ?_
    rw [hH.1]
    refine za_icmp_ge 98 hc dD_insert_60 rfl (fun h_60 => ?_) (fun h_60 => ?_)
    · skip
      have hge : ls.length ≤ i := (nI_leI (by omega) (by omega)).mp h_60
      exact ins98 i hi hall (Or.inl (by omega))
    · skip
      have hlt2 : i < ls.length := Nat.not_le.mp (fun z => h_60 ((nI_leI (by omega) (by omega)).mpr z))
      have hx : ¬ gklt (dg M d i) _ := hx.resolve_left (by omega)
      refine za_aload_n hc dD_insert_63 rfl ?_
      refine za_getS hc gfD_11 (by assumption) dD_insert_64 ?_
      refine za_iload hc dD_insert_67 rfl ?_
      refine za_lald hc (by assumption) dD_insert_69 (vp_in_nI (show i < 36 by omega) (by decide)) ?_
      refine za_lload_n hc dD_insert_70 rfl ?_
      refine za_lcmp_ne 98 hc dD_insert_71 dD_insert_72 rfl (fun h_71 => ?_) (fun h_71 => ?_)
      · skip
        rw [nI_clamp (show i < 2 ^ 31 by omega), ← Int64.toInt_inj] at h_71
        exact ins98 i hi hall (Or.inr ⟨hx, fun z => h_71 z.1⟩)
      · skip
        rw [nI_clamp (show i < 2 ^ 31 by omega), ← Int64.toInt_inj] at h_71
        refine za_aload_n hc dD_insert_75 rfl ?_
        refine za_getS hc gfD_15 (by assumption) dD_insert_76 ?_
        refine za_iload hc dD_insert_79 rfl ?_
        refine za_lald hc (by assumption) dD_insert_81 (vp_in_nI (show i < 36 by omega) (by decide)) ?_
        refine za_lload_n hc dD_insert_82 rfl ?_
        refine za_lcmp_ne 98 hc dD_insert_83 dD_insert_84 rfl (fun h_83 => ?_) (fun h_83 => ?_)
        · skip
          rw [nI_clamp (show i < 2 ^ 31 by omega), ← Int64.toInt_inj] at h_83
          exact ins98 i hi hall (Or.inr ⟨hx, fun z => h_83 z.2⟩)
        · skip
          rw [nI_clamp (show i < 2 ^ 31 by omega), ← Int64.toInt_inj] at h_83
          refine za_aload_n hc dD_insert_87 rfl ?_
          refine za_iload hc dD_insert_88 rfl ?_
          refine za_lload hc dD_insert_90 rfl ?_
          refine za_iload hc dD_insert_92 rfl ?_
          refine za_cV3v hc gsD_44 (by assumption) (cD_strengthen_ l M c s a.toInt b.toInt hd (show i < 36 by omega) hH.2.2.2 hs) ⟨rfl, rfl⟩ ⟨Nat.le_of_ble_eq_true rfl, Nat.le_of_ble_eq_true rfl⟩ ⟨Nat.zero_le _, Nat.zero_le _⟩ dD_insert_94 (fun M_94 h_94 => ?_)
          obtain ⟨g1, g2, g3⟩ := h_94
          have hq := List.getElem?_eq_getElem hlt2
          have hgi := gins_set ls i _ (a.toInt, b.toInt, c.toInt, s == 1) (fun j k hj hk => by rw [← hmd j k hk]; exact hall j hj) hq (by rw [← hmd i _ hq]; exact ⟨h_71, h_83⟩)
          exact za_vret hc rfl dD_insert_97 ⟨Nat.zero_le _, Nat.zero_le _⟩ (⟨rfl, ⟨by rw [(g3 d (fun z => by have := z.1; omega)).1, hgi, List.length_set]; exact hH.1, by rw [hgi, List.length_set]; exact hH.2.1, fun j q hj => by
      rw [hgi] at hj
      rw [g1]
      by_cases c1 : j = i
      · subst c1
        rw [List.getElem?_set_self hlt2] at hj
        rw [if_pos rfl, hmd j _ hq]; exact Option.some.inj hj
      · rw [List.getElem?_set_ne (Ne.symm c1)] at hj
        rw [if_neg c1]; exact hmd j q hj, g2⟩, g3.wk (fun k => dA_B)⟩)
  have loop1 : ∀ n i, n + i = ls.length → (∀ j, j < i → gklt (dg M d j) (a.toInt, b.toInt, c.toInt, s == 1)) → zW X (zqv (fun M' => dH M' d (gins ls (a.toInt, b.toInt, c.toInt, s == 1)) ∧ zfr (dB d) M M')) (0, 0) 3 [(0, .ref d), (1, .long a), (3, .long b), (5, .long c), (7, .int s), (8, .int (nI i))] [] M := by
    intro n
    induction n with
    | zero =>
      intro i hn hall
      refine za_iload hc dD_insert_3 rfl ?_
      refine za_aload_n hc dD_insert_5 rfl ?_
      refine za_getI hc gfD_32 (by assumption) dD_insert_6 ?_
      rw [hH.1]
      refine za_icmp_ge 54 hc dD_insert_9 rfl (fun h_9 => ?_) (fun h_9 => ?_)
      · skip
        exact after i (by omega) hall (Or.inl (by omega))
      · skip
        exact absurd ((nI_leI (by omega) (by omega)).mpr (show ls.length ≤ i by omega)) h_9
    | succ n ih =>
      intro i hn hall
      refine za_iload hc dD_insert_3 rfl ?_
      refine za_aload_n hc dD_insert_5 rfl ?_
      refine za_getI hc gfD_32 (by assumption) dD_insert_6 ?_
      rw [hH.1]
      refine za_icmp_ge 54 hc dD_insert_9 rfl (fun h_9 => ?_) (fun h_9 => ?_)
      · skip
        exact absurd ((nI_leI (by omega) (by omega)).mp h_9) (by omega)
      · skip
        refine za_aload_n hc dD_insert_12 rfl ?_
        refine za_getS hc gfD_11 (by assumption) dD_insert_13 ?_
        refine za_iload hc dD_insert_16 rfl ?_
        refine za_lald hc (by assumption) dD_insert_18 (vp_in_nI (show i < 36 by omega) (by decide)) ?_
        refine za_lload_n hc dD_insert_19 rfl ?_
        refine za_lcmp_lt 48 hc dD_insert_20 dD_insert_21 rfl (fun h_20 => ?_) (fun h_20 => ?_)
        · skip
          rw [Int64.lt_iff_toInt_lt, nI_clamp (show i < 2 ^ 31 by omega)] at h_20
          have hk : gklt (dg M d i) (a.toInt, b.toInt, c.toInt, s == 1) := Or.inl h_20
          refine za_iinc hc _ dD_insert_48 rfl ((nI_succ i).symm) (by decide) ?_
          refine za_goto 3 hc dD_insert_51 rfl ?_
          refine ih (i + 1) (by omega) (fun j hj => ?_)
          by_cases c1 : j < i
          · exact hall j c1
          · obtain rfl : j = i := by omega
            exact hk
        · skip
          rw [Int64.lt_iff_toInt_lt, nI_clamp (show i < 2 ^ 31 by omega)] at h_20
          refine za_aload_n hc dD_insert_24 rfl ?_
          refine za_getS hc gfD_11 (by assumption) dD_insert_25 ?_
          refine za_iload hc dD_insert_28 rfl ?_
          refine za_lald hc (by assumption) dD_insert_30 (vp_in_nI (show i < 36 by omega) (by decide)) ?_
          refine za_lload_n hc dD_insert_31 rfl ?_
          refine za_lcmp_ne 54 hc dD_insert_32 dD_insert_33 rfl (fun h_32 => ?_) (fun h_32 => ?_)
          · skip
            rw [nI_clamp (show i < 2 ^ 31 by omega), ← Int64.toInt_inj] at h_32
            exact after i (by omega) hall (Or.inr (fun z => z.elim h_20 (fun z => h_32 z.1)))
          · skip
            rw [nI_clamp (show i < 2 ^ 31 by omega), ← Int64.toInt_inj] at h_32
            refine za_aload_n hc dD_insert_36 rfl ?_
            refine za_getS hc gfD_15 (by assumption) dD_insert_37 ?_
            refine za_iload hc dD_insert_40 rfl ?_
            refine za_lald hc (by assumption) dD_insert_42 (vp_in_nI (show i < 36 by omega) (by decide)) ?_
            refine za_lload_n hc dD_insert_43 rfl ?_
            refine za_lcmp_ge 54 hc dD_insert_44 dD_insert_45 rfl (fun h_44 => ?_) (fun h_44 => ?_)
            · skip
              rw [Int64.le_iff_toInt_le, nI_clamp (show i < 2 ^ 31 by omega)] at h_44
              exact after i (by omega) hall (Or.inr (fun z => z.elim h_20 (fun z => Int.not_le.mpr z.2 h_44)))
            · skip
              rw [Int64.le_iff_toInt_le, nI_clamp (show i < 2 ^ 31 by omega)] at h_44
              have hk : gklt (dg M d i) (a.toInt, b.toInt, c.toInt, s == 1) := Or.inr ⟨h_32, Int.not_le.mp h_44⟩
              refine za_iinc hc _ dD_insert_48 rfl ((nI_succ i).symm) (by decide) ?_
              refine za_goto 3 hc dD_insert_51 rfl ?_
              refine ih (i + 1) (by omega) (fun j hj => ?_)
              by_cases c1 : j < i
              · exact hall j c1
              · obtain rfl : j = i := by omega
                exact hk
  refine za_iconst hc 0 dD_insert_0 rfl ?_
  refine za_istore hc dD_insert_1 (by decide) ?_
  exact loop1 ls.length 0 (by omega) (fun j hj => absurd hj (Nat.not_lt_zero j))
