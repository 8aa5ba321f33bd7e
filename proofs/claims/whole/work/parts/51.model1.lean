/-! The reference model: its rows, what it holds. The object lies at place 62. -/
theorem zob_62 : zob 62 6 := ⟨by decide, by decide⟩
theorem ar_63 : zar 63 1 14 := ⟨by decide, by decide⟩
theorem ar_64 : zar 64 1 168 := ⟨by decide, by decide⟩
theorem ar_65 : zar 65 1 2016 := ⟨by decide, by decide⟩
theorem ar_66 : zar 66 1 2016 := ⟨by decide, by decide⟩
theorem ar_67 : zar 67 1 2016 := ⟨by decide, by decide⟩
theorem ar_68 : zar 68 3 2016 := ⟨by decide, by decide⟩
theorem ar_69 : zar 69 1 12 := ⟨by decide, by decide⟩
theorem ar_70 : zar 70 1 12 := ⟨by decide, by decide⟩
theorem ar_71 : zar 71 1 12 := ⟨by decide, by decide⟩
theorem ar_72 : zar 72 3 12 := ⟨by decide, by decide⟩
theorem ar_73 : zar 73 2 80 := ⟨by decide, by decide⟩
theorem ar_74 : zar 74 2 80 := ⟨by decide, by decide⟩
theorem ar_75 : zar 75 2 80 := ⟨by decide, by decide⟩
theorem ar_76 : zar 76 3 80 := ⟨by decide, by decide⟩
theorem ar_77 : zar 77 2 80 := ⟨by decide, by decide⟩
theorem ar_78 : zar 78 2 80 := ⟨by decide, by decide⟩
theorem ar_79 : zar 79 2 80 := ⟨by decide, by decide⟩
theorem ar_80 : zar 80 3 80 := ⟨by decide, by decide⟩
theorem ar_81 : zar 81 2 1 := ⟨by decide, by decide⟩
section
variable {l : Launch} {md : zMd} {rm : Room} {X : zC} {Q : Option Value → zM → Prop} {u : Nat × Nat} {pc : Nat} {L : List (Nat × Value)} {S : List Value} {M : zM}
theorem za_getA {k ci j idx t p : Nat} (hc : zCx X l md rm) (hf : zFld md.1.cls idx ci j (t + 3)) (ho : zob k ci) (hp : k + t = p) (hd : decode md.2.1 pc = .ok (.getfield idx, 3)) (kk : zW X Q u (pc + 3) L (.ref p :: S) M) : zW X Q u pc L (.ref k :: S) M := by subst hp; exact za_getS hc hf ho hd kk
theorem zm_iald {k n i : Nat} (hc : zCx X l md rm) (ha : zar k 1 n) (hd : decode md.2.1 pc = .ok (.iaload, 1)) (hi : i < n) (hn : n < 10000) (kk : zW X Q u (pc + 1) L (.int (zI M k i) :: S) M) : zW X Q u pc L (.int (nI i) :: .ref k :: S) M := za_iald hc ha hd (vp_in_nI hi (by omega)) (by rw [nI_clamp (by omega)]; exact kk)
theorem zm_lald {k n i : Nat} (hc : zCx X l md rm) (ha : zar k 2 n) (hd : decode md.2.1 pc = .ok (.laload, 1)) (hi : i < n) (hn : n < 10000) (kk : zW X Q u (pc + 1) L (.long (zJ M k i) :: S) M) : zW X Q u pc L (.int (nI i) :: .ref k :: S) M := za_lald hc ha hd (vp_in_nI hi (by omega)) (by rw [nI_clamp (by omega)]; exact kk)
theorem zm_zald {k n i : Nat} (hc : zCx X l md rm) (ha : zar k 3 n) (hd : decode md.2.1 pc = .ok (.baload, 1)) (hi : i < n) (hn : n < 10000) (kk : zW X Q u (pc + 1) L (.int (zI M k i) :: S) M) : zW X Q u pc L (.int (nI i) :: .ref k :: S) M := za_zald hc ha hd (vp_in_nI hi (by omega)) (by rw [nI_clamp (by omega)]; exact kk)
theorem zm_iast {k n i : Nat} {x : Int32} (hc : zCx X l md rm) (ha : zar k 1 n) (hd : decode md.2.1 pc = .ok (.iastore, 1)) (hi : i < n) (hn : n < 10000) (kk : zW X Q u (pc + 1) L S (zsI M k i x)) : zW X Q u pc L (.int x :: .int (nI i) :: .ref k :: S) M := za_iast hc ha hd (vp_in_nI hi (by omega)) (by rw [nI_clamp (by omega)]; exact kk)
theorem zm_last {k n i : Nat} {x : Int64} (hc : zCx X l md rm) (ha : zar k 2 n) (hd : decode md.2.1 pc = .ok (.lastore, 1)) (hi : i < n) (hn : n < 10000) (kk : zW X Q u (pc + 1) L S (zsJ M k i x)) : zW X Q u pc L (.long x :: .int (nI i) :: .ref k :: S) M := za_last hc ha hd (vp_in_nI hi (by omega)) (by rw [nI_clamp (by omega)]; exact kk)
theorem zm_zast {k n i : Nat} {x : Int32} (hc : zCx X l md rm) (ha : zar k 3 n) (hd : decode md.2.1 pc = .ok (.bastore, 1)) (hi : i < n) (hn : n < 10000) (hx : x = 0 ∨ x = 1) (kk : zW X Q u (pc + 1) L S (zsI M k i x)) : zW X Q u pc L (.int x :: .int (nI i) :: .ref k :: S) M := za_zast hc ha hd (vp_in_nI hi (by omega)) (by rw [nI_clamp (by omega), zn01 hx]; exact kk)
end
/-- members a, b, c, s up to many; what is asked -/
def mH (M : zM) (ls : List gC) : Prop := zI M 62 13 = nI ls.length ∧ ls.length ≤ 40 ∧ (∀ j q, ls[j]? = some q → dg M 72 j = q) ∧ zbo M 72
def qH (M : zM) (ls : List gC) : Prop := zI M 62 19 = nI ls.length ∧ ls.length ≤ 40 ∧ (∀ j q, ls[j]? = some q → dg M 76 j = q) ∧ zbo M 76
/-- a member's numbers are at most B from 0 -/
def gBd (B : Int) (q : gC) : Prop := (-B ≤ q.1 ∧ q.1 ≤ B) ∧ (-B ≤ q.2.1 ∧ q.2.1 ≤ B) ∧ (-B ≤ q.2.2.1 ∧ q.2.2.1 ≤ B)
/-- of the object: the fields named are as they were -/
def mK (I : List Nat) (M M' : zM) : Prop := ∀ j, j ∉ I → zI M' 62 j = zI M 62 j ∧ zJ M' 62 j = zJ M 62 j
theorem mK.rf {I : List Nat} {M : zM} : mK I M M := fun _ _ => ⟨rfl, rfl⟩
theorem mK.tr {I : List Nat} {M M' M'' : zM} (h : mK I M M') (h' : mK I M' M'') : mK I M M'' := fun j hj => ⟨(h' j hj).1.trans (h j hj).1, (h' j hj).2.trans (h j hj).2⟩
theorem mK.wk {I I' : List Nat} {M M' : zM} (h : mK I M M') (hI : ∀ j, j ∈ I → j ∈ I') : mK I' M M' := fun j hj => h j (fun z => hj (hI j z))
theorem mK_sI {I : List Nat} {M : zM} {j : Nat} {v : Int32} (h : j ∈ I) : mK I M (zsI M 62 j v) := fun a ha => ⟨by rw [zI_s, if_neg (fun e => ha (by rw [e]; exact h))], rfl⟩
theorem mK_sJ {I : List Nat} {M : zM} {j : Nat} {v : Int64} (h : j ∈ I) : mK I M (zsJ M 62 j v) := fun a ha => ⟨rfl, by rw [zJ_s, if_neg (fun e => ha (by rw [e]; exact h))]⟩
theorem mK_fr {P : Nat → Prop} {I : List Nat} {M M' : zM} (h : zfr P M M') (hp : ¬ P 62) : mK I M M' := fun j _ => ⟨by rw [(h _ hp).1], by rw [(h _ hp).2.1]⟩

set_option maxRecDepth 100000 in
set_option maxHeartbeats 4000000 in
theorem cM_thrown_ (l : Launch) (M : zM) : zMet l mM_thrown rM_thrown [.ref 62] M (zqi (fun x M' => x = zI M 62 0 ∧ M' = M)) := by
  refine za_enter (by decide) (Nat.le_of_ble_eq_true rfl) (fun X hc => ?_)
  refine za_aload_n hc dM_thrown_0 rfl ?_
  refine za_getI hc gfM_66 zob_62 dM_thrown_1 ?_
  exact za_iret hc rfl dM_thrown_4 ⟨Nat.zero_le _, Nat.zero_le _⟩ (⟨_, rfl, rfl, rfl⟩)

set_option maxRecDepth 100000 in
set_option maxHeartbeats 4000000 in
theorem cM_place_ (l : Launch) {p j i : Nat} (M : zM) : zMet l mM_place rM_place [.int (nI p), .int (nI j), .int (nI i)] M (zqi (fun x M' => x = nI (144 * p + 12 * j + i) ∧ M' = M)) := by
  refine za_enter (by decide) (Nat.le_of_ble_eq_true rfl) (fun X hc => ?_)
  refine za_sipush hc 144 dM_place_0 rfl ?_
  refine za_iload_n hc dM_place_3 rfl ?_
  refine za_imul hc dM_place_4 ?_
  refine za_bipush hc 12 dM_place_5 rfl ?_
  refine za_iload_n hc dM_place_7 rfl ?_
  refine za_imul hc dM_place_8 ?_
  refine za_iadd hc dM_place_9 ?_
  refine za_iload_n hc dM_place_10 rfl ?_
  refine za_iadd hc dM_place_11 ?_
  exact za_iret hc rfl dM_place_12 ⟨Nat.zero_le _, Nat.zero_le _⟩ (⟨_, rfl, by rw [show (144 : Int32) = nI 144 from rfl, show (12 : Int32) = nI 12 from rfl, pk_mul, pk_mul, nI_add, nI_add], rfl⟩)

set_option maxRecDepth 100000 in
set_option maxHeartbeats 4000000 in
theorem cM_isFar_ (l : Launch) (M : zM) (v : Int64) : zMet l mM_isFar rM_isFar [.long v] M (zqi (fun r M' => r = (if v.toInt < -10000 ∨ 10000 < v.toInt then 1 else 0) ∧ M' = M)) := by
  refine za_enter (by decide) (Nat.le_of_ble_eq_true rfl) (fun X hc => ?_)
  refine za_lload_n hc dM_isFar_0 rfl ?_
  refine za_ldc2 hc _ dM_isFar_1 jlM_194 ?_
  refine za_lcmp_lt 16 hc dM_isFar_4 dM_isFar_5 rfl (fun h_4 => ?_) (fun h_4 => ?_)
  · skip
    have h1 : v.toInt < -10000 := Int64.lt_iff_toInt_lt.mp h_4
    refine za_iconst hc 1 dM_isFar_16 rfl ?_
    refine za_goto 21 hc dM_isFar_17 rfl ?_
    exact za_zret hc rfl (rfl) dM_isFar_21 ⟨Nat.zero_le _, Nat.zero_le _⟩ (⟨_, rfl, by first | rw [if_pos (by omega)] | rw [if_neg (by omega)], rfl⟩)
  · skip
    have h1 : ¬ v.toInt < -10000 := fun z => h_4 (Int64.lt_iff_toInt_lt.mpr z)
    refine za_lload_n hc dM_isFar_8 rfl ?_
    refine za_ldc2 hc _ dM_isFar_9 jlM_196 ?_
    refine za_lcmp_le 20 hc dM_isFar_12 dM_isFar_13 rfl (fun h_12 => ?_) (fun h_12 => ?_)
    · skip
      have h2 : v.toInt ≤ 10000 := Int64.le_iff_toInt_le.mp h_12
      refine za_iconst hc 0 dM_isFar_20 rfl ?_
      exact za_zret hc rfl (rfl) dM_isFar_21 ⟨Nat.zero_le _, Nat.zero_le _⟩ (⟨_, rfl, by first | rw [if_pos (by omega)] | rw [if_neg (by omega)], rfl⟩)
    · skip
      have h2 : ¬ v.toInt ≤ 10000 := fun z => h_12 (Int64.le_iff_toInt_le.mpr z)
      refine za_iconst hc 1 dM_isFar_16 rfl ?_
      refine za_goto 21 hc dM_isFar_17 rfl ?_
      exact za_zret hc rfl (rfl) dM_isFar_21 ⟨Nat.zero_le _, Nat.zero_le _⟩ (⟨_, rfl, by first | rw [if_pos (by omega)] | rw [if_neg (by omega)], rfl⟩)

theorem l_mmL {a b c d : Int64} {B : Int} (hB : 0 ≤ B ∧ B ≤ 200000000) (ha : -B ≤ a.toInt ∧ a.toInt ≤ B) (hb : -B ≤ b.toInt ∧ b.toInt ≤ B) (hc : -B ≤ c.toInt ∧ c.toInt ≤ B) (hd : -B ≤ d.toInt ∧ d.toInt ≤ B) : (a * b - c * d).toInt = a.toInt * b.toInt - c.toInt * d.toInt ∧ -(2 * (B * B)) ≤ a.toInt * b.toInt - c.toInt * d.toInt ∧ a.toInt * b.toInt - c.toInt * d.toInt ≤ 2 * (B * B) := by
  have p1 := g_mulb ha hb
  have p2 := g_mulb hc hd
  have p3 := g_mulb (A := 200000000) (B := 200000000) (a := B) (b := B) (by omega) (by omega)
  have q1 := l_mul (x := a) (y := b) (by omega) (by omega)
  have q2 := l_mul (x := c) (y := d) (by omega) (by omega)
  exact ⟨by rw [l_sub (by rw [q1, q2]; omega) (by rw [q1, q2]; omega), q1, q2], by omega, by omega⟩

set_option maxRecDepth 100000 in
set_option maxHeartbeats 4000000 in
theorem cM_cross_ (l : Launch) {i j : Nat} {B : Int} (M : zM) (hi : i < 80) (hj : j < 80) (hB : 0 ≤ B ∧ B ≤ 200000000) (bi : gBd B (dg M 76 i)) (bj : gBd B (dg M 76 j)) : zMet l mM_cross rM_cross [.ref 62, .int (nI i), .int (nI j)] M (zql (fun r M' => r.toInt = gcr (dg M 76 i) (dg M 76 j) ∧ M' = M)) := by
  refine za_enter (by decide) (Nat.le_of_ble_eq_true rfl) (fun X hc => ?_)
  have a77 := ar_77
  have a78 := ar_78
  have a79 := ar_79
  have a80 := ar_80
  refine za_aload_n hc dM_cross_0 rfl ?_
  refine za_getA hc gfM_54 zob_62 (p := 77) rfl dM_cross_1 ?_
  refine za_iload_n hc dM_cross_4 rfl ?_
  refine zm_lald hc (by assumption) dM_cross_5 (by omega) (by decide) ?_
  refine za_aload_n hc dM_cross_6 rfl ?_
  refine za_getA hc gfM_57 zob_62 (p := 78) rfl dM_cross_7 ?_
  refine za_iload_n hc dM_cross_10 rfl ?_
  refine zm_lald hc (by assumption) dM_cross_11 (by omega) (by decide) ?_
  refine za_lmul hc dM_cross_12 ?_
  refine za_aload_n hc dM_cross_13 rfl ?_
  refine za_getA hc gfM_54 zob_62 (p := 77) rfl dM_cross_14 ?_
  refine za_iload_n hc dM_cross_17 rfl ?_
  refine zm_lald hc (by assumption) dM_cross_18 (by omega) (by decide) ?_
  refine za_aload_n hc dM_cross_19 rfl ?_
  refine za_getA hc gfM_57 zob_62 (p := 78) rfl dM_cross_20 ?_
  refine za_iload_n hc dM_cross_23 rfl ?_
  refine zm_lald hc (by assumption) dM_cross_24 (by omega) (by decide) ?_
  refine za_lmul hc dM_cross_25 ?_
  refine za_lsub hc dM_cross_26 ?_
  exact za_lret hc rfl dM_cross_27 ⟨Nat.zero_le _, Nat.zero_le _⟩ (⟨_, rfl, (l_mmL hB bi.1 bj.2.1 bj.1 bi.2.1).1, rfl⟩)

set_option maxRecDepth 100000 in
set_option maxHeartbeats 4000000 in
theorem cM_begin_ (l : Launch) (M : zM) : zMet l mM_begin rM_begin [.ref 62] M (zqv (fun M' => M' = zsI (zsI M 62 13 0) 62 14 0)) := by
  refine za_enter (by decide) (Nat.le_of_ble_eq_true rfl) (fun X hc => ?_)
  refine za_aload_n hc dM_begin_0 rfl ?_
  refine za_iconst hc 0 dM_begin_1 rfl ?_
  refine za_putI hc gpM_70 zob_62 dM_begin_2 ?_
  refine za_aload_n hc dM_begin_5 rfl ?_
  refine za_iconst hc 0 dM_begin_6 rfl ?_
  refine za_putZ hc gpM_146 zob_62 (nz01 (by first | exact Or.inl rfl | exact Or.inr rfl)) dM_begin_7 ?_
  exact za_vret hc rfl dM_begin_10 ⟨Nat.zero_le _, Nat.zero_le _⟩ (⟨rfl, rfl⟩)

def mQ : Nat → Prop := fun k => k = 62 ∨ (77 ≤ k ∧ k ≤ 80)
def mA : Nat → Prop := fun k => k = 62 ∨ (73 ≤ k ∧ k ≤ 76)
theorem mH_kept {P : Nat → Prop} {M M' : zM} {ls : List gC} (h : mH M ls) (hf : zfr P M M') (h0 : zI M' 62 13 = zI M 62 13) (h1 : ¬ P 73) (h2 : ¬ P 74) (h3 : ¬ P 75) (h4 : ¬ P 76) : mH M' ls := ⟨h0.trans h.1, h.2.1, fun j q hq => by rw [zfr_dg (d := 72) hf h1 h2 h3 h4]; exact h.2.2.1 j q hq, zfr_bo (d := 72) hf h4 h.2.2.2⟩
theorem qH_kept {P : Nat → Prop} {M M' : zM} {ls : List gC} (h : qH M ls) (hf : zfr P M M') (h0 : zI M' 62 19 = zI M 62 19) (h1 : ¬ P 77) (h2 : ¬ P 78) (h3 : ¬ P 79) (h4 : ¬ P 80) : qH M' ls := ⟨h0.trans h.1, h.2.1, fun j q hq => by rw [zfr_dg (d := 76) hf h1 h2 h3 h4]; exact h.2.2.1 j q hq, zfr_bo (d := 76) hf h4 h.2.2.2⟩
theorem mA_n {k : Nat} (h : 77 ≤ k ∧ k ≤ 80) : ¬ mA k := by unfold mA; omega
theorem mQ_n {k : Nat} (h : 73 ≤ k ∧ k ≤ 76) : ¬ mQ k := by unfold mQ; omega
theorem zp4_fQ {M : zM} {t : Nat} {a b c : Int64} {s : Int32} : zfr mQ M (zput4 M 76 t a b c s) := zput4_fr.wk (fun k h => Or.inr ⟨h.1, h.2⟩)
theorem zp4_fA {M : zM} {t : Nat} {a b c : Int64} {s : Int32} : zfr mA M (zput4 M 72 t a b c s) := zput4_fr.wk (fun k h => Or.inr ⟨h.1, h.2⟩)

set_option maxRecDepth 100000 in
set_option maxHeartbeats 4000000 in
theorem cM_ask_ (l : Launch) {ls : List gC} (M : zM) (hH : mH M ls) (hb0 : zbo M 76) : zMet l mM_ask rM_ask [.ref 62] M (zqv (fun M' => qH M' ls ∧ mH M' ls ∧ mK [19] M M' ∧ zfr mQ M M')) := by
  refine za_enter (by decide) (Nat.le_of_ble_eq_true rfl) (fun X hc => ?_)
  have a77 := ar_77
  have a78 := ar_78
  have a79 := ar_79
  have a80 := ar_80
  have a73 := ar_73
  have a74 := ar_74
  have a75 := ar_75
  have a76 := ar_76
  have hl := hH.2.1
  have loop : ∀ n k (M1 : zM), n + k = ls.length → mH M1 ls → zI M1 62 19 = nI ls.length → (∀ j q, j < k → ls[j]? = some q → dg M1 76 j = q) → zbo M1 76 → mK [19] M M1 → zfr mQ M M1 → zW X (zqv (fun M' => qH M' ls ∧ mH M' ls ∧ mK [19] M M' ∧ zfr mQ M M')) (0, 0) 10 [(0, .ref 62), (1, .int (nI k))] [] M1 := by
    intro n
    induction n with
    | zero =>
      intro k M1 hn hm hq hall hb hk hf
      refine za_iload_n hc dM_ask_10 rfl ?_
      refine za_aload_n hc dM_ask_11 rfl ?_
      refine za_getI hc gfM_70 zob_62 dM_ask_12 ?_
      rw [hm.1]
      refine za_icmp_ge 72 hc dM_ask_15 rfl (fun h_15 => ?_) (fun h_15 => ?_)
      · skip
        exact za_vret hc rfl dM_ask_72 ⟨Nat.zero_le _, Nat.zero_le _⟩ (⟨rfl, ⟨hq, hl, fun j q h => hall j q (by have := (List.getElem?_eq_some_iff.mp h).1; omega) h, hb⟩, hm, hk, hf⟩)
      · skip
        exact absurd ((nI_leI (by omega) (by omega)).mpr (show ls.length ≤ k by omega)) h_15
    | succ n ih =>
      intro k M1 hn hm hq hall hb hk hf
      refine za_iload_n hc dM_ask_10 rfl ?_
      refine za_aload_n hc dM_ask_11 rfl ?_
      refine za_getI hc gfM_70 zob_62 dM_ask_12 ?_
      rw [hm.1]
      refine za_icmp_ge 72 hc dM_ask_15 rfl (fun h_15 => ?_) (fun h_15 => ?_)
      · skip
        exact absurd ((nI_leI (by omega) (by omega)).mp h_15) (by omega)
      · skip
        refine za_aload_n hc dM_ask_18 rfl ?_
        refine za_getA hc gfM_54 zob_62 (p := 77) rfl dM_ask_19 ?_
        refine za_iload_n hc dM_ask_22 rfl ?_
        refine za_aload_n hc dM_ask_23 rfl ?_
        refine za_getA hc gfM_41 zob_62 (p := 73) rfl dM_ask_24 ?_
        refine za_iload_n hc dM_ask_27 rfl ?_
        refine zm_lald hc (by assumption) dM_ask_28 (by omega) (by decide) ?_
        refine zm_last hc (by assumption) dM_ask_29 (by omega) (by decide) ?_
        refine za_aload_n hc dM_ask_30 rfl ?_
        refine za_getA hc gfM_57 zob_62 (p := 78) rfl dM_ask_31 ?_
        refine za_iload_n hc dM_ask_34 rfl ?_
        refine za_aload_n hc dM_ask_35 rfl ?_
        refine za_getA hc gfM_45 zob_62 (p := 74) rfl dM_ask_36 ?_
        refine za_iload_n hc dM_ask_39 rfl ?_
        refine zm_lald hc (by assumption) dM_ask_40 (by omega) (by decide) ?_
        rw [zJ_o (by decide)]
        refine zm_last hc (by assumption) dM_ask_41 (by omega) (by decide) ?_
        refine za_aload_n hc dM_ask_42 rfl ?_
        refine za_getA hc gfM_60 zob_62 (p := 79) rfl dM_ask_43 ?_
        refine za_iload_n hc dM_ask_46 rfl ?_
        refine za_aload_n hc dM_ask_47 rfl ?_
        refine za_getA hc gfM_48 zob_62 (p := 75) rfl dM_ask_48 ?_
        refine za_iload_n hc dM_ask_51 rfl ?_
        refine zm_lald hc (by assumption) dM_ask_52 (by omega) (by decide) ?_
        rw [zJ_o (by decide), zJ_o (by decide)]
        refine zm_last hc (by assumption) dM_ask_53 (by omega) (by decide) ?_
        refine za_aload_n hc dM_ask_54 rfl ?_
        refine za_getA hc gfM_63 zob_62 (p := 80) rfl dM_ask_55 ?_
        refine za_iload_n hc dM_ask_58 rfl ?_
        refine za_aload_n hc dM_ask_59 rfl ?_
        refine za_getA hc gfM_51 zob_62 (p := 76) rfl dM_ask_60 ?_
        refine za_iload_n hc dM_ask_63 rfl ?_
        refine zm_zald hc (by assumption) dM_ask_64 (by omega) (by decide) ?_
        rw [zI_sJ, zI_sJ, zI_sJ]
        refine zm_zast hc (by assumption) dM_ask_65 (by omega) (by decide) (hm.2.2.2 k) ?_
        refine za_iinc hc _ dM_ask_66 rfl ((nI_succ k).symm) (by decide) ?_
        refine za_goto 10 hc dM_ask_69 rfl ?_
        have e : ∀ j, dg (zput4 M1 76 k (zJ M1 73 k) (zJ M1 74 k) (zJ M1 75 k) (zI M1 76 k)) 76 j = if j = k then _ else dg M1 76 j := fun j => zput4_dg
        refine ih (k + 1) (zput4 M1 76 k (zJ M1 73 k) (zJ M1 74 k) (zJ M1 75 k) (zI M1 76 k)) (by omega) (mH_kept hm zp4_fQ (by rfl) (mQ_n (by decide)) (mQ_n (by decide)) (mQ_n (by decide)) (mQ_n (by decide))) (by exact hq) (fun j q hj h => ?_) (zput4_bo hb (hm.2.2.2 k)) (hk.tr (mK_fr zput4_fr (by unfold dA; omega))) (hf.tr zp4_fQ)
        rw [e j]
        split
        · rename_i hjk
          rw [hjk] at h
          exact hm.2.2.1 k q h
        · exact hall j q (by omega) h
  refine za_aload_n hc dM_ask_0 rfl ?_
  refine za_aload_n hc dM_ask_1 rfl ?_
  refine za_getI hc gfM_70 zob_62 dM_ask_2 ?_
  rw [hH.1]
  refine za_putI hc gpM_73 zob_62 dM_ask_5 ?_
  refine za_iconst hc 0 dM_ask_8 rfl ?_
  refine za_istore_n hc dM_ask_9 (by decide) ?_
  refine loop ls.length 0 _ (by omega) (mH_kept hH (zfr_sI (P := mQ) (Or.inl rfl)) (by rw [zI_s, if_neg (by decide)]) (mQ_n (by decide)) (mQ_n (by decide)) (mQ_n (by decide)) (mQ_n (by decide))) (by rw [zI_s, if_pos rfl]) (fun j q h => absurd h (by omega)) (zfr_bo (d := 76) (zfr_sI (P := fun k => k = 62) rfl) (by decide) hb0) (mK_sI (by decide)) (zfr_sI (P := mQ) (Or.inl rfl))

set_option maxRecDepth 100000 in
set_option maxHeartbeats 4000000 in
theorem cM_isBand_ (l : Launch) {ls : List gC} {h0 : gC} (M : zM) (hH : qH M ls) (hh : ls[0]? = some h0) (hB : ∀ q ∈ ls, gBd 200000000 q) : zMet l mM_isBand rM_isBand [.ref 62] M (zqi (fun x M' => (x = 0 ∨ x = 1) ∧ (x = 1 ↔ ∀ q ∈ ls, gcr h0 q = 0) ∧ M' = M)) := by
  refine za_enter (by decide) (Nat.le_of_ble_eq_true rfl) (fun X hc => ?_)
  have a77 := ar_77
  have a78 := ar_78
  have a79 := ar_79
  have a80 := ar_80
  have hl := hH.2.1
  have d0 := hH.2.2.1 0 h0 hh
  have hlp := (List.getElem?_eq_some_iff.mp hh).1
  have loop : ∀ n k (v : Int32), n + k = ls.length → 1 ≤ k → (v = 0 ∨ v = 1) → (v = 1 ↔ ∀ j q, j < k → ls[j]? = some q → gcr h0 q = 0) → zW X (zqi (fun x M' => (x = 0 ∨ x = 1) ∧ (x = 1 ↔ ∀ q ∈ ls, gcr h0 q = 0) ∧ M' = M)) (0, 0) 4 [(0, .ref 62), (1, .int v), (2, .int (nI k))] [] M := by
    intro n
    induction n with
    | zero =>
      intro k v hn hk hv hall
      refine za_iload_n hc dM_isBand_4 rfl ?_
      refine za_aload_n hc dM_isBand_5 rfl ?_
      refine za_getI hc gfM_73 zob_62 dM_isBand_6 ?_
      rw [hH.1]
      refine za_icmp_ge 39 hc dM_isBand_9 rfl (fun h_9 => ?_) (fun h_9 => ?_)
      · skip
        refine za_iload_n hc dM_isBand_39 rfl ?_
        exact za_zret hc rfl (by rcases hv with z | z <;> rw [z] <;> rfl) dM_isBand_40 ⟨Nat.zero_le _, Nat.zero_le _⟩ (⟨_, rfl, hv, hall.trans ⟨fun h q hq => by
        obtain ⟨j, hj⟩ := List.getElem?_of_mem hq
        exact h j q (by have := (List.getElem?_eq_some_iff.mp hj).1; omega) hj, fun h j q _ hj => h q (List.mem_of_getElem? hj)⟩, rfl⟩)
      · skip
        exact absurd ((nI_leI (by omega) (by omega)).mpr (show ls.length ≤ k by omega)) h_9
    | succ n ih =>
      intro k v hn hk hv hall
      have hri := List.getElem?_eq_getElem (l := ls) (show k < ls.length by omega)
      generalize hme : ls[k] = m at hri
      have dk := hH.2.2.1 k m hri
      refine za_iload_n hc dM_isBand_4 rfl ?_
      refine za_aload_n hc dM_isBand_5 rfl ?_
      refine za_getI hc gfM_73 zob_62 dM_isBand_6 ?_
      rw [hH.1]
      refine za_icmp_ge 39 hc dM_isBand_9 rfl (fun h_9 => ?_) (fun h_9 => ?_)
      · skip
        exact absurd ((nI_leI (by omega) (by omega)).mp h_9) (by omega)
      · skip
        refine za_iload_n hc dM_isBand_12 rfl ?_
        refine za_if_eq 39 hc dM_isBand_13 rfl (fun h_13 => ?_) (fun h_13 => ?_)
        · skip
          subst h_13
          have hne : ¬ ∀ q ∈ ls, gcr h0 q = 0 := fun h => absurd (hall.mpr (fun j q _ hj => h q (List.mem_of_getElem? hj))) (by decide)
          refine za_iload_n hc dM_isBand_39 rfl ?_
          exact za_zret hc rfl (by rcases hv with z | z <;> rw [z] <;> rfl) dM_isBand_40 ⟨Nat.zero_le _, Nat.zero_le _⟩ (⟨_, rfl, Or.inl rfl, ⟨fun z => absurd z (by decide), fun z => absurd z hne⟩, rfl⟩)
        · skip
          have hv1 : v = 1 := hv.resolve_left h_13
          refine za_aload_n hc dM_isBand_16 rfl ?_
          refine za_iconst hc 0 dM_isBand_17 rfl ?_
          refine za_iload_n hc dM_isBand_18 rfl ?_
          refine za_cV2l hc gsM_76 zob_62 (cM_cross_ l M (B := 200000000) (i := 0) (j := k) (by omega) (by omega) (by decide) (by rw [d0]; exact hB h0 (List.mem_of_getElem? hh)) (by rw [dk]; exact hB m (List.mem_of_getElem? hri))) ⟨rfl, rfl⟩ ⟨Nat.le_of_ble_eq_true rfl, Nat.le_of_ble_eq_true rfl⟩ ⟨Nat.zero_le _, Nat.zero_le _⟩ dM_isBand_19 (fun x_19 M_19 h_19 => ?_)
          obtain ⟨q_19, hm_19⟩ := h_19
          rw [hm_19]
          rw [d0, dk] at q_19
          refine za_lconst hc 0 dM_isBand_22 rfl ?_
          refine za_lcmp_ne 31 hc dM_isBand_23 dM_isBand_24 rfl (fun h_23 => ?_) (fun h_23 => ?_)
          · skip
            have c1 : ¬ gcr h0 m = 0 := by rw [← q_19]; exact fun z => h_23 (Int64.toInt_inj.mp z)
            refine za_iconst hc 0 dM_isBand_31 rfl ?_
            refine za_istore_n hc dM_isBand_32 (by decide) ?_
            refine za_iinc hc _ dM_isBand_33 rfl ((nI_succ k).symm) (by decide) ?_
            refine za_goto 4 hc dM_isBand_36 rfl ?_
            refine ih (k + 1) _ (by omega) (by omega) (by first | exact Or.inl rfl | exact Or.inr rfl) ?_
            constructor
            · intro z j q hj hq
              by_cases c : j = k
              · rw [c, hri] at hq
                first | exact absurd z (by decide) | (cases hq; exact c1)
              · exact hall.mp hv1 j q (by omega) hq
            · intro h
              first | rfl | exact absurd (h k m (by omega) hri) c1
          · skip
            have c1 : gcr h0 m = 0 := by rw [← q_19, h_23]; rfl
            refine za_iconst hc 1 dM_isBand_27 rfl ?_
            refine za_goto 32 hc dM_isBand_28 rfl ?_
            refine za_istore_n hc dM_isBand_32 (by decide) ?_
            refine za_iinc hc _ dM_isBand_33 rfl ((nI_succ k).symm) (by decide) ?_
            refine za_goto 4 hc dM_isBand_36 rfl ?_
            refine ih (k + 1) _ (by omega) (by omega) (by first | exact Or.inl rfl | exact Or.inr rfl) ?_
            constructor
            · intro z j q hj hq
              by_cases c : j = k
              · rw [c, hri] at hq
                first | exact absurd z (by decide) | (cases hq; exact c1)
              · exact hall.mp hv1 j q (by omega) hq
            · intro h
              first | rfl | exact absurd (h k m (by omega) hri) c1
  refine za_iconst hc 1 dM_isBand_0 rfl ?_
  refine za_istore_n hc dM_isBand_1 (by decide) ?_
  refine za_iconst hc 1 dM_isBand_2 rfl ?_
  refine za_istore_n hc dM_isBand_3 (by decide) ?_
  refine loop (ls.length - 1) 1 1 (by omega) (by omega) (Or.inr rfl) ⟨fun _ j q hj hq => ?_, fun _ => rfl⟩
  obtain rfl : j = 0 := by omega
  rw [hh] at hq
  cases hq
  unfold gcr; rw [Int.mul_comm]; omega
