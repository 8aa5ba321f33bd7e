/-! The model: members are added, ordered, removed. -/
def gnz (m : gC) : Prop := ¬ (m.1 = 0 ∧ m.2.1 = 0)

theorem l_na {x : Int64} (h : x.toInt.natAbs < 2 ^ 62) : (0 ≤ x → x = lN x.toInt.natAbs) ∧ (¬ 0 ≤ x → -x = lN x.toInt.natAbs) := by
  constructor
  · intro h0
    have := Int64.le_iff_toInt_le.mp h0
    have z : (0 : Int64).toInt = 0 := rfl
    apply Int64.toInt_inj.mp
    rw [pk_lT (by omega)]; omega
  · intro h0
    have h1 : ¬ (0 : Int64).toInt ≤ x.toInt := fun z => h0 (Int64.le_iff_toInt_le.mpr z)
    have z : (0 : Int64).toInt = 0 := rfl
    apply Int64.toInt_inj.mp
    rw [l_neg (by omega), pk_lT (by omega)]; omega

theorem zW_long {X : zC} {Q : Option Value → zM → Prop} {u : Nat × Nat} {pc : Nat} {L : List (Nat × Value)} {S : List Value} {M : zM} {a b : Int64} (h : a = b) (k : zW X Q u pc L (.long b :: S) M) : zW X Q u pc L (.long a :: S) M := by rw [h]; exact k

set_option maxRecDepth 100000 in
set_option maxHeartbeats 4000000 in
theorem cM_divisor_ (l : Launch) (M : zM) (x y : Int64) (g : Nat) (hx : x.toInt.natAbs < 2 ^ 62) (hy : y.toInt.natAbs < 2 ^ 62) (hgg : Nat.gcd x.toInt.natAbs y.toInt.natAbs = g) : zMet l mM_divisor rM_divisor [.long x, .long y] M (zql (fun r M' => r = lN g ∧ M' = M)) := by
  refine za_enter (by decide) (Nat.le_of_ble_eq_true rfl) (fun X hc => ?_)
  have loop : ∀ (f a b : Nat), b < f → Nat.gcd a b = g → a < 2 ^ 62 → b < 2 ^ 62 → zW X (zql (fun r M' => r = lN g ∧ M' = M)) (0, 0) 28 [(0, .long x), (2, .long y), (4, .long (lN a)), (6, .long (lN b))] [] M := by
    intro f
    induction f with
    | zero => intro a b h; exact absurd h (by omega)
    | succ f ih =>
      intro a b hf hg ha hb
      refine za_lload hc dM_divisor_28 rfl ?_
      refine za_lconst hc 0 dM_divisor_30 rfl ?_
      refine za_lcmp_le 53 hc dM_divisor_31 dM_divisor_32 rfl (fun h_31 => ?_) (fun h_31 => ?_)
      · skip
        have hb0 : b = 0 := Nat.le_zero.mp ((pk_lLE (b := 0) (by omega) (by decide)).mp h_31)
        refine za_lload hc dM_divisor_53 rfl ?_
        exact za_lret hc rfl dM_divisor_55 ⟨Nat.zero_le _, Nat.zero_le _⟩ (⟨_, rfl, by rw [← hg, hb0, Nat.gcd_zero_right], rfl⟩)
      · skip
        have hb1 : 0 < b := Nat.pos_of_ne_zero (fun z => h_31 (by rw [z]; exact Int64.le_refl _))
        have hbz : ¬ lN b = 0 := fun z => absurd ((pk_lEQ (b := 0) (by omega) (by decide)).mp z) (by omega)
        refine za_lload hc dM_divisor_35 rfl ?_
        refine za_lload hc dM_divisor_37 rfl ?_
        refine za_lrem hc dM_divisor_39 hbz ?_
        rw [pk_lRem (by omega) hb1 (by omega)]
        refine za_lstore hc dM_divisor_40 (by decide) ?_
        refine za_lload hc dM_divisor_42 rfl ?_
        refine za_lstore hc dM_divisor_44 (by decide) ?_
        refine za_lload hc dM_divisor_46 rfl ?_
        refine za_lstore hc dM_divisor_48 (by decide) ?_
        refine za_goto 28 hc dM_divisor_50 rfl ?_
        refine za_take 4 ?_
        have hmod := Nat.mod_lt a hb1
        refine ih b (a % b) (by omega) ?_ hb (by omega)
        rw [← hg, Nat.gcd_comm a b, Nat.gcd_rec b a, Nat.gcd_comm]
  have L14 : zW X (zql (fun r M' => r = lN g ∧ M' = M)) (0, 0) 14 [(0, .long x), (2, .long y), (4, .long (lN x.toInt.natAbs))] [] M := by
    refine za_lload_n hc dM_divisor_14 rfl ?_
    refine za_lconst hc 0 dM_divisor_15 rfl ?_
    refine za_lcmp_ge 25 hc dM_divisor_16 dM_divisor_17 rfl (fun h_16 => ?_) (fun h_16 => ?_)
    · skip
      have e := (l_na hy).1 h_16
      refine za_lload_n hc dM_divisor_25 rfl ?_
      refine zW_long e ?_
      refine za_lstore hc dM_divisor_26 (by decide) ?_
      exact loop (y.toInt.natAbs + 1) _ _ (by omega) hgg (by omega) (by omega)
    · skip
      have e := (l_na hy).2 h_16
      refine za_lload_n hc dM_divisor_20 rfl ?_
      refine za_lneg hc dM_divisor_21 ?_
      refine za_goto 26 hc dM_divisor_22 rfl ?_
      refine zW_long e ?_
      refine za_lstore hc dM_divisor_26 (by decide) ?_
      exact loop (y.toInt.natAbs + 1) _ _ (by omega) hgg (by omega) (by omega)
  refine za_lload_n hc dM_divisor_0 rfl ?_
  refine za_lconst hc 0 dM_divisor_1 rfl ?_
  refine za_lcmp_ge 11 hc dM_divisor_2 dM_divisor_3 rfl (fun h_2 => ?_) (fun h_2 => ?_)
  · skip
    have e := (l_na hx).1 h_2
    refine za_lload_n hc dM_divisor_11 rfl ?_
    refine zW_long e ?_
    refine za_lstore hc dM_divisor_12 (by decide) ?_
    exact L14
  · skip
    have e := (l_na hx).2 h_2
    refine za_lload_n hc dM_divisor_6 rfl ?_
    refine za_lneg hc dM_divisor_7 ?_
    refine za_goto 12 hc dM_divisor_8 rfl ?_
    refine zW_long e ?_
    refine za_lstore hc dM_divisor_12 (by decide) ?_
    exact L14

set_option maxRecDepth 100000 in
set_option maxHeartbeats 4000000 in
theorem cM_add_ (l : Launch) {ls : List gC} (M : zM) (x y z : Int64) (s : Int32) (hH : mH M ls) (hl : ls.length < 40) (hs : s = 0 ∨ s = 1) (hnv : zI M 62 14 = 0) (hzz : x.toInt = 0 ∧ y.toInt = 0 → 0 ≤ z.toInt ∧ (z.toInt = 0 → s = 0)) : zMet l mM_add rM_add [.ref 62, .long x, .long y, .long z, .int s] M (zqv (fun M' => mH M' (if x.toInt = 0 ∧ y.toInt = 0 then ls else ls ++ [(x.toInt, y.toInt, z.toInt, s == 1)]) ∧ zI M' 62 14 = 0 ∧ mK [13, 14] M M' ∧ zfr mA M M')) := by
  refine za_enter (by decide) (Nat.le_of_ble_eq_true rfl) (fun X hc => ?_)
  have a73 := ar_73
  have a74 := ar_74
  have a75 := ar_75
  have a76 := ar_76
  refine za_lload_n hc dM_add_0 rfl ?_
  refine za_lconst hc 0 dM_add_1 rfl ?_
  refine za_lcmp_ne 48 hc dM_add_2 dM_add_3 rfl (fun h_2 => ?_) (fun h_2 => ?_)
  · skip
    have hne : ¬ (x.toInt = 0 ∧ y.toInt = 0) := fun w => h_2 (Int64.toInt_inj.mp w.1)
    refine za_aload_n hc dM_add_48 rfl ?_
    refine za_getA hc gfM_41 zob_62 (p := 73) rfl dM_add_49 ?_
    refine za_aload_n hc dM_add_52 rfl ?_
    refine za_getI hc gfM_70 zob_62 dM_add_53 ?_
    rw [hH.1]
    refine za_lload_n hc dM_add_56 rfl ?_
    refine zm_last hc (by assumption) dM_add_57 (by omega) (by decide) ?_
    refine za_aload_n hc dM_add_58 rfl ?_
    refine za_getA hc gfM_45 zob_62 (p := 74) rfl dM_add_59 ?_
    refine za_aload_n hc dM_add_62 rfl ?_
    refine za_getI hc gfM_70 zob_62 dM_add_63 ?_
    rw [zI_sJ, hH.1]
    refine za_lload_n hc dM_add_66 rfl ?_
    refine zm_last hc (by assumption) dM_add_67 (by omega) (by decide) ?_
    refine za_aload_n hc dM_add_68 rfl ?_
    refine za_getA hc gfM_48 zob_62 (p := 75) rfl dM_add_69 ?_
    refine za_aload_n hc dM_add_72 rfl ?_
    refine za_getI hc gfM_70 zob_62 dM_add_73 ?_
    rw [zI_sJ, zI_sJ, hH.1]
    refine za_lload hc dM_add_76 rfl ?_
    refine zm_last hc (by assumption) dM_add_78 (by omega) (by decide) ?_
    refine za_aload_n hc dM_add_79 rfl ?_
    refine za_getA hc gfM_51 zob_62 (p := 76) rfl dM_add_80 ?_
    refine za_aload_n hc dM_add_83 rfl ?_
    refine za_getI hc gfM_70 zob_62 dM_add_84 ?_
    rw [zI_sJ, zI_sJ, zI_sJ, hH.1]
    refine za_iload hc dM_add_87 rfl ?_
    refine zm_zast hc (by assumption) dM_add_89 (by omega) (by decide) hs ?_
    refine za_aload_n hc dM_add_90 rfl ?_
    refine za_dup hc dM_add_91 rfl ?_
    refine za_getI hc gfM_70 zob_62 dM_add_92 ?_
    refine za_iconst hc 1 dM_add_95 rfl ?_
    rw [zI_o (by decide), zI_sJ, zI_sJ, zI_sJ, hH.1]
    refine za_iadd hc dM_add_96 ?_
    rw [show nI ls.length + 1 = nI (ls.length + 1) from (nI_succ _).symm]
    refine za_putI hc gpM_70 zob_62 dM_add_97 ?_
    have e : ∀ j, dg (zsI (zput4 M 72 ls.length x y z s) 62 13 (nI (ls.length + 1))) 72 j = if j = ls.length then (x.toInt, y.toInt, z.toInt, s == 1) else dg M 72 j := fun j => zput4_dg
    refine za_vret hc rfl dM_add_100 ⟨Nat.zero_le _, Nat.zero_le _⟩ ⟨rfl, ?_, ?_, ?_, ?_⟩
    · rw [if_neg hne]
      refine ⟨by rw [zI_s, if_pos rfl, List.length_append]; rfl, by rw [List.length_append]; simp only [List.length_cons, List.length_nil]; omega, fun j q hq => ?_, ?_⟩
      · refine (e j).trans ?_
        by_cases c : j = ls.length
        · rw [if_pos c]
          rw [c, List.getElem?_append_right (Nat.le_refl _), Nat.sub_self] at hq
          exact Option.some.inj hq
        · rw [if_neg c]
          have hj : j < ls.length := by have := (List.getElem?_eq_some_iff.mp hq).1; rw [List.length_append] at this; simp only [List.length_cons, List.length_nil] at this; omega
          rw [List.getElem?_append_left hj] at hq
          exact hH.2.2.1 j q hq
      · exact zfr_bo (d := 72) (zfr_sI (P := m62) rfl) (by unfold m62; decide) (zput4_bo hH.2.2.2 hs)
    · rw [zI_s, if_neg (by decide)]; exact hnv
    · exact (mK_fr (P := dA 72) zput4_fr (by unfold dA; omega)).tr (mK_sI (by decide))
    · exact zp4_fA.tr (zfr_sI (Or.inl rfl))
  · skip
    have x0 : x.toInt = 0 := by rw [h_2]; rfl
    refine za_lload_n hc dM_add_6 rfl ?_
    refine za_lconst hc 0 dM_add_7 rfl ?_
    refine za_lcmp_ne 48 hc dM_add_8 dM_add_9 rfl (fun h_8 => ?_) (fun h_8 => ?_)
    · skip
      have hne : ¬ (x.toInt = 0 ∧ y.toInt = 0) := fun w => h_8 (Int64.toInt_inj.mp w.2)
      refine za_aload_n hc dM_add_48 rfl ?_
      refine za_getA hc gfM_41 zob_62 (p := 73) rfl dM_add_49 ?_
      refine za_aload_n hc dM_add_52 rfl ?_
      refine za_getI hc gfM_70 zob_62 dM_add_53 ?_
      rw [hH.1]
      refine za_lload_n hc dM_add_56 rfl ?_
      refine zm_last hc (by assumption) dM_add_57 (by omega) (by decide) ?_
      refine za_aload_n hc dM_add_58 rfl ?_
      refine za_getA hc gfM_45 zob_62 (p := 74) rfl dM_add_59 ?_
      refine za_aload_n hc dM_add_62 rfl ?_
      refine za_getI hc gfM_70 zob_62 dM_add_63 ?_
      rw [zI_sJ, hH.1]
      refine za_lload_n hc dM_add_66 rfl ?_
      refine zm_last hc (by assumption) dM_add_67 (by omega) (by decide) ?_
      refine za_aload_n hc dM_add_68 rfl ?_
      refine za_getA hc gfM_48 zob_62 (p := 75) rfl dM_add_69 ?_
      refine za_aload_n hc dM_add_72 rfl ?_
      refine za_getI hc gfM_70 zob_62 dM_add_73 ?_
      rw [zI_sJ, zI_sJ, hH.1]
      refine za_lload hc dM_add_76 rfl ?_
      refine zm_last hc (by assumption) dM_add_78 (by omega) (by decide) ?_
      refine za_aload_n hc dM_add_79 rfl ?_
      refine za_getA hc gfM_51 zob_62 (p := 76) rfl dM_add_80 ?_
      refine za_aload_n hc dM_add_83 rfl ?_
      refine za_getI hc gfM_70 zob_62 dM_add_84 ?_
      rw [zI_sJ, zI_sJ, zI_sJ, hH.1]
      refine za_iload hc dM_add_87 rfl ?_
      refine zm_zast hc (by assumption) dM_add_89 (by omega) (by decide) hs ?_
      refine za_aload_n hc dM_add_90 rfl ?_
      refine za_dup hc dM_add_91 rfl ?_
      refine za_getI hc gfM_70 zob_62 dM_add_92 ?_
      refine za_iconst hc 1 dM_add_95 rfl ?_
      rw [zI_o (by decide), zI_sJ, zI_sJ, zI_sJ, hH.1]
      refine za_iadd hc dM_add_96 ?_
      rw [show nI ls.length + 1 = nI (ls.length + 1) from (nI_succ _).symm]
      refine za_putI hc gpM_70 zob_62 dM_add_97 ?_
      have e : ∀ j, dg (zsI (zput4 M 72 ls.length x y z s) 62 13 (nI (ls.length + 1))) 72 j = if j = ls.length then (x.toInt, y.toInt, z.toInt, s == 1) else dg M 72 j := fun j => zput4_dg
      refine za_vret hc rfl dM_add_100 ⟨Nat.zero_le _, Nat.zero_le _⟩ ⟨rfl, ?_, ?_, ?_, ?_⟩
      · rw [if_neg hne]
        refine ⟨by rw [zI_s, if_pos rfl, List.length_append]; rfl, by rw [List.length_append]; simp only [List.length_cons, List.length_nil]; omega, fun j q hq => ?_, ?_⟩
        · refine (e j).trans ?_
          by_cases c : j = ls.length
          · rw [if_pos c]
            rw [c, List.getElem?_append_right (Nat.le_refl _), Nat.sub_self] at hq
            exact Option.some.inj hq
          · rw [if_neg c]
            have hj : j < ls.length := by have := (List.getElem?_eq_some_iff.mp hq).1; rw [List.length_append] at this; simp only [List.length_cons, List.length_nil] at this; omega
            rw [List.getElem?_append_left hj] at hq
            exact hH.2.2.1 j q hq
        · exact zfr_bo (d := 72) (zfr_sI (P := m62) rfl) (by unfold m62; decide) (zput4_bo hH.2.2.2 hs)
      · rw [zI_s, if_neg (by decide)]; exact hnv
      · exact (mK_fr (P := dA 72) zput4_fr (by unfold dA; omega)).tr (mK_sI (by decide))
      · exact zp4_fA.tr (zfr_sI (Or.inl rfl))
    · skip
      have y0 : y.toInt = 0 := by rw [h_8]; rfl
      have hz := hzz ⟨x0, y0⟩
      refine za_aload_n hc dM_add_12 rfl ?_
      refine za_aload_n hc dM_add_13 rfl ?_
      refine za_getI hc gfM_146 zob_62 dM_add_14 ?_
      refine za_if_ne 39 hc dM_add_17 rfl (fun h_17 => ?_) (fun h_17 => ?_)
      · skip
        exact absurd hnv h_17
      · skip
        refine za_lload hc dM_add_20 rfl ?_
        refine za_lconst hc 0 dM_add_22 rfl ?_
        refine za_lcmp_lt 39 hc dM_add_23 dM_add_24 rfl (fun h_23 => ?_) (fun h_23 => ?_)
        · skip
          exact absurd (Int64.lt_iff_toInt_lt.mp h_23) (Int.not_lt.mpr hz.1)
        · skip
          refine za_lload hc dM_add_27 rfl ?_
          refine za_lconst hc 0 dM_add_29 rfl ?_
          refine za_lcmp_ne 43 hc dM_add_30 dM_add_31 rfl (fun h_30 => ?_) (fun h_30 => ?_)
          · skip
            refine za_iconst hc 0 dM_add_43 rfl ?_
            refine za_putZ hc gpM_146 zob_62 (nz01 (by first | exact Or.inl rfl | exact Or.inr rfl)) dM_add_44 ?_
            exact za_vret hc rfl dM_add_47 ⟨Nat.zero_le _, Nat.zero_le _⟩ (⟨rfl, by rw [if_pos ⟨x0, y0⟩]; exact mH_62 hH (zfr_sI (P := m62) rfl) (by rw [zI_s, if_neg (by decide)]), by rw [zI_s, if_pos rfl], mK_sI (by decide), zfr_sI (Or.inl rfl)⟩)
          · skip
            have z0 : z.toInt = 0 := by rw [h_30]; rfl
            refine za_iload hc dM_add_34 rfl ?_
            refine za_if_eq 43 hc dM_add_36 rfl (fun h_36 => ?_) (fun h_36 => ?_)
            · skip
              refine za_iconst hc 0 dM_add_43 rfl ?_
              refine za_putZ hc gpM_146 zob_62 (nz01 (by first | exact Or.inl rfl | exact Or.inr rfl)) dM_add_44 ?_
              exact za_vret hc rfl dM_add_47 ⟨Nat.zero_le _, Nat.zero_le _⟩ (⟨rfl, by rw [if_pos ⟨x0, y0⟩]; exact mH_62 hH (zfr_sI (P := m62) rfl) (by rw [zI_s, if_neg (by decide)]), by rw [zI_s, if_pos rfl], mK_sI (by decide), zfr_sI (Or.inl rfl)⟩)
            · skip
              exact absurd (hz.2 z0) h_36

def gbf (p q : gC) : Prop := p.1 < q.1 ∨ (p.1 = q.1 ∧ (p.2.1 < q.2.1 ∨ (p.2.1 = q.2.1 ∧ (p.2.2.1 < q.2.2.1 ∨ (p.2.2.1 = q.2.2.1 ∧ p.2.2.2 = false ∧ q.2.2.2 = true)))))
theorem gbf_s {p q : gC} (h : p.1 = q.1) (h2 : p.2.1 = q.2.1) (h3 : p.2.2.1 = q.2.2.1) : gbf p q ↔ p.2.2.2 = false ∧ q.2.2.2 = true := by
  unfold gbf
  constructor
  · rintro (z | ⟨-, z | ⟨-, z | z⟩⟩)
    · omega
    · omega
    · omega
    · exact z.2
  · exact fun z => Or.inr ⟨h, Or.inr ⟨h2, Or.inr ⟨h3, z⟩⟩⟩

set_option maxRecDepth 100000 in
set_option maxHeartbeats 4000000 in
theorem cM_isBefore_ (l : Launch) {i j : Nat} (M : zM) (hi : i < 80) (hj : j < 80) (hb : zbo M 72) : zMet l mM_isBefore rM_isBefore [.ref 62, .int (nI i), .int (nI j)] M (zqi (fun x M' => (x = 0 ∨ x = 1) ∧ (x = 1 ↔ gbf (dg M 72 i) (dg M 72 j)) ∧ M' = M)) := by
  refine za_enter (by decide) (Nat.le_of_ble_eq_true rfl) (fun X hc => ?_)
  have a73 := ar_73
  have a74 := ar_74
  have a75 := ar_75
  have a76 := ar_76
  refine za_aload_n hc dM_isBefore_0 rfl ?_
  refine za_getA hc gfM_41 zob_62 (p := 73) rfl dM_isBefore_1 ?_
  refine za_iload_n hc dM_isBefore_4 rfl ?_
  refine zm_lald hc (by assumption) dM_isBefore_5 (by omega) (by decide) ?_
  refine za_aload_n hc dM_isBefore_6 rfl ?_
  refine za_getA hc gfM_41 zob_62 (p := 73) rfl dM_isBefore_7 ?_
  refine za_iload_n hc dM_isBefore_10 rfl ?_
  refine zm_lald hc (by assumption) dM_isBefore_11 (by omega) (by decide) ?_
  refine za_lcmp_eq 38 hc dM_isBefore_12 dM_isBefore_13 rfl (fun h_12 => ?_) (fun h_12 => ?_)
  · skip
    have e_12 : (dg M 72 i).1 = (dg M 72 j).1 := by show (zJ M 73 i).toInt = (zJ M 73 j).toInt; rw [h_12]
    refine za_aload_n hc dM_isBefore_38 rfl ?_
    refine za_getA hc gfM_45 zob_62 (p := 74) rfl dM_isBefore_39 ?_
    refine za_iload_n hc dM_isBefore_42 rfl ?_
    refine zm_lald hc (by assumption) dM_isBefore_43 (by omega) (by decide) ?_
    refine za_aload_n hc dM_isBefore_44 rfl ?_
    refine za_getA hc gfM_45 zob_62 (p := 74) rfl dM_isBefore_45 ?_
    refine za_iload_n hc dM_isBefore_48 rfl ?_
    refine zm_lald hc (by assumption) dM_isBefore_49 (by omega) (by decide) ?_
    refine za_lcmp_eq 76 hc dM_isBefore_50 dM_isBefore_51 rfl (fun h_50 => ?_) (fun h_50 => ?_)
    · skip
      have e_50 : (dg M 72 i).2.1 = (dg M 72 j).2.1 := by show (zJ M 74 i).toInt = (zJ M 74 j).toInt; rw [h_50]
      refine za_aload_n hc dM_isBefore_76 rfl ?_
      refine za_getA hc gfM_48 zob_62 (p := 75) rfl dM_isBefore_77 ?_
      refine za_iload_n hc dM_isBefore_80 rfl ?_
      refine zm_lald hc (by assumption) dM_isBefore_81 (by omega) (by decide) ?_
      refine za_aload_n hc dM_isBefore_82 rfl ?_
      refine za_getA hc gfM_48 zob_62 (p := 75) rfl dM_isBefore_83 ?_
      refine za_iload_n hc dM_isBefore_86 rfl ?_
      refine zm_lald hc (by assumption) dM_isBefore_87 (by omega) (by decide) ?_
      refine za_lcmp_eq 114 hc dM_isBefore_88 dM_isBefore_89 rfl (fun h_88 => ?_) (fun h_88 => ?_)
      · skip
        have e_88 : (dg M 72 i).2.2.1 = (dg M 72 j).2.2.1 := by show (zJ M 75 i).toInt = (zJ M 75 j).toInt; rw [h_88]
        refine za_aload_n hc dM_isBefore_114 rfl ?_
        refine za_getA hc gfM_51 zob_62 (p := 76) rfl dM_isBefore_115 ?_
        refine za_iload_n hc dM_isBefore_118 rfl ?_
        refine zm_zald hc (by assumption) dM_isBefore_119 (by omega) (by decide) ?_
        refine za_if_ne 136 hc dM_isBefore_120 rfl (fun h_120 => ?_) (fun h_120 => ?_)
        · skip
          have s1 : (dg M 72 i).2.2.2 = true := by show (zI M 76 i == 1) = true; rw [(hb i).resolve_left h_120]; rfl
          have hno : ¬ gbf (dg M 72 i) (dg M 72 j) := by rw [gbf_s e_12 e_50 e_88, s1]; simp
          refine za_iconst hc 0 dM_isBefore_136 rfl ?_
          exact za_zret hc rfl (rfl) dM_isBefore_137 ⟨Nat.zero_le _, Nat.zero_le _⟩ (by first | exact ⟨_, rfl, Or.inr rfl, ⟨fun _ => hyes, fun _ => rfl⟩, rfl⟩ | exact ⟨_, rfl, Or.inl rfl, ⟨fun w => absurd w (by decide), fun w => absurd w hno⟩, rfl⟩ | exact ⟨_, rfl, Or.inr rfl, ⟨fun _ => (by unfold gbf; omega), fun _ => rfl⟩, rfl⟩ | exact ⟨_, rfl, Or.inl rfl, ⟨fun w => absurd w (by decide), fun w => absurd w (by unfold gbf; omega)⟩, rfl⟩)
        · skip
          have s1 : (dg M 72 i).2.2.2 = false := by show (zI M 76 i == 1) = false; rw [h_120]; rfl
          refine za_aload_n hc dM_isBefore_123 rfl ?_
          refine za_getA hc gfM_51 zob_62 (p := 76) rfl dM_isBefore_124 ?_
          refine za_iload_n hc dM_isBefore_127 rfl ?_
          refine zm_zald hc (by assumption) dM_isBefore_128 (by omega) (by decide) ?_
          refine za_if_eq 136 hc dM_isBefore_129 rfl (fun h_129 => ?_) (fun h_129 => ?_)
          · skip
            have hno : ¬ gbf (dg M 72 i) (dg M 72 j) := by
              have s2 : (dg M 72 j).2.2.2 = false := by show (zI M 76 j == 1) = false; rw [h_129]; rfl
              rw [gbf_s e_12 e_50 e_88, s2]; simp
            refine za_iconst hc 0 dM_isBefore_136 rfl ?_
            exact za_zret hc rfl (rfl) dM_isBefore_137 ⟨Nat.zero_le _, Nat.zero_le _⟩ (by first | exact ⟨_, rfl, Or.inr rfl, ⟨fun _ => hyes, fun _ => rfl⟩, rfl⟩ | exact ⟨_, rfl, Or.inl rfl, ⟨fun w => absurd w (by decide), fun w => absurd w hno⟩, rfl⟩ | exact ⟨_, rfl, Or.inr rfl, ⟨fun _ => (by unfold gbf; omega), fun _ => rfl⟩, rfl⟩ | exact ⟨_, rfl, Or.inl rfl, ⟨fun w => absurd w (by decide), fun w => absurd w (by unfold gbf; omega)⟩, rfl⟩)
          · skip
            have hyes : gbf (dg M 72 i) (dg M 72 j) := by
              have s2 : (dg M 72 j).2.2.2 = true := by show (zI M 76 j == 1) = true; rw [(hb j).resolve_left h_129]; rfl
              rw [gbf_s e_12 e_50 e_88]; exact ⟨s1, s2⟩
            refine za_iconst hc 1 dM_isBefore_132 rfl ?_
            refine za_goto 137 hc dM_isBefore_133 rfl ?_
            exact za_zret hc rfl (rfl) dM_isBefore_137 ⟨Nat.zero_le _, Nat.zero_le _⟩ (by first | exact ⟨_, rfl, Or.inr rfl, ⟨fun _ => hyes, fun _ => rfl⟩, rfl⟩ | exact ⟨_, rfl, Or.inl rfl, ⟨fun w => absurd w (by decide), fun w => absurd w hno⟩, rfl⟩ | exact ⟨_, rfl, Or.inr rfl, ⟨fun _ => (by unfold gbf; omega), fun _ => rfl⟩, rfl⟩ | exact ⟨_, rfl, Or.inl rfl, ⟨fun w => absurd w (by decide), fun w => absurd w (by unfold gbf; omega)⟩, rfl⟩)
      · skip
        have n_88 : (dg M 72 i).2.2.1 ≠ (dg M 72 j).2.2.1 := fun z => h_88 (Int64.toInt_inj.mp z)
        refine za_aload_n hc dM_isBefore_92 rfl ?_
        refine za_getA hc gfM_48 zob_62 (p := 75) rfl dM_isBefore_93 ?_
        refine za_iload_n hc dM_isBefore_96 rfl ?_
        refine zm_lald hc (by assumption) dM_isBefore_97 (by omega) (by decide) ?_
        refine za_aload_n hc dM_isBefore_98 rfl ?_
        refine za_getA hc gfM_48 zob_62 (p := 75) rfl dM_isBefore_99 ?_
        refine za_iload_n hc dM_isBefore_102 rfl ?_
        refine zm_lald hc (by assumption) dM_isBefore_103 (by omega) (by decide) ?_
        refine za_lcmp_ge 112 hc dM_isBefore_104 dM_isBefore_105 rfl (fun h_104 => ?_) (fun h_104 => ?_)
        · skip
          have l_88 : (dg M 72 j).2.2.1 ≤ (dg M 72 i).2.2.1 := Int64.le_iff_toInt_le.mp h_104
          refine za_iconst hc 0 dM_isBefore_112 rfl ?_
          exact za_zret hc rfl (rfl) dM_isBefore_113 ⟨Nat.zero_le _, Nat.zero_le _⟩ (by first | exact ⟨_, rfl, Or.inr rfl, ⟨fun _ => hyes, fun _ => rfl⟩, rfl⟩ | exact ⟨_, rfl, Or.inl rfl, ⟨fun w => absurd w (by decide), fun w => absurd w hno⟩, rfl⟩ | exact ⟨_, rfl, Or.inr rfl, ⟨fun _ => (by unfold gbf; omega), fun _ => rfl⟩, rfl⟩ | exact ⟨_, rfl, Or.inl rfl, ⟨fun w => absurd w (by decide), fun w => absurd w (by unfold gbf; omega)⟩, rfl⟩)
        · skip
          have l_88 : ¬ (dg M 72 j).2.2.1 ≤ (dg M 72 i).2.2.1 := fun z => h_104 (Int64.le_iff_toInt_le.mpr z)
          refine za_iconst hc 1 dM_isBefore_108 rfl ?_
          refine za_goto 113 hc dM_isBefore_109 rfl ?_
          exact za_zret hc rfl (rfl) dM_isBefore_113 ⟨Nat.zero_le _, Nat.zero_le _⟩ (by first | exact ⟨_, rfl, Or.inr rfl, ⟨fun _ => hyes, fun _ => rfl⟩, rfl⟩ | exact ⟨_, rfl, Or.inl rfl, ⟨fun w => absurd w (by decide), fun w => absurd w hno⟩, rfl⟩ | exact ⟨_, rfl, Or.inr rfl, ⟨fun _ => (by unfold gbf; omega), fun _ => rfl⟩, rfl⟩ | exact ⟨_, rfl, Or.inl rfl, ⟨fun w => absurd w (by decide), fun w => absurd w (by unfold gbf; omega)⟩, rfl⟩)
    · skip
      have n_50 : (dg M 72 i).2.1 ≠ (dg M 72 j).2.1 := fun z => h_50 (Int64.toInt_inj.mp z)
      refine za_aload_n hc dM_isBefore_54 rfl ?_
      refine za_getA hc gfM_45 zob_62 (p := 74) rfl dM_isBefore_55 ?_
      refine za_iload_n hc dM_isBefore_58 rfl ?_
      refine zm_lald hc (by assumption) dM_isBefore_59 (by omega) (by decide) ?_
      refine za_aload_n hc dM_isBefore_60 rfl ?_
      refine za_getA hc gfM_45 zob_62 (p := 74) rfl dM_isBefore_61 ?_
      refine za_iload_n hc dM_isBefore_64 rfl ?_
      refine zm_lald hc (by assumption) dM_isBefore_65 (by omega) (by decide) ?_
      refine za_lcmp_ge 74 hc dM_isBefore_66 dM_isBefore_67 rfl (fun h_66 => ?_) (fun h_66 => ?_)
      · skip
        have l_50 : (dg M 72 j).2.1 ≤ (dg M 72 i).2.1 := Int64.le_iff_toInt_le.mp h_66
        refine za_iconst hc 0 dM_isBefore_74 rfl ?_
        exact za_zret hc rfl (rfl) dM_isBefore_75 ⟨Nat.zero_le _, Nat.zero_le _⟩ (by first | exact ⟨_, rfl, Or.inr rfl, ⟨fun _ => hyes, fun _ => rfl⟩, rfl⟩ | exact ⟨_, rfl, Or.inl rfl, ⟨fun w => absurd w (by decide), fun w => absurd w hno⟩, rfl⟩ | exact ⟨_, rfl, Or.inr rfl, ⟨fun _ => (by unfold gbf; omega), fun _ => rfl⟩, rfl⟩ | exact ⟨_, rfl, Or.inl rfl, ⟨fun w => absurd w (by decide), fun w => absurd w (by unfold gbf; omega)⟩, rfl⟩)
      · skip
        have l_50 : ¬ (dg M 72 j).2.1 ≤ (dg M 72 i).2.1 := fun z => h_66 (Int64.le_iff_toInt_le.mpr z)
        refine za_iconst hc 1 dM_isBefore_70 rfl ?_
        refine za_goto 75 hc dM_isBefore_71 rfl ?_
        exact za_zret hc rfl (rfl) dM_isBefore_75 ⟨Nat.zero_le _, Nat.zero_le _⟩ (by first | exact ⟨_, rfl, Or.inr rfl, ⟨fun _ => hyes, fun _ => rfl⟩, rfl⟩ | exact ⟨_, rfl, Or.inl rfl, ⟨fun w => absurd w (by decide), fun w => absurd w hno⟩, rfl⟩ | exact ⟨_, rfl, Or.inr rfl, ⟨fun _ => (by unfold gbf; omega), fun _ => rfl⟩, rfl⟩ | exact ⟨_, rfl, Or.inl rfl, ⟨fun w => absurd w (by decide), fun w => absurd w (by unfold gbf; omega)⟩, rfl⟩)
  · skip
    have n_12 : (dg M 72 i).1 ≠ (dg M 72 j).1 := fun z => h_12 (Int64.toInt_inj.mp z)
    refine za_aload_n hc dM_isBefore_16 rfl ?_
    refine za_getA hc gfM_41 zob_62 (p := 73) rfl dM_isBefore_17 ?_
    refine za_iload_n hc dM_isBefore_20 rfl ?_
    refine zm_lald hc (by assumption) dM_isBefore_21 (by omega) (by decide) ?_
    refine za_aload_n hc dM_isBefore_22 rfl ?_
    refine za_getA hc gfM_41 zob_62 (p := 73) rfl dM_isBefore_23 ?_
    refine za_iload_n hc dM_isBefore_26 rfl ?_
    refine zm_lald hc (by assumption) dM_isBefore_27 (by omega) (by decide) ?_
    refine za_lcmp_ge 36 hc dM_isBefore_28 dM_isBefore_29 rfl (fun h_28 => ?_) (fun h_28 => ?_)
    · skip
      have l_12 : (dg M 72 j).1 ≤ (dg M 72 i).1 := Int64.le_iff_toInt_le.mp h_28
      refine za_iconst hc 0 dM_isBefore_36 rfl ?_
      exact za_zret hc rfl (rfl) dM_isBefore_37 ⟨Nat.zero_le _, Nat.zero_le _⟩ (by first | exact ⟨_, rfl, Or.inr rfl, ⟨fun _ => hyes, fun _ => rfl⟩, rfl⟩ | exact ⟨_, rfl, Or.inl rfl, ⟨fun w => absurd w (by decide), fun w => absurd w hno⟩, rfl⟩ | exact ⟨_, rfl, Or.inr rfl, ⟨fun _ => (by unfold gbf; omega), fun _ => rfl⟩, rfl⟩ | exact ⟨_, rfl, Or.inl rfl, ⟨fun w => absurd w (by decide), fun w => absurd w (by unfold gbf; omega)⟩, rfl⟩)
    · skip
      have l_12 : ¬ (dg M 72 j).1 ≤ (dg M 72 i).1 := fun z => h_28 (Int64.le_iff_toInt_le.mpr z)
      refine za_iconst hc 1 dM_isBefore_32 rfl ?_
      refine za_goto 37 hc dM_isBefore_33 rfl ?_
      exact za_zret hc rfl (rfl) dM_isBefore_37 ⟨Nat.zero_le _, Nat.zero_le _⟩ (by first | exact ⟨_, rfl, Or.inr rfl, ⟨fun _ => hyes, fun _ => rfl⟩, rfl⟩ | exact ⟨_, rfl, Or.inl rfl, ⟨fun w => absurd w (by decide), fun w => absurd w hno⟩, rfl⟩ | exact ⟨_, rfl, Or.inr rfl, ⟨fun _ => (by unfold gbf; omega), fun _ => rfl⟩, rfl⟩ | exact ⟨_, rfl, Or.inl rfl, ⟨fun w => absurd w (by decide), fun w => absurd w (by unfold gbf; omega)⟩, rfl⟩)

set_option maxRecDepth 100000 in
set_option maxHeartbeats 4000000 in
theorem cM_swap_ (l : Launch) {i j : Nat} (M : zM) (hi : i < 80) (hj : j < 80) (hb : zbo M 72) : zMet l mM_swap rM_swap [.ref 62, .int (nI i), .int (nI j)] M (zqv (fun M' => (∀ t, dg M' 72 t = if t = j then dg M 72 i else if t = i then dg M 72 j else dg M 72 t) ∧ zbo M' 72 ∧ zfr (dA 72) M M')) := by
  refine za_enter (by decide) (Nat.le_of_ble_eq_true rfl) (fun X hc => ?_)
  have a73 := ar_73
  have a74 := ar_74
  have a75 := ar_75
  have a76 := ar_76
  refine za_aload_n hc dM_swap_0 rfl ?_
  refine za_getA hc gfM_41 zob_62 (p := 73) rfl dM_swap_1 ?_
  refine za_iload_n hc dM_swap_4 rfl ?_
  refine zm_lald hc (by assumption) dM_swap_5 (by omega) (by decide) ?_
  refine za_lstore_n hc dM_swap_6 (by decide) ?_
  refine za_aload_n hc dM_swap_7 rfl ?_
  refine za_getA hc gfM_41 zob_62 (p := 73) rfl dM_swap_8 ?_
  refine za_iload_n hc dM_swap_11 rfl ?_
  refine za_aload_n hc dM_swap_12 rfl ?_
  refine za_getA hc gfM_41 zob_62 (p := 73) rfl dM_swap_13 ?_
  refine za_iload_n hc dM_swap_16 rfl ?_
  refine zm_lald hc (by assumption) dM_swap_17 (by omega) (by decide) ?_
  refine zm_last hc (by assumption) dM_swap_18 (by omega) (by decide) ?_
  refine za_aload_n hc dM_swap_19 rfl ?_
  refine za_getA hc gfM_41 zob_62 (p := 73) rfl dM_swap_20 ?_
  refine za_iload_n hc dM_swap_23 rfl ?_
  refine za_lload_n hc dM_swap_24 rfl ?_
  refine zm_last hc (by assumption) dM_swap_25 (by omega) (by decide) ?_
  refine za_aload_n hc dM_swap_26 rfl ?_
  refine za_getA hc gfM_45 zob_62 (p := 74) rfl dM_swap_27 ?_
  refine za_iload_n hc dM_swap_30 rfl ?_
  refine zm_lald hc (by assumption) dM_swap_31 (by omega) (by decide) ?_
  rw [zJ_o (by decide), zJ_o (by decide)]
  refine za_lstore_n hc dM_swap_32 (by decide) ?_
  refine za_aload_n hc dM_swap_33 rfl ?_
  refine za_getA hc gfM_45 zob_62 (p := 74) rfl dM_swap_34 ?_
  refine za_iload_n hc dM_swap_37 rfl ?_
  refine za_aload_n hc dM_swap_38 rfl ?_
  refine za_getA hc gfM_45 zob_62 (p := 74) rfl dM_swap_39 ?_
  refine za_iload_n hc dM_swap_42 rfl ?_
  refine zm_lald hc (by assumption) dM_swap_43 (by omega) (by decide) ?_
  rw [zJ_o (by decide), zJ_o (by decide)]
  refine zm_last hc (by assumption) dM_swap_44 (by omega) (by decide) ?_
  refine za_aload_n hc dM_swap_45 rfl ?_
  refine za_getA hc gfM_45 zob_62 (p := 74) rfl dM_swap_46 ?_
  refine za_iload_n hc dM_swap_49 rfl ?_
  refine za_lload_n hc dM_swap_50 rfl ?_
  refine zm_last hc (by assumption) dM_swap_51 (by omega) (by decide) ?_
  refine za_aload_n hc dM_swap_52 rfl ?_
  refine za_getA hc gfM_48 zob_62 (p := 75) rfl dM_swap_53 ?_
  refine za_iload_n hc dM_swap_56 rfl ?_
  refine zm_lald hc (by assumption) dM_swap_57 (by omega) (by decide) ?_
  rw [zJ_o (by decide), zJ_o (by decide), zJ_o (by decide), zJ_o (by decide)]
  refine za_lstore_n hc dM_swap_58 (by decide) ?_
  refine za_aload_n hc dM_swap_59 rfl ?_
  refine za_getA hc gfM_48 zob_62 (p := 75) rfl dM_swap_60 ?_
  refine za_iload_n hc dM_swap_63 rfl ?_
  refine za_aload_n hc dM_swap_64 rfl ?_
  refine za_getA hc gfM_48 zob_62 (p := 75) rfl dM_swap_65 ?_
  refine za_iload_n hc dM_swap_68 rfl ?_
  refine zm_lald hc (by assumption) dM_swap_69 (by omega) (by decide) ?_
  rw [zJ_o (by decide), zJ_o (by decide), zJ_o (by decide), zJ_o (by decide)]
  refine zm_last hc (by assumption) dM_swap_70 (by omega) (by decide) ?_
  refine za_aload_n hc dM_swap_71 rfl ?_
  refine za_getA hc gfM_48 zob_62 (p := 75) rfl dM_swap_72 ?_
  refine za_iload_n hc dM_swap_75 rfl ?_
  refine za_lload_n hc dM_swap_76 rfl ?_
  refine zm_last hc (by assumption) dM_swap_77 (by omega) (by decide) ?_
  refine za_aload_n hc dM_swap_78 rfl ?_
  refine za_getA hc gfM_51 zob_62 (p := 76) rfl dM_swap_79 ?_
  refine za_iload_n hc dM_swap_82 rfl ?_
  refine zm_zald hc (by assumption) dM_swap_83 (by omega) (by decide) ?_
  rw [zI_sJ, zI_sJ, zI_sJ, zI_sJ, zI_sJ, zI_sJ]
  refine za_istore hc dM_swap_84 (by decide) ?_
  refine za_aload_n hc dM_swap_86 rfl ?_
  refine za_getA hc gfM_51 zob_62 (p := 76) rfl dM_swap_87 ?_
  refine za_iload_n hc dM_swap_90 rfl ?_
  refine za_aload_n hc dM_swap_91 rfl ?_
  refine za_getA hc gfM_51 zob_62 (p := 76) rfl dM_swap_92 ?_
  refine za_iload_n hc dM_swap_95 rfl ?_
  refine zm_zald hc (by assumption) dM_swap_96 (by omega) (by decide) ?_
  rw [zI_sJ, zI_sJ, zI_sJ, zI_sJ, zI_sJ, zI_sJ]
  refine zm_zast hc (by assumption) dM_swap_97 (by omega) (by decide) (hb j) ?_
  refine za_aload_n hc dM_swap_98 rfl ?_
  refine za_getA hc gfM_51 zob_62 (p := 76) rfl dM_swap_99 ?_
  refine za_iload_n hc dM_swap_102 rfl ?_
  refine za_iload hc dM_swap_103 rfl ?_
  refine zm_zast hc (by assumption) dM_swap_105 (by omega) (by decide) (hb i) ?_
  generalize hM2 : zsI (zsI (zsJ (zsJ (zsJ (zsJ (zsJ (zsJ M 73 i (zJ M 73 j)) 73 j (zJ M 73 i)) 74 i (zJ M 74 j)) 74 j (zJ M 74 i)) 75 i (zJ M 75 j)) 75 j (zJ M 75 i)) 76 i (zI M 76 j)) 76 j (zI M 76 i) = M2
  replace hM2 := hM2.symm
  refine za_vret hc rfl dM_swap_106 ⟨Nat.zero_le _, Nat.zero_le _⟩ ⟨rfl, fun t => ?_, fun t => ?_, ?_⟩
  · have eA : ∀ n, n = 73 ∨ n = 74 ∨ n = 75 → zJ M2 n t = if t = j then zJ M n i else if t = i then zJ M n j else zJ M n t := fun n hn => by
      rcases hn with rfl | rfl | rfl
      · rw [hM2, zJ_sI, zJ_sI, zJ_o (by decide), zJ_o (by decide), zJ_o (by decide), zJ_o (by decide), zJ_s, zJ_s]
      · rw [hM2, zJ_sI, zJ_sI, zJ_o (by decide), zJ_o (by decide), zJ_s, zJ_s, zJ_o (by decide), zJ_o (by decide)]
      · rw [hM2, zJ_sI, zJ_sI, zJ_s, zJ_s, zJ_o (by decide), zJ_o (by decide), zJ_o (by decide), zJ_o (by decide)]
    have eS : zI M2 76 t = if t = j then zI M 76 i else if t = i then zI M 76 j else zI M 76 t := by rw [hM2, zI_s, zI_s, zI_sJ, zI_sJ, zI_sJ, zI_sJ, zI_sJ, zI_sJ]
    show ((zJ M2 73 t).toInt, (zJ M2 74 t).toInt, (zJ M2 75 t).toInt, zI M2 76 t == 1) = _
    rw [eA 73 (by decide), eA 74 (by decide), eA 75 (by decide), eS]
    by_cases c1 : t = j
    · simp only [if_pos c1]; rfl
    · simp only [if_neg c1]
      by_cases c2 : t = i
      · simp only [if_pos c2]; rfl
      · simp only [if_neg c2]; rfl
  · show zI M2 76 t = 0 ∨ zI M2 76 t = 1
    rw [hM2, zI_s, zI_s, zI_sJ, zI_sJ, zI_sJ, zI_sJ, zI_sJ, zI_sJ]
    split
    · exact hb i
    · split
      · exact hb j
      · exact hb t
  · rw [hM2]; exact (zfr_sJ (P := dA 72) (by unfold dA; decide)).tr ((zfr_sJ (P := dA 72) (by unfold dA; decide)).tr ((zfr_sJ (P := dA 72) (by unfold dA; decide)).tr ((zfr_sJ (P := dA 72) (by unfold dA; decide)).tr ((zfr_sJ (P := dA 72) (by unfold dA; decide)).tr ((zfr_sJ (P := dA 72) (by unfold dA; decide)).tr ((zfr_sI (P := dA 72) (by unfold dA; decide)).tr (zfr_sI (P := dA 72) (by unfold dA; decide))))))))

theorem mH_swap {M M' : zM} {A B : List gC} {p q : gC} {i j : Nat} (h : mH M (A ++ p :: q :: B)) (hij : (i = A.length ∧ j = A.length + 1) ∨ (i = A.length + 1 ∧ j = A.length)) (hd : ∀ t, dg M' 72 t = if t = j then dg M 72 i else if t = i then dg M 72 j else dg M 72 t) (hb : zbo M' 72) (h0 : zI M' 62 13 = zI M 62 13) : mH M' (A ++ q :: p :: B) := by
  have el : (A ++ q :: p :: B).length = (A ++ p :: q :: B).length := by simp
  have g0 : ∀ (x y : gC), (A ++ x :: y :: B)[A.length]? = some x := fun x y => by rw [List.getElem?_append_right (Nat.le_refl _), Nat.sub_self]; rfl
  have g1 : ∀ (x y : gC), (A ++ x :: y :: B)[A.length + 1]? = some y := fun x y => by rw [List.getElem?_append_right (by omega), show A.length + 1 - A.length = 1 by omega]; rfl
  refine ⟨by rw [h0, el]; exact h.1, by rw [el]; exact h.2.1, fun t r hr => ?_, hb⟩
  have d0 := h.2.2.1 _ _ (g0 p q)
  have d1 := h.2.2.1 _ _ (g1 p q)
  rw [hd t]
  by_cases c0 : t = A.length
  · rw [c0, g0 q p] at hr; cases hr
    rcases hij with ⟨rfl, rfl⟩ | ⟨rfl, rfl⟩
    · rw [if_neg (by omega), if_pos c0]; exact d1
    · rw [if_pos c0]; exact d1
  · by_cases c1 : t = A.length + 1
    · rw [c1, g1 q p] at hr; cases hr
      rcases hij with ⟨rfl, rfl⟩ | ⟨rfl, rfl⟩
      · rw [if_pos c1]; exact d0
      · rw [if_neg (by omega), if_pos c1]; exact d0
    · rw [if_neg (by rcases hij with z | z <;> omega), if_neg (by rcases hij with z | z <;> omega)]
      apply h.2.2.1 t r
      by_cases c2 : t < A.length
      · rw [List.getElem?_append_left c2] at hr ⊢; exact hr
      · rw [List.getElem?_append_right (by omega)] at hr ⊢
        obtain ⟨n, hn⟩ : ∃ n, t - A.length = n + 2 := ⟨t - A.length - 2, by omega⟩
        rw [hn] at hr ⊢; exact hr
theorem mK_dA {I : List Nat} {M M' : zM} (h : zfr (dA 72) M M') : mK I M M' := mK_fr h (by unfold dA; omega)
theorem dA_mA {M M' : zM} (h : zfr (dA 72) M M') : zfr mA M M' := h.wk (fun k z => Or.inr ⟨z.1, z.2⟩)

set_option maxRecDepth 100000 in
set_option maxHeartbeats 4000000 in
theorem cM_remove_ (l : Launch) {A0 B0 : List gC} {m : gC} (M : zM) (hH : mH M (A0 ++ m :: B0)) : zMet l mM_remove rM_remove [.ref 62, .int (nI A0.length)] M (zqv (fun M' => mH M' (A0 ++ B0) ∧ mK [13] M M' ∧ zfr mA M M')) := by
  refine za_enter (by decide) (Nat.le_of_ble_eq_true rfl) (fun X hc => ?_)
  have a73 := ar_73
  have a74 := ar_74
  have a75 := ar_75
  have a76 := ar_76
  have hlen := hH.2.1
  rw [List.length_append, List.length_cons] at hlen
  have loop : ∀ (B : List gC) (A : List gC) (k : Nat) (M1 : zM), A ++ B = A0 ++ B0 → k = A.length → mH M1 (A ++ m :: B) → mK [13] M M1 → zfr mA M M1 → zW X (zqv (fun M' => mH M' (A0 ++ B0) ∧ mK [13] M M' ∧ zfr mA M M')) (0, 0) 2 [(0, .ref 62), (1, .int (nI A0.length)), (2, .int (nI k))] [] M1 := by
    intro B
    induction B with
    | nil =>
      intro A k M1 hAB hk hm hk1 hf1
      have hml := hm.2.1
      have hl2 : (A ++ [m]).length = k + 1 := by rw [List.length_append, hk]; rfl
      rw [hl2] at hml
      refine za_iload_n hc dM_remove_2 rfl ?_
      refine za_iconst hc 1 dM_remove_3 rfl ?_
      refine za_iadd hc dM_remove_4 ?_
      rw [show nI k + 1 = nI (k + 1) from (nI_succ k).symm]
      refine za_aload_n hc dM_remove_5 rfl ?_
      refine za_getI hc gfM_70 zob_62 dM_remove_6 ?_
      rw [hm.1, hl2]
      refine za_icmp_ge 26 hc dM_remove_9 rfl (fun h_9 => ?_) (fun h_9 => ?_)
      · skip
        refine za_aload_n hc dM_remove_26 rfl ?_
        refine za_dup hc dM_remove_27 rfl ?_
        refine za_getI hc gfM_70 zob_62 dM_remove_28 ?_
        refine za_iconst hc 1 dM_remove_31 rfl ?_
        rw [hm.1, hl2]
        refine za_isub hc dM_remove_32 ?_
        rw [show (1 : Int32) = nI 1 from rfl, pk_sub (by omega)]
        refine za_putI hc gpM_70 zob_62 dM_remove_33 ?_
        refine za_vret hc rfl dM_remove_36 ⟨Nat.zero_le _, Nat.zero_le _⟩ ⟨rfl, ?_, hk1.tr (mK_sI (by decide)), hf1.tr (zfr_sI (Or.inl rfl))⟩
        rw [List.append_nil] at hAB
        refine ⟨by rw [zI_s, if_pos rfl, ← hAB, hk]; rfl, by rw [← hAB]; omega, fun j q hq => ?_, zfr_bo (d := 72) (zfr_sI (P := m62) rfl) (by unfold m62; decide) hm.2.2.2⟩
        rw [← hAB] at hq
        exact hm.2.2.1 j q (by rw [List.getElem?_append_left (List.getElem?_eq_some_iff.mp hq).1]; exact hq)
      · skip
        exact absurd (Int32.le_refl _) h_9
    | cons b B ih =>
      intro A k M1 hAB hk hm hk1 hf1
      have hml := hm.2.1
      have hl2 : (A ++ m :: b :: B).length = k + 2 + B.length := by rw [List.length_append, hk]; simp only [List.length_cons]; omega
      rw [hl2] at hml
      refine za_iload_n hc dM_remove_2 rfl ?_
      refine za_iconst hc 1 dM_remove_3 rfl ?_
      refine za_iadd hc dM_remove_4 ?_
      rw [show nI k + 1 = nI (k + 1) from (nI_succ k).symm]
      refine za_aload_n hc dM_remove_5 rfl ?_
      refine za_getI hc gfM_70 zob_62 dM_remove_6 ?_
      rw [hm.1, hl2]
      refine za_icmp_ge 26 hc dM_remove_9 rfl (fun h_9 => ?_) (fun h_9 => ?_)
      · skip
        exact absurd ((nI_leI (by omega) (by omega)).mp h_9) (by omega)
      · skip
        refine za_aload_n hc dM_remove_12 rfl ?_
        refine za_iload_n hc dM_remove_13 rfl ?_
        refine za_iload_n hc dM_remove_14 rfl ?_
        refine za_iconst hc 1 dM_remove_15 rfl ?_
        refine za_iadd hc dM_remove_16 ?_
        rw [show nI k + 1 = nI (k + 1) from (nI_succ k).symm]
        refine za_cV2v hc gsM_157 zob_62 (cM_swap_ l M1 (i := k) (j := k + 1) (by omega) (by omega) hm.2.2.2) ⟨rfl, rfl⟩ ⟨Nat.le_of_ble_eq_true rfl, Nat.le_of_ble_eq_true rfl⟩ ⟨Nat.zero_le _, Nat.zero_le _⟩ dM_remove_17 (fun M_17 h_17 => ?_)
        obtain ⟨w1, w2, w3⟩ := h_17
        refine za_iinc hc _ dM_remove_20 rfl ((nI_succ k).symm) (by decide) ?_
        refine za_goto 2 hc dM_remove_23 rfl ?_
        refine ih (A ++ [b]) (k + 1) M_17 (by rw [List.append_assoc]; exact hAB) (by rw [List.length_append, hk]; rfl) ?_ (hk1.tr (mK_dA w3)) (hf1.tr (dA_mA w3))
        rw [List.append_assoc]
        exact mH_swap hm (Or.inl ⟨hk, by rw [hk]⟩) w1 w2 (by rw [(w3 _ (by unfold dA; omega)).1])
  refine za_iload_n hc dM_remove_0 rfl ?_
  refine za_istore_n hc dM_remove_1 (by decide) ?_
  exact loop B0 A0 A0.length M rfl rfl hH mK.rf zfr.rf
