/-! The model: fractions compared. -/
def cmpS (a b : Int) : Int32 := if a < b then -1 else if a = b then 0 else 1
theorem l_fl {x d : Int64} (hx : -1099511627776 ≤ x.toInt ∧ x.toInt ≤ 1099511627776) (hd : 0 < d.toInt) (hd2 : d.toInt ≤ 1099511627776) : x.toInt = (x / d).toInt * d.toInt + (x - x / d * d).toInt ∧ (-d.toInt < (x - x / d * d).toInt ∧ (x - x / d * d).toInt < d.toInt) ∧ -1099511627776 ≤ (x / d).toInt ∧ (x / d).toInt ≤ 1099511627776 := by
  obtain ⟨k, hk, rfl⟩ := pk_lOf (x := d) (fun z => by have := Int64.lt_iff_toInt_lt.mp z; have e : (0 : Int64).toInt = 0 := rfl; omega)
  rw [pk_lT hk] at *
  have e1 : (x / lN k).toInt = x.toInt.tdiv k := l_div (by omega) (by omega)
  have h1 : (k : Int) * x.toInt.tdiv k + x.toInt.tmod k = x.toInt := Int.mul_tdiv_add_tmod _ _
  have h2 : (x.toInt.tmod k).natAbs = x.toInt.natAbs % k := by rw [Int.natAbs_tmod, Int.natAbs_natCast]
  have h3 := Nat.mod_lt x.toInt.natAbs (show 0 < k by omega)
  have h5 := Nat.mod_le x.toInt.natAbs k
  have h4 := g_tdivb (a := x.toInt) (g := k) (B := 1099511627777) (by omega)
  have e2 : (x / lN k * lN k).toInt = x.toInt.tdiv k * k := by rw [l_mul (by rw [e1, pk_lT hk, Int.mul_comm]; omega) (by rw [e1, pk_lT hk, Int.mul_comm]; omega), e1, pk_lT hk]
  have e4 : x.toInt.tdiv k * k = (k : Int) * x.toInt.tdiv k := Int.mul_comm _ _
  have e3 : (x - x / lN k * lN k).toInt = x.toInt.tmod k := by rw [l_sub (by rw [e2]; omega) (by rw [e2]; omega), e2]; omega
  rw [e1, e3]
  refine ⟨by omega, ⟨by omega, by omega⟩, by omega, by omega⟩
theorem cmp_lt {n d m e x y r t : Int} (hd : 0 < d) (he : 0 < e) (hn : n = x * d + r) (hm : m = y * e + t) (hr : r < d) (ht : 0 ≤ t) (h : x < y) : n * e < m * d := by
  have h1 : n + 1 ≤ y * d := by
    have : (x + 1) * d ≤ y * d := Int.mul_le_mul_of_nonneg_right (by omega) (by omega)
    have e2 : (x + 1) * d = x * d + d := by grind
    omega
  have h2 : y * e ≤ m := by omega
  have h3 : (n + 1) * e ≤ y * d * e := Int.mul_le_mul_of_nonneg_right h1 (by omega)
  have h4 : y * e * d ≤ m * d := Int.mul_le_mul_of_nonneg_right h2 (by omega)
  have e3 : y * d * e = y * e * d := by grind
  have e4 : (n + 1) * e = n * e + e := by grind
  omega
theorem cmp_eq {n d m e x r t : Int} (hn : n = x * d + r) (hm : m = x * e + t) : n * e - m * d = r * e - t * d := by rw [hn, hm]; grind

theorem cmpS_eq {a b a' b' : Int} (h : a - b = a' - b') : cmpS a b = cmpS a' b' := by
  unfold cmpS
  by_cases h1 : a < b
  · rw [if_pos h1, if_pos (by omega)]
  · rw [if_neg h1, if_neg (show ¬ a' < b' by omega)]
    by_cases h2 : a = b
    · rw [if_pos h2, if_pos (by omega)]
    · rw [if_neg h2, if_neg (show ¬ a' = b' by omega)]

set_option maxRecDepth 100000 in
set_option maxHeartbeats 4000000 in
theorem cM_compare_ (l : Launch) (M : zM) (n0 d0 n1 d1 : Int64) (R : Int32) (hn : -1099511627776 ≤ n0.toInt ∧ n0.toInt ≤ 1099511627776) (hd : 0 < d0.toInt) (hd2 : d0.toInt ≤ 1099511627776) (hm : -1099511627776 ≤ n1.toInt ∧ n1.toInt ≤ 1099511627776) (he : 0 < d1.toInt) (he2 : d1.toInt ≤ 1099511627776) (hR : R = cmpS (n0.toInt * d1.toInt) (n1.toInt * d0.toInt)) : zMet l mM_compare rM_compare [.long n0, .long d0, .long n1, .long d1] M (zqi (fun r M1 => r = R ∧ M1 = M)) := by
  refine za_enter (by decide) (Nat.le_of_ble_eq_true rfl) (fun X hc => ?_)
  have loop : ∀ (f : Nat) (n d m e : Int64) (s : Int32), d.toInt < f → -1099511627776 ≤ n.toInt ∧ n.toInt ≤ 1099511627776 → 0 < d.toInt → d.toInt ≤ 1099511627776 → -1099511627776 ≤ m.toInt ∧ m.toInt ≤ 1099511627776 → 0 < e.toInt → e.toInt ≤ 1099511627776 → ((s = 1 ∧ R = cmpS (n.toInt * e.toInt) (m.toInt * d.toInt)) ∨ (s = -1 ∧ R = cmpS (m.toInt * d.toInt) (n.toInt * e.toInt))) → zW X (zqi (fun r M1 => r = R ∧ M1 = M)) (0, 0) 17 [(0, .long n0), (2, .long d0), (4, .long n1), (6, .long d1), (8, .long n), (10, .long d), (12, .long m), (14, .long e), (16, .int s)] [] M := by
    intro f
    induction f with
    | zero => intro n d m e s hf hn hd; exact absurd hf (by omega)
    | succ f ih =>
      intro n d m e s hf hn hd hd2 hm he he2 hs
      have u1 := l_fl hn hd hd2
      have u2 := l_fl hm he he2
      have z0 : (0 : Int64).toInt = 0 := rfl
      have hdz : ¬ d = 0 := fun z => by rw [z] at hd; exact absurd hd (by decide)
      have hez : ¬ e = 0 := fun z => by rw [z] at he; exact absurd he (by decide)
      have L85 : ∀ x y r t : Int64, n.toInt = x.toInt * d.toInt + r.toInt → 0 ≤ r.toInt → r.toInt < d.toInt → m.toInt = y.toInt * e.toInt + t.toInt → 0 ≤ t.toInt → t.toInt < e.toInt → zW X (zqi (fun r M1 => r = R ∧ M1 = M)) (0, 0) 85 [(0, .long n0), (2, .long d0), (4, .long n1), (6, .long d1), (8, .long n), (10, .long d), (12, .long m), (14, .long e), (16, .int s), (17, .long x), (19, .long y), (21, .long r), (23, .long t)] [] M := by
        intro x y r t a1 a2 a3 b1 b2 b3
        refine za_lload hc dM_compare_85 rfl ?_
        refine za_lload hc dM_compare_87 rfl ?_
        refine za_lcmp_eq 110 hc dM_compare_89 dM_compare_90 rfl (fun h_89 => ?_) (fun h_89 => ?_)
        · skip
          subst h_89
          have ce := cmp_eq a1 b1
          refine za_lload hc dM_compare_110 rfl ?_
          refine za_lconst hc 0 dM_compare_112 rfl ?_
          refine za_lcmp_eq 124 hc dM_compare_113 dM_compare_114 rfl (fun h_113 => ?_) (fun h_113 => ?_)
          · skip
            have r0 : r.toInt = 0 := by rw [h_113]; rfl
            refine za_lload hc dM_compare_124 rfl ?_
            refine za_lload hc dM_compare_126 rfl ?_
            refine za_lcmp_ne 136 hc dM_compare_128 dM_compare_129 rfl (fun h_128 => ?_) (fun h_128 => ?_)
            · skip
              have rt : r.toInt ≠ t.toInt := fun z => h_128 (Int64.toInt_inj.mp z)
              refine za_lload hc dM_compare_136 rfl ?_
              refine za_lconst hc 0 dM_compare_138 rfl ?_
              refine za_lcmp_ne 149 hc dM_compare_139 dM_compare_140 rfl (fun h_139 => ?_) (fun h_139 => ?_)
              · skip
                have r1 : r.toInt ≠ 0 := fun z => h_139 (Int64.toInt_inj.mp z)
                refine za_iload hc dM_compare_149 rfl ?_
                have t00 : t.toInt = 0 := by omega
                have rp := Int.mul_pos (show 0 < r.toInt by omega) he
                rw [t00, Int.zero_mul] at ce
                rcases hs with ⟨rfl, hR⟩ | ⟨rfl, hR⟩
                · exact za_iret hc rfl dM_compare_151 ⟨Nat.zero_le _, Nat.zero_le _⟩ ⟨_, rfl, by rw [hR]; unfold cmpS; rw [if_neg (by omega), if_neg (by omega)], rfl⟩
                · exact za_iret hc rfl dM_compare_151 ⟨Nat.zero_le _, Nat.zero_le _⟩ ⟨_, rfl, by rw [hR]; unfold cmpS; rw [if_pos (by omega)], rfl⟩
              · skip
                have r1 : r.toInt = 0 := by rw [h_139]; rfl
                refine za_iload hc dM_compare_143 rfl ?_
                refine za_ineg hc dM_compare_145 ?_
                refine za_goto 151 hc dM_compare_146 rfl ?_
                have tp := Int.mul_pos (show 0 < t.toInt by omega) hd
                rw [r1, Int.zero_mul] at ce
                rcases hs with ⟨rfl, hR⟩ | ⟨rfl, hR⟩
                · exact za_iret hc rfl dM_compare_151 ⟨Nat.zero_le _, Nat.zero_le _⟩ ⟨_, rfl, by rw [hR]; unfold cmpS; rw [if_pos (by omega)] <;> rfl, rfl⟩
                · exact za_iret hc rfl dM_compare_151 ⟨Nat.zero_le _, Nat.zero_le _⟩ ⟨_, rfl, by rw [hR]; unfold cmpS; rw [if_neg (by omega), if_neg (by omega)]; rfl, rfl⟩
            · skip
              have rt : r.toInt = t.toInt := by rw [h_128]
              refine za_iconst hc 0 dM_compare_132 rfl ?_
              refine za_goto 151 hc dM_compare_133 rfl ?_
              have r00 : r.toInt = 0 := by omega
              have t00 : t.toInt = 0 := by omega
              rw [r00, t00, Int.zero_mul, Int.zero_mul] at ce
              rcases hs with ⟨rfl, hR⟩ | ⟨rfl, hR⟩
              · exact za_iret hc rfl dM_compare_151 ⟨Nat.zero_le _, Nat.zero_le _⟩ ⟨_, rfl, by rw [hR]; unfold cmpS; rw [if_neg (by omega), if_pos (by omega)], rfl⟩
              · exact za_iret hc rfl dM_compare_151 ⟨Nat.zero_le _, Nat.zero_le _⟩ ⟨_, rfl, by rw [hR]; unfold cmpS; rw [if_neg (by omega), if_pos (by omega)], rfl⟩
          · skip
            have r0 : r.toInt ≠ 0 := fun z => h_113 (Int64.toInt_inj.mp z)
            refine za_lload hc dM_compare_117 rfl ?_
            refine za_lconst hc 0 dM_compare_119 rfl ?_
            refine za_lcmp_ne 152 hc dM_compare_120 dM_compare_121 rfl (fun h_120 => ?_) (fun h_120 => ?_)
            · skip
              have t0 : t.toInt ≠ 0 := fun z => h_120 (Int64.toInt_inj.mp z)
              refine za_lload hc dM_compare_152 rfl ?_
              refine za_lstore hc dM_compare_154 (by decide) ?_
              refine za_lload hc dM_compare_156 rfl ?_
              refine za_lstore hc dM_compare_158 (by decide) ?_
              refine za_lload hc dM_compare_160 rfl ?_
              refine za_lstore hc dM_compare_162 (by decide) ?_
              refine za_lload hc dM_compare_164 rfl ?_
              refine za_lstore hc dM_compare_166 (by decide) ?_
              refine za_iload hc dM_compare_168 rfl ?_
              refine za_ineg hc dM_compare_170 ?_
              refine za_istore hc dM_compare_171 (by decide) ?_
              refine za_goto 17 hc dM_compare_173 rfl ?_
              refine za_take 9 ?_
              have e5 : d.toInt * t.toInt = t.toInt * d.toInt := Int.mul_comm _ _
              have e6 : e.toInt * r.toInt = r.toInt * e.toInt := Int.mul_comm _ _
              refine ih d r e t (-s) (by omega) (by omega) (by omega) (by omega) (by omega) (by omega) (by omega) ?_
              rcases hs with ⟨rfl, hR⟩ | ⟨rfl, hR⟩
              · exact Or.inr ⟨rfl, by rw [hR]; exact cmpS_eq (by omega)⟩
              · exact Or.inl ⟨rfl, by rw [hR]; exact cmpS_eq (by omega)⟩
            · skip
              have t0 : t.toInt = 0 := by rw [h_120]; rfl
              refine za_lload hc dM_compare_124 rfl ?_
              refine za_lload hc dM_compare_126 rfl ?_
              refine za_lcmp_ne 136 hc dM_compare_128 dM_compare_129 rfl (fun h_128 => ?_) (fun h_128 => ?_)
              · skip
                have rt : r.toInt ≠ t.toInt := fun z => h_128 (Int64.toInt_inj.mp z)
                refine za_lload hc dM_compare_136 rfl ?_
                refine za_lconst hc 0 dM_compare_138 rfl ?_
                refine za_lcmp_ne 149 hc dM_compare_139 dM_compare_140 rfl (fun h_139 => ?_) (fun h_139 => ?_)
                · skip
                  have r1 : r.toInt ≠ 0 := fun z => h_139 (Int64.toInt_inj.mp z)
                  refine za_iload hc dM_compare_149 rfl ?_
                  have t00 : t.toInt = 0 := by omega
                  have rp := Int.mul_pos (show 0 < r.toInt by omega) he
                  rw [t00, Int.zero_mul] at ce
                  rcases hs with ⟨rfl, hR⟩ | ⟨rfl, hR⟩
                  · exact za_iret hc rfl dM_compare_151 ⟨Nat.zero_le _, Nat.zero_le _⟩ ⟨_, rfl, by rw [hR]; unfold cmpS; rw [if_neg (by omega), if_neg (by omega)], rfl⟩
                  · exact za_iret hc rfl dM_compare_151 ⟨Nat.zero_le _, Nat.zero_le _⟩ ⟨_, rfl, by rw [hR]; unfold cmpS; rw [if_pos (by omega)], rfl⟩
                · skip
                  have r1 : r.toInt = 0 := by rw [h_139]; rfl
                  refine za_iload hc dM_compare_143 rfl ?_
                  refine za_ineg hc dM_compare_145 ?_
                  refine za_goto 151 hc dM_compare_146 rfl ?_
                  have tp := Int.mul_pos (show 0 < t.toInt by omega) hd
                  rw [r1, Int.zero_mul] at ce
                  rcases hs with ⟨rfl, hR⟩ | ⟨rfl, hR⟩
                  · exact za_iret hc rfl dM_compare_151 ⟨Nat.zero_le _, Nat.zero_le _⟩ ⟨_, rfl, by rw [hR]; unfold cmpS; rw [if_pos (by omega)] <;> rfl, rfl⟩
                  · exact za_iret hc rfl dM_compare_151 ⟨Nat.zero_le _, Nat.zero_le _⟩ ⟨_, rfl, by rw [hR]; unfold cmpS; rw [if_neg (by omega), if_neg (by omega)]; rfl, rfl⟩
              · skip
                have rt : r.toInt = t.toInt := by rw [h_128]
                refine za_iconst hc 0 dM_compare_132 rfl ?_
                refine za_goto 151 hc dM_compare_133 rfl ?_
                have r00 : r.toInt = 0 := by omega
                have t00 : t.toInt = 0 := by omega
                rw [r00, t00, Int.zero_mul, Int.zero_mul] at ce
                rcases hs with ⟨rfl, hR⟩ | ⟨rfl, hR⟩
                · exact za_iret hc rfl dM_compare_151 ⟨Nat.zero_le _, Nat.zero_le _⟩ ⟨_, rfl, by rw [hR]; unfold cmpS; rw [if_neg (by omega), if_pos (by omega)], rfl⟩
                · exact za_iret hc rfl dM_compare_151 ⟨Nat.zero_le _, Nat.zero_le _⟩ ⟨_, rfl, by rw [hR]; unfold cmpS; rw [if_neg (by omega), if_pos (by omega)], rfl⟩
        · skip
          have hxy : x.toInt ≠ y.toInt := fun z => h_89 (Int64.toInt_inj.mp z)
          refine za_lload hc dM_compare_93 rfl ?_
          refine za_lload hc dM_compare_95 rfl ?_
          refine za_lcmp_ge 107 hc dM_compare_97 dM_compare_98 rfl (fun h_97 => ?_) (fun h_97 => ?_)
          · skip
            have := Int64.le_iff_toInt_le.mp h_97
            have cl := cmp_lt he hd b1 a1 b3 a2 (by omega)
            refine za_iload hc dM_compare_107 rfl ?_
            rcases hs with ⟨rfl, hR⟩ | ⟨rfl, hR⟩
            · exact za_iret hc rfl dM_compare_109 ⟨Nat.zero_le _, Nat.zero_le _⟩ ⟨_, rfl, by rw [hR]; unfold cmpS; rw [if_neg (by omega), if_neg (by omega)], rfl⟩
            · exact za_iret hc rfl dM_compare_109 ⟨Nat.zero_le _, Nat.zero_le _⟩ ⟨_, rfl, by rw [hR]; unfold cmpS; rw [if_pos cl], rfl⟩
          · skip
            have hlt := fun z => h_97 (Int64.le_iff_toInt_le.mpr z)
            have cl := cmp_lt hd he a1 b1 a3 b2 (Int.not_le.mp hlt)
            refine za_iload hc dM_compare_101 rfl ?_
            refine za_ineg hc dM_compare_103 ?_
            refine za_goto 109 hc dM_compare_104 rfl ?_
            rcases hs with ⟨rfl, hR⟩ | ⟨rfl, hR⟩
            · exact za_iret hc rfl dM_compare_109 ⟨Nat.zero_le _, Nat.zero_le _⟩ ⟨_, rfl, by rw [hR]; unfold cmpS; rw [if_pos cl] <;> rfl, rfl⟩
            · exact za_iret hc rfl dM_compare_109 ⟨Nat.zero_le _, Nat.zero_le _⟩ ⟨_, rfl, by rw [hR]; unfold cmpS; rw [if_neg (by omega), if_neg (by omega)]; rfl, rfl⟩
      have L65 : ∀ x y r t : Int64, n.toInt = x.toInt * d.toInt + r.toInt → 0 ≤ r.toInt → r.toInt < d.toInt → m.toInt = y.toInt * e.toInt + t.toInt → -e.toInt < t.toInt → t.toInt < e.toInt → -1099511627776 ≤ y.toInt ∧ y.toInt ≤ 1099511627776 → zW X (zqi (fun r M1 => r = R ∧ M1 = M)) (0, 0) 65 [(0, .long n0), (2, .long d0), (4, .long n1), (6, .long d1), (8, .long n), (10, .long d), (12, .long m), (14, .long e), (16, .int s), (17, .long x), (19, .long y), (21, .long r), (23, .long t)] [] M := by
        intro x y r t a1 a2 a3 b1 b2 b3 b4
        refine za_lload hc dM_compare_65 rfl ?_
        refine za_lconst hc 0 dM_compare_67 rfl ?_
        refine za_lcmp_ge 85 hc dM_compare_68 dM_compare_69 rfl (fun h_68 => ?_) (fun h_68 => ?_)
        · skip
          exact L85 x y r t a1 a2 a3 b1 (Int64.le_iff_toInt_le.mp h_68) b3
        · skip
          have ng : ¬ (0 : Int) ≤ t.toInt := fun z => h_68 (Int64.le_iff_toInt_le.mpr z)
          have g1 : (t + e).toInt = t.toInt + e.toInt := l_add (by omega) (by omega)
          have g2 : (y - 1).toInt = y.toInt - 1 := l_sub (by show _ ≤ y.toInt - 1; omega) (by show y.toInt - 1 < _; omega)
          have g3 : (y.toInt - 1) * e.toInt = y.toInt * e.toInt - e.toInt := by grind
          refine za_lload hc dM_compare_72 rfl ?_
          refine za_lload hc dM_compare_74 rfl ?_
          refine za_ladd hc dM_compare_76 ?_
          refine za_lstore hc dM_compare_77 (by decide) ?_
          refine za_lload hc dM_compare_79 rfl ?_
          refine za_lconst hc 1 dM_compare_81 rfl ?_
          refine za_lsub hc dM_compare_82 ?_
          refine za_lstore hc dM_compare_83 (by decide) ?_
          exact L85 x (y - 1) r (t + e) a1 a2 a3 (by rw [g1, g2, g3]; omega) (by rw [g1]; omega) (by rw [g1]; omega)
      refine za_lload hc dM_compare_17 rfl ?_
      refine za_lload hc dM_compare_19 rfl ?_
      refine za_ldiv hc dM_compare_21 hdz ?_
      refine za_lstore hc dM_compare_22 (by decide) ?_
      refine za_lload hc dM_compare_24 rfl ?_
      refine za_lload hc dM_compare_26 rfl ?_
      refine za_ldiv hc dM_compare_28 hez ?_
      refine za_lstore hc dM_compare_29 (by decide) ?_
      refine za_lload hc dM_compare_31 rfl ?_
      refine za_lload hc dM_compare_33 rfl ?_
      refine za_lrem hc dM_compare_35 hdz ?_
      refine za_lstore hc dM_compare_36 (by decide) ?_
      refine za_lload hc dM_compare_38 rfl ?_
      refine za_lload hc dM_compare_40 rfl ?_
      refine za_lrem hc dM_compare_42 hez ?_
      refine za_lstore hc dM_compare_43 (by decide) ?_
      refine za_lload hc dM_compare_45 rfl ?_
      refine za_lconst hc 0 dM_compare_47 rfl ?_
      refine za_lcmp_ge 65 hc dM_compare_48 dM_compare_49 rfl (fun h_48 => ?_) (fun h_48 => ?_)
      · skip
        exact L65 (n / d) (m / e) (n - n / d * d) (m - m / e * e) u1.1 (Int64.le_iff_toInt_le.mp h_48) u1.2.1.2 u2.1 u2.2.1.1 u2.2.1.2 u2.2.2
      · skip
        obtain ⟨v1, ⟨v2, v3⟩, v4, v5⟩ := u1
        generalize (n - n / d * d) = r at *
        generalize n / d = x at *
        have ng : ¬ (0 : Int) ≤ r.toInt := fun z => h_48 (Int64.le_iff_toInt_le.mpr z)
        have g1 : (r + d).toInt = r.toInt + d.toInt := l_add (by omega) (by omega)
        have g2 : (x - 1).toInt = x.toInt - 1 := l_sub (by show _ ≤ x.toInt - 1; omega) (by show x.toInt - 1 < _; omega)
        have g3 : (x.toInt - 1) * d.toInt = x.toInt * d.toInt - d.toInt := by grind
        refine za_lload hc dM_compare_52 rfl ?_
        refine za_lload hc dM_compare_54 rfl ?_
        refine za_ladd hc dM_compare_56 ?_
        refine za_lstore hc dM_compare_57 (by decide) ?_
        refine za_lload hc dM_compare_59 rfl ?_
        refine za_lconst hc 1 dM_compare_61 rfl ?_
        refine za_lsub hc dM_compare_62 ?_
        refine za_lstore hc dM_compare_63 (by decide) ?_
        exact L65 (x - 1) (m / e) (r + d) (m - m / e * e) (by rw [g1, g2, g3]; omega) (by rw [g1]; omega) (by rw [g1]; omega) u2.1 u2.2.1.1 u2.2.1.2 u2.2.2
  refine za_lload_n hc dM_compare_0 rfl ?_
  refine za_lstore hc dM_compare_1 (by decide) ?_
  refine za_lload_n hc dM_compare_3 rfl ?_
  refine za_lstore hc dM_compare_4 (by decide) ?_
  refine za_lload hc dM_compare_6 rfl ?_
  refine za_lstore hc dM_compare_8 (by decide) ?_
  refine za_lload hc dM_compare_10 rfl ?_
  refine za_lstore hc dM_compare_12 (by decide) ?_
  refine za_iconst hc 1 dM_compare_14 rfl ?_
  refine za_istore hc dM_compare_15 (by decide) ?_
  exact loop (d0.toInt.toNat + 1) n0 d0 n1 d1 1 (by omega) hn hd hd2 hm he he2 (Or.inl ⟨rfl, hR⟩)
