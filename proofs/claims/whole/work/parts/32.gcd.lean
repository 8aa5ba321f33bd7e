/-! The greatest common divisor. -/

set_option maxRecDepth 100000 in
set_option maxHeartbeats 4000000 in
theorem cK_commonDivisor_ (l : Launch) (M : zM) (x y : Int64) (g : Nat) (hx : x.toInt.natAbs < 2 ^ 62) (hy : y.toInt.natAbs < 2 ^ 48) (hgg : Nat.gcd x.toInt.natAbs y.toInt.natAbs = g) : zMet l mK_commonDivisor rK_commonDivisor [.long x, .long y] M (zql (fun r M' => r = lN g ∧ M' = M)) := by
  refine za_enter (by decide) (Nat.le_of_ble_eq_true rfl) (fun X hc => ?_)
  have hx1 : -9223372036854775808 < x.toInt := by omega
  have hy1 : -9223372036854775808 < y.toInt := by omega
  have loop : ∀ n k a b : Nat, n + k = 100 → k ≤ 100 → Nat.gcd a b = g → a < 2 ^ 62 → b < 2 ^ 48 → (k = 0 ∨ (b < a ∧ a * b * 2 ^ k < 2 ^ 98)) → zW X (zql (fun r M' => r = lN g ∧ M' = M)) (0, 0) 15 [(0, .long x), (2, .long y), (4, .long (lN a)), (6, .long (lN b)), (8, .int (nI k))] [] M := by
    intro n
    induction n with
    | zero =>
      intro k a b hn hk hg ha hb hi
      refine za_iload hc dK_commonDivisor_15 rfl ?_
      refine za_bipush hc 100 dK_commonDivisor_17 rfl ?_
      refine za_icmp_ge 50 hc dK_commonDivisor_19 rfl (fun h_19 => ?_) (fun h_19 => ?_)
      · have hk : k = 100 := by omega
        have hb0 : b = 0 := by
          rcases hi with h | ⟨h1, h2⟩
          · omega
          · subst hk
            have : a * b = 0 := by omega
            rcases Nat.mul_eq_zero.mp this with z | z <;> omega
        refine za_lload hc dK_commonDivisor_50 rfl ?_
        exact za_lret hc rfl dK_commonDivisor_52 ⟨Nat.zero_le _, Nat.zero_le _⟩ (⟨_, rfl, by rw [← hg, hb0, Nat.gcd_zero_right], rfl⟩)
      · exact absurd ((nI_leI (by decide) (by omega)).mpr (show 100 ≤ k by omega)) h_19
    | succ n ih =>
      intro k a b hn hk hg ha hb hi
      refine za_iload hc dK_commonDivisor_15 rfl ?_
      refine za_bipush hc 100 dK_commonDivisor_17 rfl ?_
      refine za_icmp_ge 50 hc dK_commonDivisor_19 rfl (fun h_19 => ?_) (fun h_19 => ?_)
      · skip
        have hk9 : 100 ≤ k := (nI_leI (by decide) (by omega)).mp h_19
        have hb0 : b = 0 := by
          rcases hi with h | ⟨h1, h2⟩
          · omega
          · have hk : k = 100 := by omega
            subst hk
            have : a * b = 0 := by omega
            rcases Nat.mul_eq_zero.mp this with z | z <;> omega
        refine za_lload hc dK_commonDivisor_50 rfl ?_
        exact za_lret hc rfl dK_commonDivisor_52 ⟨Nat.zero_le _, Nat.zero_le _⟩ (⟨_, rfl, by rw [← hg, hb0, Nat.gcd_zero_right], rfl⟩)
      · skip
        have hk9 : k < 100 := Nat.not_le.mp (fun z => h_19 ((nI_leI (by decide) (by omega)).mpr z))
        refine za_lload hc dK_commonDivisor_22 rfl ?_
        refine za_lconst hc 0 dK_commonDivisor_24 rfl ?_
        refine za_lcmp_eq 50 hc dK_commonDivisor_25 dK_commonDivisor_26 rfl (fun h_25 => ?_) (fun h_25 => ?_)
        · skip
          have hb0 : b = 0 := (pk_lEQ (by omega) (by decide)).mp h_25
          refine za_lload hc dK_commonDivisor_50 rfl ?_
          exact za_lret hc rfl dK_commonDivisor_52 ⟨Nat.zero_le _, Nat.zero_le _⟩ (⟨_, rfl, by rw [← hg, hb0, Nat.gcd_zero_right], rfl⟩)
        · skip
          have hb1 : 0 < b := Nat.pos_of_ne_zero (fun z => h_25 (by rw [z]; rfl))
          refine za_lload hc dK_commonDivisor_29 rfl ?_
          refine za_lload hc dK_commonDivisor_31 rfl ?_
          refine za_lrem hc dK_commonDivisor_33 h_25 ?_
          rw [pk_lRem (by omega) hb1 (by omega)]
          refine za_lstore hc dK_commonDivisor_34 (by decide) ?_
          refine za_lload hc dK_commonDivisor_36 rfl ?_
          refine za_lstore hc dK_commonDivisor_38 (by decide) ?_
          refine za_lload hc dK_commonDivisor_40 rfl ?_
          refine za_lstore hc dK_commonDivisor_42 (by decide) ?_
          refine za_iinc hc _ dK_commonDivisor_44 rfl ((nI_succ k).symm) (by decide) ?_
          refine za_goto 15 hc dK_commonDivisor_47 rfl ?_
          refine za_take 5 ?_
          have hmod := Nat.mod_lt a hb1
          refine ih (k + 1) b (a % b) (by omega) (by omega) ?_ (by omega) (by omega) (Or.inr ⟨hmod, ?_⟩)
          · rw [← hg, Nat.gcd_comm a b, Nat.gcd_rec b a, Nat.gcd_comm]
          · rcases hi with h | ⟨h1, h2⟩
            · subst h
              have : b * (a % b) ≤ 2 ^ 48 * 2 ^ 48 := Nat.mul_le_mul (by omega) (by omega)
              omega
            · have h3 := g_euclid hb1 h1
              rw [Nat.pow_succ]
              have h4 := Nat.mul_le_mul_right (2 ^ k) h3
              grind
  refine za_lload_n hc dK_commonDivisor_0 rfl ?_
  refine za_absl hc jmK_191 ⟨Nat.le_of_ble_eq_true rfl, Nat.le_of_ble_eq_true rfl⟩ ⟨Nat.zero_le _, Nat.zero_le _⟩ dK_commonDivisor_1 ?_
  rw [l_abs hx1]
  refine za_lstore hc dK_commonDivisor_4 (by decide) ?_
  refine za_lload_n hc dK_commonDivisor_6 rfl ?_
  refine za_absl hc jmK_191 ⟨Nat.le_of_ble_eq_true rfl, Nat.le_of_ble_eq_true rfl⟩ ⟨Nat.zero_le _, Nat.zero_le _⟩ dK_commonDivisor_7 ?_
  rw [l_abs hy1]
  refine za_lstore hc dK_commonDivisor_10 (by decide) ?_
  refine za_iconst hc 0 dK_commonDivisor_12 rfl ?_
  refine za_istore hc dK_commonDivisor_13 (by decide) ?_
  exact loop 100 0 _ _ rfl (by omega) hgg (by omega) (by omega) (Or.inl rfl)
