/-! A member is brought to its normal numbers and laid in. -/
def gg (q : gC) : Nat := Nat.gcd (Nat.gcd q.1.natAbs q.2.1.natAbs) q.2.2.1.natAbs
def gnorm (q : gC) : gC := (q.1.tdiv (gg q), q.2.1.tdiv (gg q), q.2.2.1.tdiv (gg q), q.2.2.2)
def gput (ls : List gC) (m : gC) : List gC := if m.1 = 0 ∧ m.2.1 = 0 then ls else gins ls (gnorm m)
theorem gg_pos {q : gC} (h : ¬ (q.1 = 0 ∧ q.2.1 = 0)) : 0 < gg q := by
  unfold gg
  apply Nat.gcd_pos_of_pos_left
  by_cases h1 : q.1 = 0
  · exact Nat.gcd_pos_of_pos_right _ (by have : q.2.1 ≠ 0 := fun z => h ⟨h1, z⟩; omega)
  · exact Nat.gcd_pos_of_pos_left _ (by omega)
theorem gnorm_1 {q : gC} (h : gg q = 1) : gnorm q = q := by
  unfold gnorm
  rw [h]
  show (q.1.tdiv 1, q.2.1.tdiv 1, q.2.2.1.tdiv 1, q.2.2.2) = q
  rw [Int.tdiv_one, Int.tdiv_one, Int.tdiv_one]
theorem g_tdivb {a : Int} {g B : Nat} (h : a.natAbs < B) : (a.tdiv g).natAbs < B := by
  rw [Int.natAbs_tdiv]
  exact Nat.lt_of_le_of_lt (Nat.div_le_self _ _) h
theorem l_div {x : Int64} {g : Nat} (hx : x.toInt.natAbs < 2 ^ 62) (hg : g < 2 ^ 62) : (x / lN g).toInt = x.toInt.tdiv g := by
  have h := g_tdivb (g := g) hx
  rw [Int64.toInt_div, pk_lT (by omega), l_bm (by omega) (by omega)]
theorem gput_len (ls : List gC) (m : gC) : (gput ls m).length ≤ ls.length + 1 := by
  unfold gput
  split
  · omega
  · generalize gnorm m = k
    induction ls with
    | nil => exact Nat.le_refl _
    | cons a t ih =>
      unfold gins
      split
      · simp only [List.length_cons]; omega
      · split
        · simp
        · simp

set_option maxRecDepth 100000 in
set_option maxHeartbeats 4000000 in
theorem cD_put_ (l : Launch) {d : Nat} {ls : List gC} (M : zM) (a b c : Int64) (s : Int32) (hd : zdr d) (hH : dH M d ls) (hlt : ls.length < 36) (hs : s = 0 ∨ s = 1) (ha : a.toInt.natAbs < 2 ^ 48) (hb : b.toInt.natAbs < 2 ^ 48) (hcb : c.toInt.natAbs < 2 ^ 48) : zMet l mD_put rD_put [.ref d, .long a, .long b, .long c, .int s] M (zqv (fun M' => dH M' d (gput ls (a.toInt, b.toInt, c.toInt, s == 1)) ∧ zfr (dB d) M M')) := by
  refine za_enter (by decide) (Nat.le_of_ble_eq_true rfl) (fun X hc => ?_)
  have hdo := hd.o
  have hda := hd.a
  have hdb := hd.b
  have hdc := hd.c
  have hds := hd.s
  have hpo := hd.p.o
  have hgl1 : Nat.gcd a.toInt.natAbs b.toInt.natAbs < 2 ^ 50 := by
    by_cases h0 : 0 < a.toInt.natAbs
    · have := Nat.gcd_le_left b.toInt.natAbs h0; omega
    · rw [show a.toInt.natAbs = 0 by omega, Nat.gcd_zero_left]; omega
  have hgl : gg (a.toInt, b.toInt, c.toInt, s == 1) < 2 ^ 62 := by
    show Nat.gcd (Nat.gcd a.toInt.natAbs b.toInt.natAbs) c.toInt.natAbs < _
    by_cases h0 : 0 < Nat.gcd a.toInt.natAbs b.toInt.natAbs
    · have := Nat.gcd_le_left c.toInt.natAbs h0; omega
    · rw [show Nat.gcd a.toInt.natAbs b.toInt.natAbs = 0 by omega, Nat.gcd_zero_left]; omega
  refine za_lload_n hc dD_put_0 rfl ?_
  refine za_lconst hc 0 dD_put_1 rfl ?_
  refine za_lcmp_ne 13 hc dD_put_2 dD_put_3 rfl (fun h_2 => ?_) (fun h_2 => ?_)
  · skip
    have hne : ¬ (a.toInt = 0 ∧ b.toInt = 0) := fun z => h_2 (Int64.toInt_inj.mp z.1)
    refine za_lload_n hc dD_put_13 rfl ?_
    refine za_lload_n hc dD_put_14 rfl ?_
    refine za_cSN2l hc gsD_36 (cK_commonDivisor_ l M a b _ (by omega) (by omega) rfl) ⟨rfl, rfl⟩ ⟨Nat.le_of_ble_eq_true rfl, Nat.le_of_ble_eq_true rfl⟩ ⟨Nat.zero_le _, Nat.zero_le _⟩ dD_put_15 (fun x_15 M_15 h_15 => ?_)
    obtain ⟨rfl, rfl⟩ := h_15
    refine za_lload hc dD_put_18 rfl ?_
    refine za_cSN2l hc gsD_36 (cK_commonDivisor_ l _ _ c (gg (a.toInt, b.toInt, c.toInt, s == 1)) (by rw [pk_lT (by omega)]; omega) (by omega) (by rw [pk_lT (by omega)]; rfl)) ⟨rfl, rfl⟩ ⟨Nat.le_of_ble_eq_true rfl, Nat.le_of_ble_eq_true rfl⟩ ⟨Nat.zero_le _, Nat.zero_le _⟩ dD_put_20 (fun x_20 M_20 h_20 => ?_)
    obtain ⟨rfl, rfl⟩ := h_20
    refine za_lstore hc dD_put_23 (by decide) ?_
    refine za_lload hc dD_put_25 rfl ?_
    refine za_lconst hc 1 dD_put_27 rfl ?_
    refine za_lcmp_le 54 hc dD_put_28 dD_put_29 rfl (fun h_28 => ?_) (fun h_28 => ?_)
    · skip
      have hg1 : gg (a.toInt, b.toInt, c.toInt, s == 1) = 1 := by
        have h1 : gg (a.toInt, b.toInt, c.toInt, s == 1) ≤ 1 := (pk_lLE (b := 1) (by omega) (by decide)).mp h_28
        have h2 := gg_pos (q := (a.toInt, b.toInt, c.toInt, s == 1)) hne
        omega
      refine za_aload_n hc dD_put_54 rfl ?_
      refine za_lload_n hc dD_put_55 rfl ?_
      refine za_lload_n hc dD_put_56 rfl ?_
      refine za_lload hc dD_put_57 rfl ?_
      refine za_iload hc dD_put_59 rfl ?_
      refine za_cV4v hc gsD_40 (by assumption) (cD_insert_ l _ a b c s hd hH hlt hs) ⟨rfl, rfl⟩ ⟨Nat.le_of_ble_eq_true rfl, Nat.le_of_ble_eq_true rfl⟩ ⟨Nat.zero_le _, Nat.zero_le _⟩ dD_put_61 (fun M_61 h_61 => ?_)
      obtain ⟨g1, g2⟩ := h_61
      have hfin : dH M_61 d (gput ls (a.toInt, b.toInt, c.toInt, s == 1)) := by
        unfold gput
        rw [if_neg hne, gnorm_1 hg1]
        exact g1
      exact za_vret hc rfl dD_put_64 ⟨Nat.zero_le _, Nat.zero_le _⟩ (⟨rfl, hfin, g2⟩)
    · skip
      have hnz : ¬ lN (gg (a.toInt, b.toInt, c.toInt, s == 1)) = 0 := fun z => by
        have h1 : gg (a.toInt, b.toInt, c.toInt, s == 1) = 0 := (pk_lEQ (b := 0) (by omega) (by decide)).mp z
        have h2 := gg_pos (q := (a.toInt, b.toInt, c.toInt, s == 1)) hne
        omega
      refine za_aload_n hc dD_put_32 rfl ?_
      refine za_lload_n hc dD_put_33 rfl ?_
      refine za_lload hc dD_put_34 rfl ?_
      refine za_ldiv hc dD_put_36 hnz ?_
      refine za_lload_n hc dD_put_37 rfl ?_
      refine za_lload hc dD_put_38 rfl ?_
      refine za_ldiv hc dD_put_40 hnz ?_
      refine za_lload hc dD_put_41 rfl ?_
      refine za_lload hc dD_put_43 rfl ?_
      refine za_ldiv hc dD_put_45 hnz ?_
      refine za_iload hc dD_put_46 rfl ?_
      refine za_cV4v hc gsD_40 (by assumption) (cD_insert_ l _ _ _ _ s hd hH hlt hs) ⟨rfl, rfl⟩ ⟨Nat.le_of_ble_eq_true rfl, Nat.le_of_ble_eq_true rfl⟩ ⟨Nat.zero_le _, Nat.zero_le _⟩ dD_put_48 (fun M_48 h_48 => ?_)
      obtain ⟨g1, g2⟩ := h_48
      have hfin : dH M_48 d (gput ls (a.toInt, b.toInt, c.toInt, s == 1)) := by
        unfold gput gnorm
        rw [if_neg hne]
        rw [l_div (by omega) hgl, l_div (by omega) hgl, l_div (by omega) hgl] at g1
        exact g1
      refine za_goto 64 hc dD_put_51 rfl ?_
      exact za_vret hc rfl dD_put_64 ⟨Nat.zero_le _, Nat.zero_le _⟩ (⟨rfl, hfin, g2⟩)
  · skip
    refine za_lload_n hc dD_put_6 rfl ?_
    refine za_lconst hc 0 dD_put_7 rfl ?_
    refine za_lcmp_ne 13 hc dD_put_8 dD_put_9 rfl (fun h_8 => ?_) (fun h_8 => ?_)
    · skip
      have hne : ¬ (a.toInt = 0 ∧ b.toInt = 0) := fun z => h_8 (Int64.toInt_inj.mp z.2)
      refine za_lload_n hc dD_put_13 rfl ?_
      refine za_lload_n hc dD_put_14 rfl ?_
      refine za_cSN2l hc gsD_36 (cK_commonDivisor_ l M a b _ (by omega) (by omega) rfl) ⟨rfl, rfl⟩ ⟨Nat.le_of_ble_eq_true rfl, Nat.le_of_ble_eq_true rfl⟩ ⟨Nat.zero_le _, Nat.zero_le _⟩ dD_put_15 (fun x_15 M_15 h_15 => ?_)
      obtain ⟨rfl, rfl⟩ := h_15
      refine za_lload hc dD_put_18 rfl ?_
      refine za_cSN2l hc gsD_36 (cK_commonDivisor_ l _ _ c (gg (a.toInt, b.toInt, c.toInt, s == 1)) (by rw [pk_lT (by omega)]; omega) (by omega) (by rw [pk_lT (by omega)]; rfl)) ⟨rfl, rfl⟩ ⟨Nat.le_of_ble_eq_true rfl, Nat.le_of_ble_eq_true rfl⟩ ⟨Nat.zero_le _, Nat.zero_le _⟩ dD_put_20 (fun x_20 M_20 h_20 => ?_)
      obtain ⟨rfl, rfl⟩ := h_20
      refine za_lstore hc dD_put_23 (by decide) ?_
      refine za_lload hc dD_put_25 rfl ?_
      refine za_lconst hc 1 dD_put_27 rfl ?_
      refine za_lcmp_le 54 hc dD_put_28 dD_put_29 rfl (fun h_28 => ?_) (fun h_28 => ?_)
      · skip
        have hg1 : gg (a.toInt, b.toInt, c.toInt, s == 1) = 1 := by
          have h1 : gg (a.toInt, b.toInt, c.toInt, s == 1) ≤ 1 := (pk_lLE (b := 1) (by omega) (by decide)).mp h_28
          have h2 := gg_pos (q := (a.toInt, b.toInt, c.toInt, s == 1)) hne
          omega
        refine za_aload_n hc dD_put_54 rfl ?_
        refine za_lload_n hc dD_put_55 rfl ?_
        refine za_lload_n hc dD_put_56 rfl ?_
        refine za_lload hc dD_put_57 rfl ?_
        refine za_iload hc dD_put_59 rfl ?_
        refine za_cV4v hc gsD_40 (by assumption) (cD_insert_ l _ a b c s hd hH hlt hs) ⟨rfl, rfl⟩ ⟨Nat.le_of_ble_eq_true rfl, Nat.le_of_ble_eq_true rfl⟩ ⟨Nat.zero_le _, Nat.zero_le _⟩ dD_put_61 (fun M_61 h_61 => ?_)
        obtain ⟨g1, g2⟩ := h_61
        have hfin : dH M_61 d (gput ls (a.toInt, b.toInt, c.toInt, s == 1)) := by
          unfold gput
          rw [if_neg hne, gnorm_1 hg1]
          exact g1
        exact za_vret hc rfl dD_put_64 ⟨Nat.zero_le _, Nat.zero_le _⟩ (⟨rfl, hfin, g2⟩)
      · skip
        have hnz : ¬ lN (gg (a.toInt, b.toInt, c.toInt, s == 1)) = 0 := fun z => by
          have h1 : gg (a.toInt, b.toInt, c.toInt, s == 1) = 0 := (pk_lEQ (b := 0) (by omega) (by decide)).mp z
          have h2 := gg_pos (q := (a.toInt, b.toInt, c.toInt, s == 1)) hne
          omega
        refine za_aload_n hc dD_put_32 rfl ?_
        refine za_lload_n hc dD_put_33 rfl ?_
        refine za_lload hc dD_put_34 rfl ?_
        refine za_ldiv hc dD_put_36 hnz ?_
        refine za_lload_n hc dD_put_37 rfl ?_
        refine za_lload hc dD_put_38 rfl ?_
        refine za_ldiv hc dD_put_40 hnz ?_
        refine za_lload hc dD_put_41 rfl ?_
        refine za_lload hc dD_put_43 rfl ?_
        refine za_ldiv hc dD_put_45 hnz ?_
        refine za_iload hc dD_put_46 rfl ?_
        refine za_cV4v hc gsD_40 (by assumption) (cD_insert_ l _ _ _ _ s hd hH hlt hs) ⟨rfl, rfl⟩ ⟨Nat.le_of_ble_eq_true rfl, Nat.le_of_ble_eq_true rfl⟩ ⟨Nat.zero_le _, Nat.zero_le _⟩ dD_put_48 (fun M_48 h_48 => ?_)
        obtain ⟨g1, g2⟩ := h_48
        have hfin : dH M_48 d (gput ls (a.toInt, b.toInt, c.toInt, s == 1)) := by
          unfold gput gnorm
          rw [if_neg hne]
          rw [l_div (by omega) hgl, l_div (by omega) hgl, l_div (by omega) hgl] at g1
          exact g1
        refine za_goto 64 hc dD_put_51 rfl ?_
        exact za_vret hc rfl dD_put_64 ⟨Nat.zero_le _, Nat.zero_le _⟩ (⟨rfl, hfin, g2⟩)
    · skip
      exact za_vret hc rfl dD_put_12 ⟨Nat.zero_le _, Nat.zero_le _⟩ (⟨rfl, by unfold gput; rw [if_pos ⟨by rw [h_2]; rfl, by rw [h_8]; rfl⟩]; exact hH, zfr.rf⟩)
