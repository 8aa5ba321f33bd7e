/-! The model: member, members, value. -/
theorem nI_inj3 {a b : Nat} (e : nI a = nI b) (ha : a < 2 ^ 31) (hb : b < 2 ^ 31) : a = b := by
  have t1 := (nI_leI (a := a) (b := b) ha hb).mp (by rw [e]; exact Int32.le_refl _)
  have t2 := (nI_leI (a := b) (b := a) hb ha).mp (by rw [e]; exact Int32.le_refl _)
  omega
/-- the members collected -/
def cg (M : zM) (i : Nat) : gC := ((zI M 69 i).toInt, (zI M 70 i).toInt, (zI M 71 i).toInt, zI M 72 i == 1)
def cH (M : zM) (ls : List gC) : Prop := zI M 62 8 = nI ls.length ∧ ls.length ≤ 12 ∧ (∀ j q, ls[j]? = some q → cg M j = q) ∧ (∀ q ∈ ls, gLim q ∧ gnz q) ∧ ∀ j, zI M 72 j = 0 ∨ zI M 72 j = 1
def cput (M : zM) (p : Nat) (a b c s : Int32) : zM := zsI (zsI (zsI (zsI M 69 p a) 70 p b) 71 p c) 72 p s
theorem cput_cg {M : zM} {p t : Nat} {a b c s : Int32} : cg (cput M p a b c s) t = if t = p then (a.toInt, b.toInt, c.toInt, s == 1) else cg M t := by
  unfold cg cput
  rw [zI_o (by decide), zI_o (by decide), zI_o (by decide), zI_s, zI_o (by decide), zI_o (by decide), zI_s, zI_o (by decide), zI_o (by decide), zI_s, zI_o (by decide), zI_o (by decide), zI_s, zI_o (by decide), zI_o (by decide), zI_o (by decide)]
  by_cases h : t = p
  · simp only [if_pos h]
  · simp only [if_neg h]

set_option maxRecDepth 100000 in
set_option maxHeartbeats 4000000 in
theorem cM_members_ (l : Launch) {h n : Nat} (M : zM) (hh : h ≤ 6) (hp : zI M 62 7 = nI h) (r : Int32) (hn : 1 ≤ h → zI M 63 (h - 1) = nI n) (hn12 : n ≤ 12) : zMet l mM_members rM_members [.ref 62, .int r] M (zqi (fun x M' => (h = 0 → x = 0 ∧ M' = zsI M 62 0 1) ∧ (0 < h → (∀ k, k < n → r = nI k → x = zI M 64 (12 * (h - 1) + k) ∧ M' = zsI M 62 0 0) ∧ (r < 0 ∨ nI n ≤ r → x = 0 ∧ M' = zsI M 62 0 2)))) := by
  refine za_enter (by decide) (Nat.le_of_ble_eq_true rfl) (fun X hc => ?_)
  have a63 := ar_63
  have a64 := ar_64
  have a65 := ar_65
  have a66 := ar_66
  have a67 := ar_67
  have a68 := ar_68
  refine za_aload_n hc dM_members_0 rfl ?_
  refine za_aload_n hc dM_members_1 rfl ?_
  refine za_getI hc gfM_220 zob_62 dM_members_2 ?_
  rw [hp]
  refine za_iconst hc 1 dM_members_5 rfl ?_
  refine za_icmp_ge 13 hc dM_members_6 rfl (fun h_6 => ?_) (fun h_6 => ?_)
  · skip
    have h1 : 1 ≤ h := (nI_lt1 hh).mp h_6
    refine za_aload_n hc dM_members_13 rfl ?_
    refine za_iload_n hc dM_members_14 rfl ?_
    refine za_cV1i hc gsM_229 zob_62 (cM_isRowThere_ l M hh hp h1 r (hn h1)) ⟨rfl, rfl⟩ ⟨Nat.le_of_ble_eq_true rfl, Nat.le_of_ble_eq_true rfl⟩ ⟨Nat.zero_le _, Nat.zero_le _⟩ dM_members_15 (fun x_15 M_15 h_15 => ?_)
    obtain ⟨w0, w1, hm_15⟩ := h_15
    rw [hm_15]
    refine za_if_ne 25 hc dM_members_18 rfl (fun h_18 => ?_) (fun h_18 => ?_)
    · skip
      have hye := w1.mp (w0.resolve_left h_18)
      refine za_iconst hc 0 dM_members_25 rfl ?_
      refine za_putI hc gpM_66 zob_62 dM_members_26 ?_
      refine za_aload_n hc dM_members_29 rfl ?_
      refine za_getI hc gfM_66 zob_62 dM_members_30 ?_
      rw [zI_s, if_pos rfl]
      refine za_if_le 40 hc dM_members_33 rfl (fun h_33 => ?_) (fun h_33 => ?_)
      · skip
        obtain ⟨k0, hk0, hkk⟩ : ∃ k, k < n ∧ r = nI k := (ix_or r n hn12).resolve_right (fun z => z.elim hye.1 (fun w => Int32.not_lt.mpr w hye.2))
        subst hkk
        refine za_aload_n hc dM_members_40 rfl ?_
        refine za_getA hc gfM_13 zob_62 (p := 64) rfl dM_members_41 ?_
        refine za_bipush hc 12 dM_members_44 rfl ?_
        refine za_aload_n hc dM_members_46 rfl ?_
        refine za_getI hc gfM_220 zob_62 dM_members_47 ?_
        rw [zI_s, if_neg (by decide), hp]
        refine za_iconst hc 1 dM_members_50 rfl ?_
        refine za_isub hc dM_members_51 ?_
        rw [nI_pr1 (by omega)]
        refine za_imul hc dM_members_52 ?_
        refine za_iload_n hc dM_members_53 rfl ?_
        refine za_iadd hc dM_members_54 ?_
        rw [zic]
        refine zm_iald hc (by assumption) dM_members_55 (by omega) (by decide) ?_
        rw [zI_o (by decide)]
        exact za_iret hc rfl dM_members_56 ⟨Nat.zero_le _, Nat.zero_le _⟩ (⟨_, rfl, fun z => absurd z (by omega), fun _ => ⟨fun k hk hr => ⟨by rw [nI_inj3 hr (by omega) (by omega)], rfl⟩, fun z => absurd z (fun w => w.elim hye.1 (fun v => Int32.not_lt.mpr v hye.2))⟩⟩)
      · skip
        exact absurd (Int32.le_refl _) h_33
    · skip
      have hno : ¬ (¬ r < 0 ∧ r < nI n) := fun z => absurd (w1.mpr z) (by rw [h_18]; decide)
      refine za_iconst hc 2 dM_members_21 rfl ?_
      refine za_goto 26 hc dM_members_22 rfl ?_
      refine za_putI hc gpM_66 zob_62 dM_members_26 ?_
      refine za_aload_n hc dM_members_29 rfl ?_
      refine za_getI hc gfM_66 zob_62 dM_members_30 ?_
      rw [zI_s, if_pos rfl]
      refine za_if_le 40 hc dM_members_33 rfl (fun h_33 => ?_) (fun h_33 => ?_)
      · skip
        exact absurd h_33 (by decide)
      · skip
        refine za_iconst hc 0 dM_members_36 rfl ?_
        refine za_goto 56 hc dM_members_37 rfl ?_
        exact za_iret hc rfl dM_members_56 ⟨Nat.zero_le _, Nat.zero_le _⟩ (⟨_, rfl, fun z => absurd z (by omega), fun _ => ⟨fun k hk hr => absurd ⟨by rw [hr]; exact Int32.not_lt.mpr ((nI_leI (a := 0) (b := k) (by decide) (by omega)).mpr (by omega)), by rw [hr]; exact Int32.not_le.mp (fun z => absurd ((nI_leI (by omega) (by omega)).mp z) (by omega))⟩ hno, fun _ => ⟨rfl, rfl⟩⟩⟩)
  · skip
    have h0 : h = 0 := by have : ¬ 1 ≤ h := fun z => h_6 ((nI_lt1 hh).mpr z); omega
    refine za_iconst hc 1 dM_members_9 rfl ?_
    refine za_goto 26 hc dM_members_10 rfl ?_
    refine za_putI hc gpM_66 zob_62 dM_members_26 ?_
    refine za_aload_n hc dM_members_29 rfl ?_
    refine za_getI hc gfM_66 zob_62 dM_members_30 ?_
    rw [zI_s, if_pos rfl]
    refine za_if_le 40 hc dM_members_33 rfl (fun h_33 => ?_) (fun h_33 => ?_)
    · skip
      exact absurd h_33 (by decide)
    · skip
      refine za_iconst hc 0 dM_members_36 rfl ?_
      refine za_goto 56 hc dM_members_37 rfl ?_
      exact za_iret hc rfl dM_members_56 ⟨Nat.zero_le _, Nat.zero_le _⟩ (⟨_, rfl, fun _ => ⟨rfl, rfl⟩, fun z => absurd z (by omega)⟩)
