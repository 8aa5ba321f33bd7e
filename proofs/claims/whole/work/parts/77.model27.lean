/-! The model: part. -/
def gpart (w : Int32) (m : gC) : Int := if w = 0 then m.1 else if w = 1 then m.2.1 else if w = 2 then m.2.2.1 else if m.2.2.2 = true then 1 else 0
/-- what part answers (x) and throws (c) -/
def gPq (P : List (List gC)) (r i w : Int32) (x : Int) (c : Int32) : Prop := ((r < 0 ∨ nI P.length ≤ r) ∧ c = 2 ∧ x = 0) ∨ ∃ k row, P[k]? = some row ∧ r = nI k ∧ (((i < 0 ∨ nI row.length ≤ i) ∧ c = 2 ∧ x = 0) ∨ ∃ j m, row[j]? = some m ∧ i = nI j ∧ (((w < 0 ∨ 3 < w) ∧ c = 3 ∧ x = 0) ∨ ((w = 0 ∨ w = 1 ∨ w = 2 ∨ w = 3) ∧ c = 0 ∧ x = gpart w m)))
theorem ix_no {n k : Nat} (hn : n ≤ 12) (hk : k < n) : ¬ (nI k < 0 ∨ nI n ≤ nI k) := by
  rintro (z | z)
  · exact Int32.not_lt.mpr ((nI_leI (a := 0) (b := k) (by decide) (by omega)).mpr (by omega)) z
  · exact absurd ((nI_leI (by omega) (by omega)).mp z) (by omega)
theorem wh_or {w : Int32} (h0 : ¬ w < 0) (h1 : w ≤ 3) : w = 0 ∨ w = 1 ∨ w = 2 ∨ w = 3 := by
  rcases ix_or w 4 (by decide) with ⟨k, hk, e⟩ | z | z
  · subst e
    match k, hk with
    | 0, _ => exact Or.inl rfl
    | 1, _ => exact Or.inr (Or.inl rfl)
    | 2, _ => exact Or.inr (Or.inr (Or.inl rfl))
    | 3, _ => exact Or.inr (Or.inr (Or.inr rfl))
    | n + 4, h => omega
  · exact absurd z h0
  · exact absurd (Int32.le_trans z h1) (by decide)
theorem wh_no {w : Int32} (h : w = 0 ∨ w = 1 ∨ w = 2 ∨ w = 3) : ¬ (w < 0 ∨ 3 < w) := by rcases h with z | z | z | z <;> rw [z] <;> decide
theorem gPq_uniq {P : List (List gC)} {r i w : Int32} {x x' : Int} {c c' : Int32} (hP : P.length ≤ 12) (hl : ∀ row ∈ P, row.length ≤ 12) (h : gPq P r i w x c) (h' : gPq P r i w x' c') : c = c' ∧ x = x' := by
  have in1 : ∀ k row, P[k]? = some row → r = nI k → ¬ (r < 0 ∨ nI P.length ≤ r) := fun k row h1 h2 => by rw [h2]; exact ix_no hP (List.getElem?_eq_some_iff.mp h1).1
  rcases h with ⟨a1, a2, a3⟩ | ⟨k, row, a1, a2, a3⟩ <;> rcases h' with ⟨b1, b2, b3⟩ | ⟨k', row', b1, b2, b3⟩
  · exact ⟨a2.trans b2.symm, a3.trans b3.symm⟩
  · exact absurd a1 (in1 _ _ b1 b2)
  · exact absurd b1 (in1 _ _ a1 a2)
  · have e : k = k' := nI_inj3 (a2.symm.trans b2) (by have := (List.getElem?_eq_some_iff.mp a1).1; omega) (by have := (List.getElem?_eq_some_iff.mp b1).1; omega)
    subst e
    rw [a1] at b1; cases b1
    have hrl := hl row (List.mem_of_getElem? a1)
    have in2 : ∀ k m, row[k]? = some m → i = nI k → ¬ (i < 0 ∨ nI row.length ≤ i) := fun k m h1 h2 => by rw [h2]; exact ix_no hrl (List.getElem?_eq_some_iff.mp h1).1
    rcases a3 with ⟨a3, a4, a5⟩ | ⟨j, m, a3, a4, a5⟩ <;> rcases b3 with ⟨b3, b4, b5⟩ | ⟨j', m', b3, b4, b5⟩
    · exact ⟨a4.trans b4.symm, a5.trans b5.symm⟩
    · exact absurd a3 (in2 _ _ b3 b4)
    · exact absurd b3 (in2 _ _ a3 a4)
    · have e : j = j' := nI_inj3 (a4.symm.trans b4) (by have := (List.getElem?_eq_some_iff.mp a3).1; omega) (by have := (List.getElem?_eq_some_iff.mp b3).1; omega)
      subst e
      rw [a3] at b3; cases b3
      rcases a5 with ⟨a5, a6, a7⟩ | ⟨a5, a6, a7⟩ <;> rcases b5 with ⟨b5, b6, b7⟩ | ⟨b5, b6, b7⟩
      · exact ⟨a6.trans b6.symm, a7.trans b7.symm⟩
      · exact absurd a5 (wh_no b5)
      · exact absurd b5 (wh_no a5)
      · exact ⟨a6.trans b6.symm, a7.trans b7.symm⟩

set_option maxRecDepth 100000 in
set_option maxHeartbeats 4000000 in
theorem cM_part_ (l : Launch) {h : Nat} {P : List (List gC)} (M : zM) (hh : h ≤ 6) (hp : zI M 62 7 = nI h) (r i w : Int32) (hP : 1 ≤ h → sH M (h - 1) P) (hsb : sbo M) : zMet l mM_part rM_part [.ref 62, .int r, .int i, .int w] M (zqi (fun x M' => (h = 0 → x = 0 ∧ M' = zsI M 62 0 1) ∧ (0 < h → ∃ c : Int32, M' = zsI M 62 0 c ∧ gPq P r i w x.toInt c))) := by
  refine za_enter (by decide) (Nat.le_of_ble_eq_true rfl) (fun X hc => ?_)
  have a63 := ar_63
  have a64 := ar_64
  have a65 := ar_65
  have a66 := ar_66
  have a67 := ar_67
  have a68 := ar_68
  refine za_aload_n hc dM_part_0 rfl ?_
  refine za_aload_n hc dM_part_1 rfl ?_
  refine za_getI hc gfM_220 zob_62 dM_part_2 ?_
  rw [hp]
  refine za_iconst hc 1 dM_part_5 rfl ?_
  refine za_icmp_ge 13 hc dM_part_6 rfl (fun h_6 => ?_) (fun h_6 => ?_)
  · skip
    have h1 : 1 ≤ h := (nI_lt1 hh).mp h_6
    have hS := hP h1
    have hPl := hS.2.1
    refine za_aload_n hc dM_part_13 rfl ?_
    refine za_iload_n hc dM_part_14 rfl ?_
    refine za_cV1i hc gsM_229 zob_62 (cM_isRowThere_ l M hh hp h1 r hS.1) ⟨rfl, rfl⟩ ⟨Nat.le_of_ble_eq_true rfl, Nat.le_of_ble_eq_true rfl⟩ ⟨Nat.zero_le _, Nat.zero_le _⟩ dM_part_15 (fun x_15 M_15 h_15 => ?_)
    obtain ⟨w0, w1, hm_15⟩ := h_15
    rw [hm_15]
    refine za_if_eq 45 hc dM_part_18 rfl (fun h_18 => ?_) (fun h_18 => ?_)
    · skip
      have hno : r < 0 ∨ nI P.length ≤ r := Classical.byContradiction (fun z => absurd (w1.mpr ⟨fun a => z (Or.inl a), Int32.not_le.mp (fun a => z (Or.inr a))⟩) (by rw [h_18]; decide))
      refine za_iconst hc 2 dM_part_45 rfl ?_
      refine za_goto 63 hc dM_part_46 rfl ?_
      refine za_putI hc gpM_66 zob_62 dM_part_63 ?_
      refine za_aload_n hc dM_part_66 rfl ?_
      refine za_getI hc gfM_66 zob_62 dM_part_67 ?_
      rw [zI_s, if_pos rfl]
      refine za_if_le 75 hc dM_part_70 rfl (fun h_70 => ?_) (fun h_70 => ?_)
      · skip
        exact absurd h_70 (by decide)
      · skip
        refine za_iconst hc 0 dM_part_73 rfl ?_
        exact za_iret hc rfl dM_part_74 ⟨Nat.zero_le _, Nat.zero_le _⟩ (by first | exact ⟨_, rfl, fun z => absurd z (by omega), fun _ => ⟨2, rfl, Or.inl ⟨hno, rfl, rfl⟩⟩⟩ | exact ⟨_, rfl, fun z => absurd z (by omega), fun _ => ⟨2, rfl, Or.inr ⟨k0, row, hrk, rfl, Or.inl ⟨hib, rfl, rfl⟩⟩⟩⟩)
    · skip
      have hye := w1.mp (w0.resolve_left h_18)
      obtain ⟨k0, hk0, hkk⟩ : ∃ k, k < P.length ∧ r = nI k := (ix_or r P.length hPl).resolve_right (fun z => z.elim hye.1 (fun w => Int32.not_lt.mpr w hye.2))
      subst hkk
      have hrk := List.getElem?_eq_getElem (l := P) hk0
      generalize hre : P[k0] = row at hrk
      obtain ⟨a1, a2, a3, a4⟩ := hS.2.2 k0 row hrk
      refine za_iload_n hc dM_part_21 rfl ?_
      refine za_if_lt 45 hc dM_part_22 rfl (fun h_22 => ?_) (fun h_22 => ?_)
      · skip
        have hib : i < 0 ∨ nI row.length ≤ i := Or.inl h_22
        refine za_iconst hc 2 dM_part_45 rfl ?_
        refine za_goto 63 hc dM_part_46 rfl ?_
        refine za_putI hc gpM_66 zob_62 dM_part_63 ?_
        refine za_aload_n hc dM_part_66 rfl ?_
        refine za_getI hc gfM_66 zob_62 dM_part_67 ?_
        rw [zI_s, if_pos rfl]
        refine za_if_le 75 hc dM_part_70 rfl (fun h_70 => ?_) (fun h_70 => ?_)
        · skip
          exact absurd h_70 (by decide)
        · skip
          refine za_iconst hc 0 dM_part_73 rfl ?_
          exact za_iret hc rfl dM_part_74 ⟨Nat.zero_le _, Nat.zero_le _⟩ (by first | exact ⟨_, rfl, fun z => absurd z (by omega), fun _ => ⟨2, rfl, Or.inl ⟨hno, rfl, rfl⟩⟩⟩ | exact ⟨_, rfl, fun z => absurd z (by omega), fun _ => ⟨2, rfl, Or.inr ⟨k0, row, hrk, rfl, Or.inl ⟨hib, rfl, rfl⟩⟩⟩⟩)
      · skip
        refine za_iload_n hc dM_part_25 rfl ?_
        refine za_aload_n hc dM_part_26 rfl ?_
        refine za_getA hc gfM_13 zob_62 (p := 64) rfl dM_part_27 ?_
        refine za_bipush hc 12 dM_part_30 rfl ?_
        refine za_aload_n hc dM_part_32 rfl ?_
        refine za_getI hc gfM_220 zob_62 dM_part_33 ?_
        rw [hp]
        refine za_iconst hc 1 dM_part_36 rfl ?_
        refine za_isub hc dM_part_37 ?_
        rw [nI_pr1 h1]
        refine za_imul hc dM_part_38 ?_
        refine za_iload_n hc dM_part_39 rfl ?_
        refine za_iadd hc dM_part_40 ?_
        rw [zic]
        refine zm_iald hc (by assumption) dM_part_41 (by omega) (by decide) ?_
        rw [a2]
        refine za_icmp_lt 49 hc dM_part_42 rfl (fun h_42 => ?_) (fun h_42 => ?_)
        · skip
          obtain ⟨j0, hj0, hjj⟩ : ∃ k, k < row.length ∧ i = nI k := (ix_or i row.length a1).resolve_right (fun z => z.elim h_22 (fun w => Int32.not_lt.mpr w h_42))
          subst hjj
          have hrj := List.getElem?_eq_getElem (l := row) hj0
          generalize hme : row[j0] = m at hrj
          have dm := a3 j0 m hrj
          refine za_iload_n hc dM_part_49 rfl ?_
          refine za_if_lt 58 hc dM_part_50 rfl (fun h_50 => ?_) (fun h_50 => ?_)
          · skip
            have hwb : w < 0 ∨ 3 < w := Or.inl h_50
            refine za_iconst hc 3 dM_part_58 rfl ?_
            refine za_goto 63 hc dM_part_59 rfl ?_
            refine za_putI hc gpM_66 zob_62 dM_part_63 ?_
            refine za_aload_n hc dM_part_66 rfl ?_
            refine za_getI hc gfM_66 zob_62 dM_part_67 ?_
            rw [zI_s, if_pos rfl]
            refine za_if_le 75 hc dM_part_70 rfl (fun h_70 => ?_) (fun h_70 => ?_)
            · skip
              exact absurd h_70 (by decide)
            · skip
              refine za_iconst hc 0 dM_part_73 rfl ?_
              exact za_iret hc rfl dM_part_74 ⟨Nat.zero_le _, Nat.zero_le _⟩ (⟨_, rfl, fun z => absurd z (by omega), fun _ => ⟨3, rfl, Or.inr ⟨k0, row, hrk, rfl, Or.inr ⟨j0, m, hrj, rfl, Or.inl ⟨hwb, rfl, rfl⟩⟩⟩⟩⟩)
          · skip
            refine za_iload_n hc dM_part_53 rfl ?_
            refine za_iconst hc 3 dM_part_54 rfl ?_
            refine za_icmp_le 62 hc dM_part_55 rfl (fun h_55 => ?_) (fun h_55 => ?_)
            · skip
              have hwo := wh_or h_50 h_55
              refine za_iconst hc 0 dM_part_62 rfl ?_
              refine za_putI hc gpM_66 zob_62 dM_part_63 ?_
              refine za_aload_n hc dM_part_66 rfl ?_
              refine za_getI hc gfM_66 zob_62 dM_part_67 ?_
              rw [zI_s, if_pos rfl]
              refine za_if_le 75 hc dM_part_70 rfl (fun h_70 => ?_) (fun h_70 => ?_)
              · skip
                refine za_aload_n hc dM_part_75 rfl ?_
                refine za_getI hc gfM_220 zob_62 dM_part_76 ?_
                rw [zI_s, if_neg (by decide), hp]
                refine za_iconst hc 1 dM_part_79 rfl ?_
                refine za_isub hc dM_part_80 ?_
                rw [nI_pr1 (by omega)]
                refine za_iload_n hc dM_part_81 rfl ?_
                refine za_iload_n hc dM_part_82 rfl ?_
                refine za_cS3i hc gsM_149 (cM_place_ l (zsI M 62 0 0) (p := h - 1) (j := k0) (i := j0)) ⟨rfl, rfl⟩ ⟨Nat.le_of_ble_eq_true rfl, Nat.le_of_ble_eq_true rfl⟩ ⟨Nat.zero_le _, Nat.zero_le _⟩ dM_part_83 (fun x_83 M_83 h_83 => ?_)
                obtain ⟨q_83, hm_83⟩ := h_83
                rw [hm_83, q_83]
                refine za_istore hc dM_part_86 (by decide) ?_
                refine za_iload_n hc dM_part_88 rfl ?_
                refine za_if_ne 102 hc dM_part_89 rfl (fun h_89 => ?_) (fun h_89 => ?_)
                · skip
                  refine za_iload_n hc dM_part_102 rfl ?_
                  refine za_iconst hc 1 dM_part_103 rfl ?_
                  refine za_icmp_ne 117 hc dM_part_104 rfl (fun h_104 => ?_) (fun h_104 => ?_)
                  · skip
                    refine za_iload_n hc dM_part_117 rfl ?_
                    refine za_iconst hc 2 dM_part_118 rfl ?_
                    refine za_icmp_ne 132 hc dM_part_119 rfl (fun h_119 => ?_) (fun h_119 => ?_)
                    · skip
                      refine za_aload_n hc dM_part_132 rfl ?_
                      refine za_getA hc gfM_25 zob_62 (p := 68) rfl dM_part_133 ?_
                      refine za_iload hc dM_part_136 rfl ?_
                      refine zm_zald hc (by assumption) dM_part_138 (by omega) (by decide) ?_
                      rw [zI_o (by decide)]
                      refine za_if_eq 146 hc dM_part_139 rfl (fun h_139 => ?_) (fun h_139 => ?_)
                      · skip
                        have hst : m.2.2.2 = false := by rw [← dm]; show (zI M 68 _ == 1) = false; rw [h_139]; rfl
                        refine za_iconst hc 0 dM_part_146 rfl ?_
                        exact za_iret hc rfl dM_part_147 ⟨Nat.zero_le _, Nat.zero_le _⟩ (by first | exact ⟨_, rfl, fun z => absurd z (by omega), fun _ => ⟨0, rfl, Or.inr ⟨k0, row, hrk, rfl, Or.inr ⟨j0, m, hrj, rfl, Or.inr ⟨hwo, rfl, by unfold gpart; rw [if_pos h_89, ← dm]; rfl⟩⟩⟩⟩⟩ | exact ⟨_, rfl, fun z => absurd z (by omega), fun _ => ⟨0, rfl, Or.inr ⟨k0, row, hrk, rfl, Or.inr ⟨j0, m, hrj, rfl, Or.inr ⟨hwo, rfl, by unfold gpart; rw [if_neg h_89, if_pos h_104, ← dm]; rfl⟩⟩⟩⟩⟩ | exact ⟨_, rfl, fun z => absurd z (by omega), fun _ => ⟨0, rfl, Or.inr ⟨k0, row, hrk, rfl, Or.inr ⟨j0, m, hrj, rfl, Or.inr ⟨hwo, rfl, by unfold gpart; rw [if_neg h_89, if_neg h_104, if_pos h_119, ← dm]; rfl⟩⟩⟩⟩⟩ | exact ⟨_, rfl, fun z => absurd z (by omega), fun _ => ⟨0, rfl, Or.inr ⟨k0, row, hrk, rfl, Or.inr ⟨j0, m, hrj, rfl, Or.inr ⟨hwo, rfl, by unfold gpart; rw [if_neg h_89, if_neg h_104, if_neg h_119, hst]; rfl⟩⟩⟩⟩⟩)
                      · skip
                        have hst : m.2.2.2 = true := by rw [← dm]; show (zI M 68 _ == 1) = true; rw [(hsb _).resolve_left h_139]; rfl
                        refine za_iconst hc 1 dM_part_142 rfl ?_
                        refine za_goto 147 hc dM_part_143 rfl ?_
                        exact za_iret hc rfl dM_part_147 ⟨Nat.zero_le _, Nat.zero_le _⟩ (by first | exact ⟨_, rfl, fun z => absurd z (by omega), fun _ => ⟨0, rfl, Or.inr ⟨k0, row, hrk, rfl, Or.inr ⟨j0, m, hrj, rfl, Or.inr ⟨hwo, rfl, by unfold gpart; rw [if_pos h_89, ← dm]; rfl⟩⟩⟩⟩⟩ | exact ⟨_, rfl, fun z => absurd z (by omega), fun _ => ⟨0, rfl, Or.inr ⟨k0, row, hrk, rfl, Or.inr ⟨j0, m, hrj, rfl, Or.inr ⟨hwo, rfl, by unfold gpart; rw [if_neg h_89, if_pos h_104, ← dm]; rfl⟩⟩⟩⟩⟩ | exact ⟨_, rfl, fun z => absurd z (by omega), fun _ => ⟨0, rfl, Or.inr ⟨k0, row, hrk, rfl, Or.inr ⟨j0, m, hrj, rfl, Or.inr ⟨hwo, rfl, by unfold gpart; rw [if_neg h_89, if_neg h_104, if_pos h_119, ← dm]; rfl⟩⟩⟩⟩⟩ | exact ⟨_, rfl, fun z => absurd z (by omega), fun _ => ⟨0, rfl, Or.inr ⟨k0, row, hrk, rfl, Or.inr ⟨j0, m, hrj, rfl, Or.inr ⟨hwo, rfl, by unfold gpart; rw [if_neg h_89, if_neg h_104, if_neg h_119, hst]; rfl⟩⟩⟩⟩⟩)
                    · skip
                      refine za_aload_n hc dM_part_122 rfl ?_
                      refine za_getA hc gfM_22 zob_62 (p := 67) rfl dM_part_123 ?_
                      refine za_iload hc dM_part_126 rfl ?_
                      refine zm_iald hc (by assumption) dM_part_128 (by omega) (by decide) ?_
                      rw [zI_o (by decide)]
                      refine za_goto 147 hc dM_part_129 rfl ?_
                      exact za_iret hc rfl dM_part_147 ⟨Nat.zero_le _, Nat.zero_le _⟩ (by first | exact ⟨_, rfl, fun z => absurd z (by omega), fun _ => ⟨0, rfl, Or.inr ⟨k0, row, hrk, rfl, Or.inr ⟨j0, m, hrj, rfl, Or.inr ⟨hwo, rfl, by unfold gpart; rw [if_pos h_89, ← dm]; rfl⟩⟩⟩⟩⟩ | exact ⟨_, rfl, fun z => absurd z (by omega), fun _ => ⟨0, rfl, Or.inr ⟨k0, row, hrk, rfl, Or.inr ⟨j0, m, hrj, rfl, Or.inr ⟨hwo, rfl, by unfold gpart; rw [if_neg h_89, if_pos h_104, ← dm]; rfl⟩⟩⟩⟩⟩ | exact ⟨_, rfl, fun z => absurd z (by omega), fun _ => ⟨0, rfl, Or.inr ⟨k0, row, hrk, rfl, Or.inr ⟨j0, m, hrj, rfl, Or.inr ⟨hwo, rfl, by unfold gpart; rw [if_neg h_89, if_neg h_104, if_pos h_119, ← dm]; rfl⟩⟩⟩⟩⟩ | exact ⟨_, rfl, fun z => absurd z (by omega), fun _ => ⟨0, rfl, Or.inr ⟨k0, row, hrk, rfl, Or.inr ⟨j0, m, hrj, rfl, Or.inr ⟨hwo, rfl, by unfold gpart; rw [if_neg h_89, if_neg h_104, if_neg h_119, hst]; rfl⟩⟩⟩⟩⟩)
                  · skip
                    refine za_aload_n hc dM_part_107 rfl ?_
                    refine za_getA hc gfM_19 zob_62 (p := 66) rfl dM_part_108 ?_
                    refine za_iload hc dM_part_111 rfl ?_
                    refine zm_iald hc (by assumption) dM_part_113 (by omega) (by decide) ?_
                    rw [zI_o (by decide)]
                    refine za_goto 147 hc dM_part_114 rfl ?_
                    exact za_iret hc rfl dM_part_147 ⟨Nat.zero_le _, Nat.zero_le _⟩ (by first | exact ⟨_, rfl, fun z => absurd z (by omega), fun _ => ⟨0, rfl, Or.inr ⟨k0, row, hrk, rfl, Or.inr ⟨j0, m, hrj, rfl, Or.inr ⟨hwo, rfl, by unfold gpart; rw [if_pos h_89, ← dm]; rfl⟩⟩⟩⟩⟩ | exact ⟨_, rfl, fun z => absurd z (by omega), fun _ => ⟨0, rfl, Or.inr ⟨k0, row, hrk, rfl, Or.inr ⟨j0, m, hrj, rfl, Or.inr ⟨hwo, rfl, by unfold gpart; rw [if_neg h_89, if_pos h_104, ← dm]; rfl⟩⟩⟩⟩⟩ | exact ⟨_, rfl, fun z => absurd z (by omega), fun _ => ⟨0, rfl, Or.inr ⟨k0, row, hrk, rfl, Or.inr ⟨j0, m, hrj, rfl, Or.inr ⟨hwo, rfl, by unfold gpart; rw [if_neg h_89, if_neg h_104, if_pos h_119, ← dm]; rfl⟩⟩⟩⟩⟩ | exact ⟨_, rfl, fun z => absurd z (by omega), fun _ => ⟨0, rfl, Or.inr ⟨k0, row, hrk, rfl, Or.inr ⟨j0, m, hrj, rfl, Or.inr ⟨hwo, rfl, by unfold gpart; rw [if_neg h_89, if_neg h_104, if_neg h_119, hst]; rfl⟩⟩⟩⟩⟩)
                · skip
                  refine za_aload_n hc dM_part_92 rfl ?_
                  refine za_getA hc gfM_16 zob_62 (p := 65) rfl dM_part_93 ?_
                  refine za_iload hc dM_part_96 rfl ?_
                  refine zm_iald hc (by assumption) dM_part_98 (by omega) (by decide) ?_
                  rw [zI_o (by decide)]
                  refine za_goto 147 hc dM_part_99 rfl ?_
                  exact za_iret hc rfl dM_part_147 ⟨Nat.zero_le _, Nat.zero_le _⟩ (by first | exact ⟨_, rfl, fun z => absurd z (by omega), fun _ => ⟨0, rfl, Or.inr ⟨k0, row, hrk, rfl, Or.inr ⟨j0, m, hrj, rfl, Or.inr ⟨hwo, rfl, by unfold gpart; rw [if_pos h_89, ← dm]; rfl⟩⟩⟩⟩⟩ | exact ⟨_, rfl, fun z => absurd z (by omega), fun _ => ⟨0, rfl, Or.inr ⟨k0, row, hrk, rfl, Or.inr ⟨j0, m, hrj, rfl, Or.inr ⟨hwo, rfl, by unfold gpart; rw [if_neg h_89, if_pos h_104, ← dm]; rfl⟩⟩⟩⟩⟩ | exact ⟨_, rfl, fun z => absurd z (by omega), fun _ => ⟨0, rfl, Or.inr ⟨k0, row, hrk, rfl, Or.inr ⟨j0, m, hrj, rfl, Or.inr ⟨hwo, rfl, by unfold gpart; rw [if_neg h_89, if_neg h_104, if_pos h_119, ← dm]; rfl⟩⟩⟩⟩⟩ | exact ⟨_, rfl, fun z => absurd z (by omega), fun _ => ⟨0, rfl, Or.inr ⟨k0, row, hrk, rfl, Or.inr ⟨j0, m, hrj, rfl, Or.inr ⟨hwo, rfl, by unfold gpart; rw [if_neg h_89, if_neg h_104, if_neg h_119, hst]; rfl⟩⟩⟩⟩⟩)
              · skip
                exact absurd (Int32.le_refl _) h_70
            · skip
              have hwb : w < 0 ∨ 3 < w := Or.inr (Int32.not_le.mp h_55)
              refine za_iconst hc 3 dM_part_58 rfl ?_
              refine za_goto 63 hc dM_part_59 rfl ?_
              refine za_putI hc gpM_66 zob_62 dM_part_63 ?_
              refine za_aload_n hc dM_part_66 rfl ?_
              refine za_getI hc gfM_66 zob_62 dM_part_67 ?_
              rw [zI_s, if_pos rfl]
              refine za_if_le 75 hc dM_part_70 rfl (fun h_70 => ?_) (fun h_70 => ?_)
              · skip
                exact absurd h_70 (by decide)
              · skip
                refine za_iconst hc 0 dM_part_73 rfl ?_
                exact za_iret hc rfl dM_part_74 ⟨Nat.zero_le _, Nat.zero_le _⟩ (⟨_, rfl, fun z => absurd z (by omega), fun _ => ⟨3, rfl, Or.inr ⟨k0, row, hrk, rfl, Or.inr ⟨j0, m, hrj, rfl, Or.inl ⟨hwb, rfl, rfl⟩⟩⟩⟩⟩)
        · skip
          have hib : i < 0 ∨ nI row.length ≤ i := Or.inr (Int32.not_lt.mp h_42)
          refine za_iconst hc 2 dM_part_45 rfl ?_
          refine za_goto 63 hc dM_part_46 rfl ?_
          refine za_putI hc gpM_66 zob_62 dM_part_63 ?_
          refine za_aload_n hc dM_part_66 rfl ?_
          refine za_getI hc gfM_66 zob_62 dM_part_67 ?_
          rw [zI_s, if_pos rfl]
          refine za_if_le 75 hc dM_part_70 rfl (fun h_70 => ?_) (fun h_70 => ?_)
          · skip
            exact absurd h_70 (by decide)
          · skip
            refine za_iconst hc 0 dM_part_73 rfl ?_
            exact za_iret hc rfl dM_part_74 ⟨Nat.zero_le _, Nat.zero_le _⟩ (by first | exact ⟨_, rfl, fun z => absurd z (by omega), fun _ => ⟨2, rfl, Or.inl ⟨hno, rfl, rfl⟩⟩⟩ | exact ⟨_, rfl, fun z => absurd z (by omega), fun _ => ⟨2, rfl, Or.inr ⟨k0, row, hrk, rfl, Or.inl ⟨hib, rfl, rfl⟩⟩⟩⟩)
  · skip
    have h0 : h = 0 := by have : ¬ 1 ≤ h := fun z => h_6 ((nI_lt1 hh).mpr z); omega
    refine za_iconst hc 1 dM_part_9 rfl ?_
    refine za_goto 63 hc dM_part_10 rfl ?_
    refine za_putI hc gpM_66 zob_62 dM_part_63 ?_
    refine za_aload_n hc dM_part_66 rfl ?_
    refine za_getI hc gfM_66 zob_62 dM_part_67 ?_
    rw [zI_s, if_pos rfl]
    refine za_if_le 75 hc dM_part_70 rfl (fun h_70 => ?_) (fun h_70 => ?_)
    · skip
      exact absurd h_70 (by decide)
    · skip
      refine za_iconst hc 0 dM_part_73 rfl ?_
      exact za_iret hc rfl dM_part_74 ⟨Nat.zero_le _, Nat.zero_le _⟩ (⟨_, rfl, fun _ => ⟨rfl, rfl⟩, fun z => absurd z (by omega)⟩)
