/-! RegionDesk: member, row, part, holds, within, least, value. -/
theorem limK {a b c : Int32} (f1 : -(10000 : Int64).toInt ≤ a.toInt ∧ a.toInt ≤ (10000 : Int64).toInt) (f2 : -(10000 : Int64).toInt ≤ b.toInt ∧ b.toInt ≤ (10000 : Int64).toInt) (f3 : -(10000 : Int64).toInt ≤ c.toInt ∧ c.toInt ≤ (10000 : Int64).toInt) : gLim (a.toInt, b.toInt, c.toInt, false) := by
  have z : (10000 : Int64).toInt = 10000 := rfl
  rw [z] at f1 f2 f3
  exact ⟨show a.toInt.natAbs ≤ 10000 by omega, show b.toInt.natAbs ≤ 10000 by omega, show c.toInt.natAbs ≤ 10000 by omega⟩
theorem limB {a : Int32} (h : a.toInt.natAbs ≤ 10000) : -(10000 : Int64).toInt ≤ a.toInt ∧ a.toInt ≤ (10000 : Int64).toInt := by
  have z : (10000 : Int64).toInt = 10000 := rfl
  rw [z]; omega
theorem limA {a : Int32} (h : -(10000 : Int64).toInt ≤ a.toInt ∧ a.toInt ≤ (10000 : Int64).toInt) : a.toInt.natAbs ≤ 10000 := by
  have z : (10000 : Int64).toInt = 10000 := rfl
  rw [z] at h; omega
theorem limC {a : Int32} (h : a.toInt.natAbs ≤ 100) : -(100 : Int64).toInt ≤ a.toInt ∧ a.toInt ≤ (100 : Int64).toInt := by
  have z : (100 : Int64).toInt = 100 := rfl
  rw [z]; omega
theorem limD {a : Int32} (h : -(100 : Int64).toInt ≤ a.toInt ∧ a.toInt ≤ (100 : Int64).toInt) : a.toInt.natAbs ≤ 100 := by
  have z : (100 : Int64).toInt = 100 := rfl
  rw [z] at h; omega
theorem dH_0 {M : zM} {ls : List gC} {j : Nat} {v : Int32} (h : dH M 3 ls) : dH (zsI M 0 j v) 3 ls := dH_kept h (zfr_sI (P := fun k => k = 0) rfl) (by decide) (by decide) (by decide) (by decide) (by decide)

def rx_member : Room := { frames := rK_member.frames, cells := 3, slots := 18, locals := rK_member.locals }
set_option maxRecDepth 100000 in
set_option maxHeartbeats 4000000 in
theorem cK_member_ (l : Launch) (htr : l.stackTraces = false) {n : Nat} {ls : List gC} (M : zM) (a b c s : Int32) (hs : s = 0 ∨ s = 1) (hn : n ≤ 12) (hk : zI M 0 6 = nI n) (hD : dH M 3 ls) (hl : ls.length ≤ n) : zMetX l mK_member rx_member [.ref 0, .int a, .int b, .int c, .int s] M (zqi (fun x M' => ¬ gBadM a b c ∧ n < 12 ∧ x = nI (n + 1) ∧ zI M' 0 6 = nI (n + 1) ∧ zI M' 0 5 = zI M 0 5 ∧ dH M' 3 (gput ls (a.toInt, b.toInt, c.toInt, s == 1)) ∧ zfr (fun k => k = 0 ∨ dB 3 k) M M')) (fun e M' => (e = 0 ∧ gBadM a b c ∧ M' = M) ∨ (e = 1 ∧ ¬ gBadM a b c ∧ n = 12 ∧ M' = M)) := by
  refine zx_enter (by decide) (Nat.le_of_ble_eq_true rfl) (fun X hc hT => ?_)
  have ho := zob_0
  have hoA := zar_1
  have hoB := zar_2
  have hoD := zob_3k
  refine zx_iload_n hc dK_member_0 rfl ?_
  refine zx_i2l hc dK_member_1 ?_
  refine zx_ldc2 hc _ dK_member_2 jlK_40 ?_
  refine zx_cS2i hc gsK_42 (cK_exceeds_ l M a.toInt64 10000 (by decide)) ⟨rfl, rfl⟩ ⟨Nat.le_of_ble_eq_true rfl, Nat.le_of_ble_eq_true rfl⟩ ⟨Nat.le_of_ble_eq_true rfl, Nat.le_of_ble_eq_true rfl⟩ dK_member_5 (fun x_5 M_5 h_5 => ?_)
  obtain ⟨q_5, hm_5⟩ := h_5
  rw [hm_5]
  subst q_5
  refine zx_if_ne 33 hc dK_member_8 rfl (fun h_8 => ?_) (fun h_8 => ?_)
  · skip
    have hbad : gBadM a b c := Or.inl (fun z => h_8 (far_k.mpr (limB (show a.toInt.natAbs ≤ 10000 from z.1))))
    exact zx_throw hc hT htr xtK_46_48 dK_member_33 dK_member_36 dK_member_37 dK_member_39 dK_member_42 ⟨Nat.le_of_ble_eq_true rfl, Nat.le_of_ble_eq_true rfl⟩ ⟨Nat.le_of_ble_eq_true rfl, Nat.le_of_ble_eq_true rfl⟩ (Or.inl ⟨rfl, hbad, rfl⟩)
  · skip
    have f1 := far_k.mp h_8
    refine zx_iload_n hc dK_member_11 rfl ?_
    refine zx_i2l hc dK_member_12 ?_
    refine zx_ldc2 hc _ dK_member_13 jlK_40 ?_
    refine zx_cS2i hc gsK_42 (cK_exceeds_ l M b.toInt64 10000 (by decide)) ⟨rfl, rfl⟩ ⟨Nat.le_of_ble_eq_true rfl, Nat.le_of_ble_eq_true rfl⟩ ⟨Nat.le_of_ble_eq_true rfl, Nat.le_of_ble_eq_true rfl⟩ dK_member_16 (fun x_16 M_16 h_16 => ?_)
    obtain ⟨q_16, hm_16⟩ := h_16
    rw [hm_16]
    subst q_16
    refine zx_if_ne 33 hc dK_member_19 rfl (fun h_19 => ?_) (fun h_19 => ?_)
    · skip
      have hbad : gBadM a b c := Or.inl (fun z => h_19 (far_k.mpr (limB (show b.toInt.natAbs ≤ 10000 from z.2.1))))
      exact zx_throw hc hT htr xtK_46_48 dK_member_33 dK_member_36 dK_member_37 dK_member_39 dK_member_42 ⟨Nat.le_of_ble_eq_true rfl, Nat.le_of_ble_eq_true rfl⟩ ⟨Nat.le_of_ble_eq_true rfl, Nat.le_of_ble_eq_true rfl⟩ (Or.inl ⟨rfl, hbad, rfl⟩)
    · skip
      have f2 := far_k.mp h_19
      refine zx_iload_n hc dK_member_22 rfl ?_
      refine zx_i2l hc dK_member_23 ?_
      refine zx_ldc2 hc _ dK_member_24 jlK_40 ?_
      refine zx_cS2i hc gsK_42 (cK_exceeds_ l M c.toInt64 10000 (by decide)) ⟨rfl, rfl⟩ ⟨Nat.le_of_ble_eq_true rfl, Nat.le_of_ble_eq_true rfl⟩ ⟨Nat.le_of_ble_eq_true rfl, Nat.le_of_ble_eq_true rfl⟩ dK_member_27 (fun x_27 M_27 h_27 => ?_)
      obtain ⟨q_27, hm_27⟩ := h_27
      rw [hm_27]
      subst q_27
      refine zx_if_eq 43 hc dK_member_30 rfl (fun h_30 => ?_) (fun h_30 => ?_)
      · skip
        have f3 := far_k.mp h_30
        refine zx_iload_n hc dK_member_43 rfl ?_
        refine zx_if_ne 61 hc dK_member_44 rfl (fun h_44 => ?_) (fun h_44 => ?_)
        · skip
          have hok : ¬ gBadM a b c := fun z => z.elim (fun w => w (limK f1 f2 f3)) (fun w => h_44 w.1)
          refine zx_aload_n hc dK_member_61 rfl ?_
          refine zx_getI hc gfK_55 (by assumption) dK_member_62 ?_
          rw [hk]
          refine zx_bipush hc 12 dK_member_65 rfl ?_
          refine zx_icmp_lt 80 hc dK_member_67 rfl (fun h_67 => ?_) (fun h_67 => ?_)
          · skip
            have hlt : n < 12 := by rw [show (12 : Int32) = nI 12 from rfl] at h_67; exact Nat.not_le.mp (fun z => absurd ((nI_leI (by decide) (by omega)).mpr z) (Int32.not_le.mpr h_67))
            refine zx_aload_n hc dK_member_80 rfl ?_
            refine zx_getA hc gfK_21 zob_0 (p := 3) rfl dK_member_81 ?_
            refine zx_iload_n hc dK_member_84 rfl ?_
            refine zx_i2l hc dK_member_85 ?_
            refine zx_iload_n hc dK_member_86 rfl ?_
            refine zx_i2l hc dK_member_87 ?_
            refine zx_iload_n hc dK_member_88 rfl ?_
            refine zx_i2l hc dK_member_89 ?_
            refine zx_iload hc dK_member_90 rfl ?_
            refine zx_cV4v hc gsK_64 (by assumption) (cD_put_ l M a.toInt64 b.toInt64 c.toInt64 s zdr_3k hD (by omega) hs (by rw [i2l_int]; have := limA f1; omega) (by rw [i2l_int]; have := limA f2; omega) (by rw [i2l_int]; have := limA f3; omega)) ⟨rfl, rfl⟩ ⟨Nat.le_of_ble_eq_true rfl, Nat.le_of_ble_eq_true rfl⟩ ⟨Nat.le_of_ble_eq_true rfl, Nat.le_of_ble_eq_true rfl⟩ dK_member_92 (fun M_92 h_92 => ?_)
            obtain ⟨y1, y2⟩ := h_92
            rw [i2l_int, i2l_int, i2l_int] at y1
            have e0 : zI M_92 0 = zI M 0 := (y2 0 (fun z => by have := z.1; omega)).1
            refine zx_aload_n hc dK_member_95 rfl ?_
            refine zx_dup hc dK_member_96 rfl ?_
            refine zx_getI hc gfK_55 (by assumption) dK_member_97 ?_
            rw [e0, hk]
            refine zx_iconst hc 1 dK_member_100 rfl ?_
            refine zx_iadd hc dK_member_101 ?_
            rw [show nI n + 1 = nI (n + 1) from (nI_succ n).symm]
            refine zx_putI hc gpK_55 (by assumption) dK_member_102 ?_
            refine zx_aload_n hc dK_member_105 rfl ?_
            refine zx_getI hc gfK_55 (by assumption) dK_member_106 ?_
            rw [zI_s, if_pos rfl]
            exact zx_iret hc rfl dK_member_109 ⟨Nat.le_of_ble_eq_true rfl, Nat.le_of_ble_eq_true rfl⟩ (⟨_, rfl, hok, hlt, rfl, by rw [zI_s, if_pos rfl], by rw [zI_s, if_neg (by decide), e0], dH_0 y1, (y2.wk (fun k z => Or.inr z)).tr (zfr_sI (Or.inl rfl))⟩)
          · skip
            have h12 : n = 12 := by rw [show (12 : Int32) = nI 12 from rfl] at h_67; have := (nI_leI (a := 12) (b := n) (by decide) (by omega)).mp (Int32.not_lt.mp h_67); omega
            exact zx_throw hc hT htr xtK_59_61 dK_member_70 dK_member_73 dK_member_74 dK_member_76 dK_member_79 ⟨Nat.le_of_ble_eq_true rfl, Nat.le_of_ble_eq_true rfl⟩ ⟨Nat.le_of_ble_eq_true rfl, Nat.le_of_ble_eq_true rfl⟩ (Or.inr ⟨rfl, hok, h12, rfl⟩)
        · skip
          refine zx_iload_n hc dK_member_47 rfl ?_
          refine zx_if_ne 61 hc dK_member_48 rfl (fun h_48 => ?_) (fun h_48 => ?_)
          · skip
            have hok : ¬ gBadM a b c := fun z => z.elim (fun w => w (limK f1 f2 f3)) (fun w => h_48 w.2)
            refine zx_aload_n hc dK_member_61 rfl ?_
            refine zx_getI hc gfK_55 (by assumption) dK_member_62 ?_
            rw [hk]
            refine zx_bipush hc 12 dK_member_65 rfl ?_
            refine zx_icmp_lt 80 hc dK_member_67 rfl (fun h_67 => ?_) (fun h_67 => ?_)
            · skip
              have hlt : n < 12 := by rw [show (12 : Int32) = nI 12 from rfl] at h_67; exact Nat.not_le.mp (fun z => absurd ((nI_leI (by decide) (by omega)).mpr z) (Int32.not_le.mpr h_67))
              refine zx_aload_n hc dK_member_80 rfl ?_
              refine zx_getA hc gfK_21 zob_0 (p := 3) rfl dK_member_81 ?_
              refine zx_iload_n hc dK_member_84 rfl ?_
              refine zx_i2l hc dK_member_85 ?_
              refine zx_iload_n hc dK_member_86 rfl ?_
              refine zx_i2l hc dK_member_87 ?_
              refine zx_iload_n hc dK_member_88 rfl ?_
              refine zx_i2l hc dK_member_89 ?_
              refine zx_iload hc dK_member_90 rfl ?_
              refine zx_cV4v hc gsK_64 (by assumption) (cD_put_ l M a.toInt64 b.toInt64 c.toInt64 s zdr_3k hD (by omega) hs (by rw [i2l_int]; have := limA f1; omega) (by rw [i2l_int]; have := limA f2; omega) (by rw [i2l_int]; have := limA f3; omega)) ⟨rfl, rfl⟩ ⟨Nat.le_of_ble_eq_true rfl, Nat.le_of_ble_eq_true rfl⟩ ⟨Nat.le_of_ble_eq_true rfl, Nat.le_of_ble_eq_true rfl⟩ dK_member_92 (fun M_92 h_92 => ?_)
              obtain ⟨y1, y2⟩ := h_92
              rw [i2l_int, i2l_int, i2l_int] at y1
              have e0 : zI M_92 0 = zI M 0 := (y2 0 (fun z => by have := z.1; omega)).1
              refine zx_aload_n hc dK_member_95 rfl ?_
              refine zx_dup hc dK_member_96 rfl ?_
              refine zx_getI hc gfK_55 (by assumption) dK_member_97 ?_
              rw [e0, hk]
              refine zx_iconst hc 1 dK_member_100 rfl ?_
              refine zx_iadd hc dK_member_101 ?_
              rw [show nI n + 1 = nI (n + 1) from (nI_succ n).symm]
              refine zx_putI hc gpK_55 (by assumption) dK_member_102 ?_
              refine zx_aload_n hc dK_member_105 rfl ?_
              refine zx_getI hc gfK_55 (by assumption) dK_member_106 ?_
              rw [zI_s, if_pos rfl]
              exact zx_iret hc rfl dK_member_109 ⟨Nat.le_of_ble_eq_true rfl, Nat.le_of_ble_eq_true rfl⟩ (⟨_, rfl, hok, hlt, rfl, by rw [zI_s, if_pos rfl], by rw [zI_s, if_neg (by decide), e0], dH_0 y1, (y2.wk (fun k z => Or.inr z)).tr (zfr_sI (Or.inl rfl))⟩)
            · skip
              have h12 : n = 12 := by rw [show (12 : Int32) = nI 12 from rfl] at h_67; have := (nI_leI (a := 12) (b := n) (by decide) (by omega)).mp (Int32.not_lt.mp h_67); omega
              exact zx_throw hc hT htr xtK_59_61 dK_member_70 dK_member_73 dK_member_74 dK_member_76 dK_member_79 ⟨Nat.le_of_ble_eq_true rfl, Nat.le_of_ble_eq_true rfl⟩ ⟨Nat.le_of_ble_eq_true rfl, Nat.le_of_ble_eq_true rfl⟩ (Or.inr ⟨rfl, hok, h12, rfl⟩)
          · skip
            have hbad : gBadM a b c := Or.inr ⟨h_44, h_48⟩
            exact zx_throw hc hT htr xtK_46_53 dK_member_51 dK_member_54 dK_member_55 dK_member_57 dK_member_60 ⟨Nat.le_of_ble_eq_true rfl, Nat.le_of_ble_eq_true rfl⟩ ⟨Nat.le_of_ble_eq_true rfl, Nat.le_of_ble_eq_true rfl⟩ (Or.inl ⟨rfl, hbad, rfl⟩)
      · skip
        have hbad : gBadM a b c := Or.inl (fun z => h_30 (far_k.mpr (limB (show c.toInt.natAbs ≤ 10000 from z.2.2))))
        exact zx_throw hc hT htr xtK_46_48 dK_member_33 dK_member_36 dK_member_37 dK_member_39 dK_member_42 ⟨Nat.le_of_ble_eq_true rfl, Nat.le_of_ble_eq_true rfl⟩ ⟨Nat.le_of_ble_eq_true rfl, Nat.le_of_ble_eq_true rfl⟩ (Or.inl ⟨rfl, hbad, rfl⟩)

def rx_row : Room := { frames := rK_row.frames, cells := 1, slots := 6, locals := rK_row.locals }
theorem rEnd {M M1 M2 : zM} {r : Nat} {R : List (List gC)} {v : Int32} (hr : 32 ≤ r) (f1 : zfr (rF r) M M1) (y1 : rH M2 r R) (y2 : zbo M2 3) (y3 : sB M2 (3 + 5)) (y4 : zfr (fun k => dF 3 k ∨ rF r k) M1 M2) :
    zI (zsI (zsI (zsI M2 3 5 0) 0 6 0) 0 5 v) 0 5 = v ∧ zI (zsI (zsI (zsI M2 3 5 0) 0 6 0) 0 5 v) 0 6 = 0 ∧ rH (zsI (zsI (zsI M2 3 5 0) 0 6 0) 0 5 v) r R ∧ dH (zsI (zsI (zsI M2 3 5 0) 0 6 0) 0 5 v) 3 [] ∧ sB (zsI (zsI (zsI M2 3 5 0) 0 6 0) 0 5 v) 8 ∧ zfr (fun k => k = 0 ∨ dF 3 k ∨ rF r k) M (zsI (zsI (zsI M2 3 5 0) 0 6 0) 0 5 v) := by
  have g : zfr (fun k => k = 3 ∨ k = 0) M2 (zsI (zsI (zsI M2 3 5 0) 0 6 0) 0 5 v) := (zfr_sI (P := fun k => k = 3 ∨ k = 0) (Or.inl rfl)).tr ((zfr_sI (P := fun k => k = 3 ∨ k = 0) (Or.inr rfl)).tr (zfr_sI (P := fun k => k = 3 ∨ k = 0) (Or.inr rfl)))
  refine ⟨by rw [zI_s, if_pos rfl], by rw [zI_s, if_neg (by decide), zI_s, if_pos rfl], rH_kept y1 g (by omega) (by omega) (by omega), ⟨by rw [zI_o (by decide), zI_o (by decide), zI_s, if_pos rfl]; rfl, by decide, fun j q hq => by simp at hq, zfr_bo (d := 3) g (by decide) y2⟩, sB_kept y3 g (by decide) (by decide) (by decide), ?_⟩
  exact (f1.wk (fun k z => Or.inr (Or.inr z))).tr ((y4.wk (fun k z => Or.inr z)).tr (g.wk (fun k z => z.elim (fun w => Or.inr (Or.inl (by rw [w]; exact ⟨by decide, by decide⟩))) (fun w => Or.inl w))))

set_option maxRecDepth 100000 in
set_option maxHeartbeats 4000000 in
theorem cK_row_ (l : Launch) (htr : l.stackTraces = false) {ls : List gC} {h : Nat} (M : zM) (hh : h ≤ 6) (hp : zI M 0 5 = nI h) (hD : dH M 3 ls) (hB : sB M 8) (hok : gOK ls) (hgs : ∃ R, gadd [] ls = some R) : zMetX l mK_row rx_row [.ref 0] M (zqi (fun x M' => h < 6 ∧ x = nI (h + 1) ∧ ∃ R, gadd [] ls = some R ∧ zI M' 0 5 = nI (h + 1) ∧ zI M' 0 6 = 0 ∧ rH M' (32 + 3 * h) R ∧ dH M' 3 [] ∧ sB M' 8 ∧ zfr (fun k => k = 0 ∨ dF 3 k ∨ rF (32 + 3 * h) k) M M')) (fun e M' => e = 1 ∧ h = 6 ∧ M' = M) := by
  refine zx_enter (by decide) (Nat.le_of_ble_eq_true rfl) (fun X hc hT => ?_)
  have ho := zob_0
  have hoA := zar_1
  have hoB := zar_2
  have hoD := zob_3k
  refine zx_aload_n hc dK_row_0 rfl ?_
  refine zx_tV0v hc hT gsK_68 (by assumption) (cK_requireRoom_ l htr M hh hp) ⟨rfl, rfl⟩ ⟨Nat.le_of_ble_eq_true rfl, Nat.le_of_ble_eq_true rfl⟩ ⟨Nat.le_of_ble_eq_true rfl, Nat.le_of_ble_eq_true rfl⟩ dK_row_1 (fun e M9 hx => ⟨hx.1, hx.2.1, hx.2.2⟩) (fun M_1 h_1 => ?_)
  obtain ⟨hlt, hm_1⟩ := h_1
  rw [hm_1]
  have hor := zob_rg (zrg_st (i := h) (by omega))
  have f1 : zfr (rF (32 + 3 * h)) M (zsI M (32 + 3 * h) 2 0) := zfr_sI (P := rF (32 + 3 * h)) ⟨Nat.le_refl _, by omega⟩
  refine zx_aload_n hc dK_row_4 rfl ?_
  refine zx_getA hc gfK_11 zob_0 (p := 1) rfl dK_row_5 ?_
  refine zx_aload_n hc dK_row_8 rfl ?_
  refine zx_getI hc gfK_71 (by assumption) dK_row_9 ?_
  rw [hp]
  refine zk_st hc dK_row_12 (by omega) ?_
  refine zx_astore_n hc dK_row_13 (by decide) ?_
  refine zx_aload_n hc dK_row_14 rfl ?_
  refine zx_cV0v hc gsK_74 (by assumption) (cR_clear_ l M (zrg_st (i := h) (by omega))) ⟨rfl, rfl⟩ ⟨Nat.le_of_ble_eq_true rfl, Nat.le_of_ble_eq_true rfl⟩ ⟨Nat.le_of_ble_eq_true rfl, Nat.le_of_ble_eq_true rfl⟩ dK_row_15 (fun M_15 h_15 => ?_)
  subst h_15
  refine zx_aload_n hc dK_row_18 rfl ?_
  refine zx_aload_n hc dK_row_19 rfl ?_
  refine zx_getA hc gfK_21 zob_0 (p := 3) rfl dK_row_20 ?_
  refine zx_cV1i hc gsK_77 (by assumption) (cR_admit_ l (zsI M (32 + 3 * h) 2 0) (zrg_st (i := h) (by omega)) zdr_3k rH_clear (dH_kept hD f1 (fun z => by have := z.1; omega) (fun z => by have := z.1; omega) (fun z => by have := z.1; omega) (fun z => by have := z.1; omega) (fun z => by have := z.1; omega)) (sB_kept hB f1 (fun z => by have := z.1; omega) (fun z => by have := z.1; omega) (fun z => by have := z.1; omega)) hok) ⟨rfl, rfl⟩ ⟨Nat.le_of_ble_eq_true rfl, Nat.le_of_ble_eq_true rfl⟩ ⟨Nat.le_of_ble_eq_true rfl, Nat.le_of_ble_eq_true rfl⟩ dK_row_23 (fun x_23 M_23 h_23 => ?_)
  obtain ⟨R, hga⟩ := hgs
  rw [hga] at h_23
  obtain ⟨⟨-, y1⟩, y2, y3, y4⟩ := h_23
  have e0 : zI M_23 0 = zI M 0 := by rw [(y4 0 (fun z => z.elim (fun w => by have := w.1; omega) (fun w => by have := w.1; omega))).1, (f1 0 (fun z => by have := z.1; omega)).1]
  refine zx_pop hc dK_row_26 rfl ?_
  refine zx_aload_n hc dK_row_27 rfl ?_
  refine zx_getA hc gfK_21 zob_0 (p := 3) rfl dK_row_28 ?_
  refine zx_cV0v hc gsK_81 (by assumption) (cD_clear_ l M_23 zdr_3k) ⟨rfl, rfl⟩ ⟨Nat.le_of_ble_eq_true rfl, Nat.le_of_ble_eq_true rfl⟩ ⟨Nat.le_of_ble_eq_true rfl, Nat.le_of_ble_eq_true rfl⟩ dK_row_31 (fun M_31 h_31 => ?_)
  subst h_31
  refine zx_aload_n hc dK_row_34 rfl ?_
  refine zx_iconst hc 0 dK_row_35 rfl ?_
  refine zx_putI hc gpK_55 (by assumption) dK_row_36 ?_
  refine zx_aload_n hc dK_row_39 rfl ?_
  refine zx_dup hc dK_row_40 rfl ?_
  refine zx_getI hc gfK_71 (by assumption) dK_row_41 ?_
  rw [zI_s, if_neg (by decide), zI_o (by decide), e0, hp]
  refine zx_iconst hc 1 dK_row_44 rfl ?_
  refine zx_iadd hc dK_row_45 ?_
  rw [show nI h + 1 = nI (h + 1) from (nI_succ h).symm]
  refine zx_putI hc gpK_71 (by assumption) dK_row_46 ?_
  refine zx_aload_n hc dK_row_49 rfl ?_
  refine zx_getI hc gfK_71 (by assumption) dK_row_50 ?_
  rw [zI_s, if_pos rfl]
  exact zx_iret hc rfl dK_row_53 ⟨Nat.le_of_ble_eq_true rfl, Nat.le_of_ble_eq_true rfl⟩ (⟨_, rfl, hlt, rfl, R, hga, rEnd (by omega) f1 y1 y2 y3 y4⟩)

def rx_part : Room := { frames := rK_part.frames, cells := 4, slots := 24, locals := rK_part.locals }
set_option maxRecDepth 100000 in
set_option maxHeartbeats 4000000 in
theorem cK_part_ (l : Launch) (htr : l.stackTraces = false) {P : List (List gC)} {h : Nat} (M : zM) (hh : h ≤ 6) (hp : zI M 0 5 = nI h) (r i w : Int32) (hPQ : 1 ≤ h → rH M (32 + 3 * (h - 1)) P) : zMetX l mK_part rx_part [.ref 0, .int r, .int i, .int w] M (zqi (fun x M' => 1 ≤ h ∧ gPq P r i w x.toInt 0 ∧ M' = M)) (fun e M' => (e = 1 ∧ h < 1 ∧ M' = M) ∨ (1 ≤ h ∧ M' = M ∧ ((e = 3 ∧ gPq P r i w 0 2) ∨ (e = 0 ∧ gPq P r i w 0 3)))) := by
  refine zx_enter (by decide) (Nat.le_of_ble_eq_true rfl) (fun X hc hT => ?_)
  have ho := zob_0
  have hoA := zar_1
  have hoB := zar_2
  refine zx_aload_n hc dK_part_0 rfl ?_
  refine zx_iconst hc (nI 1) dK_part_1 rfl ?_
  refine zx_tV1v hc hT gsK_82 (by assumption) (cK_requireHeight_ l htr M hh hp 1 (by decide)) ⟨rfl, rfl⟩ ⟨Nat.le_of_ble_eq_true rfl, Nat.le_of_ble_eq_true rfl⟩ ⟨Nat.le_of_ble_eq_true rfl, Nat.le_of_ble_eq_true rfl⟩ dK_part_2 (fun e M9 hx => Or.inl ⟨hx.1, hx.2.1, hx.2.2⟩) (fun M_2 h_2 => ?_)
  obtain ⟨hge, hm_2⟩ := h_2
  rw [hm_2]
  have hP := hPQ hge
  have hor := zob_rg (zrg_st (i := h - 1) (by omega))
  refine zx_aload_n hc dK_part_5 rfl ?_
  refine zx_iload_n hc dK_part_6 rfl ?_
  refine zx_tV1v hc hT gsK_122 (by assumption) (cK_requireRow_ l htr M hh hp hge r hP.1) ⟨rfl, rfl⟩ ⟨Nat.le_of_ble_eq_true rfl, Nat.le_of_ble_eq_true rfl⟩ ⟨Nat.le_of_ble_eq_true rfl, Nat.le_of_ble_eq_true rfl⟩ dK_part_7 (fun e M9 hx => Or.inr ⟨hge, hx.2.2, Or.inl ⟨hx.1, Or.inl ⟨hx.2.1, rfl, rfl⟩⟩⟩) (fun M_7 h_7 => ?_)
  obtain ⟨hrr, hm_7⟩ := h_7
  rw [hm_7]
  have hPl := hP.2.1
  obtain ⟨k0, hk0, hke⟩ : ∃ k, k < P.length ∧ r = nI k := (ix_or r P.length hP.2.1).resolve_right (fun z => z.elim hrr.1 (fun w => Int32.not_lt.mpr w hrr.2))
  subst hke
  have hrk := List.getElem?_eq_getElem (l := P) hk0
  generalize hre : P[k0] = row at hrk
  obtain ⟨a1, a2, a3, a4⟩ := hP.2.2 k0 row hrk
  refine zx_aload_n hc dK_part_10 rfl ?_
  refine zx_getA hc gfK_11 zob_0 (p := 1) rfl dK_part_11 ?_
  refine zx_aload_n hc dK_part_14 rfl ?_
  refine zx_getI hc gfK_71 (by assumption) dK_part_15 ?_
  rw [hp]
  refine zx_iconst hc 1 dK_part_18 rfl ?_
  refine zx_isub hc dK_part_19 ?_
  rw [nI_pr1 (by omega)]
  refine zk_st hc dK_part_20 (by omega) ?_
  refine zx_astore hc dK_part_21 (by decide) ?_
  refine zx_iload_n hc dK_part_23 rfl ?_
  refine zx_if_lt 37 hc dK_part_24 rfl (fun h_24 => ?_) (fun h_24 => ?_)
  · skip
    have hib : i < 0 ∨ nI row.length ≤ i := Or.inl h_24
    exact zx_throw hc hT htr xtK_129_131 dK_part_37 dK_part_40 dK_part_41 dK_part_43 dK_part_46 ⟨Nat.le_of_ble_eq_true rfl, Nat.le_of_ble_eq_true rfl⟩ ⟨Nat.le_of_ble_eq_true rfl, Nat.le_of_ble_eq_true rfl⟩ (Or.inr ⟨hge, rfl, Or.inl ⟨rfl, Or.inr ⟨k0, row, hrk, rfl, Or.inl ⟨hib, rfl, rfl⟩⟩⟩⟩)
  · skip
    refine zx_iload_n hc dK_part_27 rfl ?_
    refine zx_aload hc dK_part_28 rfl ?_
    refine zx_iload_n hc dK_part_30 rfl ?_
    refine zx_cV1i hc gsK_125 (by assumption) (cR_memberCount_ l M (zrg_st (i := h - 1) (by omega)) (j := k0) (by omega)) ⟨rfl, rfl⟩ ⟨Nat.le_of_ble_eq_true rfl, Nat.le_of_ble_eq_true rfl⟩ ⟨Nat.le_of_ble_eq_true rfl, Nat.le_of_ble_eq_true rfl⟩ dK_part_31 (fun x_31 M_31 h_31 => ?_)
    obtain ⟨q_31, hm_31⟩ := h_31
    rw [hm_31, q_31]
    rw [a2]
    refine zx_icmp_lt 47 hc dK_part_34 rfl (fun h_34 => ?_) (fun h_34 => ?_)
    · skip
      obtain ⟨j0, hj0, hjj⟩ : ∃ k, k < row.length ∧ i = nI k := (ix_or i row.length a1).resolve_right (fun z => z.elim h_24 (fun w => Int32.not_lt.mpr w h_34))
      subst hjj
      have hrj := List.getElem?_eq_getElem (l := row) hj0
      generalize hme : row[j0] = m at hrj
      have dm := a3 j0 m hrj
      refine zx_iload_n hc dK_part_47 rfl ?_
      by_cases c_48_0 : w = 0
      · skip
        have e_48 := c_48_0
        refine zx_tabIn 80 hc dK_part_48 0 c_48_0 (by decide) (by decide) rfl rfl ?_
        have hw := e_48
        have hwo : w = 0 ∨ w = 1 ∨ w = 2 ∨ w = 3 := Or.inl hw
        refine zx_aload hc dK_part_80 rfl ?_
        refine zx_iload_n hc dK_part_82 rfl ?_
        refine zx_iload_n hc dK_part_83 rfl ?_
        refine zx_cV2i hc gsK_134 (by assumption) (cR_x_ l M (zrg_st (i := h - 1) (by omega)) (j := k0) (i := j0) (by omega) (by omega)) ⟨rfl, rfl⟩ ⟨Nat.le_of_ble_eq_true rfl, Nat.le_of_ble_eq_true rfl⟩ ⟨Nat.le_of_ble_eq_true rfl, Nat.le_of_ble_eq_true rfl⟩ dK_part_84 (fun x_84 M_84 h_84 => ?_)
        obtain ⟨q_84, hm_84⟩ := h_84
        rw [hm_84, q_84]
        exact zx_iret hc rfl dK_part_87 ⟨Nat.le_of_ble_eq_true rfl, Nat.le_of_ble_eq_true rfl⟩ (⟨_, rfl, hge, Or.inr ⟨k0, row, hrk, rfl, Or.inr ⟨j0, m, hrj, rfl, Or.inr ⟨hwo, rfl, by unfold gpart; rw [if_pos hw, ← dm]; rfl⟩⟩⟩, rfl⟩)
      · skip
        by_cases c_48_1 : w = 1
        · skip
          have e_48 := c_48_1
          refine zx_tabIn 88 hc dK_part_48 1 c_48_1 (by decide) (by decide) rfl rfl ?_
          have hw := e_48
          have hwo : w = 0 ∨ w = 1 ∨ w = 2 ∨ w = 3 := Or.inr (Or.inl hw)
          refine zx_aload hc dK_part_88 rfl ?_
          refine zx_iload_n hc dK_part_90 rfl ?_
          refine zx_iload_n hc dK_part_91 rfl ?_
          refine zx_cV2i hc gsK_138 (by assumption) (cR_y_ l M (zrg_st (i := h - 1) (by omega)) (j := k0) (i := j0) (by omega) (by omega)) ⟨rfl, rfl⟩ ⟨Nat.le_of_ble_eq_true rfl, Nat.le_of_ble_eq_true rfl⟩ ⟨Nat.le_of_ble_eq_true rfl, Nat.le_of_ble_eq_true rfl⟩ dK_part_92 (fun x_92 M_92 h_92 => ?_)
          obtain ⟨q_92, hm_92⟩ := h_92
          rw [hm_92, q_92]
          exact zx_iret hc rfl dK_part_95 ⟨Nat.le_of_ble_eq_true rfl, Nat.le_of_ble_eq_true rfl⟩ (⟨_, rfl, hge, Or.inr ⟨k0, row, hrk, rfl, Or.inr ⟨j0, m, hrj, rfl, Or.inr ⟨hwo, rfl, by unfold gpart; rw [hw, if_neg (by decide), if_pos rfl, ← dm]; rfl⟩⟩⟩, rfl⟩)
        · skip
          by_cases c_48_2 : w = 2
          · skip
            have e_48 := c_48_2
            refine zx_tabIn 96 hc dK_part_48 2 c_48_2 (by decide) (by decide) rfl rfl ?_
            have hw := e_48
            have hwo : w = 0 ∨ w = 1 ∨ w = 2 ∨ w = 3 := Or.inr (Or.inr (Or.inl hw))
            refine zx_aload hc dK_part_96 rfl ?_
            refine zx_iload_n hc dK_part_98 rfl ?_
            refine zx_iload_n hc dK_part_99 rfl ?_
            refine zx_cV2i hc gsK_141 (by assumption) (cR_bound_ l M (zrg_st (i := h - 1) (by omega)) (j := k0) (i := j0) (by omega) (by omega)) ⟨rfl, rfl⟩ ⟨Nat.le_of_ble_eq_true rfl, Nat.le_of_ble_eq_true rfl⟩ ⟨Nat.le_of_ble_eq_true rfl, Nat.le_of_ble_eq_true rfl⟩ dK_part_100 (fun x_100 M_100 h_100 => ?_)
            obtain ⟨q_100, hm_100⟩ := h_100
            rw [hm_100, q_100]
            exact zx_iret hc rfl dK_part_103 ⟨Nat.le_of_ble_eq_true rfl, Nat.le_of_ble_eq_true rfl⟩ (⟨_, rfl, hge, Or.inr ⟨k0, row, hrk, rfl, Or.inr ⟨j0, m, hrj, rfl, Or.inr ⟨hwo, rfl, by unfold gpart; rw [hw, if_neg (by decide), if_neg (by decide), if_pos rfl, ← dm]; rfl⟩⟩⟩, rfl⟩)
          · skip
            by_cases c_48_3 : w = 3
            · skip
              have e_48 := c_48_3
              refine zx_tabIn 104 hc dK_part_48 3 c_48_3 (by decide) (by decide) rfl rfl ?_
              have hw := e_48
              have hwo : w = 0 ∨ w = 1 ∨ w = 2 ∨ w = 3 := Or.inr (Or.inr (Or.inr hw))
              refine zx_aload hc dK_part_104 rfl ?_
              refine zx_iload_n hc dK_part_106 rfl ?_
              refine zx_iload_n hc dK_part_107 rfl ?_
              refine zx_cV2i hc gsK_144 (by assumption) (cR_isStrict_ l M (zrg_st (i := h - 1) (by omega)) (j := k0) (i := j0) (by omega) (by omega)) ⟨rfl, rfl⟩ ⟨Nat.le_of_ble_eq_true rfl, Nat.le_of_ble_eq_true rfl⟩ ⟨Nat.le_of_ble_eq_true rfl, Nat.le_of_ble_eq_true rfl⟩ dK_part_108 (fun x_108 M_108 h_108 => ?_)
              obtain ⟨q_108, hm_108⟩ := h_108
              rw [hm_108, q_108]
              refine zx_if_eq 118 hc dK_part_111 rfl (fun h_111 => ?_) (fun h_111 => ?_)
              · skip
                have hst : m.2.2.2 = false := by
                  rw [← dm]; show (zI M ((32 + 3 * (h - 1)) + 2) (48 * k0 + 4 * j0 + 3) == 1) = false
                  by_cases c : zI M ((32 + 3 * (h - 1)) + 2) (48 * k0 + 4 * j0 + 3) = 1
                  · rw [if_pos c] at h_111; exact absurd h_111 (by decide)
                  · exact beq_eq_false_iff_ne.mpr c
                refine zx_iconst hc 0 dK_part_118 rfl ?_
                exact zx_iret hc rfl dK_part_119 ⟨Nat.le_of_ble_eq_true rfl, Nat.le_of_ble_eq_true rfl⟩ (⟨_, rfl, hge, Or.inr ⟨k0, row, hrk, rfl, Or.inr ⟨j0, m, hrj, rfl, Or.inr ⟨hwo, rfl, by unfold gpart; rw [hw, if_neg (by decide), if_neg (by decide), if_neg (by decide), hst]; rfl⟩⟩⟩, rfl⟩)
              · skip
                have hst : m.2.2.2 = true := by
                  rw [← dm]; show (zI M ((32 + 3 * (h - 1)) + 2) (48 * k0 + 4 * j0 + 3) == 1) = true
                  by_cases c : zI M ((32 + 3 * (h - 1)) + 2) (48 * k0 + 4 * j0 + 3) = 1
                  · rw [c]; rfl
                  · rw [if_neg c] at h_111; exact absurd rfl h_111
                refine zx_iconst hc 1 dK_part_114 rfl ?_
                refine zx_goto 119 hc dK_part_115 rfl ?_
                exact zx_iret hc rfl dK_part_119 ⟨Nat.le_of_ble_eq_true rfl, Nat.le_of_ble_eq_true rfl⟩ (⟨_, rfl, hge, Or.inr ⟨k0, row, hrk, rfl, Or.inr ⟨j0, m, hrj, rfl, Or.inr ⟨hwo, rfl, by unfold gpart; rw [hw, if_neg (by decide), if_neg (by decide), if_neg (by decide), hst]; rfl⟩⟩⟩, rfl⟩)
            · skip
              have e_48 : w < 0 ∨ 3 < w := tab_out4 c_48_0 c_48_1 c_48_2 c_48_3
              refine zx_tabOut 120 hc dK_part_48 (tab_int e_48) rfl ?_
              have hwb := e_48
              exact zx_throw hc hT htr xtK_46_148 dK_part_120 dK_part_123 dK_part_124 dK_part_126 dK_part_129 ⟨Nat.le_of_ble_eq_true rfl, Nat.le_of_ble_eq_true rfl⟩ ⟨Nat.le_of_ble_eq_true rfl, Nat.le_of_ble_eq_true rfl⟩ (Or.inr ⟨hge, rfl, Or.inr ⟨rfl, Or.inr ⟨k0, row, hrk, rfl, Or.inr ⟨j0, m, hrj, rfl, Or.inl ⟨hwb, rfl, rfl⟩⟩⟩⟩⟩)
    · skip
      have hib : i < 0 ∨ nI row.length ≤ i := Or.inr (Int32.not_lt.mp h_34)
      exact zx_throw hc hT htr xtK_129_131 dK_part_37 dK_part_40 dK_part_41 dK_part_43 dK_part_46 ⟨Nat.le_of_ble_eq_true rfl, Nat.le_of_ble_eq_true rfl⟩ ⟨Nat.le_of_ble_eq_true rfl, Nat.le_of_ble_eq_true rfl⟩ (Or.inr ⟨hge, rfl, Or.inl ⟨rfl, Or.inr ⟨k0, row, hrk, rfl, Or.inl ⟨hib, rfl, rfl⟩⟩⟩⟩)

def rx_holds : Room := { frames := rK_holds.frames, cells := 3, slots := 18, locals := rK_holds.locals }
set_option maxRecDepth 100000 in
set_option maxHeartbeats 4000000 in
theorem cK_holds_ (l : Launch) (htr : l.stackTraces = false) {P : List (List gC)} {h : Nat} (M : zM) (hh : h ≤ 6) (hp : zI M 0 5 = nI h) (p q d : Int32) (hPQ : 1 ≤ h → rH M (32 + 3 * (h - 1)) P) : zMetX l mK_holds rx_holds [.ref 0, .int p, .int q, .int d] M (zqi (fun x M' => 1 ≤ h ∧ ¬ gBadH p q d ∧ (x = 0 ∨ x = 1) ∧ (x = 1 ↔ ∃ row ∈ P, ∀ m ∈ row, gHat m p.toInt q.toInt d.toInt) ∧ M' = M)) (fun e M' => (e = 1 ∧ h < 1 ∧ M' = M) ∨ (e = 0 ∧ 1 ≤ h ∧ gBadH p q d ∧ M' = M)) := by
  refine zx_enter (by decide) (Nat.le_of_ble_eq_true rfl) (fun X hc hT => ?_)
  have ho := zob_0
  have hoA := zar_1
  have hoB := zar_2
  refine zx_aload_n hc dK_holds_0 rfl ?_
  refine zx_iconst hc (nI 1) dK_holds_1 rfl ?_
  refine zx_tV1v hc hT gsK_82 (by assumption) (cK_requireHeight_ l htr M hh hp 1 (by decide)) ⟨rfl, rfl⟩ ⟨Nat.le_of_ble_eq_true rfl, Nat.le_of_ble_eq_true rfl⟩ ⟨Nat.le_of_ble_eq_true rfl, Nat.le_of_ble_eq_true rfl⟩ dK_holds_2 (fun e M9 hx => Or.inl ⟨hx.1, hx.2.1, hx.2.2⟩) (fun M_2 h_2 => ?_)
  obtain ⟨hge, hm_2⟩ := h_2
  rw [hm_2]
  have hP := hPQ hge
  have hor := zob_rg (zrg_st (i := h - 1) (by omega))
  refine zx_iload_n hc dK_holds_5 rfl ?_
  refine zx_i2l hc dK_holds_6 ?_
  refine zx_ldc2 hc _ dK_holds_7 jlK_40 ?_
  refine zx_cS2i hc gsK_42 (cK_exceeds_ l M p.toInt64 10000 (by decide)) ⟨rfl, rfl⟩ ⟨Nat.le_of_ble_eq_true rfl, Nat.le_of_ble_eq_true rfl⟩ ⟨Nat.le_of_ble_eq_true rfl, Nat.le_of_ble_eq_true rfl⟩ dK_holds_10 (fun x_10 M_10 h_10 => ?_)
  obtain ⟨q_10, hm_10⟩ := h_10
  rw [hm_10]
  subst q_10
  refine zx_if_ne 27 hc dK_holds_13 rfl (fun h_13 => ?_) (fun h_13 => ?_)
  · skip
    have hbad : gBadH p q d := Or.inl (fun z => h_13 (far_k.mpr (limB z)))
    exact zx_throw hc hT htr xtK_46_150 dK_holds_27 dK_holds_30 dK_holds_31 dK_holds_33 dK_holds_36 ⟨Nat.le_of_ble_eq_true rfl, Nat.le_of_ble_eq_true rfl⟩ ⟨Nat.le_of_ble_eq_true rfl, Nat.le_of_ble_eq_true rfl⟩ (Or.inr ⟨rfl, hge, hbad, rfl⟩)
  · skip
    have f1 := far_k.mp h_13
    refine zx_iload_n hc dK_holds_16 rfl ?_
    refine zx_i2l hc dK_holds_17 ?_
    refine zx_ldc2 hc _ dK_holds_18 jlK_40 ?_
    refine zx_cS2i hc gsK_42 (cK_exceeds_ l M q.toInt64 10000 (by decide)) ⟨rfl, rfl⟩ ⟨Nat.le_of_ble_eq_true rfl, Nat.le_of_ble_eq_true rfl⟩ ⟨Nat.le_of_ble_eq_true rfl, Nat.le_of_ble_eq_true rfl⟩ dK_holds_21 (fun x_21 M_21 h_21 => ?_)
    obtain ⟨q_21, hm_21⟩ := h_21
    rw [hm_21]
    subst q_21
    refine zx_if_eq 37 hc dK_holds_24 rfl (fun h_24 => ?_) (fun h_24 => ?_)
    · skip
      have f2 := far_k.mp h_24
      refine zx_iload_n hc dK_holds_37 rfl ?_
      refine zx_iconst hc 1 dK_holds_38 rfl ?_
      refine zx_icmp_lt 49 hc dK_holds_39 rfl (fun h_39 => ?_) (fun h_39 => ?_)
      · skip
        have hbad : gBadH p q d := Or.inr (Or.inr (fun w => absurd (Int32.lt_iff_toInt_lt.mp h_39) (Int.not_lt.mpr w.1)))
        exact zx_throw hc hT htr xtK_46_152 dK_holds_49 dK_holds_52 dK_holds_53 dK_holds_55 dK_holds_58 ⟨Nat.le_of_ble_eq_true rfl, Nat.le_of_ble_eq_true rfl⟩ ⟨Nat.le_of_ble_eq_true rfl, Nat.le_of_ble_eq_true rfl⟩ (Or.inr ⟨rfl, hge, hbad, rfl⟩)
      · skip
        have n3 : 1 ≤ d.toInt := Int.not_lt.mp (fun w => h_39 (Int32.lt_iff_toInt_lt.mpr w))
        refine zx_iload_n hc dK_holds_42 rfl ?_
        refine zx_sipush hc 1000 dK_holds_43 rfl ?_
        refine zx_icmp_le 59 hc dK_holds_46 rfl (fun h_46 => ?_) (fun h_46 => ?_)
        · skip
          have n4 : d.toInt ≤ 1000 := Int32.le_iff_toInt_le.mp h_46
          have hok : ¬ gBadH p q d := fun w => by rcases w with w | w | w; exact w (limA f1); exact w (limA f2); exact w ⟨n3, n4⟩
          refine zx_aload_n hc dK_holds_59 rfl ?_
          refine zx_getA hc gfK_11 zob_0 (p := 1) rfl dK_holds_60 ?_
          refine zx_aload_n hc dK_holds_63 rfl ?_
          refine zx_getI hc gfK_71 (by assumption) dK_holds_64 ?_
          rw [hp]
          refine zx_iconst hc 1 dK_holds_67 rfl ?_
          refine zx_isub hc dK_holds_68 ?_
          rw [nI_pr1 (by omega)]
          refine zk_st hc dK_holds_69 (by omega) ?_
          refine zx_iload_n hc dK_holds_70 rfl ?_
          refine zx_iload_n hc dK_holds_71 rfl ?_
          refine zx_iload_n hc dK_holds_72 rfl ?_
          refine zx_cV3i hc gsK_154 (by assumption) (cR_hasPoint_ l M p q d (zrg_st (i := h - 1) (by omega)) hP (limA f1) (limA f2) (by omega)) ⟨rfl, rfl⟩ ⟨Nat.le_of_ble_eq_true rfl, Nat.le_of_ble_eq_true rfl⟩ ⟨Nat.le_of_ble_eq_true rfl, Nat.le_of_ble_eq_true rfl⟩ dK_holds_73 (fun x_73 M_73 h_73 => ?_)
          obtain ⟨y0, y1, hm_73⟩ := h_73
          rw [hm_73]
          exact zx_zret hc rfl (by rcases y0 with z | z <;> rw [z] <;> rfl) dK_holds_76 ⟨Nat.le_of_ble_eq_true rfl, Nat.le_of_ble_eq_true rfl⟩ (⟨_, rfl, hge, hok, y0, y1, rfl⟩)
        · skip
          have hbad : gBadH p q d := Or.inr (Or.inr (fun w => h_46 (Int32.le_iff_toInt_le.mpr w.2)))
          exact zx_throw hc hT htr xtK_46_152 dK_holds_49 dK_holds_52 dK_holds_53 dK_holds_55 dK_holds_58 ⟨Nat.le_of_ble_eq_true rfl, Nat.le_of_ble_eq_true rfl⟩ ⟨Nat.le_of_ble_eq_true rfl, Nat.le_of_ble_eq_true rfl⟩ (Or.inr ⟨rfl, hge, hbad, rfl⟩)
    · skip
      have hbad : gBadH p q d := Or.inr (Or.inl (fun z => h_24 (far_k.mpr (limB z))))
      exact zx_throw hc hT htr xtK_46_150 dK_holds_27 dK_holds_30 dK_holds_31 dK_holds_33 dK_holds_36 ⟨Nat.le_of_ble_eq_true rfl, Nat.le_of_ble_eq_true rfl⟩ ⟨Nat.le_of_ble_eq_true rfl, Nat.le_of_ble_eq_true rfl⟩ (Or.inr ⟨rfl, hge, hbad, rfl⟩)

def rx_within : Room := { frames := rK_within.frames, cells := 3, slots := 18, locals := rK_within.locals }
theorem wSwap {M : zM} {N : List (List gC)} (h : wI M) (hN : rH M (zR M 12 2) N) : wI (zsR (zsR M 12 3 (zR M 12 2)) 12 2 (zR M 12 3)) ∧ zR M 12 2 ≠ zR (zsR (zsR M 12 3 (zR M 12 2)) 12 2 (zR M 12 3)) 12 2 ∧ rH (zsR (zsR M 12 3 (zR M 12 2)) 12 2 (zR M 12 3)) (zR M 12 2) N ∧ zfr wF M (zsR (zsR M 12 3 (zR M 12 2)) 12 2 (zR M 12 3)) ∧ True := by
  have e2 : zR (zsR (zsR M 12 3 (zR M 12 2)) 12 2 (zR M 12 3)) 12 2 = zR M 12 3 := by rw [zR_sR, if_pos rfl, if_pos rfl]
  have e3 : zR (zsR (zsR M 12 3 (zR M 12 2)) 12 2 (zR M 12 3)) 12 3 = zR M 12 2 := by rw [zR_sR, if_pos rfl, if_neg (by decide), zR_sR, if_pos rfl, if_pos rfl]
  refine ⟨⟨by rw [e2, e3]; exact h.1.elim (fun z => Or.inr ⟨z.2, z.1⟩) (fun z => Or.inl ⟨z.2, z.1⟩), h.2.1, h.2.2⟩, ?_, hN, (zfr_sR (P := wF) ⟨by decide, by decide⟩).tr (zfr_sR (P := wF) ⟨by decide, by decide⟩), trivial⟩
  rw [e2]; rcases h.1 with z | z <;> rw [z.1, z.2] <;> decide

set_option maxRecDepth 100000 in
set_option maxHeartbeats 4000000 in
theorem cK_within_ (l : Launch) (htr : l.stackTraces = false) {P Q : List (List gC)} {h : Nat} (M : zM) (hh : h ≤ 6) (hp : zI M 0 5 = nI h) (hI : wI M) (hPQ : 2 ≤ h → rH M (32 + 3 * (h - 2)) P ∧ rH M (32 + 3 * (h - 1)) Q) : zMetX l mK_within rx_within [.ref 0] M (zqi (fun x M' => 2 ≤ h ∧ ∃ W, gWi P Q = some W ∧ (x = 0 ∨ x = 1) ∧ (x = 1 ↔ W = []) ∧ wI M' ∧ zfr wF M M')) (fun e M' => (e = 1 ∧ h < 2 ∧ M' = M) ∨ (e = 2 ∧ 2 ≤ h ∧ gWi P Q = none ∧ wI M' ∧ zfr wF M M')) := by
  refine zx_enter (by decide) (Nat.le_of_ble_eq_true rfl) (fun X hc hT => ?_)
  have ho := zob_0
  have hoA := zar_1
  have hoB := zar_2
  have how := zob_12
  have hwr := wI_rng hI
  refine zx_aload_n hc dK_within_0 rfl ?_
  refine zx_iconst hc (nI 2) dK_within_1 rfl ?_
  refine zx_tV1v hc hT gsK_82 (by assumption) (cK_requireHeight_ l htr M hh hp 2 (by decide)) ⟨rfl, rfl⟩ ⟨Nat.le_of_ble_eq_true rfl, Nat.le_of_ble_eq_true rfl⟩ ⟨Nat.le_of_ble_eq_true rfl, Nat.le_of_ble_eq_true rfl⟩ dK_within_2 (fun e M9 hx => Or.inl ⟨hx.1, hx.2.1, hx.2.2⟩) (fun M_2 h_2 => ?_)
  obtain ⟨hge, hm_2⟩ := h_2
  rw [hm_2]
  obtain ⟨hP, hQ⟩ := hPQ hge
  refine zx_aload_n hc dK_within_5 rfl ?_
  refine zx_getA hc gfK_28 zob_0 (p := 12) rfl dK_within_6 ?_
  refine zx_aload_n hc dK_within_9 rfl ?_
  refine zx_getA hc gfK_11 zob_0 (p := 1) rfl dK_within_10 ?_
  refine zx_aload_n hc dK_within_13 rfl ?_
  refine zx_getI hc gfK_71 (by assumption) dK_within_14 ?_
  rw [hp]
  refine zx_iconst hc 2 dK_within_17 rfl ?_
  refine zx_isub hc dK_within_18 ?_
  rw [nI_pr2 (by omega)]
  refine zk_st hc dK_within_19 (by omega) ?_
  refine zx_cV1i hc gsK_105 (by assumption) (cW_complement_ l M hI (zrg_st (i := h - 2) (by omega)) (by omega) hP) ⟨rfl, rfl⟩ ⟨Nat.le_of_ble_eq_true rfl, Nat.le_of_ble_eq_true rfl⟩ ⟨Nat.le_of_ble_eq_true rfl, Nat.le_of_ble_eq_true rfl⟩ dK_within_20 (fun x_20 M_20 h_20 => ?_)
  obtain ⟨v1, v2, v5⟩ := h_20
  have e5 : zI M_20 0 = zI M 0 := (v5 0 (fun z => by have := z.1; omega)).1
  refine zx_tS1v hc hT gsK_90 (cK_requireLimitsKept_ l htr M_20 x_20) ⟨rfl, rfl⟩ ⟨Nat.le_of_ble_eq_true rfl, Nat.le_of_ble_eq_true rfl⟩ ⟨Nat.le_of_ble_eq_true rfl, Nat.le_of_ble_eq_true rfl⟩ dK_within_23 (fun e M9 hx => Or.inr ⟨hx.1, hge, by unfold gWi; rw [wm_none v1 hx.2.1], by rw [hx.2.2]; exact v2, by rw [hx.2.2]; exact v5⟩) (fun M_23 h_23 => ?_)
  obtain ⟨w1, hm_23⟩ := h_23
  rw [hm_23]
  obtain ⟨N, hga, hN⟩ := wm_some v1 w1
  obtain ⟨i1, i2, i3, i4, i5⟩ := wSwap v2 hN
  refine zx_aload_n hc dK_within_26 rfl ?_
  refine zx_getA hc gfK_28 zob_0 (p := 12) rfl dK_within_27 ?_
  refine zx_aload_n hc dK_within_30 rfl ?_
  refine zx_getA hc gfK_11 zob_0 (p := 1) rfl dK_within_31 ?_
  refine zx_aload_n hc dK_within_34 rfl ?_
  refine zx_getI hc gfK_71 (by assumption) dK_within_35 ?_
  rw [e5, hp]
  refine zx_iconst hc 1 dK_within_38 rfl ?_
  refine zx_isub hc dK_within_39 ?_
  rw [nI_pr1 (by omega)]
  refine zk_st hc dK_within_40 (by omega) ?_
  refine zx_aload_n hc dK_within_41 rfl ?_
  refine zx_getA hc gfK_28 zob_0 (p := 12) rfl dK_within_42 ?_
  refine zx_cV0r hc gsK_158 (by assumption) (cW_setAside_ l M_20) ⟨rfl, rfl⟩ ⟨Nat.le_of_ble_eq_true rfl, Nat.le_of_ble_eq_true rfl⟩ ⟨Nat.le_of_ble_eq_true rfl, Nat.le_of_ble_eq_true rfl⟩ dK_within_45 (fun x_45 M_45 h_45 => ?_)
  obtain ⟨q_45, hm_45⟩ := h_45
  rw [hm_45, q_45]
  refine zx_cV2i hc gsK_86 (by assumption) (cW_intersect_ l (zsR (zsR M_20 12 3 (zR M_20 12 2)) 12 2 (zR M_20 12 3)) i1 (zrg_st (i := h - 1) (by omega)) (wI_res v2) (by have := wI_rng i1; omega) i2 (rH_kept hQ (v5.tr i4) (wF_rg (r := 32 + 3 * (h - 1)) (by omega) (b := 0)) (wF_rg (r := 32 + 3 * (h - 1)) (by omega)) (wF_rg (r := 32 + 3 * (h - 1)) (by omega))) i3) ⟨rfl, rfl⟩ ⟨Nat.le_of_ble_eq_true rfl, Nat.le_of_ble_eq_true rfl⟩ ⟨Nat.le_of_ble_eq_true rfl, Nat.le_of_ble_eq_true rfl⟩ dK_within_48 (fun x_48 M_48 h_48 => ?_)
  obtain ⟨u1, u2, u3, u4⟩ := h_48
  have u5 : zfr wF M M_48 := (v5.tr i4).tr (u4.wk (fun k z => wR_F (wI_rng i1) z))
  refine zx_tS1v hc hT gsK_90 (cK_requireLimitsKept_ l htr M_48 x_48) ⟨rfl, rfl⟩ ⟨Nat.le_of_ble_eq_true rfl, Nat.le_of_ble_eq_true rfl⟩ ⟨Nat.le_of_ble_eq_true rfl, Nat.le_of_ble_eq_true rfl⟩ dK_within_51 (fun e M9 hx => Or.inr ⟨hx.1, hge, by unfold gWi; rw [hga]; exact wm_none u1 hx.2.1, by rw [hx.2.2]; exact u2, by rw [hx.2.2]; exact u5⟩) (fun M_51 h_51 => ?_)
  obtain ⟨w2, hm_51⟩ := h_51
  rw [hm_51]
  obtain ⟨W, hgb, hW⟩ := wm_some u1 w2
  have hor := zob_rg (wI_res i1)
  refine zx_aload_n hc dK_within_54 rfl ?_
  refine zx_getA hc gfK_28 zob_0 (p := 12) rfl dK_within_55 ?_
  refine zx_cV0r hc gsK_94 (by assumption) (cW_result_ l M_48) ⟨rfl, rfl⟩ ⟨Nat.le_of_ble_eq_true rfl, Nat.le_of_ble_eq_true rfl⟩ ⟨Nat.le_of_ble_eq_true rfl, Nat.le_of_ble_eq_true rfl⟩ dK_within_58 (fun x_58 M_58 h_58 => ?_)
  have er : zR M_48 12 2 = zR (zsR (zsR M_20 12 3 (zR M_20 12 2)) 12 2 (zR M_20 12 3)) 12 2 := by rw [u3]
  obtain ⟨q_58, hm_58⟩ := h_58
  rw [hm_58, q_58, er]
  refine zx_cV0i hc gsK_118 (by assumption) (cR_rowCount_ l M_48 (wI_res i1)) ⟨rfl, rfl⟩ ⟨Nat.le_of_ble_eq_true rfl, Nat.le_of_ble_eq_true rfl⟩ ⟨Nat.le_of_ble_eq_true rfl, Nat.le_of_ble_eq_true rfl⟩ dK_within_61 (fun x_61 M_61 h_61 => ?_)
  obtain ⟨q_61, hm_61⟩ := h_61
  rw [hm_61, q_61, hW.1]
  refine zx_if_ne 71 hc dK_within_64 rfl (fun h_64 => ?_) (fun h_64 => ?_)
  · skip
    have hne : ¬ W = [] := fun z => h_64 (by rw [z]; rfl)
    refine zx_iconst hc 0 dK_within_71 rfl ?_
    exact zx_zret hc rfl (rfl) dK_within_72 ⟨Nat.le_of_ble_eq_true rfl, Nat.le_of_ble_eq_true rfl⟩ (by first | exact ⟨_, rfl, hge, W, by unfold gWi; rw [hga]; exact hgb, Or.inr rfl, ⟨fun _ => hye, fun _ => rfl⟩, u2, u5⟩ | exact ⟨_, rfl, hge, W, by unfold gWi; rw [hga]; exact hgb, Or.inl rfl, ⟨fun z => absurd z (by decide), fun z => absurd z hne⟩, u2, u5⟩)
  · skip
    have hye : W = [] := List.length_eq_zero_iff.mp ((nI_z hW.2.1).mp h_64)
    refine zx_iconst hc 1 dK_within_67 rfl ?_
    refine zx_goto 72 hc dK_within_68 rfl ?_
    exact zx_zret hc rfl (rfl) dK_within_72 ⟨Nat.le_of_ble_eq_true rfl, Nat.le_of_ble_eq_true rfl⟩ (by first | exact ⟨_, rfl, hge, W, by unfold gWi; rw [hga]; exact hgb, Or.inr rfl, ⟨fun _ => hye, fun _ => rfl⟩, u2, u5⟩ | exact ⟨_, rfl, hge, W, by unfold gWi; rw [hga]; exact hgb, Or.inl rfl, ⟨fun z => absurd z (by decide), fun z => absurd z hne⟩, u2, u5⟩)

def rx_least : Room := { frames := rK_least.frames, cells := 2, slots := 12, locals := rK_least.locals }
set_option maxRecDepth 100000 in
set_option maxHeartbeats 4000000 in
theorem cK_least_ (l : Launch) (htr : l.stackTraces = false) {P : List (List gC)} {h : Nat} (M : zM) (hh : h ≤ 6) (hp : zI M 0 5 = nI h) (f g : Int32) (hz : iZ M) (hPQ : 1 ≤ h → rH M (32 + 3 * (h - 1)) P ∧ ∀ row ∈ P, gSat row) : zMetX l mK_least rx_least [.ref 0, .int f, .int g] M (zqi (fun x M' => 1 ≤ h ∧ ¬ gBadF f g ∧ gLst P f.toInt g.toInt x (zJ M' 31 0).toInt (zJ M' 31 1).toInt ∧ iZ M' ∧ zfr iF M M')) (fun e M' => (e = 1 ∧ h < 1 ∧ M' = M) ∨ (e = 0 ∧ 1 ≤ h ∧ gBadF f g ∧ M' = M)) := by
  refine zx_enter (by decide) (Nat.le_of_ble_eq_true rfl) (fun X hc hT => ?_)
  have ho := zob_0
  have hoA := zar_1
  have hoB := zar_2
  have hoI := zob_31k
  refine zx_aload_n hc dK_least_0 rfl ?_
  refine zx_iconst hc (nI 1) dK_least_1 rfl ?_
  refine zx_tV1v hc hT gsK_82 (by assumption) (cK_requireHeight_ l htr M hh hp 1 (by decide)) ⟨rfl, rfl⟩ ⟨Nat.le_of_ble_eq_true rfl, Nat.le_of_ble_eq_true rfl⟩ ⟨Nat.le_of_ble_eq_true rfl, Nat.le_of_ble_eq_true rfl⟩ dK_least_2 (fun e M9 hx => Or.inl ⟨hx.1, hx.2.1, hx.2.2⟩) (fun M_2 h_2 => ?_)
  obtain ⟨hge, hm_2⟩ := h_2
  rw [hm_2]
  obtain ⟨hP, hgd⟩ := hPQ hge
  refine zx_iload_n hc dK_least_5 rfl ?_
  refine zx_i2l hc dK_least_6 ?_
  refine zx_ldc2 hc _ dK_least_7 jlK_161 ?_
  refine zx_cS2i hc gsK_42 (cK_exceeds_ l M f.toInt64 100 (by decide)) ⟨rfl, rfl⟩ ⟨Nat.le_of_ble_eq_true rfl, Nat.le_of_ble_eq_true rfl⟩ ⟨Nat.le_of_ble_eq_true rfl, Nat.le_of_ble_eq_true rfl⟩ dK_least_10 (fun x_10 M_10 h_10 => ?_)
  obtain ⟨q_10, hm_10⟩ := h_10
  rw [hm_10]
  subst q_10
  refine zx_if_ne 27 hc dK_least_13 rfl (fun h_13 => ?_) (fun h_13 => ?_)
  · skip
    have hbad : gBadF f g := Or.inl (fun z => h_13 (far_k.mpr (limC z)))
    exact zx_throw hc hT htr xtK_46_163 dK_least_27 dK_least_30 dK_least_31 dK_least_33 dK_least_36 ⟨Nat.le_of_ble_eq_true rfl, Nat.le_of_ble_eq_true rfl⟩ ⟨Nat.le_of_ble_eq_true rfl, Nat.le_of_ble_eq_true rfl⟩ (Or.inr ⟨rfl, hge, hbad, rfl⟩)
  · skip
    have f1 := far_k.mp h_13
    refine zx_iload_n hc dK_least_16 rfl ?_
    refine zx_i2l hc dK_least_17 ?_
    refine zx_ldc2 hc _ dK_least_18 jlK_161 ?_
    refine zx_cS2i hc gsK_42 (cK_exceeds_ l M g.toInt64 100 (by decide)) ⟨rfl, rfl⟩ ⟨Nat.le_of_ble_eq_true rfl, Nat.le_of_ble_eq_true rfl⟩ ⟨Nat.le_of_ble_eq_true rfl, Nat.le_of_ble_eq_true rfl⟩ dK_least_21 (fun x_21 M_21 h_21 => ?_)
    obtain ⟨q_21, hm_21⟩ := h_21
    rw [hm_21]
    subst q_21
    refine zx_if_eq 37 hc dK_least_24 rfl (fun h_24 => ?_) (fun h_24 => ?_)
    · skip
      have f2 := far_k.mp h_24
      have hok : ¬ gBadF f g := fun w => w.elim (fun w => w (limD f1)) (fun w => w (limD f2))
      refine zx_aload_n hc dK_least_37 rfl ?_
      refine zx_getA hc gfK_35 zob_0 (p := 31) rfl dK_least_38 ?_
      refine zx_aload_n hc dK_least_41 rfl ?_
      refine zx_getA hc gfK_11 zob_0 (p := 1) rfl dK_least_42 ?_
      refine zx_aload_n hc dK_least_45 rfl ?_
      refine zx_getI hc gfK_71 (by assumption) dK_least_46 ?_
      rw [hp]
      refine zx_iconst hc 1 dK_least_49 rfl ?_
      refine zx_isub hc dK_least_50 ?_
      rw [nI_pr1 (by omega)]
      refine zk_st hc dK_least_51 (by omega) ?_
      refine zx_iload_n hc dK_least_52 rfl ?_
      refine zx_iload_n hc dK_least_53 rfl ?_
      refine zx_cV3i hc gsK_165 (by assumption) (cI_seek_ l M f g (limD f1) (limD f2) (zrg_st (i := h - 1) (by omega)) hP hgd hz) ⟨rfl, rfl⟩ ⟨Nat.le_of_ble_eq_true rfl, Nat.le_of_ble_eq_true rfl⟩ ⟨Nat.le_of_ble_eq_true rfl, Nat.le_of_ble_eq_true rfl⟩ dK_least_54 (fun x_54 M_54 h_54 => ?_)
      obtain ⟨y0, y1, y2⟩ := h_54
      exact zx_iret hc rfl dK_least_57 ⟨Nat.le_of_ble_eq_true rfl, Nat.le_of_ble_eq_true rfl⟩ (⟨_, rfl, hge, hok, y0, y1, y2⟩)
    · skip
      have hbad : gBadF f g := Or.inr (fun z => h_24 (far_k.mpr (limC z)))
      exact zx_throw hc hT htr xtK_46_163 dK_least_27 dK_least_30 dK_least_31 dK_least_33 dK_least_36 ⟨Nat.le_of_ble_eq_true rfl, Nat.le_of_ble_eq_true rfl⟩ ⟨Nat.le_of_ble_eq_true rfl, Nat.le_of_ble_eq_true rfl⟩ (Or.inr ⟨rfl, hge, hbad, rfl⟩)

def rx_value : Room := { frames := rK_value.frames, cells := 1, slots := 6, locals := rK_value.locals }
set_option maxRecDepth 100000 in
set_option maxHeartbeats 4000000 in
theorem cK_value_ (l : Launch) (htr : l.stackTraces = false) (M : zM) (pt : Int32) : zMetX l mK_value rx_value [.ref 0, .int pt] M (zql (fun x M' => (pt = 0 ∨ pt = 1) ∧ x = (if pt = 0 then zJ M 31 0 else zJ M 31 1) ∧ M' = M)) (fun e M' => e = 0 ∧ ¬ (pt = 0 ∨ pt = 1) ∧ M' = M) := by
  refine zx_enter (by decide) (Nat.le_of_ble_eq_true rfl) (fun X hc hT => ?_)
  have ho := zob_0
  have hoA := zar_1
  have hoB := zar_2
  have hoI := zob_31k
  refine zx_iload_n hc dK_value_0 rfl ?_
  refine zx_if_eq 19 hc dK_value_1 rfl (fun h_1 => ?_) (fun h_1 => ?_)
  · skip
    have hpt : pt = 0 ∨ pt = 1 := Or.inl h_1
    refine zx_iload_n hc dK_value_19 rfl ?_
    refine zx_if_ne 33 hc dK_value_20 rfl (fun h_20 => ?_) (fun h_20 => ?_)
    · skip
      refine zx_aload_n hc dK_value_33 rfl ?_
      refine zx_getA hc gfK_35 zob_0 (p := 31) rfl dK_value_34 ?_
      refine zx_cV0l hc gsK_175 (by assumption) (cI_denominator_ l M) ⟨rfl, rfl⟩ ⟨Nat.le_of_ble_eq_true rfl, Nat.le_of_ble_eq_true rfl⟩ ⟨Nat.le_of_ble_eq_true rfl, Nat.le_of_ble_eq_true rfl⟩ dK_value_37 (fun x_37 M_37 h_37 => ?_)
      obtain ⟨q_37, hm_37⟩ := h_37
      rw [hm_37, q_37]
      exact zx_lret hc rfl dK_value_40 ⟨Nat.le_of_ble_eq_true rfl, Nat.le_of_ble_eq_true rfl⟩ (by first | exact ⟨_, rfl, hpt, by rw [if_pos h_20], rfl⟩ | exact ⟨_, rfl, hpt, by rw [if_neg h_20], rfl⟩)
    · skip
      refine zx_aload_n hc dK_value_23 rfl ?_
      refine zx_getA hc gfK_35 zob_0 (p := 31) rfl dK_value_24 ?_
      refine zx_cV0l hc gsK_171 (by assumption) (cI_numerator_ l M) ⟨rfl, rfl⟩ ⟨Nat.le_of_ble_eq_true rfl, Nat.le_of_ble_eq_true rfl⟩ ⟨Nat.le_of_ble_eq_true rfl, Nat.le_of_ble_eq_true rfl⟩ dK_value_27 (fun x_27 M_27 h_27 => ?_)
      obtain ⟨q_27, hm_27⟩ := h_27
      rw [hm_27, q_27]
      refine zx_goto 40 hc dK_value_30 rfl ?_
      exact zx_lret hc rfl dK_value_40 ⟨Nat.le_of_ble_eq_true rfl, Nat.le_of_ble_eq_true rfl⟩ (by first | exact ⟨_, rfl, hpt, by rw [if_pos h_20], rfl⟩ | exact ⟨_, rfl, hpt, by rw [if_neg h_20], rfl⟩)
  · skip
    refine zx_iload_n hc dK_value_4 rfl ?_
    refine zx_iconst hc 1 dK_value_5 rfl ?_
    refine zx_icmp_eq 19 hc dK_value_6 rfl (fun h_6 => ?_) (fun h_6 => ?_)
    · skip
      have hpt : pt = 0 ∨ pt = 1 := Or.inr h_6
      refine zx_iload_n hc dK_value_19 rfl ?_
      refine zx_if_ne 33 hc dK_value_20 rfl (fun h_20 => ?_) (fun h_20 => ?_)
      · skip
        refine zx_aload_n hc dK_value_33 rfl ?_
        refine zx_getA hc gfK_35 zob_0 (p := 31) rfl dK_value_34 ?_
        refine zx_cV0l hc gsK_175 (by assumption) (cI_denominator_ l M) ⟨rfl, rfl⟩ ⟨Nat.le_of_ble_eq_true rfl, Nat.le_of_ble_eq_true rfl⟩ ⟨Nat.le_of_ble_eq_true rfl, Nat.le_of_ble_eq_true rfl⟩ dK_value_37 (fun x_37 M_37 h_37 => ?_)
        obtain ⟨q_37, hm_37⟩ := h_37
        rw [hm_37, q_37]
        exact zx_lret hc rfl dK_value_40 ⟨Nat.le_of_ble_eq_true rfl, Nat.le_of_ble_eq_true rfl⟩ (by first | exact ⟨_, rfl, hpt, by rw [if_pos h_20], rfl⟩ | exact ⟨_, rfl, hpt, by rw [if_neg h_20], rfl⟩)
      · skip
        refine zx_aload_n hc dK_value_23 rfl ?_
        refine zx_getA hc gfK_35 zob_0 (p := 31) rfl dK_value_24 ?_
        refine zx_cV0l hc gsK_171 (by assumption) (cI_numerator_ l M) ⟨rfl, rfl⟩ ⟨Nat.le_of_ble_eq_true rfl, Nat.le_of_ble_eq_true rfl⟩ ⟨Nat.le_of_ble_eq_true rfl, Nat.le_of_ble_eq_true rfl⟩ dK_value_27 (fun x_27 M_27 h_27 => ?_)
        obtain ⟨q_27, hm_27⟩ := h_27
        rw [hm_27, q_27]
        refine zx_goto 40 hc dK_value_30 rfl ?_
        exact zx_lret hc rfl dK_value_40 ⟨Nat.le_of_ble_eq_true rfl, Nat.le_of_ble_eq_true rfl⟩ (by first | exact ⟨_, rfl, hpt, by rw [if_pos h_20], rfl⟩ | exact ⟨_, rfl, hpt, by rw [if_neg h_20], rfl⟩)
    · skip
      have hpt : ¬ (pt = 0 ∨ pt = 1) := fun z => z.elim h_1 h_6
      exact zx_throw hc hT htr xtK_46_169 dK_value_9 dK_value_12 dK_value_13 dK_value_15 dK_value_18 ⟨Nat.le_of_ble_eq_true rfl, Nat.le_of_ble_eq_true rfl⟩ ⟨Nat.le_of_ble_eq_true rfl, Nat.le_of_ble_eq_true rfl⟩ (⟨rfl, hpt, rfl⟩)
