/-! RegionDesk: the calls. -/
theorem zob_31k : zob 31 1 := ⟨by decide, by decide⟩
theorem zob_3k : zob 3 0 := ⟨by decide, by decide⟩
theorem zdr_3k : zdr 3 := by unfold zdr; decide
def kF (r : Nat) : Nat → Prop := fun k => k = 0 ∨ wF k ∨ rF r k
theorem wI_f {P : Nat → Prop} {M M' : zM} (h : wI M) (hf : zfr P M M') (hn : ∀ k, wF k → ¬ P k) : wI M' := ⟨by rw [(hf 12 (hn 12 (by unfold wF; omega))).2.2]; exact h.1, zfr_bo (d := 13) hf (hn 17 (by unfold wF; omega)) h.2.1, sB_kept h.2.2 hf (hn 19 (by unfold wF; omega)) (hn 20 (by unfold wF; omega)) (hn 21 (by unfold wF; omega))⟩
theorem wm_none {a : Option (List (List gC))} {x : Int32} {P : List (List gC) → Prop} (h : match a with | some R => x = 1 ∧ P R | none => x = 0) (hx : x = 0) : a = none := by
  cases a with
  | none => rfl
  | some R => rw [h.1] at hx; exact absurd hx (by decide)
theorem wm_some {a : Option (List (List gC))} {x : Int32} {P : List (List gC) → Prop} (h : match a with | some R => x = 1 ∧ P R | none => x = 0) (hx : ¬ x = 0) : ∃ R, a = some R ∧ P R := by
  cases a with
  | none => exact absurd h hx
  | some R => exact ⟨R, rfl, h.2⟩
theorem k_rw {r k : Nat} (hr : 32 ≤ r) : wF k → ¬ rF r k := fun h z => by have := h.2; have := z.1; omega
/-- a place of the pile or of the tables is written: the desk's own fields, the workshop stand -/
theorem kEnd {M M1 M2 : zM} {r : Nat} {R : List (List gC)} {v : Int32} (hr : 32 ≤ r) (v2 : wI M1) (v5 : zfr wF M M1) (y1 : rH M2 r R) (y2 : zfr (rF r) (zsI M1 0 5 v) M2) : zI M2 0 5 = v ∧ zI M2 0 6 = zI M 0 6 ∧ rH M2 r R ∧ wI M2 ∧ zfr (kF r) M M2 := by
  have n0 : ¬ rF r 0 := fun z => by have := z.1; omega
  refine ⟨by rw [(y2 0 n0).1, zI_s, if_pos rfl], by rw [(y2 0 n0).1, zI_s, if_neg (by decide), (v5 0 (fun z => by have := z.1; omega)).1], y1, ?_, ?_⟩
  · exact wI_f (wI_f v2 (zfr_sI (P := fun k => k = 0) rfl) (fun k h z => by have := h.1; omega)) y2 (fun k h => k_rw hr h)
  · exact (v5.wk (fun k z => Or.inr (Or.inl z))).tr ((zfr_sI (P := kF r) (Or.inl rfl)).tr (y2.wk (fun k z => Or.inr (Or.inr z))))
theorem kEnd0 {M M1 M2 : zM} {r : Nat} {R : List (List gC)} (hr : 32 ≤ r) (v2 : wI M1) (v5 : zfr wF M M1) (y1 : rH M2 r R) (y2 : zfr (rF r) M1 M2) : zI M2 0 = zI M 0 ∧ rH M2 r R ∧ wI M2 ∧ zfr (kF r) M M2 := by
  have n0 : ¬ rF r 0 := fun z => by have := z.1; omega
  refine ⟨by rw [(y2 0 n0).1, (v5 0 (fun z => by have := z.1; omega)).1], y1, wI_f v2 y2 (fun k h => k_rw hr h), (v5.wk (fun k z => Or.inr (Or.inl z))).tr (y2.wk (fun k z => Or.inr (Or.inr z)))⟩
theorem rH_0 {M : zM} {r : Nat} {j : Nat} {v : Int32} {R : List (List gC)} (h : rH M r R) (hr : 0 < r) : rH (zsI M 0 j v) r R := rH_kept h (zfr_sI (P := fun k => k = 0) rfl) (by omega) (by omega) (by omega)
theorem far_k {x : Int32} {B : Int} : (if x.toInt64.toInt < -B ∨ B < x.toInt64.toInt then (1 : Int32) else 0) = 0 ↔ -B ≤ x.toInt ∧ x.toInt ≤ B := by
  rw [i2l_int]
  by_cases h : x.toInt < -B ∨ B < x.toInt
  · rw [if_pos h]; exact ⟨fun z => absurd z (by decide), fun z => by omega⟩
  · rw [if_neg h]; exact ⟨fun _ => by omega, fun _ => rfl⟩

def rx_and : Room := { frames := rK_and.frames, cells := 2, slots := 12, locals := rK_and.locals }
set_option maxRecDepth 100000 in
set_option maxHeartbeats 4000000 in
theorem cK_and_ (l : Launch) (htr : l.stackTraces = false) {P Q : List (List gC)} {h : Nat} (M : zM) (hh : h ≤ 6) (hp : zI M 0 5 = nI h) (hI : wI M) (hPQ : 2 ≤ h → rH M (32 + 3 * (h - 2)) P ∧ rH M (32 + 3 * (h - 1)) Q) : zMetX l mK_and rx_and [.ref 0] M (zqv (fun M' => 2 ≤ h ∧ ∃ R, gAnd P Q = some R ∧ zI M' 0 5 = nI (h - 1) ∧ zI M' 0 6 = zI M 0 6 ∧ rH M' (32 + 3 * (h - 2)) R ∧ wI M' ∧ zfr (kF (32 + 3 * (h - 2))) M M')) (fun e M' => (e = 1 ∧ h < 2 ∧ M' = M) ∨ (e = 2 ∧ 2 ≤ h ∧ gAnd P Q = none ∧ wI M' ∧ zfr wF M M')) := by
  refine zx_enter (by decide) (Nat.le_of_ble_eq_true rfl) (fun X hc hT => ?_)
  have ho := zob_0
  have hoA := zar_1
  have hoB := zar_2
  have how := zob_12
  have hwr := wI_rng hI
  refine zx_aload_n hc dK_and_0 rfl ?_
  refine zx_iconst hc (nI 2) dK_and_1 rfl ?_
  refine zx_tV1v hc hT gsK_82 (by assumption) (cK_requireHeight_ l htr M hh hp 2 (by decide)) ⟨rfl, rfl⟩ ⟨Nat.le_of_ble_eq_true rfl, Nat.le_of_ble_eq_true rfl⟩ ⟨Nat.le_of_ble_eq_true rfl, Nat.le_of_ble_eq_true rfl⟩ dK_and_2 (fun e M9 hx => Or.inl ⟨hx.1, hx.2.1, hx.2.2⟩) (fun M_2 h_2 => ?_)
  obtain ⟨hge, hm_2⟩ := h_2
  rw [hm_2]
  obtain ⟨hP, hQ⟩ := hPQ hge
  have hor := zob_rg (zrg_st (i := h - 2) (by omega))
  refine zx_aload_n hc dK_and_5 rfl ?_
  refine zx_getA hc gfK_28 zob_0 (p := 12) rfl dK_and_6 ?_
  refine zx_aload_n hc dK_and_9 rfl ?_
  refine zx_getA hc gfK_11 zob_0 (p := 1) rfl dK_and_10 ?_
  refine zx_aload_n hc dK_and_13 rfl ?_
  refine zx_getI hc gfK_71 (by assumption) dK_and_14 ?_
  rw [hp]
  refine zx_iconst hc 2 dK_and_17 rfl ?_
  refine zx_isub hc dK_and_18 ?_
  rw [nI_pr2 (by omega)]
  refine zk_st hc dK_and_19 (by omega) ?_
  refine zx_aload_n hc dK_and_20 rfl ?_
  refine zx_getA hc gfK_11 zob_0 (p := 1) rfl dK_and_21 ?_
  refine zx_aload_n hc dK_and_24 rfl ?_
  refine zx_getI hc gfK_71 (by assumption) dK_and_25 ?_
  rw [hp]
  refine zx_iconst hc 1 dK_and_28 rfl ?_
  refine zx_isub hc dK_and_29 ?_
  rw [nI_pr1 (by omega)]
  refine zk_st hc dK_and_30 (by omega) ?_
  refine zx_cV2i hc gsK_86 (by assumption) (cW_intersect_ l M hI (zrg_st (i := h - 2) (by omega)) (zrg_st (i := h - 1) (by omega)) (by omega) (by omega) hP hQ) ⟨rfl, rfl⟩ ⟨Nat.le_of_ble_eq_true rfl, Nat.le_of_ble_eq_true rfl⟩ ⟨Nat.le_of_ble_eq_true rfl, Nat.le_of_ble_eq_true rfl⟩ dK_and_31 (fun x_31 M_31 h_31 => ?_)
  obtain ⟨v1, v2, v3, v4⟩ := h_31
  have v5 : zfr wF M M_31 := v4.wk (fun k z => wR_F hwr z)
  have e5 : zI M_31 0 = zI M 0 := (v5 0 (fun z => by have := z.1; omega)).1
  refine zx_tS1v hc hT gsK_90 (cK_requireLimitsKept_ l htr M_31 x_31) ⟨rfl, rfl⟩ ⟨Nat.le_of_ble_eq_true rfl, Nat.le_of_ble_eq_true rfl⟩ ⟨Nat.le_of_ble_eq_true rfl, Nat.le_of_ble_eq_true rfl⟩ dK_and_34 (fun e M9 hx => Or.inr ⟨hx.1, hge, wm_none v1 hx.2.1, by rw [hx.2.2]; exact v2, by rw [hx.2.2]; exact v5⟩) (fun M_34 h_34 => ?_)
  obtain ⟨w1, hm_34⟩ := h_34
  rw [hm_34]
  obtain ⟨R, hga, hR⟩ := wm_some v1 w1
  refine zx_aload_n hc dK_and_37 rfl ?_
  refine zx_dup hc dK_and_38 rfl ?_
  refine zx_getI hc gfK_71 (by assumption) dK_and_39 ?_
  rw [e5, hp]
  refine zx_iconst hc 1 dK_and_42 rfl ?_
  refine zx_isub hc dK_and_43 ?_
  rw [nI_pr1 (by omega)]
  refine zx_putI hc gpK_71 (by assumption) dK_and_44 ?_
  refine zx_aload_n hc dK_and_47 rfl ?_
  refine zx_getA hc gfK_11 zob_0 (p := 1) rfl dK_and_48 ?_
  refine zx_aload_n hc dK_and_51 rfl ?_
  refine zx_getI hc gfK_71 (by assumption) dK_and_52 ?_
  rw [zI_s, if_pos rfl]
  refine zx_iconst hc 1 dK_and_55 rfl ?_
  refine zx_isub hc dK_and_56 ?_
  rw [nI_pr1 (by omega), show h - 1 - 1 = h - 2 by omega]
  refine zk_st hc dK_and_57 (by omega) ?_
  refine zx_aload_n hc dK_and_58 rfl ?_
  refine zx_getA hc gfK_28 zob_0 (p := 12) rfl dK_and_59 ?_
  refine zx_cV0r hc gsK_94 (by assumption) (cW_result_ l (zsI M_31 0 5 (nI (h - 1)))) ⟨rfl, rfl⟩ ⟨Nat.le_of_ble_eq_true rfl, Nat.le_of_ble_eq_true rfl⟩ ⟨Nat.le_of_ble_eq_true rfl, Nat.le_of_ble_eq_true rfl⟩ dK_and_62 (fun x_62 M_62 h_62 => ?_)
  have er : zR (zsI M_31 0 5 (nI (h - 1))) 12 2 = zR M 12 2 := by rw [zR_sI, v3]
  obtain ⟨q_62, hm_62⟩ := h_62
  rw [hm_62, q_62, er]
  refine zx_cV1v hc gsK_98 (by assumption) (cR_copy_ l (zsI M_31 0 5 (nI (h - 1))) (zrg_st (i := h - 2) (by omega)) (wI_res hI) (by omega) (rH_0 hR (by omega))) ⟨rfl, rfl⟩ ⟨Nat.le_of_ble_eq_true rfl, Nat.le_of_ble_eq_true rfl⟩ ⟨Nat.le_of_ble_eq_true rfl, Nat.le_of_ble_eq_true rfl⟩ dK_and_65 (fun M_65 h_65 => ?_)
  obtain ⟨y1, y2⟩ := h_65
  exact zx_vret hc rfl dK_and_68 ⟨Nat.le_of_ble_eq_true rfl, Nat.le_of_ble_eq_true rfl⟩ (⟨rfl, hge, R, hga, kEnd (by omega) v2 v5 y1 y2⟩)

def rx_or : Room := { frames := rK_or.frames, cells := 2, slots := 12, locals := rK_or.locals }
set_option maxRecDepth 100000 in
set_option maxHeartbeats 4000000 in
theorem cK_or_ (l : Launch) (htr : l.stackTraces = false) {P Q : List (List gC)} {h : Nat} (M : zM) (hh : h ≤ 6) (hp : zI M 0 5 = nI h) (hI : wI M) (hPQ : 2 ≤ h → rH M (32 + 3 * (h - 2)) P ∧ rH M (32 + 3 * (h - 1)) Q) : zMetX l mK_or rx_or [.ref 0] M (zqv (fun M' => 2 ≤ h ∧ ∃ R, gor1 P Q = some R ∧ zI M' 0 5 = nI (h - 1) ∧ zI M' 0 6 = zI M 0 6 ∧ rH M' (32 + 3 * (h - 2)) R ∧ wI M' ∧ zfr (kF (32 + 3 * (h - 2))) M M')) (fun e M' => (e = 1 ∧ h < 2 ∧ M' = M) ∨ (e = 2 ∧ 2 ≤ h ∧ gor1 P Q = none ∧ wI M' ∧ zfr wF M M')) := by
  refine zx_enter (by decide) (Nat.le_of_ble_eq_true rfl) (fun X hc hT => ?_)
  have ho := zob_0
  have hoA := zar_1
  have hoB := zar_2
  have how := zob_12
  have hwr := wI_rng hI
  refine zx_aload_n hc dK_or_0 rfl ?_
  refine zx_iconst hc (nI 2) dK_or_1 rfl ?_
  refine zx_tV1v hc hT gsK_82 (by assumption) (cK_requireHeight_ l htr M hh hp 2 (by decide)) ⟨rfl, rfl⟩ ⟨Nat.le_of_ble_eq_true rfl, Nat.le_of_ble_eq_true rfl⟩ ⟨Nat.le_of_ble_eq_true rfl, Nat.le_of_ble_eq_true rfl⟩ dK_or_2 (fun e M9 hx => Or.inl ⟨hx.1, hx.2.1, hx.2.2⟩) (fun M_2 h_2 => ?_)
  obtain ⟨hge, hm_2⟩ := h_2
  rw [hm_2]
  obtain ⟨hP, hQ⟩ := hPQ hge
  have hor := zob_rg (zrg_st (i := h - 2) (by omega))
  refine zx_aload_n hc dK_or_5 rfl ?_
  refine zx_getA hc gfK_28 zob_0 (p := 12) rfl dK_or_6 ?_
  refine zx_aload_n hc dK_or_9 rfl ?_
  refine zx_getA hc gfK_11 zob_0 (p := 1) rfl dK_or_10 ?_
  refine zx_aload_n hc dK_or_13 rfl ?_
  refine zx_getI hc gfK_71 (by assumption) dK_or_14 ?_
  rw [hp]
  refine zx_iconst hc 2 dK_or_17 rfl ?_
  refine zx_isub hc dK_or_18 ?_
  rw [nI_pr2 (by omega)]
  refine zk_st hc dK_or_19 (by omega) ?_
  refine zx_aload_n hc dK_or_20 rfl ?_
  refine zx_getA hc gfK_11 zob_0 (p := 1) rfl dK_or_21 ?_
  refine zx_aload_n hc dK_or_24 rfl ?_
  refine zx_getI hc gfK_71 (by assumption) dK_or_25 ?_
  rw [hp]
  refine zx_iconst hc 1 dK_or_28 rfl ?_
  refine zx_isub hc dK_or_29 ?_
  rw [nI_pr1 (by omega)]
  refine zk_st hc dK_or_30 (by omega) ?_
  refine zx_cV2i hc gsK_102 (by assumption) (cW_unite_ l M hI (zrg_st (i := h - 2) (by omega)) (zrg_st (i := h - 1) (by omega)) (by omega) (by omega) hP hQ) ⟨rfl, rfl⟩ ⟨Nat.le_of_ble_eq_true rfl, Nat.le_of_ble_eq_true rfl⟩ ⟨Nat.le_of_ble_eq_true rfl, Nat.le_of_ble_eq_true rfl⟩ dK_or_31 (fun x_31 M_31 h_31 => ?_)
  obtain ⟨v1, v2, v3, v4⟩ := h_31
  have v5 : zfr wF M M_31 := v4.wk (fun k z => wR_F hwr z)
  have e5 : zI M_31 0 = zI M 0 := (v5 0 (fun z => by have := z.1; omega)).1
  refine zx_tS1v hc hT gsK_90 (cK_requireLimitsKept_ l htr M_31 x_31) ⟨rfl, rfl⟩ ⟨Nat.le_of_ble_eq_true rfl, Nat.le_of_ble_eq_true rfl⟩ ⟨Nat.le_of_ble_eq_true rfl, Nat.le_of_ble_eq_true rfl⟩ dK_or_34 (fun e M9 hx => Or.inr ⟨hx.1, hge, wm_none v1 hx.2.1, by rw [hx.2.2]; exact v2, by rw [hx.2.2]; exact v5⟩) (fun M_34 h_34 => ?_)
  obtain ⟨w1, hm_34⟩ := h_34
  rw [hm_34]
  obtain ⟨R, hga, hR⟩ := wm_some v1 w1
  refine zx_aload_n hc dK_or_37 rfl ?_
  refine zx_dup hc dK_or_38 rfl ?_
  refine zx_getI hc gfK_71 (by assumption) dK_or_39 ?_
  rw [e5, hp]
  refine zx_iconst hc 1 dK_or_42 rfl ?_
  refine zx_isub hc dK_or_43 ?_
  rw [nI_pr1 (by omega)]
  refine zx_putI hc gpK_71 (by assumption) dK_or_44 ?_
  refine zx_aload_n hc dK_or_47 rfl ?_
  refine zx_getA hc gfK_11 zob_0 (p := 1) rfl dK_or_48 ?_
  refine zx_aload_n hc dK_or_51 rfl ?_
  refine zx_getI hc gfK_71 (by assumption) dK_or_52 ?_
  rw [zI_s, if_pos rfl]
  refine zx_iconst hc 1 dK_or_55 rfl ?_
  refine zx_isub hc dK_or_56 ?_
  rw [nI_pr1 (by omega), show h - 1 - 1 = h - 2 by omega]
  refine zk_st hc dK_or_57 (by omega) ?_
  refine zx_aload_n hc dK_or_58 rfl ?_
  refine zx_getA hc gfK_28 zob_0 (p := 12) rfl dK_or_59 ?_
  refine zx_cV0r hc gsK_94 (by assumption) (cW_result_ l (zsI M_31 0 5 (nI (h - 1)))) ⟨rfl, rfl⟩ ⟨Nat.le_of_ble_eq_true rfl, Nat.le_of_ble_eq_true rfl⟩ ⟨Nat.le_of_ble_eq_true rfl, Nat.le_of_ble_eq_true rfl⟩ dK_or_62 (fun x_62 M_62 h_62 => ?_)
  have er : zR (zsI M_31 0 5 (nI (h - 1))) 12 2 = zR M 12 2 := by rw [zR_sI, v3]
  obtain ⟨q_62, hm_62⟩ := h_62
  rw [hm_62, q_62, er]
  refine zx_cV1v hc gsK_98 (by assumption) (cR_copy_ l (zsI M_31 0 5 (nI (h - 1))) (zrg_st (i := h - 2) (by omega)) (wI_res hI) (by omega) (rH_0 hR (by omega))) ⟨rfl, rfl⟩ ⟨Nat.le_of_ble_eq_true rfl, Nat.le_of_ble_eq_true rfl⟩ ⟨Nat.le_of_ble_eq_true rfl, Nat.le_of_ble_eq_true rfl⟩ dK_or_65 (fun M_65 h_65 => ?_)
  obtain ⟨y1, y2⟩ := h_65
  exact zx_vret hc rfl dK_or_68 ⟨Nat.le_of_ble_eq_true rfl, Nat.le_of_ble_eq_true rfl⟩ (⟨rfl, hge, R, hga, kEnd (by omega) v2 v5 y1 y2⟩)

def rx_not : Room := { frames := rK_not.frames, cells := 2, slots := 12, locals := rK_not.locals }
set_option maxRecDepth 100000 in
set_option maxHeartbeats 4000000 in
theorem cK_not_ (l : Launch) (htr : l.stackTraces = false) {P : List (List gC)} {h : Nat} (M : zM) (hh : h ≤ 6) (hp : zI M 0 5 = nI h) (hI : wI M) (hPQ : 1 ≤ h → rH M (32 + 3 * (h - 1)) P) : zMetX l mK_not rx_not [.ref 0] M (zqv (fun M' => 1 ≤ h ∧ ∃ R, gNot P = some R ∧ zI M' 0 = zI M 0 ∧ rH M' (32 + 3 * (h - 1)) R ∧ wI M' ∧ zfr (kF (32 + 3 * (h - 1))) M M')) (fun e M' => (e = 1 ∧ h < 1 ∧ M' = M) ∨ (e = 2 ∧ 1 ≤ h ∧ gNot P = none ∧ wI M' ∧ zfr wF M M')) := by
  refine zx_enter (by decide) (Nat.le_of_ble_eq_true rfl) (fun X hc hT => ?_)
  have ho := zob_0
  have hoA := zar_1
  have hoB := zar_2
  have how := zob_12
  have hwr := wI_rng hI
  refine zx_aload_n hc dK_not_0 rfl ?_
  refine zx_iconst hc (nI 1) dK_not_1 rfl ?_
  refine zx_tV1v hc hT gsK_82 (by assumption) (cK_requireHeight_ l htr M hh hp 1 (by decide)) ⟨rfl, rfl⟩ ⟨Nat.le_of_ble_eq_true rfl, Nat.le_of_ble_eq_true rfl⟩ ⟨Nat.le_of_ble_eq_true rfl, Nat.le_of_ble_eq_true rfl⟩ dK_not_2 (fun e M9 hx => Or.inl ⟨hx.1, hx.2.1, hx.2.2⟩) (fun M_2 h_2 => ?_)
  obtain ⟨hge, hm_2⟩ := h_2
  rw [hm_2]
  have hP := hPQ hge
  have hor := zob_rg (zrg_st (i := h - 1) (by omega))
  refine zx_aload_n hc dK_not_5 rfl ?_
  refine zx_getA hc gfK_28 zob_0 (p := 12) rfl dK_not_6 ?_
  refine zx_aload_n hc dK_not_9 rfl ?_
  refine zx_getA hc gfK_11 zob_0 (p := 1) rfl dK_not_10 ?_
  refine zx_aload_n hc dK_not_13 rfl ?_
  refine zx_getI hc gfK_71 (by assumption) dK_not_14 ?_
  rw [hp]
  refine zx_iconst hc 1 dK_not_17 rfl ?_
  refine zx_isub hc dK_not_18 ?_
  rw [nI_pr1 (by omega)]
  refine zk_st hc dK_not_19 (by omega) ?_
  refine zx_cV1i hc gsK_105 (by assumption) (cW_complement_ l M hI (zrg_st (i := h - 1) (by omega)) (by omega) hP) ⟨rfl, rfl⟩ ⟨Nat.le_of_ble_eq_true rfl, Nat.le_of_ble_eq_true rfl⟩ ⟨Nat.le_of_ble_eq_true rfl, Nat.le_of_ble_eq_true rfl⟩ dK_not_20 (fun x_20 M_20 h_20 => ?_)
  obtain ⟨v1, v2, v5⟩ := h_20
  have e5 : zI M_20 0 = zI M 0 := (v5 0 (fun z => by have := z.1; omega)).1
  have hw2 := wI_rng v2
  refine zx_tS1v hc hT gsK_90 (cK_requireLimitsKept_ l htr M_20 x_20) ⟨rfl, rfl⟩ ⟨Nat.le_of_ble_eq_true rfl, Nat.le_of_ble_eq_true rfl⟩ ⟨Nat.le_of_ble_eq_true rfl, Nat.le_of_ble_eq_true rfl⟩ dK_not_23 (fun e M9 hx => Or.inr ⟨hx.1, hge, wm_none v1 hx.2.1, by rw [hx.2.2]; exact v2, by rw [hx.2.2]; exact v5⟩) (fun M_23 h_23 => ?_)
  obtain ⟨w1, hm_23⟩ := h_23
  rw [hm_23]
  obtain ⟨R, hga, hR⟩ := wm_some v1 w1
  refine zx_aload_n hc dK_not_26 rfl ?_
  refine zx_getA hc gfK_11 zob_0 (p := 1) rfl dK_not_27 ?_
  refine zx_aload_n hc dK_not_30 rfl ?_
  refine zx_getI hc gfK_71 (by assumption) dK_not_31 ?_
  rw [e5, hp]
  refine zx_iconst hc 1 dK_not_34 rfl ?_
  refine zx_isub hc dK_not_35 ?_
  rw [nI_pr1 (by omega)]
  refine zk_st hc dK_not_36 (by omega) ?_
  refine zx_aload_n hc dK_not_37 rfl ?_
  refine zx_getA hc gfK_28 zob_0 (p := 12) rfl dK_not_38 ?_
  refine zx_cV0r hc gsK_94 (by assumption) (cW_result_ l M_20) ⟨rfl, rfl⟩ ⟨Nat.le_of_ble_eq_true rfl, Nat.le_of_ble_eq_true rfl⟩ ⟨Nat.le_of_ble_eq_true rfl, Nat.le_of_ble_eq_true rfl⟩ dK_not_41 (fun x_41 M_41 h_41 => ?_)
  obtain ⟨q_41, hm_41⟩ := h_41
  rw [hm_41, q_41]
  refine zx_cV1v hc gsK_98 (by assumption) (cR_copy_ l M_20 (zrg_st (i := h - 1) (by omega)) (wI_res v2) (by omega) hR) ⟨rfl, rfl⟩ ⟨Nat.le_of_ble_eq_true rfl, Nat.le_of_ble_eq_true rfl⟩ ⟨Nat.le_of_ble_eq_true rfl, Nat.le_of_ble_eq_true rfl⟩ dK_not_44 (fun M_44 h_44 => ?_)
  obtain ⟨y1, y2⟩ := h_44
  exact zx_vret hc rfl dK_not_47 ⟨Nat.le_of_ble_eq_true rfl, Nat.le_of_ble_eq_true rfl⟩ (⟨rfl, hge, R, hga, kEnd0 (by omega) v2 v5 y1 y2⟩)

def rx_free : Room := { frames := rK_free.frames, cells := 3, slots := 18, locals := rK_free.locals }
set_option maxRecDepth 100000 in
set_option maxHeartbeats 4000000 in
theorem cK_free_ (l : Launch) (htr : l.stackTraces = false) {P : List (List gC)} {h : Nat} (M : zM) (hh : h ≤ 6) (hp : zI M 0 5 = nI h) (col : Int32) (hI : wI M) (hPQ : 1 ≤ h → rH M (32 + 3 * (h - 1)) P) : zMetX l mK_free rx_free [.ref 0, .int col] M (zqv (fun M' => ¬ (col < 0 ∨ 2 ≤ col) ∧ 1 ≤ h ∧ ∃ R, gfr1 col [] P = some R ∧ zI M' 0 = zI M 0 ∧ rH M' (32 + 3 * (h - 1)) R ∧ wI M' ∧ zfr (kF (32 + 3 * (h - 1))) M M')) (fun e M' => (e = 0 ∧ (col < 0 ∨ 2 ≤ col) ∧ M' = M) ∨ (e = 1 ∧ ¬ (col < 0 ∨ 2 ≤ col) ∧ h < 1 ∧ M' = M) ∨ (e = 2 ∧ ¬ (col < 0 ∨ 2 ≤ col) ∧ 1 ≤ h ∧ gfr1 col [] P = none ∧ wI M' ∧ zfr wF M M')) := by
  refine zx_enter (by decide) (Nat.le_of_ble_eq_true rfl) (fun X hc hT => ?_)
  have ho := zob_0
  have hoA := zar_1
  have hoB := zar_2
  have how := zob_12
  have hwr := wI_rng hI
  refine zx_iload_n hc dK_free_0 rfl ?_
  refine zx_if_lt 9 hc dK_free_1 rfl (fun h_1 => ?_) (fun h_1 => ?_)
  · skip
    have hb : col < 0 ∨ 2 ≤ col := Or.inl h_1
    exact zx_throw hc hT htr xtK_46_109 dK_free_9 dK_free_12 dK_free_13 dK_free_15 dK_free_18 ⟨Nat.le_of_ble_eq_true rfl, Nat.le_of_ble_eq_true rfl⟩ ⟨Nat.le_of_ble_eq_true rfl, Nat.le_of_ble_eq_true rfl⟩ (Or.inl ⟨rfl, hb, rfl⟩)
  · skip
    refine zx_iload_n hc dK_free_4 rfl ?_
    refine zx_iconst hc 2 dK_free_5 rfl ?_
    refine zx_icmp_lt 19 hc dK_free_6 rfl (fun h_6 => ?_) (fun h_6 => ?_)
    · skip
      have hb : ¬ (col < 0 ∨ 2 ≤ col) := fun z => z.elim h_1 (fun w => Int32.not_lt.mpr w h_6)
      refine zx_aload_n hc dK_free_19 rfl ?_
      refine zx_iconst hc (nI 1) dK_free_20 rfl ?_
      refine zx_tV1v hc hT gsK_82 (by assumption) (cK_requireHeight_ l htr M hh hp 1 (by decide)) ⟨rfl, rfl⟩ ⟨Nat.le_of_ble_eq_true rfl, Nat.le_of_ble_eq_true rfl⟩ ⟨Nat.le_of_ble_eq_true rfl, Nat.le_of_ble_eq_true rfl⟩ dK_free_21 (fun e M9 hx => Or.inr (Or.inl ⟨hx.1, hb, hx.2.1, hx.2.2⟩)) (fun M_21 h_21 => ?_)
      obtain ⟨hge, hm_21⟩ := h_21
      rw [hm_21]
      have hP := hPQ hge
      have hor := zob_rg (zrg_st (i := h - 1) (by omega))
      refine zx_aload_n hc dK_free_24 rfl ?_
      refine zx_getA hc gfK_28 zob_0 (p := 12) rfl dK_free_25 ?_
      refine zx_aload_n hc dK_free_28 rfl ?_
      refine zx_getA hc gfK_11 zob_0 (p := 1) rfl dK_free_29 ?_
      refine zx_aload_n hc dK_free_32 rfl ?_
      refine zx_getI hc gfK_71 (by assumption) dK_free_33 ?_
      rw [hp]
      refine zx_iconst hc 1 dK_free_36 rfl ?_
      refine zx_isub hc dK_free_37 ?_
      rw [nI_pr1 (by omega)]
      refine zk_st hc dK_free_38 (by omega) ?_
      refine zx_iload_n hc dK_free_39 rfl ?_
      refine zx_cV2i hc gsK_111 (by assumption) (cW_project_ l M col hI (zrg_st (i := h - 1) (by omega)) (by omega) hP) ⟨rfl, rfl⟩ ⟨Nat.le_of_ble_eq_true rfl, Nat.le_of_ble_eq_true rfl⟩ ⟨Nat.le_of_ble_eq_true rfl, Nat.le_of_ble_eq_true rfl⟩ dK_free_40 (fun x_40 M_40 h_40 => ?_)
      obtain ⟨v1, v2, v3, v4⟩ := h_40
      have v5 : zfr wF M M_40 := v4.wk (fun k z => wR_F hwr z)
      have e5 : zI M_40 0 = zI M 0 := (v5 0 (fun z => by have := z.1; omega)).1
      refine zx_tS1v hc hT gsK_90 (cK_requireLimitsKept_ l htr M_40 x_40) ⟨rfl, rfl⟩ ⟨Nat.le_of_ble_eq_true rfl, Nat.le_of_ble_eq_true rfl⟩ ⟨Nat.le_of_ble_eq_true rfl, Nat.le_of_ble_eq_true rfl⟩ dK_free_43 (fun e M9 hx => Or.inr (Or.inr ⟨hx.1, hb, hge, wm_none v1 hx.2.1, by rw [hx.2.2]; exact v2, by rw [hx.2.2]; exact v5⟩)) (fun M_43 h_43 => ?_)
      obtain ⟨w1, hm_43⟩ := h_43
      rw [hm_43]
      obtain ⟨R, hga, hR⟩ := wm_some v1 w1
      refine zx_aload_n hc dK_free_46 rfl ?_
      refine zx_getA hc gfK_11 zob_0 (p := 1) rfl dK_free_47 ?_
      refine zx_aload_n hc dK_free_50 rfl ?_
      refine zx_getI hc gfK_71 (by assumption) dK_free_51 ?_
      rw [e5, hp]
      refine zx_iconst hc 1 dK_free_54 rfl ?_
      refine zx_isub hc dK_free_55 ?_
      rw [nI_pr1 (by omega)]
      refine zk_st hc dK_free_56 (by omega) ?_
      refine zx_aload_n hc dK_free_57 rfl ?_
      refine zx_getA hc gfK_28 zob_0 (p := 12) rfl dK_free_58 ?_
      refine zx_cV0r hc gsK_94 (by assumption) (cW_result_ l M_40) ⟨rfl, rfl⟩ ⟨Nat.le_of_ble_eq_true rfl, Nat.le_of_ble_eq_true rfl⟩ ⟨Nat.le_of_ble_eq_true rfl, Nat.le_of_ble_eq_true rfl⟩ dK_free_61 (fun x_61 M_61 h_61 => ?_)
      have er : zR M_40 12 2 = zR M 12 2 := by rw [v3]
      obtain ⟨q_61, hm_61⟩ := h_61
      rw [hm_61, q_61, er]
      refine zx_cV1v hc gsK_98 (by assumption) (cR_copy_ l M_40 (zrg_st (i := h - 1) (by omega)) (wI_res hI) (by omega) hR) ⟨rfl, rfl⟩ ⟨Nat.le_of_ble_eq_true rfl, Nat.le_of_ble_eq_true rfl⟩ ⟨Nat.le_of_ble_eq_true rfl, Nat.le_of_ble_eq_true rfl⟩ dK_free_64 (fun M_64 h_64 => ?_)
      obtain ⟨y1, y2⟩ := h_64
      exact zx_vret hc rfl dK_free_67 ⟨Nat.le_of_ble_eq_true rfl, Nat.le_of_ble_eq_true rfl⟩ (⟨rfl, hb, hge, R, hga, kEnd0 (by omega) v2 v5 y1 y2⟩)
    · skip
      have hb : col < 0 ∨ 2 ≤ col := Or.inr (Int32.not_lt.mp h_6)
      exact zx_throw hc hT htr xtK_46_109 dK_free_9 dK_free_12 dK_free_13 dK_free_15 dK_free_18 ⟨Nat.le_of_ble_eq_true rfl, Nat.le_of_ble_eq_true rfl⟩ ⟨Nat.le_of_ble_eq_true rfl, Nat.le_of_ble_eq_true rfl⟩ (Or.inl ⟨rfl, hb, rfl⟩)

def rx_keep : Room := { frames := rK_keep.frames, cells := 2, slots := 12, locals := rK_keep.locals }
set_option maxRecDepth 100000 in
set_option maxHeartbeats 4000000 in
theorem cK_keep_ (l : Launch) (htr : l.stackTraces = false) {R : List (List gC)} {h : Nat} (M : zM) (hh : h ≤ 6) (hp : zI M 0 5 = nI h) (t : Int32) (hPQ : 1 ≤ h → rH M (32 + 3 * (h - 1)) R) : zMetX l mK_keep rx_keep [.ref 0, .int t] M (zqv (fun M' => 1 ≤ h ∧ ∃ tt, tt < 4 ∧ t = nI tt ∧ zI M' 0 5 = nI (h - 1) ∧ zI M' 0 6 = zI M 0 6 ∧ rH M' (50 + 3 * tt) R ∧ zfr (fun k => k = 0 ∨ rF (50 + 3 * tt) k) M M')) (fun e M' => (e = 0 ∧ (t < 0 ∨ 4 ≤ t) ∧ M' = M) ∨ (e = 1 ∧ ¬ (t < 0 ∨ 4 ≤ t) ∧ h < 1 ∧ M' = M)) := by
  refine zx_enter (by decide) (Nat.le_of_ble_eq_true rfl) (fun X hc hT => ?_)
  have ho := zob_0
  have hoA := zar_1
  have hoB := zar_2
  refine zx_iload_n hc dK_keep_0 rfl ?_
  refine zx_tS1v hc hT gsK_115 (cK_requireTable_ l htr M t) ⟨rfl, rfl⟩ ⟨Nat.le_of_ble_eq_true rfl, Nat.le_of_ble_eq_true rfl⟩ ⟨Nat.le_of_ble_eq_true rfl, Nat.le_of_ble_eq_true rfl⟩ dK_keep_1 (fun e M9 hx => Or.inl ⟨hx.1, hx.2.1, hx.2.2⟩) (fun M_1 h_1 => ?_)
  obtain ⟨hb0, hm_1⟩ := h_1
  rw [hm_1]
  have hb : ¬ (t < 0 ∨ 4 ≤ t) := fun z => z.elim hb0.1 (fun w => Int32.not_lt.mpr w hb0.2)
  obtain ⟨tt, htt, hte⟩ : ∃ k, k < 4 ∧ t = nI k := (ix_or t 4 (by decide)).resolve_right hb
  refine zx_aload_n hc dK_keep_4 rfl ?_
  refine zx_iconst hc (nI 1) dK_keep_5 rfl ?_
  refine zx_tV1v hc hT gsK_82 (by assumption) (cK_requireHeight_ l htr M hh hp 1 (by decide)) ⟨rfl, rfl⟩ ⟨Nat.le_of_ble_eq_true rfl, Nat.le_of_ble_eq_true rfl⟩ ⟨Nat.le_of_ble_eq_true rfl, Nat.le_of_ble_eq_true rfl⟩ dK_keep_6 (fun e M9 hx => Or.inr ⟨hx.1, hb, hx.2.1, hx.2.2⟩) (fun M_6 h_6 => ?_)
  obtain ⟨hge, hm_6⟩ := h_6
  rw [hm_6]
  have hP := hPQ hge
  have hor := zob_rg (zrg_tb htt)
  refine zx_aload_n hc dK_keep_9 rfl ?_
  refine zx_dup hc dK_keep_10 rfl ?_
  refine zx_getI hc gfK_71 (by assumption) dK_keep_11 ?_
  rw [hp]
  refine zx_iconst hc 1 dK_keep_14 rfl ?_
  refine zx_isub hc dK_keep_15 ?_
  rw [nI_pr1 (by omega)]
  refine zx_putI hc gpK_71 (by assumption) dK_keep_16 ?_
  refine zx_aload_n hc dK_keep_19 rfl ?_
  refine zx_getA hc gfK_15 zob_0 (p := 2) rfl dK_keep_20 ?_
  refine zx_iload_n hc dK_keep_23 rfl ?_
  rw [hte]
  refine zk_tb hc dK_keep_24 htt ?_
  refine zx_aload_n hc dK_keep_25 rfl ?_
  refine zx_getA hc gfK_11 zob_0 (p := 1) rfl dK_keep_26 ?_
  refine zx_aload_n hc dK_keep_29 rfl ?_
  refine zx_getI hc gfK_71 (by assumption) dK_keep_30 ?_
  rw [zI_s, if_pos rfl]
  refine zk_st hc dK_keep_33 (by omega) ?_
  refine zx_cV1v hc gsK_98 (by assumption) (cR_copy_ l (zsI M 0 5 (nI (h - 1))) (zrg_tb htt) (zrg_st (i := h - 1) (by omega)) (by omega) (rH_0 hP (by omega))) ⟨rfl, rfl⟩ ⟨Nat.le_of_ble_eq_true rfl, Nat.le_of_ble_eq_true rfl⟩ ⟨Nat.le_of_ble_eq_true rfl, Nat.le_of_ble_eq_true rfl⟩ dK_keep_34 (fun M_34 h_34 => ?_)
  obtain ⟨y1, y2⟩ := h_34
  have n0 : ¬ rF (50 + 3 * tt) 0 := fun z => by have := z.1; omega
  exact zx_vret hc rfl dK_keep_37 ⟨Nat.le_of_ble_eq_true rfl, Nat.le_of_ble_eq_true rfl⟩ (⟨rfl, hge, tt, htt, rfl, by rw [(y2 0 n0).1, zI_s, if_pos rfl], by rw [(y2 0 n0).1, zI_s, if_neg (by decide)], y1, (zfr_sI (Or.inl rfl)).tr (y2.wk (fun k z => Or.inr z))⟩)

def rx_load : Room := { frames := rK_load.frames, cells := 2, slots := 12, locals := rK_load.locals }
set_option maxRecDepth 100000 in
set_option maxHeartbeats 4000000 in
theorem cK_load_ (l : Launch) (htr : l.stackTraces = false) {R : Nat → List (List gC)} {h : Nat} (M : zM) (hh : h ≤ 6) (hp : zI M 0 5 = nI h) (t : Int32) (hPQ : ∀ tt, tt < 4 → rH M (50 + 3 * tt) (R tt)) : zMetX l mK_load rx_load [.ref 0, .int t] M (zqi (fun x M' => h < 6 ∧ ∃ tt, tt < 4 ∧ t = nI tt ∧ x = nI (h + 1) ∧ zI M' 0 5 = nI (h + 1) ∧ zI M' 0 6 = zI M 0 6 ∧ rH M' (32 + 3 * h) (R tt) ∧ zfr (fun k => k = 0 ∨ rF (32 + 3 * h) k) M M')) (fun e M' => (e = 0 ∧ (t < 0 ∨ 4 ≤ t) ∧ M' = M) ∨ (e = 1 ∧ ¬ (t < 0 ∨ 4 ≤ t) ∧ h = 6 ∧ M' = M)) := by
  refine zx_enter (by decide) (Nat.le_of_ble_eq_true rfl) (fun X hc hT => ?_)
  have ho := zob_0
  have hoA := zar_1
  have hoB := zar_2
  refine zx_iload_n hc dK_load_0 rfl ?_
  refine zx_tS1v hc hT gsK_115 (cK_requireTable_ l htr M t) ⟨rfl, rfl⟩ ⟨Nat.le_of_ble_eq_true rfl, Nat.le_of_ble_eq_true rfl⟩ ⟨Nat.le_of_ble_eq_true rfl, Nat.le_of_ble_eq_true rfl⟩ dK_load_1 (fun e M9 hx => Or.inl ⟨hx.1, hx.2.1, hx.2.2⟩) (fun M_1 h_1 => ?_)
  obtain ⟨hb0, hm_1⟩ := h_1
  rw [hm_1]
  have hb : ¬ (t < 0 ∨ 4 ≤ t) := fun z => z.elim hb0.1 (fun w => Int32.not_lt.mpr w hb0.2)
  obtain ⟨tt, htt, hte⟩ : ∃ k, k < 4 ∧ t = nI k := (ix_or t 4 (by decide)).resolve_right hb
  refine zx_aload_n hc dK_load_4 rfl ?_
  refine zx_tV0v hc hT gsK_68 (by assumption) (cK_requireRoom_ l htr M hh hp) ⟨rfl, rfl⟩ ⟨Nat.le_of_ble_eq_true rfl, Nat.le_of_ble_eq_true rfl⟩ ⟨Nat.le_of_ble_eq_true rfl, Nat.le_of_ble_eq_true rfl⟩ dK_load_5 (fun e M9 hx => Or.inr ⟨hx.1, hb, hx.2.1, hx.2.2⟩) (fun M_5 h_5 => ?_)
  obtain ⟨hlt, hm_5⟩ := h_5
  rw [hm_5]
  have hor := zob_rg (zrg_st (i := h) (by omega))
  refine zx_aload_n hc dK_load_8 rfl ?_
  refine zx_getA hc gfK_11 zob_0 (p := 1) rfl dK_load_9 ?_
  refine zx_aload_n hc dK_load_12 rfl ?_
  refine zx_getI hc gfK_71 (by assumption) dK_load_13 ?_
  rw [hp]
  refine zk_st hc dK_load_16 (by omega) ?_
  refine zx_aload_n hc dK_load_17 rfl ?_
  refine zx_getA hc gfK_15 zob_0 (p := 2) rfl dK_load_18 ?_
  refine zx_iload_n hc dK_load_21 rfl ?_
  rw [hte]
  refine zk_tb hc dK_load_22 htt ?_
  refine zx_cV1v hc gsK_98 (by assumption) (cR_copy_ l M (zrg_st (i := h) (by omega)) (zrg_tb htt) (by omega) (hPQ tt htt)) ⟨rfl, rfl⟩ ⟨Nat.le_of_ble_eq_true rfl, Nat.le_of_ble_eq_true rfl⟩ ⟨Nat.le_of_ble_eq_true rfl, Nat.le_of_ble_eq_true rfl⟩ dK_load_23 (fun M_23 h_23 => ?_)
  obtain ⟨y1, y2⟩ := h_23
  have n0 : ¬ rF (32 + 3 * h) 0 := fun z => by have := z.1; omega
  have e5 : zI M_23 0 = zI M 0 := (y2 0 n0).1
  refine zx_aload_n hc dK_load_26 rfl ?_
  refine zx_dup hc dK_load_27 rfl ?_
  refine zx_getI hc gfK_71 (by assumption) dK_load_28 ?_
  rw [e5, hp]
  refine zx_iconst hc 1 dK_load_31 rfl ?_
  refine zx_iadd hc dK_load_32 ?_
  rw [show nI h + 1 = nI (h + 1) from (nI_succ h).symm]
  refine zx_putI hc gpK_71 (by assumption) dK_load_33 ?_
  refine zx_aload_n hc dK_load_36 rfl ?_
  refine zx_getI hc gfK_71 (by assumption) dK_load_37 ?_
  rw [zI_s, if_pos rfl]
  exact zx_iret hc rfl dK_load_40 ⟨Nat.le_of_ble_eq_true rfl, Nat.le_of_ble_eq_true rfl⟩ (⟨_, rfl, hlt, tt, htt, rfl, rfl, by rw [zI_s, if_pos rfl], by rw [zI_s, if_neg (by decide), e5], rH_0 y1 (by omega), (y2.wk (fun k z => Or.inr z)).tr (zfr_sI (Or.inl rfl))⟩)

set_option maxRecDepth 100000 in
set_option maxHeartbeats 4000000 in
theorem cK_drop_ (l : Launch) {h : Nat} (M : zM) (hh : h ≤ 6) (hp : zI M 0 5 = nI h) : zMet l mK_drop rK_drop [.ref 0] M (zqi (fun x M' => (h = 0 → x = 0 ∧ M' = M) ∧ (0 < h → x = 1 ∧ M' = zsI M 0 5 (nI (h - 1))))) := by
  refine za_enter (by decide) (Nat.le_of_ble_eq_true rfl) (fun X hc => ?_)
  have ho := zob_0
  refine za_aload_n hc dK_drop_0 rfl ?_
  refine za_getI hc gfK_71 (by assumption) dK_drop_1 ?_
  rw [hp]
  refine za_if_ne 9 hc dK_drop_4 rfl (fun h_4 => ?_) (fun h_4 => ?_)
  · skip
    have h1 : 0 < h := Nat.pos_of_ne_zero (fun z => h_4 (by rw [z]; rfl))
    refine za_aload_n hc dK_drop_9 rfl ?_
    refine za_dup hc dK_drop_10 rfl ?_
    refine za_getI hc gfK_71 (by assumption) dK_drop_11 ?_
    rw [hp]
    refine za_iconst hc 1 dK_drop_14 rfl ?_
    refine za_isub hc dK_drop_15 ?_
    rw [nI_pr1 (by omega)]
    refine za_putI hc gpK_71 (by assumption) dK_drop_16 ?_
    refine za_iconst hc 1 dK_drop_19 rfl ?_
    exact za_zret hc rfl (rfl) dK_drop_20 ⟨Nat.zero_le _, Nat.zero_le _⟩ (⟨_, rfl, fun z => absurd z (by omega), fun _ => ⟨rfl, rfl⟩⟩)
  · skip
    have h0 : h = 0 := (nI_z (by omega)).mp h_4
    refine za_iconst hc 0 dK_drop_7 rfl ?_
    exact za_zret hc rfl (rfl) dK_drop_8 ⟨Nat.zero_le _, Nat.zero_le _⟩ (⟨_, rfl, fun _ => ⟨rfl, rfl⟩, fun z => absurd z (by omega)⟩)

set_option maxRecDepth 100000 in
set_option maxHeartbeats 4000000 in
theorem cK_pile_ (l : Launch) (M : zM) : zMet l mK_pile rK_pile [.ref 0] M (zqi (fun x M' => x = zI M 0 5 ∧ M' = M)) := by
  refine za_enter (by decide) (Nat.le_of_ble_eq_true rfl) (fun X hc => ?_)
  have ho := zob_0
  refine za_aload_n hc dK_pile_0 rfl ?_
  refine za_getI hc gfK_71 (by assumption) dK_pile_1 ?_
  exact za_iret hc rfl dK_pile_4 ⟨Nat.zero_le _, Nat.zero_le _⟩ (⟨_, rfl, rfl, rfl⟩)

def rx_rows : Room := { frames := rK_rows.frames, cells := 1, slots := 6, locals := rK_rows.locals }
set_option maxRecDepth 100000 in
set_option maxHeartbeats 4000000 in
theorem cK_rows_ (l : Launch) (htr : l.stackTraces = false) {h : Nat} (M : zM) (hh : h ≤ 6) (hp : zI M 0 5 = nI h) : zMetX l mK_rows rx_rows [.ref 0] M (zqi (fun x M' => 1 ≤ h ∧ x = zI M (32 + 3 * (h - 1)) 2 ∧ M' = M)) (fun e M' => e = 1 ∧ h < 1 ∧ M' = M) := by
  refine zx_enter (by decide) (Nat.le_of_ble_eq_true rfl) (fun X hc hT => ?_)
  have ho := zob_0
  have hoA := zar_1
  have hoB := zar_2
  refine zx_aload_n hc dK_rows_0 rfl ?_
  refine zx_iconst hc (nI 1) dK_rows_1 rfl ?_
  refine zx_tV1v hc hT gsK_82 (by assumption) (cK_requireHeight_ l htr M hh hp 1 (by decide)) ⟨rfl, rfl⟩ ⟨Nat.le_of_ble_eq_true rfl, Nat.le_of_ble_eq_true rfl⟩ ⟨Nat.le_of_ble_eq_true rfl, Nat.le_of_ble_eq_true rfl⟩ dK_rows_2 (fun e M9 hx => ⟨hx.1, hx.2.1, hx.2.2⟩) (fun M_2 h_2 => ?_)
  obtain ⟨hge, hm_2⟩ := h_2
  rw [hm_2]
  have hor := zob_rg (zrg_st (i := h - 1) (by omega))
  refine zx_aload_n hc dK_rows_5 rfl ?_
  refine zx_getA hc gfK_11 zob_0 (p := 1) rfl dK_rows_6 ?_
  refine zx_aload_n hc dK_rows_9 rfl ?_
  refine zx_getI hc gfK_71 (by assumption) dK_rows_10 ?_
  rw [hp]
  refine zx_iconst hc 1 dK_rows_13 rfl ?_
  refine zx_isub hc dK_rows_14 ?_
  rw [nI_pr1 (by omega)]
  refine zk_st hc dK_rows_15 (by omega) ?_
  refine zx_cV0i hc gsK_118 (by assumption) (cR_rowCount_ l M (zrg_st (i := h - 1) (by omega))) ⟨rfl, rfl⟩ ⟨Nat.le_of_ble_eq_true rfl, Nat.le_of_ble_eq_true rfl⟩ ⟨Nat.le_of_ble_eq_true rfl, Nat.le_of_ble_eq_true rfl⟩ dK_rows_16 (fun x_16 M_16 h_16 => ?_)
  obtain ⟨q_16, hm_16⟩ := h_16
  rw [hm_16, q_16]
  exact zx_iret hc rfl dK_rows_19 ⟨Nat.le_of_ble_eq_true rfl, Nat.le_of_ble_eq_true rfl⟩ (⟨_, rfl, hge, rfl, rfl⟩)

def rx_members : Room := { frames := rK_members.frames, cells := 2, slots := 12, locals := rK_members.locals }
set_option maxRecDepth 100000 in
set_option maxHeartbeats 4000000 in
theorem cK_members_ (l : Launch) (htr : l.stackTraces = false) {P : List (List gC)} {h : Nat} (M : zM) (hh : h ≤ 6) (hp : zI M 0 5 = nI h) (r : Int32) (hPQ : 1 ≤ h → rH M (32 + 3 * (h - 1)) P) : zMetX l mK_members rx_members [.ref 0, .int r] M (zqi (fun x M' => 1 ≤ h ∧ (∃ k, k < P.length ∧ r = nI k ∧ x = zI M (32 + 3 * (h - 1) + 1) k) ∧ M' = M)) (fun e M' => (e = 1 ∧ h < 1 ∧ M' = M) ∨ (e = 3 ∧ 1 ≤ h ∧ (r < 0 ∨ nI P.length ≤ r) ∧ M' = M)) := by
  refine zx_enter (by decide) (Nat.le_of_ble_eq_true rfl) (fun X hc hT => ?_)
  have ho := zob_0
  have hoA := zar_1
  have hoB := zar_2
  refine zx_aload_n hc dK_members_0 rfl ?_
  refine zx_iconst hc (nI 1) dK_members_1 rfl ?_
  refine zx_tV1v hc hT gsK_82 (by assumption) (cK_requireHeight_ l htr M hh hp 1 (by decide)) ⟨rfl, rfl⟩ ⟨Nat.le_of_ble_eq_true rfl, Nat.le_of_ble_eq_true rfl⟩ ⟨Nat.le_of_ble_eq_true rfl, Nat.le_of_ble_eq_true rfl⟩ dK_members_2 (fun e M9 hx => Or.inl ⟨hx.1, hx.2.1, hx.2.2⟩) (fun M_2 h_2 => ?_)
  obtain ⟨hge, hm_2⟩ := h_2
  rw [hm_2]
  have hP := hPQ hge
  have hor := zob_rg (zrg_st (i := h - 1) (by omega))
  refine zx_aload_n hc dK_members_5 rfl ?_
  refine zx_iload_n hc dK_members_6 rfl ?_
  refine zx_tV1v hc hT gsK_122 (by assumption) (cK_requireRow_ l htr M hh hp hge r hP.1) ⟨rfl, rfl⟩ ⟨Nat.le_of_ble_eq_true rfl, Nat.le_of_ble_eq_true rfl⟩ ⟨Nat.le_of_ble_eq_true rfl, Nat.le_of_ble_eq_true rfl⟩ dK_members_7 (fun e M9 hx => Or.inr ⟨hx.1, hge, hx.2.1, hx.2.2⟩) (fun M_7 h_7 => ?_)
  obtain ⟨hrr, hm_7⟩ := h_7
  rw [hm_7]
  obtain ⟨k0, hk0, hke⟩ : ∃ k, k < P.length ∧ r = nI k := (ix_or r P.length hP.2.1).resolve_right (fun z => z.elim hrr.1 (fun w => Int32.not_lt.mpr w hrr.2))
  have hPl := hP.2.1
  refine zx_aload_n hc dK_members_10 rfl ?_
  refine zx_getA hc gfK_11 zob_0 (p := 1) rfl dK_members_11 ?_
  refine zx_aload_n hc dK_members_14 rfl ?_
  refine zx_getI hc gfK_71 (by assumption) dK_members_15 ?_
  rw [hp]
  refine zx_iconst hc 1 dK_members_18 rfl ?_
  refine zx_isub hc dK_members_19 ?_
  rw [nI_pr1 (by omega)]
  refine zk_st hc dK_members_20 (by omega) ?_
  refine zx_iload_n hc dK_members_21 rfl ?_
  rw [hke]
  refine zx_cV1i hc gsK_125 (by assumption) (cR_memberCount_ l M (zrg_st (i := h - 1) (by omega)) (j := k0) (by omega)) ⟨rfl, rfl⟩ ⟨Nat.le_of_ble_eq_true rfl, Nat.le_of_ble_eq_true rfl⟩ ⟨Nat.le_of_ble_eq_true rfl, Nat.le_of_ble_eq_true rfl⟩ dK_members_22 (fun x_22 M_22 h_22 => ?_)
  obtain ⟨q_22, hm_22⟩ := h_22
  rw [hm_22, q_22]
  exact zx_iret hc rfl dK_members_25 ⟨Nat.le_of_ble_eq_true rfl, Nat.le_of_ble_eq_true rfl⟩ (⟨_, rfl, hge, ⟨k0, hk0, rfl, rfl⟩, rfl⟩)
