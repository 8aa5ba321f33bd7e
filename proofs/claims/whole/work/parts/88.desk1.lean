/-! RegionDesk: what refuses a call; kinds of exceptions: 0 IllegalArgument, 1 IllegalState, 2 UnsupportedOperation, 3 IndexOutOfBounds. -/
theorem zob_0 : zob 0 5 := ⟨by decide, by decide⟩
theorem zar_1 : zar 1 4 6 := ⟨by decide, by decide⟩
theorem zar_2 : zar 2 4 4 := ⟨by decide, by decide⟩
theorem zrg_st {i : Nat} (h : i < 6) : zrg (32 + 3 * i) := by
  match i, h with
  | 0, _ => exact ⟨by decide, by decide, by decide, by decide⟩
  | 1, _ => exact ⟨by decide, by decide, by decide, by decide⟩
  | 2, _ => exact ⟨by decide, by decide, by decide, by decide⟩
  | 3, _ => exact ⟨by decide, by decide, by decide, by decide⟩
  | 4, _ => exact ⟨by decide, by decide, by decide, by decide⟩
  | 5, _ => exact ⟨by decide, by decide, by decide, by decide⟩
  | n + 6, h => omega
theorem zrg_tb {i : Nat} (h : i < 4) : zrg (50 + 3 * i) := by
  match i, h with
  | 0, _ => exact ⟨by decide, by decide, by decide, by decide⟩
  | 1, _ => exact ⟨by decide, by decide, by decide, by decide⟩
  | 2, _ => exact ⟨by decide, by decide, by decide, by decide⟩
  | 3, _ => exact ⟨by decide, by decide, by decide, by decide⟩
  | n + 4, h => omega
theorem zob_rg {r : Nat} (h : zrg r) : zob r 2 := ⟨by have := h.1; omega, h.2.1⟩
section ZKA
variable {X : zC} {l : Launch} {md : zMd} {rm : Room} {F : State → Prop} {u : Nat × Nat} {pc : Nat} {L : List (Nat × Value)} {S : List Value} {M : zM}
theorem zk_st {i : Nat} (hc : zCy X l md rm) (hd : decode md.2.1 pc = .ok (.aaload, 1)) (hi : i < 6) (kk : zF X F u (pc + 1) L (.ref (32 + 3 * i) :: S) M) : zF X F u pc L (.int (nI i) :: .ref 1 :: S) M := zx_aald hc zar_1 hd (vp_in_nI hi (by omega)) (by rw [nI_clamp (by omega)]; exact kk)
theorem zk_tb {i : Nat} (hc : zCy X l md rm) (hd : decode md.2.1 pc = .ok (.aaload, 1)) (hi : i < 4) (kk : zF X F u (pc + 1) L (.ref (50 + 3 * i) :: S) M) : zF X F u pc L (.int (nI i) :: .ref 2 :: S) M := zx_aald hc zar_2 hd (vp_in_nI hi (by omega)) (by rw [nI_clamp (by omega)]; exact kk)
end ZKA

def rx_requireRoom : Room := { frames := rK_requireRoom.frames, cells := 1, slots := 6, locals := rK_requireRoom.locals }
def rx_requireHeight : Room := { frames := rK_requireHeight.frames, cells := 1, slots := 6, locals := rK_requireHeight.locals }
def rx_requireRow : Room := { frames := rK_requireRow.frames, cells := 1, slots := 6, locals := rK_requireRow.locals }
def rx_requireTable : Room := { frames := rK_requireTable.frames, cells := 1, slots := 6, locals := rK_requireTable.locals }
def rx_requireLimitsKept : Room := { frames := rK_requireLimitsKept.frames, cells := 1, slots := 6, locals := rK_requireLimitsKept.locals }
set_option maxRecDepth 100000 in
set_option maxHeartbeats 4000000 in
theorem cK_requireRoom_ (l : Launch) (htr : l.stackTraces = false) {h : Nat} (M : zM) (hh : h ≤ 6) (hp : zI M 0 5 = nI h) : zMetX l mK_requireRoom rx_requireRoom [.ref 0] M (zqv (fun M' => h < 6 ∧ M' = M)) (fun e M' => e = 1 ∧ h = 6 ∧ M' = M) := by
  refine zx_enter (by decide) (Nat.le_of_ble_eq_true rfl) (fun X hc hT => ?_)
  have ho := zob_0
  have hoA := zar_1
  have hoB := zar_2
  refine zx_aload_n hc dK_requireRoom_0 rfl ?_
  refine zx_getI hc gfK_71 (by assumption) dK_requireRoom_1 ?_
  rw [hp]
  refine zx_bipush hc 6 dK_requireRoom_4 rfl ?_
  refine zx_icmp_lt 19 hc dK_requireRoom_6 rfl (fun h_6 => ?_) (fun h_6 => ?_)
  · skip
    have h6 : h < 6 := by rw [show (6 : Int32) = nI 6 from rfl] at h_6; exact Nat.not_le.mp (fun z => absurd ((nI_leI (by decide) (by omega)).mpr z) (Int32.not_le.mpr h_6))
    exact zx_vret hc rfl dK_requireRoom_19 ⟨Nat.le_of_ble_eq_true rfl, Nat.le_of_ble_eq_true rfl⟩ (⟨rfl, h6, rfl⟩)
  · skip
    have h6 : h = 6 := by rw [show (6 : Int32) = nI 6 from rfl] at h_6; have := (nI_leI (a := 6) (b := h) (by decide) (by omega)).mp (Int32.not_lt.mp h_6); omega
    exact zx_throw hc hT htr xtK_59_178 dK_requireRoom_9 dK_requireRoom_12 dK_requireRoom_13 dK_requireRoom_15 dK_requireRoom_18 ⟨Nat.le_of_ble_eq_true rfl, Nat.le_of_ble_eq_true rfl⟩ ⟨Nat.le_of_ble_eq_true rfl, Nat.le_of_ble_eq_true rfl⟩ (⟨rfl, h6, rfl⟩)

set_option maxRecDepth 100000 in
set_option maxHeartbeats 4000000 in
theorem cK_requireHeight_ (l : Launch) (htr : l.stackTraces = false) {h : Nat} (M : zM) (hh : h ≤ 6) (hp : zI M 0 5 = nI h) (n : Nat) (hn : n ≤ 2) : zMetX l mK_requireHeight rx_requireHeight [.ref 0, .int (nI n)] M (zqv (fun M' => n ≤ h ∧ M' = M)) (fun e M' => e = 1 ∧ h < n ∧ M' = M) := by
  refine zx_enter (by decide) (Nat.le_of_ble_eq_true rfl) (fun X hc hT => ?_)
  have ho := zob_0
  have hoA := zar_1
  have hoB := zar_2
  refine zx_aload_n hc dK_requireHeight_0 rfl ?_
  refine zx_getI hc gfK_71 (by assumption) dK_requireHeight_1 ?_
  rw [hp]
  refine zx_iload_n hc dK_requireHeight_4 rfl ?_
  refine zx_icmp_ge 18 hc dK_requireHeight_5 rfl (fun h_5 => ?_) (fun h_5 => ?_)
  · skip
    have hn2 := (nI_leI (by omega) (by omega)).mp h_5
    exact zx_vret hc rfl dK_requireHeight_18 ⟨Nat.le_of_ble_eq_true rfl, Nat.le_of_ble_eq_true rfl⟩ (⟨rfl, hn2, rfl⟩)
  · skip
    have hn2 : h < n := Nat.not_le.mp (fun z => h_5 ((nI_leI (by omega) (by omega)).mpr z))
    exact zx_throw hc hT htr xtK_59_180 dK_requireHeight_8 dK_requireHeight_11 dK_requireHeight_12 dK_requireHeight_14 dK_requireHeight_17 ⟨Nat.le_of_ble_eq_true rfl, Nat.le_of_ble_eq_true rfl⟩ ⟨Nat.le_of_ble_eq_true rfl, Nat.le_of_ble_eq_true rfl⟩ (⟨rfl, hn2, rfl⟩)

set_option maxRecDepth 100000 in
set_option maxHeartbeats 4000000 in
theorem cK_requireRow_ (l : Launch) (htr : l.stackTraces = false) {h : Nat} (M : zM) (hh : h ≤ 6) (hp : zI M 0 5 = nI h) (h1 : 1 ≤ h) (r : Int32) {n : Nat} (hn : zI M (32 + 3 * (h - 1)) 2 = nI n) : zMetX l mK_requireRow rx_requireRow [.ref 0, .int r] M (zqv (fun M' => (¬ r < 0 ∧ r < nI n) ∧ M' = M)) (fun e M' => e = 3 ∧ (r < 0 ∨ nI n ≤ r) ∧ M' = M) := by
  refine zx_enter (by decide) (Nat.le_of_ble_eq_true rfl) (fun X hc hT => ?_)
  have ho := zob_0
  have hoA := zar_1
  have hoB := zar_2
  have hor := zob_rg (zrg_st (i := h - 1) (by omega))
  refine zx_iload_n hc dK_requireRow_0 rfl ?_
  refine zx_if_lt 22 hc dK_requireRow_1 rfl (fun h_1 => ?_) (fun h_1 => ?_)
  · skip
    have hb : r < 0 ∨ nI n ≤ r := Or.inl h_1
    exact zx_throw hc hT htr xtK_129_182 dK_requireRow_22 dK_requireRow_25 dK_requireRow_26 dK_requireRow_28 dK_requireRow_31 ⟨Nat.le_of_ble_eq_true rfl, Nat.le_of_ble_eq_true rfl⟩ ⟨Nat.le_of_ble_eq_true rfl, Nat.le_of_ble_eq_true rfl⟩ (⟨rfl, hb, rfl⟩)
  · skip
    refine zx_iload_n hc dK_requireRow_4 rfl ?_
    refine zx_aload_n hc dK_requireRow_5 rfl ?_
    refine zx_getA hc gfK_11 zob_0 (p := 1) rfl dK_requireRow_6 ?_
    refine zx_aload_n hc dK_requireRow_9 rfl ?_
    refine zx_getI hc gfK_71 (by assumption) dK_requireRow_10 ?_
    rw [hp]
    refine zx_iconst hc 1 dK_requireRow_13 rfl ?_
    refine zx_isub hc dK_requireRow_14 ?_
    rw [nI_pr1 h1]
    refine zk_st hc dK_requireRow_15 (by omega) ?_
    refine zx_cV0i hc gsK_118 (by assumption) (cR_rowCount_ l M (zrg_st (by omega))) ⟨rfl, rfl⟩ ⟨Nat.le_of_ble_eq_true rfl, Nat.le_of_ble_eq_true rfl⟩ ⟨Nat.le_of_ble_eq_true rfl, Nat.le_of_ble_eq_true rfl⟩ dK_requireRow_16 (fun x_16 M_16 h_16 => ?_)
    obtain ⟨q_16, hm_16⟩ := h_16
    rw [hm_16, q_16, hn]
    refine zx_icmp_lt 32 hc dK_requireRow_19 rfl (fun h_19 => ?_) (fun h_19 => ?_)
    · skip
      exact zx_vret hc rfl dK_requireRow_32 ⟨Nat.le_of_ble_eq_true rfl, Nat.le_of_ble_eq_true rfl⟩ (⟨rfl, ⟨h_1, h_19⟩, rfl⟩)
    · skip
      have hb : r < 0 ∨ nI n ≤ r := Or.inr (Int32.not_lt.mp h_19)
      exact zx_throw hc hT htr xtK_129_182 dK_requireRow_22 dK_requireRow_25 dK_requireRow_26 dK_requireRow_28 dK_requireRow_31 ⟨Nat.le_of_ble_eq_true rfl, Nat.le_of_ble_eq_true rfl⟩ ⟨Nat.le_of_ble_eq_true rfl, Nat.le_of_ble_eq_true rfl⟩ (⟨rfl, hb, rfl⟩)

set_option maxRecDepth 100000 in
set_option maxHeartbeats 4000000 in
theorem cK_requireTable_ (l : Launch) (htr : l.stackTraces = false) (M : zM) (t : Int32) : zMetX l mK_requireTable rx_requireTable [.int t] M (zqv (fun M' => (¬ t < 0 ∧ t < 4) ∧ M' = M)) (fun e M' => e = 0 ∧ (t < 0 ∨ 4 ≤ t) ∧ M' = M) := by
  refine zx_enter (by decide) (Nat.le_of_ble_eq_true rfl) (fun X hc hT => ?_)
  have ho := zob_0
  have hoA := zar_1
  have hoB := zar_2
  refine zx_iload_n hc dK_requireTable_0 rfl ?_
  refine zx_if_lt 9 hc dK_requireTable_1 rfl (fun h_1 => ?_) (fun h_1 => ?_)
  · skip
    have hb : t < 0 ∨ 4 ≤ t := Or.inl h_1
    exact zx_throw hc hT htr xtK_46_184 dK_requireTable_9 dK_requireTable_12 dK_requireTable_13 dK_requireTable_15 dK_requireTable_18 ⟨Nat.le_of_ble_eq_true rfl, Nat.le_of_ble_eq_true rfl⟩ ⟨Nat.le_of_ble_eq_true rfl, Nat.le_of_ble_eq_true rfl⟩ (⟨rfl, hb, rfl⟩)
  · skip
    refine zx_iload_n hc dK_requireTable_4 rfl ?_
    refine zx_iconst hc 4 dK_requireTable_5 rfl ?_
    refine zx_icmp_lt 19 hc dK_requireTable_6 rfl (fun h_6 => ?_) (fun h_6 => ?_)
    · skip
      exact zx_vret hc rfl dK_requireTable_19 ⟨Nat.le_of_ble_eq_true rfl, Nat.le_of_ble_eq_true rfl⟩ (⟨rfl, ⟨h_1, h_6⟩, rfl⟩)
    · skip
      have hb : t < 0 ∨ 4 ≤ t := Or.inr (Int32.not_lt.mp h_6)
      exact zx_throw hc hT htr xtK_46_184 dK_requireTable_9 dK_requireTable_12 dK_requireTable_13 dK_requireTable_15 dK_requireTable_18 ⟨Nat.le_of_ble_eq_true rfl, Nat.le_of_ble_eq_true rfl⟩ ⟨Nat.le_of_ble_eq_true rfl, Nat.le_of_ble_eq_true rfl⟩ (⟨rfl, hb, rfl⟩)

set_option maxRecDepth 100000 in
set_option maxHeartbeats 4000000 in
theorem cK_requireLimitsKept_ (l : Launch) (htr : l.stackTraces = false) (M : zM) (b : Int32) : zMetX l mK_requireLimitsKept rx_requireLimitsKept [.int b] M (zqv (fun M' => ¬ b = 0 ∧ M' = M)) (fun e M' => e = 2 ∧ b = 0 ∧ M' = M) := by
  refine zx_enter (by decide) (Nat.le_of_ble_eq_true rfl) (fun X hc hT => ?_)
  have ho := zob_0
  have hoA := zar_1
  have hoB := zar_2
  refine zx_iload_n hc dK_requireLimitsKept_0 rfl ?_
  refine zx_if_ne 14 hc dK_requireLimitsKept_1 rfl (fun h_1 => ?_) (fun h_1 => ?_)
  · skip
    exact zx_vret hc rfl dK_requireLimitsKept_14 ⟨Nat.le_of_ble_eq_true rfl, Nat.le_of_ble_eq_true rfl⟩ (⟨rfl, h_1, rfl⟩)
  · skip
    exact zx_throw hc hT htr xtK_186_188 dK_requireLimitsKept_4 dK_requireLimitsKept_7 dK_requireLimitsKept_8 dK_requireLimitsKept_10 dK_requireLimitsKept_13 ⟨Nat.le_of_ble_eq_true rfl, Nat.le_of_ble_eq_true rfl⟩ ⟨Nat.le_of_ble_eq_true rfl, Nat.le_of_ble_eq_true rfl⟩ (⟨rfl, h_1, rfl⟩)
