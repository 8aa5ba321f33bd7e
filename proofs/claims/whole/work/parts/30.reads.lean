/-! Places of drafts, spans and regions. -/
def zdr (d : Nat) : Prop := d + 8 < zNP ∧ zlay d = (0, 0) ∧ zlay (d + 1) = (2, 36) ∧ zlay (d + 2) = (2, 36) ∧ zlay (d + 3) = (2, 36) ∧ zlay (d + 4) = (3, 36) ∧ zlay (d + 5) = (0, 3) ∧ zlay (d + 5 + 1) = (2, 2) ∧ zlay (d + 5 + 2) = (2, 2) ∧ zlay (d + 5 + 3) = (3, 2)
theorem zdr_3 : zdr 3 := by unfold zdr; decide
theorem zdr_13 : zdr 13 := by unfold zdr; decide
theorem zdr.o {d : Nat} (h : zdr d) : zob d 0 := ⟨by have := h.1; omega, h.2.1⟩
theorem zdr.a {d : Nat} (h : zdr d) : zar (d + 1) 2 36 := ⟨by have := h.1; omega, h.2.2.1⟩
theorem zdr.b {d : Nat} (h : zdr d) : zar (d + 2) 2 36 := ⟨by have := h.1; omega, h.2.2.2.1⟩
theorem zdr.c {d : Nat} (h : zdr d) : zar (d + 3) 2 36 := ⟨by have := h.1; omega, h.2.2.2.2.1⟩
theorem zdr.s {d : Nat} (h : zdr d) : zar (d + 4) 3 36 := ⟨by have := h.1; omega, h.2.2.2.2.2.1⟩
def zsp (p : Nat) : Prop := p + 3 < zNP ∧ zlay p = (0, 3) ∧ zlay (p + 1) = (2, 2) ∧ zlay (p + 2) = (2, 2) ∧ zlay (p + 3) = (3, 2)
theorem zdr.p {d : Nat} (h : zdr d) : zsp (d + 5) := ⟨h.1, h.2.2.2.2.2.2⟩
theorem zsp.o {p : Nat} (h : zsp p) : zob p 3 := ⟨by have := h.1; omega, h.2.1⟩
theorem zsp.t {p : Nat} (h : zsp p) : zar (p + 1) 2 2 := ⟨by have := h.1; omega, h.2.2.1⟩
theorem zsp.b {p : Nat} (h : zsp p) : zar (p + 2) 2 2 := ⟨by have := h.1; omega, h.2.2.2.1⟩
theorem zsp.s {p : Nat} (h : zsp p) : zar (p + 3) 3 2 := ⟨by have := h.1; omega, h.2.2.2.2⟩
def zrg (r : Nat) : Prop := r + 2 < zNP ∧ zlay r = (0, 2) ∧ zlay (r + 1) = (1, 12) ∧ zlay (r + 2) = (1, 576)
theorem zrg.o {r : Nat} (h : zrg r) : zob r 2 := ⟨by have := h.1; omega, h.2.1⟩
theorem zrg.z {r : Nat} (h : zrg r) : zar (r + 1) 1 12 := ⟨by have := h.1; omega, h.2.2.1⟩
theorem zrg.n {r : Nat} (h : zrg r) : zar (r + 2) 1 576 := ⟨by have := h.1; omega, h.2.2.2⟩

set_option maxRecDepth 100000 in
set_option maxHeartbeats 4000000 in
theorem cD_clear_ (l : Launch) {d : Nat} (M : zM) (hd : zdr d) : zMet l mD_clear rD_clear [.ref d] M (zqv (fun M' => M' = zsI M d 5 0)) := by
  refine za_enter (by decide) (Nat.le_of_ble_eq_true rfl) (fun X hc => ?_)
  have hdo := hd.o
  have hda := hd.a
  have hdb := hd.b
  have hdc := hd.c
  have hds := hd.s
  have hpo := hd.p.o
  refine za_aload_n hc dD_clear_0 rfl ?_
  refine za_iconst hc 0 dD_clear_1 rfl ?_
  refine za_putI hc gpD_32 (by assumption) dD_clear_2 ?_
  exact za_vret hc rfl dD_clear_5 ⟨Nat.zero_le _, Nat.zero_le _⟩ (⟨rfl, rfl⟩)

set_option maxRecDepth 100000 in
set_option maxHeartbeats 4000000 in
theorem cD_memberCount_ (l : Launch) {d : Nat} (M : zM) (hd : zdr d) : zMet l mD_memberCount rD_memberCount [.ref d] M (zqi (fun x M' => x = zI M d 5 ∧ M' = M)) := by
  refine za_enter (by decide) (Nat.le_of_ble_eq_true rfl) (fun X hc => ?_)
  have hdo := hd.o
  have hda := hd.a
  have hdb := hd.b
  have hdc := hd.c
  have hds := hd.s
  have hpo := hd.p.o
  refine za_aload_n hc dD_memberCount_0 rfl ?_
  refine za_getI hc gfD_32 (by assumption) dD_memberCount_1 ?_
  exact za_iret hc rfl dD_memberCount_4 ⟨Nat.zero_le _, Nat.zero_le _⟩ (⟨_, rfl, rfl, rfl⟩)

set_option maxRecDepth 100000 in
set_option maxHeartbeats 4000000 in
theorem cD_x_ (l : Launch) {d j : Nat} (M : zM) (hd : zdr d) (hj : j < 36) : zMet l mD_x rD_x [.ref d, .int (nI j)] M (zql (fun x M' => x = zJ M (d + 1) j ∧ M' = M)) := by
  refine za_enter (by decide) (Nat.le_of_ble_eq_true rfl) (fun X hc => ?_)
  have hdo := hd.o
  have hda := hd.a
  have hdb := hd.b
  have hdc := hd.c
  have hds := hd.s
  have hpo := hd.p.o
  refine za_aload_n hc dD_x_0 rfl ?_
  refine za_getS hc gfD_11 (by assumption) dD_x_1 ?_
  refine za_iload_n hc dD_x_4 rfl ?_
  refine za_lald hc (by assumption) dD_x_5 (vp_in_nI hj (by decide)) ?_
  exact za_lret hc rfl dD_x_6 ⟨Nat.zero_le _, Nat.zero_le _⟩ (⟨_, rfl, by rw [nI_clamp (by omega)], rfl⟩)

set_option maxRecDepth 100000 in
set_option maxHeartbeats 4000000 in
theorem cD_y_ (l : Launch) {d j : Nat} (M : zM) (hd : zdr d) (hj : j < 36) : zMet l mD_y rD_y [.ref d, .int (nI j)] M (zql (fun x M' => x = zJ M (d + 2) j ∧ M' = M)) := by
  refine za_enter (by decide) (Nat.le_of_ble_eq_true rfl) (fun X hc => ?_)
  have hdo := hd.o
  have hda := hd.a
  have hdb := hd.b
  have hdc := hd.c
  have hds := hd.s
  have hpo := hd.p.o
  refine za_aload_n hc dD_y_0 rfl ?_
  refine za_getS hc gfD_15 (by assumption) dD_y_1 ?_
  refine za_iload_n hc dD_y_4 rfl ?_
  refine za_lald hc (by assumption) dD_y_5 (vp_in_nI hj (by decide)) ?_
  exact za_lret hc rfl dD_y_6 ⟨Nat.zero_le _, Nat.zero_le _⟩ (⟨_, rfl, by rw [nI_clamp (by omega)], rfl⟩)

set_option maxRecDepth 100000 in
set_option maxHeartbeats 4000000 in
theorem cD_bound_ (l : Launch) {d j : Nat} (M : zM) (hd : zdr d) (hj : j < 36) : zMet l mD_bound rD_bound [.ref d, .int (nI j)] M (zql (fun x M' => x = zJ M (d + 3) j ∧ M' = M)) := by
  refine za_enter (by decide) (Nat.le_of_ble_eq_true rfl) (fun X hc => ?_)
  have hdo := hd.o
  have hda := hd.a
  have hdb := hd.b
  have hdc := hd.c
  have hds := hd.s
  have hpo := hd.p.o
  refine za_aload_n hc dD_bound_0 rfl ?_
  refine za_getS hc gfD_18 (by assumption) dD_bound_1 ?_
  refine za_iload_n hc dD_bound_4 rfl ?_
  refine za_lald hc (by assumption) dD_bound_5 (vp_in_nI hj (by decide)) ?_
  exact za_lret hc rfl dD_bound_6 ⟨Nat.zero_le _, Nat.zero_le _⟩ (⟨_, rfl, by rw [nI_clamp (by omega)], rfl⟩)

set_option maxRecDepth 100000 in
set_option maxHeartbeats 4000000 in
theorem cD_isStrict_ (l : Launch) {d j : Nat} (M : zM) (hd : zdr d) (hj : j < 36) (hz : zI M (d + 4) j = 0 ∨ zI M (d + 4) j = 1) : zMet l mD_isStrict rD_isStrict [.ref d, .int (nI j)] M (zqi (fun x M' => x = zI M (d + 4) j ∧ M' = M)) := by
  refine za_enter (by decide) (Nat.le_of_ble_eq_true rfl) (fun X hc => ?_)
  have hdo := hd.o
  have hda := hd.a
  have hdb := hd.b
  have hdc := hd.c
  have hds := hd.s
  have hpo := hd.p.o
  refine za_aload_n hc dD_isStrict_0 rfl ?_
  refine za_getS hc gfD_21 (by assumption) dD_isStrict_1 ?_
  refine za_iload_n hc dD_isStrict_4 rfl ?_
  refine za_zald hc (by assumption) dD_isStrict_5 (vp_in_nI hj (by decide)) ?_
  exact za_zret hc rfl (by rw [nI_clamp (by omega)]; rcases hz with h | h <;> rw [h] <;> rfl) dD_isStrict_6 ⟨Nat.zero_le _, Nat.zero_le _⟩ (⟨_, rfl, by rw [nI_clamp (by omega)], rfl⟩)

set_option maxRecDepth 100000 in
set_option maxHeartbeats 4000000 in
theorem cR_clear_ (l : Launch) {r : Nat} (M : zM) (hr : zrg r) : zMet l mR_clear rR_clear [.ref r] M (zqv (fun M' => M' = zsI M r 2 0)) := by
  refine za_enter (by decide) (Nat.le_of_ble_eq_true rfl) (fun X hc => ?_)
  have hro := hr.o
  have hrz := hr.z
  have hrn := hr.n
  refine za_aload_n hc dR_clear_0 rfl ?_
  refine za_iconst hc 0 dR_clear_1 rfl ?_
  refine za_putI hc gpR_18 (by assumption) dR_clear_2 ?_
  exact za_vret hc rfl dR_clear_5 ⟨Nat.zero_le _, Nat.zero_le _⟩ (⟨rfl, rfl⟩)

set_option maxRecDepth 100000 in
set_option maxHeartbeats 4000000 in
theorem cR_rowCount_ (l : Launch) {r : Nat} (M : zM) (hr : zrg r) : zMet l mR_rowCount rR_rowCount [.ref r] M (zqi (fun x M' => x = zI M r 2 ∧ M' = M)) := by
  refine za_enter (by decide) (Nat.le_of_ble_eq_true rfl) (fun X hc => ?_)
  have hro := hr.o
  have hrz := hr.z
  have hrn := hr.n
  refine za_aload_n hc dR_rowCount_0 rfl ?_
  refine za_getI hc gfR_18 (by assumption) dR_rowCount_1 ?_
  exact za_iret hc rfl dR_rowCount_4 ⟨Nat.zero_le _, Nat.zero_le _⟩ (⟨_, rfl, rfl, rfl⟩)

set_option maxRecDepth 100000 in
set_option maxHeartbeats 4000000 in
theorem cR_memberCount_ (l : Launch) {r j : Nat} (M : zM) (hr : zrg r) (hj : j < 12) : zMet l mR_memberCount rR_memberCount [.ref r, .int (nI j)] M (zqi (fun x M' => x = zI M (r + 1) j ∧ M' = M)) := by
  refine za_enter (by decide) (Nat.le_of_ble_eq_true rfl) (fun X hc => ?_)
  have hro := hr.o
  have hrz := hr.z
  have hrn := hr.n
  refine za_aload_n hc dR_memberCount_0 rfl ?_
  refine za_getS hc gfR_11 (by assumption) dR_memberCount_1 ?_
  refine za_iload_n hc dR_memberCount_4 rfl ?_
  refine za_iald hc (by assumption) dR_memberCount_5 (vp_in_nI hj (by decide)) ?_
  exact za_iret hc rfl dR_memberCount_6 ⟨Nat.zero_le _, Nat.zero_le _⟩ (⟨_, rfl, by rw [nI_clamp (by omega)], rfl⟩)

theorem zix0 (j i : Nat) : nI j * 48 + nI i * 4 = nI (48 * j + 4 * i) := by
  rw [show (48 : Int32) = nI 48 from rfl, show (4 : Int32) = nI 4 from rfl, pk_mul, pk_mul, nI_add, Nat.mul_comm j, Nat.mul_comm i]
theorem zix (j i e : Nat) {x : Int32} (h : x = nI e) : nI j * 48 + nI i * 4 + x = nI (48 * j + 4 * i + e) := by rw [zix0, h, nI_add]

set_option maxRecDepth 100000 in
set_option maxHeartbeats 4000000 in
theorem cR_x_ (l : Launch) {r j i : Nat} (M : zM) (hr : zrg r) (hj : j < 12) (hi : i < 12) : zMet l mR_x rR_x [.ref r, .int (nI j), .int (nI i)] M (zqi (fun x M' => x = zI M (r + 2) (48 * j + 4 * i) ∧ M' = M)) := by
  refine za_enter (by decide) (Nat.le_of_ble_eq_true rfl) (fun X hc => ?_)
  have hro := hr.o
  have hrz := hr.z
  have hrn := hr.n
  refine za_aload_n hc dR_x_0 rfl ?_
  refine za_getS hc gfR_15 (by assumption) dR_x_1 ?_
  refine za_iload_n hc dR_x_4 rfl ?_
  refine za_bipush hc 48 dR_x_5 rfl ?_
  refine za_imul hc dR_x_7 ?_
  refine za_iload_n hc dR_x_8 rfl ?_
  refine za_iconst hc 4 dR_x_9 rfl ?_
  refine za_imul hc dR_x_10 ?_
  refine za_iadd hc dR_x_11 ?_
  refine za_iald hc (by assumption) dR_x_12 (by rw [zix0 j i]; exact vp_in_nI (show 48 * j + 4 * i < 576 by omega) (by decide)) ?_
  exact za_iret hc rfl dR_x_13 ⟨Nat.zero_le _, Nat.zero_le _⟩ (⟨_, rfl, by rw [zix0 j i, nI_clamp (by omega)], rfl⟩)

set_option maxRecDepth 100000 in
set_option maxHeartbeats 4000000 in
theorem cR_y_ (l : Launch) {r j i : Nat} (M : zM) (hr : zrg r) (hj : j < 12) (hi : i < 12) : zMet l mR_y rR_y [.ref r, .int (nI j), .int (nI i)] M (zqi (fun x M' => x = zI M (r + 2) (48 * j + 4 * i + 1) ∧ M' = M)) := by
  refine za_enter (by decide) (Nat.le_of_ble_eq_true rfl) (fun X hc => ?_)
  have hro := hr.o
  have hrz := hr.z
  have hrn := hr.n
  refine za_aload_n hc dR_y_0 rfl ?_
  refine za_getS hc gfR_15 (by assumption) dR_y_1 ?_
  refine za_iload_n hc dR_y_4 rfl ?_
  refine za_bipush hc 48 dR_y_5 rfl ?_
  refine za_imul hc dR_y_7 ?_
  refine za_iload_n hc dR_y_8 rfl ?_
  refine za_iconst hc 4 dR_y_9 rfl ?_
  refine za_imul hc dR_y_10 ?_
  refine za_iadd hc dR_y_11 ?_
  refine za_iconst hc 1 dR_y_12 rfl ?_
  refine za_iadd hc dR_y_13 ?_
  refine za_iald hc (by assumption) dR_y_14 (by rw [zix j i 1 (x := 1) rfl]; exact vp_in_nI (show 48 * j + 4 * i + 1 < 576 by omega) (by decide)) ?_
  exact za_iret hc rfl dR_y_15 ⟨Nat.zero_le _, Nat.zero_le _⟩ (⟨_, rfl, by rw [zix j i 1 (x := 1) rfl, nI_clamp (by omega)], rfl⟩)

set_option maxRecDepth 100000 in
set_option maxHeartbeats 4000000 in
theorem cR_bound_ (l : Launch) {r j i : Nat} (M : zM) (hr : zrg r) (hj : j < 12) (hi : i < 12) : zMet l mR_bound rR_bound [.ref r, .int (nI j), .int (nI i)] M (zqi (fun x M' => x = zI M (r + 2) (48 * j + 4 * i + 2) ∧ M' = M)) := by
  refine za_enter (by decide) (Nat.le_of_ble_eq_true rfl) (fun X hc => ?_)
  have hro := hr.o
  have hrz := hr.z
  have hrn := hr.n
  refine za_aload_n hc dR_bound_0 rfl ?_
  refine za_getS hc gfR_15 (by assumption) dR_bound_1 ?_
  refine za_iload_n hc dR_bound_4 rfl ?_
  refine za_bipush hc 48 dR_bound_5 rfl ?_
  refine za_imul hc dR_bound_7 ?_
  refine za_iload_n hc dR_bound_8 rfl ?_
  refine za_iconst hc 4 dR_bound_9 rfl ?_
  refine za_imul hc dR_bound_10 ?_
  refine za_iadd hc dR_bound_11 ?_
  refine za_iconst hc 2 dR_bound_12 rfl ?_
  refine za_iadd hc dR_bound_13 ?_
  refine za_iald hc (by assumption) dR_bound_14 (by rw [zix j i 2 (x := 2) rfl]; exact vp_in_nI (show 48 * j + 4 * i + 2 < 576 by omega) (by decide)) ?_
  exact za_iret hc rfl dR_bound_15 ⟨Nat.zero_le _, Nat.zero_le _⟩ (⟨_, rfl, by rw [zix j i 2 (x := 2) rfl, nI_clamp (by omega)], rfl⟩)

set_option maxRecDepth 100000 in
set_option maxHeartbeats 4000000 in
theorem cR_isStrict_ (l : Launch) {r j i : Nat} (M : zM) (hr : zrg r) (hj : j < 12) (hi : i < 12) : zMet l mR_isStrict rR_isStrict [.ref r, .int (nI j), .int (nI i)] M (zqi (fun x M' => x = (if zI M (r + 2) (48 * j + 4 * i + 3) = 1 then 1 else 0) ∧ M' = M)) := by
  refine za_enter (by decide) (Nat.le_of_ble_eq_true rfl) (fun X hc => ?_)
  have hro := hr.o
  have hrz := hr.z
  have hrn := hr.n
  refine za_aload_n hc dR_isStrict_0 rfl ?_
  refine za_getS hc gfR_15 (by assumption) dR_isStrict_1 ?_
  refine za_iload_n hc dR_isStrict_4 rfl ?_
  refine za_bipush hc 48 dR_isStrict_5 rfl ?_
  refine za_imul hc dR_isStrict_7 ?_
  refine za_iload_n hc dR_isStrict_8 rfl ?_
  refine za_iconst hc 4 dR_isStrict_9 rfl ?_
  refine za_imul hc dR_isStrict_10 ?_
  refine za_iadd hc dR_isStrict_11 ?_
  refine za_iconst hc 3 dR_isStrict_12 rfl ?_
  refine za_iadd hc dR_isStrict_13 ?_
  refine za_iald hc (by assumption) dR_isStrict_14 (by rw [zix j i 3 (x := 3) rfl]; exact vp_in_nI (show 48 * j + 4 * i + 3 < 576 by omega) (by decide)) ?_
  refine za_iconst hc 1 dR_isStrict_15 rfl ?_
  refine za_icmp_ne 23 hc dR_isStrict_16 rfl (fun h_16 => ?_) (fun h_16 => ?_)
  · skip
    rw [zix j i 3 (x := 3) rfl, nI_clamp (by omega)] at h_16
    refine za_iconst hc 0 dR_isStrict_23 rfl ?_
    exact za_zret hc rfl (rfl) dR_isStrict_24 ⟨Nat.zero_le _, Nat.zero_le _⟩ (⟨_, rfl, by first | rw [if_neg h_16] | rw [if_pos h_16], rfl⟩)
  · skip
    rw [zix j i 3 (x := 3) rfl, nI_clamp (by omega)] at h_16
    refine za_iconst hc 1 dR_isStrict_19 rfl ?_
    refine za_goto 24 hc dR_isStrict_20 rfl ?_
    exact za_zret hc rfl (rfl) dR_isStrict_24 ⟨Nat.zero_le _, Nat.zero_le _⟩ (⟨_, rfl, by first | rw [if_neg h_16] | rw [if_pos h_16], rfl⟩)
