/-! Small methods that write: drafts. -/
def zfr (P : Nat → Prop) (M M' : zM) : Prop := ∀ k, ¬ P k → zI M' k = zI M k ∧ zJ M' k = zJ M k ∧ zR M' k = zR M k
theorem zfr.rf {P : Nat → Prop} {M : zM} : zfr P M M := fun _ _ => ⟨rfl, rfl, rfl⟩
theorem zfr.tr {P : Nat → Prop} {M M' M'' : zM} (h : zfr P M M') (h' : zfr P M' M'') : zfr P M M'' := fun k hk => ⟨(h' k hk).1.trans (h k hk).1, (h' k hk).2.1.trans (h k hk).2.1, (h' k hk).2.2.trans (h k hk).2.2⟩
theorem zfr.wk {P P' : Nat → Prop} {M M' : zM} (h : zfr P M M') (hp : ∀ k, P k → P' k) : zfr P' M M' := fun k hk => h k (fun z => hk (hp k z))
theorem zfr_sI {P : Nat → Prop} {M : zM} {k j : Nat} {v : Int32} (h : P k) : zfr P M (zsI M k j v) := fun a ha => ⟨by funext b; rw [zI_sI, if_neg (fun e => ha (by rw [e]; exact h))], rfl, rfl⟩
theorem zfr_sJ {P : Nat → Prop} {M : zM} {k j : Nat} {v : Int64} (h : P k) : zfr P M (zsJ M k j v) := fun a ha => ⟨rfl, by funext b; rw [zJ_sJ, if_neg (fun e => ha (by rw [e]; exact h))], rfl⟩
theorem zfr_sR {P : Nat → Prop} {M : zM} {k j v : Nat} (h : P k) : zfr P M (zsR M k j v) := fun a ha => ⟨rfl, rfl, by funext b; rw [zR_sR, if_neg (fun e => ha (by rw [e]; exact h))]⟩
theorem zfr_rI {P : Nat → Prop} {M : zM} {k : Nat} {f : Nat → Int32} (h : P k) : zfr P M (zrI M k f) := fun a ha => ⟨by rw [zI_rI, if_neg (fun e => ha (by rw [e]; exact h))], rfl, rfl⟩
theorem zJ_o {M : zM} {a b t : Nat} {v : Int64} (h : ¬ b = a) : zJ (zsJ M a t v) b = zJ M b := by funext j; rw [zJ_sJ, if_neg h]
theorem zI_o {M : zM} {a b t : Nat} {v : Int32} (h : ¬ b = a) : zI (zsI M a t v) b = zI M b := by funext j; rw [zI_sI, if_neg h]
theorem zJ_s {M : zM} {a t j : Nat} {v : Int64} : zJ (zsJ M a t v) a j = if j = t then v else zJ M a j := by rw [zJ_sJ, if_pos rfl]
theorem zI_s {M : zM} {a t j : Nat} {v : Int32} : zI (zsI M a t v) a j = if j = t then v else zI M a j := by rw [zI_sI, if_pos rfl]
/-- member j of a draft; its flags are 0 or 1; its arrays -/
def dg (M : zM) (d j : Nat) : gC := ((zJ M (d + 1) j).toInt, (zJ M (d + 2) j).toInt, (zJ M (d + 3) j).toInt, zI M (d + 4) j == 1)
def zbo (M : zM) (d : Nat) : Prop := ∀ j, zI M (d + 4) j = 0 ∨ zI M (d + 4) j = 1
def dA (d : Nat) : Nat → Prop := fun k => d + 1 ≤ k ∧ k ≤ d + 4
def zput4 (M : zM) (d t : Nat) (a b c : Int64) (s : Int32) : zM := zsI (zsJ (zsJ (zsJ M (d + 1) t a) (d + 2) t b) (d + 3) t c) (d + 4) t s
theorem zput4_dg {M : zM} {d t j : Nat} {a b c : Int64} {s : Int32} : dg (zput4 M d t a b c s) d j = if j = t then (a.toInt, b.toInt, c.toInt, s == 1) else dg M d j := by
  unfold dg zput4
  rw [zJ_sI, zJ_o (by omega), zJ_o (by omega), zJ_s, zJ_o (by omega), zJ_s, zJ_o (by omega), zJ_s, zJ_o (by omega), zJ_o (by omega), zI_s, zI_sJ, zI_sJ, zI_sJ]
  by_cases h : j = t
  · simp only [if_pos h]
  · simp only [if_neg h]
theorem zput4_fr {M : zM} {d t : Nat} {a b c : Int64} {s : Int32} : zfr (dA d) M (zput4 M d t a b c s) :=
  (zfr_sJ ⟨Nat.le_refl _, by omega⟩).tr ((zfr_sJ ⟨by omega, by omega⟩).tr ((zfr_sJ ⟨by omega, by omega⟩).tr (zfr_sI ⟨by omega, by omega⟩)))
theorem zput4_bo {M : zM} {d t : Nat} {a b c : Int64} {s : Int32} (h : zbo M d) (hs : s = 0 ∨ s = 1) : zbo (zput4 M d t a b c s) d := by
  intro j
  unfold zput4
  rw [zI_s, zI_sJ, zI_sJ, zI_sJ]
  split
  · exact hs
  · exact h j
theorem zn01 {x : Int32} (h : x = 0 ∨ x = 1) : vp_nar .boolean x = x := by rcases h with h | h <;> rw [h] <;> decide
theorem zfr_dg {P : Nat → Prop} {M M' : zM} (h : zfr P M M') {d : Nat} (h1 : ¬ P (d + 1)) (h2 : ¬ P (d + 2)) (h3 : ¬ P (d + 3)) (h4 : ¬ P (d + 4)) : dg M' d = dg M d := by
  funext j
  unfold dg
  rw [(h _ h1).2.1, (h _ h2).2.1, (h _ h3).2.1, (h _ h4).1]
theorem zfr_bo {P : Nat → Prop} {M M' : zM} (h : zfr P M M') {d : Nat} (h4 : ¬ P (d + 4)) (hb : zbo M d) : zbo M' d := fun j => by rw [(h _ h4).1]; exact hb j

set_option maxRecDepth 100000 in
set_option maxHeartbeats 4000000 in
theorem cK_exceeds_ (l : Launch) (M : zM) (x y : Int64) (hy : -9223372036854775808 < y.toInt) : zMet l mK_exceeds rK_exceeds [.long x, .long y] M (zqi (fun r M' => r = (if x.toInt < -y.toInt ∨ y.toInt < x.toInt then 1 else 0) ∧ M' = M)) := by
  refine za_enter (by decide) (Nat.le_of_ble_eq_true rfl) (fun X hc => ?_)
  refine za_lload_n hc dK_exceeds_0 rfl ?_
  refine za_lload_n hc dK_exceeds_1 rfl ?_
  refine za_lneg hc dK_exceeds_2 ?_
  refine za_lcmp_lt 13 hc dK_exceeds_3 dK_exceeds_4 rfl (fun h_3 => ?_) (fun h_3 => ?_)
  · skip
    rw [Int64.lt_iff_toInt_lt, l_neg hy] at h_3
    refine za_iconst hc 1 dK_exceeds_13 rfl ?_
    refine za_goto 18 hc dK_exceeds_14 rfl ?_
    exact za_zret hc rfl (rfl) dK_exceeds_18 ⟨Nat.zero_le _, Nat.zero_le _⟩ (⟨_, rfl, by first | rw [if_pos (by omega)] | rw [if_neg (by omega)], rfl⟩)
  · skip
    rw [Int64.lt_iff_toInt_lt, l_neg hy] at h_3
    refine za_lload_n hc dK_exceeds_7 rfl ?_
    refine za_lload_n hc dK_exceeds_8 rfl ?_
    refine za_lcmp_le 17 hc dK_exceeds_9 dK_exceeds_10 rfl (fun h_9 => ?_) (fun h_9 => ?_)
    · skip
      rw [Int64.le_iff_toInt_le] at h_9
      refine za_iconst hc 0 dK_exceeds_17 rfl ?_
      exact za_zret hc rfl (rfl) dK_exceeds_18 ⟨Nat.zero_le _, Nat.zero_le _⟩ (⟨_, rfl, by first | rw [if_pos (by omega)] | rw [if_neg (by omega)], rfl⟩)
    · skip
      rw [Int64.le_iff_toInt_le] at h_9
      refine za_iconst hc 1 dK_exceeds_13 rfl ?_
      refine za_goto 18 hc dK_exceeds_14 rfl ?_
      exact za_zret hc rfl (rfl) dK_exceeds_18 ⟨Nat.zero_le _, Nat.zero_le _⟩ (⟨_, rfl, by first | rw [if_pos (by omega)] | rw [if_neg (by omega)], rfl⟩)

set_option maxRecDepth 100000 in
set_option maxHeartbeats 4000000 in
theorem cS_reset_ (l : Launch) {p : Nat} (M : zM) (hp : zsp p) : zMet l mS_reset rS_reset [.ref p] M (zqv (fun M' => M' = zsJ (zsJ M (p + 2) 0 0) (p + 2) 1 0)) := by
  refine za_enter (by decide) (Nat.le_of_ble_eq_true rfl) (fun X hc => ?_)
  have h0 := hp.o
  have h1 := hp.t
  have h2 := hp.b
  have h3 := hp.s
  refine za_aload_n hc dS_reset_0 rfl ?_
  refine za_getS hc gfS_13 (by assumption) dS_reset_1 ?_
  refine za_iconst hc 0 dS_reset_4 rfl ?_
  refine za_lconst hc 0 dS_reset_5 rfl ?_
  refine za_last hc (by assumption) dS_reset_6 (by unfold vp_in; decide) ?_
  refine za_aload_n hc dS_reset_7 rfl ?_
  refine za_getS hc gfS_13 (by assumption) dS_reset_8 ?_
  refine za_iconst hc 1 dS_reset_11 rfl ?_
  refine za_lconst hc 0 dS_reset_12 rfl ?_
  refine za_last hc (by assumption) dS_reset_13 (by unfold vp_in; decide) ?_
  exact za_vret hc rfl dS_reset_14 ⟨Nat.zero_le _, Nat.zero_le _⟩ (⟨rfl, rfl⟩)

set_option maxRecDepth 100000 in
set_option maxHeartbeats 4000000 in
theorem cD_move0 (l : Launch) {d f t : Nat} (M : zM) (hd : zdr d) (hf : f < 36) (ht : t < 36) (hb : zbo M d) : zMet l mD_move rD_move [.ref d, .int (nI f), .int (nI t)] M (zqv (fun M' => M' = zput4 M d t (zJ M (d + 1) f) (zJ M (d + 2) f) (zJ M (d + 3) f) (zI M (d + 4) f))) := by
  refine za_enter (by decide) (Nat.le_of_ble_eq_true rfl) (fun X hc => ?_)
  have hdo := hd.o
  have hda := hd.a
  have hdb := hd.b
  have hdc := hd.c
  have hds := hd.s
  have hpo := hd.p.o
  refine za_aload_n hc dD_move_0 rfl ?_
  refine za_getS hc gfD_11 (by assumption) dD_move_1 ?_
  refine za_iload_n hc dD_move_4 rfl ?_
  refine za_aload_n hc dD_move_5 rfl ?_
  refine za_getS hc gfD_11 (by assumption) dD_move_6 ?_
  refine za_iload_n hc dD_move_9 rfl ?_
  refine za_lald hc (by assumption) dD_move_10 (vp_in_nI hf (by decide)) ?_
  refine za_last hc (by assumption) dD_move_11 (vp_in_nI ht (by decide)) ?_
  refine za_aload_n hc dD_move_12 rfl ?_
  refine za_getS hc gfD_15 (by assumption) dD_move_13 ?_
  refine za_iload_n hc dD_move_16 rfl ?_
  refine za_aload_n hc dD_move_17 rfl ?_
  refine za_getS hc gfD_15 (by assumption) dD_move_18 ?_
  refine za_iload_n hc dD_move_21 rfl ?_
  refine za_lald hc (by assumption) dD_move_22 (vp_in_nI hf (by decide)) ?_
  refine za_last hc (by assumption) dD_move_23 (vp_in_nI ht (by decide)) ?_
  refine za_aload_n hc dD_move_24 rfl ?_
  refine za_getS hc gfD_18 (by assumption) dD_move_25 ?_
  refine za_iload_n hc dD_move_28 rfl ?_
  refine za_aload_n hc dD_move_29 rfl ?_
  refine za_getS hc gfD_18 (by assumption) dD_move_30 ?_
  refine za_iload_n hc dD_move_33 rfl ?_
  refine za_lald hc (by assumption) dD_move_34 (vp_in_nI hf (by decide)) ?_
  refine za_last hc (by assumption) dD_move_35 (vp_in_nI ht (by decide)) ?_
  refine za_aload_n hc dD_move_36 rfl ?_
  refine za_getS hc gfD_21 (by assumption) dD_move_37 ?_
  refine za_iload_n hc dD_move_40 rfl ?_
  refine za_aload_n hc dD_move_41 rfl ?_
  refine za_getS hc gfD_21 (by assumption) dD_move_42 ?_
  refine za_iload_n hc dD_move_45 rfl ?_
  refine za_zald hc (by assumption) dD_move_46 (vp_in_nI hf (by decide)) ?_
  refine za_zast hc (by assumption) dD_move_47 (vp_in_nI ht (by decide)) ?_
  exact za_vret hc rfl dD_move_48 ⟨Nat.zero_le _, Nat.zero_le _⟩ (⟨rfl, by rw [nI_clamp (show f < 2 ^ 31 by omega), nI_clamp (show t < 2 ^ 31 by omega), zJ_o (show ¬ d + 2 = d + 1 by omega), zJ_o (show ¬ d + 3 = d + 2 by omega), zJ_o (show ¬ d + 3 = d + 1 by omega), zI_sJ, zI_sJ, zI_sJ, zn01 (hb f)]; rfl⟩)

theorem cD_move_ (l : Launch) {d f t : Nat} (M : zM) (hd : zdr d) (hf : f < 36) (ht : t < 36) (hb : zbo M d) : zMet l mD_move rD_move [.ref d, .int (nI f), .int (nI t)] M (zqv (fun M' => (∀ j, dg M' d j = if j = t then dg M d f else dg M d j) ∧ zbo M' d ∧ zfr (dA d) M M')) :=
  zMet_mono (fun r M' h => by
    obtain ⟨h0, rfl⟩ := h
    exact ⟨h0, fun j => zput4_dg, zput4_bo hb (hb f), zput4_fr⟩) (cD_move0 l M hd hf ht hb)

set_option maxRecDepth 100000 in
set_option maxHeartbeats 4000000 in
theorem cD_flip0 (l : Launch) {d j : Nat} (M : zM) (hd : zdr d) (hj : j < 36) (hb : zbo M d) : zMet l mD_flip rD_flip [.ref d, .int (nI j)] M (zqv (fun M' => M' = zput4 M d j (-zJ M (d + 1) j) (-zJ M (d + 2) j) (-zJ M (d + 3) j) (if zI M (d + 4) j = 0 then 1 else 0))) := by
  refine za_enter (by decide) (Nat.le_of_ble_eq_true rfl) (fun X hc => ?_)
  have hdo := hd.o
  have hda := hd.a
  have hdb := hd.b
  have hdc := hd.c
  have hds := hd.s
  have hpo := hd.p.o
  refine za_aload_n hc dD_flip_0 rfl ?_
  refine za_getS hc gfD_11 (by assumption) dD_flip_1 ?_
  refine za_iload_n hc dD_flip_4 rfl ?_
  refine za_aload_n hc dD_flip_5 rfl ?_
  refine za_getS hc gfD_11 (by assumption) dD_flip_6 ?_
  refine za_iload_n hc dD_flip_9 rfl ?_
  refine za_lald hc (by assumption) dD_flip_10 (vp_in_nI hj (by decide)) ?_
  refine za_lneg hc dD_flip_11 ?_
  refine za_last hc (by assumption) dD_flip_12 (vp_in_nI hj (by decide)) ?_
  refine za_aload_n hc dD_flip_13 rfl ?_
  refine za_getS hc gfD_15 (by assumption) dD_flip_14 ?_
  refine za_iload_n hc dD_flip_17 rfl ?_
  refine za_aload_n hc dD_flip_18 rfl ?_
  refine za_getS hc gfD_15 (by assumption) dD_flip_19 ?_
  refine za_iload_n hc dD_flip_22 rfl ?_
  refine za_lald hc (by assumption) dD_flip_23 (vp_in_nI hj (by decide)) ?_
  refine za_lneg hc dD_flip_24 ?_
  refine za_last hc (by assumption) dD_flip_25 (vp_in_nI hj (by decide)) ?_
  refine za_aload_n hc dD_flip_26 rfl ?_
  refine za_getS hc gfD_18 (by assumption) dD_flip_27 ?_
  refine za_iload_n hc dD_flip_30 rfl ?_
  refine za_aload_n hc dD_flip_31 rfl ?_
  refine za_getS hc gfD_18 (by assumption) dD_flip_32 ?_
  refine za_iload_n hc dD_flip_35 rfl ?_
  refine za_lald hc (by assumption) dD_flip_36 (vp_in_nI hj (by decide)) ?_
  refine za_lneg hc dD_flip_37 ?_
  refine za_last hc (by assumption) dD_flip_38 (vp_in_nI hj (by decide)) ?_
  refine za_aload_n hc dD_flip_39 rfl ?_
  refine za_getS hc gfD_21 (by assumption) dD_flip_40 ?_
  refine za_iload_n hc dD_flip_43 rfl ?_
  refine za_aload_n hc dD_flip_44 rfl ?_
  refine za_getS hc gfD_21 (by assumption) dD_flip_45 ?_
  refine za_iload_n hc dD_flip_48 rfl ?_
  refine za_zald hc (by assumption) dD_flip_49 (vp_in_nI hj (by decide)) ?_
  refine za_if_ne 57 hc dD_flip_50 rfl (fun h_50 => ?_) (fun h_50 => ?_)
  · skip
    rw [nI_clamp (by omega), zI_sJ, zI_sJ, zI_sJ] at h_50
    refine za_iconst hc 0 dD_flip_57 rfl ?_
    refine za_zast hc (by assumption) dD_flip_58 (vp_in_nI hj (by decide)) ?_
    exact za_vret hc rfl dD_flip_59 ⟨Nat.zero_le _, Nat.zero_le _⟩ (⟨rfl, by first | rw [if_neg h_50, nI_clamp (show j < 2 ^ 31 by omega), zJ_o (show ¬ d + 2 = d + 1 by omega), zJ_o (show ¬ d + 3 = d + 2 by omega), zJ_o (show ¬ d + 3 = d + 1 by omega)]; rfl | rw [if_pos h_50, nI_clamp (show j < 2 ^ 31 by omega), zJ_o (show ¬ d + 2 = d + 1 by omega), zJ_o (show ¬ d + 3 = d + 2 by omega), zJ_o (show ¬ d + 3 = d + 1 by omega)]; rfl⟩)
  · skip
    rw [nI_clamp (by omega), zI_sJ, zI_sJ, zI_sJ] at h_50
    refine za_iconst hc 1 dD_flip_53 rfl ?_
    refine za_goto 58 hc dD_flip_54 rfl ?_
    refine za_zast hc (by assumption) dD_flip_58 (vp_in_nI hj (by decide)) ?_
    exact za_vret hc rfl dD_flip_59 ⟨Nat.zero_le _, Nat.zero_le _⟩ (⟨rfl, by first | rw [if_neg h_50, nI_clamp (show j < 2 ^ 31 by omega), zJ_o (show ¬ d + 2 = d + 1 by omega), zJ_o (show ¬ d + 3 = d + 2 by omega), zJ_o (show ¬ d + 3 = d + 1 by omega)]; rfl | rw [if_pos h_50, nI_clamp (show j < 2 ^ 31 by omega), zJ_o (show ¬ d + 2 = d + 1 by omega), zJ_o (show ¬ d + 3 = d + 2 by omega), zJ_o (show ¬ d + 3 = d + 1 by omega)]; rfl⟩)

def gflip (q : gC) : gC := (-q.1, -q.2.1, -q.2.2.1, !q.2.2.2)
theorem cD_flip_ (l : Launch) {d j : Nat} (M : zM) (hd : zdr d) (hj : j < 36) (hb : zbo M d) (h1 : -9223372036854775808 < (zJ M (d + 1) j).toInt) (h2 : -9223372036854775808 < (zJ M (d + 2) j).toInt) (h3 : -9223372036854775808 < (zJ M (d + 3) j).toInt) : zMet l mD_flip rD_flip [.ref d, .int (nI j)] M (zqv (fun M' => (∀ i, dg M' d i = if i = j then gflip (dg M d j) else dg M d i) ∧ zbo M' d ∧ zfr (dA d) M M')) :=
  zMet_mono (fun r M' h => by
    obtain ⟨h0, rfl⟩ := h
    refine ⟨h0, fun i => ?_, zput4_bo hb (by split <;> simp), zput4_fr⟩
    rw [zput4_dg]
    by_cases hi : i = j
    · rw [if_pos hi, if_pos hi, l_neg h1, l_neg h2, l_neg h3]
      unfold gflip dg
      rcases hb j with z | z <;> rw [z] <;> rfl
    · rw [if_neg hi, if_neg hi]) (cD_flip0 l M hd hj hb)

set_option maxRecDepth 100000 in
set_option maxHeartbeats 4000000 in
theorem cD_strengthen0 (l : Launch) {d j : Nat} (M : zM) (c : Int64) (s : Int32) (hd : zdr d) (hj : j < 36) (hb : zbo M d) (hs : s = 0 ∨ s = 1) : zMet l mD_strengthen rD_strengthen [.ref d, .int (nI j), .long c, .int s] M (zqv (fun M' => M' = if c.toInt < (zJ M (d + 3) j).toInt then zsI (zsJ M (d + 3) j c) (d + 4) j s else if c.toInt = (zJ M (d + 3) j).toInt ∧ s = 1 then zsI M (d + 4) j 1 else M)) := by
  refine za_enter (by decide) (Nat.le_of_ble_eq_true rfl) (fun X hc => ?_)
  have hdo := hd.o
  have hda := hd.a
  have hdb := hd.b
  have hdc := hd.c
  have hds := hd.s
  have hpo := hd.p.o
  refine za_lload_n hc dD_strengthen_0 rfl ?_
  refine za_aload_n hc dD_strengthen_1 rfl ?_
  refine za_getS hc gfD_18 (by assumption) dD_strengthen_2 ?_
  refine za_iload_n hc dD_strengthen_5 rfl ?_
  refine za_lald hc (by assumption) dD_strengthen_6 (vp_in_nI hj (by decide)) ?_
  refine za_lcmp_ge 29 hc dD_strengthen_7 dD_strengthen_8 rfl (fun h_7 => ?_) (fun h_7 => ?_)
  · skip
    rw [Int64.le_iff_toInt_le, nI_clamp (by omega)] at h_7
    refine za_lload_n hc dD_strengthen_29 rfl ?_
    refine za_aload_n hc dD_strengthen_30 rfl ?_
    refine za_getS hc gfD_18 (by assumption) dD_strengthen_31 ?_
    refine za_iload_n hc dD_strengthen_34 rfl ?_
    refine za_lald hc (by assumption) dD_strengthen_35 (vp_in_nI hj (by decide)) ?_
    refine za_lcmp_ne 52 hc dD_strengthen_36 dD_strengthen_37 rfl (fun h_36 => ?_) (fun h_36 => ?_)
    · skip
      rw [nI_clamp (by omega), ← Int64.toInt_inj] at h_36
      exact za_vret hc rfl dD_strengthen_52 ⟨Nat.zero_le _, Nat.zero_le _⟩ (⟨rfl, by first | rw [if_pos (by omega), nI_clamp (show j < 2 ^ 31 by omega), zn01 hs] | rw [if_neg (by omega), if_pos ⟨by omega, by rcases hs with h | h; exact absurd h h_42; exact h⟩, nI_clamp (show j < 2 ^ 31 by omega)]; rfl | rw [if_neg (by omega), if_neg (fun z => by first | exact h_36 z.1 | exact absurd (h_42.symm.trans z.2) (by decide))]⟩)
    · skip
      rw [nI_clamp (by omega), ← Int64.toInt_inj] at h_36
      refine za_iload hc dD_strengthen_40 rfl ?_
      refine za_if_eq 52 hc dD_strengthen_42 rfl (fun h_42 => ?_) (fun h_42 => ?_)
      · skip
        exact za_vret hc rfl dD_strengthen_52 ⟨Nat.zero_le _, Nat.zero_le _⟩ (⟨rfl, by first | rw [if_pos (by omega), nI_clamp (show j < 2 ^ 31 by omega), zn01 hs] | rw [if_neg (by omega), if_pos ⟨by omega, by rcases hs with h | h; exact absurd h h_42; exact h⟩, nI_clamp (show j < 2 ^ 31 by omega)]; rfl | rw [if_neg (by omega), if_neg (fun z => by first | exact h_36 z.1 | exact absurd (h_42.symm.trans z.2) (by decide))]⟩)
      · skip
        refine za_aload_n hc dD_strengthen_45 rfl ?_
        refine za_getS hc gfD_21 (by assumption) dD_strengthen_46 ?_
        refine za_iload_n hc dD_strengthen_49 rfl ?_
        refine za_iconst hc 1 dD_strengthen_50 rfl ?_
        refine za_zast hc (by assumption) dD_strengthen_51 (vp_in_nI hj (by decide)) ?_
        exact za_vret hc rfl dD_strengthen_52 ⟨Nat.zero_le _, Nat.zero_le _⟩ (⟨rfl, by first | rw [if_pos (by omega), nI_clamp (show j < 2 ^ 31 by omega), zn01 hs] | rw [if_neg (by omega), if_pos ⟨by omega, by rcases hs with h | h; exact absurd h h_42; exact h⟩, nI_clamp (show j < 2 ^ 31 by omega)]; rfl | rw [if_neg (by omega), if_neg (fun z => by first | exact h_36 z.1 | exact absurd (h_42.symm.trans z.2) (by decide))]⟩)
  · skip
    rw [Int64.le_iff_toInt_le, nI_clamp (by omega)] at h_7
    refine za_aload_n hc dD_strengthen_11 rfl ?_
    refine za_getS hc gfD_18 (by assumption) dD_strengthen_12 ?_
    refine za_iload_n hc dD_strengthen_15 rfl ?_
    refine za_lload_n hc dD_strengthen_16 rfl ?_
    refine za_last hc (by assumption) dD_strengthen_17 (vp_in_nI hj (by decide)) ?_
    refine za_aload_n hc dD_strengthen_18 rfl ?_
    refine za_getS hc gfD_21 (by assumption) dD_strengthen_19 ?_
    refine za_iload_n hc dD_strengthen_22 rfl ?_
    refine za_iload hc dD_strengthen_23 rfl ?_
    refine za_zast hc (by assumption) dD_strengthen_25 (vp_in_nI hj (by decide)) ?_
    refine za_goto 52 hc dD_strengthen_26 rfl ?_
    exact za_vret hc rfl dD_strengthen_52 ⟨Nat.zero_le _, Nat.zero_le _⟩ (⟨rfl, by first | rw [if_pos (by omega), nI_clamp (show j < 2 ^ 31 by omega), zn01 hs] | rw [if_neg (by omega), if_pos ⟨by omega, by rcases hs with h | h; exact absurd h h_42; exact h⟩, nI_clamp (show j < 2 ^ 31 by omega)]; rfl | rw [if_neg (by omega), if_neg (fun z => by first | exact h_36 z.1 | exact absurd (h_42.symm.trans z.2) (by decide))]⟩)
