/-! A draft holds a list of members. -/
def dH (M : zM) (d : Nat) (ls : List gC) : Prop := zI M d 5 = nI ls.length ∧ ls.length ≤ 36 ∧ (∀ j q, ls[j]? = some q → dg M d j = q) ∧ zbo M d
def dB (d : Nat) : Nat → Prop := fun k => d ≤ k ∧ k ≤ d + 4
def dF (d : Nat) : Nat → Prop := fun k => d ≤ k ∧ k ≤ d + 8
theorem dA_B {d k : Nat} (h : dA d k) : dB d k := ⟨by have := h.1; omega, h.2⟩
theorem dB_F {d k : Nat} (h : dB d k) : dF d k := ⟨h.1, by have := h.2; omega⟩
theorem dH_clear {M : zM} {d : Nat} (h : zbo M d) : dH (zsI M d 5 0) d [] := ⟨by rw [zI_s, if_pos rfl]; rfl, by decide, fun j q h => by simp at h, fun j => by rw [zI_o (by omega)]; exact h j⟩
theorem dH_get {M : zM} {d : Nat} {ls : List gC} (h : dH M d ls) {j : Nat} (hj : j < ls.length) : dg M d j = ls[j] := h.2.2.1 j _ (List.getElem?_eq_getElem hj)
theorem dH_kept {P : Nat → Prop} {M M' : zM} {d : Nat} {ls : List gC} (h : dH M d ls) (hf : zfr P M M') (h0 : ¬ P d) (h1 : ¬ P (d + 1)) (h2 : ¬ P (d + 2)) (h3 : ¬ P (d + 3)) (h4 : ¬ P (d + 4)) : dH M' d ls := ⟨by rw [(hf _ h0).1]; exact h.1, h.2.1, fun j q hq => by rw [zfr_dg hf h1 h2 h3 h4]; exact h.2.2.1 j q hq, zfr_bo hf h4 h.2.2.2⟩
theorem nI_of0 (n : Nat) : nI n + 0 = nI n := by rw [show (0 : Int32) = nI 0 from rfl, nI_add]; rfl

set_option maxRecDepth 100000 in
set_option maxHeartbeats 4000000 in
theorem cD_remove_ (l : Launch) {d t : Nat} {ls : List gC} (M : zM) (hd : zdr d) (hH : dH M d ls) (ht : t < ls.length) : zMet l mD_remove rD_remove [.ref d, .int (nI t)] M (zqv (fun M' => dH M' d (ls.eraseIdx t) ∧ zfr (dB d) M M')) := by
  refine za_enter (by decide) (Nat.le_of_ble_eq_true rfl) (fun X hc => ?_)
  have hdo := hd.o
  have hda := hd.a
  have hdb := hd.b
  have hdc := hd.c
  have hds := hd.s
  have hpo := hd.p.o
  have hl := hH.2.1
  have loop : ∀ n i (M1 : zM), n + i = ls.length - 1 → t ≤ i → zI M1 d 5 = nI (ls.length - 1) → (∀ j, dg M1 d j = if t ≤ j ∧ j < i then dg M d (j + 1) else dg M d j) → zbo M1 d → zfr (dB d) M M1 → zW X (zqv (fun M' => dH M' d (ls.eraseIdx t) ∧ zfr (dB d) M M')) (0, 0) 12 [(0, .ref d), (1, .int (nI t)), (2, .int (nI i))] [] M1 := by
    intro n
    induction n with
    | zero =>
      intro i M1 hn hti hz1 hdg1 hb1 hf1
      refine za_iload_n hc dD_remove_12 rfl ?_
      refine za_aload_n hc dD_remove_13 rfl ?_
      refine za_getI hc gfD_32 (by assumption) dD_remove_14 ?_
      refine za_icmp_ge 34 hc dD_remove_17 rfl (fun h_17 => ?_) (fun h_17 => ?_)
      · skip
        rw [hz1] at h_17
        have hle : ls.length - 1 ≤ i := (nI_leI (by omega) (by omega)).mp h_17
        refine za_vret hc rfl dD_remove_34 ⟨Nat.zero_le _, Nat.zero_le _⟩ ⟨rfl, ⟨?_, ?_, ?_, hb1⟩, hf1⟩
        · rw [hz1, List.length_eraseIdx_of_lt ht]
        · rw [List.length_eraseIdx_of_lt ht]; omega
        · intro j q hq
          rw [List.getElem?_eraseIdx] at hq
          rw [hdg1]
          have hj : j < ls.length - 1 := by
            have := (List.getElem?_eq_some_iff.mp (by rw [List.getElem?_eraseIdx]; exact hq : (ls.eraseIdx t)[j]? = some q)).1
            rw [List.length_eraseIdx_of_lt ht] at this; exact this
          by_cases hjt : j < t
          · rw [if_pos hjt] at hq; rw [if_neg (by omega)]; exact hH.2.2.1 j q hq
          · rw [if_neg hjt] at hq; rw [if_pos ⟨by omega, by omega⟩]; exact hH.2.2.1 (j + 1) q hq
      · skip
        rw [hz1] at h_17
        exact absurd ((nI_leI (by omega) (by omega)).mpr (show ls.length - 1 ≤ i by omega)) h_17
    | succ n ih =>
      intro i M1 hn hti hz1 hdg1 hb1 hf1
      refine za_iload_n hc dD_remove_12 rfl ?_
      refine za_aload_n hc dD_remove_13 rfl ?_
      refine za_getI hc gfD_32 (by assumption) dD_remove_14 ?_
      refine za_icmp_ge 34 hc dD_remove_17 rfl (fun h_17 => ?_) (fun h_17 => ?_)
      · skip
        rw [hz1] at h_17
        have hle : ls.length - 1 ≤ i := (nI_leI (by omega) (by omega)).mp h_17
        refine za_vret hc rfl dD_remove_34 ⟨Nat.zero_le _, Nat.zero_le _⟩ ⟨rfl, ⟨?_, ?_, ?_, hb1⟩, hf1⟩
        · rw [hz1, List.length_eraseIdx_of_lt ht]
        · rw [List.length_eraseIdx_of_lt ht]; omega
        · intro j q hq
          rw [List.getElem?_eraseIdx] at hq
          rw [hdg1]
          have hj : j < ls.length - 1 := by
            have := (List.getElem?_eq_some_iff.mp (by rw [List.getElem?_eraseIdx]; exact hq : (ls.eraseIdx t)[j]? = some q)).1
            rw [List.length_eraseIdx_of_lt ht] at this; exact this
          by_cases hjt : j < t
          · rw [if_pos hjt] at hq; rw [if_neg (by omega)]; exact hH.2.2.1 j q hq
          · rw [if_neg hjt] at hq; rw [if_pos ⟨by omega, by omega⟩]; exact hH.2.2.1 (j + 1) q hq
      · skip
        rw [hz1] at h_17
        have hlt : i < ls.length - 1 := Nat.not_le.mp (fun z => h_17 ((nI_leI (by omega) (by omega)).mpr z))
        refine za_aload_n hc dD_remove_20 rfl ?_
        refine za_iload_n hc dD_remove_21 rfl ?_
        refine za_iconst hc 1 dD_remove_22 rfl ?_
        refine za_iadd hc dD_remove_23 ?_
        rw [show nI i + (1 : Int32) = nI (i + 1) from (nI_succ i).symm]
        refine za_iload_n hc dD_remove_24 rfl ?_
        refine za_cV2v hc gsD_48 (by assumption) (cD_move_ l M1 hd (show i + 1 < 36 by omega) (show i < 36 by omega) hb1) ⟨rfl, rfl⟩ ⟨Nat.le_of_ble_eq_true rfl, Nat.le_of_ble_eq_true rfl⟩ ⟨Nat.zero_le _, Nat.zero_le _⟩ dD_remove_25 (fun M_25 h_25 => ?_)
        obtain ⟨g1, g2, g3⟩ := h_25
        refine za_iinc hc _ dD_remove_28 rfl ((nI_succ i).symm) (by decide) ?_
        refine za_goto 12 hc dD_remove_31 rfl ?_
        refine ih (i + 1) M_25 (by omega) (by omega) ?_ ?_ g2 (hf1.tr (g3.wk (fun k => dA_B)))
        · rw [(g3 d (fun z => by have := z.1; omega)).1]; exact hz1
        · intro j
          rw [g1, hdg1, hdg1]
          by_cases hj : j = i
          · rw [if_pos hj, if_neg (by omega), if_pos ⟨by omega, by omega⟩, hj]
          · rw [if_neg hj]
            by_cases h2 : t ≤ j ∧ j < i
            · rw [if_pos h2, if_pos ⟨h2.1, by omega⟩]
            · rw [if_neg h2, if_neg (by omega)]
  refine za_aload_n hc dD_remove_0 rfl ?_
  refine za_dup hc dD_remove_1 rfl ?_
  refine za_getI hc gfD_32 (by assumption) dD_remove_2 ?_
  refine za_iconst hc 1 dD_remove_5 rfl ?_
  refine za_isub hc dD_remove_6 ?_
  rw [hH.1, show nI ls.length - (1 : Int32) = nI (ls.length - 1) from pk_sub (a := ls.length) (b := 1) (by omega)]
  refine za_putI hc gpD_32 (by assumption) dD_remove_7 ?_
  refine za_iload_n hc dD_remove_10 rfl ?_
  refine za_istore_n hc dD_remove_11 (by decide) ?_
  refine loop (ls.length - 1 - t) t _ (by omega) (Nat.le_refl _) (by rw [zI_s, if_pos rfl]) (fun j => ?_) (fun j => ?_) (zfr_sI ⟨Nat.le_refl _, by omega⟩)
  · rw [if_neg (by omega), zfr_dg (zfr_sI (P := fun k => k = d) (j := 5) rfl) (by omega) (by omega) (by omega) (by omega)]
  · rw [zI_o (by omega)]; exact hH.2.2.2 j
