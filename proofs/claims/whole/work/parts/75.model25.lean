/-! The model: value. -/

set_option maxRecDepth 100000 in
set_option maxHeartbeats 4000000 in
theorem cM_value_ (l : Launch) (M : zM) (pt : Int32) : zMet l mM_value rM_value [.ref 62, .int pt] M (zql (fun x M' => (pt < 0 ∨ 1 < pt → M' = zsI M 62 0 1) ∧ (¬ pt < 0 ∧ pt ≤ 1 → M' = zsI M 62 0 0 ∧ x = if zI M 62 28 = 0 then 0 else if pt = 0 then zJ M 62 26 else zJ M 62 27))) := by
  refine za_enter (by decide) (Nat.le_of_ble_eq_true rfl) (fun X hc => ?_)
  refine za_aload_n hc dM_value_0 rfl ?_
  refine za_iload_n hc dM_value_1 rfl ?_
  refine za_if_lt 10 hc dM_value_2 rfl (fun h_2 => ?_) (fun h_2 => ?_)
  · skip
    have hbad : ¬ (¬ pt < 0 ∧ pt ≤ 1) := fun w => w.1 h_2
    refine za_iconst hc 1 dM_value_10 rfl ?_
    refine za_goto 15 hc dM_value_11 rfl ?_
    refine za_putI hc gpM_66 zob_62 dM_value_15 ?_
    refine za_aload_n hc dM_value_18 rfl ?_
    refine za_getI hc gfM_66 zob_62 dM_value_19 ?_
    rw [zI_s, if_pos rfl]
    refine za_if_gt 32 hc dM_value_22 rfl (fun h_22 => ?_) (fun h_22 => ?_)
    · skip
      refine za_lconst hc 0 dM_value_32 rfl ?_
      exact za_lret hc rfl dM_value_33 ⟨Nat.zero_le _, Nat.zero_le _⟩ (⟨_, rfl, fun _ => rfl, fun z => absurd z hbad⟩)
    · skip
      exact absurd (by decide : (0 : Int32) < 1) h_22
  · skip
    refine za_iload_n hc dM_value_5 rfl ?_
    refine za_iconst hc 1 dM_value_6 rfl ?_
    refine za_icmp_le 14 hc dM_value_7 rfl (fun h_7 => ?_) (fun h_7 => ?_)
    · skip
      have hok : ¬ (pt < 0 ∨ 1 < pt) := fun w => w.elim h_2 (fun v => Int32.not_le.mpr v h_7)
      refine za_iconst hc 0 dM_value_14 rfl ?_
      refine za_putI hc gpM_66 zob_62 dM_value_15 ?_
      refine za_aload_n hc dM_value_18 rfl ?_
      refine za_getI hc gfM_66 zob_62 dM_value_19 ?_
      rw [zI_s, if_pos rfl]
      refine za_if_gt 32 hc dM_value_22 rfl (fun h_22 => ?_) (fun h_22 => ?_)
      · skip
        exact absurd h_22 (by decide)
      · skip
        refine za_aload_n hc dM_value_25 rfl ?_
        refine za_getI hc gfM_248 zob_62 dM_value_26 ?_
        rw [show zI (zsI M 62 0 0) 62 28 = zI M 62 28 from by rw [zI_s, if_neg (by decide)]]
        refine za_if_ne 34 hc dM_value_29 rfl (fun h_29 => ?_) (fun h_29 => ?_)
        · skip
          refine za_iload_n hc dM_value_34 rfl ?_
          refine za_if_ne 45 hc dM_value_35 rfl (fun h_35 => ?_) (fun h_35 => ?_)
          · skip
            refine za_aload_n hc dM_value_45 rfl ?_
            refine za_getJ hc gfM_261 zob_62 dM_value_46 ?_
            rw [zJ_sI]
            exact za_lret hc rfl dM_value_49 ⟨Nat.zero_le _, Nat.zero_le _⟩ (by first | exact ⟨_, rfl, fun z => absurd z hok, fun _ => ⟨rfl, by rw [if_neg h_29, if_neg h_35]⟩⟩ | exact ⟨_, rfl, fun z => absurd z hok, fun _ => ⟨rfl, by rw [if_neg h_29, if_pos h_35]⟩⟩)
          · skip
            refine za_aload_n hc dM_value_38 rfl ?_
            refine za_getJ hc gfM_258 zob_62 dM_value_39 ?_
            rw [zJ_sI]
            refine za_goto 49 hc dM_value_42 rfl ?_
            exact za_lret hc rfl dM_value_49 ⟨Nat.zero_le _, Nat.zero_le _⟩ (by first | exact ⟨_, rfl, fun z => absurd z hok, fun _ => ⟨rfl, by rw [if_neg h_29, if_neg h_35]⟩⟩ | exact ⟨_, rfl, fun z => absurd z hok, fun _ => ⟨rfl, by rw [if_neg h_29, if_pos h_35]⟩⟩)
        · skip
          refine za_lconst hc 0 dM_value_32 rfl ?_
          exact za_lret hc rfl dM_value_33 ⟨Nat.zero_le _, Nat.zero_le _⟩ (⟨_, rfl, fun z => absurd z hok, fun _ => ⟨rfl, by rw [if_pos h_29]⟩⟩)
    · skip
      have hbad : ¬ (¬ pt < 0 ∧ pt ≤ 1) := fun w => h_7 w.2
      refine za_iconst hc 1 dM_value_10 rfl ?_
      refine za_goto 15 hc dM_value_11 rfl ?_
      refine za_putI hc gpM_66 zob_62 dM_value_15 ?_
      refine za_aload_n hc dM_value_18 rfl ?_
      refine za_getI hc gfM_66 zob_62 dM_value_19 ?_
      rw [zI_s, if_pos rfl]
      refine za_if_gt 32 hc dM_value_22 rfl (fun h_22 => ?_) (fun h_22 => ?_)
      · skip
        refine za_lconst hc 0 dM_value_32 rfl ?_
        exact za_lret hc rfl dM_value_33 ⟨Nat.zero_le _, Nat.zero_le _⟩ (⟨_, rfl, fun _ => rfl, fun z => absurd z hbad⟩)
      · skip
        exact absurd (by decide : (0 : Int32) < 1) h_22
