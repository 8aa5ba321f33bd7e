/-! The law's own methods: each calls the class once, and numbers what is thrown. -/
def zcod (ks : List Nat) (e : Nat) : Int32 := nI (ks.findIdx (fun k => k == e) + 1)
section ZLC
variable {X : zC} {l : Launch} {md : zMd} {rm : Room} {F : State → Prop} {u : Nat × Nat} {pc : Nat} {L : List (Nat × Value)} {S : List Value} {M : zM}
theorem zl_out {x : Int64} (hc : zCy X l md rm) (hd : decode md.2.1 pc = .ok (.lastore, 1)) (kk : zF X F u (pc + 1) L S (zsJ M 81 0 x)) : zF X F u pc L (.long x :: .int (nI 0) :: .ref 81 :: S) M := zx_last hc ar_81 hd (vp_in_nI (by decide) (by decide)) (by rw [nI_clamp (by decide)]; exact kk)
/-- what a call that throws owes -/
abbrev zKX (X : zC) (F : State → Prop) (u : Nat × Nat) (pc : Nat) (L : List (Nat × Value)) (S : List Value) (QX : Nat → zM → Prop) : Prop := ∀ (ls : Array Slot), lv_has ls (zco X).maxLocals (zcl (zad X) L) → ∀ (n : Nat) (M' : zM) (q : Addr) (ce : Cell) (H1 : Heap) (locs1 : List Loc), QX n M' → va_P (zDD X) vwCl (zwd (zca X) (zad X) M') H1 → va_S (zA (zad X) (zs X).heap.size) (zs X).heap H1 locs1 → H1[q]? = some ce → ce.vm = .none → (zs X).vm.findClass (zEx n) = some ce.cls → vx_W (zp X) (zl X) (ze X) (zRo X) (zs X) (zm X) (zas X) (zbe X) (zme X) (zco X) H1 locs1 u.1 u.2 F (F0 (zm X) pc ls (S.map (zcv (zad X)))) q
theorem zl_cV0v {idx c6 s6 : Nat} {md' : zMd} {rm' : Room} {P : zM → Prop} {QX' : Nat → zM → Prop} (hc : zCy X l md rm) (hT : zThr (zA (zad X) (zs X).heap.size) (zs X)) (hs : zSV md.1.cls idx md' 0 5) (hM : zMetX l md' rm' [.ref 0] M (zqv P) QX') (hr : rm'.cells = c6 ∧ rm'.slots = s6) (hdd : rm'.frames + 1 ≤ rm.frames ∧ (S.map fun v => v.category).sum + (md'.2.2.1 + 11) + rm'.locals ≤ rm.locals) (hu : u.1 + c6 ≤ rm.cells ∧ u.2 + s6 ≤ rm.slots) (hd : decode md.2.1 pc = .ok (.invokevirtual idx, 3)) (kx : zKX X F (u.1 + c6, u.2 + s6) pc L S QX') (kk : ∀ M', P M' → zF X F (u.1 + c6, u.2 + s6) (pc + 3) L S M') : zF X F u pc L (.ref 0 :: S) M :=
  zx_callVT (As := []) hc hT hs.1 hs.2.1 zob_0 hs.2.2 hM hdd rfl (by rw [hr.1, hr.2]; exact hu) hd (by rw [hr.1, hr.2]; exact kx) (by rw [hr.1, hr.2]; exact (fun r M' h => by obtain ⟨rfl, h⟩ := h; exact kk M' h))
theorem zl_cV0i {idx c6 s6 : Nat} {md' : zMd} {rm' : Room} {P : Int32 → zM → Prop} {QX' : Nat → zM → Prop} (hc : zCy X l md rm) (hT : zThr (zA (zad X) (zs X).heap.size) (zs X)) (hs : zSV md.1.cls idx md' 0 5) (hM : zMetX l md' rm' [.ref 0] M (zqi P) QX') (hr : rm'.cells = c6 ∧ rm'.slots = s6) (hdd : rm'.frames + 1 ≤ rm.frames ∧ (S.map fun v => v.category).sum + (md'.2.2.1 + 11) + rm'.locals ≤ rm.locals) (hu : u.1 + c6 ≤ rm.cells ∧ u.2 + s6 ≤ rm.slots) (hd : decode md.2.1 pc = .ok (.invokevirtual idx, 3)) (kx : zKX X F (u.1 + c6, u.2 + s6) pc L S QX') (kk : ∀ x M', P x M' → zF X F (u.1 + c6, u.2 + s6) (pc + 3) L (.int x :: S) M') : zF X F u pc L (.ref 0 :: S) M :=
  zx_callVT (As := []) hc hT hs.1 hs.2.1 zob_0 hs.2.2 hM hdd rfl (by rw [hr.1, hr.2]; exact hu) hd (by rw [hr.1, hr.2]; exact kx) (by rw [hr.1, hr.2]; exact (fun r M' h => by obtain ⟨x, rfl, h⟩ := h; exact kk x M' h))
theorem zl_cV1v {idx c6 s6 : Nat} {a1 : Value} {md' : zMd} {rm' : Room} {P : zM → Prop} {QX' : Nat → zM → Prop} (hc : zCy X l md rm) (hT : zThr (zA (zad X) (zs X).heap.size) (zs X)) (hs : zSV md.1.cls idx md' 1 5) (hM : zMetX l md' rm' [.ref 0, a1] M (zqv P) QX') (hr : rm'.cells = c6 ∧ rm'.slots = s6) (hdd : rm'.frames + 1 ≤ rm.frames ∧ (S.map fun v => v.category).sum + (md'.2.2.1 + 11) + rm'.locals ≤ rm.locals) (hu : u.1 + c6 ≤ rm.cells ∧ u.2 + s6 ≤ rm.slots) (hd : decode md.2.1 pc = .ok (.invokevirtual idx, 3)) (kx : zKX X F (u.1 + c6, u.2 + s6) pc L S QX') (kk : ∀ M', P M' → zF X F (u.1 + c6, u.2 + s6) (pc + 3) L S M') : zF X F u pc L (a1 :: .ref 0 :: S) M :=
  zx_callVT (As := [a1]) hc hT hs.1 hs.2.1 zob_0 hs.2.2 hM hdd rfl (by rw [hr.1, hr.2]; exact hu) hd (by rw [hr.1, hr.2]; exact kx) (by rw [hr.1, hr.2]; exact (fun r M' h => by obtain ⟨rfl, h⟩ := h; exact kk M' h))
theorem zl_cV1i {idx c6 s6 : Nat} {a1 : Value} {md' : zMd} {rm' : Room} {P : Int32 → zM → Prop} {QX' : Nat → zM → Prop} (hc : zCy X l md rm) (hT : zThr (zA (zad X) (zs X).heap.size) (zs X)) (hs : zSV md.1.cls idx md' 1 5) (hM : zMetX l md' rm' [.ref 0, a1] M (zqi P) QX') (hr : rm'.cells = c6 ∧ rm'.slots = s6) (hdd : rm'.frames + 1 ≤ rm.frames ∧ (S.map fun v => v.category).sum + (md'.2.2.1 + 11) + rm'.locals ≤ rm.locals) (hu : u.1 + c6 ≤ rm.cells ∧ u.2 + s6 ≤ rm.slots) (hd : decode md.2.1 pc = .ok (.invokevirtual idx, 3)) (kx : zKX X F (u.1 + c6, u.2 + s6) pc L S QX') (kk : ∀ x M', P x M' → zF X F (u.1 + c6, u.2 + s6) (pc + 3) L (.int x :: S) M') : zF X F u pc L (a1 :: .ref 0 :: S) M :=
  zx_callVT (As := [a1]) hc hT hs.1 hs.2.1 zob_0 hs.2.2 hM hdd rfl (by rw [hr.1, hr.2]; exact hu) hd (by rw [hr.1, hr.2]; exact kx) (by rw [hr.1, hr.2]; exact (fun r M' h => by obtain ⟨x, rfl, h⟩ := h; exact kk x M' h))
theorem zl_cV1l {idx c6 s6 : Nat} {a1 : Value} {md' : zMd} {rm' : Room} {P : Int64 → zM → Prop} {QX' : Nat → zM → Prop} (hc : zCy X l md rm) (hT : zThr (zA (zad X) (zs X).heap.size) (zs X)) (hs : zSV md.1.cls idx md' 1 5) (hM : zMetX l md' rm' [.ref 0, a1] M (zql P) QX') (hr : rm'.cells = c6 ∧ rm'.slots = s6) (hdd : rm'.frames + 1 ≤ rm.frames ∧ (S.map fun v => v.category).sum + (md'.2.2.1 + 11) + rm'.locals ≤ rm.locals) (hu : u.1 + c6 ≤ rm.cells ∧ u.2 + s6 ≤ rm.slots) (hd : decode md.2.1 pc = .ok (.invokevirtual idx, 3)) (kx : zKX X F (u.1 + c6, u.2 + s6) pc L S QX') (kk : ∀ x M', P x M' → zF X F (u.1 + c6, u.2 + s6) (pc + 3) L (.long x :: S) M') : zF X F u pc L (a1 :: .ref 0 :: S) M :=
  zx_callVT (As := [a1]) hc hT hs.1 hs.2.1 zob_0 hs.2.2 hM hdd rfl (by rw [hr.1, hr.2]; exact hu) hd (by rw [hr.1, hr.2]; exact kx) (by rw [hr.1, hr.2]; exact (fun r M' h => by obtain ⟨x, rfl, h⟩ := h; exact kk x M' h))
theorem zl_cV2i {idx c6 s6 : Nat} {a1 a2 : Value} {md' : zMd} {rm' : Room} {P : Int32 → zM → Prop} {QX' : Nat → zM → Prop} (hc : zCy X l md rm) (hT : zThr (zA (zad X) (zs X).heap.size) (zs X)) (hs : zSV md.1.cls idx md' 2 5) (hM : zMetX l md' rm' [.ref 0, a1, a2] M (zqi P) QX') (hr : rm'.cells = c6 ∧ rm'.slots = s6) (hdd : rm'.frames + 1 ≤ rm.frames ∧ (S.map fun v => v.category).sum + (md'.2.2.1 + 11) + rm'.locals ≤ rm.locals) (hu : u.1 + c6 ≤ rm.cells ∧ u.2 + s6 ≤ rm.slots) (hd : decode md.2.1 pc = .ok (.invokevirtual idx, 3)) (kx : zKX X F (u.1 + c6, u.2 + s6) pc L S QX') (kk : ∀ x M', P x M' → zF X F (u.1 + c6, u.2 + s6) (pc + 3) L (.int x :: S) M') : zF X F u pc L (a2 :: a1 :: .ref 0 :: S) M :=
  zx_callVT (As := [a1, a2]) hc hT hs.1 hs.2.1 zob_0 hs.2.2 hM hdd rfl (by rw [hr.1, hr.2]; exact hu) hd (by rw [hr.1, hr.2]; exact kx) (by rw [hr.1, hr.2]; exact (fun r M' h => by obtain ⟨x, rfl, h⟩ := h; exact kk x M' h))
theorem zl_cV3i {idx c6 s6 : Nat} {a1 a2 a3 : Value} {md' : zMd} {rm' : Room} {P : Int32 → zM → Prop} {QX' : Nat → zM → Prop} (hc : zCy X l md rm) (hT : zThr (zA (zad X) (zs X).heap.size) (zs X)) (hs : zSV md.1.cls idx md' 3 5) (hM : zMetX l md' rm' [.ref 0, a1, a2, a3] M (zqi P) QX') (hr : rm'.cells = c6 ∧ rm'.slots = s6) (hdd : rm'.frames + 1 ≤ rm.frames ∧ (S.map fun v => v.category).sum + (md'.2.2.1 + 11) + rm'.locals ≤ rm.locals) (hu : u.1 + c6 ≤ rm.cells ∧ u.2 + s6 ≤ rm.slots) (hd : decode md.2.1 pc = .ok (.invokevirtual idx, 3)) (kx : zKX X F (u.1 + c6, u.2 + s6) pc L S QX') (kk : ∀ x M', P x M' → zF X F (u.1 + c6, u.2 + s6) (pc + 3) L (.int x :: S) M') : zF X F u pc L (a3 :: a2 :: a1 :: .ref 0 :: S) M :=
  zx_callVT (As := [a1, a2, a3]) hc hT hs.1 hs.2.1 zob_0 hs.2.2 hM hdd rfl (by rw [hr.1, hr.2]; exact hu) hd (by rw [hr.1, hr.2]; exact kx) (by rw [hr.1, hr.2]; exact (fun r M' h => by obtain ⟨x, rfl, h⟩ := h; exact kk x M' h))
theorem zl_cV4i {idx c6 s6 : Nat} {a1 a2 a3 a4 : Value} {md' : zMd} {rm' : Room} {P : Int32 → zM → Prop} {QX' : Nat → zM → Prop} (hc : zCy X l md rm) (hT : zThr (zA (zad X) (zs X).heap.size) (zs X)) (hs : zSV md.1.cls idx md' 4 5) (hM : zMetX l md' rm' [.ref 0, a1, a2, a3, a4] M (zqi P) QX') (hr : rm'.cells = c6 ∧ rm'.slots = s6) (hdd : rm'.frames + 1 ≤ rm.frames ∧ (S.map fun v => v.category).sum + (md'.2.2.1 + 11) + rm'.locals ≤ rm.locals) (hu : u.1 + c6 ≤ rm.cells ∧ u.2 + s6 ≤ rm.slots) (hd : decode md.2.1 pc = .ok (.invokevirtual idx, 3)) (kx : zKX X F (u.1 + c6, u.2 + s6) pc L S QX') (kk : ∀ x M', P x M' → zF X F (u.1 + c6, u.2 + s6) (pc + 3) L (.int x :: S) M') : zF X F u pc L (a4 :: a3 :: a2 :: a1 :: .ref 0 :: S) M :=
  zx_callVT (As := [a1, a2, a3, a4]) hc hT hs.1 hs.2.1 zob_0 hs.2.2 hM hdd rfl (by rw [hr.1, hr.2]; exact hu) hd (by rw [hr.1, hr.2]; exact kx) (by rw [hr.1, hr.2]; exact (fun r M' h => by obtain ⟨x, rfl, h⟩ := h; exact kk x M' h))
end ZLC
set_option maxRecDepth 100000 in
set_option maxHeartbeats 4000000 in
theorem cL_member_ (l : Launch) {P : Int32 → zM → Prop} {QX : Nat → zM → Prop} (M : zM) (a b c s : Int32) (hM : zMetX l mK_member rx_member [.ref 0, .int a, .int b, .int c, .int s] M (zqi P) QX) (hcod : ∀ e M', QX e M' → e = 0 ∨ e = 1) : zMetL l mL_member hL_member rL_member [.ref 0, .int a, .int b, .int c, .int s, .ref 81] M (zqi (fun x M' => (x = 0 ∧ ∃ r M1, P r M1 ∧ M' = zsJ M1 81 0 r.toInt64) ∨ ∃ e, QX e M' ∧ x = zcod [0, 1] e)) := by
  refine zl_enter (by decide) (Nat.le_of_ble_eq_true rfl) (fun X hc hT htb => ?_)
  refine zx_aload hc dL_member_0 rfl ?_
  refine zx_iconst hc (nI 0) dL_member_2 rfl ?_
  refine zx_aload_n hc dL_member_3 rfl ?_
  refine zx_iload_n hc dL_member_4 rfl ?_
  refine zx_iload_n hc dL_member_5 rfl ?_
  refine zx_iload_n hc dL_member_6 rfl ?_
  refine zx_iload hc dL_member_7 rfl ?_
  refine zl_cV4i (c6 := 3) (s6 := 18) hc hT gsL_7 hM ⟨rfl, rfl⟩ ⟨Nat.le_of_ble_eq_true rfl, Nat.le_of_ble_eq_true rfl⟩ ⟨Nat.le_of_ble_eq_true rfl, Nat.le_of_ble_eq_true rfl⟩ dL_member_9 (fun ls hl n M9 q ce H1 locs1 g1 g2 g3 g4 g5 g6 => ?_) (fun x_9 M_9 h_9 => ?_)
  · rcases hcod n M9 g1 with rfl | rfl
    · exact zl_catch (u := (3, 18)) [] ⟨0, 14, 17, 13⟩ [⟨0, 14, 21, 15⟩] hc hT htb rfl (fun z hz => by cases hz) (by decide) (by decide) clL_13 (by decide +kernel) g4 g5 g6 (zl_hand (u := (3, 18)) hc rfl dL_member_17 (by decide) dL_member_19 rfl dL_member_20 ⟨Nat.le_of_ble_eq_true rfl, Nat.le_of_ble_eq_true rfl⟩ ⟨_, rfl, Or.inr ⟨_, g1, by decide⟩⟩ hl g2 g3)
    · exact zl_catch (u := (3, 18)) [⟨0, 14, 17, 13⟩] ⟨0, 14, 21, 15⟩ [] hc hT htb rfl (fun z hz => by rcases List.mem_cons.mp hz with rfl | hz; exact ⟨by decide, 0, clL_13, by decide +kernel⟩; cases hz) (by decide) (by decide) clL_15 (by decide +kernel) g4 g5 g6 (zl_hand (u := (3, 18)) hc rfl dL_member_21 (by decide) dL_member_23 rfl dL_member_24 ⟨Nat.le_of_ble_eq_true rfl, Nat.le_of_ble_eq_true rfl⟩ ⟨_, rfl, Or.inr ⟨_, g1, by decide⟩⟩ hl g2 g3)
  · skip
    refine zx_i2l hc dL_member_12 ?_
    refine zl_out hc dL_member_13 ?_
    refine zx_goto 25 hc dL_member_14 rfl ?_
    refine zx_iconst hc 0 dL_member_25 rfl ?_
    exact zl_iret hc rfl dL_member_26 ⟨Nat.le_of_ble_eq_true rfl, Nat.le_of_ble_eq_true rfl⟩ (by first | exact ⟨_, rfl, Or.inl ⟨rfl, _, M_9, h_9, rfl⟩⟩ | exact ⟨_, rfl, Or.inl ⟨rfl, _, M_9, h_9, by rw [if_pos hz]⟩⟩ | exact ⟨_, rfl, Or.inl ⟨rfl, _, M_9, h_9, by rw [if_neg hz]⟩⟩)
set_option maxRecDepth 100000 in
set_option maxHeartbeats 4000000 in
theorem cL_row_ (l : Launch) {P : Int32 → zM → Prop} {QX : Nat → zM → Prop} (M : zM)  (hM : zMetX l mK_row rx_row [.ref 0] M (zqi P) QX) (hcod : ∀ e M', QX e M' → e = 1) : zMetL l mL_row hL_row rL_row [.ref 0, .ref 81] M (zqi (fun x M' => (x = 0 ∧ ∃ r M1, P r M1 ∧ M' = zsJ M1 81 0 r.toInt64) ∨ ∃ e, QX e M' ∧ x = zcod [1] e)) := by
  refine zl_enter (by decide) (Nat.le_of_ble_eq_true rfl) (fun X hc hT htb => ?_)
  refine zx_aload_n hc dL_row_0 rfl ?_
  refine zx_iconst hc (nI 0) dL_row_1 rfl ?_
  refine zx_aload_n hc dL_row_2 rfl ?_
  refine zl_cV0i (c6 := 1) (s6 := 6) hc hT gsL_17 hM ⟨rfl, rfl⟩ ⟨Nat.le_of_ble_eq_true rfl, Nat.le_of_ble_eq_true rfl⟩ ⟨Nat.le_of_ble_eq_true rfl, Nat.le_of_ble_eq_true rfl⟩ dL_row_3 (fun ls hl n M9 q ce H1 locs1 g1 g2 g3 g4 g5 g6 => ?_) (fun x_3 M_3 h_3 => ?_)
  · rcases hcod n M9 g1 with rfl
    · exact zl_catch (u := (1, 6)) [] ⟨0, 8, 11, 15⟩ [] hc hT htb rfl (fun z hz => by cases hz) (by decide) (by decide) clL_15 (by decide +kernel) g4 g5 g6 (zl_hand_n (u := (1, 6)) hc rfl dL_row_11 (by decide) dL_row_12 rfl dL_row_13 ⟨Nat.le_of_ble_eq_true rfl, Nat.le_of_ble_eq_true rfl⟩ ⟨_, rfl, Or.inr ⟨_, g1, by decide⟩⟩ hl g2 g3)
  · skip
    refine zx_i2l hc dL_row_6 ?_
    refine zl_out hc dL_row_7 ?_
    refine zx_goto 14 hc dL_row_8 rfl ?_
    refine zx_iconst hc 0 dL_row_14 rfl ?_
    exact zl_iret hc rfl dL_row_15 ⟨Nat.le_of_ble_eq_true rfl, Nat.le_of_ble_eq_true rfl⟩ (by first | exact ⟨_, rfl, Or.inl ⟨rfl, _, M_3, h_3, rfl⟩⟩ | exact ⟨_, rfl, Or.inl ⟨rfl, _, M_3, h_3, by rw [if_pos hz]⟩⟩ | exact ⟨_, rfl, Or.inl ⟨rfl, _, M_3, h_3, by rw [if_neg hz]⟩⟩)
set_option maxRecDepth 100000 in
set_option maxHeartbeats 4000000 in
theorem cL_and_ (l : Launch) {P : zM → Prop} {QX : Nat → zM → Prop} (M : zM)  (hM : zMetX l mK_and rx_and [.ref 0] M (zqv P) QX) (hcod : ∀ e M', QX e M' → e = 1 ∨ e = 2) : zMetL l mL_and hL_and rL_and [.ref 0] M (zqi (fun x M' => (x = 0 ∧ P M') ∨ ∃ e, QX e M' ∧ x = zcod [1, 2] e)) := by
  refine zl_enter (by decide) (Nat.le_of_ble_eq_true rfl) (fun X hc hT htb => ?_)
  refine zx_aload_n hc dL_and_0 rfl ?_
  refine zl_cV0v (c6 := 2) (s6 := 12) hc hT gsL_21 hM ⟨rfl, rfl⟩ ⟨Nat.le_of_ble_eq_true rfl, Nat.le_of_ble_eq_true rfl⟩ ⟨Nat.le_of_ble_eq_true rfl, Nat.le_of_ble_eq_true rfl⟩ dL_and_1 (fun ls hl n M9 q ce H1 locs1 g1 g2 g3 g4 g5 g6 => ?_) (fun M_1 h_1 => ?_)
  · rcases hcod n M9 g1 with rfl | rfl
    · exact zl_catch (u := (2, 12)) [] ⟨0, 4, 7, 15⟩ [⟨0, 4, 10, 24⟩] hc hT htb rfl (fun z hz => by cases hz) (by decide) (by decide) clL_15 (by decide +kernel) g4 g5 g6 (zl_hand_n (u := (2, 12)) hc rfl dL_and_7 (by decide) dL_and_8 rfl dL_and_9 ⟨Nat.le_of_ble_eq_true rfl, Nat.le_of_ble_eq_true rfl⟩ ⟨_, rfl, Or.inr ⟨_, g1, by decide⟩⟩ hl g2 g3)
    · exact zl_catch (u := (2, 12)) [⟨0, 4, 7, 15⟩] ⟨0, 4, 10, 24⟩ [] hc hT htb rfl (fun z hz => by rcases List.mem_cons.mp hz with rfl | hz; exact ⟨by decide, 1, clL_15, by decide +kernel⟩; cases hz) (by decide) (by decide) clL_24 (by decide +kernel) g4 g5 g6 (zl_hand_n (u := (2, 12)) hc rfl dL_and_10 (by decide) dL_and_11 rfl dL_and_12 ⟨Nat.le_of_ble_eq_true rfl, Nat.le_of_ble_eq_true rfl⟩ ⟨_, rfl, Or.inr ⟨_, g1, by decide⟩⟩ hl g2 g3)
  · skip
    refine zx_goto 13 hc dL_and_4 rfl ?_
    refine zx_iconst hc 0 dL_and_13 rfl ?_
    exact zl_iret hc rfl dL_and_14 ⟨Nat.le_of_ble_eq_true rfl, Nat.le_of_ble_eq_true rfl⟩ (⟨_, rfl, Or.inl ⟨rfl, h_1⟩⟩)
set_option maxRecDepth 100000 in
set_option maxHeartbeats 4000000 in
theorem cL_or_ (l : Launch) {P : zM → Prop} {QX : Nat → zM → Prop} (M : zM)  (hM : zMetX l mK_or rx_or [.ref 0] M (zqv P) QX) (hcod : ∀ e M', QX e M' → e = 1 ∨ e = 2) : zMetL l mL_or hL_or rL_or [.ref 0] M (zqi (fun x M' => (x = 0 ∧ P M') ∨ ∃ e, QX e M' ∧ x = zcod [1, 2] e)) := by
  refine zl_enter (by decide) (Nat.le_of_ble_eq_true rfl) (fun X hc hT htb => ?_)
  refine zx_aload_n hc dL_or_0 rfl ?_
  refine zl_cV0v (c6 := 2) (s6 := 12) hc hT gsL_26 hM ⟨rfl, rfl⟩ ⟨Nat.le_of_ble_eq_true rfl, Nat.le_of_ble_eq_true rfl⟩ ⟨Nat.le_of_ble_eq_true rfl, Nat.le_of_ble_eq_true rfl⟩ dL_or_1 (fun ls hl n M9 q ce H1 locs1 g1 g2 g3 g4 g5 g6 => ?_) (fun M_1 h_1 => ?_)
  · rcases hcod n M9 g1 with rfl | rfl
    · exact zl_catch (u := (2, 12)) [] ⟨0, 4, 7, 15⟩ [⟨0, 4, 10, 24⟩] hc hT htb rfl (fun z hz => by cases hz) (by decide) (by decide) clL_15 (by decide +kernel) g4 g5 g6 (zl_hand_n (u := (2, 12)) hc rfl dL_or_7 (by decide) dL_or_8 rfl dL_or_9 ⟨Nat.le_of_ble_eq_true rfl, Nat.le_of_ble_eq_true rfl⟩ ⟨_, rfl, Or.inr ⟨_, g1, by decide⟩⟩ hl g2 g3)
    · exact zl_catch (u := (2, 12)) [⟨0, 4, 7, 15⟩] ⟨0, 4, 10, 24⟩ [] hc hT htb rfl (fun z hz => by rcases List.mem_cons.mp hz with rfl | hz; exact ⟨by decide, 1, clL_15, by decide +kernel⟩; cases hz) (by decide) (by decide) clL_24 (by decide +kernel) g4 g5 g6 (zl_hand_n (u := (2, 12)) hc rfl dL_or_10 (by decide) dL_or_11 rfl dL_or_12 ⟨Nat.le_of_ble_eq_true rfl, Nat.le_of_ble_eq_true rfl⟩ ⟨_, rfl, Or.inr ⟨_, g1, by decide⟩⟩ hl g2 g3)
  · skip
    refine zx_goto 13 hc dL_or_4 rfl ?_
    refine zx_iconst hc 0 dL_or_13 rfl ?_
    exact zl_iret hc rfl dL_or_14 ⟨Nat.le_of_ble_eq_true rfl, Nat.le_of_ble_eq_true rfl⟩ (⟨_, rfl, Or.inl ⟨rfl, h_1⟩⟩)
set_option maxRecDepth 100000 in
set_option maxHeartbeats 4000000 in
theorem cL_not_ (l : Launch) {P : zM → Prop} {QX : Nat → zM → Prop} (M : zM)  (hM : zMetX l mK_not rx_not [.ref 0] M (zqv P) QX) (hcod : ∀ e M', QX e M' → e = 1 ∨ e = 2) : zMetL l mL_not hL_not rL_not [.ref 0] M (zqi (fun x M' => (x = 0 ∧ P M') ∨ ∃ e, QX e M' ∧ x = zcod [1, 2] e)) := by
  refine zl_enter (by decide) (Nat.le_of_ble_eq_true rfl) (fun X hc hT htb => ?_)
  refine zx_aload_n hc dL_not_0 rfl ?_
  refine zl_cV0v (c6 := 2) (s6 := 12) hc hT gsL_29 hM ⟨rfl, rfl⟩ ⟨Nat.le_of_ble_eq_true rfl, Nat.le_of_ble_eq_true rfl⟩ ⟨Nat.le_of_ble_eq_true rfl, Nat.le_of_ble_eq_true rfl⟩ dL_not_1 (fun ls hl n M9 q ce H1 locs1 g1 g2 g3 g4 g5 g6 => ?_) (fun M_1 h_1 => ?_)
  · rcases hcod n M9 g1 with rfl | rfl
    · exact zl_catch (u := (2, 12)) [] ⟨0, 4, 7, 15⟩ [⟨0, 4, 10, 24⟩] hc hT htb rfl (fun z hz => by cases hz) (by decide) (by decide) clL_15 (by decide +kernel) g4 g5 g6 (zl_hand_n (u := (2, 12)) hc rfl dL_not_7 (by decide) dL_not_8 rfl dL_not_9 ⟨Nat.le_of_ble_eq_true rfl, Nat.le_of_ble_eq_true rfl⟩ ⟨_, rfl, Or.inr ⟨_, g1, by decide⟩⟩ hl g2 g3)
    · exact zl_catch (u := (2, 12)) [⟨0, 4, 7, 15⟩] ⟨0, 4, 10, 24⟩ [] hc hT htb rfl (fun z hz => by rcases List.mem_cons.mp hz with rfl | hz; exact ⟨by decide, 1, clL_15, by decide +kernel⟩; cases hz) (by decide) (by decide) clL_24 (by decide +kernel) g4 g5 g6 (zl_hand_n (u := (2, 12)) hc rfl dL_not_10 (by decide) dL_not_11 rfl dL_not_12 ⟨Nat.le_of_ble_eq_true rfl, Nat.le_of_ble_eq_true rfl⟩ ⟨_, rfl, Or.inr ⟨_, g1, by decide⟩⟩ hl g2 g3)
  · skip
    refine zx_goto 13 hc dL_not_4 rfl ?_
    refine zx_iconst hc 0 dL_not_13 rfl ?_
    exact zl_iret hc rfl dL_not_14 ⟨Nat.le_of_ble_eq_true rfl, Nat.le_of_ble_eq_true rfl⟩ (⟨_, rfl, Or.inl ⟨rfl, h_1⟩⟩)
set_option maxRecDepth 100000 in
set_option maxHeartbeats 4000000 in
theorem cL_free_ (l : Launch) {P : zM → Prop} {QX : Nat → zM → Prop} (M : zM) (a : Int32) (hM : zMetX l mK_free rx_free [.ref 0, .int a] M (zqv P) QX) (hcod : ∀ e M', QX e M' → e = 0 ∨ e = 1 ∨ e = 2) : zMetL l mL_free hL_free rL_free [.ref 0, .int a] M (zqi (fun x M' => (x = 0 ∧ P M') ∨ ∃ e, QX e M' ∧ x = zcod [0, 1, 2] e)) := by
  refine zl_enter (by decide) (Nat.le_of_ble_eq_true rfl) (fun X hc hT htb => ?_)
  refine zx_aload_n hc dL_free_0 rfl ?_
  refine zx_iload_n hc dL_free_1 rfl ?_
  refine zl_cV1v (c6 := 3) (s6 := 18) hc hT gsL_32 hM ⟨rfl, rfl⟩ ⟨Nat.le_of_ble_eq_true rfl, Nat.le_of_ble_eq_true rfl⟩ ⟨Nat.le_of_ble_eq_true rfl, Nat.le_of_ble_eq_true rfl⟩ dL_free_2 (fun ls hl n M9 q ce H1 locs1 g1 g2 g3 g4 g5 g6 => ?_) (fun M_2 h_2 => ?_)
  · rcases hcod n M9 g1 with rfl | rfl | rfl
    · exact zl_catch (u := (3, 18)) [] ⟨0, 5, 8, 13⟩ [⟨0, 5, 11, 15⟩, ⟨0, 5, 14, 24⟩] hc hT htb rfl (fun z hz => by cases hz) (by decide) (by decide) clL_13 (by decide +kernel) g4 g5 g6 (zl_hand_n (u := (3, 18)) hc rfl dL_free_8 (by decide) dL_free_9 rfl dL_free_10 ⟨Nat.le_of_ble_eq_true rfl, Nat.le_of_ble_eq_true rfl⟩ ⟨_, rfl, Or.inr ⟨_, g1, by decide⟩⟩ hl g2 g3)
    · exact zl_catch (u := (3, 18)) [⟨0, 5, 8, 13⟩] ⟨0, 5, 11, 15⟩ [⟨0, 5, 14, 24⟩] hc hT htb rfl (fun z hz => by rcases List.mem_cons.mp hz with rfl | hz; exact ⟨by decide, 0, clL_13, by decide +kernel⟩; cases hz) (by decide) (by decide) clL_15 (by decide +kernel) g4 g5 g6 (zl_hand_n (u := (3, 18)) hc rfl dL_free_11 (by decide) dL_free_12 rfl dL_free_13 ⟨Nat.le_of_ble_eq_true rfl, Nat.le_of_ble_eq_true rfl⟩ ⟨_, rfl, Or.inr ⟨_, g1, by decide⟩⟩ hl g2 g3)
    · exact zl_catch (u := (3, 18)) [⟨0, 5, 8, 13⟩, ⟨0, 5, 11, 15⟩] ⟨0, 5, 14, 24⟩ [] hc hT htb rfl (fun z hz => by rcases List.mem_cons.mp hz with rfl | hz; exact ⟨by decide, 0, clL_13, by decide +kernel⟩; rcases List.mem_cons.mp hz with rfl | hz; exact ⟨by decide, 1, clL_15, by decide +kernel⟩; cases hz) (by decide) (by decide) clL_24 (by decide +kernel) g4 g5 g6 (zl_hand_n (u := (3, 18)) hc rfl dL_free_14 (by decide) dL_free_15 rfl dL_free_16 ⟨Nat.le_of_ble_eq_true rfl, Nat.le_of_ble_eq_true rfl⟩ ⟨_, rfl, Or.inr ⟨_, g1, by decide⟩⟩ hl g2 g3)
  · skip
    refine zx_goto 17 hc dL_free_5 rfl ?_
    refine zx_iconst hc 0 dL_free_17 rfl ?_
    exact zl_iret hc rfl dL_free_18 ⟨Nat.le_of_ble_eq_true rfl, Nat.le_of_ble_eq_true rfl⟩ (⟨_, rfl, Or.inl ⟨rfl, h_2⟩⟩)
set_option maxRecDepth 100000 in
set_option maxHeartbeats 4000000 in
theorem cL_keep_ (l : Launch) {P : zM → Prop} {QX : Nat → zM → Prop} (M : zM) (a : Int32) (hM : zMetX l mK_keep rx_keep [.ref 0, .int a] M (zqv P) QX) (hcod : ∀ e M', QX e M' → e = 0 ∨ e = 1) : zMetL l mL_keep hL_keep rL_keep [.ref 0, .int a] M (zqi (fun x M' => (x = 0 ∧ P M') ∨ ∃ e, QX e M' ∧ x = zcod [0, 1] e)) := by
  refine zl_enter (by decide) (Nat.le_of_ble_eq_true rfl) (fun X hc hT htb => ?_)
  refine zx_aload_n hc dL_keep_0 rfl ?_
  refine zx_iload_n hc dL_keep_1 rfl ?_
  refine zl_cV1v (c6 := 2) (s6 := 12) hc hT gsL_36 hM ⟨rfl, rfl⟩ ⟨Nat.le_of_ble_eq_true rfl, Nat.le_of_ble_eq_true rfl⟩ ⟨Nat.le_of_ble_eq_true rfl, Nat.le_of_ble_eq_true rfl⟩ dL_keep_2 (fun ls hl n M9 q ce H1 locs1 g1 g2 g3 g4 g5 g6 => ?_) (fun M_2 h_2 => ?_)
  · rcases hcod n M9 g1 with rfl | rfl
    · exact zl_catch (u := (2, 12)) [] ⟨0, 5, 8, 13⟩ [⟨0, 5, 11, 15⟩] hc hT htb rfl (fun z hz => by cases hz) (by decide) (by decide) clL_13 (by decide +kernel) g4 g5 g6 (zl_hand_n (u := (2, 12)) hc rfl dL_keep_8 (by decide) dL_keep_9 rfl dL_keep_10 ⟨Nat.le_of_ble_eq_true rfl, Nat.le_of_ble_eq_true rfl⟩ ⟨_, rfl, Or.inr ⟨_, g1, by decide⟩⟩ hl g2 g3)
    · exact zl_catch (u := (2, 12)) [⟨0, 5, 8, 13⟩] ⟨0, 5, 11, 15⟩ [] hc hT htb rfl (fun z hz => by rcases List.mem_cons.mp hz with rfl | hz; exact ⟨by decide, 0, clL_13, by decide +kernel⟩; cases hz) (by decide) (by decide) clL_15 (by decide +kernel) g4 g5 g6 (zl_hand_n (u := (2, 12)) hc rfl dL_keep_11 (by decide) dL_keep_12 rfl dL_keep_13 ⟨Nat.le_of_ble_eq_true rfl, Nat.le_of_ble_eq_true rfl⟩ ⟨_, rfl, Or.inr ⟨_, g1, by decide⟩⟩ hl g2 g3)
  · skip
    refine zx_goto 14 hc dL_keep_5 rfl ?_
    refine zx_iconst hc 0 dL_keep_14 rfl ?_
    exact zl_iret hc rfl dL_keep_15 ⟨Nat.le_of_ble_eq_true rfl, Nat.le_of_ble_eq_true rfl⟩ (⟨_, rfl, Or.inl ⟨rfl, h_2⟩⟩)
set_option maxRecDepth 100000 in
set_option maxHeartbeats 4000000 in
theorem cL_load_ (l : Launch) {P : Int32 → zM → Prop} {QX : Nat → zM → Prop} (M : zM) (a : Int32) (hM : zMetX l mK_load rx_load [.ref 0, .int a] M (zqi P) QX) (hcod : ∀ e M', QX e M' → e = 0 ∨ e = 1) : zMetL l mL_load hL_load rL_load [.ref 0, .int a, .ref 81] M (zqi (fun x M' => (x = 0 ∧ ∃ r M1, P r M1 ∧ M' = zsJ M1 81 0 r.toInt64) ∨ ∃ e, QX e M' ∧ x = zcod [0, 1] e)) := by
  refine zl_enter (by decide) (Nat.le_of_ble_eq_true rfl) (fun X hc hT htb => ?_)
  refine zx_aload_n hc dL_load_0 rfl ?_
  refine zx_iconst hc (nI 0) dL_load_1 rfl ?_
  refine zx_aload_n hc dL_load_2 rfl ?_
  refine zx_iload_n hc dL_load_3 rfl ?_
  refine zl_cV1i (c6 := 2) (s6 := 12) hc hT gsL_39 hM ⟨rfl, rfl⟩ ⟨Nat.le_of_ble_eq_true rfl, Nat.le_of_ble_eq_true rfl⟩ ⟨Nat.le_of_ble_eq_true rfl, Nat.le_of_ble_eq_true rfl⟩ dL_load_4 (fun ls hl n M9 q ce H1 locs1 g1 g2 g3 g4 g5 g6 => ?_) (fun x_4 M_4 h_4 => ?_)
  · rcases hcod n M9 g1 with rfl | rfl
    · exact zl_catch (u := (2, 12)) [] ⟨0, 9, 12, 13⟩ [⟨0, 9, 15, 15⟩] hc hT htb rfl (fun z hz => by cases hz) (by decide) (by decide) clL_13 (by decide +kernel) g4 g5 g6 (zl_hand_n (u := (2, 12)) hc rfl dL_load_12 (by decide) dL_load_13 rfl dL_load_14 ⟨Nat.le_of_ble_eq_true rfl, Nat.le_of_ble_eq_true rfl⟩ ⟨_, rfl, Or.inr ⟨_, g1, by decide⟩⟩ hl g2 g3)
    · exact zl_catch (u := (2, 12)) [⟨0, 9, 12, 13⟩] ⟨0, 9, 15, 15⟩ [] hc hT htb rfl (fun z hz => by rcases List.mem_cons.mp hz with rfl | hz; exact ⟨by decide, 0, clL_13, by decide +kernel⟩; cases hz) (by decide) (by decide) clL_15 (by decide +kernel) g4 g5 g6 (zl_hand_n (u := (2, 12)) hc rfl dL_load_15 (by decide) dL_load_16 rfl dL_load_17 ⟨Nat.le_of_ble_eq_true rfl, Nat.le_of_ble_eq_true rfl⟩ ⟨_, rfl, Or.inr ⟨_, g1, by decide⟩⟩ hl g2 g3)
  · skip
    refine zx_i2l hc dL_load_7 ?_
    refine zl_out hc dL_load_8 ?_
    refine zx_goto 18 hc dL_load_9 rfl ?_
    refine zx_iconst hc 0 dL_load_18 rfl ?_
    exact zl_iret hc rfl dL_load_19 ⟨Nat.le_of_ble_eq_true rfl, Nat.le_of_ble_eq_true rfl⟩ (by first | exact ⟨_, rfl, Or.inl ⟨rfl, _, M_4, h_4, rfl⟩⟩ | exact ⟨_, rfl, Or.inl ⟨rfl, _, M_4, h_4, by rw [if_pos hz]⟩⟩ | exact ⟨_, rfl, Or.inl ⟨rfl, _, M_4, h_4, by rw [if_neg hz]⟩⟩)
set_option maxRecDepth 100000 in
set_option maxHeartbeats 4000000 in
theorem cL_rows_ (l : Launch) {P : Int32 → zM → Prop} {QX : Nat → zM → Prop} (M : zM)  (hM : zMetX l mK_rows rx_rows [.ref 0] M (zqi P) QX) (hcod : ∀ e M', QX e M' → e = 1) : zMetL l mL_rows hL_rows rL_rows [.ref 0, .ref 81] M (zqi (fun x M' => (x = 0 ∧ ∃ r M1, P r M1 ∧ M' = zsJ M1 81 0 r.toInt64) ∨ ∃ e, QX e M' ∧ x = zcod [1] e)) := by
  refine zl_enter (by decide) (Nat.le_of_ble_eq_true rfl) (fun X hc hT htb => ?_)
  refine zx_aload_n hc dL_rows_0 rfl ?_
  refine zx_iconst hc (nI 0) dL_rows_1 rfl ?_
  refine zx_aload_n hc dL_rows_2 rfl ?_
  refine zl_cV0i (c6 := 1) (s6 := 6) hc hT gsL_43 hM ⟨rfl, rfl⟩ ⟨Nat.le_of_ble_eq_true rfl, Nat.le_of_ble_eq_true rfl⟩ ⟨Nat.le_of_ble_eq_true rfl, Nat.le_of_ble_eq_true rfl⟩ dL_rows_3 (fun ls hl n M9 q ce H1 locs1 g1 g2 g3 g4 g5 g6 => ?_) (fun x_3 M_3 h_3 => ?_)
  · rcases hcod n M9 g1 with rfl
    · exact zl_catch (u := (1, 6)) [] ⟨0, 8, 11, 15⟩ [] hc hT htb rfl (fun z hz => by cases hz) (by decide) (by decide) clL_15 (by decide +kernel) g4 g5 g6 (zl_hand_n (u := (1, 6)) hc rfl dL_rows_11 (by decide) dL_rows_12 rfl dL_rows_13 ⟨Nat.le_of_ble_eq_true rfl, Nat.le_of_ble_eq_true rfl⟩ ⟨_, rfl, Or.inr ⟨_, g1, by decide⟩⟩ hl g2 g3)
  · skip
    refine zx_i2l hc dL_rows_6 ?_
    refine zl_out hc dL_rows_7 ?_
    refine zx_goto 14 hc dL_rows_8 rfl ?_
    refine zx_iconst hc 0 dL_rows_14 rfl ?_
    exact zl_iret hc rfl dL_rows_15 ⟨Nat.le_of_ble_eq_true rfl, Nat.le_of_ble_eq_true rfl⟩ (by first | exact ⟨_, rfl, Or.inl ⟨rfl, _, M_3, h_3, rfl⟩⟩ | exact ⟨_, rfl, Or.inl ⟨rfl, _, M_3, h_3, by rw [if_pos hz]⟩⟩ | exact ⟨_, rfl, Or.inl ⟨rfl, _, M_3, h_3, by rw [if_neg hz]⟩⟩)
set_option maxRecDepth 100000 in
set_option maxHeartbeats 4000000 in
theorem cL_members_ (l : Launch) {P : Int32 → zM → Prop} {QX : Nat → zM → Prop} (M : zM) (a : Int32) (hM : zMetX l mK_members rx_members [.ref 0, .int a] M (zqi P) QX) (hcod : ∀ e M', QX e M' → e = 1 ∨ e = 3) : zMetL l mL_members hL_members rL_members [.ref 0, .int a, .ref 81] M (zqi (fun x M' => (x = 0 ∧ ∃ r M1, P r M1 ∧ M' = zsJ M1 81 0 r.toInt64) ∨ ∃ e, QX e M' ∧ x = zcod [1, 3] e)) := by
  refine zl_enter (by decide) (Nat.le_of_ble_eq_true rfl) (fun X hc hT htb => ?_)
  refine zx_aload_n hc dL_members_0 rfl ?_
  refine zx_iconst hc (nI 0) dL_members_1 rfl ?_
  refine zx_aload_n hc dL_members_2 rfl ?_
  refine zx_iload_n hc dL_members_3 rfl ?_
  refine zl_cV1i (c6 := 2) (s6 := 12) hc hT gsL_46 hM ⟨rfl, rfl⟩ ⟨Nat.le_of_ble_eq_true rfl, Nat.le_of_ble_eq_true rfl⟩ ⟨Nat.le_of_ble_eq_true rfl, Nat.le_of_ble_eq_true rfl⟩ dL_members_4 (fun ls hl n M9 q ce H1 locs1 g1 g2 g3 g4 g5 g6 => ?_) (fun x_4 M_4 h_4 => ?_)
  · rcases hcod n M9 g1 with rfl | rfl
    · exact zl_catch (u := (2, 12)) [] ⟨0, 9, 12, 15⟩ [⟨0, 9, 15, 49⟩] hc hT htb rfl (fun z hz => by cases hz) (by decide) (by decide) clL_15 (by decide +kernel) g4 g5 g6 (zl_hand_n (u := (2, 12)) hc rfl dL_members_12 (by decide) dL_members_13 rfl dL_members_14 ⟨Nat.le_of_ble_eq_true rfl, Nat.le_of_ble_eq_true rfl⟩ ⟨_, rfl, Or.inr ⟨_, g1, by decide⟩⟩ hl g2 g3)
    · exact zl_catch (u := (2, 12)) [⟨0, 9, 12, 15⟩] ⟨0, 9, 15, 49⟩ [] hc hT htb rfl (fun z hz => by rcases List.mem_cons.mp hz with rfl | hz; exact ⟨by decide, 1, clL_15, by decide +kernel⟩; cases hz) (by decide) (by decide) clL_49 (by decide +kernel) g4 g5 g6 (zl_hand_n (u := (2, 12)) hc rfl dL_members_15 (by decide) dL_members_16 rfl dL_members_17 ⟨Nat.le_of_ble_eq_true rfl, Nat.le_of_ble_eq_true rfl⟩ ⟨_, rfl, Or.inr ⟨_, g1, by decide⟩⟩ hl g2 g3)
  · skip
    refine zx_i2l hc dL_members_7 ?_
    refine zl_out hc dL_members_8 ?_
    refine zx_goto 18 hc dL_members_9 rfl ?_
    refine zx_iconst hc 0 dL_members_18 rfl ?_
    exact zl_iret hc rfl dL_members_19 ⟨Nat.le_of_ble_eq_true rfl, Nat.le_of_ble_eq_true rfl⟩ (by first | exact ⟨_, rfl, Or.inl ⟨rfl, _, M_4, h_4, rfl⟩⟩ | exact ⟨_, rfl, Or.inl ⟨rfl, _, M_4, h_4, by rw [if_pos hz]⟩⟩ | exact ⟨_, rfl, Or.inl ⟨rfl, _, M_4, h_4, by rw [if_neg hz]⟩⟩)
set_option maxRecDepth 100000 in
set_option maxHeartbeats 4000000 in
theorem cL_part_ (l : Launch) {P : Int32 → zM → Prop} {QX : Nat → zM → Prop} (M : zM) (a b c : Int32) (hM : zMetX l mK_part rx_part [.ref 0, .int a, .int b, .int c] M (zqi P) QX) (hcod : ∀ e M', QX e M' → e = 1 ∨ e = 3 ∨ e = 0) : zMetL l mL_part hL_part rL_part [.ref 0, .int a, .int b, .int c, .ref 81] M (zqi (fun x M' => (x = 0 ∧ ∃ r M1, P r M1 ∧ M' = zsJ M1 81 0 r.toInt64) ∨ ∃ e, QX e M' ∧ x = zcod [1, 3, 0] e)) := by
  refine zl_enter (by decide) (Nat.le_of_ble_eq_true rfl) (fun X hc hT htb => ?_)
  refine zx_aload hc dL_part_0 rfl ?_
  refine zx_iconst hc (nI 0) dL_part_2 rfl ?_
  refine zx_aload_n hc dL_part_3 rfl ?_
  refine zx_iload_n hc dL_part_4 rfl ?_
  refine zx_iload_n hc dL_part_5 rfl ?_
  refine zx_iload_n hc dL_part_6 rfl ?_
  refine zl_cV3i (c6 := 4) (s6 := 24) hc hT gsL_51 hM ⟨rfl, rfl⟩ ⟨Nat.le_of_ble_eq_true rfl, Nat.le_of_ble_eq_true rfl⟩ ⟨Nat.le_of_ble_eq_true rfl, Nat.le_of_ble_eq_true rfl⟩ dL_part_7 (fun ls hl n M9 q ce H1 locs1 g1 g2 g3 g4 g5 g6 => ?_) (fun x_7 M_7 h_7 => ?_)
  · rcases hcod n M9 g1 with rfl | rfl | rfl
    · exact zl_catch (u := (4, 24)) [] ⟨0, 12, 15, 15⟩ [⟨0, 12, 19, 49⟩, ⟨0, 12, 23, 13⟩] hc hT htb rfl (fun z hz => by cases hz) (by decide) (by decide) clL_15 (by decide +kernel) g4 g5 g6 (zl_hand (u := (4, 24)) hc rfl dL_part_15 (by decide) dL_part_17 rfl dL_part_18 ⟨Nat.le_of_ble_eq_true rfl, Nat.le_of_ble_eq_true rfl⟩ ⟨_, rfl, Or.inr ⟨_, g1, by decide⟩⟩ hl g2 g3)
    · exact zl_catch (u := (4, 24)) [⟨0, 12, 15, 15⟩] ⟨0, 12, 19, 49⟩ [⟨0, 12, 23, 13⟩] hc hT htb rfl (fun z hz => by rcases List.mem_cons.mp hz with rfl | hz; exact ⟨by decide, 1, clL_15, by decide +kernel⟩; cases hz) (by decide) (by decide) clL_49 (by decide +kernel) g4 g5 g6 (zl_hand (u := (4, 24)) hc rfl dL_part_19 (by decide) dL_part_21 rfl dL_part_22 ⟨Nat.le_of_ble_eq_true rfl, Nat.le_of_ble_eq_true rfl⟩ ⟨_, rfl, Or.inr ⟨_, g1, by decide⟩⟩ hl g2 g3)
    · exact zl_catch (u := (4, 24)) [⟨0, 12, 15, 15⟩, ⟨0, 12, 19, 49⟩] ⟨0, 12, 23, 13⟩ [] hc hT htb rfl (fun z hz => by rcases List.mem_cons.mp hz with rfl | hz; exact ⟨by decide, 1, clL_15, by decide +kernel⟩; rcases List.mem_cons.mp hz with rfl | hz; exact ⟨by decide, 3, clL_49, by decide +kernel⟩; cases hz) (by decide) (by decide) clL_13 (by decide +kernel) g4 g5 g6 (zl_hand (u := (4, 24)) hc rfl dL_part_23 (by decide) dL_part_25 rfl dL_part_26 ⟨Nat.le_of_ble_eq_true rfl, Nat.le_of_ble_eq_true rfl⟩ ⟨_, rfl, Or.inr ⟨_, g1, by decide⟩⟩ hl g2 g3)
  · skip
    refine zx_i2l hc dL_part_10 ?_
    refine zl_out hc dL_part_11 ?_
    refine zx_goto 27 hc dL_part_12 rfl ?_
    refine zx_iconst hc 0 dL_part_27 rfl ?_
    exact zl_iret hc rfl dL_part_28 ⟨Nat.le_of_ble_eq_true rfl, Nat.le_of_ble_eq_true rfl⟩ (by first | exact ⟨_, rfl, Or.inl ⟨rfl, _, M_7, h_7, rfl⟩⟩ | exact ⟨_, rfl, Or.inl ⟨rfl, _, M_7, h_7, by rw [if_pos hz]⟩⟩ | exact ⟨_, rfl, Or.inl ⟨rfl, _, M_7, h_7, by rw [if_neg hz]⟩⟩)
set_option maxRecDepth 100000 in
set_option maxHeartbeats 4000000 in
theorem cL_holds_ (l : Launch) {P : Int32 → zM → Prop} {QX : Nat → zM → Prop} (M : zM) (a b c : Int32) (hM : zMetX l mK_holds rx_holds [.ref 0, .int a, .int b, .int c] M (zqi P) QX) (hcod : ∀ e M', QX e M' → e = 1 ∨ e = 0) : zMetL l mL_holds hL_holds rL_holds [.ref 0, .int a, .int b, .int c, .ref 81] M (zqi (fun x M' => (x = 0 ∧ ∃ r M1, P r M1 ∧ M' = zsJ M1 81 0 (if r = 0 then 0 else 1)) ∨ ∃ e, QX e M' ∧ x = zcod [1, 0] e)) := by
  refine zl_enter (by decide) (Nat.le_of_ble_eq_true rfl) (fun X hc hT htb => ?_)
  refine zx_aload hc dL_holds_0 rfl ?_
  refine zx_iconst hc (nI 0) dL_holds_2 rfl ?_
  refine zx_aload_n hc dL_holds_3 rfl ?_
  refine zx_iload_n hc dL_holds_4 rfl ?_
  refine zx_iload_n hc dL_holds_5 rfl ?_
  refine zx_iload_n hc dL_holds_6 rfl ?_
  refine zl_cV3i (c6 := 3) (s6 := 18) hc hT gsL_55 hM ⟨rfl, rfl⟩ ⟨Nat.le_of_ble_eq_true rfl, Nat.le_of_ble_eq_true rfl⟩ ⟨Nat.le_of_ble_eq_true rfl, Nat.le_of_ble_eq_true rfl⟩ dL_holds_7 (fun ls hl n M9 q ce H1 locs1 g1 g2 g3 g4 g5 g6 => ?_) (fun x_7 M_7 h_7 => ?_)
  · rcases hcod n M9 g1 with rfl | rfl
    · exact zl_catch (u := (3, 18)) [] ⟨0, 19, 22, 15⟩ [⟨0, 19, 26, 13⟩] hc hT htb rfl (fun z hz => by cases hz) (by decide) (by decide) clL_15 (by decide +kernel) g4 g5 g6 (zl_hand (u := (3, 18)) hc rfl dL_holds_22 (by decide) dL_holds_24 rfl dL_holds_25 ⟨Nat.le_of_ble_eq_true rfl, Nat.le_of_ble_eq_true rfl⟩ ⟨_, rfl, Or.inr ⟨_, g1, by decide⟩⟩ hl g2 g3)
    · exact zl_catch (u := (3, 18)) [⟨0, 19, 22, 15⟩] ⟨0, 19, 26, 13⟩ [] hc hT htb rfl (fun z hz => by rcases List.mem_cons.mp hz with rfl | hz; exact ⟨by decide, 1, clL_15, by decide +kernel⟩; cases hz) (by decide) (by decide) clL_13 (by decide +kernel) g4 g5 g6 (zl_hand (u := (3, 18)) hc rfl dL_holds_26 (by decide) dL_holds_28 rfl dL_holds_29 ⟨Nat.le_of_ble_eq_true rfl, Nat.le_of_ble_eq_true rfl⟩ ⟨_, rfl, Or.inr ⟨_, g1, by decide⟩⟩ hl g2 g3)
  · skip
    refine zx_if_eq 17 hc dL_holds_10 rfl (fun h_10 => ?_) (fun h_10 => ?_)
    · skip
      have hz := h_10
      refine zx_lconst hc 0 dL_holds_17 rfl ?_
      refine zl_out hc dL_holds_18 ?_
      refine zx_goto 30 hc dL_holds_19 rfl ?_
      refine zx_iconst hc 0 dL_holds_30 rfl ?_
      exact zl_iret hc rfl dL_holds_31 ⟨Nat.le_of_ble_eq_true rfl, Nat.le_of_ble_eq_true rfl⟩ (by first | exact ⟨_, rfl, Or.inl ⟨rfl, _, M_7, h_7, rfl⟩⟩ | exact ⟨_, rfl, Or.inl ⟨rfl, _, M_7, h_7, by rw [if_pos hz]⟩⟩ | exact ⟨_, rfl, Or.inl ⟨rfl, _, M_7, h_7, by rw [if_neg hz]⟩⟩)
    · skip
      have hz := h_10
      refine zx_lconst hc 1 dL_holds_13 rfl ?_
      refine zx_goto 18 hc dL_holds_14 rfl ?_
      refine zl_out hc dL_holds_18 ?_
      refine zx_goto 30 hc dL_holds_19 rfl ?_
      refine zx_iconst hc 0 dL_holds_30 rfl ?_
      exact zl_iret hc rfl dL_holds_31 ⟨Nat.le_of_ble_eq_true rfl, Nat.le_of_ble_eq_true rfl⟩ (by first | exact ⟨_, rfl, Or.inl ⟨rfl, _, M_7, h_7, rfl⟩⟩ | exact ⟨_, rfl, Or.inl ⟨rfl, _, M_7, h_7, by rw [if_pos hz]⟩⟩ | exact ⟨_, rfl, Or.inl ⟨rfl, _, M_7, h_7, by rw [if_neg hz]⟩⟩)
set_option maxRecDepth 100000 in
set_option maxHeartbeats 4000000 in
theorem cL_within_ (l : Launch) {P : Int32 → zM → Prop} {QX : Nat → zM → Prop} (M : zM)  (hM : zMetX l mK_within rx_within [.ref 0] M (zqi P) QX) (hcod : ∀ e M', QX e M' → e = 1 ∨ e = 2) : zMetL l mL_within hL_within rL_within [.ref 0, .ref 81] M (zqi (fun x M' => (x = 0 ∧ ∃ r M1, P r M1 ∧ M' = zsJ M1 81 0 (if r = 0 then 0 else 1)) ∨ ∃ e, QX e M' ∧ x = zcod [1, 2] e)) := by
  refine zl_enter (by decide) (Nat.le_of_ble_eq_true rfl) (fun X hc hT htb => ?_)
  refine zx_aload_n hc dL_within_0 rfl ?_
  refine zx_iconst hc (nI 0) dL_within_1 rfl ?_
  refine zx_aload_n hc dL_within_2 rfl ?_
  refine zl_cV0i (c6 := 3) (s6 := 18) hc hT gsL_59 hM ⟨rfl, rfl⟩ ⟨Nat.le_of_ble_eq_true rfl, Nat.le_of_ble_eq_true rfl⟩ ⟨Nat.le_of_ble_eq_true rfl, Nat.le_of_ble_eq_true rfl⟩ dL_within_3 (fun ls hl n M9 q ce H1 locs1 g1 g2 g3 g4 g5 g6 => ?_) (fun x_3 M_3 h_3 => ?_)
  · rcases hcod n M9 g1 with rfl | rfl
    · exact zl_catch (u := (3, 18)) [] ⟨0, 15, 18, 15⟩ [⟨0, 15, 21, 24⟩] hc hT htb rfl (fun z hz => by cases hz) (by decide) (by decide) clL_15 (by decide +kernel) g4 g5 g6 (zl_hand_n (u := (3, 18)) hc rfl dL_within_18 (by decide) dL_within_19 rfl dL_within_20 ⟨Nat.le_of_ble_eq_true rfl, Nat.le_of_ble_eq_true rfl⟩ ⟨_, rfl, Or.inr ⟨_, g1, by decide⟩⟩ hl g2 g3)
    · exact zl_catch (u := (3, 18)) [⟨0, 15, 18, 15⟩] ⟨0, 15, 21, 24⟩ [] hc hT htb rfl (fun z hz => by rcases List.mem_cons.mp hz with rfl | hz; exact ⟨by decide, 1, clL_15, by decide +kernel⟩; cases hz) (by decide) (by decide) clL_24 (by decide +kernel) g4 g5 g6 (zl_hand_n (u := (3, 18)) hc rfl dL_within_21 (by decide) dL_within_22 rfl dL_within_23 ⟨Nat.le_of_ble_eq_true rfl, Nat.le_of_ble_eq_true rfl⟩ ⟨_, rfl, Or.inr ⟨_, g1, by decide⟩⟩ hl g2 g3)
  · skip
    refine zx_if_eq 13 hc dL_within_6 rfl (fun h_6 => ?_) (fun h_6 => ?_)
    · skip
      have hz := h_6
      refine zx_lconst hc 0 dL_within_13 rfl ?_
      refine zl_out hc dL_within_14 ?_
      refine zx_goto 24 hc dL_within_15 rfl ?_
      refine zx_iconst hc 0 dL_within_24 rfl ?_
      exact zl_iret hc rfl dL_within_25 ⟨Nat.le_of_ble_eq_true rfl, Nat.le_of_ble_eq_true rfl⟩ (by first | exact ⟨_, rfl, Or.inl ⟨rfl, _, M_3, h_3, rfl⟩⟩ | exact ⟨_, rfl, Or.inl ⟨rfl, _, M_3, h_3, by rw [if_pos hz]⟩⟩ | exact ⟨_, rfl, Or.inl ⟨rfl, _, M_3, h_3, by rw [if_neg hz]⟩⟩)
    · skip
      have hz := h_6
      refine zx_lconst hc 1 dL_within_9 rfl ?_
      refine zx_goto 14 hc dL_within_10 rfl ?_
      refine zl_out hc dL_within_14 ?_
      refine zx_goto 24 hc dL_within_15 rfl ?_
      refine zx_iconst hc 0 dL_within_24 rfl ?_
      exact zl_iret hc rfl dL_within_25 ⟨Nat.le_of_ble_eq_true rfl, Nat.le_of_ble_eq_true rfl⟩ (by first | exact ⟨_, rfl, Or.inl ⟨rfl, _, M_3, h_3, rfl⟩⟩ | exact ⟨_, rfl, Or.inl ⟨rfl, _, M_3, h_3, by rw [if_pos hz]⟩⟩ | exact ⟨_, rfl, Or.inl ⟨rfl, _, M_3, h_3, by rw [if_neg hz]⟩⟩)
set_option maxRecDepth 100000 in
set_option maxHeartbeats 4000000 in
theorem cL_least_ (l : Launch) {P : Int32 → zM → Prop} {QX : Nat → zM → Prop} (M : zM) (a b : Int32) (hM : zMetX l mK_least rx_least [.ref 0, .int a, .int b] M (zqi P) QX) (hcod : ∀ e M', QX e M' → e = 1 ∨ e = 0) : zMetL l mL_least hL_least rL_least [.ref 0, .int a, .int b, .ref 81] M (zqi (fun x M' => (x = 0 ∧ ∃ r M1, P r M1 ∧ M' = zsJ M1 81 0 r.toInt64) ∨ ∃ e, QX e M' ∧ x = zcod [1, 0] e)) := by
  refine zl_enter (by decide) (Nat.le_of_ble_eq_true rfl) (fun X hc hT htb => ?_)
  refine zx_aload_n hc dL_least_0 rfl ?_
  refine zx_iconst hc (nI 0) dL_least_1 rfl ?_
  refine zx_aload_n hc dL_least_2 rfl ?_
  refine zx_iload_n hc dL_least_3 rfl ?_
  refine zx_iload_n hc dL_least_4 rfl ?_
  refine zl_cV2i (c6 := 2) (s6 := 12) hc hT gsL_63 hM ⟨rfl, rfl⟩ ⟨Nat.le_of_ble_eq_true rfl, Nat.le_of_ble_eq_true rfl⟩ ⟨Nat.le_of_ble_eq_true rfl, Nat.le_of_ble_eq_true rfl⟩ dL_least_5 (fun ls hl n M9 q ce H1 locs1 g1 g2 g3 g4 g5 g6 => ?_) (fun x_5 M_5 h_5 => ?_)
  · rcases hcod n M9 g1 with rfl | rfl
    · exact zl_catch (u := (2, 12)) [] ⟨0, 10, 13, 15⟩ [⟨0, 10, 17, 13⟩] hc hT htb rfl (fun z hz => by cases hz) (by decide) (by decide) clL_15 (by decide +kernel) g4 g5 g6 (zl_hand (u := (2, 12)) hc rfl dL_least_13 (by decide) dL_least_15 rfl dL_least_16 ⟨Nat.le_of_ble_eq_true rfl, Nat.le_of_ble_eq_true rfl⟩ ⟨_, rfl, Or.inr ⟨_, g1, by decide⟩⟩ hl g2 g3)
    · exact zl_catch (u := (2, 12)) [⟨0, 10, 13, 15⟩] ⟨0, 10, 17, 13⟩ [] hc hT htb rfl (fun z hz => by rcases List.mem_cons.mp hz with rfl | hz; exact ⟨by decide, 1, clL_15, by decide +kernel⟩; cases hz) (by decide) (by decide) clL_13 (by decide +kernel) g4 g5 g6 (zl_hand (u := (2, 12)) hc rfl dL_least_17 (by decide) dL_least_19 rfl dL_least_20 ⟨Nat.le_of_ble_eq_true rfl, Nat.le_of_ble_eq_true rfl⟩ ⟨_, rfl, Or.inr ⟨_, g1, by decide⟩⟩ hl g2 g3)
  · skip
    refine zx_i2l hc dL_least_8 ?_
    refine zl_out hc dL_least_9 ?_
    refine zx_goto 21 hc dL_least_10 rfl ?_
    refine zx_iconst hc 0 dL_least_21 rfl ?_
    exact zl_iret hc rfl dL_least_22 ⟨Nat.le_of_ble_eq_true rfl, Nat.le_of_ble_eq_true rfl⟩ (by first | exact ⟨_, rfl, Or.inl ⟨rfl, _, M_5, h_5, rfl⟩⟩ | exact ⟨_, rfl, Or.inl ⟨rfl, _, M_5, h_5, by rw [if_pos hz]⟩⟩ | exact ⟨_, rfl, Or.inl ⟨rfl, _, M_5, h_5, by rw [if_neg hz]⟩⟩)
set_option maxRecDepth 100000 in
set_option maxHeartbeats 4000000 in
theorem cL_value_ (l : Launch) {P : Int64 → zM → Prop} {QX : Nat → zM → Prop} (M : zM) (a : Int32) (hM : zMetX l mK_value rx_value [.ref 0, .int a] M (zql P) QX) (hcod : ∀ e M', QX e M' → e = 0) : zMetL l mL_value hL_value rL_value [.ref 0, .int a, .ref 81] M (zqi (fun x M' => (x = 0 ∧ ∃ r M1, P r M1 ∧ M' = zsJ M1 81 0 r) ∨ ∃ e, QX e M' ∧ x = zcod [0] e)) := by
  refine zl_enter (by decide) (Nat.le_of_ble_eq_true rfl) (fun X hc hT htb => ?_)
  refine zx_aload_n hc dL_value_0 rfl ?_
  refine zx_iconst hc (nI 0) dL_value_1 rfl ?_
  refine zx_aload_n hc dL_value_2 rfl ?_
  refine zx_iload_n hc dL_value_3 rfl ?_
  refine zl_cV1l (c6 := 1) (s6 := 6) hc hT gsL_67 hM ⟨rfl, rfl⟩ ⟨Nat.le_of_ble_eq_true rfl, Nat.le_of_ble_eq_true rfl⟩ ⟨Nat.le_of_ble_eq_true rfl, Nat.le_of_ble_eq_true rfl⟩ dL_value_4 (fun ls hl n M9 q ce H1 locs1 g1 g2 g3 g4 g5 g6 => ?_) (fun x_4 M_4 h_4 => ?_)
  · rcases hcod n M9 g1 with rfl
    · exact zl_catch (u := (1, 6)) [] ⟨0, 8, 11, 13⟩ [] hc hT htb rfl (fun z hz => by cases hz) (by decide) (by decide) clL_13 (by decide +kernel) g4 g5 g6 (zl_hand_n (u := (1, 6)) hc rfl dL_value_11 (by decide) dL_value_12 rfl dL_value_13 ⟨Nat.le_of_ble_eq_true rfl, Nat.le_of_ble_eq_true rfl⟩ ⟨_, rfl, Or.inr ⟨_, g1, by decide⟩⟩ hl g2 g3)
  · skip
    refine zl_out hc dL_value_7 ?_
    refine zx_goto 14 hc dL_value_8 rfl ?_
    refine zx_iconst hc 0 dL_value_14 rfl ?_
    exact zl_iret hc rfl dL_value_15 ⟨Nat.le_of_ble_eq_true rfl, Nat.le_of_ble_eq_true rfl⟩ (by first | exact ⟨_, rfl, Or.inl ⟨rfl, _, M_4, h_4, rfl⟩⟩ | exact ⟨_, rfl, Or.inl ⟨rfl, _, M_4, h_4, by rw [if_pos hz]⟩⟩ | exact ⟨_, rfl, Or.inl ⟨rfl, _, M_4, h_4, by rw [if_neg hz]⟩⟩)
