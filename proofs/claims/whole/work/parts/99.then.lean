/-! What the throws need, at the start; the law from its entry. -/
theorem lw_in {w : Cond} (h : w ∈ tables_1) : w ∈ lw_tbl := List.mem_append_right _ h
theorem zTx_tbl : ∀ q ∈ zTx, Cond.stringRef RK q.1 q.2 ∈ tables_1 := List.forall_mem_cons.mpr ⟨List.mem_of_getElem? (i := 219) (by decide +kernel), List.forall_mem_cons.mpr ⟨List.mem_of_getElem? (i := 246) (by decide +kernel), List.forall_mem_cons.mpr ⟨List.mem_of_getElem? (i := 256) (by decide +kernel), List.forall_mem_cons.mpr ⟨List.mem_of_getElem? (i := 296) (by decide +kernel), List.forall_mem_cons.mpr ⟨List.mem_of_getElem? (i := 400) (by decide +kernel), List.forall_mem_cons.mpr ⟨List.mem_of_getElem? (i := 433) (by decide +kernel), List.forall_mem_cons.mpr ⟨List.mem_of_getElem? (i := 494) (by decide +kernel), List.forall_mem_cons.mpr ⟨List.mem_of_getElem? (i := 521) (by decide +kernel), List.forall_mem_cons.mpr ⟨List.mem_of_getElem? (i := 558) (by decide +kernel), List.forall_mem_cons.mpr ⟨List.mem_of_getElem? (i := 573) (by decide +kernel), List.forall_mem_cons.mpr ⟨List.mem_of_getElem? (i := 578) (by decide +kernel), List.forall_mem_cons.mpr ⟨List.mem_of_getElem? (i := 586) (by decide +kernel), List.forall_mem_cons.mpr ⟨List.mem_of_getElem? (i := 587) (by decide +kernel), List.forall_mem_cons.mpr ⟨List.mem_of_getElem? (i := 612) (by decide +kernel), List.forall_mem_cons.mpr ⟨List.mem_of_getElem? (i := 662) (by decide +kernel), fun _ h => absurd h List.not_mem_nil⟩⟩⟩⟩⟩⟩⟩⟩⟩⟩⟩⟩⟩⟩⟩
theorem zCa_tbl : ∀ C ∈ zCa, Cond.castable C C ∈ tables_1 := List.forall_mem_cons.mpr ⟨List.mem_of_getElem? (i := 179) (by decide +kernel), List.forall_mem_cons.mpr ⟨List.mem_of_getElem? (i := 249) (by decide +kernel), List.forall_mem_cons.mpr ⟨List.mem_of_getElem? (i := 426) (by decide +kernel), List.forall_mem_cons.mpr ⟨List.mem_of_getElem? (i := 551) (by decide +kernel), fun _ h => absurd h List.not_mem_nil⟩⟩⟩⟩
theorem zDe_tbl : ∀ x ∈ zDe, Cond.declares x ∈ tables_1 := List.forall_mem_cons.mpr ⟨List.mem_of_getElem? (i := 181) (by decide +kernel), List.forall_mem_cons.mpr ⟨List.mem_of_getElem? (i := 183) (by decide +kernel), List.forall_mem_cons.mpr ⟨List.mem_of_getElem? (i := 185) (by decide +kernel), fun _ h => absurd h List.not_mem_nil⟩⟩⟩
theorem zNc_giv {args : Array Value} {s : State} (hgv : (Jvm.Cond.and given_1 narrow_1).before args s = true) : ∀ q ∈ zNcL, va_Nc q.1 q.2 s := by
  have hs := flat_of_before _ hgv
  exact List.forall_mem_cons.mpr ⟨va_Nc.of (hs _ (by decide +kernel)), List.forall_mem_cons.mpr ⟨va_Nc.of (hs _ (by decide +kernel)), List.forall_mem_cons.mpr ⟨va_Nc.of (hs _ (by decide +kernel)), List.forall_mem_cons.mpr ⟨va_Nc.of (hs _ (by decide +kernel)), List.forall_mem_cons.mpr ⟨va_Nc.of (hs _ (by decide +kernel)), List.forall_mem_cons.mpr ⟨va_Nc.of (hs _ (by decide +kernel)), List.forall_mem_cons.mpr ⟨va_Nc.of (hs _ (by decide +kernel)), List.forall_mem_cons.mpr ⟨va_Nc.of (hs _ (by decide +kernel)), List.forall_mem_cons.mpr ⟨va_Nc.of (hs _ (by decide +kernel)), List.forall_mem_cons.mpr ⟨va_Nc.of (hs _ (by decide +kernel)), List.forall_mem_cons.mpr ⟨va_Nc.of (hs _ (by decide +kernel)), List.forall_mem_cons.mpr ⟨va_Nc.of (hs _ (by decide +kernel)), fun _ h => absurd h List.not_mem_nil⟩⟩⟩⟩⟩⟩⟩⟩⟩⟩⟩⟩
theorem zThr0 {args : Array Value} {s : State} {A : Nat → Prop} (hts : ∀ w ∈ lw_tbl, w.before args s = true) (hgv : (Jvm.Cond.and given_1 narrow_1).before args s = true) (hA : ∀ a : Nat, a < s.heap.size → ¬ A a) : zThr A s := by
  have hs := flat_of_before _ hgv
  have hK : (Cond.instantiable RK 7).before args s = true := hts _ (lw_in (List.mem_of_getElem? (i := 18) (by decide +kernel)))
  obtain ⟨cK, kK, hfc, -⟩ := Cond.instantiable_spec hK
  refine ⟨vx_Zqof (args := args) (hts _ (lw_in (List.mem_of_getElem? (i := 204) (by decide +kernel)))) (hts _ (lw_in (List.mem_of_getElem? (i := 8) (by decide +kernel)))) (hs _ (by decide +kernel)) hA, vx_Zqof (args := args) (hts _ (lw_in (List.mem_of_getElem? (i := 206) (by decide +kernel)))) (hts _ (lw_in (List.mem_of_getElem? (i := 8) (by decide +kernel)))) (hs _ (by decide +kernel)) hA, fun q hq => ?_, fun C hC => va_Nw.of rfl (hts _ (lw_in (zCa_tbl C hC))), zNc_giv hgv, fun x hx => va_Nw.of rfl (hts _ (lw_in (zDe_tbl x hx)))⟩
  have h1 := hts _ (lw_in (zTx_tbl q hq))
  obtain ⟨-, -, -, a, -, -, -, -, -, hev⟩ := Cond.stringRef_spec hfc h1
  exact ⟨a, vk_R.of h1 hev⟩
theorem zb_into {X : zC} {F : State → Prop} {u : Nat × Nat} {pc : Nat} {L : List (Nat × Value)} {S : List Value} {M : zM} (ad : Nat → Nat) (k : zInj ad → (∀ q, zA ad (zs X).heap.size q → (zs X).heap.size ≤ q) → zF (zp X, zl X, ze X, zRo X, zs X, zm X, zas X, zbe X, zme X, zco X, zDD X, zca X, ad) F u pc L S M) : zB X (fun q => (zs X).heap.size ≤ q) F u pc (zcl ad L) (S.map (zcv ad)) (zwd (zca X) ad M) := by
  intro ls H locs hl hP hD hS
  have h1 : zInj ad := fun i j hi hj h => hD.1 i j _ _ (zwd_get hi) (zwd_get hj) h
  have h2 : ∀ q, zA ad (zs X).heap.size q → (zs X).heap.size ≤ q := fun q h => by
    rcases h with ⟨k, hk, e⟩ | h
    · rw [e]; exact hD.2 k _ (zwd_get hk)
    · exact h
  exact k h1 h2 ls H locs hl hP ⟨hS.1, fun q h3 h4 => hS.2.1 q h3 (fun h5 => h4 (Or.inr h5)), fun q hq => Or.inr (hS.2.2 q hq)⟩
set_option maxHeartbeats 8000000 in
set_option maxRecDepth 100000 in
theorem lw_first {X : zC} {l : Launch} {b L : Nat} {xs : Nat → Int32} (hc : zCy X l mL_law room_1) (hao : va_AO zRegion (zs X)) (hthr : ∀ A : Nat → Prop, (∀ a : Nat, a < (zs X).heap.size → ¬ A a) → zThr A (zs X)) (htr : l.stackTraces = false) (hX : va_X b L xs (zs X) (zs X).heap) (hbl : b < (zs X).heap.size) (hL : L ≤ 2560) (has : zas X = #[Value.ref b]) : zB X (fun q => (zs X).heap.size ≤ q) (lw_Z (zbe X) #[Value.ref b] (zs X)) (0, 0) 0 [(0, .ref b)] [] [] := by
  have hA : ∀ q, (zs X).heap.size ≤ q → (zs X).heap.size ≤ q := fun q h => h
  refine zb_new hc hA nwL_8 dL_law_0 ⟨Nat.le_of_ble_eq_true rfl, Nat.le_of_ble_eq_true rfl⟩ (fun q1 => ?_)
  refine zb_dup hc dL_law_3 ?_
  refine zb_ctorL hc hA hao kK_init ⟨klL, iiK, rfl, rfl⟩ (ctK l) ⟨Nat.le_of_ble_eq_true rfl, Nat.le_of_ble_eq_true rfl⟩ (Nat.le_of_ble_eq_true rfl) ⟨Nat.le_of_ble_eq_true rfl, Nat.le_of_ble_eq_true rfl⟩ dL_law_4 (fun u e1 => ?_)
  subst e1
  refine zb_astore_n (Lv' := [(1, .ref (u 0)), (0, .ref b)]) hc dL_law_7 (by decide) rfl ?_
  refine zb_eq (ws' := wwK (zca X) u) rfl ?_
  refine zb_new hc hA nwL_72 dL_law_8 ⟨Nat.le_of_ble_eq_true rfl, Nat.le_of_ble_eq_true rfl⟩ (fun q2 => ?_)
  refine zb_dup hc dL_law_11 ?_
  refine zb_ctorL hc hA hao kM_init ⟨kmL, iiM, rfl, rfl⟩ (ctM l) ⟨Nat.le_of_ble_eq_true rfl, Nat.le_of_ble_eq_true rfl⟩ (Nat.le_of_ble_eq_true rfl) ⟨Nat.le_of_ble_eq_true rfl, Nat.le_of_ble_eq_true rfl⟩ dL_law_12 (fun v e2 => ?_)
  subst e2
  refine zb_astore_n (Lv' := [(2, .ref (v 0)), (1, .ref (u 0)), (0, .ref b)]) hc dL_law_15 (by decide) rfl ?_
  refine zb_iconst hc (1 : Int32) dL_law_16 rfl ?_
  refine zb_newJ 1 hc hA acJ dL_law_17 (by decide) rfl (by decide) ⟨Nat.le_of_ble_eq_true rfl, Nat.le_of_ble_eq_true rfl⟩ (fun q => ?_)
  refine zb_astore_n (Lv' := [(3, .ref q), (2, .ref (v 0)), (1, .ref (u 0)), (0, .ref b)]) hc dL_law_19 (by decide) rfl ?_
  refine zb_iconst hc (0 : Int32) dL_law_20 rfl ?_
  refine zb_istore (Lv' := [(4, .int 0), (3, .ref q), (2, .ref (v 0)), (1, .ref (u 0)), (0, .ref b)]) hc dL_law_21 (by decide) rfl ?_
  refine zb_alike (q0 := 1) (a := u 1) (n := 6) (cA := (zca X).2.2.2) (f := fun j => some (u (zel 1 j))) (fun j => some (zAd u v q b (zel 1 j))) rfl (fun j hj => match j, hj with | 0, _ => rfl | 1, _ => rfl | 2, _ => rfl | 3, _ => rfl | 4, _ => rfl | 5, _ => rfl | n + 6, h => by omega) ?_
  refine zb_alike (q0 := 2) (a := u 2) (n := 4) (cA := (zca X).2.2.2) (f := fun j => some (u (zel 2 j))) (fun j => some (zAd u v q b (zel 2 j))) rfl (fun j hj => match j, hj with | 0, _ => rfl | 1, _ => rfl | 2, _ => rfl | 3, _ => rfl | n + 4, h => by omega) ?_
  refine zb_eq (zW0 (zca X) u v q b) ?_
  refine zb_into (L := [(4, .int 0), (3, .ref 81), (2, .ref 62), (1, .ref 0), (0, .ref 82)]) (S := []) (zAd u v q b) (fun hi h2 => ?_)
  obtain ⟨a1, a2, a3, a4, a5, a6, a7, a8, a9, a10, a11, a12⟩ := hc
  refine zx_loc (L' := zLv 0) (fun y hy => by
    simp only [zLv, List.mem_cons, List.not_mem_nil, or_false] at hy ⊢
    rcases hy with h | h | h | h | h <;> subst h
    · exact Or.inr (Or.inr (Or.inr (Or.inr rfl)))
    · exact Or.inr (Or.inr (Or.inr (Or.inl rfl)))
    · exact Or.inr (Or.inr (Or.inl rfl))
    · exact Or.inr (Or.inl rfl)
    · exact Or.inl rfl) ?_
  exact lw_loop (c0 := 82) (s0 := 17007) (b := b) (L := L) (xs := xs) (X := (zp X, zl X, ze X, zRo X, zs X, zm X, zas X, zbe X, zme X, zco X, zDD X, zca X, zAd u v q b)) ⟨a1, a2, a3, a4, a5, a6, hi, a8, a9, a10, a11, a12⟩ (hthr _ (fun a h z => absurd (h2 a z) (Nat.not_le_of_lt h))) htr ⟨hX, hbl, fun z => absurd (h2 b z) (Nat.not_le_of_lt hbl), rfl⟩ hL h2 has ⟨by decide, by decide⟩ 512 0 rfl zM0 ⟨0, [], fun _ => [], zV0⟩
theorem whole_start {p : Program} {e : Env} {s : State} {m : MethodId} {below : List Frame} {meth : Method} {c : Code} (l : Launch) {b L : Nat} {xs : Nat → Int32} (hL : L ≤ 2560) (htr : l.stackTraces = false) (C0 : lw_At p s m meth c b L xs) : W p l e room_1 s m #[Value.ref b] below meth c s.heap [] 0 0 (lw_Z below #[Value.ref b] s) (entryFrame m ([Value.ref b] : List Value).toArray 8) := by
  obtain ⟨hx, hb, hr, hml, hown, hts, hX, hbl, hlocks, hgv⟩ := C0
  have hz : ∀ w ∈ zWS, w.before #[Value.ref b] s = true := fun w hw => hts w (List.mem_filter.mp hw).1
  have hao : va_AO zRegion s := va_AO.of (hts _ (lw_in (List.mem_of_getElem? (i := 26) (by decide +kernel))))
  obtain ⟨D, ca, hK⟩ := zKn0 hz hao
  have hN : zNst s := fun q hq => va_Nw.of rfl (hts _ (lw_in (zNL_tbl q hq)))
  rw [lg_entry_eq]
  have hl := lv_entry ([.ref b]) (n := 8) (Nat.le_of_ble_eq_true rfl)
  have key := lw_first (X := (p, l, e, room_1, s, m, #[Value.ref b], below, meth, c, D, ca, id)) (l := l) (b := b) (L := L) (xs := xs) ⟨hx, hb, hml, hown, hz, hK, fun i j _ _ h => h, hr, hlocks, rfl, rfl, hN⟩ hao (fun A h => zThr0 hts hgv h) htr hX hbl hL rfl
  exact key _ _ _ (by show lv_has _ c.maxLocals _; rw [hml]; exact hl) (fun k q h => by cases h) ⟨(fun i j x y h => by cases h), fun k q h => by cases h⟩ va_S.rf
