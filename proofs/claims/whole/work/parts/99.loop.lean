/-! The law's loop. -/
def zLv (i : Nat) : List (Nat × Value) := [(0, .ref 82), (1, .ref 0), (2, .ref 62), (3, .ref 81), (4, .int (nI (5 * i)))]
theorem lw_last {X : zC} {l : Launch} {b : Nat} {u : Nat × Nat} {M : zM} {LL : List (Nat × Value)} (hc : zCy X l mL_law room_1) (hA : ∀ q, zA (zad X) (zs X).heap.size q → (zs X).heap.size ≤ q) (has : zas X = #[Value.ref b]) (hu : u.1 ≤ 601024 ∧ u.2 ≤ 7293034) : zF X (lw_Z (zbe X) #[Value.ref b] (zs X)) u 945 LL [] M := by
  refine zx_iconst hc (1 : Int32) dL_law_945 rfl ?_
  intro ls H locs hl hP hS
  refine va_forget (fun q hq => hA _ (hS.2.2 q hq)) ?_
  refine W.widen (k := 601024) (n := 7293034) hu.1 hu.2 ?_
  rw [hc.2.2.2.2.2.2.2.2.2.1, has]
  exact lw_ret hc.1 hc.2.1 hc.2.2.2.2.2.2.2.1 hc.2.2.2.2.2.2.2.2.1 dL_law_946
theorem lw_turn {X : zC} {l : Launch} {F : State → Prop} {b L i c0 s0 : Nat} {xs : Nat → Int32} {M : zM} (hc : zCy X l mL_law room_1) (hT : zThr (zA (zad X) (zs X).heap.size) (zs X)) (htr : l.stackTraces = false) (hx : zLX X b L xs) (hL : L ≤ 2560) (hi : 5 * i + 5 ≤ L) (hu : c0 + 4 ≤ room_1.cells ∧ s0 + 24 ≤ room_1.slots) (hv : ∃ h cs R, zV M h cs R) (next : ∀ M', (∃ h' cs' R', zV M' h' cs' R') → zF X F (c0 + 4, s0 + 24) 23 (zLv (i + 1)) [] M') : zF X F (c0, s0) 32 (zLv i) [] M := by
  obtain ⟨h, cs, R, v⟩ := hv
  have nx : ∀ (M' : zM), (∃ h' cs' R', zV M' h' cs' R') → zF X F (c0 + 4, s0 + 24) 939 [(0, .ref 82), (1, .ref 0), (2, .ref 62), (3, .ref 81), (4, .int (nI (5 * i)))] [] M' := by
    intro M' w
    refine zx_iinc hc (nI (5 * (i + 1))) dL_law_939 rfl (by rw [show (Int32.ofInt 5) = nI 5 from rfl, nI_add]; congr 1) (by decide) ?_
    refine zx_goto 23 hc dL_law_942 rfl ?_
    exact next M' w
  refine zx_aload_n hc dL_law_32 rfl ?_
  refine zx_iload hc dL_law_33 rfl ?_
  refine zl_sld hc hx dL_law_35 (by omega) hL ?_
  refine zx_bipush hc (31 : Int32) dL_law_36 rfl ?_
  refine zx_iand hc dL_law_38 ?_
  generalize xs (5 * i) &&& 31 = w
  by_cases w0 : w = 0
  · exact zx_tabIn 120 hc dL_law_39 0 w0 (by decide) (by decide) rfl rfl (lw_member hc hT htr hx hL hi hu v nx)
  by_cases w1 : w = 1
  · exact zx_tabIn 228 hc dL_law_39 1 w1 (by decide) (by decide) rfl rfl (lw_row hc hT htr hx hL hi hu v nx)
  by_cases w2 : w = 2
  · exact zx_tabIn 272 hc dL_law_39 2 w2 (by decide) (by decide) rfl rfl (lw_and hc hT htr hx hL hi hu v nx)
  by_cases w3 : w = 3
  · exact zx_tabIn 296 hc dL_law_39 3 w3 (by decide) (by decide) rfl rfl (lw_or hc hT htr hx hL hi hu v nx)
  by_cases w4 : w = 4
  · exact zx_tabIn 320 hc dL_law_39 4 w4 (by decide) (by decide) rfl rfl (lw_not hc hT htr hx hL hi hu v nx)
  by_cases w5 : w = 5
  · exact zx_tabIn 344 hc dL_law_39 5 w5 (by decide) (by decide) rfl rfl (lw_free hc hT htr hx hL hi hu v nx)
  by_cases w6 : w = 6
  · exact zx_tabIn 380 hc dL_law_39 6 w6 (by decide) (by decide) rfl rfl (lw_keep hc hT htr hx hL hi hu v nx)
  by_cases w7 : w = 7
  · exact zx_tabIn 416 hc dL_law_39 7 w7 (by decide) (by decide) rfl rfl (lw_load hc hT htr hx hL hi hu v nx)
  by_cases w8 : w = 8
  · exact zx_tabIn 472 hc dL_law_39 8 w8 (by decide) (by decide) rfl rfl (lw_drop hc hT htr hx hL hi hu v nx)
  by_cases w9 : w = 9
  · exact zx_tabIn 485 hc dL_law_39 9 w9 (by decide) (by decide) rfl rfl (lw_pile hc hT htr hx hL hi hu v nx)
  by_cases w10 : w = 10
  · exact zx_tabIn 498 hc dL_law_39 10 w10 (by decide) (by decide) rfl rfl (lw_rows hc hT htr hx hL hi hu v nx)
  by_cases w11 : w = 11
  · exact zx_tabIn 542 hc dL_law_39 11 w11 (by decide) (by decide) rfl rfl (lw_members hc hT htr hx hL hi hu v nx)
  by_cases w12 : w = 12
  · exact zx_tabIn 598 hc dL_law_39 12 w12 (by decide) (by decide) rfl rfl (lw_part hc hT htr hx hL hi hu v nx)
  by_cases w13 : w = 13
  · exact zx_tabIn 678 hc dL_law_39 13 w13 (by decide) (by decide) rfl rfl (lw_holds hc hT htr hx hL hi hu v nx)
  by_cases w14 : w = 14
  · exact zx_tabIn 765 hc dL_law_39 14 w14 (by decide) (by decide) rfl rfl (lw_within hc hT htr hx hL hi hu v nx)
  by_cases w15 : w = 15
  · exact zx_tabIn 816 hc dL_law_39 15 w15 (by decide) (by decide) rfl rfl (lw_least hc hT htr hx hL hi hu v nx)
  by_cases w16 : w = 16
  · exact zx_tabIn 884 hc dL_law_39 16 w16 (by decide) (by decide) rfl rfl (lw_value hc hT htr hx hL hi hu v nx)
  have e : ∀ k : Int32, w ≠ k → w.toInt ≠ k.toInt := fun k h z => h (Int32.toInt_inj.mp z)
  have e0 := e 0 w0; have e1 := e 1 w1; have e2 := e 2 w2; have e3 := e 3 w3; have e4 := e 4 w4; have e5 := e 5 w5; have e6 := e 6 w6; have e7 := e 7 w7; have e8 := e 8 w8
  have e9 := e 9 w9; have e10 := e 10 w10; have e11 := e 11 w11; have e12 := e 12 w12; have e13 := e 13 w13; have e14 := e 14 w14; have e15 := e 15 w15; have e16 := e 16 w16
  refine zx_tabOut 939 hc dL_law_39 (by
    rw [show (0 : Int32).toInt = 0 from rfl] at e0; rw [show (1 : Int32).toInt = 1 from rfl] at e1; rw [show (2 : Int32).toInt = 2 from rfl] at e2; rw [show (3 : Int32).toInt = 3 from rfl] at e3; rw [show (4 : Int32).toInt = 4 from rfl] at e4; rw [show (5 : Int32).toInt = 5 from rfl] at e5; rw [show (6 : Int32).toInt = 6 from rfl] at e6; rw [show (7 : Int32).toInt = 7 from rfl] at e7; rw [show (8 : Int32).toInt = 8 from rfl] at e8; rw [show (9 : Int32).toInt = 9 from rfl] at e9; rw [show (10 : Int32).toInt = 10 from rfl] at e10; rw [show (11 : Int32).toInt = 11 from rfl] at e11; rw [show (12 : Int32).toInt = 12 from rfl] at e12; rw [show (13 : Int32).toInt = 13 from rfl] at e13; rw [show (14 : Int32).toInt = 14 from rfl] at e14; rw [show (15 : Int32).toInt = 15 from rfl] at e15; rw [show (16 : Int32).toInt = 16 from rfl] at e16
    omega) rfl ?_
  exact zx_widen (u' := (c0 + 4, s0 + 24)) (by show c0 ≤ c0 + 4; omega) (by show s0 ≤ s0 + 24; omega) (nx M ⟨h, cs, R, v⟩)
theorem lw_loop {X : zC} {l : Launch} {b L c0 s0 : Nat} {xs : Nat → Int32} (hc : zCy X l mL_law room_1) (hT : zThr (zA (zad X) (zs X).heap.size) (zs X)) (htr : l.stackTraces = false) (hx : zLX X b L xs) (hL : L ≤ 2560) (hA : ∀ q, zA (zad X) (zs X).heap.size q → (zs X).heap.size ≤ q) (has : zas X = #[Value.ref b]) (hu : c0 + 4 * 512 ≤ 601024 ∧ s0 + 24 * 512 ≤ 7293034) : ∀ (n i : Nat), i + n = 512 → ∀ M, (∃ h cs R, zV M h cs R) → zF X (lw_Z (zbe X) #[Value.ref b] (zs X)) (c0 + 4 * i, s0 + 24 * i) 23 (zLv i) [] M := by
  intro n
  induction n with
  | zero =>
    intro i hi M hv
    refine zx_iload hc dL_law_23 rfl ?_
    refine zx_aload_n hc dL_law_25 rfl ?_
    refine zl_slen hc hx dL_law_26 ?_
    refine zx_iconst hc (5 : Int32) dL_law_27 rfl ?_
    refine zx_isub hc dL_law_28 ?_
    refine zx_icmp_gt 945 hc dL_law_29 rfl (fun _ => lw_last hc hA has ⟨by have := hu.1; show c0 + 4 * i ≤ _; omega, by have := hu.2; show s0 + 24 * i ≤ _; omega⟩) (fun h => ?_)
    have := lw_go hL (by omega) h
    omega
  | succ n ih =>
    intro i hi M hv
    refine zx_iload hc dL_law_23 rfl ?_
    refine zx_aload_n hc dL_law_25 rfl ?_
    refine zl_slen hc hx dL_law_26 ?_
    refine zx_iconst hc (5 : Int32) dL_law_27 rfl ?_
    refine zx_isub hc dL_law_28 ?_
    refine zx_icmp_gt 945 hc dL_law_29 rfl (fun _ => lw_last hc hA has ⟨by have := hu.1; show c0 + 4 * i ≤ _; omega, by have := hu.2; show s0 + 24 * i ≤ _; omega⟩) (fun h => ?_)
    have hg := lw_go hL (by omega) h
    refine lw_turn hc hT htr hx hL hg ⟨by have := hu.1; show c0 + 4 * i + 4 ≤ 601024; omega, by have := hu.2; show s0 + 24 * i + 24 ≤ 7293034; omega⟩ hv (fun M' w => ?_)
    have := ih (i + 1) (by omega) M' w
    rw [show c0 + 4 * (i + 1) = c0 + 4 * i + 4 by omega, show s0 + 24 * (i + 1) = s0 + 24 * i + 24 by omega] at this
    exact this
