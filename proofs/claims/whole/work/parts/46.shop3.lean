/-! The workshop: FREE. -/
/-- a member's number in a column -/
def gu (col : Int32) (m : gC) : Int := if col = 0 then m.1 else m.2.1
def gsum (col : Int32) (m k : gC) : gC := (-gu col k * m.1 + gu col m * k.1, -gu col k * m.2.1 + gu col m * k.2.1, -gu col k * m.2.2.1 + gu col m * k.2.2.1, m.2.2.2 || k.2.2.2)
def gels1 (col : Int32) (m : gC) (k : gC) : Option gC := if gu col k < 0 then some (gsum col m k) else none
def gel (col : Int32) (row : List gC) (m : gC) : List gC := if gu col m = 0 then [m] else if 0 < gu col m then row.filterMap (gels1 col m) else []
def gels (col : Int32) (row : List gC) : List gC := row.flatMap (gel col row)
theorem gu_lim {col : Int32} {m : gC} (h : gLim m) : (gu col m).natAbs ≤ 10000 := by unfold gu; split; exact h.1; exact h.2.1
def gW (q : gC) : Prop := q.1.natAbs ≤ 200000000 ∧ q.2.1.natAbs ≤ 200000000 ∧ q.2.2.1.natAbs ≤ 200000000
theorem gsum_b {col : Int32} {m k : gC} (hm : gLim m) (hk : gLim k) : gW (gsum col m k) := by
  have h1 := gu_lim (col := col) hm
  have h2 := gu_lim (col := col) hk
  have key : ∀ a b : Int, a.natAbs ≤ 10000 → b.natAbs ≤ 10000 → (-gu col k * a + gu col m * b).natAbs ≤ 200000000 := fun a b ha hb => by
    have p1 := g_mulb (A := 10000) (B := 10000) (a := -gu col k) (b := a) (by omega) (by omega)
    have p2 := g_mulb (A := 10000) (B := 10000) (a := gu col m) (b := b) (by omega) (by omega)
    omega
  exact ⟨key _ _ hm.1 hk.1, key _ _ hm.2.1 hk.2.1, key _ _ hm.2.2 hk.2.2⟩
theorem gel_all {col : Int32} {row : List gC} (hr : ∀ q ∈ row, gLim q) {m : gC} (hm : gLim m) : ∀ q ∈ gel col row m, gW q ∧ gu col q = 0 := by
  intro q hq
  unfold gel at hq
  split at hq
  · rename_i h
    rw [List.mem_singleton.mp hq]
    exact ⟨⟨by have := hm.1; omega, by have := hm.2.1; omega, by have := hm.2.2; omega⟩, h⟩
  · split at hq
    · obtain ⟨k, hk, hs⟩ := List.mem_filterMap.mp hq
      unfold gels1 at hs
      split at hs
      · rw [← Option.some.inj hs]
        refine ⟨gsum_b hm (hr k hk), ?_⟩
        unfold gsum gu
        split
        · simp only; grind
        · simp only; grind
      · cases hs
    · cases hq
theorem gputs_all {P : gC → Prop} (hstr : ∀ q m, P q → P m → P (gstr q m)) {ms : List gC} : ∀ {ls : List gC}, (∀ q ∈ ls, P q) → (∀ m ∈ ms, P (gnorm m)) → ∀ q ∈ ms.foldl gput ls, P q := by
  induction ms with
  | nil => intro ls h _; exact h
  | cons m t ih =>
    intro ls h hm
    refine ih ?_ (fun q hq => hm q (List.mem_cons_of_mem _ hq))
    unfold gput
    split
    · exact h
    · exact gins_all (hm m List.mem_cons_self) (fun q hq => hstr q _ hq (hm m List.mem_cons_self)) h
theorem gok_free {col : Int32} {ms : List gC} (h : ∀ q ∈ ms, gW q ∧ gu col q = 0) : gOK (ms.foldl gput []) := by
  have hb : ∀ (a : Int) (g : Nat), a.natAbs ≤ 200000000 → (a.tdiv g).natAbs ≤ 200000000 := fun a g h => Nat.le_of_lt_succ (g_tdivb (B := 200000001) (by omega))
  have key : ∀ q ∈ ms.foldl gput [], gW q ∧ gu col q = 0 := by
    refine gputs_all (P := fun q => gW q ∧ gu col q = 0) (fun q m hq hm => ?_) (fun q hq => by cases hq) (fun m hm => ?_)
    · have := gstr_key q m
      refine ⟨?_, by unfold gu; rw [this.1, this.2]; exact hq.2⟩
      unfold gstr
      split
      · exact ⟨hq.1.1, hq.1.2.1, hm.1.2.2⟩
      · split
        · exact ⟨hq.1.1, hq.1.2.1, hq.1.2.2⟩
        · exact hq.1
    · obtain ⟨h1, h2⟩ := h m hm
      refine ⟨⟨hb _ _ h1.1, hb _ _ h1.2.1, hb _ _ h1.2.2⟩, ?_⟩
      unfold gu gnorm at *
      split at h2 <;> rename_i hc
      · rw [if_pos hc]; show m.1.tdiv _ = 0; rw [h2, Int.zero_tdiv]
      · rw [if_neg hc]; show m.2.1.tdiv _ = 0; rw [h2, Int.zero_tdiv]
  unfold gu at key
  by_cases hc : col = 0
  · right; right
    intro q hq
    obtain ⟨⟨-, h2, h3⟩, h4⟩ := key q hq
    rw [if_pos hc] at h4
    exact ⟨h4, h2, h3⟩
  · right; left
    intro q hq
    obtain ⟨⟨h1, -, h3⟩, h4⟩ := key q hq
    rw [if_neg hc] at h4
    exact ⟨h1, h4, h3⟩
theorem gels_len {col : Int32} {row : List gC} (h : row.length ≤ 12) : (gels col row).length ≤ 36 := by
  have key : ∀ l : List gC, (l.flatMap (gel col row)).length = l.countP (fun m => decide (gu col m = 0)) + l.countP (fun m => decide (0 < gu col m)) * row.countP (fun m => decide (gu col m < 0)) := by
    intro l
    induction l with
    | nil => simp
    | cons m t ih =>
      rw [List.flatMap_cons, List.length_append, ih, List.countP_cons, List.countP_cons]
      unfold gel
      have hf : ∀ l : List gC, (l.filterMap (gels1 col m)).length = l.countP (fun m => decide (gu col m < 0)) := by
        intro l
        induction l with
        | nil => rfl
        | cons a b ih =>
          rw [List.countP_cons, ← ih]
          unfold gels1
          by_cases hc : gu col a < 0
          · rw [List.filterMap_cons_some (b := gsum col m a) (by rw [if_pos hc])]; simp [hc]
          · rw [List.filterMap_cons_none (by rw [if_neg hc])]; simp [hc]
      by_cases c1 : gu col m = 0
      · rw [if_pos c1, if_pos (by simp [c1]), if_neg (by simp [c1])]
        simp only [List.length_cons, List.length_nil, Nat.add_zero]; omega
      · rw [if_neg c1]
        by_cases c2 : 0 < gu col m
        · rw [if_pos c2, if_neg (by simp [c1]), if_pos (by simp [c2]), hf]
          rw [Nat.add_mul]; omega
        · rw [if_neg c2, if_neg (by simp [c1]), if_neg (by simp [c2])]
          simp only [List.length_nil, Nat.add_zero]; omega
  have tot : ∀ l : List gC, l.countP (fun m => decide (gu col m = 0)) + l.countP (fun m => decide (0 < gu col m)) + l.countP (fun m => decide (gu col m < 0)) = l.length := by
    intro l
    induction l with
    | nil => rfl
    | cons m t ih =>
      rw [List.countP_cons, List.countP_cons, List.countP_cons, List.length_cons]
      rcases Int.lt_trichotomy (gu col m) 0 with c | c | c
      · rw [if_neg (by simp; omega), if_neg (by simp; omega), if_pos (by simpa using c)]; omega
      · rw [if_pos (by simpa using c), if_neg (by simp; omega), if_neg (by simp; omega)]; omega
      · rw [if_neg (by simp; omega), if_pos (by simpa using c), if_neg (by simp; omega)]; omega
  unfold gels
  rw [key row]
  have ht := tot row
  generalize row.countP (fun m => decide (gu col m = 0)) = a at *
  generalize row.countP (fun m => decide (0 < gu col m)) = b at *
  generalize row.countP (fun m => decide (gu col m < 0)) = c at *
  have fin : ∀ b, b < 13 → ∀ c, c < 13 - b → b * c + (12 - b - c) ≤ 36 := by decide
  have := fin b (by omega) c (by omega)
  omega

set_option maxRecDepth 100000 in
set_option maxHeartbeats 4000000 in
theorem cW_entry_ (l : Launch) {p j i : Nat} (M : zM) (col : Int32) (hp : zrg p) (hj : j < 12) (hi : i < 12) : zMet l mW_entry rW_entry [.ref p, .int (nI j), .int (nI i), .int col] M (zql (fun x M' => x.toInt = gu col (rg M p j i) ∧ M' = M)) := by
  refine za_enter (by decide) (Nat.le_of_ble_eq_true rfl) (fun X hc => ?_)
  have hpo := hp.o
  refine za_iload_n hc dW_entry_0 rfl ?_
  refine za_if_ne 14 hc dW_entry_1 rfl (fun h_1 => ?_) (fun h_1 => ?_)
  · skip
    refine za_aload_n hc dW_entry_14 rfl ?_
    refine za_iload_n hc dW_entry_15 rfl ?_
    refine za_iload_n hc dW_entry_16 rfl ?_
    refine za_cV2i hc gsW_80 (by assumption) (cR_y_ l M hp hj hi) ⟨rfl, rfl⟩ ⟨Nat.le_of_ble_eq_true rfl, Nat.le_of_ble_eq_true rfl⟩ ⟨Nat.zero_le _, Nat.zero_le _⟩ dW_entry_17 (fun x_17 M_17 h_17 => ?_)
    obtain ⟨q_17, hm_17⟩ := h_17
    rw [hm_17, q_17]
    refine za_i2l hc dW_entry_20 ?_
    exact za_lret hc rfl dW_entry_21 ⟨Nat.zero_le _, Nat.zero_le _⟩ (⟨_, rfl, by rw [i2l_int]; unfold gu; first | rw [if_pos h_1]; rfl | rw [if_neg h_1]; rfl, rfl⟩)
  · skip
    refine za_aload_n hc dW_entry_4 rfl ?_
    refine za_iload_n hc dW_entry_5 rfl ?_
    refine za_iload_n hc dW_entry_6 rfl ?_
    refine za_cV2i hc gsW_76 (by assumption) (cR_x_ l M hp hj hi) ⟨rfl, rfl⟩ ⟨Nat.le_of_ble_eq_true rfl, Nat.le_of_ble_eq_true rfl⟩ ⟨Nat.zero_le _, Nat.zero_le _⟩ dW_entry_7 (fun x_7 M_7 h_7 => ?_)
    obtain ⟨q_7, hm_7⟩ := h_7
    rw [hm_7, q_7]
    refine za_i2l hc dW_entry_10 ?_
    refine za_goto 21 hc dW_entry_11 rfl ?_
    exact za_lret hc rfl dW_entry_21 ⟨Nat.zero_le _, Nat.zero_le _⟩ (⟨_, rfl, by rw [i2l_int]; unfold gu; first | rw [if_pos h_1]; rfl | rw [if_neg h_1]; rfl, rfl⟩)

set_option maxRecDepth 100000 in
set_option maxHeartbeats 4000000 in
theorem cW_eliminate_ (l : Launch) {p j i : Nat} {R : List (List gC)} {row ls : List gC} {m : gC} (M : zM) (col : Int32) (hp : zrg p) (hR : rH M p R) (hrow : R[j]? = some row) (hm : row[i]? = some m) (hH : dH M 13 ls) (hlen : ls.length + (gel col row m).length ≤ 36) : zMet l mW_eliminate rW_eliminate [.ref 12, .ref p, .int (nI j), .int (nI i), .int col] M (zqv (fun M' => dH M' 13 ((gel col row m).foldl gput ls) ∧ zfr (dB 13) M M')) := by
  refine za_enter (by decide) (Nat.le_of_ble_eq_true rfl) (fun X hc => ?_)
  have hw := zob_12
  have hd := zdr_13
  have hdo := hd.o
  have hno : zob (12 + 1) 0 := hd.o
  have hpo := hp.o
  obtain ⟨hw1, hw2, hw3, hw4⟩ := hR.2.2 j row hrow
  have hjl : j < 12 := by have := (List.getElem?_eq_some_iff.mp hrow).1; have := hR.2.1; omega
  have hi := (List.getElem?_eq_some_iff.mp hm).1
  have hi12 : i < 12 := by omega
  have em := hw3 i _ hm
  have hlm := hw4 _ (List.mem_of_getElem? hm)
  have hlmi := hlm
  rw [← em] at hlmi
  have b1i : (zI M (p + 2) (48 * j + 4 * i)).toInt.natAbs ≤ 10000 := hlmi.1
  have b2i : (zI M (p + 2) (48 * j + 4 * i + 1)).toInt.natAbs ≤ 10000 := hlmi.2.1
  have b3i : (zI M (p + 2) (48 * j + 4 * i + 2)).toInt.natAbs ≤ 10000 := hlmi.2.2
  have loop : ∀ (u : Int64), u.toInt = gu col m → 0 < gu col m → (row.filterMap (gels1 col m)).length + ls.length ≤ 36 → ∀ n k (M1 : zM), n + k = row.length → dH M1 13 (((row.take k).filterMap (gels1 col m)).foldl gput ls) → zfr (dB 13) M M1 → zW X (zqv (fun M' => dH M' 13 ((gel col row m).foldl gput ls) ∧ zfr (dB 13) M M')) (0, 0) 62 [(0, .ref 12), (1, .ref p), (2, .int (nI j)), (3, .int (nI i)), (4, .int col), (5, .long u), (7, .int (nI k))] [] M1 := by
    intro u hu hup hln n
    induction n with
    | zero =>
      intro k M1 hn hH1 hf
      obtain rfl : k = row.length := by omega
      have hR1 : rH M1 p R := rH_kept hR hf (fun z => dF_rg hd hp (b := 0) (by decide) (dB_F z)) (fun z => dF_rg hd hp (b := 1) (by decide) (dB_F z)) (fun z => dF_rg hd hp (b := 2) (by decide) (dB_F z))
      refine za_iload hc dW_eliminate_62 rfl ?_
      refine za_aload_n hc dW_eliminate_64 rfl ?_
      refine za_iload_n hc dW_eliminate_65 rfl ?_
      refine za_cV1i hc gsW_37 (by assumption) (cR_memberCount_ l M1 hp hjl) ⟨rfl, rfl⟩ ⟨Nat.le_of_ble_eq_true rfl, Nat.le_of_ble_eq_true rfl⟩ ⟨Nat.zero_le _, Nat.zero_le _⟩ dW_eliminate_66 (fun x_66 M_66 h_66 => ?_)
      obtain ⟨q_66, hm_66⟩ := h_66
      rw [hm_66, q_66, (hR1.2.2 j row hrow).2.1]
      refine za_icmp_ge 194 hc dW_eliminate_69 rfl (fun h_69 => ?_) (fun h_69 => ?_)
      · skip
        exact za_vret hc rfl dW_eliminate_194 ⟨Nat.zero_le _, Nat.zero_le _⟩ (⟨rfl, by unfold gel; rw [if_neg (by omega), if_pos hup]; rw [List.take_length] at hH1; exact hH1, hf⟩)
      · skip
        exact absurd (Int32.le_refl _) h_69
    | succ n ih =>
      intro k M1 hn hH1 hf
      have hR1 : rH M1 p R := rH_kept hR hf (fun z => dF_rg hd hp (b := 0) (by decide) (dB_F z)) (fun z => dF_rg hd hp (b := 1) (by decide) (dB_F z)) (fun z => dF_rg hd hp (b := 2) (by decide) (dB_F z))
      have kn : zI M1 (p + 2) = zI M (p + 2) := (hf _ (fun z => dF_rg hd hp (b := 2) (by decide) (dB_F z))).1
      have krg : rg M1 p = rg M p := by funext a b; unfold rg; rw [kn]
      have hk : k < row.length := by omega
      have hk12 : k < 12 := by omega
      have hrk := List.getElem?_eq_getElem (l := row) hk
      generalize hce : row[k] = c at hrk
      have ec := hw3 k _ hrk
      have hlc := hw4 _ (List.mem_of_getElem? hrk)
      have hlck := hlc
      rw [← ec] at hlck
      have b1k : (zI M (p + 2) (48 * j + 4 * k)).toInt.natAbs ≤ 10000 := hlck.1
      have b2k : (zI M (p + 2) (48 * j + 4 * k + 1)).toInt.natAbs ≤ 10000 := hlck.2.1
      have b3k : (zI M (p + 2) (48 * j + 4 * k + 2)).toInt.natAbs ≤ 10000 := hlck.2.2
      have htk : row.take (k + 1) = row.take k ++ [c] := by rw [List.take_succ, hrk]; rfl
      have hgc := gu_lim (col := col) hlc
      have hgm := gu_lim (col := col) hlm
      have hsub : ((row.take (k + 1)).filterMap (gels1 col m)).length ≤ (row.filterMap (gels1 col m)).length := List.Sublist.length_le (List.Sublist.filterMap _ (List.take_sublist _ _))
      refine za_iload hc dW_eliminate_62 rfl ?_
      refine za_aload_n hc dW_eliminate_64 rfl ?_
      refine za_iload_n hc dW_eliminate_65 rfl ?_
      refine za_cV1i hc gsW_37 (by assumption) (cR_memberCount_ l M1 hp hjl) ⟨rfl, rfl⟩ ⟨Nat.le_of_ble_eq_true rfl, Nat.le_of_ble_eq_true rfl⟩ ⟨Nat.zero_le _, Nat.zero_le _⟩ dW_eliminate_66 (fun x_66 M_66 h_66 => ?_)
      obtain ⟨q_66, hm_66⟩ := h_66
      rw [hm_66, q_66, (hR1.2.2 j row hrow).2.1]
      refine za_icmp_ge 194 hc dW_eliminate_69 rfl (fun h_69 => ?_) (fun h_69 => ?_)
      · skip
        exact absurd ((nI_leI (by omega) (by omega)).mp h_69) (by omega)
      · skip
        refine za_aload_n hc dW_eliminate_72 rfl ?_
        refine za_iload_n hc dW_eliminate_73 rfl ?_
        refine za_iload hc dW_eliminate_74 rfl ?_
        refine za_iload hc dW_eliminate_76 rfl ?_
        refine za_cS4l hc gsW_72 (cW_entry_ l M1 col hp hjl hk12) ⟨rfl, rfl⟩ ⟨Nat.le_of_ble_eq_true rfl, Nat.le_of_ble_eq_true rfl⟩ ⟨Nat.zero_le _, Nat.zero_le _⟩ dW_eliminate_78 (fun x_78 M_78 h_78 => ?_)
        obtain ⟨q_78, hm_78⟩ := h_78
        rw [krg, ec] at q_78
        rw [hm_78]
        refine za_lneg hc dW_eliminate_81 ?_
        refine za_lstore hc dW_eliminate_82 (by decide) ?_
        refine za_lload hc dW_eliminate_84 rfl ?_
        refine za_lconst hc 0 dW_eliminate_86 rfl ?_
        refine za_lcmp_le 188 hc dW_eliminate_87 dW_eliminate_88 rfl (fun h_87 => ?_) (fun h_87 => ?_)
        · skip
          have hgcn : ¬ gu col c < 0 := by
            have h1 : (-x_78).toInt ≤ 0 := Int64.le_iff_toInt_le.mp h_87
            rw [l_neg (by rw [q_78]; omega), q_78] at h1; omega
          have hfm : (row.take (k + 1)).filterMap (gels1 col m) = (row.take k).filterMap (gels1 col m) := by rw [htk, List.filterMap_append, List.filterMap_cons_none (by unfold gels1; rw [if_neg hgcn])]; simp
          refine za_iinc hc _ dW_eliminate_188 rfl ((nI_succ k).symm) (by decide) ?_
          refine za_goto 62 hc dW_eliminate_191 rfl ?_
          refine za_take 7 ?_
          exact ih (k + 1) M1 (by omega) (by rw [hfm]; exact hH1) hf
        · skip
          have hng : (-x_78).toInt = -gu col c := by rw [l_neg (by rw [q_78]; omega), q_78]
          have hgcn : gu col c < 0 := by
            have h1 : ¬ (-x_78).toInt ≤ 0 := fun z => h_87 (Int64.le_iff_toInt_le.mpr z)
            rw [hng] at h1; omega
          have s1 : (-x_78 * (zI M (p + 2) (48 * j + 4 * i)).toInt64 + u * (zI M (p + 2) (48 * j + 4 * k)).toInt64).toInt = -gu col c * (zI M (p + 2) (48 * j + 4 * i)).toInt + gu col m * (zI M (p + 2) (48 * j + 4 * k)).toInt := by
            have p1 := g_mulb (A := 10000) (B := 10000) (a := -gu col c) (b := (zI M (p + 2) (48 * j + 4 * i)).toInt) (by omega) (by omega)
            have p2 := g_mulb (A := 10000) (B := 10000) (a := gu col m) (b := (zI M (p + 2) (48 * j + 4 * k)).toInt) (by omega) (by omega)
            have q1 := l_mul (x := -x_78) (y := (zI M (p + 2) (48 * j + 4 * i)).toInt64) (by rw [hng, i2l_int]; omega) (by rw [hng, i2l_int]; omega)
            have q2 := l_mul (x := u) (y := (zI M (p + 2) (48 * j + 4 * k)).toInt64) (by rw [hu, i2l_int]; omega) (by rw [hu, i2l_int]; omega)
            rw [hng, i2l_int] at q1
            rw [hu, i2l_int] at q2
            rw [l_add (by rw [q1, q2]; omega) (by rw [q1, q2]; omega), q1, q2]
          have s2 : (-x_78 * (zI M (p + 2) (48 * j + 4 * i + 1)).toInt64 + u * (zI M (p + 2) (48 * j + 4 * k + 1)).toInt64).toInt = -gu col c * (zI M (p + 2) (48 * j + 4 * i + 1)).toInt + gu col m * (zI M (p + 2) (48 * j + 4 * k + 1)).toInt := by
            have p1 := g_mulb (A := 10000) (B := 10000) (a := -gu col c) (b := (zI M (p + 2) (48 * j + 4 * i + 1)).toInt) (by omega) (by omega)
            have p2 := g_mulb (A := 10000) (B := 10000) (a := gu col m) (b := (zI M (p + 2) (48 * j + 4 * k + 1)).toInt) (by omega) (by omega)
            have q1 := l_mul (x := -x_78) (y := (zI M (p + 2) (48 * j + 4 * i + 1)).toInt64) (by rw [hng, i2l_int]; omega) (by rw [hng, i2l_int]; omega)
            have q2 := l_mul (x := u) (y := (zI M (p + 2) (48 * j + 4 * k + 1)).toInt64) (by rw [hu, i2l_int]; omega) (by rw [hu, i2l_int]; omega)
            rw [hng, i2l_int] at q1
            rw [hu, i2l_int] at q2
            rw [l_add (by rw [q1, q2]; omega) (by rw [q1, q2]; omega), q1, q2]
          have s3 : (-x_78 * (zI M (p + 2) (48 * j + 4 * i + 2)).toInt64 + u * (zI M (p + 2) (48 * j + 4 * k + 2)).toInt64).toInt = -gu col c * (zI M (p + 2) (48 * j + 4 * i + 2)).toInt + gu col m * (zI M (p + 2) (48 * j + 4 * k + 2)).toInt := by
            have p1 := g_mulb (A := 10000) (B := 10000) (a := -gu col c) (b := (zI M (p + 2) (48 * j + 4 * i + 2)).toInt) (by omega) (by omega)
            have p2 := g_mulb (A := 10000) (B := 10000) (a := gu col m) (b := (zI M (p + 2) (48 * j + 4 * k + 2)).toInt) (by omega) (by omega)
            have q1 := l_mul (x := -x_78) (y := (zI M (p + 2) (48 * j + 4 * i + 2)).toInt64) (by rw [hng, i2l_int]; omega) (by rw [hng, i2l_int]; omega)
            have q2 := l_mul (x := u) (y := (zI M (p + 2) (48 * j + 4 * k + 2)).toInt64) (by rw [hu, i2l_int]; omega) (by rw [hu, i2l_int]; omega)
            rw [hng, i2l_int] at q1
            rw [hu, i2l_int] at q2
            rw [l_add (by rw [q1, q2]; omega) (by rw [q1, q2]; omega), q1, q2]
          have hse : gsum col m c = (-gu col c * (rg M p j i).1 + gu col m * (rg M p j k).1, -gu col c * (rg M p j i).2.1 + gu col m * (rg M p j k).2.1, -gu col c * (rg M p j i).2.2.1 + gu col m * (rg M p j k).2.2.1, (rg M p j i).2.2.2 || (rg M p j k).2.2.2) := by rw [em, ec]; rfl
          have hsb := gsum_b (col := col) hlm hlc
          rw [hse] at hsb
          have hfm : (row.take (k + 1)).filterMap (gels1 col m) = (row.take k).filterMap (gels1 col m) ++ [gsum col m c] := by rw [htk, List.filterMap_append, List.filterMap_cons_some (b := gsum col m c) (by unfold gels1; rw [if_pos hgcn])]; rfl
          have htl : (((row.take k).filterMap (gels1 col m)).foldl gput ls).length < 36 := by have := g_put_len ls ((row.take k).filterMap (gels1 col m)); rw [hfm, List.length_append] at hsub; simp only [List.length_cons, List.length_nil] at hsub; omega
          refine za_aload_n hc dW_eliminate_91 rfl ?_
          refine za_getS hc gfW_10 (by assumption) dW_eliminate_92 ?_
          refine za_lload hc dW_eliminate_95 rfl ?_
          refine za_aload_n hc dW_eliminate_97 rfl ?_
          refine za_iload_n hc dW_eliminate_98 rfl ?_
          refine za_iload_n hc dW_eliminate_99 rfl ?_
          refine za_cV2i hc gsW_76 (by assumption) (cR_x_ l M1 hp hjl hi12) ⟨rfl, rfl⟩ ⟨Nat.le_of_ble_eq_true rfl, Nat.le_of_ble_eq_true rfl⟩ ⟨Nat.zero_le _, Nat.zero_le _⟩ dW_eliminate_100 (fun x_100 M_100 h_100 => ?_)
          obtain ⟨q_100, hm_100⟩ := h_100
          rw [hm_100, q_100, kn]
          refine za_i2l hc dW_eliminate_103 ?_
          refine za_lmul hc dW_eliminate_104 ?_
          refine za_lload hc dW_eliminate_105 rfl ?_
          refine za_aload_n hc dW_eliminate_107 rfl ?_
          refine za_iload_n hc dW_eliminate_108 rfl ?_
          refine za_iload hc dW_eliminate_109 rfl ?_
          refine za_cV2i hc gsW_76 (by assumption) (cR_x_ l M1 hp hjl hk12) ⟨rfl, rfl⟩ ⟨Nat.le_of_ble_eq_true rfl, Nat.le_of_ble_eq_true rfl⟩ ⟨Nat.zero_le _, Nat.zero_le _⟩ dW_eliminate_111 (fun x_111 M_111 h_111 => ?_)
          obtain ⟨q_111, hm_111⟩ := h_111
          rw [hm_111, q_111, kn]
          refine za_i2l hc dW_eliminate_114 ?_
          refine za_lmul hc dW_eliminate_115 ?_
          refine za_ladd hc dW_eliminate_116 ?_
          refine za_lload hc dW_eliminate_117 rfl ?_
          refine za_aload_n hc dW_eliminate_119 rfl ?_
          refine za_iload_n hc dW_eliminate_120 rfl ?_
          refine za_iload_n hc dW_eliminate_121 rfl ?_
          refine za_cV2i hc gsW_80 (by assumption) (cR_y_ l M1 hp hjl hi12) ⟨rfl, rfl⟩ ⟨Nat.le_of_ble_eq_true rfl, Nat.le_of_ble_eq_true rfl⟩ ⟨Nat.zero_le _, Nat.zero_le _⟩ dW_eliminate_122 (fun x_122 M_122 h_122 => ?_)
          obtain ⟨q_122, hm_122⟩ := h_122
          rw [hm_122, q_122, kn]
          refine za_i2l hc dW_eliminate_125 ?_
          refine za_lmul hc dW_eliminate_126 ?_
          refine za_lload hc dW_eliminate_127 rfl ?_
          refine za_aload_n hc dW_eliminate_129 rfl ?_
          refine za_iload_n hc dW_eliminate_130 rfl ?_
          refine za_iload hc dW_eliminate_131 rfl ?_
          refine za_cV2i hc gsW_80 (by assumption) (cR_y_ l M1 hp hjl hk12) ⟨rfl, rfl⟩ ⟨Nat.le_of_ble_eq_true rfl, Nat.le_of_ble_eq_true rfl⟩ ⟨Nat.zero_le _, Nat.zero_le _⟩ dW_eliminate_133 (fun x_133 M_133 h_133 => ?_)
          obtain ⟨q_133, hm_133⟩ := h_133
          rw [hm_133, q_133, kn]
          refine za_i2l hc dW_eliminate_136 ?_
          refine za_lmul hc dW_eliminate_137 ?_
          refine za_ladd hc dW_eliminate_138 ?_
          refine za_lload hc dW_eliminate_139 rfl ?_
          refine za_aload_n hc dW_eliminate_141 rfl ?_
          refine za_iload_n hc dW_eliminate_142 rfl ?_
          refine za_iload_n hc dW_eliminate_143 rfl ?_
          refine za_cV2i hc gsW_83 (by assumption) (cR_bound_ l M1 hp hjl hi12) ⟨rfl, rfl⟩ ⟨Nat.le_of_ble_eq_true rfl, Nat.le_of_ble_eq_true rfl⟩ ⟨Nat.zero_le _, Nat.zero_le _⟩ dW_eliminate_144 (fun x_144 M_144 h_144 => ?_)
          obtain ⟨q_144, hm_144⟩ := h_144
          rw [hm_144, q_144, kn]
          refine za_i2l hc dW_eliminate_147 ?_
          refine za_lmul hc dW_eliminate_148 ?_
          refine za_lload hc dW_eliminate_149 rfl ?_
          refine za_aload_n hc dW_eliminate_151 rfl ?_
          refine za_iload_n hc dW_eliminate_152 rfl ?_
          refine za_iload hc dW_eliminate_153 rfl ?_
          refine za_cV2i hc gsW_83 (by assumption) (cR_bound_ l M1 hp hjl hk12) ⟨rfl, rfl⟩ ⟨Nat.le_of_ble_eq_true rfl, Nat.le_of_ble_eq_true rfl⟩ ⟨Nat.zero_le _, Nat.zero_le _⟩ dW_eliminate_155 (fun x_155 M_155 h_155 => ?_)
          obtain ⟨q_155, hm_155⟩ := h_155
          rw [hm_155, q_155, kn]
          refine za_i2l hc dW_eliminate_158 ?_
          refine za_lmul hc dW_eliminate_159 ?_
          refine za_ladd hc dW_eliminate_160 ?_
          refine za_aload_n hc dW_eliminate_161 rfl ?_
          refine za_iload_n hc dW_eliminate_162 rfl ?_
          refine za_iload_n hc dW_eliminate_163 rfl ?_
          refine za_cV2i hc gsW_86 (by assumption) (cR_isStrict_ l M1 hp hjl hi12) ⟨rfl, rfl⟩ ⟨Nat.le_of_ble_eq_true rfl, Nat.le_of_ble_eq_true rfl⟩ ⟨Nat.zero_le _, Nat.zero_le _⟩ dW_eliminate_164 (fun x_164 M_164 h_164 => ?_)
          obtain ⟨q_164, hm_164⟩ := h_164
          rw [hm_164, q_164, kn]
          refine za_if_ne 180 hc dW_eliminate_167 rfl (fun h_167 => ?_) (fun h_167 => ?_)
          · skip
            have hsg : ((1 : Int32) == 1) = ((rg M p j i).2.2.2 || (rg M p j k).2.2.2) := by show true = ((zI M (p + 2) (48 * j + 4 * i + 3) == 1) || _); by_cases z : zI M (p + 2) (48 * j + 4 * i + 3) = 1; rw [z]; rfl; exact absurd (if_neg z) h_167
            refine za_iconst hc 1 dW_eliminate_180 rfl ?_
            refine za_goto 185 hc dW_eliminate_181 rfl ?_
            refine za_cV4v hc gsW_90 (by assumption) (cD_put_ l M1 _ _ _ _ hd hH1 htl (by first | exact Or.inl rfl | exact Or.inr rfl) (by rw [s1]; exact Nat.lt_of_le_of_lt hsb.1 (by decide)) (by rw [s2]; exact Nat.lt_of_le_of_lt hsb.2.1 (by decide)) (by rw [s3]; exact Nat.lt_of_le_of_lt hsb.2.2 (by decide))) ⟨rfl, rfl⟩ ⟨Nat.le_of_ble_eq_true rfl, Nat.le_of_ble_eq_true rfl⟩ ⟨Nat.zero_le _, Nat.zero_le _⟩ dW_eliminate_185 (fun M_185 h_185 => ?_)
            obtain ⟨p1, p2⟩ := h_185
            rw [s1, s2, s3, hsg] at p1
            have p3 : dH M_185 13 (((row.take (k + 1)).filterMap (gels1 col m)).foldl gput ls) := by rw [hfm, g_foldl_snoc, hse]; exact p1
            refine za_iinc hc _ dW_eliminate_188 rfl ((nI_succ k).symm) (by decide) ?_
            refine za_goto 62 hc dW_eliminate_191 rfl ?_
            refine za_take 7 ?_
            exact ih (k + 1) M_185 (by omega) p3 (hf.tr p2)
          · skip
            have z1 : (zI M (p + 2) (48 * j + 4 * i + 3) == 1) = false := by by_cases z : zI M (p + 2) (48 * j + 4 * i + 3) = 1; rw [if_pos z] at h_167; exact absurd h_167 (by decide); simp [z]
            refine za_aload_n hc dW_eliminate_170 rfl ?_
            refine za_iload_n hc dW_eliminate_171 rfl ?_
            refine za_iload hc dW_eliminate_172 rfl ?_
            refine za_cV2i hc gsW_86 (by assumption) (cR_isStrict_ l M1 hp hjl hk12) ⟨rfl, rfl⟩ ⟨Nat.le_of_ble_eq_true rfl, Nat.le_of_ble_eq_true rfl⟩ ⟨Nat.zero_le _, Nat.zero_le _⟩ dW_eliminate_174 (fun x_174 M_174 h_174 => ?_)
            obtain ⟨q_174, hm_174⟩ := h_174
            rw [hm_174, q_174, kn]
            refine za_if_eq 184 hc dW_eliminate_177 rfl (fun h_177 => ?_) (fun h_177 => ?_)
            · skip
              have z2 : (zI M (p + 2) (48 * j + 4 * k + 3) == 1) = false := by by_cases z : zI M (p + 2) (48 * j + 4 * k + 3) = 1; rw [if_pos z] at h_177; exact absurd h_177 (by decide); simp [z]
              have hsg : ((0 : Int32) == 1) = ((rg M p j i).2.2.2 || (rg M p j k).2.2.2) := by show false = ((zI M (p + 2) (48 * j + 4 * i + 3) == 1) || (zI M (p + 2) (48 * j + 4 * k + 3) == 1)); rw [z1, z2]; rfl
              refine za_iconst hc 0 dW_eliminate_184 rfl ?_
              refine za_cV4v hc gsW_90 (by assumption) (cD_put_ l M1 _ _ _ _ hd hH1 htl (by first | exact Or.inl rfl | exact Or.inr rfl) (by rw [s1]; exact Nat.lt_of_le_of_lt hsb.1 (by decide)) (by rw [s2]; exact Nat.lt_of_le_of_lt hsb.2.1 (by decide)) (by rw [s3]; exact Nat.lt_of_le_of_lt hsb.2.2 (by decide))) ⟨rfl, rfl⟩ ⟨Nat.le_of_ble_eq_true rfl, Nat.le_of_ble_eq_true rfl⟩ ⟨Nat.zero_le _, Nat.zero_le _⟩ dW_eliminate_185 (fun M_185 h_185 => ?_)
              obtain ⟨p1, p2⟩ := h_185
              rw [s1, s2, s3, hsg] at p1
              have p3 : dH M_185 13 (((row.take (k + 1)).filterMap (gels1 col m)).foldl gput ls) := by rw [hfm, g_foldl_snoc, hse]; exact p1
              refine za_iinc hc _ dW_eliminate_188 rfl ((nI_succ k).symm) (by decide) ?_
              refine za_goto 62 hc dW_eliminate_191 rfl ?_
              refine za_take 7 ?_
              exact ih (k + 1) M_185 (by omega) p3 (hf.tr p2)
            · skip
              have hsg : ((1 : Int32) == 1) = ((rg M p j i).2.2.2 || (rg M p j k).2.2.2) := by show true = ((zI M (p + 2) (48 * j + 4 * i + 3) == 1) || (zI M (p + 2) (48 * j + 4 * k + 3) == 1)); rw [z1]; by_cases z : zI M (p + 2) (48 * j + 4 * k + 3) = 1; rw [z]; rfl; exact absurd (if_neg z) h_177
              refine za_iconst hc 1 dW_eliminate_180 rfl ?_
              refine za_goto 185 hc dW_eliminate_181 rfl ?_
              refine za_cV4v hc gsW_90 (by assumption) (cD_put_ l M1 _ _ _ _ hd hH1 htl (by first | exact Or.inl rfl | exact Or.inr rfl) (by rw [s1]; exact Nat.lt_of_le_of_lt hsb.1 (by decide)) (by rw [s2]; exact Nat.lt_of_le_of_lt hsb.2.1 (by decide)) (by rw [s3]; exact Nat.lt_of_le_of_lt hsb.2.2 (by decide))) ⟨rfl, rfl⟩ ⟨Nat.le_of_ble_eq_true rfl, Nat.le_of_ble_eq_true rfl⟩ ⟨Nat.zero_le _, Nat.zero_le _⟩ dW_eliminate_185 (fun M_185 h_185 => ?_)
              obtain ⟨p1, p2⟩ := h_185
              rw [s1, s2, s3, hsg] at p1
              have p3 : dH M_185 13 (((row.take (k + 1)).filterMap (gels1 col m)).foldl gput ls) := by rw [hfm, g_foldl_snoc, hse]; exact p1
              refine za_iinc hc _ dW_eliminate_188 rfl ((nI_succ k).symm) (by decide) ?_
              refine za_goto 62 hc dW_eliminate_191 rfl ?_
              refine za_take 7 ?_
              exact ih (k + 1) M_185 (by omega) p3 (hf.tr p2)
  refine za_aload_n hc dW_eliminate_0 rfl ?_
  refine za_iload_n hc dW_eliminate_1 rfl ?_
  refine za_iload_n hc dW_eliminate_2 rfl ?_
  refine za_iload hc dW_eliminate_3 rfl ?_
  refine za_cS4l hc gsW_72 (cW_entry_ l M col hp hjl hi12) ⟨rfl, rfl⟩ ⟨Nat.le_of_ble_eq_true rfl, Nat.le_of_ble_eq_true rfl⟩ ⟨Nat.zero_le _, Nat.zero_le _⟩ dW_eliminate_5 (fun x_5 M_5 h_5 => ?_)
  obtain ⟨q_5, hm_5⟩ := h_5
  rw [em] at q_5
  rw [hm_5]
  refine za_lstore hc dW_eliminate_8 (by decide) ?_
  refine za_lload hc dW_eliminate_10 rfl ?_
  refine za_lconst hc 0 dW_eliminate_12 rfl ?_
  refine za_lcmp_ne 51 hc dW_eliminate_13 dW_eliminate_14 rfl (fun h_13 => ?_) (fun h_13 => ?_)
  · skip
    have hz : ¬ gu col m = 0 := fun z => h_13 (Int64.toInt_inj.mp (q_5.trans z))
    refine za_lload hc dW_eliminate_51 rfl ?_
    refine za_lconst hc 0 dW_eliminate_53 rfl ?_
    refine za_lcmp_gt 59 hc dW_eliminate_54 dW_eliminate_55 rfl (fun h_54 => ?_) (fun h_54 => ?_)
    · skip
      have hpos : 0 < gu col m := by rw [← q_5]; exact Int64.lt_iff_toInt_lt.mp h_54
      refine za_iconst hc 0 dW_eliminate_59 rfl ?_
      refine za_istore hc dW_eliminate_60 (by decide) ?_
      first | exact absurd hz (by omega) | exact loop x_5 q_5 hpos (by unfold gel at hlen; rw [if_neg hz, if_pos hpos] at hlen; omega) row.length 0 M (by omega) (by rw [List.take_zero]; exact hH) zfr.rf
    · skip
      have hpos : ¬ 0 < gu col m := by rw [← q_5]; exact fun z => h_54 (Int64.lt_iff_toInt_lt.mpr z)
      exact za_vret hc rfl dW_eliminate_58 ⟨Nat.zero_le _, Nat.zero_le _⟩ (by first | exact ⟨rfl, by unfold gel; rw [if_pos hz, ← em]; exact p1, p2⟩ | exact ⟨rfl, by unfold gel; rw [if_neg hz, if_neg hpos]; exact hH, zfr.rf⟩)
  · skip
    have hz : gu col m = 0 := by rw [← q_5, h_13]; rfl
    refine za_aload_n hc dW_eliminate_17 rfl ?_
    refine za_getS hc gfW_10 (by assumption) dW_eliminate_18 ?_
    refine za_aload_n hc dW_eliminate_21 rfl ?_
    refine za_iload_n hc dW_eliminate_22 rfl ?_
    refine za_iload_n hc dW_eliminate_23 rfl ?_
    refine za_cV2i hc gsW_76 (by assumption) (cR_x_ l M hp hjl hi12) ⟨rfl, rfl⟩ ⟨Nat.le_of_ble_eq_true rfl, Nat.le_of_ble_eq_true rfl⟩ ⟨Nat.zero_le _, Nat.zero_le _⟩ dW_eliminate_24 (fun x_24 M_24 h_24 => ?_)
    obtain ⟨q_24, hm_24⟩ := h_24
    rw [hm_24, q_24]
    refine za_i2l hc dW_eliminate_27 ?_
    refine za_aload_n hc dW_eliminate_28 rfl ?_
    refine za_iload_n hc dW_eliminate_29 rfl ?_
    refine za_iload_n hc dW_eliminate_30 rfl ?_
    refine za_cV2i hc gsW_80 (by assumption) (cR_y_ l M hp hjl hi12) ⟨rfl, rfl⟩ ⟨Nat.le_of_ble_eq_true rfl, Nat.le_of_ble_eq_true rfl⟩ ⟨Nat.zero_le _, Nat.zero_le _⟩ dW_eliminate_31 (fun x_31 M_31 h_31 => ?_)
    obtain ⟨q_31, hm_31⟩ := h_31
    rw [hm_31, q_31]
    refine za_i2l hc dW_eliminate_34 ?_
    refine za_aload_n hc dW_eliminate_35 rfl ?_
    refine za_iload_n hc dW_eliminate_36 rfl ?_
    refine za_iload_n hc dW_eliminate_37 rfl ?_
    refine za_cV2i hc gsW_83 (by assumption) (cR_bound_ l M hp hjl hi12) ⟨rfl, rfl⟩ ⟨Nat.le_of_ble_eq_true rfl, Nat.le_of_ble_eq_true rfl⟩ ⟨Nat.zero_le _, Nat.zero_le _⟩ dW_eliminate_38 (fun x_38 M_38 h_38 => ?_)
    obtain ⟨q_38, hm_38⟩ := h_38
    rw [hm_38, q_38]
    refine za_i2l hc dW_eliminate_41 ?_
    refine za_aload_n hc dW_eliminate_42 rfl ?_
    refine za_iload_n hc dW_eliminate_43 rfl ?_
    refine za_iload_n hc dW_eliminate_44 rfl ?_
    refine za_cV2i hc gsW_86 (by assumption) (cR_isStrict_ l M hp hjl hi12) ⟨rfl, rfl⟩ ⟨Nat.le_of_ble_eq_true rfl, Nat.le_of_ble_eq_true rfl⟩ ⟨Nat.zero_le _, Nat.zero_le _⟩ dW_eliminate_45 (fun x_45 M_45 h_45 => ?_)
    obtain ⟨q_45, hm_45⟩ := h_45
    rw [hm_45, q_45]
    refine za_cV4v hc gsW_90 (by assumption) (cD_put_ l M _ _ _ _ hd hH (by unfold gel at hlen; rw [if_pos hz] at hlen; simp only [List.length_cons, List.length_nil] at hlen; omega) (s01b _) (by rw [i2l_int]; omega) (by rw [i2l_int]; omega) (by rw [i2l_int]; omega)) ⟨rfl, rfl⟩ ⟨Nat.le_of_ble_eq_true rfl, Nat.le_of_ble_eq_true rfl⟩ ⟨Nat.zero_le _, Nat.zero_le _⟩ dW_eliminate_48 (fun M_48 h_48 => ?_)
    obtain ⟨p1, p2⟩ := h_48
    rw [i2l_int, i2l_int, i2l_int, s01] at p1
    refine za_lload hc dW_eliminate_51 rfl ?_
    refine za_lconst hc 0 dW_eliminate_53 rfl ?_
    refine za_lcmp_gt 59 hc dW_eliminate_54 dW_eliminate_55 rfl (fun h_54 => ?_) (fun h_54 => ?_)
    · skip
      have hpos : 0 < gu col m := by rw [← q_5]; exact Int64.lt_iff_toInt_lt.mp h_54
      refine za_iconst hc 0 dW_eliminate_59 rfl ?_
      refine za_istore hc dW_eliminate_60 (by decide) ?_
      first | exact absurd hz (by omega) | exact loop x_5 q_5 hpos (by unfold gel at hlen; rw [if_neg hz, if_pos hpos] at hlen; omega) row.length 0 M (by omega) (by rw [List.take_zero]; exact hH) zfr.rf
    · skip
      have hpos : ¬ 0 < gu col m := by rw [← q_5]; exact fun z => h_54 (Int64.lt_iff_toInt_lt.mpr z)
      exact za_vret hc rfl dW_eliminate_58 ⟨Nat.zero_le _, Nat.zero_le _⟩ (by first | exact ⟨rfl, by unfold gel; rw [if_pos hz, ← em]; exact p1, p2⟩ | exact ⟨rfl, by unfold gel; rw [if_neg hz, if_neg hpos]; exact hH, zfr.rf⟩)

noncomputable def gfr1 (col : Int32) : List (List gC) → List (List gC) → Option (List (List gC))
  | acc, [] => some acc
  | acc, row :: t => match gadd acc ((gels col row).foldl gput []) with
    | some a => gfr1 col a t
    | none => none

set_option maxRecDepth 100000 in
set_option maxHeartbeats 4000000 in
theorem cW_project_ (l : Launch) {p : Nat} {P : List (List gC)} (M : zM) (col : Int32) (hI : wI M) (hp : zrg p) (hpn : p ≠ zR M 12 2) (hP : rH M p P) : zMet l mW_project rW_project [.ref 12, .ref p, .int col] M (zqi (wP M (zR M 12 2) (gfr1 col [] P))) := by
  refine za_enter (by decide) (Nat.le_of_ble_eq_true rfl) (fun X hc => ?_)
  have hw := zob_12
  have hd := zdr_13
  have hdo := hd.o
  have hs := wI_res hI
  have hso := hs.o
  have hno : zob (12 + 1) 0 := hd.o
  have hpo := hp.o
  have hpl := hP.2.1
  have loop : ∀ (t : List (List gC)) (i : Nat) (acc : List (List gC)) (M1 : zM), P.drop i = t → i + t.length = P.length → gfr1 col acc t = gfr1 col [] P → rH M1 (zR M 12 2) acc → zbo M1 13 → sB M1 18 → zfr (wR (zR M 12 2)) M M1 → ∀ z4, zW X (zqi (wP M (zR M 12 2) (gfr1 col [] P))) (0, 0) 9 ([(0, .ref 12), (1, .ref p), (2, .int col), (3, .int (nI i))] ++ z4) [] M1 := by
    intro t
    induction t with
    | nil =>
      intro i acc M1 hdr hn hg hR1 hb1 hs1 hf z4
      refine za_take 4 ?_
      simp only [List.length_nil] at hn
      have e12 : zR M1 12 = zR M 12 := (hf _ (wR_12 hs)).2.2
      have hP1 : rH M1 p P := rH_kept hP hf (wR_rg hs hp hpn (b := 0) (by decide)) (wR_rg hs hp hpn (by decide)) (wR_rg hs hp hpn (by decide))
      refine za_iload_n hc dW_project_9 rfl ?_
      refine za_aload_n hc dW_project_10 rfl ?_
      refine za_cV0i hc gsW_32 (by assumption) (cR_rowCount_ l M1 hp) ⟨rfl, rfl⟩ ⟨Nat.le_of_ble_eq_true rfl, Nat.le_of_ble_eq_true rfl⟩ ⟨Nat.zero_le _, Nat.zero_le _⟩ dW_project_11 (fun x_11 M_11 h_11 => ?_)
      obtain ⟨q_11, hm_11⟩ := h_11
      rw [hm_11, q_11, hP1.1]
      refine za_icmp_ge 74 hc dW_project_14 rfl (fun h_14 => ?_) (fun h_14 => ?_)
      · skip
        refine za_iconst hc 1 dW_project_74 rfl ?_
        exact za_zret hc rfl (rfl) dW_project_75 ⟨Nat.zero_le _, Nat.zero_le _⟩ (⟨1, rfl, by rw [← hg]; exact ⟨rfl, hR1⟩, wI_kept hI hf (wR_12 hs) hb1 hs1, e12, hf⟩)
      · skip
        exact absurd ((nI_leI (by omega) (by omega)).mpr (show P.length ≤ i by omega)) h_14
    | cons row t ih =>
      intro i acc M1 hdr hn hg hR1 hb1 hs1 hf z4
      refine za_take 4 ?_
      simp only [List.length_cons] at hn
      have hpi : P[i]? = some row := by rw [← List.head?_drop, hdr]; rfl
      have hdr2 : P.drop (i + 1) = t := by rw [← List.drop_drop, hdr]; rfl
      have hg : (match gadd acc ((gels col row).foldl gput []) with | some a => gfr1 col a t | none => none) = gfr1 col [] P := hg
      have e12 : zR M1 12 = zR M 12 := (hf _ (wR_12 hs)).2.2
      have hP1 : rH M1 p P := rH_kept hP hf (wR_rg hs hp hpn (b := 0) (by decide)) (wR_rg hs hp hpn (by decide)) (wR_rg hs hp hpn (by decide))
      obtain ⟨a1, a2, a3, a4⟩ := hP1.2.2 i row hpi
      have hgl := gels_len (col := col) a1
      have hH2 := dH_clear (d := 13) hb1
      have hf2 : zfr (wR (zR M 12 2)) M (zsI M1 13 5 0) := hf.tr (zfr_sI (Or.inl ⟨by decide, by decide⟩))
      have inner : ∀ n k (M2 : zM), n + k = row.length → dH M2 13 (((row.take k).flatMap (gel col row)).foldl gput []) → zfr (dB 13) M1 M2 → zW X (zqi (wP M (zR M 12 2) (gfr1 col [] P))) (0, 0) 27 [(0, .ref 12), (1, .ref p), (2, .int col), (3, .int (nI i)), (4, .int (nI k))] [] M2 := by
        intro n
        induction n with
        | zero =>
          intro k M2 hm hHk hfk
          obtain rfl : k = row.length := by omega
          rw [List.take_length] at hHk
          have hf3 : zfr (wR (zR M 12 2)) M M2 := hf.tr (hfk.wk (fun k z => Or.inl (dB_F z)))
          have hP2 : rH M2 p P := rH_kept hP hf3 (wR_rg hs hp hpn (b := 0) (by decide)) (wR_rg hs hp hpn (by decide)) (wR_rg hs hp hpn (by decide))
          have e2 : zR M2 12 = zR M 12 := (hf3 _ (wR_12 hs)).2.2
          have hR4 : rH M2 (zR M 12 2) acc := rH_kept hR1 hfk (fun z => dF_rg hd hs (b := 0) (by decide) (dB_F z)) (fun z => dF_rg hd hs (b := 1) (by decide) (dB_F z)) (fun z => dF_rg hd hs (b := 2) (by decide) (dB_F z))
          have hs4 : sB M2 18 := sB_kept hs1 hfk (fun z => by have := z.2; omega) (fun z => by have := z.2; omega) (fun z => by have := z.2; omega)
          have hgw : ∀ q ∈ gels col row, gW q ∧ gu col q = 0 := fun q hq => by
            obtain ⟨m, hm1, hm2⟩ := List.mem_flatMap.mp hq
            exact gel_all a4 (a4 m hm1) q hm2
          refine za_iload hc dW_project_27 rfl ?_
          refine za_aload_n hc dW_project_29 rfl ?_
          refine za_iload_n hc dW_project_30 rfl ?_
          refine za_cV1i hc gsW_37 (by assumption) (cR_memberCount_ l M2 hp (show i < 12 by omega)) ⟨rfl, rfl⟩ ⟨Nat.le_of_ble_eq_true rfl, Nat.le_of_ble_eq_true rfl⟩ ⟨Nat.zero_le _, Nat.zero_le _⟩ dW_project_31 (fun x_31 M_31 h_31 => ?_)
          obtain ⟨q_31, hm_31⟩ := h_31
          rw [hm_31, q_31, (hP2.2.2 i row hpi).2.1]
          refine za_icmp_ge 52 hc dW_project_34 rfl (fun h_34 => ?_) (fun h_34 => ?_)
          · skip
            refine za_aload_n hc dW_project_52 rfl ?_
            refine za_getR hc gfW_23 (by assumption) dW_project_53 ?_
            rw [e2]
            refine za_aload_n hc dW_project_56 rfl ?_
            refine za_getS hc gfW_10 (by assumption) dW_project_57 ?_
            refine za_cV1i hc gsW_45 (by assumption) (cR_admit_ l M2 hs hd hR4 hHk hs4 (gok_free hgw)) ⟨rfl, rfl⟩ ⟨Nat.le_of_ble_eq_true rfl, Nat.le_of_ble_eq_true rfl⟩ ⟨Nat.zero_le _, Nat.zero_le _⟩ dW_project_60 (fun x_60 M_60 h_60 => ?_)
            obtain ⟨v1, v2, v3, v4⟩ := h_60
            have hf5 : zfr (wR (zR M 12 2)) M M_60 := hf3.tr v4
            refine za_if_ne 68 hc dW_project_63 rfl (fun h_63 => ?_) (fun h_63 => ?_)
            · skip
              refine za_iinc hc _ dW_project_68 rfl ((nI_succ i).symm) (by decide) ?_
              refine za_goto 9 hc dW_project_71 rfl ?_
              have v1 : (match gadd acc ((gels col row).foldl gput []) with | some R' => x_60 = 1 ∧ rH M_60 (zR M 12 2) R' | none => x_60 = 0) := v1
              cases hga : gadd acc ((gels col row).foldl gput []) with
              | none => rw [hga] at v1; exact absurd v1 h_63
              | some a =>
                rw [hga] at v1 hg
                exact ih (i + 1) a M_60 hdr2 (by omega) hg v1.2 v2 v3 hf5 [(4, .int (nI row.length))]
            · skip
              refine za_iconst hc 0 dW_project_66 rfl ?_
              exact za_zret hc rfl (rfl) dW_project_67 ⟨Nat.zero_le _, Nat.zero_le _⟩ (⟨0, rfl, by
              cases hga : gadd acc ((gels col row).foldl gput []) with
              | none => rw [hga] at hg; rw [← hg]
              | some a => have v1 : (match gadd acc ((gels col row).foldl gput []) with | some R' => x_60 = 1 ∧ rH M_60 (zR M 12 2) R' | none => x_60 = 0) := v1; rw [hga] at v1; rw [h_63] at v1; exact absurd v1.1 (by decide), wI_kept hI hf5 (wR_12 hs) v2 v3, (hf5 _ (wR_12 hs)).2.2, hf5⟩)
          · skip
            exact absurd (Int32.le_refl _) h_34
        | succ n ihk =>
          intro k M2 hm hHk hfk
          have hf3 : zfr (wR (zR M 12 2)) M M2 := hf.tr (hfk.wk (fun k z => Or.inl (dB_F z)))
          have hP2 : rH M2 p P := rH_kept hP hf3 (wR_rg hs hp hpn (b := 0) (by decide)) (wR_rg hs hp hpn (by decide)) (wR_rg hs hp hpn (by decide))
          have e2 : zR M2 12 = zR M 12 := (hf3 _ (wR_12 hs)).2.2
          have hrk := List.getElem?_eq_getElem (l := row) (show k < row.length by omega)
          generalize hme : row[k] = m at hrk
          have htk : row.take (k + 1) = row.take k ++ [m] := by rw [List.take_succ, hrk]; rfl
          have hfl : (row.take (k + 1)).flatMap (gel col row) = (row.take k).flatMap (gel col row) ++ gel col row m := by rw [htk, List.flatMap_append]; simp
          have hsub : ((row.take (k + 1)).flatMap (gel col row)).length ≤ (gels col row).length := by
            have : row = row.take (k + 1) ++ row.drop (k + 1) := (List.take_append_drop _ _).symm
            show _ ≤ (row.flatMap (gel col row)).length
            conv => rhs; rw [show row.flatMap (gel col row) = (row.take (k + 1) ++ row.drop (k + 1)).flatMap (gel col row) from by rw [List.take_append_drop]]
            rw [List.flatMap_append, List.length_append]; omega
          refine za_iload hc dW_project_27 rfl ?_
          refine za_aload_n hc dW_project_29 rfl ?_
          refine za_iload_n hc dW_project_30 rfl ?_
          refine za_cV1i hc gsW_37 (by assumption) (cR_memberCount_ l M2 hp (show i < 12 by omega)) ⟨rfl, rfl⟩ ⟨Nat.le_of_ble_eq_true rfl, Nat.le_of_ble_eq_true rfl⟩ ⟨Nat.zero_le _, Nat.zero_le _⟩ dW_project_31 (fun x_31 M_31 h_31 => ?_)
          obtain ⟨q_31, hm_31⟩ := h_31
          rw [hm_31, q_31, (hP2.2.2 i row hpi).2.1]
          refine za_icmp_ge 52 hc dW_project_34 rfl (fun h_34 => ?_) (fun h_34 => ?_)
          · skip
            exact absurd ((nI_leI (by omega) (by omega)).mp h_34) (by omega)
          · skip
            refine za_aload_n hc dW_project_37 rfl ?_
            refine za_aload_n hc dW_project_38 rfl ?_
            refine za_iload_n hc dW_project_39 rfl ?_
            refine za_iload hc dW_project_40 rfl ?_
            refine za_iload_n hc dW_project_42 rfl ?_
            refine za_cV4v hc gsW_68 (by assumption) (cW_eliminate_ l M2 col hp hP2 hpi hrk hHk (by have := g_put_len [] ((row.take k).flatMap (gel col row)); rw [hfl, List.length_append] at hsub; simp only [List.length_nil] at this; omega)) ⟨rfl, rfl⟩ ⟨Nat.le_of_ble_eq_true rfl, Nat.le_of_ble_eq_true rfl⟩ ⟨Nat.zero_le _, Nat.zero_le _⟩ dW_project_43 (fun M_43 h_43 => ?_)
            obtain ⟨w1, w2⟩ := h_43
            refine za_iinc hc _ dW_project_46 rfl ((nI_succ k).symm) (by decide) ?_
            refine za_goto 27 hc dW_project_49 rfl ?_
            refine ihk (k + 1) M_43 (by omega) ?_ (hfk.tr w2)
            rw [hfl, List.foldl_append]; exact w1
      refine za_iload_n hc dW_project_9 rfl ?_
      refine za_aload_n hc dW_project_10 rfl ?_
      refine za_cV0i hc gsW_32 (by assumption) (cR_rowCount_ l M1 hp) ⟨rfl, rfl⟩ ⟨Nat.le_of_ble_eq_true rfl, Nat.le_of_ble_eq_true rfl⟩ ⟨Nat.zero_le _, Nat.zero_le _⟩ dW_project_11 (fun x_11 M_11 h_11 => ?_)
      obtain ⟨q_11, hm_11⟩ := h_11
      rw [hm_11, q_11, hP1.1]
      refine za_icmp_ge 74 hc dW_project_14 rfl (fun h_14 => ?_) (fun h_14 => ?_)
      · skip
        exact absurd ((nI_leI (by omega) (by omega)).mp h_14) (by omega)
      · skip
        refine za_aload_n hc dW_project_17 rfl ?_
        refine za_getS hc gfW_10 (by assumption) dW_project_18 ?_
        refine za_cV0v hc gsW_36 (by assumption) (cD_clear_ l M1 hd) ⟨rfl, rfl⟩ ⟨Nat.le_of_ble_eq_true rfl, Nat.le_of_ble_eq_true rfl⟩ ⟨Nat.zero_le _, Nat.zero_le _⟩ dW_project_21 (fun M_21 h_21 => ?_)
        subst h_21
        refine za_iconst hc 0 dW_project_24 rfl ?_
        refine za_istore hc dW_project_25 (by decide) ?_
        exact inner row.length 0 _ (by omega) (by rw [List.take_zero]; exact hH2) (zfr_sI ⟨by decide, by decide⟩)
  refine za_aload_n hc dW_project_0 rfl ?_
  refine za_getR hc gfW_23 (by assumption) dW_project_1 ?_
  refine za_cV0v hc gsW_29 (by assumption) (cR_clear_ l M hs) ⟨rfl, rfl⟩ ⟨Nat.le_of_ble_eq_true rfl, Nat.le_of_ble_eq_true rfl⟩ ⟨Nat.zero_le _, Nat.zero_le _⟩ dW_project_4 (fun M_4 h_4 => ?_)
  subst h_4
  refine za_iconst hc 0 dW_project_7 rfl ?_
  refine za_istore_n hc dW_project_8 (by decide) ?_
  exact loop P 0 [] _ rfl (by omega) rfl rH_clear (zfr_bo (zfr_sI (P := rF (zR M 12 2)) ⟨Nat.le_refl _, by omega⟩) (rF_dr hd hs (a := 4) (by decide)) hI.2.1) (sB_kept hI.2.2 (zfr_sI (P := rF (zR M 12 2)) ⟨Nat.le_refl _, by omega⟩) (rF_dr hd hs (a := 6) (by decide)) (rF_dr hd hs (a := 7) (by decide)) (rF_dr hd hs (a := 8) (by decide))) (zfr_sI (Or.inr ⟨Nat.le_refl _, by omega⟩)) []
