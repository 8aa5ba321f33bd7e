/-! Infimum: over a region. -/
def gS (P : List (List gC)) (x y : Rat) : Prop := ∃ row ∈ P, ∀ m ∈ row, gst m x y
def gUn (row : List gC) (f g : Int) : Prop := ∀ v : Rat, ∃ x y : Rat, (∀ m ∈ row, gst m x y) ∧ (f : Rat) * x + (g : Rat) * y < v
/-- what is told of the least value of a form over a region whose rows have points -/
def gLst (P : List (List gC)) (f g : Int) (r : Int32) (T B : Int) : Prop :=
  (P = [] ∧ r = 3 ∧ T = 0 ∧ B = 0) ∨ (P ≠ [] ∧ (∃ row ∈ P, gUn row f g) ∧ r = 2 ∧ T = 0 ∧ B = 0) ∨
  (P ≠ [] ∧ Nat.gcd T.natAbs B.natAbs = 1 ∧ ∃ k : Bool, gInf (gS P) f g T B k ∧ r = if k = true then 0 else 1)
theorem gInf_un {P : List (List gC)} {row : List gC} {f g T B : Int} {k : Bool} (h : gInf (gS P) f g T B k) (hr : row ∈ P) : ¬ gUn row f g := fun hu => by
  obtain ⟨hB, hle, -, -⟩ := h
  have b1 : (0 : Rat) < (B : Rat) := Rat.intCast_pos.mpr hB
  have c1 : (T : Rat) / (B : Rat) * (B : Rat) = (T : Rat) := Rat.div_mul_cancel (Rat.ne_of_gt b1)
  generalize (T : Rat) / (B : Rat) = L at c1
  obtain ⟨x, y, hs, hv⟩ := hu L
  have h2 := hle x y ⟨row, hr, hs⟩
  have h3 := Rat.mul_lt_mul_of_pos_left hv b1
  grind
theorem g_copr {T B T' B' : Int} (hB : 0 < B) (hB' : 0 < B') (h1 : Nat.gcd T.natAbs B.natAbs = 1) (h2 : Nat.gcd T'.natAbs B'.natAbs = 1) (h : T' * B = T * B') : T = T' ∧ B = B' := by
  have e : T'.natAbs * B.natAbs = T.natAbs * B'.natAbs := by rw [← Int.natAbs_mul, ← Int.natAbs_mul, h]
  have d1 : B.natAbs ∣ B'.natAbs := (Nat.Coprime.dvd_of_dvd_mul_left (Nat.coprime_comm.mp h1) (show B.natAbs ∣ T.natAbs * B'.natAbs from ⟨T'.natAbs, by rw [← e, Nat.mul_comm]⟩))
  have d2 : B'.natAbs ∣ B.natAbs := (Nat.Coprime.dvd_of_dvd_mul_left (Nat.coprime_comm.mp h2) (show B'.natAbs ∣ T'.natAbs * B.natAbs from ⟨T.natAbs, by rw [e, Nat.mul_comm]⟩))
  have e2 := Nat.dvd_antisymm d1 d2
  have e3 : B = B' := by omega
  subst e3
  exact ⟨(Int.eq_of_mul_eq_mul_right (by omega) h).symm, rfl⟩
theorem gLst_uniq {P : List (List gC)} {f g : Int} {r r' : Int32} {T B T' B' : Int} (h : gLst P f g r T B) (h' : gLst P f g r' T' B') : r = r' ∧ T = T' ∧ B = B' := by
  rcases h with ⟨a1, a2, a3, a4⟩ | ⟨a1, ⟨w, aw, a2⟩, a3, a4, a5⟩ | ⟨a1, a2, k, a3, a4⟩ <;> rcases h' with ⟨b1, b2, b3, b4⟩ | ⟨b1, ⟨v, bv, b2⟩, b3, b4, b5⟩ | ⟨b1, b2, k', b3, b4⟩
  · exact ⟨a2.trans b2.symm, a3.trans b3.symm, a4.trans b4.symm⟩
  · exact absurd a1 b1
  · exact absurd a1 b1
  · exact absurd b1 a1
  · exact ⟨a3.trans b3.symm, a4.trans b4.symm, a5.trans b5.symm⟩
  · exact absurd a2 (gInf_un b3 aw)
  · exact absurd b1 a1
  · exact absurd b2 (gInf_un a3 bv)
  · obtain ⟨h1, h2⟩ := gInf_uniq a3 b3
    obtain ⟨h3, h4⟩ := g_copr a3.1 b3.1 a2 b2 h1
    exact ⟨by rw [a4, b4, h2], h3, h4⟩
def gLow (e r : gE) : gE := if e.2.1 = 0 then r else gLw e.1 e.2.1 e.2.2 r.1 r.2.1 r.2.2
def gPr (P : List (List gC)) (f g : Int) (i : Nat) (e : gE) : Prop := (i = 0 → e.2.1 = 0) ∧ (0 < i → gInf (gS (P.take i)) f g e.1 e.2.1 e.2.2)
theorem gPr_step {P : List (List gC)} {f g : Int} {i : Nat} {row : List gC} {e : gE} (k : Bool) (hfg : ¬ (f = 0 ∧ g = 0)) (hr : P[i]? = some row) (hs : gSat row) (h : gPr P f g i e) :
    ((row.foldl (gi f g row) (0, 0, k)).2.1 = 0 → gUn row f g) ∧ ((row.foldl (gi f g row) (0, 0, k)).2.1 ≠ 0 → gPr P f g (i + 1) (gLow e (row.foldl (gi f g row) (0, 0, k)))) := by
  obtain ⟨h1, h2⟩ := g_seek (f := f) (g := g) (row := row) k
  generalize row.foldl (gi f g row) (0, 0, k) = E at *
  obtain ⟨r1, r2⟩ := g_row row f g hfg hs E h2 h1
  refine ⟨r1, fun hne => ⟨fun z => absurd z (by omega), fun _ => ?_⟩⟩
  obtain ⟨s1, s2, s3⟩ := r2 hne
  have hI : gInf (fun x y => ∀ m ∈ row, gst m x y) f g E.1 E.2.1 E.2.2 := ⟨by omega, s1, s2, s3⟩
  have ht : P.take (i + 1) = P.take i ++ [row] := by rw [List.take_succ, hr]; rfl
  unfold gLow
  by_cases hi : i = 0
  · rw [if_pos (h.1 hi)]
    have hS : gS (P.take (i + 1)) = fun x y => ∀ m ∈ row, gst m x y := by
      subst hi
      funext x y
      rw [ht]
      apply propext
      unfold gS
      simp
    rw [hS]; exact hI
  · have h0 := h.2 (by omega)
    have h3 : 0 < e.2.1 := h0.1
    rw [if_neg (by omega)]
    have hS : gS (P.take (i + 1)) = fun x y => gS (P.take i) x y ∨ ∀ m ∈ row, gst m x y := by
      funext x y
      rw [ht]
      apply propext
      unfold gS
      constructor
      · rintro ⟨w, hw, hm⟩
        rcases List.mem_append.mp hw with z | z
        · exact Or.inl ⟨w, z, hm⟩
        · rw [List.mem_singleton.mp z] at hm; exact Or.inr hm
      · rintro (⟨w, hw, hm⟩ | hm)
        · exact ⟨w, List.mem_append_left _ hw, hm⟩
        · exact ⟨row, List.mem_append_right _ List.mem_cons_self, hm⟩
    rw [hS]
    exact gInf_or h0 hI
theorem gInf_red {S : Rat → Rat → Prop} {f g T B : Int} {k : Bool} (d T' B' : Int) (hd : 0 < d) (hT : T = d * T') (hB : B = d * B') (h : gInf S f g T B k) : gInf S f g T' B' k := by
  obtain ⟨h1, h2, h3, h4⟩ := h
  have dR : (0 : Rat) < (d : Rat) := Rat.intCast_pos.mpr hd
  have tR : (T : Rat) = (d : Rat) * (T' : Rat) := by rw [hT, Rat.intCast_mul]
  have bR : (B : Rat) = (d : Rat) * (B' : Rat) := by rw [hB, Rat.intCast_mul]
  rw [tR, bR] at h2 h3 h4
  refine ⟨?_, fun x y hs => ?_, fun v hv => ?_, h4.trans ⟨?_, ?_⟩⟩
  · rw [hB] at h1; exact Int.not_le.mp (fun z => by have := Int.mul_le_mul_of_nonneg_left z (Int.le_of_lt hd); rw [Int.mul_zero] at this; omega)
  · have := h2 x y hs
    exact Rat.le_of_mul_le_mul_left (show (d : Rat) * (T' : Rat) ≤ (d : Rat) * ((B' : Rat) * ((f : Rat) * x + (g : Rat) * y)) by grind) dR
  · exact h3 v (by have := Rat.mul_lt_mul_of_pos_left hv dR; grind)
  · rintro ⟨x, y, hs, he⟩
    refine ⟨x, y, hs, ?_⟩
    have : (d : Rat) * ((B' : Rat) * ((f : Rat) * x + (g : Rat) * y)) = (d : Rat) * (T' : Rat) := by grind
    have h3 := congrArg (fun q => q / (d : Rat)) this
    rw [Rat.mul_comm (d : Rat), Rat.mul_comm (d : Rat), Rat.mul_div_cancel (Rat.ne_of_gt dR), Rat.mul_div_cancel (Rat.ne_of_gt dR)] at h3
    exact h3
  · rintro ⟨x, y, hs, he⟩
    exact ⟨x, y, hs, by rw [← he]; grind⟩
theorem g_tdg (a : Int) (d : Nat) (h : d ∣ a.natAbs) : a = (d : Int) * a.tdiv d := (Int.mul_tdiv_cancel' (Int.ofNat_dvd_left.mpr h)).symm
theorem g_redcop {T B : Int} (hB : 0 < B) : Nat.gcd (T.tdiv (Nat.gcd T.natAbs B.natAbs)).natAbs (B.tdiv (Nat.gcd T.natAbs B.natAbs)).natAbs = 1 := by
  rw [Int.natAbs_tdiv, Int.natAbs_tdiv]
  rw [Int.natAbs_natCast]
  show Nat.gcd (T.natAbs / _) (B.natAbs / _) = 1
  rw [Nat.gcd_div (Nat.gcd_dvd_left _ _) (Nat.gcd_dvd_right _ _)]
  exact Nat.div_self (Nat.gcd_pos_of_pos_right _ (by omega))
theorem iA_forget (M : zM) : iA (zsJ (zsJ M 31 0 0) 31 1 0) = (0, 0, zI M 31 2 == 1) := by unfold iA; rw [zJ_s, if_neg (by decide), zJ_s, if_pos rfl, zJ_s, if_pos rfl, zI_sJ, zI_sJ]; rfl
theorem iB_low {e r : gE} (he : iB e) (hr : iB r) : iB (gLow e r) := by
  unfold gLow gLw
  split
  · exact hr
  · split
    · exact hr
    · split
      · exact he
      · exact he
theorem gInf_zero {P : List (List gC)} (hP : P ≠ []) (hs : ∀ row ∈ P, gSat row) : gInf (gS P) 0 0 0 1 true := by
  have z : ∀ x y : Rat, ((0 : Int) : Rat) * x + ((0 : Int) : Rat) * y = 0 := fun x y => by grind
  obtain ⟨w, t, e⟩ := List.exists_cons_of_ne_nil hP
  obtain ⟨x, y, h⟩ := hs w (by rw [e]; exact List.mem_cons_self)
  have hp : gS P x y := ⟨w, by rw [e]; exact List.mem_cons_self, h⟩
  refine ⟨by decide, fun x y _ => by rw [z]; grind, fun v hv => ⟨x, y, hp, by rw [z]; grind⟩, ⟨fun _ => ⟨x, y, hp, by rw [z]; grind⟩, fun _ => rfl⟩⟩

set_option maxRecDepth 100000 in
set_option maxHeartbeats 4000000 in
theorem cI_forget_ (l : Launch) (M : zM) : zMet l mI_forget rI_forget [.ref 31] M (zqv (fun M' => M' = zsJ (zsJ M 31 0 0) 31 1 0)) := by
  refine za_enter (by decide) (Nat.le_of_ble_eq_true rfl) (fun X hc => ?_)
  have ho := zob_31
  refine za_aload_n hc dI_forget_0 rfl ?_
  refine za_lconst hc 0 dI_forget_1 rfl ?_
  refine za_putJ hc gpI_9 (by assumption) dI_forget_2 ?_
  refine za_aload_n hc dI_forget_5 rfl ?_
  refine za_lconst hc 0 dI_forget_6 rfl ?_
  refine za_putJ hc gpI_15 (by assumption) dI_forget_7 ?_
  exact za_vret hc rfl dI_forget_10 ⟨Nat.zero_le _, Nat.zero_le _⟩ (⟨rfl, rfl⟩)

set_option maxRecDepth 100000 in
set_option maxHeartbeats 4000000 in
theorem cI_numerator_ (l : Launch) (M : zM) : zMet l mI_numerator rI_numerator [.ref 31] M (zql (fun x M' => x = zJ M 31 0 ∧ M' = M)) := by
  refine za_enter (by decide) (Nat.le_of_ble_eq_true rfl) (fun X hc => ?_)
  have ho := zob_31
  refine za_aload_n hc dI_numerator_0 rfl ?_
  refine za_getJ hc gfI_9 (by assumption) dI_numerator_1 ?_
  exact za_lret hc rfl dI_numerator_4 ⟨Nat.zero_le _, Nat.zero_le _⟩ (⟨_, rfl, rfl, rfl⟩)

set_option maxRecDepth 100000 in
set_option maxHeartbeats 4000000 in
theorem cI_denominator_ (l : Launch) (M : zM) : zMet l mI_denominator rI_denominator [.ref 31] M (zql (fun x M' => x = zJ M 31 1 ∧ M' = M)) := by
  refine za_enter (by decide) (Nat.le_of_ble_eq_true rfl) (fun X hc => ?_)
  have ho := zob_31
  refine za_aload_n hc dI_denominator_0 rfl ?_
  refine za_getJ hc gfI_15 (by assumption) dI_denominator_1 ?_
  exact za_lret hc rfl dI_denominator_4 ⟨Nat.zero_le _, Nat.zero_le _⟩ (⟨_, rfl, rfl, rfl⟩)

set_option maxRecDepth 100000 in
set_option maxHeartbeats 4000000 in
theorem cI_lowerToRow_ (l : Launch) (M : zM) (ha : iB (iA M)) (hb : iB (iR M)) (hz : iZ M) : zMet l mI_lowerToRow rI_lowerToRow [.ref 31] M (zqv (fun M' => iA M' = gLow (iA M) (iR M) ∧ iZ M' ∧ zfr iF M M')) := by
  refine za_enter (by decide) (Nat.le_of_ble_eq_true rfl) (fun X hc => ?_)
  have ho := zob_31
  have hb1 := hb.1
  have hb2 := hb.2
  have ha1 := ha.1
  have ha2 := ha.2
  unfold iR at hb1 hb2
  unfold iA at ha1 ha2
  simp only at hb1 hb2 ha1 ha2
  have p1 := g_mulb (A := 40000000000) (B := 200000000) (a := (zJ M 31 3).toInt) (b := (zJ M 31 1).toInt) hb1 ⟨by omega, by omega⟩
  have p2 := g_mulb (A := 40000000000) (B := 200000000) (a := (zJ M 31 0).toInt) (b := (zJ M 31 4).toInt) ha1 ⟨by omega, by omega⟩
  have m1 := l_mul (x := (zJ M 31 3)) (y := (zJ M 31 1)) (by omega) (by omega)
  have m2 := l_mul (x := (zJ M 31 0)) (y := (zJ M 31 4)) (by omega) (by omega)
  refine za_aload_n hc dI_lowerToRow_0 rfl ?_
  refine za_getJ hc gfI_44 (by assumption) dI_lowerToRow_1 ?_
  refine za_aload_n hc dI_lowerToRow_4 rfl ?_
  refine za_getJ hc gfI_15 (by assumption) dI_lowerToRow_5 ?_
  refine za_lmul hc dI_lowerToRow_8 ?_
  refine za_lstore_n hc dI_lowerToRow_9 (by decide) ?_
  refine za_aload_n hc dI_lowerToRow_10 rfl ?_
  refine za_getJ hc gfI_9 (by assumption) dI_lowerToRow_11 ?_
  refine za_aload_n hc dI_lowerToRow_14 rfl ?_
  refine za_getJ hc gfI_31 (by assumption) dI_lowerToRow_15 ?_
  refine za_lmul hc dI_lowerToRow_18 ?_
  refine za_lstore_n hc dI_lowerToRow_19 (by decide) ?_
  refine za_aload_n hc dI_lowerToRow_20 rfl ?_
  refine za_getJ hc gfI_15 (by assumption) dI_lowerToRow_21 ?_
  refine za_lconst hc 0 dI_lowerToRow_24 rfl ?_
  refine za_lcmp_eq 35 hc dI_lowerToRow_25 dI_lowerToRow_26 rfl (fun h_25 => ?_) (fun h_25 => ?_)
  · skip
    have u0 : (iA M).2.1 = 0 := by show (zJ M 31 1).toInt = 0; rw [h_25]; rfl
    refine za_aload_n hc dI_lowerToRow_35 rfl ?_
    refine za_aload_n hc dI_lowerToRow_36 rfl ?_
    refine za_getJ hc gfI_44 (by assumption) dI_lowerToRow_37 ?_
    refine za_putJ hc gpI_9 (by assumption) dI_lowerToRow_40 ?_
    refine za_aload_n hc dI_lowerToRow_43 rfl ?_
    refine za_aload_n hc dI_lowerToRow_44 rfl ?_
    refine za_getJ hc gfI_31 (by assumption) dI_lowerToRow_45 ?_
    rw [zJ_s, if_neg (by decide)]
    refine za_putJ hc gpI_15 (by assumption) dI_lowerToRow_48 ?_
    refine za_aload_n hc dI_lowerToRow_51 rfl ?_
    refine za_aload_n hc dI_lowerToRow_52 rfl ?_
    refine za_getI hc gfI_47 (by assumption) dI_lowerToRow_53 ?_
    rw [zI_sJ, zI_sJ]
    refine za_putZ hc gpI_40 (by assumption) (nz01 hz.2) dI_lowerToRow_56 ?_
    refine za_goto 80 hc dI_lowerToRow_59 rfl ?_
    refine za_vret hc rfl dI_lowerToRow_80 ⟨Nat.zero_le _, Nat.zero_le _⟩ ⟨rfl, ?_, ⟨?_, ?_⟩, ?_⟩
    · have e : iA (zsI (zsJ (zsJ M 31 0 (zJ M 31 3)) 31 1 (zJ M 31 4)) 31 2 (zI M 31 5)) = iR M := by unfold iA iR; rw [zJ_sI, zJ_s, if_neg (by decide), zJ_s, if_pos rfl, zJ_s, if_pos rfl, zI_s, if_pos rfl]
      rw [e]; unfold gLow; rw [if_pos u0]
    · rw [zI_s, if_pos rfl]; exact hz.2
    · rw [zI_s, if_neg (by decide), zI_sJ, zI_sJ]; exact hz.2
    · exact (zfr_sJ (P := iF) rfl).tr ((zfr_sJ (P := iF) rfl).tr (zfr_sI (P := iF) rfl))
  · skip
    have n0 : ¬ (iA M).2.1 = 0 := fun z => h_25 (Int64.toInt_inj.mp z)
    refine za_lload_n hc dI_lowerToRow_29 rfl ?_
    refine za_lload_n hc dI_lowerToRow_30 rfl ?_
    refine za_lcmp_ge 62 hc dI_lowerToRow_31 dI_lowerToRow_32 rfl (fun h_31 => ?_) (fun h_31 => ?_)
    · skip
      have n1 : ¬ (iR M).1 * (iA M).2.1 < (iA M).1 * (iR M).2.1 := by show ¬ (zJ M 31 3).toInt * (zJ M 31 1).toInt < (zJ M 31 0).toInt * (zJ M 31 4).toInt; rw [← m1, ← m2]; exact Int.not_lt.mpr (Int64.le_iff_toInt_le.mp h_31)
      refine za_lload_n hc dI_lowerToRow_62 rfl ?_
      refine za_lload_n hc dI_lowerToRow_63 rfl ?_
      refine za_lcmp_ne 80 hc dI_lowerToRow_64 dI_lowerToRow_65 rfl (fun h_64 => ?_) (fun h_64 => ?_)
      · skip
        have n2 : ¬ (iR M).1 * (iA M).2.1 = (iA M).1 * (iR M).2.1 := by show ¬ (zJ M 31 3).toInt * (zJ M 31 1).toInt = (zJ M 31 0).toInt * (zJ M 31 4).toInt; rw [← m1, ← m2]; exact fun z => h_64 (Int64.toInt_inj.mp z)
        exact za_vret hc rfl dI_lowerToRow_80 ⟨Nat.zero_le _, Nat.zero_le _⟩ ⟨rfl, (by unfold gLow; rw [if_neg n0]; unfold gLw; rw [if_neg n1, if_neg (fun z => n2 z.1)]), hz, zfr.rf⟩
      · skip
        have e2 : (iR M).1 * (iA M).2.1 = (iA M).1 * (iR M).2.1 := by show (zJ M 31 3).toInt * (zJ M 31 1).toInt = (zJ M 31 0).toInt * (zJ M 31 4).toInt; rw [← m1, ← m2, h_64]
        refine za_aload_n hc dI_lowerToRow_68 rfl ?_
        refine za_getI hc gfI_47 (by assumption) dI_lowerToRow_69 ?_
        refine za_if_eq 80 hc dI_lowerToRow_72 rfl (fun h_72 => ?_) (fun h_72 => ?_)
        · skip
          have n3 : ¬ (iR M).2.2 = true := by show ¬ ((zI M 31 5) == 1) = true; rw [h_72]; decide
          exact za_vret hc rfl dI_lowerToRow_80 ⟨Nat.zero_le _, Nat.zero_le _⟩ ⟨rfl, (by unfold gLow; rw [if_neg n0]; unfold gLw; rw [if_neg n1, if_neg (fun z => n3 z.2)]), hz, zfr.rf⟩
        · skip
          have e3 : (iR M).2.2 = true := by show ((zI M 31 5) == 1) = true; rw [hz.2.resolve_left h_72]; rfl
          refine za_aload_n hc dI_lowerToRow_75 rfl ?_
          refine za_iconst hc 1 dI_lowerToRow_76 rfl ?_
          refine za_putZ hc gpI_40 (by assumption) (nz01 (Or.inr rfl)) dI_lowerToRow_77 ?_
          refine za_vret hc rfl dI_lowerToRow_80 ⟨Nat.zero_le _, Nat.zero_le _⟩ ⟨rfl, ?_, ⟨?_, ?_⟩, zfr_sI (P := iF) rfl⟩
          · have e : iA (zsI M 31 2 1) = ((zJ M 31 0).toInt, (zJ M 31 1).toInt, true) := by unfold iA; rw [zJ_sI, zI_s, if_pos rfl]; rfl
            rw [e]; unfold gLow; rw [if_neg n0]; unfold gLw; rw [if_neg n1, if_pos ⟨e2, e3⟩]; rfl
          · rw [zI_s, if_pos rfl]; exact Or.inr rfl
          · rw [zI_s, if_neg (by decide)]; exact hz.2
    · skip
      have u1 : (iR M).1 * (iA M).2.1 < (iA M).1 * (iR M).2.1 := by show (zJ M 31 3).toInt * (zJ M 31 1).toInt < (zJ M 31 0).toInt * (zJ M 31 4).toInt; rw [← m1, ← m2]; exact Int.not_le.mp (fun z => h_31 (Int64.le_iff_toInt_le.mpr z))
      refine za_aload_n hc dI_lowerToRow_35 rfl ?_
      refine za_aload_n hc dI_lowerToRow_36 rfl ?_
      refine za_getJ hc gfI_44 (by assumption) dI_lowerToRow_37 ?_
      refine za_putJ hc gpI_9 (by assumption) dI_lowerToRow_40 ?_
      refine za_aload_n hc dI_lowerToRow_43 rfl ?_
      refine za_aload_n hc dI_lowerToRow_44 rfl ?_
      refine za_getJ hc gfI_31 (by assumption) dI_lowerToRow_45 ?_
      rw [zJ_s, if_neg (by decide)]
      refine za_putJ hc gpI_15 (by assumption) dI_lowerToRow_48 ?_
      refine za_aload_n hc dI_lowerToRow_51 rfl ?_
      refine za_aload_n hc dI_lowerToRow_52 rfl ?_
      refine za_getI hc gfI_47 (by assumption) dI_lowerToRow_53 ?_
      rw [zI_sJ, zI_sJ]
      refine za_putZ hc gpI_40 (by assumption) (nz01 hz.2) dI_lowerToRow_56 ?_
      refine za_goto 80 hc dI_lowerToRow_59 rfl ?_
      refine za_vret hc rfl dI_lowerToRow_80 ⟨Nat.zero_le _, Nat.zero_le _⟩ ⟨rfl, ?_, ⟨?_, ?_⟩, ?_⟩
      · have e : iA (zsI (zsJ (zsJ M 31 0 (zJ M 31 3)) 31 1 (zJ M 31 4)) 31 2 (zI M 31 5)) = iR M := by unfold iA iR; rw [zJ_sI, zJ_s, if_neg (by decide), zJ_s, if_pos rfl, zJ_s, if_pos rfl, zI_s, if_pos rfl]
        rw [e]; unfold gLow; rw [if_neg n0]; unfold gLw; rw [if_pos u1]
      · rw [zI_s, if_pos rfl]; exact hz.2
      · rw [zI_s, if_neg (by decide), zI_sJ, zI_sJ]; exact hz.2
      · exact (zfr_sJ (P := iF) rfl).tr ((zfr_sJ (P := iF) rfl).tr (zfr_sI (P := iF) rfl))

set_option maxRecDepth 100000 in
set_option maxHeartbeats 4000000 in
theorem cI_reduce_ (l : Launch) (M : zM) (ha : iB (iA M)) (hp : 0 < (zJ M 31 1).toInt) (hz : iZ M) : zMet l mI_reduce rI_reduce [.ref 31] M (zqv (fun M' => iA M' = ((zJ M 31 0).toInt.tdiv (Nat.gcd (zJ M 31 0).toInt.natAbs (zJ M 31 1).toInt.natAbs), (zJ M 31 1).toInt.tdiv (Nat.gcd (zJ M 31 0).toInt.natAbs (zJ M 31 1).toInt.natAbs), (zI M 31 2) == 1) ∧ iZ M' ∧ zI M' 31 2 = zI M 31 2 ∧ zfr iF M M')) := by
  refine za_enter (by decide) (Nat.le_of_ble_eq_true rfl) (fun X hc => ?_)
  have ho := zob_31
  have ha1 := ha.1
  have ha2 := ha.2
  unfold iA at ha1 ha2
  simp only at ha1 ha2
  have hgp : 0 < (Nat.gcd (zJ M 31 0).toInt.natAbs (zJ M 31 1).toInt.natAbs) := Nat.gcd_pos_of_pos_right _ (by omega)
  have hgl : (Nat.gcd (zJ M 31 0).toInt.natAbs (zJ M 31 1).toInt.natAbs) < 2 ^ 62 := by have := Nat.le_of_dvd (show 0 < (zJ M 31 1).toInt.natAbs by omega) (Nat.gcd_dvd_right (zJ M 31 0).toInt.natAbs (zJ M 31 1).toInt.natAbs); omega
  have hnz : ¬ lN (Nat.gcd (zJ M 31 0).toInt.natAbs (zJ M 31 1).toInt.natAbs) = 0 := fun z => by
    have := (pk_lEQ (b := 0) (by omega) (by decide)).mp z
    omega
  refine za_aload_n hc dI_reduce_0 rfl ?_
  refine za_getJ hc gfI_9 (by assumption) dI_reduce_1 ?_
  refine za_aload_n hc dI_reduce_4 rfl ?_
  refine za_getJ hc gfI_15 (by assumption) dI_reduce_5 ?_
  refine za_cSN2l hc gsI_50 (cK_commonDivisor_ l M (zJ M 31 0) (zJ M 31 1) (Nat.gcd (zJ M 31 0).toInt.natAbs (zJ M 31 1).toInt.natAbs) (by omega) (by omega) rfl) ⟨rfl, rfl⟩ ⟨Nat.le_of_ble_eq_true rfl, Nat.le_of_ble_eq_true rfl⟩ ⟨Nat.zero_le _, Nat.zero_le _⟩ dI_reduce_8 (fun x_8 M_8 h_8 => ?_)
  obtain ⟨q_8, hm_8⟩ := h_8
  rw [hm_8, q_8]
  refine za_lstore_n hc dI_reduce_11 (by decide) ?_
  refine za_lload_n hc dI_reduce_12 rfl ?_
  refine za_lconst hc 1 dI_reduce_13 rfl ?_
  refine za_lcmp_le 38 hc dI_reduce_14 dI_reduce_15 rfl (fun h_14 => ?_) (fun h_14 => ?_)
  · skip
    have h1 : (Nat.gcd (zJ M 31 0).toInt.natAbs (zJ M 31 1).toInt.natAbs) = 1 := by have := (pk_lLE (a := (Nat.gcd (zJ M 31 0).toInt.natAbs (zJ M 31 1).toInt.natAbs)) (b := 1) (by omega) (by decide)).mp h_14; omega
    refine za_vret hc rfl dI_reduce_38 ⟨Nat.zero_le _, Nat.zero_le _⟩ ⟨rfl, ?_, hz, rfl, zfr.rf⟩
    rw [h1]; show _ = (Int.tdiv _ 1, Int.tdiv _ 1, _); rw [Int.tdiv_one, Int.tdiv_one]; rfl
  · skip
    refine za_aload_n hc dI_reduce_18 rfl ?_
    refine za_dup hc dI_reduce_19 rfl ?_
    refine za_getJ hc gfI_9 (by assumption) dI_reduce_20 ?_
    refine za_lload_n hc dI_reduce_23 rfl ?_
    refine za_ldiv hc dI_reduce_24 hnz ?_
    refine za_putJ hc gpI_9 (by assumption) dI_reduce_25 ?_
    refine za_aload_n hc dI_reduce_28 rfl ?_
    refine za_dup hc dI_reduce_29 rfl ?_
    refine za_getJ hc gfI_15 (by assumption) dI_reduce_30 ?_
    rw [zJ_s, if_neg (by decide)]
    refine za_lload_n hc dI_reduce_33 rfl ?_
    refine za_ldiv hc dI_reduce_34 hnz ?_
    refine za_putJ hc gpI_15 (by assumption) dI_reduce_35 ?_
    refine za_vret hc rfl dI_reduce_38 ⟨Nat.zero_le _, Nat.zero_le _⟩ ⟨rfl, ?_, ?_, rfl, ?_⟩
    · unfold iA; rw [zJ_s, if_neg (by decide), zJ_s, if_pos rfl, zJ_s, if_pos rfl, zI_sJ, zI_sJ, l_div (by omega) hgl, l_div (by omega) hgl]
    · exact hz
    · exact (zfr_sJ (P := iF) rfl).tr (zfr_sJ (P := iF) rfl)

set_option maxRecDepth 100000 in
set_option maxHeartbeats 4000000 in
theorem cI_seek_ (l : Launch) {p : Nat} {P : List (List gC)} (M : zM) (f g : Int32) (hf : f.toInt.natAbs ≤ 100) (hg : g.toInt.natAbs ≤ 100) (hp : zrg p) (hP : rH M p P) (hs : ∀ row ∈ P, gSat row) (hz : iZ M) : zMet l mI_seek rI_seek [.ref 31, .ref p, .int f, .int g] M (zqi (fun x M' => gLst P f.toInt g.toInt x (iA M').1 (iA M').2.1 ∧ iZ M' ∧ zfr iF M M')) := by
  refine za_enter (by decide) (Nat.le_of_ble_eq_true rfl) (fun X hc => ?_)
  have hpo := hp.o
  have ho := zob_31
  have hpl := hP.2.1
  have loop : ¬ (f.toInt = 0 ∧ g.toInt = 0) → P ≠ [] → ∀ (n i : Nat) (M1 : zM), n + i = P.length → gPr P f.toInt g.toInt i (iA M1) → iB (iA M1) → iZ M1 → zfr iF M M1 → zW X (zqi (fun x M' => gLst P f.toInt g.toInt x (iA M').1 (iA M').2.1 ∧ iZ M' ∧ zfr iF M M')) (0, 0) 31 [(0, .ref 31), (1, .ref p), (2, .int f), (3, .int g), (4, .int (nI i))] [] M1 := by
    intro hfg hne n
    induction n with
    | zero =>
      intro i M1 hn hpr hb hz hf1
      obtain rfl : i = P.length := by omega
      have hP1 : rH M1 p P := rH_kept hP hf1 (iF_0 hp) (iF_1 hp) (iF_2 hp)
      have hI := hpr.2 (List.length_pos_iff.mpr hne)
      rw [List.take_length] at hI
      have hBp : 0 < (zJ M1 31 1).toInt := hI.1
      refine za_iload hc dI_seek_31 rfl ?_
      refine za_aload_n hc dI_seek_33 rfl ?_
      refine za_cV0i hc gsI_21 (by assumption) (cR_rowCount_ l _ hp) ⟨rfl, rfl⟩ ⟨Nat.le_of_ble_eq_true rfl, Nat.le_of_ble_eq_true rfl⟩ ⟨Nat.zero_le _, Nat.zero_le _⟩ dI_seek_34 (fun x_34 M_34 h_34 => ?_)
      obtain ⟨q_34, hm_34⟩ := h_34
      rw [hm_34, q_34, hP1.1]
      refine za_icmp_ge 74 hc dI_seek_37 rfl (fun h_37 => ?_) (fun h_37 => ?_)
      · skip
        refine za_aload_n hc dI_seek_74 rfl ?_
        refine za_cV0v hc gsI_37 (by assumption) (cI_reduce_ l M1 hb hBp hz) ⟨rfl, rfl⟩ ⟨Nat.le_of_ble_eq_true rfl, Nat.le_of_ble_eq_true rfl⟩ ⟨Nat.zero_le _, Nat.zero_le _⟩ dI_seek_75 (fun M_75 h_75 => ?_)
        obtain ⟨g1, g2, g3, g4⟩ := h_75
        have fin : gLst P f.toInt g.toInt (if (zI M1 31 2 == 1) = true then 0 else 1) (iA M_75).1 (iA M_75).2.1 := by
          rw [g1]
          refine Or.inr (Or.inr ⟨hne, g_redcop hBp, _, ?_, rfl⟩)
          exact gInf_red (((Nat.gcd (zJ M1 31 0).toInt.natAbs (zJ M1 31 1).toInt.natAbs) : Nat) : Int) _ _ (by exact Int.natCast_pos.mpr (Nat.gcd_pos_of_pos_right _ (by omega))) (g_tdg _ _ (Nat.gcd_dvd_left _ _)) (g_tdg _ _ (Nat.gcd_dvd_right _ _)) hI
        refine za_aload_n hc dI_seek_78 rfl ?_
        refine za_getI hc gfI_40 (by assumption) dI_seek_79 ?_
        rw [g3]
        refine za_if_eq 89 hc dI_seek_82 rfl (fun h_82 => ?_) (fun h_82 => ?_)
        · skip
          rw [h_82] at fin
          refine za_iconst hc 1 dI_seek_89 rfl ?_
          exact za_iret hc rfl dI_seek_90 ⟨Nat.zero_le _, Nat.zero_le _⟩ (⟨_, rfl, fin, g2, hf1.tr g4⟩)
        · skip
          rw [hz.1.resolve_left h_82] at fin
          refine za_iconst hc 0 dI_seek_85 rfl ?_
          refine za_goto 90 hc dI_seek_86 rfl ?_
          exact za_iret hc rfl dI_seek_90 ⟨Nat.zero_le _, Nat.zero_le _⟩ (⟨_, rfl, fin, g2, hf1.tr g4⟩)
      · skip
        exact absurd (Int32.le_refl _) h_37
    | succ n ih =>
      intro i M1 hn hpr hb hz hf1
      have hi : i < P.length := by omega
      have hri := List.getElem?_eq_getElem (l := P) hi
      generalize hme : P[i] = row at hri
      have hst := gPr_step (zI M1 31 5 == 1) hfg hri (hs row (List.mem_of_getElem? hri)) hpr
      have hP1 : rH M1 p P := rH_kept hP hf1 (iF_0 hp) (iF_1 hp) (iF_2 hp)
      refine za_iload hc dI_seek_31 rfl ?_
      refine za_aload_n hc dI_seek_33 rfl ?_
      refine za_cV0i hc gsI_21 (by assumption) (cR_rowCount_ l _ hp) ⟨rfl, rfl⟩ ⟨Nat.le_of_ble_eq_true rfl, Nat.le_of_ble_eq_true rfl⟩ ⟨Nat.zero_le _, Nat.zero_le _⟩ dI_seek_34 (fun x_34 M_34 h_34 => ?_)
      obtain ⟨q_34, hm_34⟩ := h_34
      rw [hm_34, q_34, hP1.1]
      refine za_icmp_ge 74 hc dI_seek_37 rfl (fun h_37 => ?_) (fun h_37 => ?_)
      · skip
        exact absurd ((nI_leI (by omega) (by omega)).mp h_37) (by omega)
      · skip
        refine za_aload_n hc dI_seek_40 rfl ?_
        refine za_aload_n hc dI_seek_41 rfl ?_
        refine za_iload hc dI_seek_42 rfl ?_
        refine za_iload_n hc dI_seek_44 rfl ?_
        refine za_iload_n hc dI_seek_45 rfl ?_
        refine za_cV4v hc gsI_27 (by assumption) (cI_seekInRow_ l M1 f g hf hg hp hP1 hri hz) ⟨rfl, rfl⟩ ⟨Nat.le_of_ble_eq_true rfl, Nat.le_of_ble_eq_true rfl⟩ ⟨Nat.zero_le _, Nat.zero_le _⟩ dI_seek_46 (fun M_46 h_46 => ?_)
        obtain ⟨g1, g2, g3, g4, g5⟩ := h_46
        rw [← g1, ← g3] at hst
        refine za_aload_n hc dI_seek_49 rfl ?_
        refine za_getJ hc gfI_31 (by assumption) dI_seek_50 ?_
        refine za_lconst hc 0 dI_seek_53 rfl ?_
        refine za_lcmp_ne 64 hc dI_seek_54 dI_seek_55 rfl (fun h_54 => ?_) (fun h_54 => ?_)
        · skip
          have h3 := hst.2 (fun z => h_54 (Int64.toInt_inj.mp z))
          refine za_aload_n hc dI_seek_64 rfl ?_
          refine za_cV0v hc gsI_34 (by assumption) (cI_lowerToRow_ l M_46 (by rw [g3]; exact hb) g2 g4) ⟨rfl, rfl⟩ ⟨Nat.le_of_ble_eq_true rfl, Nat.le_of_ble_eq_true rfl⟩ ⟨Nat.zero_le _, Nat.zero_le _⟩ dI_seek_65 (fun M_65 h_65 => ?_)
          obtain ⟨k1, k2, k3⟩ := h_65
          refine za_iinc hc _ dI_seek_68 rfl ((nI_succ i).symm) (by decide) ?_
          refine za_goto 31 hc dI_seek_71 rfl ?_
          exact ih (i + 1) M_65 (by omega) (by rw [k1]; exact h3) (by rw [k1]; exact iB_low (by rw [g3]; exact hb) g2) k2 ((hf1.tr g5).tr k3)
        · skip
          have h3 := hst.1 (by show (zJ M_46 31 4).toInt = 0; rw [h_54]; rfl)
          refine za_aload_n hc dI_seek_58 rfl ?_
          refine za_cV0v hc gsI_18 (by assumption) (cI_forget_ l M_46) ⟨rfl, rfl⟩ ⟨Nat.le_of_ble_eq_true rfl, Nat.le_of_ble_eq_true rfl⟩ ⟨Nat.zero_le _, Nat.zero_le _⟩ dI_seek_59 (fun M_59 h_59 => ?_)
          subst h_59
          refine za_iconst hc 2 dI_seek_62 rfl ?_
          exact za_iret hc rfl dI_seek_63 ⟨Nat.zero_le _, Nat.zero_le _⟩ (⟨_, rfl, Or.inr (Or.inl ⟨hne, ⟨row, List.mem_of_getElem? hri, h3⟩, rfl, by rw [iA_forget], by rw [iA_forget]⟩), ⟨by rw [zI_sJ, zI_sJ]; exact g4.1, by rw [zI_sJ, zI_sJ]; exact g4.2⟩, (hf1.tr g5).tr ((zfr_sJ (P := iF) rfl).tr (zfr_sJ (P := iF) rfl))⟩)
  have hf0 : zfr iF M (zsJ (zsJ M 31 0 0) 31 1 0) := (zfr_sJ (P := iF) rfl).tr (zfr_sJ (P := iF) rfl)
  have hP0 : rH (zsJ (zsJ M 31 0 0) 31 1 0) p P := rH_kept hP hf0 (iF_0 hp) (iF_1 hp) (iF_2 hp)
  have hz0 : iZ (zsJ (zsJ M 31 0 0) 31 1 0) := ⟨by rw [zI_sJ, zI_sJ]; exact hz.1, by rw [zI_sJ, zI_sJ]; exact hz.2⟩
  have eA : iA (zsJ (zsJ M 31 0 0) 31 1 0) = (0, 0, zI M 31 2 == 1) := by unfold iA; rw [zJ_s, if_neg (by decide), zJ_s, if_pos rfl, zJ_s, if_pos rfl, zI_sJ, zI_sJ]; rfl
  refine za_aload_n hc dI_seek_0 rfl ?_
  refine za_cV0v hc gsI_18 (by assumption) (cI_forget_ l M) ⟨rfl, rfl⟩ ⟨Nat.le_of_ble_eq_true rfl, Nat.le_of_ble_eq_true rfl⟩ ⟨Nat.zero_le _, Nat.zero_le _⟩ dI_seek_1 (fun M_1 h_1 => ?_)
  subst h_1
  refine za_aload_n hc dI_seek_4 rfl ?_
  refine za_cV0i hc gsI_21 (by assumption) (cR_rowCount_ l _ hp) ⟨rfl, rfl⟩ ⟨Nat.le_of_ble_eq_true rfl, Nat.le_of_ble_eq_true rfl⟩ ⟨Nat.zero_le _, Nat.zero_le _⟩ dI_seek_5 (fun x_5 M_5 h_5 => ?_)
  obtain ⟨q_5, hm_5⟩ := h_5
  rw [hm_5, q_5, hP0.1]
  refine za_if_ne 13 hc dI_seek_8 rfl (fun h_8 => ?_) (fun h_8 => ?_)
  · skip
    have hne : P ≠ [] := fun z => h_8 (by rw [z]; rfl)
    refine za_iload_n hc dI_seek_13 rfl ?_
    refine za_if_ne 28 hc dI_seek_14 rfl (fun h_14 => ?_) (fun h_14 => ?_)
    · skip
      have NF : ¬ (f.toInt = 0 ∧ g.toInt = 0) := fun z => h_14 (Int32.toInt_inj.mp z.1)
      refine za_iconst hc 0 dI_seek_28 rfl ?_
      refine za_istore hc dI_seek_29 (by decide) ?_
      refine loop NF hne P.length 0 _ (by omega) ⟨fun _ => by rw [eA], fun z => absurd z (by omega)⟩ ?_ hz0 hf0
      rw [eA]; exact ⟨⟨(by decide : (-40000000000 : Int) ≤ 0), (by decide : (0 : Int) ≤ 40000000000)⟩, Int.le_refl 0, (by decide : (0 : Int) ≤ 200000000)⟩
    · skip
      refine za_iload_n hc dI_seek_17 rfl ?_
      refine za_if_ne 28 hc dI_seek_18 rfl (fun h_18 => ?_) (fun h_18 => ?_)
      · skip
        have NF : ¬ (f.toInt = 0 ∧ g.toInt = 0) := fun z => h_18 (Int32.toInt_inj.mp z.2)
        refine za_iconst hc 0 dI_seek_28 rfl ?_
        refine za_istore hc dI_seek_29 (by decide) ?_
        refine loop NF hne P.length 0 _ (by omega) ⟨fun _ => by rw [eA], fun z => absurd z (by omega)⟩ ?_ hz0 hf0
        rw [eA]; exact ⟨⟨(by decide : (-40000000000 : Int) ≤ 0), (by decide : (0 : Int) ≤ 40000000000)⟩, Int.le_refl 0, (by decide : (0 : Int) ≤ 200000000)⟩
      · skip
        refine za_aload_n hc dI_seek_21 rfl ?_
        refine za_lconst hc 1 dI_seek_22 rfl ?_
        refine za_putJ hc gpI_15 (by assumption) dI_seek_23 ?_
        refine za_iconst hc 0 dI_seek_26 rfl ?_
        have eB : iA (zsJ (zsJ (zsJ M 31 0 0) 31 1 0) 31 1 1) = (0, 1, zI M 31 2 == 1) := by unfold iA; rw [zJ_s, if_neg (by decide), zJ_s, if_neg (by decide), zJ_s, if_pos rfl, zJ_s, if_pos rfl, zI_sJ, zI_sJ, zI_sJ]; rfl
        refine za_iret hc rfl dI_seek_27 ⟨Nat.zero_le _, Nat.zero_le _⟩ ⟨_, rfl, Or.inr (Or.inr ⟨hne, ?_, true, ?_, rfl⟩), ?_, ?_⟩
        · rw [eB]; exact (by decide : Nat.gcd 0 1 = 1)
        · rw [eB, h_14, h_18]; exact gInf_zero hne hs
        · exact hz0
        · exact hf0.tr (zfr_sJ (P := iF) rfl)
  · skip
    have he : P = [] := List.length_eq_zero_iff.mp (Nat.le_zero.mp ((nI_leI (by omega) (by decide)).mp (by rw [h_8]; exact Int32.le_refl _ : nI P.length ≤ nI 0)))
    refine za_iconst hc 3 dI_seek_11 rfl ?_
    exact za_iret hc rfl dI_seek_12 ⟨Nat.zero_le _, Nat.zero_le _⟩ (⟨_, rfl, Or.inl ⟨he, rfl, by rw [eA], by rw [eA]⟩, hz0, hf0⟩)
