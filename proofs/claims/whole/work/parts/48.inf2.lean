/-! Infimum: over a row. -/
def gi1 (f g : Int) (e : gE) (m : gC) : gE := if gal f g m < 0 then gRs e (-m.2.2.1 * (f * f + g * g)) (-gal f g m) (!m.2.2.2) else e
def gi2 (f g : Int) (m : gC) (e : gE) (q : gC) : gE := if gsd f g q < 0 then (if 0 < gtn m q then gRs e (gtp f g m q) (gtn m q) (!m.2.2.2 && !q.2.2.2) else e) else e
def gi (f g : Int) (row : List gC) (e : gE) (m : gC) : gE := if gsd f g m = 0 then gi1 f g e m else if 0 < gsd f g m then row.foldl (gi2 f g m) e else e
theorem g_fold_lo {α : Type} (F : gE → α → gE) (C : α → Rat → Prop) (h : ∀ e a, 0 ≤ e.2.1 → (∀ t, gLo (F e a) t ↔ gLo e t ∧ C a t) ∧ 0 ≤ (F e a).2.1) (l : List α) : ∀ e : gE, 0 ≤ e.2.1 → (∀ t, gLo (l.foldl F e) t ↔ gLo e t ∧ ∀ a ∈ l, C a t) ∧ 0 ≤ (l.foldl F e).2.1 := by
  induction l with
  | nil => exact fun e he => ⟨fun t => ⟨fun z => ⟨z, fun a ha => by cases ha⟩, fun z => z.1⟩, he⟩
  | cons a l ih =>
    intro e he
    obtain ⟨h1, h2⟩ := h e a he
    obtain ⟨h3, h4⟩ := ih (F e a) h2
    refine ⟨fun t => ?_, h4⟩
    rw [List.foldl_cons, h3 t, h1 t]
    constructor
    · rintro ⟨⟨u, v⟩, w⟩
      exact ⟨u, fun b hb => by rcases List.mem_cons.mp hb with z | z; rw [z]; exact v; exact w b z⟩
    · rintro ⟨u, w⟩
      exact ⟨⟨u, w a List.mem_cons_self⟩, fun b hb => w b (List.mem_cons_of_mem _ hb)⟩
theorem gi1_lo {f g : Int} {e : gE} {m : gC} (he : 0 ≤ e.2.1) : (∀ t, gLo (gi1 f g e m) t ↔ gLo e t ∧ (gal f g m < 0 → gLb ((-(m.2.2.1) * (f * f + g * g) : Int) : Rat) ((-gal f g m : Int) : Rat) (!m.2.2.2) t)) ∧ 0 ≤ (gi1 f g e m).2.1 := by
  unfold gi1
  split <;> rename_i h
  · refine ⟨fun t => ?_, Int.le_of_lt (gRs_pos he (by omega))⟩
    rw [gRs_lo he (by omega)]
    exact ⟨fun z => ⟨z.1, fun _ => z.2⟩, fun z => ⟨z.1, z.2 h⟩⟩
  · exact ⟨fun t => ⟨fun z => ⟨z, fun w => absurd w h⟩, fun z => z.1⟩, he⟩
theorem gi2_lo {f g : Int} {m : gC} (e : gE) (q : gC) (he : 0 ≤ e.2.1) : (∀ t, gLo (gi2 f g m e q) t ↔ gLo e t ∧ (gsd f g q < 0 → 0 < gtn m q → gLb ((gtp f g m q : Int) : Rat) ((gtn m q : Int) : Rat) (!m.2.2.2 && !q.2.2.2) t)) ∧ 0 ≤ (gi2 f g m e q).2.1 := by
  unfold gi2
  split <;> rename_i h
  · split <;> rename_i h2
    · refine ⟨fun t => ?_, Int.le_of_lt (gRs_pos he h2)⟩
      rw [gRs_lo he h2]
      exact ⟨fun z => ⟨z.1, fun _ _ => z.2⟩, fun z => ⟨z.1, z.2 h h2⟩⟩
    · exact ⟨fun t => ⟨fun z => ⟨z, fun _ w => absurd w h2⟩, fun z => z.1⟩, he⟩
  · exact ⟨fun t => ⟨fun z => ⟨z, fun w => absurd w h⟩, fun z => z.1⟩, he⟩
theorem gi_lo {f g : Int} {row : List gC} (e : gE) (m : gC) (he : 0 ≤ e.2.1) : (∀ t, gLo (gi f g row e m) t ↔ gLo e t ∧ ((gsd f g m = 0 → gal f g m < 0 → gLb ((-(m.2.2.1) * (f * f + g * g) : Int) : Rat) ((-gal f g m : Int) : Rat) (!m.2.2.2) t) ∧ ∀ q ∈ row, 0 < gsd f g m → gsd f g q < 0 → 0 < gtn m q → gLb ((gtp f g m q : Int) : Rat) ((gtn m q : Int) : Rat) (!m.2.2.2 && !q.2.2.2) t)) ∧ 0 ≤ (gi f g row e m).2.1 := by
  unfold gi
  split <;> rename_i h
  · obtain ⟨h1, h2⟩ := gi1_lo (f := f) (g := g) (m := m) he
    exact ⟨fun t => (h1 t).trans ⟨fun z => ⟨z.1, fun _ => z.2, fun q _ w => absurd h (by omega)⟩, fun z => ⟨z.1, z.2.1 h⟩⟩, h2⟩
  · split <;> rename_i h2
    · obtain ⟨h3, h4⟩ := g_fold_lo _ _ (gi2_lo (f := f) (g := g) (m := m)) row e he
      exact ⟨fun t => (h3 t).trans ⟨fun z => ⟨z.1, fun w => absurd w h, fun q hq _ => z.2 q hq⟩, fun z => ⟨z.1, fun q hq => z.2.2 q hq h2⟩⟩, h4⟩
    · exact ⟨fun t => ⟨fun z => ⟨z, fun w => absurd w h, fun q _ w => absurd w h2⟩, fun z => z.1⟩, he⟩
theorem g_seek {f g : Int} {row : List gC} (k : Bool) : (∀ t, gLo (row.foldl (gi f g row) (0, 0, k)) t ↔ gLowR row f g t) ∧ 0 ≤ (row.foldl (gi f g row) (0, 0, k)).2.1 := by
  obtain ⟨h1, h2⟩ := g_fold_lo _ _ (gi_lo (f := f) (g := g) (row := row)) row (0, 0, k) (Int.le_refl _)
  refine ⟨fun t => (h1 t).trans ⟨fun z => ⟨fun m hm => (z.2 m hm).1, fun i hi j hj a b c => (z.2 i hi).2 j hj a b c⟩, fun z => ⟨fun w => absurd rfl w, fun m hm => ⟨z.1 m hm, fun q hq a b c => z.2 m hm q hq a b c⟩⟩⟩, h2⟩
theorem iB_gRs {e : gE} {T B : Int} {k : Bool} (he : iB e) (hT : -40000000000 ≤ T ∧ T ≤ 40000000000) (hB : 0 ≤ B ∧ B ≤ 200000000) : iB (gRs e T B k) := by
  unfold gRs
  split
  · exact ⟨hT, hB⟩
  · split
    · exact he
    · exact he
theorem iB_one {f g : Int} {e : gE} {m : gC} (hf : f.natAbs ≤ 100) (hg : g.natAbs ≤ 100) (hm : gLim m) (he : iB e) : iB (gi1 f g e m) := by
  obtain ⟨h1, h2, h3⟩ := hm
  have p1 := g_mulb (A := 10000) (B := 100) (a := m.1) (b := f) (by omega) (by omega)
  have p2 := g_mulb (A := 10000) (B := 100) (a := m.2.1) (b := g) (by omega) (by omega)
  have p3 := g_mulb (A := 100) (B := 100) (a := f) (b := f) (by omega) (by omega)
  have p4 := g_mulb (A := 100) (B := 100) (a := g) (b := g) (by omega) (by omega)
  have p5 := g_mulb (A := 10000) (B := 20000) (a := -m.2.2.1) (b := f * f + g * g) (by omega) (by omega)
  unfold gi1
  split <;> rename_i h
  · exact iB_gRs he (by omega) (by unfold gal at *; omega)
  · exact he
theorem iB_two {f g : Int} {e : gE} {m q : gC} (hf : f.natAbs ≤ 100) (hg : g.natAbs ≤ 100) (hm : gLim m) (hq : gLim q) (he : iB e) : iB (gi2 f g m e q) := by
  obtain ⟨h1, h2, h3⟩ := hm
  obtain ⟨k1, k2, k3⟩ := hq
  have p1 := g_mulb (A := 10000) (B := 100) (a := m.2.1) (b := f) (by omega) (by omega)
  have p2 := g_mulb (A := 10000) (B := 100) (a := m.1) (b := g) (by omega) (by omega)
  have p3 := g_mulb (A := 10000) (B := 100) (a := q.2.1) (b := f) (by omega) (by omega)
  have p4 := g_mulb (A := 10000) (B := 100) (a := q.1) (b := g) (by omega) (by omega)
  have p5 := g_mulb (A := 10000) (B := 2000000) (a := m.2.2.1) (b := gsd f g q) (by omega) (by unfold gsd; omega)
  have p6 := g_mulb (A := 10000) (B := 2000000) (a := q.2.2.1) (b := gsd f g m) (by omega) (by unfold gsd; omega)
  have p7 := g_mulb (A := 10000) (B := 10000) (a := m.1) (b := q.2.1) (by omega) (by omega)
  have p8 := g_mulb (A := 10000) (B := 10000) (a := m.2.1) (b := q.1) (by omega) (by omega)
  unfold gi2
  split
  · split <;> rename_i h
    · exact iB_gRs he (by unfold gtp; omega) (by unfold gtn at *; omega)
    · exact he
  · exact he
theorem iF_0 {p : Nat} (hp : zrg p) : ¬ iF p := fun z => by
  have := hp.2.1; rw [show p = 31 from z] at this; revert this; decide
theorem iF_1 {p : Nat} (hp : zrg p) : ¬ iF (p + 1) := fun z => by
  have := hp.2.2.1; rw [show p + 1 = 31 from z] at this; revert this; decide
theorem iF_2 {p : Nat} (hp : zrg p) : ¬ iF (p + 2) := fun z => by
  have := hp.2.2.2; rw [show p + 2 = 31 from z] at this; revert this; decide
theorem i_le0 {x : Int32} {v : Int} (h : x.toInt = v) : x ≤ 0 ↔ v ≤ 0 := by rw [← h]; exact Int32.le_iff_toInt_le
theorem i_ge0 {x : Int32} {v : Int} (h : x.toInt = v) : 0 ≤ x ↔ 0 ≤ v := by rw [← h]; exact Int32.le_iff_toInt_le
theorem i_eq0 {x : Int32} {v : Int} (h : x.toInt = v) : x = 0 ↔ v = 0 := by rw [← h]; exact ⟨fun z => by rw [z]; rfl, fun z => Int32.toInt_inj.mp z⟩

set_option maxRecDepth 100000 in
set_option maxHeartbeats 4000000 in
theorem cI_seekInRow_ (l : Launch) {p j : Nat} {P : List (List gC)} {row : List gC} (M : zM) (f g : Int32) (hf : f.toInt.natAbs ≤ 100) (hg : g.toInt.natAbs ≤ 100) (hp : zrg p) (hP : rH M p P) (hrow : P[j]? = some row) (hz : iZ M) : zMet l mI_seekInRow rI_seekInRow [.ref 31, .ref p, .int (nI j), .int f, .int g] M (zqv (fun M' => iR M' = (row.foldl (gi f.toInt g.toInt row) (0, 0, zI M 31 5 == 1)) ∧ iB (iR M') ∧ iA M' = iA M ∧ iZ M' ∧ zfr iF M M')) := by
  refine za_enter (by decide) (Nat.le_of_ble_eq_true rfl) (fun X hc => ?_)
  have hpo := hp.o
  have ho := zob_31
  have hj : j < 12 := by have := (List.getElem?_eq_some_iff.mp hrow).1; have := hP.2.1; omega
  have hrl := (hP.2.2 j row hrow).1
  have outer : ∀ (t : List gC) (i : Nat) (M1 : zM), row.drop i = t → i + t.length = row.length → t.foldl (gi f.toInt g.toInt row) (iR M1) = (row.foldl (gi f.toInt g.toInt row) (0, 0, zI M 31 5 == 1)) → iB (iR M1) → iA M1 = iA M → iZ M1 → zfr iF M M1 → zW X (zqv (fun M' => iR M' = (row.foldl (gi f.toInt g.toInt row) (0, 0, zI M 31 5 == 1)) ∧ iB (iR M') ∧ iA M' = iA M ∧ iZ M' ∧ zfr iF M M')) (0, 0) 13 [(0, .ref 31), (1, .ref p), (2, .int (nI j)), (3, .int f), (4, .int g), (5, .int (nI i))] [] M1 := by
    intro t
    induction t with
    | nil =>
      intro i M1 hdr hn hE hb hA hz hf1
      simp only [List.length_nil] at hn
      have hP1 : rH M1 p P := rH_kept hP hf1 (iF_0 hp) (iF_1 hp) (iF_2 hp)
      obtain ⟨w1, w2, w3, w4⟩ := hP1.2.2 j row hrow
      refine za_iload hc dI_seekInRow_13 rfl ?_
      refine za_aload_n hc dI_seekInRow_15 rfl ?_
      refine za_iload_n hc dI_seekInRow_16 rfl ?_
      refine za_cV1i hc gsI_54 (by assumption) (cR_memberCount_ l M1 hp hj) ⟨rfl, rfl⟩ ⟨Nat.le_of_ble_eq_true rfl, Nat.le_of_ble_eq_true rfl⟩ ⟨Nat.zero_le _, Nat.zero_le _⟩ dI_seekInRow_17 (fun x_17 M_17 h_17 => ?_)
      obtain ⟨q_17, hm_17⟩ := h_17
      rw [hm_17, q_17, w2]
      refine za_icmp_ge 107 hc dI_seekInRow_20 rfl (fun h_20 => ?_) (fun h_20 => ?_)
      · skip
        exact za_vret hc rfl dI_seekInRow_107 ⟨Nat.zero_le _, Nat.zero_le _⟩ (⟨rfl, hE, hb, hA, hz, hf1⟩)
      · skip
        exact absurd ((nI_leI (by omega) (by omega)).mpr (show row.length ≤ i by omega)) h_20
    | cons m t ih =>
      intro i M1 hdr hn hE hb hA hz hf1
      simp only [List.length_cons] at hn
      have hri : row[i]? = some m := by rw [← List.head?_drop, hdr]; rfl
      have hdr2 : row.drop (i + 1) = t := by rw [← List.drop_drop, hdr]; rfl
      have hi : i < 12 := by omega
      have hlm : gLim m := (hP.2.2 j row hrow).2.2.2 m (List.mem_of_getElem? hri)
      have tail : ∀ (k : Nat) (sd : Int32) (M2 : zM), iR M2 = gi f.toInt g.toInt row (iR M1) m → iB (iR M2) → iA M2 = iA M → iZ M2 → zfr iF M M2 → zW X (zqv (fun M' => iR M' = (row.foldl (gi f.toInt g.toInt row) (0, 0, zI M 31 5 == 1)) ∧ iB (iR M') ∧ iA M' = iA M ∧ iZ M' ∧ zfr iF M M')) (0, 0) 101 [(0, .ref 31), (1, .ref p), (2, .int (nI j)), (3, .int f), (4, .int g), (5, .int (nI i)), (6, .int sd), (7, .int (nI k))] [] M2 := by
        intro k sd M2 hE2 hb2 hA2 hz2 hf2
        refine za_iinc hc _ dI_seekInRow_101 rfl ((nI_succ i).symm) (by decide) ?_
        refine za_goto 13 hc dI_seekInRow_104 rfl ?_
        refine za_take 6 ?_
        exact ih (i + 1) M2 hdr2 (by omega) (by rw [hE2]; exact hE) hb2 hA2 hz2 hf2
      generalize he0 : iR M1 = e0 at tail
      have inner : ∀ (E1 : gE) (u : List gC) (k : Nat) (sd : Int32) (M1 : zM), row.drop k = u → k + u.length = row.length → sd.toInt = gsd f.toInt g.toInt m → 0 < gsd f.toInt g.toInt m → u.foldl (gi2 f.toInt g.toInt m) (iR M1) = E1 → (E1 = gi f.toInt g.toInt row e0 m) → iB (iR M1) → iA M1 = iA M → iZ M1 → zfr iF M M1 → zW X (zqv (fun M' => iR M' = (row.foldl (gi f.toInt g.toInt row) (0, 0, zI M 31 5 == 1)) ∧ iB (iR M') ∧ iA M' = iA M ∧ iZ M' ∧ zfr iF M M')) (0, 0) 54 [(0, .ref 31), (1, .ref p), (2, .int (nI j)), (3, .int f), (4, .int g), (5, .int (nI i)), (6, .int sd), (7, .int (nI k))] [] M1 := by
        intro E1 u
        induction u with
        | nil =>
          intro k sd M1 hdu hm hsd hps hE1 hE2 hb hA hz hf1
          simp only [List.length_nil] at hm
          have hP1 : rH M1 p P := rH_kept hP hf1 (iF_0 hp) (iF_1 hp) (iF_2 hp)
          obtain ⟨w1, w2, w3, w4⟩ := hP1.2.2 j row hrow
          refine za_iload hc dI_seekInRow_54 rfl ?_
          refine za_if_le 101 hc dI_seekInRow_56 rfl (fun h_56 => ?_) (fun h_56 => ?_)
          · skip
            exact absurd ((i_le0 hsd).mp h_56) (by omega)
          · skip
            refine za_iload hc dI_seekInRow_59 rfl ?_
            refine za_aload_n hc dI_seekInRow_61 rfl ?_
            refine za_iload_n hc dI_seekInRow_62 rfl ?_
            refine za_cV1i hc gsI_54 (by assumption) (cR_memberCount_ l M1 hp hj) ⟨rfl, rfl⟩ ⟨Nat.le_of_ble_eq_true rfl, Nat.le_of_ble_eq_true rfl⟩ ⟨Nat.zero_le _, Nat.zero_le _⟩ dI_seekInRow_63 (fun x_63 M_63 h_63 => ?_)
            obtain ⟨q_63, hm_63⟩ := h_63
            rw [hm_63, q_63, w2]
            refine za_icmp_ge 101 hc dI_seekInRow_66 rfl (fun h_66 => ?_) (fun h_66 => ?_)
            · skip
              exact tail k sd M1 (by rw [← hE2, ← hE1]; rfl) hb hA hz hf1
            · skip
              exact absurd ((nI_leI (by omega) (by omega)).mpr (show row.length ≤ k by omega)) h_66
        | cons q u ihu =>
          intro k sd M1 hdu hm hsd hps hE1 hE2 hb hA hz hf1
          simp only [List.length_cons] at hm
          have hP1 : rH M1 p P := rH_kept hP hf1 (iF_0 hp) (iF_1 hp) (iF_2 hp)
          obtain ⟨w1, w2, w3, w4⟩ := hP1.2.2 j row hrow
          have hrk : row[k]? = some q := by rw [← List.head?_drop, hdu]; rfl
          have hdu2 : row.drop (k + 1) = u := by rw [← List.drop_drop, hdu]; rfl
          have hk : k < 12 := by omega
          have hlq : gLim q := w4 q (List.mem_of_getElem? hrk)
          have eq : rg M1 p j k = q := w3 k q hrk
          have em : rg M1 p j i = m := w3 i m hri
          rw [List.foldl_cons] at hE1
          refine za_iload hc dI_seekInRow_54 rfl ?_
          refine za_if_le 101 hc dI_seekInRow_56 rfl (fun h_56 => ?_) (fun h_56 => ?_)
          · skip
            exact absurd ((i_le0 hsd).mp h_56) (by omega)
          · skip
            refine za_iload hc dI_seekInRow_59 rfl ?_
            refine za_aload_n hc dI_seekInRow_61 rfl ?_
            refine za_iload_n hc dI_seekInRow_62 rfl ?_
            refine za_cV1i hc gsI_54 (by assumption) (cR_memberCount_ l M1 hp hj) ⟨rfl, rfl⟩ ⟨Nat.le_of_ble_eq_true rfl, Nat.le_of_ble_eq_true rfl⟩ ⟨Nat.zero_le _, Nat.zero_le _⟩ dI_seekInRow_63 (fun x_63 M_63 h_63 => ?_)
            obtain ⟨q_63, hm_63⟩ := h_63
            rw [hm_63, q_63, w2]
            refine za_icmp_ge 101 hc dI_seekInRow_66 rfl (fun h_66 => ?_) (fun h_66 => ?_)
            · skip
              exact absurd ((nI_leI (by omega) (by omega)).mp h_66) (by omega)
            · skip
              refine za_aload_n hc dI_seekInRow_69 rfl ?_
              refine za_iload_n hc dI_seekInRow_70 rfl ?_
              refine za_iload hc dI_seekInRow_71 rfl ?_
              refine za_iload_n hc dI_seekInRow_73 rfl ?_
              refine za_iload hc dI_seekInRow_74 rfl ?_
              refine za_cS5i hc gsI_58 (cI_side_ l M1 f g hf hg hp hj hk (by rw [eq]; exact hlq)) ⟨rfl, rfl⟩ ⟨Nat.le_of_ble_eq_true rfl, Nat.le_of_ble_eq_true rfl⟩ ⟨Nat.zero_le _, Nat.zero_le _⟩ dI_seekInRow_76 (fun x_76 M_76 h_76 => ?_)
              obtain ⟨q_76, hm_76⟩ := h_76
              rw [eq] at q_76
              rw [hm_76]
              refine za_if_ge 95 hc dI_seekInRow_79 rfl (fun h_79 => ?_) (fun h_79 => ?_)
              · skip
                have hge := (i_ge0 q_76).mp h_79
                have g5 : iR M1 = gi2 f.toInt g.toInt m (iR M1) q := by unfold gi2; rw [if_neg (by omega)]
                refine za_iinc hc _ dI_seekInRow_95 rfl ((nI_succ k).symm) (by decide) ?_
                refine za_goto 54 hc dI_seekInRow_98 rfl ?_
                first
                | exact ihu (k + 1) sd M_92 hdu2 (by omega) hsd hps (by rw [g5]; exact hE1) hE2 (by rw [g5]; exact iB_two hf hg hlm hlq hb) (g2.trans hA) g3 (hf1.tr g4)
                | exact ihu (k + 1) sd M1 hdu2 (by omega) hsd hps (by rw [← g5] at hE1; exact hE1) hE2 hb hA hz hf1
              · skip
                have hlt : gsd f.toInt g.toInt q < 0 := Int.not_le.mp (fun z => h_79 ((i_ge0 q_76).mpr z))
                refine za_aload_n hc dI_seekInRow_82 rfl ?_
                refine za_aload_n hc dI_seekInRow_83 rfl ?_
                refine za_iload_n hc dI_seekInRow_84 rfl ?_
                refine za_iload hc dI_seekInRow_85 rfl ?_
                refine za_iload hc dI_seekInRow_87 rfl ?_
                refine za_iload_n hc dI_seekInRow_89 rfl ?_
                refine za_iload hc dI_seekInRow_90 rfl ?_
                refine za_cV6v hc gsI_66 (by assumption) (cI_boundByTwo_ l M1 f g hf hg hp hj hi hk (by rw [em]; exact hlm) (by rw [eq]; exact hlq) hb hz) ⟨rfl, rfl⟩ ⟨Nat.le_of_ble_eq_true rfl, Nat.le_of_ble_eq_true rfl⟩ ⟨Nat.zero_le _, Nat.zero_le _⟩ dI_seekInRow_92 (fun M_92 h_92 => ?_)
                obtain ⟨g1, g2, g3, g4⟩ := h_92
                rw [em, eq] at g1
                have g5 : iR M_92 = gi2 f.toInt g.toInt m (iR M1) q := by rw [g1]; unfold gi2; rw [if_pos hlt]
                refine za_iinc hc _ dI_seekInRow_95 rfl ((nI_succ k).symm) (by decide) ?_
                refine za_goto 54 hc dI_seekInRow_98 rfl ?_
                first
                | exact ihu (k + 1) sd M_92 hdu2 (by omega) hsd hps (by rw [g5]; exact hE1) hE2 (by rw [g5]; exact iB_two hf hg hlm hlq hb) (g2.trans hA) g3 (hf1.tr g4)
                | exact ihu (k + 1) sd M1 hdu2 (by omega) hsd hps (by rw [← g5] at hE1; exact hE1) hE2 hb hA hz hf1
      subst he0
      have hP1 : rH M1 p P := rH_kept hP hf1 (iF_0 hp) (iF_1 hp) (iF_2 hp)
      obtain ⟨w1, w2, w3, w4⟩ := hP1.2.2 j row hrow
      have em : rg M1 p j i = m := w3 i m hri
      refine za_iload hc dI_seekInRow_13 rfl ?_
      refine za_aload_n hc dI_seekInRow_15 rfl ?_
      refine za_iload_n hc dI_seekInRow_16 rfl ?_
      refine za_cV1i hc gsI_54 (by assumption) (cR_memberCount_ l M1 hp hj) ⟨rfl, rfl⟩ ⟨Nat.le_of_ble_eq_true rfl, Nat.le_of_ble_eq_true rfl⟩ ⟨Nat.zero_le _, Nat.zero_le _⟩ dI_seekInRow_17 (fun x_17 M_17 h_17 => ?_)
      obtain ⟨q_17, hm_17⟩ := h_17
      rw [hm_17, q_17, w2]
      refine za_icmp_ge 107 hc dI_seekInRow_20 rfl (fun h_20 => ?_) (fun h_20 => ?_)
      · skip
        exact absurd ((nI_leI (by omega) (by omega)).mp h_20) (by omega)
      · skip
        refine za_aload_n hc dI_seekInRow_23 rfl ?_
        refine za_iload_n hc dI_seekInRow_24 rfl ?_
        refine za_iload hc dI_seekInRow_25 rfl ?_
        refine za_iload_n hc dI_seekInRow_27 rfl ?_
        refine za_iload hc dI_seekInRow_28 rfl ?_
        refine za_cS5i hc gsI_58 (cI_side_ l M1 f g hf hg hp hj hi (by rw [em]; exact hlm)) ⟨rfl, rfl⟩ ⟨Nat.le_of_ble_eq_true rfl, Nat.le_of_ble_eq_true rfl⟩ ⟨Nat.zero_le _, Nat.zero_le _⟩ dI_seekInRow_30 (fun x_30 M_30 h_30 => ?_)
        obtain ⟨q_30, hm_30⟩ := h_30
        rw [em] at q_30
        rw [hm_30]
        refine za_istore hc dI_seekInRow_33 (by decide) ?_
        refine za_iload hc dI_seekInRow_35 rfl ?_
        refine za_if_ne 51 hc dI_seekInRow_37 rfl (fun h_37 => ?_) (fun h_37 => ?_)
        · skip
          have hne : ¬ gsd f.toInt g.toInt m = 0 := fun z => h_37 ((i_eq0 q_30).mpr z)
          refine za_iconst hc 0 dI_seekInRow_51 rfl ?_
          refine za_istore hc dI_seekInRow_52 (by decide) ?_
          by_cases hps : 0 < gsd f.toInt g.toInt m
          · exact inner _ row 0 x_30 M1 rfl (by omega) q_30 hps rfl (by unfold gi; rw [if_neg hne, if_pos hps]) hb hA hz hf1
          · have hle := (i_le0 q_30).mpr (by omega)
            refine za_iload hc dI_seekInRow_54 rfl ?_
            refine za_if_le 101 hc dI_seekInRow_56 rfl (fun h_56 => ?_) (fun h_56 => ?_)
            · skip
              exact tail 0 x_30 M1 (by unfold gi; rw [if_neg hne, if_neg hps]) hb hA hz hf1
            · skip
              exact absurd hle h_56
        · skip
          have he : gsd f.toInt g.toInt m = 0 := (i_eq0 q_30).mp h_37
          refine za_aload_n hc dI_seekInRow_40 rfl ?_
          refine za_aload_n hc dI_seekInRow_41 rfl ?_
          refine za_iload_n hc dI_seekInRow_42 rfl ?_
          refine za_iload hc dI_seekInRow_43 rfl ?_
          refine za_iload_n hc dI_seekInRow_45 rfl ?_
          refine za_iload hc dI_seekInRow_46 rfl ?_
          refine za_cV5v hc gsI_62 (by assumption) (cI_boundByOne_ l M1 f g hf hg hp hj hi (by rw [em]; exact hlm) hb hz) ⟨rfl, rfl⟩ ⟨Nat.le_of_ble_eq_true rfl, Nat.le_of_ble_eq_true rfl⟩ ⟨Nat.zero_le _, Nat.zero_le _⟩ dI_seekInRow_48 (fun M_48 h_48 => ?_)
          obtain ⟨g1, g2, g3, g4⟩ := h_48
          rw [em] at g1
          have g5 : iR M_48 = gi1 f.toInt g.toInt (iR M1) m := g1
          have g6 : gi f.toInt g.toInt row (iR M1) m = gi1 f.toInt g.toInt (iR M1) m := by unfold gi; rw [if_pos he]
          refine za_iconst hc 0 dI_seekInRow_51 rfl ?_
          refine za_istore hc dI_seekInRow_52 (by decide) ?_
          refine za_iload hc dI_seekInRow_54 rfl ?_
          refine za_if_le 101 hc dI_seekInRow_56 rfl (fun h_56 => ?_) (fun h_56 => ?_)
          · skip
            exact tail 0 x_30 M_48 (by rw [g6, g5]) (by rw [g5]; exact iB_one hf hg hlm hb) (g2.trans hA) g3 (hf1.tr g4)
          · skip
            exact absurd ((i_le0 q_30).mpr (by omega)) h_56
  have hE0 : iR (zsJ (zsJ M 31 3 0) 31 4 0) = (0, 0, zI M 31 5 == 1) := by unfold iR; rw [zJ_s, if_neg (by decide), zJ_s, if_pos rfl, zJ_s, if_pos rfl, zI_sJ, zI_sJ]; rfl
  refine za_aload_n hc dI_seekInRow_0 rfl ?_
  refine za_lconst hc 0 dI_seekInRow_1 rfl ?_
  refine za_putJ hc gpI_44 (by assumption) dI_seekInRow_2 ?_
  refine za_aload_n hc dI_seekInRow_5 rfl ?_
  refine za_lconst hc 0 dI_seekInRow_6 rfl ?_
  refine za_putJ hc gpI_31 (by assumption) dI_seekInRow_7 ?_
  refine za_iconst hc 0 dI_seekInRow_10 rfl ?_
  refine za_istore hc dI_seekInRow_11 (by decide) ?_
  refine outer row 0 _ rfl (by omega) ?_ ?_ (iA_k ?_ ?_ ?_) ?_ ?_
  · rw [hE0]
  · rw [hE0]; exact ⟨⟨(by decide : (-40000000000 : Int) ≤ 0), (by decide : (0 : Int) ≤ 40000000000)⟩, Int.le_refl 0, (by decide : (0 : Int) ≤ 200000000)⟩
  · rw [zJ_s, if_neg (by decide), zJ_s, if_neg (by decide)]
  · rw [zJ_s, if_neg (by decide), zJ_s, if_neg (by decide)]
  · rw [zI_sJ, zI_sJ]
  · exact ⟨by rw [zI_sJ, zI_sJ]; exact hz.1, by rw [zI_sJ, zI_sJ]; exact hz.2⟩
  · exact (zfr_sJ (P := iF) rfl).tr (zfr_sJ (P := iF) rfl)
