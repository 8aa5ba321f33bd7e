/-! Every row has points and no empty member: all that is done keeps it. -/
def gPs (R : List (List gC)) : Prop := ∀ row ∈ R, gSat row
theorem gPs_nil : gPs [] := fun row h => by cases h
theorem gSat_sub {l l' : List gC} (h : gSat l) (hs : ∀ q ∈ l', q ∈ l) : gSat l' := by
  obtain ⟨x, y, hp⟩ := h
  exact ⟨x, y, fun q hq => hp q (hs q hq)⟩
theorem gadd_ps {R R' : List (List gC)} {ls : List gC} (h : gadd R ls = some R') (hR : gPs R) : gPs R' := by
  unfold gadd at h
  split at h
  · rw [← Option.some.inj h]; exact hR
  · rename_i hs
    split at h
    · cases h
    · split at h
      · rw [← Option.some.inj h]; exact hR
      · split at h
        · cases h
        · rw [← Option.some.inj h]
          intro row hrow
          rcases List.mem_append.mp hrow with z | z
          · exact hR row z
          · rw [List.mem_singleton.mp z]
            have h1 : gSat ls := gsb_iff.mp (by cases e : gsb ls; exact absurd e hs; rfl)
            exact gSat_sub h1 (fun q hq => by simpa using (gthin_sub ls []).1 q hq)
theorem gand1_ps {pr : List gC} : ∀ (Q acc R : List (List gC)), gPs acc → gand1 pr acc Q = some R → gPs R := by
  intro Q
  induction Q with
  | nil => intro acc R ha h; unfold gand1 at h; rw [← Option.some.inj h]; exact ha
  | cons q t ih =>
    intro acc R ha h
    unfold gand1 at h
    cases e : gadd acc ((pr ++ q).foldl gput []) with
    | none => rw [e] at h; cases h
    | some a => rw [e] at h; exact ih a R (gadd_ps e ha) h
theorem gand2_ps {Q : List (List gC)} : ∀ (P acc R : List (List gC)), gPs acc → gand2 Q acc P = some R → gPs R := by
  intro P
  induction P with
  | nil => intro acc R ha h; unfold gand2 at h; rw [← Option.some.inj h]; exact ha
  | cons p t ih =>
    intro acc R ha h
    unfold gand2 at h
    cases e : gand1 p acc Q with
    | none => rw [e] at h; cases h
    | some a => rw [e] at h; exact ih a R (gand1_ps Q acc a ha e) h
theorem gAnd_ps {P Q R : List (List gC)} (h : gAnd P Q = some R) : gPs R := gand2_ps P [] R gPs_nil h
theorem gor1_ps : ∀ (Q acc R : List (List gC)), gPs acc → gor1 acc Q = some R → gPs R := by
  intro Q
  induction Q with
  | nil => intro acc R ha h; unfold gor1 at h; rw [← Option.some.inj h]; exact ha
  | cons q t ih =>
    intro acc R ha h
    unfold gor1 at h
    cases e : gadd acc (q.foldl gput []) with
    | none => rw [e] at h; cases h
    | some a => rw [e] at h; exact ih a R (gadd_ps e ha) h
theorem gor1_rz : ∀ (Q acc R : List (List gC)), gRz Q → gRz acc → gor1 acc Q = some R → gRz R := by
  intro Q
  induction Q with
  | nil => intro acc R _ ha h; unfold gor1 at h; rw [← Option.some.inj h]; exact ha
  | cons q t ih =>
    intro acc R hQ ha h
    unfold gor1 at h
    cases e : gadd acc (q.foldl gput []) with
    | none => rw [e] at h; cases h
    | some a => rw [e] at h; exact ih a R (fun row hr => hQ row (List.mem_cons_of_mem _ hr)) (gadd_rz e ha (gputs_nz (hQ q List.mem_cons_self))) h
theorem gnot1_ps : ∀ (P acc R : List (List gC)), gPs acc → gnot1 acc P = some R → gPs R := by
  intro P
  induction P with
  | nil => intro acc R ha h; unfold gnot1 at h; rw [← Option.some.inj h]; exact ha
  | cons q t ih =>
    intro acc R ha h
    unfold gnot1 at h
    cases e : gAnd acc (gcut q q.length) with
    | none => rw [e] at h; cases h
    | some a => rw [e] at h; exact ih a R (gAnd_ps e) h
theorem gNot_ps {P R : List (List gC)} (h : gNot P = some R) : gPs R := gnot1_ps P [[]] R (fun row hr => by rw [List.mem_singleton.mp hr]; exact gSat_nil) h
theorem gputs_nz2 (D : List gC) : ∀ q ∈ D.foldl gput [], gnz q := by
  have h := gapp_put D []
  simp only [List.foldl_nil] at h
  rw [← h]
  refine gputs_nz (fun m hm => ?_)
  rcases gapp_mem D [] m hm with z | z
  · cases z
  · exact z.2
theorem gfr1_ps {col : Int32} : ∀ (P acc R : List (List gC)), gPs acc → gfr1 col acc P = some R → gPs R := by
  intro P
  induction P with
  | nil => intro acc R ha h; unfold gfr1 at h; rw [← Option.some.inj h]; exact ha
  | cons q t ih =>
    intro acc R ha h
    unfold gfr1 at h
    cases e : gadd acc ((gels col q).foldl gput []) with
    | none => rw [e] at h; cases h
    | some a => rw [e] at h; exact ih a R (gadd_ps e ha) h
theorem gfr1_rz {col : Int32} : ∀ (P acc R : List (List gC)), gRz acc → gfr1 col acc P = some R → gRz R := by
  intro P
  induction P with
  | nil => intro acc R ha h; unfold gfr1 at h; rw [← Option.some.inj h]; exact ha
  | cons q t ih =>
    intro acc R ha h
    unfold gfr1 at h
    cases e : gadd acc ((gels col q).foldl gput []) with
    | none => rw [e] at h; cases h
    | some a => rw [e] at h; exact ih a R (gadd_rz e ha (gputs_nz2 _)) h
theorem gnot1_rzk : ∀ (P acc R : List (List gC)), gRz P → gRz acc → gnot1 acc P = some R → gRz R := by
  intro P
  induction P with
  | nil => intro acc R _ ha h; unfold gnot1 at h; rw [← Option.some.inj h]; exact ha
  | cons q t ih =>
    intro acc R hP ha h
    unfold gnot1 at h
    cases e : gAnd acc (gcut q q.length) with
    | none => rw [e] at h; cases h
    | some a => rw [e] at h; exact ih a R (fun row hr => hP row (List.mem_cons_of_mem _ hr)) (gAnd_rz ha (gcut_rz (hP q List.mem_cons_self) _) e) h
def gGd (R : List (List gC)) : Prop := gRz R ∧ gPs R
theorem gGd_nil : gGd [] := ⟨gRz_nil, gPs_nil⟩
theorem gGd_one : gGd [[]] := ⟨(fun row hr m hm => by rw [List.mem_singleton.mp hr] at hm; cases hm), fun row hr => by rw [List.mem_singleton.mp hr]; exact gSat_nil⟩
theorem gGd_and {P Q R : List (List gC)} (hP : gGd P) (hQ : gGd Q) (h : gAnd P Q = some R) : gGd R := ⟨gAnd_rz hP.1 hQ.1 h, gAnd_ps h⟩
theorem gGd_or {P Q R : List (List gC)} (hP : gGd P) (hQ : gGd Q) (h : gor1 P Q = some R) : gGd R := ⟨gor1_rz Q P R hQ.1 hP.1 h, gor1_ps Q P R hP.2 h⟩
theorem gGd_not {P R : List (List gC)} (hP : gGd P) (h : gNot P = some R) : gGd R := ⟨gnot1_rzk P [[]] R hP.1 gGd_one.1 h, gNot_ps h⟩
theorem gGd_free {col : Int32} {P R : List (List gC)} (h : gfr1 col [] P = some R) : gGd R := ⟨gfr1_rz P [] R gRz_nil h, gfr1_ps P [] R gPs_nil h⟩
theorem gGd_row {cs : List gC} {R : List (List gC)} (h : gadd [] (cs.foldl gput []) = some R) : gGd R := ⟨gadd_rz h gRz_nil (gputs_nz2 cs), gadd_ps h gPs_nil⟩
