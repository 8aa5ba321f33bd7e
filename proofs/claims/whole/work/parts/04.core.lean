/-! A memory of places: every object and array of class and reference has a place; the world of the kit is read off it. -/
abbrev zM : Type := (Nat → Nat → Int32) × (Nat → Nat → Int64) × (Nat → Nat → Nat)
def zI (M : zM) : Nat → Nat → Int32 := M.1
def zJ (M : zM) : Nat → Nat → Int64 := M.2.1
def zR (M : zM) : Nat → Nat → Nat := M.2.2
def zrI (M : zM) (k : Nat) (f : Nat → Int32) : zM := (fun a => if a = k then f else M.1 a, M.2.1, M.2.2)
def zrJ (M : zM) (k : Nat) (f : Nat → Int64) : zM := (M.1, fun a => if a = k then f else M.2.1 a, M.2.2)
def zrR (M : zM) (k : Nat) (f : Nat → Nat) : zM := (M.1, M.2.1, fun a => if a = k then f else M.2.2 a)
def zupR (f : Nat → Nat) (k x : Nat) : Nat → Nat := fun j => if j = k then x else f j
def zsI (M : zM) (k j : Nat) (v : Int32) : zM := zrI M k (upd (zI M k) j v)
def zsJ (M : zM) (k j : Nat) (v : Int64) : zM := zrJ M k (vp_updL (zJ M k) j v)
def zsR (M : zM) (k j v : Nat) : zM := zrR M k (zupR (zR M k) j v)
theorem zI_rI {M : zM} {k a : Nat} {f : Nat → Int32} : zI (zrI M k f) a = if a = k then f else zI M a := rfl
theorem zI_rJ {M : zM} {k : Nat} {f : Nat → Int64} : zI (zrJ M k f) = zI M := rfl
theorem zI_rR {M : zM} {k : Nat} {f : Nat → Nat} : zI (zrR M k f) = zI M := rfl
theorem zJ_rI {M : zM} {k : Nat} {f : Nat → Int32} : zJ (zrI M k f) = zJ M := rfl
theorem zJ_rJ {M : zM} {k a : Nat} {f : Nat → Int64} : zJ (zrJ M k f) a = if a = k then f else zJ M a := rfl
theorem zJ_rR {M : zM} {k : Nat} {f : Nat → Nat} : zJ (zrR M k f) = zJ M := rfl
theorem zR_rI {M : zM} {k : Nat} {f : Nat → Int32} : zR (zrI M k f) = zR M := rfl
theorem zR_rJ {M : zM} {k : Nat} {f : Nat → Int64} : zR (zrJ M k f) = zR M := rfl
theorem zR_rR {M : zM} {k a : Nat} {f : Nat → Nat} : zR (zrR M k f) a = if a = k then f else zR M a := rfl
theorem zI_sI {M : zM} {k j a b : Nat} {v : Int32} : zI (zsI M k j v) a b = if a = k then (if b = j then v else zI M k b) else zI M a b := by
  unfold zsI; rw [zI_rI]; by_cases h : a = k
  · rw [if_pos h, if_pos h]; rfl
  · rw [if_neg h, if_neg h]
theorem zJ_sJ {M : zM} {k j a b : Nat} {v : Int64} : zJ (zsJ M k j v) a b = if a = k then (if b = j then v else zJ M k b) else zJ M a b := by
  unfold zsJ; rw [zJ_rJ]; by_cases h : a = k
  · rw [if_pos h, if_pos h]; rfl
  · rw [if_neg h, if_neg h]
theorem zR_sR {M : zM} {k j a b : Nat} {v : Nat} : zR (zsR M k j v) a b = if a = k then (if b = j then v else zR M k b) else zR M a b := by
  unfold zsR; rw [zR_rR]; by_cases h : a = k
  · rw [if_pos h, if_pos h]; rfl
  · rw [if_neg h, if_neg h]
theorem zI_sJ {M : zM} {k j : Nat} {v : Int64} : zI (zsJ M k j v) = zI M := rfl
theorem zI_sR {M : zM} {k j v : Nat} : zI (zsR M k j v) = zI M := rfl
theorem zJ_sI {M : zM} {k j : Nat} {v : Int32} : zJ (zsI M k j v) = zJ M := rfl
theorem zJ_sR {M : zM} {k j v : Nat} : zJ (zsR M k j v) = zJ M := rfl
theorem zR_sI {M : zM} {k j : Nat} {v : Int32} : zR (zsI M k j v) = zR M := rfl
theorem zR_sJ {M : zM} {k j : Nat} {v : Int64} : zR (zsJ M k j v) = zR M := rfl
/-- a field's value, its references as places: kinds 0 int, 1 long, 2 a reference that may change, 3 + n: the place n further on -/
def zpv (M : zM) (k t j : Nat) : Value := match t with
  | 0 => .int (zI M k j)
  | 1 => .long (zJ M k j)
  | 2 => .ref (zR M k j)
  | t + 3 => .ref (k + t)
def zcv (ad : Nat → Nat) (v : Value) : Value := match v with
  | .ref k => .ref (ad k)
  | v => v
theorem zcv_cat (ad : Nat → Nat) (v : Value) : (zcv ad v).category = v.category := by cases v <;> rfl
def zfs (ad : Nat → Nat) (M : zM) (k : Nat) (ts : List Nat) : List Value := (List.range ts.length).map (fun j => zcv ad (zpv M k (ts.getD j 0) j))
theorem zfs_len {ad : Nat → Nat} {M : zM} {k : Nat} {ts : List Nat} : (zfs ad M k ts).length = ts.length := by simp [zfs]
theorem zfs_get {ad : Nat → Nat} {M : zM} {k j t : Nat} {ts : List Nat} (h : ts[j]? = some t) : (zfs ad M k ts)[j]? = some (zcv ad (zpv M k t j)) := by
  have hl : j < ts.length := (List.getElem?_eq_some_iff.mp h).1
  have hg : ts.getD j 0 = t := by rw [List.getD_eq_getElem?_getD, h]; rfl
  rw [zfs, List.getElem?_map, List.getElem?_range hl]
  show some (zcv ad (zpv M k (ts.getD j 0) j)) = _
  rw [hg]
theorem zfs_set {ad : Nat → Nat} {M M' : zM} {k j t : Nat} {v : Value} {ts : List Nat} (h : ts[j]? = some t) (hv : zcv ad (zpv M' k t j) = v) (ho : ∀ i t', i ≠ j → zpv M' k t' i = zpv M k t' i) : zfs ad M' k ts = (zfs ad M k ts).set j v := by
  apply List.ext_getElem?
  intro i
  by_cases hi : i = j
  · subst hi
    rw [List.getElem?_set_self (by rw [zfs_len]; exact (List.getElem?_eq_some_iff.mp h).1), zfs_get h, hv]
  · rw [List.getElem?_set_ne (Ne.symm hi)]
    cases h2 : ts[i]? with
    | none =>
      have h3 : ts.length ≤ i := List.getElem?_eq_none_iff.mp h2
      rw [List.getElem?_eq_none (by rw [zfs_len]; exact h3), List.getElem?_eq_none (by rw [zfs_len]; exact h3)]
    | some t' => rw [zfs_get h2, zfs_get h2, ho i t' hi]
abbrev zK4 : Type := ClassId × ClassId × ClassId × ClassId
def zent (ca : zK4) (ad : Nat → Nat) (M : zM) (k : Nat) : va_E := match zlay k with
  | (0, ci) => .inr (ci, zfs ad M k (ztyl ci))
  | (1, n) => .inl (ca.1, n, .inl (zI M k))
  | (2, n) => .inl (ca.2.1, n, .inr (.inl (zJ M k)))
  | (3, n) => .inl (ca.2.2.1, n, .inl (zI M k))
  | (_, n) => .inl (ca.2.2.2, n, .inr (.inr (.inr (.inr (fun j => some (ad (zel k j)))))))
theorem zent_0 {ca : zK4} {ad : Nat → Nat} {M : zM} {k ci : Nat} (h : zlay k = (0, ci)) : zent ca ad M k = .inr (ci, zfs ad M k (ztyl ci)) := by unfold zent; rw [h]; rfl
theorem zent_1 {ca : zK4} {ad : Nat → Nat} {M : zM} {k n : Nat} (h : zlay k = (1, n)) : zent ca ad M k = .inl (ca.1, n, .inl (zI M k)) := by unfold zent; rw [h]; rfl
theorem zent_2 {ca : zK4} {ad : Nat → Nat} {M : zM} {k n : Nat} (h : zlay k = (2, n)) : zent ca ad M k = .inl (ca.2.1, n, .inr (.inl (zJ M k))) := by unfold zent; rw [h]; rfl
theorem zent_3 {ca : zK4} {ad : Nat → Nat} {M : zM} {k n : Nat} (h : zlay k = (3, n)) : zent ca ad M k = .inl (ca.2.2.1, n, .inl (zI M k)) := by unfold zent; rw [h]; rfl
theorem zent_4 {ca : zK4} {ad : Nat → Nat} {M : zM} {k n : Nat} (h : zlay k = (4, n)) : zent ca ad M k = .inl (ca.2.2.2, n, .inr (.inr (.inr (.inr (fun j => some (ad (zel k j))))))) := by unfold zent; rw [h]; rfl
theorem zent_eq {ca : zK4} {ad : Nat → Nat} {M M' : zM} {k : Nat} (h1 : zI M' k = zI M k) (h2 : zJ M' k = zJ M k) (h3 : zR M' k = zR M k) : zent ca ad M' k = zent ca ad M k := by
  have hp : ∀ t j, zpv M' k t j = zpv M k t j := fun t j => by
    unfold zpv; rw [h1, h2, h3]
  have hf : ∀ ts, zfs ad M' k ts = zfs ad M k ts := fun ts => by
    unfold zfs
    exact List.map_congr_left (fun j _ => by rw [hp])
  unfold zent
  rw [h1, h2]
  simp only [hf]
def zwd (ca : zK4) (ad : Nat → Nat) (M : zM) : va_W := (List.range zNP).map (fun k => (ad k, zent ca ad M k))
theorem zwd_get {ca : zK4} {ad : Nat → Nat} {M : zM} {k : Nat} (h : k < zNP) : (zwd ca ad M)[k]? = some (ad k, zent ca ad M k) := by
  rw [zwd, List.getElem?_map, List.getElem?_range h]; rfl
theorem zwd_inv {ca : zK4} {ad : Nat → Nat} {M : zM} {k : Nat} {q : Nat × va_E} (h : (zwd ca ad M)[k]? = some q) : k < zNP ∧ q = (ad k, zent ca ad M k) := by
  have hl : k < (zwd ca ad M).length := (List.getElem?_eq_some_iff.mp h).1
  have hk : k < zNP := by simpa [zwd] using hl
  rw [zwd_get hk] at h
  exact ⟨hk, (Option.some.inj h).symm⟩
theorem zwd_len {ca : zK4} {ad : Nat → Nat} {M : zM} : (zwd ca ad M).length = zNP := by simp [zwd]
theorem zwd_set {ca : zK4} {ad : Nat → Nat} {M M' : zM} {k : Nat} {e : va_E} (hk : k < zNP) (he : zent ca ad M' k = e) (ho : ∀ i, i ≠ k → zent ca ad M' i = zent ca ad M i) : (zwd ca ad M).set k (ad k, e) = zwd ca ad M' := by
  apply List.ext_getElem?
  intro i
  by_cases hi : i = k
  · subst hi
    rw [List.getElem?_set_self (by rw [zwd_len]; exact hk), zwd_get hk, he]
  · rw [List.getElem?_set_ne (Ne.symm hi)]
    by_cases h2 : i < zNP
    · rw [zwd_get h2, zwd_get h2, ho i hi]
    · rw [List.getElem?_eq_none (by rw [zwd_len]; omega), List.getElem?_eq_none (by rw [zwd_len]; omega)]
def zInj (ad : Nat → Nat) : Prop := ∀ i j, i < zNP → j < zNP → ad i = ad j → i = j
def zA (ad : Nat → Nat) (sz : Nat) : Nat → Prop := fun q => (∃ k, k < zNP ∧ q = ad k) ∨ sz ≤ q
theorem zwd_D {ca : zK4} {ad : Nat → Nat} {M : zM} {sz : Nat} (hi : zInj ad) : va_D (zA ad sz) (zwd ca ad M) := by
  refine ⟨fun i j x y hx hy hxy => ?_, fun k q hq => ?_⟩
  · obtain ⟨h1, rfl⟩ := zwd_inv hx
    obtain ⟨h2, rfl⟩ := zwd_inv hy
    exact hi i j h1 h2 hxy
  · obtain ⟨h1, rfl⟩ := zwd_inv hq
    exact Or.inl ⟨k, h1, rfl⟩
/-- at a place lies an object of a class; an array of a kind (1 int, 2 long, 3 boolean, 4 Region) and a length -/
def zob (k ci : Nat) : Prop := k < zNP ∧ zlay k = (0, ci)
def zar (k t n : Nat) : Prop := k < zNP ∧ zlay k = (t, n)
def ztys (ca : zK4) : List (ClassId × FieldType) := [(ca.1, .int), (ca.2.1, .long), (ca.2.2.1, .boolean), (ca.2.2.2, .object zRegion)]
def zQc (D : va_G) (ca : zK4) (ad : Nat → Nat) (sz : Nat) (Q : Option Value → zM → Prop) : Array Value → State → Outcome → State → Prop := fun _ st oc t =>
  (∃ (r : Option Value) (M : zM), oc = .returned (r.map (zcv ad)) ∧ Q r M ∧ va_P D vwCl (zwd ca ad M) t.heap ∧ va_K D vwCl (ztys ca) t) ∧ va_F (zA ad sz) st t
/-- a method's contract: called with these arguments (references as places) at this memory it returns, and Q holds of what it answers and of the memory then -/
def zMet (l : Launch) (md : zMd) (rm : Room) (as : List Value) (M : zM) (Q : Option Value → zM → Prop) : Prop :=
  ∀ (D : va_G) (ca : zK4) (ad : Nat → Nat) (sz : Nat), Met l md.1 (zws md) rm (va_Pc (as.map (zcv ad)) (fun U => U.heap.size = sz ∧ va_P D vwCl (zwd ca ad M) U.heap ∧ va_K D vwCl (ztys ca) U ∧ zInj ad ∧ zNst U)) (zQc D ca ad sz Q) rm.cells rm.slots (zA ad sz)
abbrev zC := Program × Launch × Env × Room × State × MethodId × Array Value × List Frame × Method × Code × va_G × zK4 × (Nat → Nat)
abbrev zp (X : zC) : Program := X.1
abbrev zl (X : zC) : Launch := X.2.1
abbrev ze (X : zC) : Env := X.2.2.1
abbrev zRo (X : zC) : Room := X.2.2.2.1
abbrev zs (X : zC) : State := X.2.2.2.2.1
abbrev zm (X : zC) : MethodId := X.2.2.2.2.2.1
abbrev zas (X : zC) : Array Value := X.2.2.2.2.2.2.1
abbrev zbe (X : zC) : List Frame := X.2.2.2.2.2.2.2.1
abbrev zme (X : zC) : Method := X.2.2.2.2.2.2.2.2.1
abbrev zco (X : zC) : Code := X.2.2.2.2.2.2.2.2.2.1
abbrev zDD (X : zC) : va_G := X.2.2.2.2.2.2.2.2.2.2.1
abbrev zca (X : zC) : zK4 := X.2.2.2.2.2.2.2.2.2.2.2.1
abbrev zad (X : zC) : Nat → Nat := X.2.2.2.2.2.2.2.2.2.2.2.2
def zcl (ad : Nat → Nat) (L : List (Nat × Value)) : List (Nat × Value) := L.map (fun q => (q.1, zcv ad q.2))
/-- the machine, within a method, at pc, with these locals, this stack (references as places) and this memory, comes to an end of which Q holds -/
def zW (X : zC) (Q : Option Value → zM → Prop) (u : Nat × Nat) (pc : Nat) (L : List (Nat × Value)) (S : List Value) (M : zM) : Prop :=
  ∀ (ls : Array Slot) (H : Heap) (locs : List Loc), lv_has ls (zco X).maxLocals (zcl (zad X) L) → va_P (zDD X) vwCl (zwd (zca X) (zad X) M) H → va_S (zA (zad X) (zs X).heap.size) (zs X).heap H locs →
    W (zp X) (zl X) (ze X) (zRo X) (zs X) (zm X) (zas X) (zbe X) (zme X) (zco X) H locs u.1 u.2 (MQ (zbe X) (zQc (zDD X) (zca X) (zad X) (zs X).heap.size Q) (zas X) (zs X) (zRo X).cells (zRo X).slots (zA (zad X) (zs X).heap.size)) (F0 (zm X) pc ls (S.map (zcv (zad X))))
def zCx (X : zC) (l : Launch) (md : zMd) (rm : Room) : Prop :=
  (zp X).tables.exec = Jvm.exec ∧ (zco X).code = md.2.1 ∧ (zco X).maxLocals = md.2.2.1 ∧ (zs X).vm.findClass md.1.cls = some (zm X).cls ∧ (∀ w ∈ zws md, w.before (zas X) (zs X) = true) ∧ va_K (zDD X) vwCl (ztys (zca X)) (zs X) ∧ zInj (zad X) ∧ (zme X).sig.returnType = md.2.2.2 ∧ (zme X).locks = false ∧ zRo X = rm ∧ zl X = l ∧ zNst (zs X)
theorem zCx.w {X : zC} {l : Launch} {md : zMd} {rm : Room} (hc : zCx X l md rm) {w : Cond} (h : w ∈ zWS) : w.before (zas X) (zs X) = true := hc.2.2.2.2.1 w (List.mem_cons_of_mem _ h)
theorem lv_args_zcl (ad : Nat → Nat) (as : List Value) : ∀ i, lv_args i (as.map (zcv ad)) = zcl ad (lv_args i as) := by
  induction as with
  | nil => intro i; rfl
  | cons v t ih =>
    intro i
    show (i, zcv ad v) :: lv_args (if (zcv ad v).category = 2 then i + 2 else i + 1) (t.map (zcv ad)) = (i, zcv ad v) :: zcl ad (lv_args (if v.category = 2 then i + 2 else i + 1) t)
    rw [zcv_cat, ih]
theorem lg_sl_zcv (ad : Nat → Nat) (as : List Value) : (lg_sl (as.map (zcv ad))).length = (lg_sl as).length := by
  induction as with
  | nil => rfl
  | cons v t ih =>
    simp only [lg_sl, List.map_cons, List.flatMap_cons, List.length_append, zcv_cat] at ih ⊢
    rw [ih]
    split <;> rfl
theorem za_enter {l : Launch} {md : zMd} {rm : Room} {as : List Value} {M : zM} {Q : Option Value → zM → Prop} (hy : plainName md.1.cls = true) (hlen : (lg_sl as).length ≤ md.2.2.1)
    (body : ∀ X, zCx X l md rm → zW X Q (0, 0) 0 (lv_args 0 as) [] M) : zMet l md rm as M Q := by
  intro D ca ad sz
  refine Met.ofW (cc := md.2.1) (maxL := md.2.2.1) (ret := md.2.2.2) hy rfl ?_
  intro p e s m args below meth c s₁ B hml hv
  obtain ⟨rfl, hsz, hP, hK, hin, hnst⟩ := hv
  have hts := atoms_spec (ws := zws md) B.pre
  have hown : s.vm.findClass md.1.cls = some m.cls := findClass_of_methodNamed B.named
  subst hsz
  rw [lg_entry_eq]
  have hl := lv_entry (as.map (zcv ad)) (n := md.2.2.1) (by rw [lg_sl_zcv]; exact hlen)
  rw [lv_args_zcl] at hl
  exact body (p, l, e, rm, s, m, (as.map (zcv ad)).toArray, below, meth, c, D, ca, ad) ⟨B.exec, B.bytes, hml, hown, hts, hK, hin, B.returns, B.notSynchronized, rfl, rfl, hnst⟩ _ _ _ (by show lv_has _ c.maxLocals _; rw [hml]; exact hl) hP va_S.rf
