/-! Making: constructors, over a world that grows; addresses as they are. -/
def zB (X : zC) (A : Nat → Prop) (F : State → Prop) (u : Nat × Nat) (pc : Nat) (Lv : List (Nat × Value)) (St : List Value) (ws : va_W) : Prop :=
  ∀ (ls : Array Slot) (H : Heap) (locs : List Loc), lv_has ls (zco X).maxLocals Lv → va_P (zDD X) vwCl ws H → va_D A ws → va_S A (zs X).heap H locs →
    W (zp X) (zl X) (ze X) (zRo X) (zs X) (zm X) (zas X) (zbe X) (zme X) (zco X) H locs u.1 u.2 F (F0 (zm X) pc ls St)
section ZBA
variable {X : zC} {l : Launch} {md : zMd} {rm : Room} {A : Nat → Prop} {F : State → Prop} {u : Nat × Nat} {pc : Nat} {Lv : List (Nat × Value)} {St : List Value} {ws : va_W}
theorem zb_eq {ws' : va_W} (h : ws = ws') (k : zB X A F u pc Lv St ws') : zB X A F u pc Lv St ws := by subst h; exact k
theorem zb_aload_n {i : Fin 4} {a : Nat} (hc : zCy X l md rm) (hd : decode md.2.1 pc = .ok (.aload_n i, 1)) (hg : zget Lv i.val = some (.ref a)) (k : zB X A F u (pc + 1) Lv (.ref a :: St) ws) : zB X A F u pc Lv St ws := fun ls H locs hl hP hD hS => lv_aload_n hc.1 hc.2.1 hd rfl (hl.2.2 _ (zget_mem hg)) (k ls H locs hl hP hD hS)
theorem zb_iload_n {i : Fin 4} {v : Int32} (hc : zCy X l md rm) (hd : decode md.2.1 pc = .ok (.iload_n i, 1)) (hg : zget Lv i.val = some (.int v)) (k : zB X A F u (pc + 1) Lv (.int v :: St) ws) : zB X A F u pc Lv St ws := fun ls H locs hl hP hD hS => lv_iload_n hc.1 hc.2.1 hd rfl (hl.2.2 _ (zget_mem hg)) (k ls H locs hl hP hD hS)
theorem zb_iconst {n : Int} (hc : zCy X l md rm) (v : Int32) (hd : decode md.2.1 pc = .ok (.iconst n, 1)) (hv : Int32.ofInt n = v) (k : zB X A F u (pc + 1) Lv (.int v :: St) ws) : zB X A F u pc Lv St ws := fun ls H locs hl hP hD hS => lv_iconst hc.1 hc.2.1 hd hv (k ls H locs hl hP hD hS)
theorem zb_bipush {n : Int} (hc : zCy X l md rm) (v : Int32) (hd : decode md.2.1 pc = .ok (.bipush n, 2)) (hv : (Int8.ofInt n).toInt32 = v) (k : zB X A F u (pc + 2) Lv (.int v :: St) ws) : zB X A F u pc Lv St ws := fun ls H locs hl hP hD hS => lv_bipush hc.1 hc.2.1 hd hv (k ls H locs hl hP hD hS)
theorem zb_sipush {n : Int} (hc : zCy X l md rm) (v : Int32) (hd : decode md.2.1 pc = .ok (.sipush n, 3)) (hv : (Int16.ofInt n).toInt32 = v) (k : zB X A F u (pc + 3) Lv (.int v :: St) ws) : zB X A F u pc Lv St ws := fun ls H locs hl hP hD hS => lv_sipush hc.1 hc.2.1 hd hv (k ls H locs hl hP hD hS)
theorem zb_dup {a : Nat} (hc : zCy X l md rm) (hd : decode md.2.1 pc = .ok (.dup, 1)) (k : zB X A F u (pc + 1) Lv (.ref a :: .ref a :: St) ws) : zB X A F u pc Lv (.ref a :: St) ws := fun ls H locs hl hP hD hS => lv_dup hc.1 hc.2.1 hd rfl (k ls H locs hl hP hD hS)
theorem zb_goto {off : Int} (tgt : Nat) (hc : zCy X l md rm) (hd : decode md.2.1 pc = .ok (.goto off, 3)) (ht : (pc : Int) + off = (tgt : Int)) (k : zB X A F u tgt Lv St ws) : zB X A F u pc Lv St ws := fun ls H locs hl hP hD hS => lv_goto hc.1 hc.2.1 hd ht (k ls H locs hl hP hD hS)
theorem zb_istore_n {i : Fin 4} {v : Int32} {Lv' : List (Nat × Value)} (hc : zCy X l md rm) (hd : decode md.2.1 pc = .ok (.istore_n i, 1)) (hn : i.val < md.2.2.1) (hl' : (i.val, Value.int v) :: Lv.filter (fun q => !(q.1 == i.val) && !(q.1 + 1 == i.val && q.2.category == 2)) = Lv') (k : zB X A F u (pc + 1) Lv' St ws) : zB X A F u pc Lv (.int v :: St) ws := fun ls H locs hl hP hD hS => lv_istore_n hc.1 hc.2.1 hd rfl hl (by rw [hc.2.2.1]; exact hn) hl' (fun ls' h' => k ls' H locs h' hP hD hS)
theorem zb_astore_n {i : Fin 4} {a : Nat} {Lv' : List (Nat × Value)} (hc : zCy X l md rm) (hd : decode md.2.1 pc = .ok (.astore_n i, 1)) (hn : i.val < md.2.2.1) (hl' : (i.val, Value.ref a) :: Lv.filter (fun q => !(q.1 == i.val) && !(q.1 + 1 == i.val && q.2.category == 2)) = Lv') (k : zB X A F u (pc + 1) Lv' St ws) : zB X A F u pc Lv (.ref a :: St) ws := fun ls H locs hl hP hD hS => lv_astore_n hc.1 hc.2.1 hd rfl hl (by rw [hc.2.2.1]; exact hn) hl' (fun ls' h' => k ls' H locs h' hP hD hS)
theorem ca_int {s : State} {D : va_G} {ca : zK4} {cA : ClassId} (h : va_K D vwCl (ztys ca ++ [(cA, .int)]) s) : cA = ca.1 := Option.some.inj ((h.2 4 (cA, .int) rfl).2.symm.trans (h.2 0 (ca.1, .int) rfl).2)
theorem ca_long {s : State} {D : va_G} {ca : zK4} {cA : ClassId} (h : va_K D vwCl (ztys ca ++ [(cA, .long)]) s) : cA = ca.2.1 := Option.some.inj ((h.2 4 (cA, .long) rfl).2.symm.trans (h.2 1 (ca.2.1, .long) rfl).2)
theorem ca_bool {s : State} {D : va_G} {ca : zK4} {cA : ClassId} (h : va_K D vwCl (ztys ca ++ [(cA, .boolean)]) s) : cA = ca.2.2.1 := Option.some.inj ((h.2 4 (cA, .boolean) rfl).2.symm.trans (h.2 2 (ca.2.2.1, .boolean) rfl).2)
theorem ca_reg {s : State} {D : va_G} {ca : zK4} {cA : ClassId} (h : va_K D vwCl (ztys ca ++ [(cA, .object zRegion)]) s) : cA = ca.2.2.2 := by
  obtain ⟨-, -, -, -, -, h1⟩ := (h.2 4 (cA, .object zRegion) rfl).2
  obtain ⟨-, -, -, -, -, h2⟩ := (h.2 3 (ca.2.2.2, .object zRegion) rfl).2
  exact Option.some.inj (h1.symm.trans h2)
theorem zb_newI {n : Int32} (N : Nat) (hc : zCy X l md rm) (hA : ∀ q, (zs X).heap.size ≤ q → A q) (hw : Cond.arrayClass .int ∈ zWS) (hd : decode md.2.1 pc = .ok (.newarray .int, 2)) (hn : ¬ n < 0) (hN : n.toNatClampNeg = N) (hb : N * 4 ≤ 536870912) (hu : u.1 + 1 ≤ rm.cells ∧ u.2 + N ≤ rm.slots) (kk : ∀ q, zB X A F (u.1 + 1, u.2 + N) (pc + 2) Lv (.ref q :: St) (ws ++ [(q, .inl ((zca X).1, N, .inl (fun _ => 0)))])) : zB X A F u pc Lv (.int n :: St) ws := by
  intro ls H locs hl hP hD hS
  have hR := hc.2.2.2.2.2.2.2.2.2.1
  refine va_newa (atype := .int) (ty := .int) hc.1 hc.2.1 (hc.w hw) rfl hc.2.2.2.2.2.1 hP hD hS hA (a0 := (N, .inl (fun _ => 0))) (fun cA => rfl) hn hN hb (by rw [hR]; exact hu.1) (by rw [hR]; exact hu.2) hd (fun q cA H1 hK hP hD hS => ?_)
  obtain rfl := ca_int hK
  exact kk q ls H1 locs hl hP hD hS
theorem zb_newJ {n : Int32} (N : Nat) (hc : zCy X l md rm) (hA : ∀ q, (zs X).heap.size ≤ q → A q) (hw : Cond.arrayClass .long ∈ zWS) (hd : decode md.2.1 pc = .ok (.newarray .long, 2)) (hn : ¬ n < 0) (hN : n.toNatClampNeg = N) (hb : N * 8 ≤ 536870912) (hu : u.1 + 1 ≤ rm.cells ∧ u.2 + N ≤ rm.slots) (kk : ∀ q, zB X A F (u.1 + 1, u.2 + N) (pc + 2) Lv (.ref q :: St) (ws ++ [(q, .inl ((zca X).2.1, N, .inr (.inl (fun _ => 0))))])) : zB X A F u pc Lv (.int n :: St) ws := by
  intro ls H locs hl hP hD hS
  have hR := hc.2.2.2.2.2.2.2.2.2.1
  refine va_newa (atype := .long) (ty := .long) hc.1 hc.2.1 (hc.w hw) rfl hc.2.2.2.2.2.1 hP hD hS hA (a0 := (N, .inr (.inl (fun _ => 0)))) (fun cA => rfl) hn hN hb (by rw [hR]; exact hu.1) (by rw [hR]; exact hu.2) hd (fun q cA H1 hK hP hD hS => ?_)
  obtain rfl := ca_long hK
  exact kk q ls H1 locs hl hP hD hS
theorem zb_newZ {n : Int32} (N : Nat) (hc : zCy X l md rm) (hA : ∀ q, (zs X).heap.size ≤ q → A q) (hw : Cond.arrayClass .boolean ∈ zWS) (hd : decode md.2.1 pc = .ok (.newarray .boolean, 2)) (hn : ¬ n < 0) (hN : n.toNatClampNeg = N) (hb : N * 1 ≤ 536870912) (hu : u.1 + 1 ≤ rm.cells ∧ u.2 + N ≤ rm.slots) (kk : ∀ q, zB X A F (u.1 + 1, u.2 + N) (pc + 2) Lv (.ref q :: St) (ws ++ [(q, .inl ((zca X).2.2.1, N, .inl (fun _ => 0)))])) : zB X A F u pc Lv (.int n :: St) ws := by
  intro ls H locs hl hP hD hS
  have hR := hc.2.2.2.2.2.2.2.2.2.1
  refine va_newa (atype := .boolean) (ty := .boolean) hc.1 hc.2.1 (hc.w hw) rfl hc.2.2.2.2.2.1 hP hD hS hA (a0 := (N, .inl (fun _ => 0))) (fun cA => rfl) hn hN hb (by rw [hR]; exact hu.1) (by rw [hR]; exact hu.2) hd (fun q cA H1 hK hP hD hS => ?_)
  obtain rfl := ca_bool hK
  exact kk q ls H1 locs hl hP hD hS
theorem zb_newR {n : Int32} {idx : Nat} (N : Nat) (hc : zCy X l md rm) (hA : ∀ q, (zs X).heap.size ≤ q → A q) (hao : va_AO zRegion (zs X)) (hw : Cond.classLink md.1.cls idx zRegion ∈ zWS) (hd : decode md.2.1 pc = .ok (.anewarray idx, 3)) (hn : ¬ n < 0) (hN : n.toNatClampNeg = N) (hb : N * 4 ≤ 536870912) (hu : u.1 + 1 ≤ rm.cells ∧ u.2 + N ≤ rm.slots) (kk : ∀ q, zB X A F (u.1 + 1, u.2 + N) (pc + 3) Lv (.ref q :: St) (ws ++ [(q, .inl ((zca X).2.2.2, N, .inr (.inr (.inr (.inr (fun _ => none))))))])) : zB X A F u pc Lv (.int n :: St) ws := by
  intro ls H locs hl hP hD hS
  have hR := hc.2.2.2.2.2.2.2.2.2.1
  refine va_newq hc.1 hc.2.1 hc.2.2.2.1 (hc.w hw) hao hc.2.2.2.2.2.1 hP hD hS hA hn hN hb (by rw [hR]; exact hu.1) (by rw [hR]; exact hu.2) hd (fun q cA H1 hK hP hD hS => ?_)
  obtain rfl := ca_reg hK
  exact kk q ls H1 locs hl hP hD hS
/-- a field that a constructor writes: final, or not -/
def zFin (own : String) (idx ci j : Nat) (ty : FieldType) (fin : Bool) : Prop := ∃ (T : u_T) (N : Nat) (ty0 : Nat → FieldType), vwCl[ci]? = some (own, T, N) ∧ j < N ∧ (∀ w ∈ u_ws own T N, w ∈ zWS) ∧ Cond.fieldLink own idx own (T j).2.1 (T j).2.2.1 ∈ zWS ∧ (T j).1 = own ∧ (∀ k, k < N → parseFieldDescriptor (T k).2.2.1 = some (ty0 k)) ∧ (∀ a, a < N → ∀ b, b < N → a ≠ b → (T a).2.1 ≠ (T b).2.1) ∧ (T j).2.2.2 = fin ∧ parseFieldDescriptor (T j).2.2.1 = some ty
theorem zb_putF {idx ci j a : Nat} {ty : FieldType} {v : Value} {fs : List Value} (q0 : Nat) (hc : zCy X l md rm) (hnm : (zme X).name = "<init>") (hf : zFin md.1.cls idx ci j ty true) (hd : decode md.2.1 pc = .ok (.putfield idx, 3)) (he : ws[q0]? = some (a, .inr (ci, fs))) (hn : narrow ty v = v) (hft : fits ty v = true) (hl0 : j < fs.length) (kk : zB X A F u (pc + 3) Lv St (ws.set q0 (a, .inr (ci, fs.set j v)))) : zB X A F u pc Lv (v :: .ref a :: St) ws := by
  intro ls H locs hl hP hD hS
  obtain ⟨T, N, ty0, h1, h2, h3, h4, h5, h6, h7, h8, h9⟩ := hf
  exact va_putF hc.1 hc.2.1 hc.2.2.2.2.1 h3 ty0 h6 h7 hc.2.2.2.1 hc.2.2.2.2.2.1 hP hD hS q0 he h1 j h2 (hc.w h4) (fun x hx => by rw [h5] at hx; exact hx) h8 hnm h5 h9 hn hft hl0 hd (fun H1 locs1 hP hD hS => kk ls H1 locs1 hl hP hD hS)
theorem zb_put {idx ci j a : Nat} {ty : FieldType} {v : Value} {fs : List Value} (q0 : Nat) (hc : zCy X l md rm) (hf : zFin md.1.cls idx ci j ty false) (hd : decode md.2.1 pc = .ok (.putfield idx, 3)) (he : ws[q0]? = some (a, .inr (ci, fs))) (hn : narrow ty v = v) (hft : fits ty v = true) (hl0 : j < fs.length) (kk : zB X A F u (pc + 3) Lv St (ws.set q0 (a, .inr (ci, fs.set j v)))) : zB X A F u pc Lv (v :: .ref a :: St) ws := by
  intro ls H locs hl hP hD hS
  obtain ⟨T, N, ty0, h1, h2, h3, h4, h5, h6, h7, h8, h9⟩ := hf
  exact va_put hc.1 hc.2.1 hc.2.2.2.2.1 h3 ty0 h6 h7 hc.2.2.2.1 hc.2.2.2.2.2.1 hP hD hS q0 he h1 j h2 (hc.w h4) (fun x hx => by rw [h5] at hx; exact hx) h8 h9 hn hft hl0 hd (fun H1 locs1 hP hD hS => kk ls H1 locs1 hl hP hD hS)
theorem zb_get {idx ci j a : Nat} {ty : FieldType} {v : Value} {fs : List Value} {fin : Bool} (q0 : Nat) (hc : zCy X l md rm) (hf : zFin md.1.cls idx ci j ty fin) (hd : decode md.2.1 pc = .ok (.getfield idx, 3)) (he : ws[q0]? = some (a, .inr (ci, fs))) (hv : fs[j]? = some v) (kk : zB X A F u (pc + 3) Lv (v :: St) ws) : zB X A F u pc Lv (.ref a :: St) ws := by
  intro ls H locs hl hP hD hS
  obtain ⟨T, N, ty0, h1, h2, h3, h4, h5, h6, h7, h8, h9⟩ := hf
  exact va_get hc.1 hc.2.1 hc.2.2.2.2.1 h3 hc.2.2.2.1 hc.2.2.2.2.2.1 hP q0 he h1 j h2 (hc.w h4) (fun x hx => by rw [h5] at hx; exact hx) hv hd (kk ls H locs hl hP hD hS)
/-- a class whose object is made -/
def zNew (own : String) (idx ci : Nat) (fs : List Value) : Prop := ∃ (C : String) (T : u_T) (N : Nat) (ty0 : Nat → FieldType), vwCl[ci]? = some (C, T, N) ∧ (∀ w ∈ u_ws C T N, w ∈ zWS) ∧ (∀ k, k < N → parseFieldDescriptor (T k).2.2.1 = some (ty0 k)) ∧ Cond.classLink own idx C ∈ zWS ∧ Cond.instantiable C N ∈ zWS ∧ Cond.initialized C ∈ zWS ∧ (∀ j, j < N → defaultValue (ty0 j) = vp_V fs j) ∧ N = fs.length
theorem zb_new {idx ci : Nat} {fs : List Value} (hc : zCy X l md rm) (hA : ∀ q, (zs X).heap.size ≤ q → A q) (hf : zNew md.1.cls idx ci fs) (hd : decode md.2.1 pc = .ok (.new idx, 3)) (hu : u.1 + 1 ≤ rm.cells ∧ u.2 + fs.length ≤ rm.slots) (kk : ∀ q, zB X A F (u.1 + 1, u.2 + fs.length) (pc + 3) Lv (.ref q :: St) (ws ++ [(q, .inr (ci, fs))])) : zB X A F u pc Lv St ws := by
  intro ls H locs hl hP hD hS
  obtain ⟨C, T, N, ty0, h1, h2, h3, h4, h5, h6, h7, h8⟩ := hf
  subst h8
  have hR := hc.2.2.2.2.2.2.2.2.2.1
  exact va_new hc.1 hc.2.1 hc.2.2.2.2.1 h2 ty0 h3 hc.2.2.2.1 (hc.w h4) (hc.w h5) (hc.w h6) hc.2.2.2.2.2.1 hP hD hS hA h1 h7 (by rw [hR]; exact hu.1) (by rw [hR]; exact hu.2) hd (fun q H1 hP hD hS => kk q ls H1 locs hl hP hD hS)
theorem zb_obj {idx a : Nat} (hc : zCy X l md rm) (hl1 : Cond.methodLink md.1.cls idx objectInit ∈ zWS) (hl2 : Cond.instanceMethod objectInit ∈ zWS) (hl3 : Cond.code objectInit ⟨#[0xb1]⟩ 1 none ∈ zWS) (hd : decode md.2.1 pc = .ok (.invokespecial idx, 3)) (hr : 1 ≤ rm.frames ∧ (St.map fun v => v.category).sum + 12 ≤ rm.locals) (hu : u.1 ≤ rm.cells ∧ u.2 ≤ rm.slots) (k : zB X A F u (pc + 3) Lv St ws) : zB X A F u pc Lv (.ref a :: St) ws := by
  intro ls H locs hl hP hD hS
  have hR := hc.2.2.2.2.2.2.2.2.2.1
  refine W.objInit hc.1 hc.2.1 hc.2.2.2.1 (hc.w hl1) (hc.w hl2) (hc.w hl3) rfl hl.1 rfl hd (by rw [hR]; exact hr.1) (by rw [hR]; have h2 := hr.2; show 2 * 0 + (List.map (fun v => v.category) St).sum + 12 ≤ rm.locals; omega) ?_
  exact W.eq (g2 := F0 (zm X) (pc + 3) ls St) rfl (k ls H locs hl hP hD hS)
theorem zb_ast {a v q0 qk n : Nat} {i : Int32} {vs : List Value} {f : Nat → Option Nat} (hc : zCy X l md rm) (hd : decode md.2.1 pc = .ok (.aastore, 1)) (ha : ws[q0]? = some (a, .inl ((zca X).2.2.2, n, .inr (.inr (.inr (.inr f)))))) (hv : ws[qk]? = some (v, .inr (2, vs))) (hi : vp_in i n) (kk : zB X A F u (pc + 1) Lv St (ws.set q0 (a, .inl ((zca X).2.2.2, n, .inr (.inr (.inr (.inr (va_up f i.toNatClampNeg (some v))))))))) : zB X A F u pc Lv (.ref v :: .int i :: .ref a :: St) ws := by
  intro ls H locs hl hP hD hS
  exact va_astq (r := (RR, TR, 3)) hc.1 hc.2.1 hc.2.2.2.2.2.1 hP hD hS q0 3 qk 2 ha rfl hv rfl hi hd (fun H1 locs1 hP hD hS => kk ls H1 locs1 hl hP hD hS)
end ZBA
