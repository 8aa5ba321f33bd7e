/-! Lists for the throws: texts of the class, kinds, what is said not castable. -/
def zNm : List String := ["java/lang/RuntimeException", "java/lang/Exception"]
theorem zNm_fit : ∀ n ∈ zNm, Bundle.fit n = true := by decide +kernel
def zTx : List (Nat × String) := [(48, "a number is not -10000 .. 10000"), (53, "a and b are 0"), (61, "twelve members are collected"), (178, "six regions lie on the pile"), (180, "too few regions lie on the pile"), (188, "a limit is passed"), (109, "no such column"), (184, "no such table"), (182, "no such row"), (131, "no such member"), (148, "no such what"), (150, "p or q is not -10000 .. 10000"), (152, "d is not 1 .. 1000"), (163, "f or g is not -100 .. 100"), (169, "no such part")]
def zCa : List String := ["java/lang/IllegalArgumentException", "java/lang/IllegalStateException", "java/lang/UnsupportedOperationException", "java/lang/IndexOutOfBoundsException"]
def zNcL : List (String × String) := [("java/lang/IllegalArgumentException", "java/lang/IllegalStateException"), ("java/lang/IllegalArgumentException", "java/lang/UnsupportedOperationException"), ("java/lang/IllegalArgumentException", "java/lang/IndexOutOfBoundsException"), ("java/lang/IllegalStateException", "java/lang/IllegalArgumentException"), ("java/lang/IllegalStateException", "java/lang/UnsupportedOperationException"), ("java/lang/IllegalStateException", "java/lang/IndexOutOfBoundsException"), ("java/lang/UnsupportedOperationException", "java/lang/IllegalArgumentException"), ("java/lang/UnsupportedOperationException", "java/lang/IllegalStateException"), ("java/lang/UnsupportedOperationException", "java/lang/IndexOutOfBoundsException"), ("java/lang/IndexOutOfBoundsException", "java/lang/IllegalArgumentException"), ("java/lang/IndexOutOfBoundsException", "java/lang/IllegalStateException"), ("java/lang/IndexOutOfBoundsException", "java/lang/UnsupportedOperationException")]
def zDe : List MethodName := [⟨"java/lang/RuntimeException", "<init>", "(Ljava/lang/String;)V"⟩, ⟨"java/lang/Exception", "<init>", "(Ljava/lang/String;)V"⟩, ⟨"java/lang/Throwable", "<init>", "(Ljava/lang/String;)V"⟩]
/-! Methods that may throw: their contracts, their ends, calls of them. -/
/-- kinds of exceptions -/
def zEx (n : Nat) : String := match n with
  | 0 => "java/lang/IllegalArgumentException"
  | 1 => "java/lang/IllegalStateException"
  | 2 => "java/lang/UnsupportedOperationException"
  | _ => "java/lang/IndexOutOfBoundsException"
def zXc (D : va_G) (ca : zK4) (ad : Nat → Nat) (sz : Nat) (QX : Nat → zM → Prop) : String → State → State → Prop := fun E st t =>
  (∃ (n : Nat) (M : zM), E = zEx n ∧ QX n M ∧ va_P D vwCl (zwd ca ad M) t.heap ∧ va_K D vwCl (ztys ca) t) ∧ va_F (zA ad sz) st t
/-- what a throw needs of a state: two static fields of Throwable, the texts, and words that are no good ones -/
def zThr (A : Nat → Prop) (U : State) : Prop := vx_Zq Bundle.tN "UNASSIGNED_STACK" Bundle.steD A U U.heap ∧ vx_Zq Bundle.tN "SUPPRESSED_SENTINEL" Bundle.listD A U U.heap ∧ (∀ q ∈ zTx, ∃ a, vk_R RK q.1 q.2 a U) ∧ (∀ C ∈ zCa, va_Nw (.castable C C) U) ∧ (∀ q ∈ zNcL, va_Nc q.1 q.2 U) ∧ ∀ x ∈ zDe, va_Nw (.declares x) U
theorem zThr.warm {A B : Nat → Prop} {s U : State} (h : zThr A s) (hW : s.WarmedH U.vm) (hH : ∀ a : Nat, a < s.heap.size → ¬ A a → U.heap[a]? = s.heap[a]?) (hAB : ∀ q, B q → A q) : zThr B U :=
  ⟨((h.1.kept hH).moved hW.alike).narrow hAB, ((h.2.1.kept hH).moved hW.alike).narrow hAB, fun q hq => by obtain ⟨a, ha⟩ := h.2.2.1 q hq; exact ⟨a, vk_R.warm hW ha⟩, fun C hC => va_Nw.warmC hW (h.2.2.2.1 C hC), fun q hq => va_Nc.moved hW.alike (h.2.2.2.2.1 q hq), fun x hx => va_Nw.warmD hW (h.2.2.2.2.2 x hx)⟩
theorem zThr.call {A : Nat → Prop} {U : State} {g : JFrame} {mk : MethodId} {a : Array Value} (h : zThr A U) : zThr A (U.calling g mk a) :=
  ⟨h.1.moved (u := U) (U := U.calling g mk a) (Vm.Alike.refl U.vm), h.2.1.moved (u := U) (U := U.calling g mk a) (Vm.Alike.refl U.vm), fun q hq => by obtain ⟨b, hb⟩ := h.2.2.1 q hq; exact ⟨b, vk_R.same (u := U) (U := U.calling g mk a) rfl hb⟩, fun C hC => va_Nw.same rfl (u := U) (U := U.calling g mk a) rfl (h.2.2.2.1 C hC), fun q hq => va_Nc.moved (u := U) (U := U.calling g mk a) (Vm.Alike.refl U.vm) (h.2.2.2.2.1 q hq), fun x hx => va_Nw.same rfl (u := U) (U := U.calling g mk a) rfl (h.2.2.2.2.2 x hx)⟩
abbrev zPx (D : va_G) (ca : zK4) (ad : Nat → Nat) (as : List Value) (M : zM) (sz : Nat) : Array Value → State → Prop := va_Pc (as.map (zcv ad)) (fun U => U.heap.size = sz ∧ va_P D vwCl (zwd ca ad M) U.heap ∧ va_K D vwCl (ztys ca) U ∧ zInj ad ∧ zNst U ∧ zThr (zA ad sz) U)
/-- a contract of a method that may throw -/
def zMetX (l : Launch) (md : zMd) (rm : Room) (as : List Value) (M : zM) (Q : Option Value → zM → Prop) (QX : Nat → zM → Prop) : Prop :=
  ∀ (D : va_G) (ca : zK4) (ad : Nat → Nat) (sz : Nat), vx_Met l md.1 (zws md) rm (zPx D ca ad as M sz) (zQc D ca ad sz Q) (zXc D ca ad sz QX) rm.cells rm.slots (zA ad sz)
abbrev zFX (X : zC) (Q : Option Value → zM → Prop) (QX : Nat → zM → Prop) : State → Prop := vx_MQ (zbe X) (zQc (zDD X) (zca X) (zad X) (zs X).heap.size Q) (zXc (zDD X) (zca X) (zad X) (zs X).heap.size QX) (zas X) (zs X) (zRo X).cells (zRo X).slots (zA (zad X) (zs X).heap.size)
/-- in a method that may throw: nothing is caught there -/
def zTX (X : zC) : Prop := zThr (zA (zad X) (zs X).heap.size) (zs X) ∧ ∀ x ∈ (zco X).exceptionTable.toList, False
theorem zx_enter {l : Launch} {md : zMd} {rm : Room} {as : List Value} {M : zM} {Q : Option Value → zM → Prop} {QX : Nat → zM → Prop} (hy : plainName md.1.cls = true) (hlen : (lg_sl as).length ≤ md.2.2.1)
    (body : ∀ X, zCy X l md rm → zTX X → zF X (zFX X Q QX) (0, 0) 0 (lv_args 0 as) [] M) : zMetX l md rm as M Q QX := by
  intro D ca ad sz
  refine vx_ofW (cc := md.2.1) (maxL := md.2.2.1) (ret := md.2.2.2) hy rfl ?_
  intro p e s m args below meth c s₁ B hml hno hv
  obtain ⟨rfl, hsz, hP, hK, hin, hnst, hth⟩ := hv
  have hts := atoms_spec (ws := zws md) B.pre
  have hown : s.vm.findClass md.1.cls = some m.cls := findClass_of_methodNamed B.named
  subst hsz
  rw [lg_entry_eq]
  have hl := lv_entry (as.map (zcv ad)) (n := md.2.2.1) (by rw [lg_sl_zcv]; exact hlen)
  rw [lv_args_zcl] at hl
  exact body (p, l, e, rm, s, m, (as.map (zcv ad)).toArray, below, meth, c, D, ca, ad) ⟨B.exec, B.bytes, hml, hown, fun w h => hts w (List.mem_cons_of_mem _ h), hK, hin, B.returns, B.notSynchronized, rfl, rfl, hnst⟩ ⟨hth, hno⟩ _ _ _ (by show lv_has _ c.maxLocals _; rw [hml]; exact hl) hP va_S.rf
section ZXE
variable {X : zC} {l : Launch} {md : zMd} {rm : Room} {Q : Option Value → zM → Prop} {QX : Nat → zM → Prop} {u : Nat × Nat} {pc : Nat} {L : List (Nat × Value)} {S : List Value} {M : zM}
theorem zx_iret {v : Int32} (hc : zCy X l md rm) (hr : md.2.2.2 = (some .int)) (hd : decode md.2.1 pc = .ok (.ireturn, 1)) (hu : u.1 ≤ rm.cells ∧ u.2 ≤ rm.slots) (hq : Q (some (.int v)) M) : zF X (zFX X Q QX) u pc L [.int v] M := by
  intro ls H locs hl hP hS
  have hR := hc.2.2.2.2.2.2.2.2.2.1
  refine vx_ret ?_
  refine W.widen (k := (zRo X).cells) (n := (zRo X).slots) (by rw [hR]; exact hu.1) (by rw [hR]; exact hu.2) ?_
  exact W.iret hc.1 hc.2.1 (hc.2.2.2.2.2.2.2.1.trans hr) (fun t ht hW => ⟨⟨some (.int v), M, rfl, hq, by rw [ht]; exact hP, va_K.moved hW.alike hc.2.2.2.2.2.1⟩, hS.F ht⟩) hS.2.2 hd hc.2.2.2.2.2.2.2.2.1
theorem zx_lret {v : Int64} (hc : zCy X l md rm) (hr : md.2.2.2 = (some .long)) (hd : decode md.2.1 pc = .ok (.lreturn, 1)) (hu : u.1 ≤ rm.cells ∧ u.2 ≤ rm.slots) (hq : Q (some (.long v)) M) : zF X (zFX X Q QX) u pc L [.long v] M := by
  intro ls H locs hl hP hS
  have hR := hc.2.2.2.2.2.2.2.2.2.1
  refine vx_ret ?_
  refine W.widen (k := (zRo X).cells) (n := (zRo X).slots) (by rw [hR]; exact hu.1) (by rw [hR]; exact hu.2) ?_
  exact W.lret hc.1 hc.2.1 (hc.2.2.2.2.2.2.2.1.trans hr) (fun t ht hW => ⟨⟨some (.long v), M, rfl, hq, by rw [ht]; exact hP, va_K.moved hW.alike hc.2.2.2.2.2.1⟩, hS.F ht⟩) hS.2.2 hd hc.2.2.2.2.2.2.2.2.1
theorem zx_zret {v : Int32} {ty : FieldType} (hc : zCy X l md rm) (hr : md.2.2.2 = some ty) (hn : narrow ty (.int v) = .int v) (hd : decode md.2.1 pc = .ok (.ireturn, 1)) (hu : u.1 ≤ rm.cells ∧ u.2 ≤ rm.slots) (hq : Q (some (.int v)) M) : zF X (zFX X Q QX) u pc L [.int v] M := by
  intro ls H locs hl hP hS
  have hR := hc.2.2.2.2.2.2.2.2.2.1
  refine vx_ret ?_
  refine W.widen (k := (zRo X).cells) (n := (zRo X).slots) (by rw [hR]; exact hu.1) (by rw [hR]; exact hu.2) ?_
  exact W.zret hc.1 hc.2.1 (hc.2.2.2.2.2.2.2.1.trans hr) hn (fun t ht hW => ⟨⟨some (.int v), M, rfl, hq, by rw [ht]; exact hP, va_K.moved hW.alike hc.2.2.2.2.2.1⟩, hS.F ht⟩) hS.2.2 hd hc.2.2.2.2.2.2.2.2.1
theorem zx_vret (hc : zCy X l md rm) (hr : md.2.2.2 = none) (hd : decode md.2.1 pc = .ok (.return_, 1)) (hu : u.1 ≤ rm.cells ∧ u.2 ≤ rm.slots) (hq : Q none M) : zF X (zFX X Q QX) u pc L [] M := by
  intro ls H locs hl hP hS
  have hR := hc.2.2.2.2.2.2.2.2.2.1
  refine vx_ret ?_
  refine W.widen (k := (zRo X).cells) (n := (zRo X).slots) (by rw [hR]; exact hu.1) (by rw [hR]; exact hu.2) ?_
  exact W.vret hc.1 hc.2.1 (hc.2.2.2.2.2.2.2.1.trans hr) (fun t ht hW => ⟨⟨none, M, rfl, hq, by rw [ht]; exact hP, va_K.moved hW.alike hc.2.2.2.2.2.1⟩, hS.F ht⟩) hS.2.2 hd hc.2.2.2.2.2.2.2.2.1
/-- what the tables say of 'throw new E(text)': places in the pool, the kind, the text -/
def zTs (own : String) (ik is ic n : Nat) (tx : String) : Prop := own = RK ∧ (is, tx) ∈ zTx ∧ Cond.classLink own ik (zEx n) ∈ zWS ∧ Cond.initialized (zEx n) ∈ zWS ∧ Bundle.fit (zEx n) = true ∧ (∀ w ∈ (vx_atS own ic (zEx n) zNm).filter goodWord, w ∈ zWS) ∧ (∀ w ∈ (vx_atS own ic (zEx n) zNm).filter (fun w => !goodWord w), w ∈ Cond.castable (zEx n) (zEx n) :: zDe.map Cond.declares) ∧ (∀ w ∈ Cond.classLink own ik (zEx n) :: Cond.initialized (zEx n) :: vx_atS own ic (zEx n) zNm, vx_ot w = true) ∧ zEx n ∈ zCa
theorem zx_throw {ik is ic n : Nat} {tx : String} (hc : zCy X l md rm) (hT : zTX X) (htr : l.stackTraces = false) (hx : zTs md.1.cls ik is ic n tx)
    (d0 : decode md.2.1 pc = .ok (.new ik, 3)) (d3 : decode md.2.1 (pc + 3) = .ok (.dup, 1)) (d4 : decode md.2.1 (pc + 4) = .ok (.ldc is, 2)) (d6 : decode md.2.1 (pc + 6) = .ok (.invokespecial ic, 3)) (d9 : decode md.2.1 (pc + 9) = .ok (.athrow, 1))
    (hdd : zNm.length + 3 + 1 ≤ rm.frames ∧ (S.map fun v => v.category).sum + (13 * (zNm.length + 1) + 43) ≤ rm.locals) (hu : u.1 + 1 ≤ rm.cells ∧ u.2 + 6 ≤ rm.slots) (hq : QX n M) : zF X (zFX X Q QX) u pc L S M := by
  intro ls H locs hl hP hS
  obtain ⟨hown, htx, h1, h2, h3, h4, h5, h6, h7⟩ := hx
  obtain ⟨sa, hsa⟩ := hT.1.2.2.1 _ htx
  have hR := hc.2.2.2.2.2.2.2.2.2.1
  have hl9 : (zl X).stackTraces = false := by rw [hc.2.2.2.2.2.2.2.2.2.2.1]; exact htr
  refine vx_throwS hc.1 hc.2.1 hl9 (own := md.1.cls) (cls := zEx n) (text := tx) (names := zNm) (sa := sa) (A := zA (zad X) (zs X).heap.size) hc.2.2.2.1 h3 zNm_fit (hc.w h1) (hc.w h2) (by rw [hown]; exact hsa)
    (vx_hat (fun w hw => hc.w (h4 w hw)) h5 (fun w hw => (List.mem_cons.mp hw).elim (fun z => by rw [z]; exact va_Nw.use rfl (hT.1.2.2.2.1 _ h7)) (fun z => by obtain ⟨x, hx, rfl⟩ := List.mem_map.mp z; exact va_Nw.use rfl (hT.1.2.2.2.2.2 x hx)))) h6 hT.1.1 hT.1.2.1 hS hl.1 d0 d3 d4 d6 d9 (fun x hx => absurd (hT.2 x hx) (fun z => z)) (by rw [hR]; exact hdd.1) (by rw [hR, zcat]; exact hdd.2) (by rw [hR]; exact hu.1) (by rw [hR]; exact hu.2) hc.2.2.2.2.2.2.2.2.1 (fun t hvm hz hk => ?_) hS.2.2 (by rw [hR]; exact hu.1) (by rw [hR]; exact hu.2)
  exact ⟨⟨n, M, rfl, hq, hP.kept (fun k x hx => hk x.1 ((hP k x hx).lt)), va_K.moved hvm hc.2.2.2.2.2.1⟩, Nat.le_trans hS.1 hz, fun q g1 g2 => (hk q (Nat.lt_of_lt_of_le g1 hS.1)).trans (hS.2.1 q g1 g2)⟩
/-- what was thrown in a call goes on to the caller -/
theorem zx_out {ls : Array Slot} {H1 : Heap} {locs1 : List Loc} {n : Nat} {q : Addr} {ce : Cell} (hc : zCy X l md rm) (hT : zTX X) (hu : u.1 ≤ rm.cells ∧ u.2 ≤ rm.slots) (hq : QX n M) (hP : va_P (zDD X) vwCl (zwd (zca X) (zad X) M) H1) (hS : va_S (zA (zad X) (zs X).heap.size) (zs X).heap H1 locs1) (h1 : H1[q]? = some ce) (h2 : ce.vm = .none) (h3 : (zs X).vm.findClass (zEx n) = some ce.cls) :
    vx_W (zp X) (zl X) (ze X) (zRo X) (zs X) (zm X) (zas X) (zbe X) (zme X) (zco X) H1 locs1 u.1 u.2 (zFX X Q QX) (F0 (zm X) pc ls (S.map (zcv (zad X)))) q := by
  have hR := hc.2.2.2.2.2.2.2.2.2.1
  exact vx_out (fun x hx => absurd (hT.2 x hx) (fun z => z)) hc.2.2.2.2.2.2.2.2.1 h1 h2 h3 (fun t ht hvm => ⟨⟨n, M, rfl, hq, by rw [ht]; exact hP, va_K.moved hvm hc.2.2.2.2.2.1⟩, by rw [ht]; exact hS.1, fun q g1 g2 => by rw [ht]; exact hS.2.1 q g1 g2⟩) hS.2.2 (by rw [hR]; exact hu.1) (by rw [hR]; exact hu.2)
end ZXE
section ZXC
variable {X : zC} {l : Launch} {md : zMd} {rm : Room} {F : State → Prop} {u : Nat × Nat} {pc : Nat} {L : List (Nat × Value)} {S : List Value} {M : zM}
theorem zbackx {n sz W9 : Nat} {md' : zMd} {rm' : Room} {as : List Value} {Q' : Option Value → zM → Prop} {QX' : Nat → zM → Prop} (hc : zCy X l md rm) (hs : zKn md' n) (hM : zMetX l md' rm' as M Q' QX') (hd : rm'.frames + 1 ≤ rm.frames ∧ W9 + (md'.2.2.1 + 11) + rm'.locals ≤ rm.locals) :
    vx_Back (zl X) (zRo X) (zp X) (ze X) (zbe X) (zs X) (zas X) md'.1 3 W9 (PreOf (zRo X) rm'.cells rm'.slots (zPx (zDD X) (zca X) (zad X) as M sz)) (PostOf (zQc (zDD X) (zca X) (zad X) sz Q') rm'.cells rm'.slots (zA (zad X) sz)) (vx_Post (zXc (zDD X) (zca X) (zad X) sz QX') rm'.cells rm'.slots (zA (zad X) sz)) := by
  obtain ⟨hco, hini, -, -⟩ := hs
  have hMM := hM (zDD X) (zca X) (zad X) sz
  rw [← hc.2.2.2.2.2.2.2.2.2.2.1] at hMM
  have hR := hc.2.2.2.2.2.2.2.2.2.1
  exact vx_back (bytes := md'.2.1) (maxL := md'.2.2.1) (ret := md'.2.2.2) hMM (fun a U g mk q => by
      obtain ⟨q0, q1, qP, qK, qI, qN, qT⟩ := q
      exact ⟨q0, q1, qP, va_K.moved (u := U) (U := U.calling g mk a) (Vm.Alike.refl U.vm) qK, qI, fun w hw => va_Nw.same rfl (u := U) (U := U.calling g mk a) rfl (qN w hw), qT.call⟩) rfl rfl (by rw [hR]; exact hd.1) (by rw [hR]; exact hd.2) (pay_in hc.2.2.2.2.1 (zgoody hco)) List.mem_cons_self
    (fun a' U hW => word_at hW (Or.inl (by first | rfl | simp [Cond.onTables, Cond.keeps, Cond.steady])) (hc.w hini))
theorem zpreVx {mc' ms' : Nat} {As : List Value} {H : Heap} {T : State} {locs : List Loc} (hc : zCy X l md rm) (hT9 : zThr (zA (zad X) (zs X).heap.size) (zs X)) (hu : u.1 + mc' ≤ rm.cells ∧ u.2 + ms' ≤ rm.slots) (hT : T.heap = H) (hP : va_P (zDD X) vwCl (zwd (zca X) (zad X) M) H) (hS : va_S (zA (zad X) (zs X).heap.size) (zs X).heap H locs) (vm₁ : Vm) (hW : (zs X).WarmedH vm₁) :
    PreOf (zRo X) mc' ms' (zPx (zDD X) (zca X) (zad X) As M H.size) ⟨T.setVm vm₁, locs, u.1, u.2⟩ (As.map (zcv (zad X))).toArray := by
  have hR := hc.2.2.2.2.2.2.2.2.2.1
  refine ⟨by rw [hR]; exact hu.1, by rw [hR]; exact hu.2, rfl, ?_, ?_, ?_, hc.2.2.2.2.2.2.1, fun w hw => va_Nw.warmM (s := zs X) (U := T.setVm vm₁) hW (hc.2.2.2.2.2.2.2.2.2.2.2 w hw), ?_⟩
  · show T.heap.size = H.size
    rw [hT]
  · show va_P _ _ _ T.heap
    rw [hT]; exact hP
  · exact va_K.moved (u := zs X) (U := T.setVm vm₁) hW.alike hc.2.2.2.2.2.1
  · exact zThr.warm (U := T.setVm vm₁) hT9 hW (fun a h1 h2 => by show T.heap[a]? = _; rw [hT]; exact hS.2.1 a h1 h2) (fun q h => h.elim Or.inl (fun h => Or.inr (Nat.le_trans hS.1 h)))
/-- the ways on behind a call that may throw -/
theorem zgoesx {mc' ms' : Nat} {ls : Array Slot} {H : Heap} {locs L2 : List Loc} {st0 : List Value} {T U' : State} {q : Addr} {QX' : Nat → zM → Prop} {s0 t : State} {E : String} {ce : Cell} (hS : va_S (zA (zad X) (zs X).heap.size) (zs X).heap H locs) (hs0 : s0.heap = H)
    (X' : Stand (zp X) (zl X) (ze X) (zRo X) (zs X) (zm X) (zas X) (zbe X) (zme X) (zco X) U' (locs ++ L2) (u.1 + mc') (u.2 + ms')) (hL : ∀ q ∈ L2, zA (zad X) H.size q.base) (e1 : U'.heap = t.heap)
    (hq : zXc (zDD X) (zca X) (zad X) H.size QX' E s0 t) (hce : t.heap[q]? = some ce) (hcv : ce.vm = .none) (hcl : (zs X).vm.findClass E = some ce.cls) (st : Steps (zp X).tables (ze X) (zbe X) (T.setTop (F0 (zm X) pc ls st0)) ((U'.setTop { (F0 (zm X) pc ls st0) with stack := S.map (zcv (zad X)) }).pushFrame (.throwing q)))
    (kx : ∀ (n : Nat) (M' : zM) (q : Addr) (ce : Cell) (H1 : Heap) (locs1 : List Loc), QX' n M' → va_P (zDD X) vwCl (zwd (zca X) (zad X) M') H1 → va_S (zA (zad X) (zs X).heap.size) (zs X).heap H1 locs1 → H1[q]? = some ce → ce.vm = .none → (zs X).vm.findClass (zEx n) = some ce.cls → vx_W (zp X) (zl X) (ze X) (zRo X) (zs X) (zm X) (zas X) (zbe X) (zme X) (zco X) H1 locs1 (u.1 + mc') (u.2 + ms') F (F0 (zm X) pc ls (S.map (zcv (zad X)))) q) :
    ∃ t, Steps (zp X).tables (ze X) (zbe X) (T.setTop (F0 (zm X) pc ls st0)) t ∧ F t := by
  obtain ⟨⟨n, M', hE, hQ, hP1, -⟩, hz, hk⟩ := hq
  subst hE
  rw [hs0] at hz hk
  have hA : ∀ q, zA (zad X) H.size q → zA (zad X) (zs X).heap.size q := fun q h => h.elim Or.inl (fun h => Or.inr (Nat.le_trans hS.1 h))
  have hS' : va_S (zA (zad X) (zs X).heap.size) (zs X).heap U'.heap (locs ++ L2) :=
    ⟨Nat.le_trans hS.1 (by rw [e1]; exact hz), fun q h1 h2 => by rw [e1, hk q (Nat.lt_of_lt_of_le h1 hS.1) (fun z => h2 (hA q z))]; exact hS.2.1 q h1 h2, fun q hq => by
      rcases List.mem_append.mp hq with h | h
      · exact hS.2.2 q h
      · exact hA _ (hL q h)⟩
  obtain ⟨t2, a1, b1⟩ := kx n M' q ce U'.heap (locs ++ L2) hQ (by rw [e1]; exact hP1) hS' (by rw [e1]; exact hce) hcv hcl U' rfl X'
  exact ⟨t2, st.trans a1, b1⟩
theorem zx_callVT {ci idx n k : Nat} {md' : zMd} {rm' : Room} {As : List Value} {Q' : Option Value → zM → Prop} {QX' : Nat → zM → Prop} (hc : zCy X l md rm) (hT9 : zThr (zA (zad X) (zs X).heap.size) (zs X)) (hs : zKn md' n) (hV : Cond.methodLink md.1.cls idx md'.1 ∈ zWS ∧ Cond.instanceMethod md'.1 ∈ zWS ∧ Cond.selects md'.1.cls md'.1 md'.1 ∈ zWS) (ho : zob k ci) (hC : (vwCl[ci]?).map (fun q => q.1) = some md'.1.cls) (hM : zMetX l md' rm' (.ref k :: As) M Q' QX') (hdd : rm'.frames + 1 ≤ rm.frames ∧ (S.map fun v => v.category).sum + (md'.2.2.1 + 11) + rm'.locals ≤ rm.locals) (hn : As.length = n) (hu : u.1 + rm'.cells ≤ rm.cells ∧ u.2 + rm'.slots ≤ rm.slots) (hd : decode md.2.1 pc = .ok (.invokevirtual idx, 3))
    (kx : ∀ (ls : Array Slot), lv_has ls (zco X).maxLocals (zcl (zad X) L) → ∀ (n : Nat) (M' : zM) (q : Addr) (ce : Cell) (H1 : Heap) (locs1 : List Loc), QX' n M' → va_P (zDD X) vwCl (zwd (zca X) (zad X) M') H1 → va_S (zA (zad X) (zs X).heap.size) (zs X).heap H1 locs1 → H1[q]? = some ce → ce.vm = .none → (zs X).vm.findClass (zEx n) = some ce.cls → vx_W (zp X) (zl X) (ze X) (zRo X) (zs X) (zm X) (zas X) (zbe X) (zme X) (zco X) H1 locs1 (u.1 + rm'.cells) (u.2 + rm'.slots) F (F0 (zm X) pc ls (S.map (zcv (zad X)))) q)
    (kk : ∀ r M', Q' r M' → zF X F (u.1 + rm'.cells, u.2 + rm'.slots) (pc + 3) L (r.toList ++ S) M') : zF X F u pc L (As.reverse ++ .ref k :: S) M := by
  intro ls H locs hl hP hS T hT Y
  have hK := zbackx (sz := H.size) hc hs hM hdd
  obtain ⟨hco, hini, hy, hpar⟩ := hs
  cases hcl : vwCl[ci]? with
  | none => rw [hcl] at hC; cases hC
  | some q =>
  rw [hcl] at hC
  have hC : q.1 = md'.1.cls := Option.some.inj hC
  obtain ⟨cell, g1, g2, g3⟩ := va_recv hc.2.2.2.2.2.1 hP hcl (q0 := k) (by rw [zwd_get ho.1, zent_0 ho.2])
  rw [hC] at g3
  rcases vx_callV Y hc.1 (C := md'.1.cls) (bytes := md'.2.1) (maxL := md'.2.2.1) (ret := md'.2.2.2) hc.2.2.2.1 (hc.w hV.1) (hc.w hV.2.1) (hc.w hV.2.2) (hc.w hco) hy hK (by rw [hT]; exact g1) g2 g3 (g := F0 (zm X) pc ls ((As.reverse ++ .ref k :: S).map (zcv (zad X)))) rfl hl.1 (argsL := As.map (zcv (zad X))) (rest := S.map (zcv (zad X))) (fun sig h => by
      rw [h] at hpar
      rw [List.length_map, hn]
      exact (Option.some.inj hpar).symm) (by
      show (As.reverse ++ .ref k :: S).map (zcv (zad X)) = _
      rw [List.map_append, List.map_reverse]; rfl) (zmon (zcv_cat _) (Nat.le_refl _)) (by rw [hc.2.1]; exact hd) (fun vm₁ hW₁ => zpreVx (As := .ref k :: As) hc hT9 hu hT hP hS vm₁ hW₁) with ⟨v, vm₁, ⟨U', l2, c2, s2⟩, hW₁, X', ⟨g', mk, t, L2, e1, e2, hq, h1, hL, h2, h3⟩, st⟩ | ⟨q, vm₁, ⟨U', l2, c2, s2⟩, hW₁, X', ⟨g', mk, t, L2, E, ce, e1, e2, hq, hce, hcv, hcl9, h1, hL, h2, h3⟩, st⟩
  · dsimp only [Pt.U, Pt.locs, Pt.cells, Pt.slots] at X' e1 e2 h1 h2 h3 st
    subst h1; subst h2; subst h3
    exact zgoesy (as := #[]) hS hl hT X' hL e1 hq st kk
  · dsimp only [Pt.U, Pt.locs, Pt.cells, Pt.slots] at X' e1 e2 h1 h2 h3 st hcl9
    subst h1; subst h2; subst h3
    exact zgoesx hS hT X' hL e1 hq hce hcv (vx_cls hW₁ hcl9) st (kx ls hl)
theorem zx_callST {idx n : Nat} {md' : zMd} {rm' : Room} {As : List Value} {Q' : Option Value → zM → Prop} {QX' : Nat → zM → Prop} (hc : zCy X l md rm) (hT9 : zThr (zA (zad X) (zs X).heap.size) (zs X)) (hs : zKn md' n) (hV : Cond.methodLink md.1.cls idx md'.1 ∈ zWS ∧ Cond.static md'.1 ∈ zWS) (hM : zMetX l md' rm' As M Q' QX') (hdd : rm'.frames + 1 ≤ rm.frames ∧ (S.map fun v => v.category).sum + (md'.2.2.1 + 11) + rm'.locals ≤ rm.locals) (hn : As.length = n) (hu : u.1 + rm'.cells ≤ rm.cells ∧ u.2 + rm'.slots ≤ rm.slots) (hd : decode md.2.1 pc = .ok (.invokestatic idx, 3))
    (kx : ∀ (ls : Array Slot), lv_has ls (zco X).maxLocals (zcl (zad X) L) → ∀ (n : Nat) (M' : zM) (q : Addr) (ce : Cell) (H1 : Heap) (locs1 : List Loc), QX' n M' → va_P (zDD X) vwCl (zwd (zca X) (zad X) M') H1 → va_S (zA (zad X) (zs X).heap.size) (zs X).heap H1 locs1 → H1[q]? = some ce → ce.vm = .none → (zs X).vm.findClass (zEx n) = some ce.cls → vx_W (zp X) (zl X) (ze X) (zRo X) (zs X) (zm X) (zas X) (zbe X) (zme X) (zco X) H1 locs1 (u.1 + rm'.cells) (u.2 + rm'.slots) F (F0 (zm X) pc ls (S.map (zcv (zad X)))) q)
    (kk : ∀ r M', Q' r M' → zF X F (u.1 + rm'.cells, u.2 + rm'.slots) (pc + 3) L (r.toList ++ S) M') : zF X F u pc L (As.reverse ++ S) M := by
  intro ls H locs hl hP hS T hT Y
  have hK := zbackx (sz := H.size) hc hs hM hdd
  obtain ⟨hco, hini, hy, hpar⟩ := hs
  rcases vx_callS Y hc.1 (bytes := md'.2.1) (maxL := md'.2.2.1) (ret := md'.2.2.2) hc.2.2.2.1 (hc.w hV.1) (hc.w hV.2) (hc.w hini) (hc.w hco) hy hK (g := F0 (zm X) pc ls ((As.reverse ++ S).map (zcv (zad X)))) rfl hl.1 (argsL := As.map (zcv (zad X))) (rest := S.map (zcv (zad X))) (fun sig h => by
      rw [h] at hpar
      rw [List.length_map, hn]
      exact (Option.some.inj hpar).symm) (by
      show (As.reverse ++ S).map (zcv (zad X)) = _
      rw [List.map_append, List.map_reverse]) (zmon (zcv_cat _) (Nat.le_refl _)) (by rw [hc.2.1]; exact hd) (fun vm₁ hW₁ => zpreVx (As := As) hc hT9 hu hT hP hS vm₁ hW₁) with ⟨v, vm₁, ⟨U', l2, c2, s2⟩, hW₁, X', ⟨g', mk, t, L2, e1, e2, hq, h1, hL, h2, h3⟩, st⟩ | ⟨q, vm₁, ⟨U', l2, c2, s2⟩, hW₁, X', ⟨g', mk, t, L2, E, ce, e1, e2, hq, hce, hcv, hcl9, h1, hL, h2, h3⟩, st⟩
  · dsimp only [Pt.U, Pt.locs, Pt.cells, Pt.slots] at X' e1 e2 h1 h2 h3 st
    subst h1; subst h2; subst h3
    exact zgoesy (as := #[]) hS hl hT X' hL e1 hq st kk
  · dsimp only [Pt.U, Pt.locs, Pt.cells, Pt.slots] at X' e1 e2 h1 h2 h3 st hcl9
    subst h1; subst h2; subst h3
    exact zgoesx hS hT X' hL e1 hq hce hcv (vx_cls hW₁ hcl9) st (kx ls hl)
/-- switches -/
theorem zx_tabIn {dflt lo hi : Int} {offs : Array Int} {len : Nat} {x : Int32} {off : Int} (tgt : Nat) (hc : zCy X l md rm) (hd : decode md.2.1 pc = .ok (.tableswitch dflt lo hi offs, len)) (v : Int32) (hv : x = v) (h1 : ¬ v.toInt < lo) (h2 : ¬ hi < v.toInt) (ho : offs[(v.toInt - lo).toNat]? = some off) (ht : (pc : Int) + off = (tgt : Int)) (k : zF X F u tgt L S M) : zF X F u pc L (.int x :: S) M := by
  subst hv
  exact fun ls H locs hl hP hS => lv_tableIn hc.1 hc.2.1 hd h1 h2 ho ht (k ls H locs hl hP hS)
theorem zx_tabOut {dflt lo hi : Int} {offs : Array Int} {len : Nat} {x : Int32} (tgt : Nat) (hc : zCy X l md rm) (hd : decode md.2.1 pc = .ok (.tableswitch dflt lo hi offs, len)) (h : x.toInt < lo ∨ hi < x.toInt) (ht : (pc : Int) + dflt = (tgt : Int)) (k : zF X F u tgt L S M) : zF X F u pc L (.int x :: S) M := fun ls H locs hl hP hS => lv_tableOut hc.1 hc.2.1 hd h ht (k ls H locs hl hP hS)
end ZXC
section ZXT
variable {X : zC} {l : Launch} {md : zMd} {rm : Room} {Q : Option Value → zM → Prop} {QX : Nat → zM → Prop} {u : Nat × Nat} {pc : Nat} {L : List (Nat × Value)} {S : List Value} {M : zM}
theorem zx_tV0v {k ci idx : Nat} {md' : zMd} {rm' : Room} {P : zM → Prop} {QX' : Nat → zM → Prop} (hc : zCy X l md rm) (hT : zTX X) (hs : zSV md.1.cls idx md' 0 ci) (ho : zob k ci) (hM : zMetX l md' rm' [.ref k] M (zqv P) QX') (hr : rm'.cells = 1 ∧ rm'.slots = 6) (hdd : rm'.frames + 1 ≤ rm.frames ∧ (S.map fun v => v.category).sum + (md'.2.2.1 + 11) + rm'.locals ≤ rm.locals) (hu : u.1 + 1 ≤ rm.cells ∧ u.2 + 6 ≤ rm.slots) (hd : decode md.2.1 pc = .ok (.invokevirtual idx, 3)) (kx : ∀ n M', QX' n M' → QX n M') (kk : ∀ M', P M' → zF X (zFX X Q QX) (u.1 + 1, u.2 + 6) (pc + 3) L S M') : zF X (zFX X Q QX) u pc L (.ref k :: S) M :=
  zx_callVT (As := []) hc hT.1 hs.1 hs.2.1 ho hs.2.2 hM hdd rfl (by rw [hr.1, hr.2]; exact hu) hd (by rw [hr.1, hr.2]; exact fun ls hl n M' q ce H1 locs1 h1 h2 h3 h4 h5 h6 => zx_out (u := (u.1 + 1, u.2 + 6)) hc hT hu (kx n M' h1) h2 h3 h4 h5 h6) (by rw [hr.1, hr.2]; exact (fun r M' h => by obtain ⟨rfl, h⟩ := h; exact kk M' h))
theorem zx_tV1v {k ci idx : Nat} {a1 : Value} {md' : zMd} {rm' : Room} {P : zM → Prop} {QX' : Nat → zM → Prop} (hc : zCy X l md rm) (hT : zTX X) (hs : zSV md.1.cls idx md' 1 ci) (ho : zob k ci) (hM : zMetX l md' rm' [.ref k, a1] M (zqv P) QX') (hr : rm'.cells = 1 ∧ rm'.slots = 6) (hdd : rm'.frames + 1 ≤ rm.frames ∧ (S.map fun v => v.category).sum + (md'.2.2.1 + 11) + rm'.locals ≤ rm.locals) (hu : u.1 + 1 ≤ rm.cells ∧ u.2 + 6 ≤ rm.slots) (hd : decode md.2.1 pc = .ok (.invokevirtual idx, 3)) (kx : ∀ n M', QX' n M' → QX n M') (kk : ∀ M', P M' → zF X (zFX X Q QX) (u.1 + 1, u.2 + 6) (pc + 3) L S M') : zF X (zFX X Q QX) u pc L (a1 :: .ref k :: S) M :=
  zx_callVT (As := [a1]) hc hT.1 hs.1 hs.2.1 ho hs.2.2 hM hdd rfl (by rw [hr.1, hr.2]; exact hu) hd (by rw [hr.1, hr.2]; exact fun ls hl n M' q ce H1 locs1 h1 h2 h3 h4 h5 h6 => zx_out (u := (u.1 + 1, u.2 + 6)) hc hT hu (kx n M' h1) h2 h3 h4 h5 h6) (by rw [hr.1, hr.2]; exact (fun r M' h => by obtain ⟨rfl, h⟩ := h; exact kk M' h))
theorem zx_tS1v {idx : Nat} {a1 : Value} {md' : zMd} {rm' : Room} {P : zM → Prop} {QX' : Nat → zM → Prop} (hc : zCy X l md rm) (hT : zTX X) (hs : zSS md.1.cls idx md' 1) (hM : zMetX l md' rm' [a1] M (zqv P) QX') (hr : rm'.cells = 1 ∧ rm'.slots = 6) (hdd : rm'.frames + 1 ≤ rm.frames ∧ (S.map fun v => v.category).sum + (md'.2.2.1 + 11) + rm'.locals ≤ rm.locals) (hu : u.1 + 1 ≤ rm.cells ∧ u.2 + 6 ≤ rm.slots) (hd : decode md.2.1 pc = .ok (.invokestatic idx, 3)) (kx : ∀ n M', QX' n M' → QX n M') (kk : ∀ M', P M' → zF X (zFX X Q QX) (u.1 + 1, u.2 + 6) (pc + 3) L S M') : zF X (zFX X Q QX) u pc L (a1 :: S) M :=
  zx_callST (As := [a1]) hc hT.1 hs.1 hs.2 hM hdd rfl (by rw [hr.1, hr.2]; exact hu) hd (by rw [hr.1, hr.2]; exact fun ls hl n M' q ce H1 locs1 h1 h2 h3 h4 h5 h6 => zx_out (u := (u.1 + 1, u.2 + 6)) hc hT hu (kx n M' h1) h2 h3 h4 h5 h6) (by rw [hr.1, hr.2]; exact (fun r M' h => by obtain ⟨rfl, h⟩ := h; exact kk M' h))
end ZXT
theorem tab_out4 {w : Int32} (h0 : ¬ w = 0) (h1 : ¬ w = 1) (h2 : ¬ w = 2) (h3 : ¬ w = 3) : w < 0 ∨ 3 < w := by
  by_cases a : w < 0
  · exact Or.inl a
  · by_cases b : w ≤ 3
    · rcases wh_or a b with z | z | z | z
      · exact absurd z h0
      · exact absurd z h1
      · exact absurd z h2
      · exact absurd z h3
    · exact Or.inr (Int32.not_le.mp b)
theorem tab_int {w : Int32} (h : w < 0 ∨ 3 < w) : w.toInt < 0 ∨ 3 < w.toInt := h.elim (fun z => Or.inl (Int32.lt_iff_toInt_lt.mp z)) (fun z => Or.inr (Int32.lt_iff_toInt_lt.mp z))
