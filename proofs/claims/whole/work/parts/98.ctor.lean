/-! Constructors: their contract, their calls, their ends. -/
def zCt (l : Launch) (md : zMd) (rm : Room) (ci : Nat) (fs : List Value) (w : zK4 → (Nat → Nat) → va_W) : Prop :=
  ∀ (D : va_G) (ca : zK4) (h0 sz : Nat), Met l md.1 (zws md) rm (va_Pc [.ref h0] (fun U => U.heap.size = sz ∧ va_P D vwCl [(h0, .inr (ci, fs))] U.heap ∧ va_K D vwCl (ztys ca) U ∧ zNst U ∧ va_AO zRegion U))
    (va_Qv (fun v : Nat → Nat => v 0 = h0) (fun v t => va_P D vwCl (w ca v) t.heap ∧ va_D (va_A [(h0, .inr (ci, fs))] sz) (w ca v)) (va_A [(h0, .inr (ci, fs))] sz)) rm.cells rm.slots (va_A [(h0, .inr (ci, fs))] sz)
abbrev zBF (X : zC) (h0 ci : Nat) (fs : List Value) (w : zK4 → (Nat → Nat) → va_W) : State → Prop := MQ (zbe X) (va_Qv (fun v : Nat → Nat => v 0 = h0) (fun v t => va_P (zDD X) vwCl (w (zca X) v) t.heap ∧ va_D (va_A [(h0, .inr (ci, fs))] (zs X).heap.size) (w (zca X) v)) (va_A [(h0, .inr (ci, fs))] (zs X).heap.size)) (zas X) (zs X) (zRo X).cells (zRo X).slots (va_A [(h0, .inr (ci, fs))] (zs X).heap.size)
theorem zct_enter {l : Launch} {md : zMd} {rm : Room} {ci : Nat} {fs : List Value} {w : zK4 → (Nat → Nat) → va_W} (hy : plainName md.1.cls = true) (hlen : 1 ≤ md.2.2.1) (hn : md.1.name = "<init>")
    (body : ∀ X h0, zCy X l md rm → (zme X).name = "<init>" → va_AO zRegion (zs X) → (∀ q, (zs X).heap.size ≤ q → va_A [(h0, .inr (ci, fs))] (zs X).heap.size q) → zB X (va_A [(h0, .inr (ci, fs))] (zs X).heap.size) (zBF X h0 ci fs w) (0, 0) 0 [(0, .ref h0)] [] [(h0, .inr (ci, fs))]) : zCt l md rm ci fs w := by
  intro D ca h0 sz
  refine Met.ofW (cc := md.2.1) (maxL := md.2.2.1) (ret := md.2.2.2) hy rfl ?_
  intro p e s m args below meth c s₁ B hml hv
  obtain ⟨rfl, hsz, hP, hK, hnst, hao⟩ := hv
  have hts := atoms_spec (ws := zws md) B.pre
  have hown : s.vm.findClass md.1.cls = some m.cls := findClass_of_methodNamed B.named
  have hin : meth.name = "<init>" := (name_of_methodNamed B.named B.method).1.trans hn
  subst hsz
  rw [lg_entry_eq]
  have hl := lv_entry ([.ref h0]) (n := md.2.2.1) hlen
  have hD : va_D (va_A [(h0, .inr (ci, fs))] s.heap.size) [(h0, .inr (ci, fs))] := by
    refine ⟨fun i j x y hx hy hxy => ?_, fun k q hk => va_A.in hk⟩
    have h1 := (List.getElem?_eq_some_iff.mp hx).1
    have h2 := (List.getElem?_eq_some_iff.mp hy).1
    simp at h1 h2
    omega
  exact body (p, l, e, rm, s, m, [Value.ref h0].toArray, below, meth, c, D, ca, id) h0 ⟨B.exec, B.bytes, hml, hown, fun w h => hts w (List.mem_cons_of_mem _ h), hK, fun i j _ _ h => h, B.returns, B.notSynchronized, rfl, rfl, hnst⟩ hin hao (fun q h => Or.inr h) _ _ _ (by show lv_has _ c.maxLocals _; rw [hml]; exact hl) hP hD va_S.rf
theorem va_nd_range : ∀ (n k : Nat), va_nd (List.range' k n) = true
  | 0, _ => rfl
  | n + 1, k => by
    rw [List.range'_succ]
    show (decide (k ∉ List.range' (k + 1) n) && va_nd (List.range' (k + 1) n)) = true
    rw [va_nd_range n (k + 1), Bool.and_true, decide_eq_true_eq]
    intro h
    have := List.mem_range'_1.mp h
    omega
section ZBC
variable {X : zC} {l : Launch} {md : zMd} {rm : Room} {A : Nat → Prop} {F : State → Prop} {u : Nat × Nat} {pc : Nat} {Lv : List (Nat × Value)} {St : List Value} {ws : va_W}
theorem zb_ctor0 {a ci : Nat} {fs : List Value} {w : zK4 → (Nat → Nat) → va_W} {rm' : Room} {aa : Array Value} (hA : ∀ q, (zs X).heap.size ≤ q → A q)
    (hr : ∀ (ls : Array Slot) (H : Heap) (locs : List Loc), lv_has ls (zco X).maxLocals Lv → va_P (zDD X) vwCl [(a, .inr (ci, fs))] H → va_Run (zp X) (zl X) (ze X) (zRo X) (zs X) (zm X) (zas X) (zbe X) (zme X) (zco X) H locs u.1 u.2 rm'.cells rm'.slots (F0 (zm X) pc ls (.ref a :: St)) St (va_Qv (fun v : Nat → Nat => v 0 = a) (fun v t => va_P (zDD X) vwCl (w (zca X) v) t.heap ∧ va_D (va_A [(a, .inr (ci, fs))] H.size) (w (zca X) v)) (va_A [(a, .inr (ci, fs))] H.size) aa) (va_A [(a, .inr (ci, fs))] H.size))
    (kk : ∀ v : Nat → Nat, v 0 = a → zB X A F (u.1 + rm'.cells, u.2 + rm'.slots) (pc + 3) Lv St (ws ++ w (zca X) v)) : zB X A F u pc Lv (.ref a :: St) (ws ++ [(a, .inr (ci, fs))]) := by
  intro ls H locs hl hP hD hS
  have hC : [ws.length].map (fun i => (ws ++ [(a, (Sum.inr (ci, fs) : va_E))])[i]?) = [(a, (Sum.inr (ci, fs) : va_E))].map some := by simp
  have hRr : (List.range' 0 ws.length).map (fun i => (ws ++ [(a, (Sum.inr (ci, fs) : va_E))])[i]?) = ws.map some := by
    apply List.ext_getElem?
    intro i
    by_cases hi : i < ws.length
    · rw [List.getElem?_map, List.getElem?_map, List.getElem?_range' hi, List.getElem?_eq_getElem hi]
      show some ((ws ++ _)[0 + 1 * i]?) = _
      rw [show 0 + 1 * i = i by omega, List.getElem?_append_left hi, List.getElem?_eq_getElem hi]
      rfl
    · rw [List.getElem?_eq_none (by simp; omega), List.getElem?_eq_none (by simp; omega)]
  have hPc : va_P (zDD X) vwCl [(a, .inr (ci, fs))] H := fun k q hk => by
    cases k with
    | zero => exact hP ws.length q (by simpa using hk)
    | succ k => cases hk
  have hFc := va_free (wc := [(a, .inr (ci, fs))]) hD hS hA [ws.length] hC
  refine va_callv (hr ls H locs hl hPc) hS (fun q _ h => hFc q h) hFc (fun v t H1 locs1 ht hvm hw hB hz1 hk1 hS => ?_)
  obtain ⟨hP1, hD1⟩ := hB
  rw [ht] at hP1
  obtain ⟨hP, hD⟩ := va_join (wr := ws) (w1 := w (zca X) v) hP hD [ws.length] (List.range' 0 ws.length) hC hRr (va_nd_range _ _) (fun i hi h => by
    have h1 := List.mem_range'_1.mp hi
    have h2 := List.mem_singleton.mp h
    omega) hk1 hFc hP1 hD1
  exact kk v hw ls H1 locs1 hl hP hD hS
theorem zb_pre {a ci : Nat} {fs : List Value} {H : Heap} (hc : zCy X l md rm) (hao : va_AO zRegion (zs X)) (hP : va_P (zDD X) vwCl [(a, .inr (ci, fs))] H) : PreS (zs X) H (va_Pc [.ref a] (fun U => U.heap.size = H.size ∧ va_P (zDD X) vwCl [(a, .inr (ci, fs))] U.heap ∧ va_K (zDD X) vwCl (ztys (zca X)) U ∧ zNst U ∧ va_AO zRegion U)) (.ref a :: []) :=
  ⟨fun a U g mk q => by
    obtain ⟨q0, q1, qP, qK, qN, qA⟩ := q
    exact ⟨q0, q1, qP, va_K.moved (u := U) (U := U.calling g mk a) (Vm.Alike.refl U.vm) qK, fun w hw => va_Nw.same rfl (u := U) (U := U.calling g mk a) rfl (qN w hw), va_AO.moved (u := U) (U := U.calling g mk a) (Vm.Alike.refl U.vm) qA⟩,
   fun U hU hW => ⟨rfl, by rw [hU], by rw [hU]; exact hP, va_K.moved hW.alike hc.2.2.2.2.2.1, fun w hw => va_Nw.warmM hW (hc.2.2.2.2.2.2.2.2.2.2.2 w hw), va_AO.moved hW.alike hao⟩⟩
theorem zb_ctorN {a ci idx : Nat} {host : String} {fs : List Value} {w : zK4 → (Nat → Nat) → va_W} {md' : zMd} {rm' : Room} (hc : zCy X l md rm) (hA : ∀ q, (zs X).heap.size ≤ q → A q) (hao : va_AO zRegion (zs X)) (hs : zKn md' 0) (hV : (md.1.cls, idx, md'.1, host) ∈ zNL ∧ Cond.instanceMethod md'.1 ∈ zWS ∧ md'.1.name = "<init>" ∧ md'.2.2.2 = none) (hM : zCt l md' rm' ci fs w) (hdd : rm'.frames + 1 ≤ rm.frames ∧ 8 + (md'.2.2.1 + 11) + rm'.locals ≤ rm.locals) (hst : (St.map fun v => v.category).sum ≤ 8) (hu : u.1 + rm'.cells ≤ rm.cells ∧ u.2 + rm'.slots ≤ rm.slots) (hd : decode md.2.1 pc = .ok (.invokespecial idx, 3)) (kk : ∀ v : Nat → Nat, v 0 = a → zB X A F (u.1 + rm'.cells, u.2 + rm'.slots) (pc + 3) Lv St (ws ++ w (zca X) v)) : zB X A F u pc Lv (.ref a :: St) (ws ++ [(a, .inr (ci, fs))]) := by
  refine zb_ctor0 (aa := (Value.ref a :: []).toArray) hA (fun ls H locs hl hP => ?_) kk
  obtain ⟨hco, hini, hy, hpar⟩ := hs
  have hR := hc.2.2.2.2.2.2.2.2.2.1
  have hMM := hM (zDD X) (zca X) a H.size
  rw [← hc.2.2.2.2.2.2.2.2.2.2.1] at hMM
  refine va_runIN (host := host) (index := idx) (bytes := md'.2.1) (maxL := md'.2.2.1) (n := 0) (As := []) (rest := St) (cc := md.2.1) (nL := md.2.2.1) (Ts := zWS) (own := md.1.cls) ⟨hc.1, hc.2.1, hc.2.2.1, hc.2.2.2.1, hc.2.2.2.2.1⟩ hMM ⟨?_, hV.2.2.1, hc.w hV.2.1⟩ (zb_pre hc hao hP) rfl rfl (hl.1.trans hc.2.2.1) rfl (by show 2 * 0 + _ ≤ 8; omega) hd (by rw [hR]; exact hu)
  exact va_cnB (Ts := zWS) (ws' := zWS) 0 hc.2.2.2.2.1 (zgoody hco) (by unfold zws; rw [hV.2.2.2]) rfl rfl (hc.2.2.2.2.2.2.2.2.2.2.2 _ hV.1) (hc.w hini) ⟨hy.1, hy.2, hpar⟩ (by rw [hR]; exact hdd)
theorem zb_ctorL {a ci idx : Nat} {fs : List Value} {w : zK4 → (Nat → Nat) → va_W} {md' : zMd} {rm' : Room} (hc : zCy X l md rm) (hA : ∀ q, (zs X).heap.size ≤ q → A q) (hao : va_AO zRegion (zs X)) (hs : zKn md' 0) (hV : Cond.methodLink md.1.cls idx md'.1 ∈ zWS ∧ Cond.instanceMethod md'.1 ∈ zWS ∧ md'.1.name = "<init>" ∧ md'.2.2.2 = none) (hM : zCt l md' rm' ci fs w) (hdd : rm'.frames + 1 ≤ rm.frames ∧ 8 + (md'.2.2.1 + 11) + rm'.locals ≤ rm.locals) (hst : (St.map fun v => v.category).sum ≤ 8) (hu : u.1 + rm'.cells ≤ rm.cells ∧ u.2 + rm'.slots ≤ rm.slots) (hd : decode md.2.1 pc = .ok (.invokespecial idx, 3)) (kk : ∀ v : Nat → Nat, v 0 = a → zB X A F (u.1 + rm'.cells, u.2 + rm'.slots) (pc + 3) Lv St (ws ++ w (zca X) v)) : zB X A F u pc Lv (.ref a :: St) (ws ++ [(a, .inr (ci, fs))]) := by
  refine zb_ctor0 (aa := (Value.ref a :: []).toArray) hA (fun ls H locs hl hP => ?_) kk
  obtain ⟨hco, hini, hy, hpar⟩ := hs
  have hR := hc.2.2.2.2.2.2.2.2.2.1
  have hMM := hM (zDD X) (zca X) a H.size
  rw [← hc.2.2.2.2.2.2.2.2.2.2.1] at hMM
  refine va_runI (index := idx) (bytes := md'.2.1) (maxL := md'.2.2.1) (n := 0) (As := []) (rest := St) (cc := md.2.1) (nL := md.2.2.1) (Ts := zWS) (own := md.1.cls) ⟨hc.1, hc.2.1, hc.2.2.1, hc.2.2.2.1, hc.2.2.2.2.1⟩ hMM (cwI (Ts := zWS) (ws' := zWS) 0 hc.2.2.2.2.1 (zgoody hco) (by unfold zws; rw [hV.2.2.2]) rfl rfl (hc.w hini) (hc.w hV.1) (hc.w hV.2.1) hV.2.2.1 ⟨hy.1, hy.2, hpar⟩ (by rw [hR]; exact hdd)) (zb_pre hc hao hP) rfl rfl (hl.1.trans hc.2.2.1) rfl (by show 2 * 0 + _ ≤ 8; omega) hd (by rw [hR]; exact hu)
theorem zb_vret {h0 ci : Nat} {fs : List Value} {w : zK4 → (Nat → Nat) → va_W} (v : Nat → Nat) (hc : zCy X l md rm) (hr : md.2.2.2 = none) (hd : decode md.2.1 pc = .ok (.return_, 1)) (hu : u.1 ≤ rm.cells ∧ u.2 ≤ rm.slots) (hv : v 0 = h0) (hw : ws = w (zca X) v) : zB X (va_A [(h0, .inr (ci, fs))] (zs X).heap.size) (zBF X h0 ci fs w) u pc Lv [] ws := by
  intro ls H locs hl hP hD hS
  subst hw
  have hR := hc.2.2.2.2.2.2.2.2.2.1
  refine W.widen (k := (zRo X).cells) (n := (zRo X).slots) (by rw [hR]; exact hu.1) (by rw [hR]; exact hu.2) ?_
  exact W.vret hc.1 hc.2.1 (hc.2.2.2.2.2.2.2.1.trans hr) (fun t ht hW => ⟨⟨v, rfl, hv, by rw [ht]; exact hP, hD⟩, hS.F ht⟩) hS.2.2 hd hc.2.2.2.2.2.2.2.2.1
theorem zb_iinc {i : Nat} {n : Int} {x : Int32} {Lv' : List (Nat × Value)} (hc : zCy X l md rm) (v : Int32) (hd : decode md.2.1 pc = .ok (.iinc i n, 3)) (hg : zget Lv i = some (.int x)) (hv : x + Int32.ofInt n = v) (hn : i < md.2.2.1) (hl' : (i, Value.int v) :: Lv.filter (fun q => !(q.1 == i) && !(q.1 + 1 == i && q.2.category == 2)) = Lv') (k : zB X A F u (pc + 3) Lv' St ws) : zB X A F u pc Lv St ws := by
  intro ls H locs hl hP hD hS
  obtain ⟨j, hj⟩ := List.getElem?_of_mem (zget_mem hg)
  exact lv_iinc hc.1 hc.2.1 hd hl hj hv (by rw [hc.2.2.1]; exact hn) hl' (fun ls' h' => k ls' H locs h' hP hD hS)
theorem zb_icmp_ge_f {off : Int} {x y : Int32} (tgt : Nat) (hc : zCy X l md rm) (hd : decode md.2.1 pc = .ok (.if_icmp .ge off, 3)) (ht : (pc : Int) + off = (tgt : Int)) (h : ¬ y ≤ x) (kf : zB X A F u (pc + 3) Lv St ws) : zB X A F u pc Lv (.int y :: .int x :: St) ws := fun ls H locs hl hP hD hS => lv_icmp_ge hc.1 hc.2.1 hd ht (fun h' => absurd h' h) (fun _ => kf ls H locs hl hP hD hS)
theorem zb_icmp_ge_t {off : Int} {x y : Int32} (tgt : Nat) (hc : zCy X l md rm) (hd : decode md.2.1 pc = .ok (.if_icmp .ge off, 3)) (ht : (pc : Int) + off = (tgt : Int)) (h : y ≤ x) (kt : zB X A F u tgt Lv St ws) : zB X A F u pc Lv (.int y :: .int x :: St) ws := fun ls H locs hl hP hD hS => lv_icmp_ge hc.1 hc.2.1 hd ht (fun _ => kt ls H locs hl hP hD hS) (fun h' => absurd h h')
theorem zb_istore {i : Nat} {v : Int32} {Lv' : List (Nat × Value)} (hc : zCy X l md rm) (hd : decode md.2.1 pc = .ok (.istore i, 2)) (hn : i < md.2.2.1) (hl' : (i, Value.int v) :: Lv.filter (fun q => !(q.1 == i) && !(q.1 + 1 == i && q.2.category == 2)) = Lv') (k : zB X A F u (pc + 2) Lv' St ws) : zB X A F u pc Lv (.int v :: St) ws := fun ls H locs hl hP hD hS => lv_istore hc.1 hc.2.1 hd hl (by rw [hc.2.2.1]; exact hn) hl' (fun ls' h' => k ls' H locs h' hP hD hS)
/-- an array of references reads alike where its two tellings agree within it -/
theorem zq_cell {cA : ClassId} {n : Nat} {f g : Nat → Option Nat} (h : ∀ j, j < n → f j = g j) : vp_cell cA (n, .inr (.inr (.inr (.inr f)))) = vp_cell cA (n, .inr (.inr (.inr (.inr g)))) := by
  rw [vp_cell_q, vp_cell_q]
  unfold arrV
  have e : (fun j : Fin n => va_rf (f j.val)) = fun j : Fin n => va_rf (g j.val) := funext (fun j => by rw [h j.val j.isLt])
  rw [e]
theorem zb_alike {q0 a n : Nat} {cA : ClassId} {f : Nat → Option Nat} (g : Nat → Option Nat) (he : ws[q0]? = some (a, .inl (cA, n, .inr (.inr (.inr (.inr f)))))) (h : ∀ j, j < n → f j = g j) (k : zB X A F u pc Lv St (ws.set q0 (a, .inl (cA, n, .inr (.inr (.inr (.inr g))))))) : zB X A F u pc Lv St ws := by
  intro ls H locs hl hP hD hS
  refine k ls H locs hl (hP.set hD he ?_ (fun q _ => rfl)) (hD.set he) hS
  have h1 := hP q0 _ he
  show H[a]? = some _
  rw [← zq_cell h]
  exact h1
end ZBC
