section ZCA
variable {X : zC} {l : Launch} {md : zMd} {rm : Room} {Q : Option Value → zM → Prop} {u : Nat × Nat} {pc : Nat} {L : List (Nat × Value)} {S : List Value} {M : zM}
abbrev zPc (X : zC) (as : List Value) (M : zM) (sz : Nat) : Array Value → State → Prop := va_Pc (as.map (zcv (zad X))) (fun U => U.heap.size = sz ∧ va_P (zDD X) vwCl (zwd (zca X) (zad X) M) U.heap ∧ va_K (zDD X) vwCl (ztys (zca X)) U ∧ zInj (zad X) ∧ zNst U)
theorem zback {n sz W : Nat} {md' : zMd} {rm' : Room} {as : List Value} {Q' : Option Value → zM → Prop} (hc : zCx X l md rm) (hs : zKn md' n) (hM : zMet l md' rm' as M Q') (hd : rm'.frames + 1 ≤ rm.frames ∧ W + (md'.2.2.1 + 11) + rm'.locals ≤ rm.locals) :
    Back (zl X) (zRo X) (zp X) (ze X) (zbe X) (zs X) (zas X) md'.1 3 W (PreOf (zRo X) rm'.cells rm'.slots (zPc X as M sz)) (PostOf (zQc (zDD X) (zca X) (zad X) sz Q') rm'.cells rm'.slots (zA (zad X) sz)) := by
  obtain ⟨hco, hini, -, -⟩ := hs
  have hMM := hM (zDD X) (zca X) (zad X) sz
  rw [← hc.2.2.2.2.2.2.2.2.2.2.1] at hMM
  have hR := hc.2.2.2.2.2.2.2.2.2.1
  exact back_of (bytes := md'.2.1) (maxL := md'.2.2.1) (ret := md'.2.2.2) hMM (fun a U g mk q => by
      obtain ⟨q0, q1, qP, qK, qI, qN⟩ := q
      exact ⟨q0, q1, qP, va_K.moved (u := U) (U := U.calling g mk a) (Vm.Alike.refl U.vm) qK, qI, fun w hw => va_Nw.same rfl (u := U) (U := U.calling g mk a) rfl (qN w hw)⟩) rfl rfl (by rw [hR]; exact hd.1) (by rw [hR]; exact hd.2) (pay_in hc.2.2.2.2.1 (zgood hco)) List.mem_cons_self
    (fun a' U hW => word_at hW (Or.inl (by first | rfl | simp [Cond.onTables, Cond.keeps, Cond.steady])) (hc.w hini))
theorem zmap_out (f : Value → Value) (r : Option Value) (S : List Value) : (r.toList ++ S).map f = (r.map f).toList ++ S.map f := by cases r <;> rfl
theorem zmon {m : MethodId} {pc : Nat} {ls : Array Slot} {st : List Value} {f : Value → Value} (hf : ∀ v, (f v).category = v.category) {S : List Value} {W : Nat} (h : (S.map fun v => v.category).sum ≤ W) : 2 * (F0 m pc ls st).monitorRoom + ((S.map f).map fun v => v.category).sum ≤ W := by
  have e : ((S.map f).map fun v => v.category) = S.map fun v => v.category := by
    rw [List.map_map]
    exact List.map_congr_left (fun v _ => hf v)
  rw [e]
  show 2 * 0 + _ ≤ W
  omega
/-- what a call leaves: the walk goes on behind it -/
theorem zgoes {mc' ms' : Nat} {ls : Array Slot} {H : Heap} {locs L2 : List Loc} {st0 : List Value} {T U' : State} {v : Option Value} {Q' : Option Value → zM → Prop} {as : Array Value} {s0 t : State} (hS : va_S (zA (zad X) (zs X).heap.size) (zs X).heap H locs) (hl : lv_has ls (zco X).maxLocals (zcl (zad X) L)) (hs0 : s0.heap = H)
    (X' : Stand (zp X) (zl X) (ze X) (zRo X) (zs X) (zm X) (zas X) (zbe X) (zme X) (zco X) U' (locs ++ L2) (u.1 + mc') (u.2 + ms')) (hL : ∀ q ∈ L2, zA (zad X) H.size q.base) (e1 : U'.heap = t.heap)
    (hq : zQc (zDD X) (zca X) (zad X) H.size Q' as s0 (.returned v) t) (st : ∀ target, Steps (zp X).tables (ze X) (zbe X) (U'.setTop { (F0 (zm X) pc ls st0) with pc := pc + 3, stack := v.toList ++ S.map (zcv (zad X)) }) target → Steps (zp X).tables (ze X) (zbe X) (T.setTop (F0 (zm X) pc ls st0)) target)
    (kk : ∀ r M', Q' r M' → zW X Q (u.1 + mc', u.2 + ms') (pc + 3) L (r.toList ++ S) M') :
    ∃ t, Steps (zp X).tables (ze X) (zbe X) (T.setTop (F0 (zm X) pc ls st0)) t ∧ MQ (zbe X) (zQc (zDD X) (zca X) (zad X) (zs X).heap.size Q) (zas X) (zs X) (zRo X).cells (zRo X).slots (zA (zad X) (zs X).heap.size) t := by
  obtain ⟨⟨r, M', hv, hQ, hP1, -⟩, hz, hk⟩ := hq
  have hv : v = r.map (zcv (zad X)) := Outcome.returned.inj hv
  subst hv
  rw [hs0] at hz hk
  have hA : ∀ q, zA (zad X) H.size q → zA (zad X) (zs X).heap.size q := fun q h => h.elim Or.inl (fun h => Or.inr (Nat.le_trans hS.1 h))
  have hS' : va_S (zA (zad X) (zs X).heap.size) (zs X).heap U'.heap (locs ++ L2) :=
    ⟨Nat.le_trans hS.1 (by rw [e1]; exact hz), fun q h1 h2 => by rw [e1, hk q (Nat.lt_of_lt_of_le h1 hS.1) (fun z => h2 (hA q z))]; exact hS.2.1 q h1 h2, fun q hq => by
      rcases List.mem_append.mp hq with h | h
      · exact hS.2.2 q h
      · exact hA _ (hL q h)⟩
  obtain ⟨t2, a1, b1⟩ := kk r M' hQ ls U'.heap (locs ++ L2) hl (by rw [e1]; exact hP1) hS' U' rfl X'
  refine ⟨t2, st t2 ?_, b1⟩
  rw [zmap_out] at a1
  exact a1
theorem zpreV {mc' ms' : Nat} {As : List Value} {H : Heap} {T : State} {locs : List Loc} (hc : zCx X l md rm) (hu : u.1 + mc' ≤ rm.cells ∧ u.2 + ms' ≤ rm.slots) (hT : T.heap = H) (hP : va_P (zDD X) vwCl (zwd (zca X) (zad X) M) H) (vm₁ : Vm) (hW : (zs X).WarmedH vm₁) :
    PreOf (zRo X) mc' ms' (zPc X As M H.size) ⟨T.setVm vm₁, locs, u.1, u.2⟩ (As.map (zcv (zad X))).toArray := by
  have hR := hc.2.2.2.2.2.2.2.2.2.1
  refine ⟨by rw [hR]; exact hu.1, by rw [hR]; exact hu.2, rfl, ?_, ?_, ?_, hc.2.2.2.2.2.2.1, fun w hw => va_Nw.warmM (s := zs X) (U := T.setVm vm₁) hW (hc.2.2.2.2.2.2.2.2.2.2.2 w hw)⟩
  · show T.heap.size = H.size
    rw [hT]
  · show va_P _ _ _ T.heap
    rw [hT]; exact hP
  · exact va_K.moved (u := zs X) (U := T.setVm vm₁) hW.alike hc.2.2.2.2.2.1
theorem za_callV {ci idx n k : Nat} {md' : zMd} {rm' : Room} {As : List Value} {Q' : Option Value → zM → Prop} (hc : zCx X l md rm) (hs : zKn md' n) (hV : Cond.methodLink md.1.cls idx md'.1 ∈ zWS ∧ Cond.instanceMethod md'.1 ∈ zWS ∧ Cond.selects md'.1.cls md'.1 md'.1 ∈ zWS) (ho : zob k ci) (hC : (vwCl[ci]?).map (fun q => q.1) = some md'.1.cls) (hM : zMet l md' rm' (.ref k :: As) M Q') (hdd : rm'.frames + 1 ≤ rm.frames ∧ (S.map fun v => v.category).sum + (md'.2.2.1 + 11) + rm'.locals ≤ rm.locals) (hn : As.length = n) (hu : u.1 + rm'.cells ≤ rm.cells ∧ u.2 + rm'.slots ≤ rm.slots) (hd : decode md.2.1 pc = .ok (.invokevirtual idx, 3)) (kk : ∀ r M', Q' r M' → zW X Q (u.1 + rm'.cells, u.2 + rm'.slots) (pc + 3) L (r.toList ++ S) M') : zW X Q u pc L (As.reverse ++ .ref k :: S) M := by
  intro ls H locs hl hP hS T hT Y
  have hK := zback (sz := H.size) hc hs hM hdd
  obtain ⟨hco, hini, hy, hpar⟩ := hs
  cases hcl : vwCl[ci]? with
  | none => rw [hcl] at hC; cases hC
  | some q =>
  rw [hcl] at hC
  have hC : q.1 = md'.1.cls := Option.some.inj hC
  obtain ⟨cell, g1, g2, g3⟩ := va_recv hc.2.2.2.2.2.1 hP hcl (q0 := k) (by rw [zwd_get ho.1, zent_0 ho.2])
  rw [hC] at g3
  obtain ⟨v, vm₁, ⟨U', l2, c2, s2⟩, hW₁, X', ⟨g', mk, t, L2, e1, e2, hq, h1, hL, h2, h3⟩, st⟩ := callV Y hc.1 (C := md'.1.cls) (bytes := md'.2.1) (maxL := md'.2.2.1) (ret := md'.2.2.2) hc.2.2.2.1 (hc.w hV.1) (hc.w hV.2.1) (hc.w hV.2.2) (hc.w hco) hy hK (by rw [hT]; exact g1) g2 g3 (g := F0 (zm X) pc ls ((As.reverse ++ .ref k :: S).map (zcv (zad X)))) rfl hl.1 (argsL := As.map (zcv (zad X))) (rest := S.map (zcv (zad X))) (fun sig h => by
      rw [h] at hpar
      rw [List.length_map, hn]
      exact (Option.some.inj hpar).symm) (by
      show (As.reverse ++ .ref k :: S).map (zcv (zad X)) = _
      rw [List.map_append, List.map_reverse]; rfl) (zmon (zcv_cat _) (Nat.le_refl _)) (by rw [hc.2.1]; exact hd) (fun vm₁ hW₁ => zpreV (As := .ref k :: As) hc hu hT hP vm₁ hW₁)
  dsimp only [Pt.U, Pt.locs, Pt.cells, Pt.slots] at X' e1 e2 h1 h2 h3 st
  subst h1; subst h2; subst h3
  exact zgoes (as := #[]) hS hl hT X' hL e1 hq st kk
theorem za_callVN {ci idx n k : Nat} {host : String} {md' : zMd} {rm' : Room} {As : List Value} {Q' : Option Value → zM → Prop} (hc : zCx X l md rm) (hs : zKn md' n) (hV : (md.1.cls, idx, md'.1, host) ∈ zNL ∧ Cond.instanceMethod md'.1 ∈ zWS ∧ Cond.selects md'.1.cls md'.1 md'.1 ∈ zWS) (ho : zob k ci) (hC : (vwCl[ci]?).map (fun q => q.1) = some md'.1.cls) (hM : zMet l md' rm' (.ref k :: As) M Q') (hdd : rm'.frames + 1 ≤ rm.frames ∧ (S.map fun v => v.category).sum + (md'.2.2.1 + 11) + rm'.locals ≤ rm.locals) (hn : As.length = n) (hu : u.1 + rm'.cells ≤ rm.cells ∧ u.2 + rm'.slots ≤ rm.slots) (hd : decode md.2.1 pc = .ok (.invokevirtual idx, 3)) (kk : ∀ r M', Q' r M' → zW X Q (u.1 + rm'.cells, u.2 + rm'.slots) (pc + 3) L (r.toList ++ S) M') : zW X Q u pc L (As.reverse ++ .ref k :: S) M := by
  intro ls H locs hl hP hS T hT Y
  have hK := zback (sz := H.size) hc hs hM hdd
  obtain ⟨hco, hini, hy, hpar⟩ := hs
  cases hcl : vwCl[ci]? with
  | none => rw [hcl] at hC; cases hC
  | some q =>
  rw [hcl] at hC
  have hC : q.1 = md'.1.cls := Option.some.inj hC
  obtain ⟨cell, g1, g2, g3⟩ := va_recv hc.2.2.2.2.2.1 hP hcl (q0 := k) (by rw [zwd_get ho.1, zent_0 ho.2])
  rw [hC] at g3
  obtain ⟨v, vm₁, ⟨U', l2, c2, s2⟩, hW₁, X', ⟨g', mk, t, L2, e1, e2, hq, h1, hL, h2, h3⟩, st⟩ := va_callVN Y hc.1 (C := md'.1.cls) (host := host) (bytes := md'.2.1) (maxL := md'.2.2.1) (ret := md'.2.2.2) hc.2.2.2.1 (va_Nw.use rfl (hc.2.2.2.2.2.2.2.2.2.2.2 _ hV.1)) (hc.w hV.2.1) (hc.w hV.2.2) (hc.w hco) hy hK (by rw [hT]; exact g1) g2 g3 (g := F0 (zm X) pc ls ((As.reverse ++ .ref k :: S).map (zcv (zad X)))) rfl hl.1 (argsL := As.map (zcv (zad X))) (rest := S.map (zcv (zad X))) (fun sig h => by
      rw [h] at hpar
      rw [List.length_map, hn]
      exact (Option.some.inj hpar).symm) (by
      show (As.reverse ++ .ref k :: S).map (zcv (zad X)) = _
      rw [List.map_append, List.map_reverse]; rfl) (zmon (zcv_cat _) (Nat.le_refl _)) (by rw [hc.2.1]; exact hd) (fun vm₁ hW₁ => zpreV (As := .ref k :: As) hc hu hT hP vm₁ hW₁)
  dsimp only [Pt.U, Pt.locs, Pt.cells, Pt.slots] at X' e1 e2 h1 h2 h3 st
  subst h1; subst h2; subst h3
  exact zgoes (as := #[]) hS hl hT X' hL e1 hq st kk
theorem za_callS {idx n : Nat} {md' : zMd} {rm' : Room} {As : List Value} {Q' : Option Value → zM → Prop} (hc : zCx X l md rm) (hs : zKn md' n) (hV : Cond.methodLink md.1.cls idx md'.1 ∈ zWS ∧ Cond.static md'.1 ∈ zWS) (hM : zMet l md' rm' As M Q') (hdd : rm'.frames + 1 ≤ rm.frames ∧ (S.map fun v => v.category).sum + (md'.2.2.1 + 11) + rm'.locals ≤ rm.locals) (hn : As.length = n) (hu : u.1 + rm'.cells ≤ rm.cells ∧ u.2 + rm'.slots ≤ rm.slots) (hd : decode md.2.1 pc = .ok (.invokestatic idx, 3)) (kk : ∀ r M', Q' r M' → zW X Q (u.1 + rm'.cells, u.2 + rm'.slots) (pc + 3) L (r.toList ++ S) M') : zW X Q u pc L (As.reverse ++ S) M := by
  intro ls H locs hl hP hS T hT Y
  have hK := zback (sz := H.size) hc hs hM hdd
  obtain ⟨hco, hini, hy, hpar⟩ := hs
  obtain ⟨v, vm₁, ⟨U', l2, c2, s2⟩, hW₁, X', ⟨g', mk, t, L2, e1, e2, hq, h1, hL, h2, h3⟩, st⟩ := callS Y hc.1 (bytes := md'.2.1) (maxL := md'.2.2.1) (ret := md'.2.2.2) hc.2.2.2.1 (hc.w hV.1) (hc.w hV.2) (hc.w hini) (hc.w hco) hy hK (g := F0 (zm X) pc ls ((As.reverse ++ S).map (zcv (zad X)))) rfl hl.1 (argsL := As.map (zcv (zad X))) (rest := S.map (zcv (zad X))) (fun sig h => by
      rw [h] at hpar
      rw [List.length_map, hn]
      exact (Option.some.inj hpar).symm) (by
      show (As.reverse ++ S).map (zcv (zad X)) = _
      rw [List.map_append, List.map_reverse]) (zmon (zcv_cat _) (Nat.le_refl _)) (by rw [hc.2.1]; exact hd) (fun vm₁ hW₁ => zpreV (As := As) hc hu hT hP vm₁ hW₁)
  dsimp only [Pt.U, Pt.locs, Pt.cells, Pt.slots] at X' e1 e2 h1 h2 h3 st
  subst h1; subst h2; subst h3
  exact zgoes (as := #[]) hS hl hT X' hL e1 hq st kk
theorem za_callSN {idx n : Nat} {host : String} {md' : zMd} {rm' : Room} {As : List Value} {Q' : Option Value → zM → Prop} (hc : zCx X l md rm) (hs : zKn md' n) (hV : (md.1.cls, idx, md'.1, host) ∈ zNL ∧ Cond.static md'.1 ∈ zWS) (hM : zMet l md' rm' As M Q') (hdd : rm'.frames + 1 ≤ rm.frames ∧ (S.map fun v => v.category).sum + (md'.2.2.1 + 11) + rm'.locals ≤ rm.locals) (hn : As.length = n) (hu : u.1 + rm'.cells ≤ rm.cells ∧ u.2 + rm'.slots ≤ rm.slots) (hd : decode md.2.1 pc = .ok (.invokestatic idx, 3)) (kk : ∀ r M', Q' r M' → zW X Q (u.1 + rm'.cells, u.2 + rm'.slots) (pc + 3) L (r.toList ++ S) M') : zW X Q u pc L (As.reverse ++ S) M := by
  intro ls H locs hl hP hS T hT Y
  have hK := zback (sz := H.size) hc hs hM hdd
  obtain ⟨hco, hini, hy, hpar⟩ := hs
  obtain ⟨v, vm₁, ⟨U', l2, c2, s2⟩, hW₁, X', ⟨g', mk, t, L2, e1, e2, hq, h1, hL, h2, h3⟩, st⟩ := va_callSN Y hc.1 (host := host) (bytes := md'.2.1) (maxL := md'.2.2.1) (ret := md'.2.2.2) hc.2.2.2.1 (va_Nw.use rfl (hc.2.2.2.2.2.2.2.2.2.2.2 _ hV.1)) (hc.w hV.2) (hc.w hini) (hc.w hco) hy hK (g := F0 (zm X) pc ls ((As.reverse ++ S).map (zcv (zad X)))) rfl hl.1 (argsL := As.map (zcv (zad X))) (rest := S.map (zcv (zad X))) (fun sig h => by
      rw [h] at hpar
      rw [List.length_map, hn]
      exact (Option.some.inj hpar).symm) (by
      show (As.reverse ++ S).map (zcv (zad X)) = _
      rw [List.map_append, List.map_reverse]) (zmon (zcv_cat _) (Nat.le_refl _)) (by rw [hc.2.1]; exact hd) (fun vm₁ hW₁ => zpreV (As := As) hc hu hT hP vm₁ hW₁)
  dsimp only [Pt.U, Pt.locs, Pt.cells, Pt.slots] at X' e1 e2 h1 h2 h3 st
  subst h1; subst h2; subst h3
  exact zgoes (as := #[]) hS hl hT X' hL e1 hq st kk
end ZCA
