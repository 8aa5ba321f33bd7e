section ZR
variable {X : zC} {l : Launch} {md : zMd} {rm : Room} {Q : Option Value → zM → Prop} {u : Nat × Nat} {pc : Nat} {L : List (Nat × Value)} {S : List Value} {M : zM}
def zget : List (Nat × Value) → Nat → Option Value
  | [], _ => none
  | q :: l, i => bif q.1 == i then some q.2 else zget l i
theorem zget_mem : ∀ {L : List (Nat × Value)} {i : Nat} {v : Value}, zget L i = some v → (i, v) ∈ L
  | [], _, _, h => by cases h
  | q :: l, i, v, h => by
    unfold zget at h
    by_cases hq : q.1 = i
    · rw [show (q.1 == i) = true from by simp [hq]] at h
      have h2 : q.2 = v := Option.some.inj h
      rw [← hq, ← h2]
      exact List.mem_cons_self
    · rw [show (q.1 == i) = false from by simp [hq]] at h
      exact List.mem_cons_of_mem _ (zget_mem h)
theorem zget_at {ls : Array Slot} {n : Nat} {ad : Nat → Nat} {L : List (Nat × Value)} {i : Nat} {v : Value} (hl : lv_has ls n (zcl ad L)) (h : zget L i = some v) : ls[i]? = some (.val (zcv ad v)) :=
  hl.2.2 (i, zcv ad v) (List.mem_map.mpr ⟨(i, v), zget_mem h, rfl⟩)
def zok1 (i : Nat) (q : Nat × Value) : Bool := !(q.1 == i) && !(q.1 + 1 == i && q.2.category == 2)
def zok2 (i : Nat) (q : Nat × Value) : Bool := !(q.1 == i) && (!(q.1 == i + 1) && !(q.1 + 1 == i && q.2.category == 2))
def zst (ok : Nat × Value → Bool) (i : Nat) (v : Value) : List (Nat × Value) → List (Nat × Value)
  | [] => [(i, v)]
  | q :: l => bif q.1 == i then (i, v) :: l.filter ok else bif ok q then q :: zst ok i v l else zst ok i v l
theorem zst_mem {ok : Nat × Value → Bool} {i : Nat} {v : Value} : ∀ {L : List (Nat × Value)} {q : Nat × Value}, q ∈ zst ok i v L → q = (i, v) ∨ (q ∈ L ∧ ok q = true)
  | [], q, h => Or.inl (List.mem_singleton.mp h)
  | a :: l, q, h => by
    unfold zst at h
    by_cases ha : a.1 = i
    · rw [show (a.1 == i) = true from by simp [ha], cond_true] at h
      rcases List.mem_cons.mp h with h | h
      · exact Or.inl h
      · exact Or.inr ⟨List.mem_cons_of_mem _ (List.mem_filter.mp h).1, (List.mem_filter.mp h).2⟩
    · rw [show (a.1 == i) = false from by simp [ha], cond_false] at h
      cases hk : ok a with
      | true =>
        rw [hk, cond_true] at h
        rcases List.mem_cons.mp h with h | h
        · exact Or.inr ⟨by rw [h]; exact List.mem_cons_self, by rw [h]; exact hk⟩
        · rcases zst_mem h with h | h
          · exact Or.inl h
          · exact Or.inr ⟨List.mem_cons_of_mem _ h.1, h.2⟩
      | false =>
        rw [hk, cond_false] at h
        rcases zst_mem h with h | h
        · exact Or.inl h
        · exact Or.inr ⟨List.mem_cons_of_mem _ h.1, h.2⟩
theorem lv_has_mono {ls : Array Slot} {n : Nat} {a b : List (Nat × Value)} (h : lv_has ls n a) (hs : ∀ q ∈ b, q ∈ a) : lv_has ls n b := ⟨h.1, h.2.1, fun q hq => h.2.2 q (hs q hq)⟩
theorem zst_1 {ad : Nat → Nat} {i : Nat} {v : Value} {L : List (Nat × Value)} : ∀ q ∈ zcl ad (zst (zok1 i) i v L), q ∈ (i, zcv ad v) :: (zcl ad L).filter (fun q => !(q.1 == i) && !(q.1 + 1 == i && q.2.category == 2)) := by
  intro q hq
  obtain ⟨q0, h0, rfl⟩ := List.mem_map.mp hq
  rcases zst_mem h0 with h | ⟨h1, h2⟩
  · subst h; exact List.mem_cons_self
  · refine List.mem_cons_of_mem _ (List.mem_filter.mpr ⟨List.mem_map.mpr ⟨q0, h1, rfl⟩, ?_⟩)
    show (!(q0.1 == i) && !(q0.1 + 1 == i && (zcv ad q0.2).category == 2)) = true
    rw [zcv_cat]; exact h2
theorem zst_2 {ad : Nat → Nat} {i : Nat} {v : Value} {L : List (Nat × Value)} : ∀ q ∈ zcl ad (zst (zok2 i) i v L), q ∈ (i, zcv ad v) :: (zcl ad L).filter (fun q => !(q.1 == i) && (!(q.1 == i + 1) && !(q.1 + 1 == i && q.2.category == 2))) := by
  intro q hq
  obtain ⟨q0, h0, rfl⟩ := List.mem_map.mp hq
  rcases zst_mem h0 with h | ⟨h1, h2⟩
  · subst h; exact List.mem_cons_self
  · refine List.mem_cons_of_mem _ (List.mem_filter.mpr ⟨List.mem_map.mpr ⟨q0, h1, rfl⟩, ?_⟩)
    show (!(q0.1 == i) && (!(q0.1 == i + 1) && !(q0.1 + 1 == i && (zcv ad q0.2).category == 2))) = true
    rw [zcv_cat]; exact h2
/-- fewer locals -/
theorem za_loc {L' : List (Nat × Value)} (h : ∀ q ∈ L', q ∈ L) (k : zW X Q u pc L' S M) : zW X Q u pc L S M := fun ls H locs hl hP hS =>
  k ls H locs (lv_has_mono hl (fun q hq => by
    obtain ⟨q0, h0, rfl⟩ := List.mem_map.mp hq
    exact List.mem_map.mpr ⟨q0, h q0 h0, rfl⟩)) hP hS
theorem za_take (n : Nat) (k : zW X Q u pc (L.take n) S M) : zW X Q u pc L S M := za_loc (fun q hq => List.mem_of_mem_take hq) k
theorem za_mono {Q' : Option Value → zM → Prop} (h : ∀ r M', Q' r M' → Q r M') (k : zW X Q' u pc L S M) : zW X Q u pc L S M := by
  intro ls H locs hl hP hS T hT Y
  obtain ⟨t, a, o, b1, b2, b3, b4⟩ := k ls H locs hl hP hS T hT Y
  obtain ⟨⟨r, M', c1, c2, c3⟩, c4⟩ := b3
  exact ⟨t, a, o, b1, b2, ⟨⟨r, M', c1, h r M' c2, c3⟩, c4⟩, b4⟩
theorem zMet_mono {l : Launch} {md : zMd} {rm : Room} {as : List Value} {M : zM} {Q Q' : Option Value → zM → Prop} (h : ∀ r M', Q' r M' → Q r M') (k : zMet l md rm as M Q') : zMet l md rm as M Q := by
  intro D ca ad sz p e ha hc hk s m args below hf happ hP hK
  obtain ⟨n, o, h1, h2, h3, b3, h5⟩ := k D ca ad sz p e ha hc hk s m args below hf happ hP hK
  obtain ⟨⟨r, M', c1, c2, c3⟩, c4⟩ := b3
  exact ⟨n, o, h1, h2, h3, ⟨⟨r, M', c1, h r M' c2, c3⟩, c4⟩, h5⟩
theorem za_iconst {n : Int} (hc : zCx X l md rm) (v : Int32) (hd : decode md.2.1 pc = .ok (.iconst n, 1)) (hv : Int32.ofInt n = v) (k : zW X Q u (pc + 1) L (.int v :: S) M) : zW X Q u pc L S M := fun ls H locs hl hP hS => lv_iconst hc.1 hc.2.1 hd hv (k ls H locs hl hP hS)
theorem za_bipush {n : Int} (hc : zCx X l md rm) (v : Int32) (hd : decode md.2.1 pc = .ok (.bipush n, 2)) (hv : (Int8.ofInt n).toInt32 = v) (k : zW X Q u (pc + 2) L (.int v :: S) M) : zW X Q u pc L S M := fun ls H locs hl hP hS => lv_bipush hc.1 hc.2.1 hd hv (k ls H locs hl hP hS)
theorem za_sipush {n : Int} (hc : zCx X l md rm) (v : Int32) (hd : decode md.2.1 pc = .ok (.sipush n, 3)) (hv : (Int16.ofInt n).toInt32 = v) (k : zW X Q u (pc + 3) L (.int v :: S) M) : zW X Q u pc L S M := fun ls H locs hl hP hS => lv_sipush hc.1 hc.2.1 hd hv (k ls H locs hl hP hS)
theorem za_lconst {n : Fin 2} (hc : zCx X l md rm) (v : Int64) (hd : decode md.2.1 pc = .ok (.lconst n, 1)) (hv : Int64.ofNat (n : Nat) = v) (k : zW X Q u (pc + 1) L (.long v :: S) M) : zW X Q u pc L S M := fun ls H locs hl hP hS => lv_lconst hc.1 hc.2.1 hd hv (k ls H locs hl hP hS)
theorem za_ldc {idx : Nat} (hc : zCx X l md rm) (v : Int32) (hd : decode md.2.1 pc = .ok (.ldc idx, 2)) (hw : Cond.constant md.1.cls idx v ∈ zWS) (k : zW X Q u (pc + 2) L (.int v :: S) M) : zW X Q u pc L S M := fun ls H locs hl hP hS => lv_ldc hc.1 hc.2.1 hc.2.2.2.1 (hc.w hw) hd (k ls H locs hl hP hS)
theorem za_ldc2 {idx : Nat} (hc : zCx X l md rm) (v : Int64) (hd : decode md.2.1 pc = .ok (.ldc2_w idx, 3)) (hw : Cond.constantLong md.1.cls idx v ∈ zWS) (k : zW X Q u (pc + 3) L (.long v :: S) M) : zW X Q u pc L S M := fun ls H locs hl hP hS => lv_ldc2 hc.1 hc.2.1 hc.2.2.2.1 (hc.w hw) hd (k ls H locs hl hP hS)
theorem za_iload {i : Nat} {x : Int32} (hc : zCx X l md rm) (hd : decode md.2.1 pc = .ok (.iload i, 2)) (hg : zget L i = some (.int x)) (k : zW X Q u (pc + 2) L (.int x :: S) M) : zW X Q u pc L S M := fun ls H locs hl hP hS => lv_iload hc.1 hc.2.1 hd (zget_at hl hg) (k ls H locs hl hP hS)
theorem za_iload_n {i : Fin 4} {x : Int32} (hc : zCx X l md rm) (hd : decode md.2.1 pc = .ok (.iload_n i, 1)) (hg : zget L i.val = some (.int x)) (k : zW X Q u (pc + 1) L (.int x :: S) M) : zW X Q u pc L S M := fun ls H locs hl hP hS => lv_iload_n hc.1 hc.2.1 hd rfl (zget_at hl hg) (k ls H locs hl hP hS)
theorem za_istore {i : Nat} {x : Int32} (hc : zCx X l md rm) (hd : decode md.2.1 pc = .ok (.istore i, 2)) (hn : i < md.2.2.1) (k : zW X Q u (pc + 2) (zst (zok1 i) i (.int x) L) S M) : zW X Q u pc L (.int x :: S) M := fun ls H locs hl hP hS => lv_istore hc.1 hc.2.1 hd hl (by rw [hc.2.2.1]; exact hn) rfl (fun ls' hl' => k ls' H locs (lv_has_mono hl' zst_1) hP hS)
theorem za_istore_n {i : Fin 4} {x : Int32} (hc : zCx X l md rm) (hd : decode md.2.1 pc = .ok (.istore_n i, 1)) (hn : i.val < md.2.2.1) (k : zW X Q u (pc + 1) (zst (zok1 i.val) i.val (.int x) L) S M) : zW X Q u pc L (.int x :: S) M := fun ls H locs hl hP hS => lv_istore_n hc.1 hc.2.1 hd rfl hl (by rw [hc.2.2.1]; exact hn) rfl (fun ls' hl' => k ls' H locs (lv_has_mono hl' zst_1) hP hS)
theorem za_lload {i : Nat} {x : Int64} (hc : zCx X l md rm) (hd : decode md.2.1 pc = .ok (.lload i, 2)) (hg : zget L i = some (.long x)) (k : zW X Q u (pc + 2) L (.long x :: S) M) : zW X Q u pc L S M := fun ls H locs hl hP hS => lv_lload hc.1 hc.2.1 hd (zget_at hl hg) (k ls H locs hl hP hS)
theorem za_lload_n {i : Fin 4} {x : Int64} (hc : zCx X l md rm) (hd : decode md.2.1 pc = .ok (.lload_n i, 1)) (hg : zget L i.val = some (.long x)) (k : zW X Q u (pc + 1) L (.long x :: S) M) : zW X Q u pc L S M := fun ls H locs hl hP hS => lv_lload_n hc.1 hc.2.1 hd rfl (zget_at hl hg) (k ls H locs hl hP hS)
theorem za_lstore {i : Nat} {x : Int64} (hc : zCx X l md rm) (hd : decode md.2.1 pc = .ok (.lstore i, 2)) (hn : i + 1 < md.2.2.1) (k : zW X Q u (pc + 2) (zst (zok2 i) i (.long x) L) S M) : zW X Q u pc L (.long x :: S) M := fun ls H locs hl hP hS => lv_lstore hc.1 hc.2.1 hd hl (by rw [hc.2.2.1]; exact hn) rfl (fun ls' hl' => k ls' H locs (lv_has_mono hl' zst_2) hP hS)
theorem za_lstore_n {i : Fin 4} {x : Int64} (hc : zCx X l md rm) (hd : decode md.2.1 pc = .ok (.lstore_n i, 1)) (hn : i.val + 1 < md.2.2.1) (k : zW X Q u (pc + 1) (zst (zok2 i.val) i.val (.long x) L) S M) : zW X Q u pc L (.long x :: S) M := fun ls H locs hl hP hS => lv_lstore_n hc.1 hc.2.1 hd rfl hl (by rw [hc.2.2.1]; exact hn) rfl (fun ls' hl' => k ls' H locs (lv_has_mono hl' zst_2) hP hS)
theorem za_aload {i : Nat} {x : Nat} (hc : zCx X l md rm) (hd : decode md.2.1 pc = .ok (.aload i, 2)) (hg : zget L i = some (.ref x)) (k : zW X Q u (pc + 2) L (.ref x :: S) M) : zW X Q u pc L S M := fun ls H locs hl hP hS => lv_aload hc.1 hc.2.1 hd (zget_at hl hg) (k ls H locs hl hP hS)
theorem za_aload_n {i : Fin 4} {x : Nat} (hc : zCx X l md rm) (hd : decode md.2.1 pc = .ok (.aload_n i, 1)) (hg : zget L i.val = some (.ref x)) (k : zW X Q u (pc + 1) L (.ref x :: S) M) : zW X Q u pc L S M := fun ls H locs hl hP hS => lv_aload_n hc.1 hc.2.1 hd rfl (zget_at hl hg) (k ls H locs hl hP hS)
theorem za_astore {i : Nat} {x : Nat} (hc : zCx X l md rm) (hd : decode md.2.1 pc = .ok (.astore i, 2)) (hn : i < md.2.2.1) (k : zW X Q u (pc + 2) (zst (zok1 i) i (.ref x) L) S M) : zW X Q u pc L (.ref x :: S) M := fun ls H locs hl hP hS => lv_astore hc.1 hc.2.1 hd hl (by rw [hc.2.2.1]; exact hn) rfl (fun ls' hl' => k ls' H locs (lv_has_mono hl' zst_1) hP hS)
theorem za_astore_n {i : Fin 4} {x : Nat} (hc : zCx X l md rm) (hd : decode md.2.1 pc = .ok (.astore_n i, 1)) (hn : i.val < md.2.2.1) (k : zW X Q u (pc + 1) (zst (zok1 i.val) i.val (.ref x) L) S M) : zW X Q u pc L (.ref x :: S) M := fun ls H locs hl hP hS => lv_astore_n hc.1 hc.2.1 hd rfl hl (by rw [hc.2.2.1]; exact hn) rfl (fun ls' hl' => k ls' H locs (lv_has_mono hl' zst_1) hP hS)
theorem za_iinc {i : Nat} {n : Int} {x : Int32} (hc : zCx X l md rm) (v : Int32) (hd : decode md.2.1 pc = .ok (.iinc i n, 3)) (hg : zget L i = some (.int x)) (hv : x + Int32.ofInt n = v) (hn : i < md.2.2.1) (k : zW X Q u (pc + 3) (zst (zok1 i) i (.int v) L) S M) : zW X Q u pc L S M := by
  intro ls H locs hl hP hS
  have hm : (i, Value.int x) ∈ zcl (zad X) L := List.mem_map.mpr ⟨(i, .int x), zget_mem hg, rfl⟩
  obtain ⟨j, hj⟩ := List.getElem?_of_mem hm
  exact lv_iinc hc.1 hc.2.1 hd hl hj hv (by rw [hc.2.2.1]; exact hn) rfl (fun ls' hl' => k ls' H locs (lv_has_mono hl' zst_1) hP hS)
theorem za_iadd {x y : Int32} (hc : zCx X l md rm) (hd : decode md.2.1 pc = .ok (.iadd, 1)) (k : zW X Q u (pc + 1) L (.int (x + y) :: S) M) : zW X Q u pc L (.int y :: .int x :: S) M := fun ls H locs hl hP hS => lv_iadd hc.1 hc.2.1 hd (k ls H locs hl hP hS)
theorem za_isub {x y : Int32} (hc : zCx X l md rm) (hd : decode md.2.1 pc = .ok (.isub, 1)) (k : zW X Q u (pc + 1) L (.int (x - y) :: S) M) : zW X Q u pc L (.int y :: .int x :: S) M := fun ls H locs hl hP hS => lv_isub hc.1 hc.2.1 hd (k ls H locs hl hP hS)
theorem za_imul {x y : Int32} (hc : zCx X l md rm) (hd : decode md.2.1 pc = .ok (.imul, 1)) (k : zW X Q u (pc + 1) L (.int (x * y) :: S) M) : zW X Q u pc L (.int y :: .int x :: S) M := fun ls H locs hl hP hS => lv_imul hc.1 hc.2.1 hd (k ls H locs hl hP hS)
theorem za_iand {x y : Int32} (hc : zCx X l md rm) (hd : decode md.2.1 pc = .ok (.iand, 1)) (k : zW X Q u (pc + 1) L (.int (x &&& y) :: S) M) : zW X Q u pc L (.int y :: .int x :: S) M := fun ls H locs hl hP hS => lv_iand hc.1 hc.2.1 hd (k ls H locs hl hP hS)
theorem za_ior {x y : Int32} (hc : zCx X l md rm) (hd : decode md.2.1 pc = .ok (.ior, 1)) (k : zW X Q u (pc + 1) L (.int (x ||| y) :: S) M) : zW X Q u pc L (.int y :: .int x :: S) M := fun ls H locs hl hP hS => lv_ior hc.1 hc.2.1 hd (k ls H locs hl hP hS)
theorem za_ixor {x y : Int32} (hc : zCx X l md rm) (hd : decode md.2.1 pc = .ok (.ixor, 1)) (k : zW X Q u (pc + 1) L (.int (x ^^^ y) :: S) M) : zW X Q u pc L (.int y :: .int x :: S) M := fun ls H locs hl hP hS => lv_ixor hc.1 hc.2.1 hd (k ls H locs hl hP hS)
theorem za_idiv {x y : Int32} (hc : zCx X l md rm) (hd : decode md.2.1 pc = .ok (.idiv, 1)) (hne : ¬ y = 0) (k : zW X Q u (pc + 1) L (.int (x / y) :: S) M) : zW X Q u pc L (.int y :: .int x :: S) M := fun ls H locs hl hP hS => lv_idiv hc.1 hc.2.1 hd hne (k ls H locs hl hP hS)
theorem za_irem {x y : Int32} (hc : zCx X l md rm) (hd : decode md.2.1 pc = .ok (.irem, 1)) (hne : ¬ y = 0) (k : zW X Q u (pc + 1) L (.int (x - x / y * y) :: S) M) : zW X Q u pc L (.int y :: .int x :: S) M := fun ls H locs hl hP hS => lv_irem hc.1 hc.2.1 hd hne (k ls H locs hl hP hS)
theorem za_ladd {x y : Int64} (hc : zCx X l md rm) (hd : decode md.2.1 pc = .ok (.ladd, 1)) (k : zW X Q u (pc + 1) L (.long (x + y) :: S) M) : zW X Q u pc L (.long y :: .long x :: S) M := fun ls H locs hl hP hS => lv_ladd hc.1 hc.2.1 hd (k ls H locs hl hP hS)
theorem za_lsub {x y : Int64} (hc : zCx X l md rm) (hd : decode md.2.1 pc = .ok (.lsub, 1)) (k : zW X Q u (pc + 1) L (.long (x - y) :: S) M) : zW X Q u pc L (.long y :: .long x :: S) M := fun ls H locs hl hP hS => lv_lsub hc.1 hc.2.1 hd (k ls H locs hl hP hS)
theorem za_lmul {x y : Int64} (hc : zCx X l md rm) (hd : decode md.2.1 pc = .ok (.lmul, 1)) (k : zW X Q u (pc + 1) L (.long (x * y) :: S) M) : zW X Q u pc L (.long y :: .long x :: S) M := fun ls H locs hl hP hS => lv_lmul hc.1 hc.2.1 hd (k ls H locs hl hP hS)
theorem za_land {x y : Int64} (hc : zCx X l md rm) (hd : decode md.2.1 pc = .ok (.land, 1)) (k : zW X Q u (pc + 1) L (.long (x &&& y) :: S) M) : zW X Q u pc L (.long y :: .long x :: S) M := fun ls H locs hl hP hS => lv_land hc.1 hc.2.1 hd (k ls H locs hl hP hS)
theorem za_lor {x y : Int64} (hc : zCx X l md rm) (hd : decode md.2.1 pc = .ok (.lor, 1)) (k : zW X Q u (pc + 1) L (.long (x ||| y) :: S) M) : zW X Q u pc L (.long y :: .long x :: S) M := fun ls H locs hl hP hS => lv_lor hc.1 hc.2.1 hd (k ls H locs hl hP hS)
theorem za_lxor {x y : Int64} (hc : zCx X l md rm) (hd : decode md.2.1 pc = .ok (.lxor, 1)) (k : zW X Q u (pc + 1) L (.long (x ^^^ y) :: S) M) : zW X Q u pc L (.long y :: .long x :: S) M := fun ls H locs hl hP hS => lv_lxor hc.1 hc.2.1 hd (k ls H locs hl hP hS)
theorem za_ldiv {x y : Int64} (hc : zCx X l md rm) (hd : decode md.2.1 pc = .ok (.ldiv, 1)) (hne : ¬ y = 0) (k : zW X Q u (pc + 1) L (.long (x / y) :: S) M) : zW X Q u pc L (.long y :: .long x :: S) M := fun ls H locs hl hP hS => lv_ldiv hc.1 hc.2.1 hd hne (k ls H locs hl hP hS)
theorem za_lrem {x y : Int64} (hc : zCx X l md rm) (hd : decode md.2.1 pc = .ok (.lrem, 1)) (hne : ¬ y = 0) (k : zW X Q u (pc + 1) L (.long (x - x / y * y) :: S) M) : zW X Q u pc L (.long y :: .long x :: S) M := fun ls H locs hl hP hS => lv_lrem hc.1 hc.2.1 hd hne (k ls H locs hl hP hS)
theorem za_ineg {x : Int32} (hc : zCx X l md rm) (hd : decode md.2.1 pc = .ok (.ineg, 1)) (k : zW X Q u (pc + 1) L (.int (-x) :: S) M) : zW X Q u pc L (.int x :: S) M := fun ls H locs hl hP hS => lv_ineg hc.1 hc.2.1 hd (k ls H locs hl hP hS)
theorem za_lneg {x : Int64} (hc : zCx X l md rm) (hd : decode md.2.1 pc = .ok (.lneg, 1)) (k : zW X Q u (pc + 1) L (.long (-x) :: S) M) : zW X Q u pc L (.long x :: S) M := fun ls H locs hl hP hS => lv_lneg hc.1 hc.2.1 hd (k ls H locs hl hP hS)
theorem za_i2l {x : Int32} (hc : zCx X l md rm) (hd : decode md.2.1 pc = .ok (.i2l, 1)) (k : zW X Q u (pc + 1) L (.long x.toInt64 :: S) M) : zW X Q u pc L (.int x :: S) M := fun ls H locs hl hP hS => lv_i2l hc.1 hc.2.1 hd rfl (k ls H locs hl hP hS)
theorem za_l2i {x : Int64} (hc : zCx X l md rm) (hd : decode md.2.1 pc = .ok (.l2i, 1)) (k : zW X Q u (pc + 1) L (.int x.toInt32 :: S) M) : zW X Q u pc L (.long x :: S) M := fun ls H locs hl hP hS => lv_l2i hc.1 hc.2.1 hd rfl (k ls H locs hl hP hS)
theorem za_lshl {x : Int64} {y : Int32} (hc : zCx X l md rm) (hd : decode md.2.1 pc = .ok (.lshl, 1)) (k : zW X Q u (pc + 1) L (.long (x <<< (y.toInt64 &&& 63)) :: S) M) : zW X Q u pc L (.int y :: .long x :: S) M := fun ls H locs hl hP hS => lv_lshl hc.1 hc.2.1 hd rfl (k ls H locs hl hP hS)
theorem za_dup {v : Value} (hc : zCx X l md rm) (hd : decode md.2.1 pc = .ok (.dup, 1)) (hv : v.category = 1) (k : zW X Q u (pc + 1) L (v :: v :: S) M) : zW X Q u pc L (v :: S) M := fun ls H locs hl hP hS => lv_dup hc.1 hc.2.1 hd (by rw [zcv_cat]; exact hv) (k ls H locs hl hP hS)
theorem za_pop {v : Value} (hc : zCx X l md rm) (hd : decode md.2.1 pc = .ok (.pop, 1)) (hv : v.category = 1) (k : zW X Q u (pc + 1) L S M) : zW X Q u pc L (v :: S) M := fun ls H locs hl hP hS => lv_pop hc.1 hc.2.1 hd (by rw [zcv_cat]; exact hv) (k ls H locs hl hP hS)
theorem za_dup_x1 {v w : Value} (hc : zCx X l md rm) (hd : decode md.2.1 pc = .ok (.dup_x1, 1)) (hv : v.category = 1) (hw : w.category = 1) (k : zW X Q u (pc + 1) L (v :: w :: v :: S) M) : zW X Q u pc L (v :: w :: S) M := fun ls H locs hl hP hS => lv_dup_x1 hc.1 hc.2.1 hd (by rw [zcv_cat]; exact hv) (by rw [zcv_cat]; exact hw) (k ls H locs hl hP hS)
theorem za_dup2 {v w : Value} (hc : zCx X l md rm) (hd : decode md.2.1 pc = .ok (.dup2, 1)) (hv : v.category = 1) (hw : w.category = 1) (k : zW X Q u (pc + 1) L (v :: w :: v :: w :: S) M) : zW X Q u pc L (v :: w :: S) M := fun ls H locs hl hP hS => lv_dup2_11 hc.1 hc.2.1 hd (by rw [zcv_cat]; exact hv) (by rw [zcv_cat]; exact hw) (k ls H locs hl hP hS)
theorem za_goto {off : Int} (tgt : Nat) (hc : zCx X l md rm) (hd : decode md.2.1 pc = .ok (.goto off, 3)) (ht : (pc : Int) + off = (tgt : Int)) (k : zW X Q u tgt L S M) : zW X Q u pc L S M := fun ls H locs hl hP hS => lv_goto hc.1 hc.2.1 hd ht (k ls H locs hl hP hS)
theorem za_if_eq {off : Int} {x : Int32} (tgt : Nat) (hc : zCx X l md rm) (hd : decode md.2.1 pc = .ok (.ifCond .eq off, 3)) (ht : (pc : Int) + off = (tgt : Int)) (kt : x = 0 → zW X Q u tgt L S M) (kf : ¬ x = 0 → zW X Q u (pc + 3) L S M) : zW X Q u pc L (.int x :: S) M := fun ls H locs hl hP hS => lv_if_eq hc.1 hc.2.1 hd ht (fun h => kt h ls H locs hl hP hS) (fun h => kf h ls H locs hl hP hS)
theorem za_icmp_eq {off : Int} {x y : Int32} (tgt : Nat) (hc : zCx X l md rm) (hd : decode md.2.1 pc = .ok (.if_icmp .eq off, 3)) (ht : (pc : Int) + off = (tgt : Int)) (kt : x = y → zW X Q u tgt L S M) (kf : ¬ x = y → zW X Q u (pc + 3) L S M) : zW X Q u pc L (.int y :: .int x :: S) M := fun ls H locs hl hP hS => lv_icmp_eq hc.1 hc.2.1 hd ht (fun h => kt h ls H locs hl hP hS) (fun h => kf h ls H locs hl hP hS)
theorem za_lcmp_eq {off : Int} {x y : Int64} (tgt : Nat) (hc : zCx X l md rm) (hd : decode md.2.1 pc = .ok (.lcmp, 1)) (hd2 : decode md.2.1 (pc + 1) = .ok (.ifCond .eq off, 3)) (ht : ((pc + 1 : Nat) : Int) + off = (tgt : Int)) (kt : x = y → zW X Q u tgt L S M) (kf : ¬ x = y → zW X Q u (pc + 1 + 3) L S M) : zW X Q u pc L (.long y :: .long x :: S) M := fun ls H locs hl hP hS => W.lcmp hc.1 hc.2.1 hd (lv_if_eq hc.1 hc.2.1 hd2 ht (fun h => kt ((lg_cmp_eq x y).mp h) ls H locs hl hP hS) (fun h => kf (fun z => h ((lg_cmp_eq x y).mpr z)) ls H locs hl hP hS))
theorem za_if_ne {off : Int} {x : Int32} (tgt : Nat) (hc : zCx X l md rm) (hd : decode md.2.1 pc = .ok (.ifCond .ne off, 3)) (ht : (pc : Int) + off = (tgt : Int)) (kt : ¬ x = 0 → zW X Q u tgt L S M) (kf : x = 0 → zW X Q u (pc + 3) L S M) : zW X Q u pc L (.int x :: S) M := fun ls H locs hl hP hS => lv_if_ne hc.1 hc.2.1 hd ht (fun h => kt h ls H locs hl hP hS) (fun h => kf h ls H locs hl hP hS)
theorem za_icmp_ne {off : Int} {x y : Int32} (tgt : Nat) (hc : zCx X l md rm) (hd : decode md.2.1 pc = .ok (.if_icmp .ne off, 3)) (ht : (pc : Int) + off = (tgt : Int)) (kt : ¬ x = y → zW X Q u tgt L S M) (kf : x = y → zW X Q u (pc + 3) L S M) : zW X Q u pc L (.int y :: .int x :: S) M := fun ls H locs hl hP hS => lv_icmp_ne hc.1 hc.2.1 hd ht (fun h => kt h ls H locs hl hP hS) (fun h => kf h ls H locs hl hP hS)
theorem za_lcmp_ne {off : Int} {x y : Int64} (tgt : Nat) (hc : zCx X l md rm) (hd : decode md.2.1 pc = .ok (.lcmp, 1)) (hd2 : decode md.2.1 (pc + 1) = .ok (.ifCond .ne off, 3)) (ht : ((pc + 1 : Nat) : Int) + off = (tgt : Int)) (kt : ¬ x = y → zW X Q u tgt L S M) (kf : x = y → zW X Q u (pc + 1 + 3) L S M) : zW X Q u pc L (.long y :: .long x :: S) M := fun ls H locs hl hP hS => W.lcmp hc.1 hc.2.1 hd (lv_if_ne hc.1 hc.2.1 hd2 ht (fun h => kt (fun z => h ((lg_cmp_eq x y).mpr z)) ls H locs hl hP hS) (fun h => kf ((lg_cmp_eq x y).mp h) ls H locs hl hP hS))
theorem za_if_lt {off : Int} {x : Int32} (tgt : Nat) (hc : zCx X l md rm) (hd : decode md.2.1 pc = .ok (.ifCond .lt off, 3)) (ht : (pc : Int) + off = (tgt : Int)) (kt : x < 0 → zW X Q u tgt L S M) (kf : ¬ x < 0 → zW X Q u (pc + 3) L S M) : zW X Q u pc L (.int x :: S) M := fun ls H locs hl hP hS => lv_if_lt hc.1 hc.2.1 hd ht (fun h => kt h ls H locs hl hP hS) (fun h => kf h ls H locs hl hP hS)
theorem za_icmp_lt {off : Int} {x y : Int32} (tgt : Nat) (hc : zCx X l md rm) (hd : decode md.2.1 pc = .ok (.if_icmp .lt off, 3)) (ht : (pc : Int) + off = (tgt : Int)) (kt : x < y → zW X Q u tgt L S M) (kf : ¬ x < y → zW X Q u (pc + 3) L S M) : zW X Q u pc L (.int y :: .int x :: S) M := fun ls H locs hl hP hS => lv_icmp_lt hc.1 hc.2.1 hd ht (fun h => kt h ls H locs hl hP hS) (fun h => kf h ls H locs hl hP hS)
theorem za_lcmp_lt {off : Int} {x y : Int64} (tgt : Nat) (hc : zCx X l md rm) (hd : decode md.2.1 pc = .ok (.lcmp, 1)) (hd2 : decode md.2.1 (pc + 1) = .ok (.ifCond .lt off, 3)) (ht : ((pc + 1 : Nat) : Int) + off = (tgt : Int)) (kt : x < y → zW X Q u tgt L S M) (kf : ¬ x < y → zW X Q u (pc + 1 + 3) L S M) : zW X Q u pc L (.long y :: .long x :: S) M := fun ls H locs hl hP hS => W.lcmp hc.1 hc.2.1 hd (lv_if_lt hc.1 hc.2.1 hd2 ht (fun h => kt ((lg_cmp_lt x y).mp h) ls H locs hl hP hS) (fun h => kf (fun z => h ((lg_cmp_lt x y).mpr z)) ls H locs hl hP hS))
theorem za_if_ge {off : Int} {x : Int32} (tgt : Nat) (hc : zCx X l md rm) (hd : decode md.2.1 pc = .ok (.ifCond .ge off, 3)) (ht : (pc : Int) + off = (tgt : Int)) (kt : 0 ≤ x → zW X Q u tgt L S M) (kf : ¬ 0 ≤ x → zW X Q u (pc + 3) L S M) : zW X Q u pc L (.int x :: S) M := fun ls H locs hl hP hS => lv_if_ge hc.1 hc.2.1 hd ht (fun h => kt h ls H locs hl hP hS) (fun h => kf h ls H locs hl hP hS)
theorem za_icmp_ge {off : Int} {x y : Int32} (tgt : Nat) (hc : zCx X l md rm) (hd : decode md.2.1 pc = .ok (.if_icmp .ge off, 3)) (ht : (pc : Int) + off = (tgt : Int)) (kt : y ≤ x → zW X Q u tgt L S M) (kf : ¬ y ≤ x → zW X Q u (pc + 3) L S M) : zW X Q u pc L (.int y :: .int x :: S) M := fun ls H locs hl hP hS => lv_icmp_ge hc.1 hc.2.1 hd ht (fun h => kt h ls H locs hl hP hS) (fun h => kf h ls H locs hl hP hS)
theorem za_lcmp_ge {off : Int} {x y : Int64} (tgt : Nat) (hc : zCx X l md rm) (hd : decode md.2.1 pc = .ok (.lcmp, 1)) (hd2 : decode md.2.1 (pc + 1) = .ok (.ifCond .ge off, 3)) (ht : ((pc + 1 : Nat) : Int) + off = (tgt : Int)) (kt : y ≤ x → zW X Q u tgt L S M) (kf : ¬ y ≤ x → zW X Q u (pc + 1 + 3) L S M) : zW X Q u pc L (.long y :: .long x :: S) M := fun ls H locs hl hP hS => W.lcmp hc.1 hc.2.1 hd (lv_if_ge hc.1 hc.2.1 hd2 ht (fun h => kt ((lg_cmp_ge x y).mp h) ls H locs hl hP hS) (fun h => kf (fun z => h ((lg_cmp_ge x y).mpr z)) ls H locs hl hP hS))
theorem za_if_gt {off : Int} {x : Int32} (tgt : Nat) (hc : zCx X l md rm) (hd : decode md.2.1 pc = .ok (.ifCond .gt off, 3)) (ht : (pc : Int) + off = (tgt : Int)) (kt : 0 < x → zW X Q u tgt L S M) (kf : ¬ 0 < x → zW X Q u (pc + 3) L S M) : zW X Q u pc L (.int x :: S) M := fun ls H locs hl hP hS => lv_if_gt hc.1 hc.2.1 hd ht (fun h => kt h ls H locs hl hP hS) (fun h => kf h ls H locs hl hP hS)
theorem za_icmp_gt {off : Int} {x y : Int32} (tgt : Nat) (hc : zCx X l md rm) (hd : decode md.2.1 pc = .ok (.if_icmp .gt off, 3)) (ht : (pc : Int) + off = (tgt : Int)) (kt : y < x → zW X Q u tgt L S M) (kf : ¬ y < x → zW X Q u (pc + 3) L S M) : zW X Q u pc L (.int y :: .int x :: S) M := fun ls H locs hl hP hS => lv_icmp_gt hc.1 hc.2.1 hd ht (fun h => kt h ls H locs hl hP hS) (fun h => kf h ls H locs hl hP hS)
theorem za_lcmp_gt {off : Int} {x y : Int64} (tgt : Nat) (hc : zCx X l md rm) (hd : decode md.2.1 pc = .ok (.lcmp, 1)) (hd2 : decode md.2.1 (pc + 1) = .ok (.ifCond .gt off, 3)) (ht : ((pc + 1 : Nat) : Int) + off = (tgt : Int)) (kt : y < x → zW X Q u tgt L S M) (kf : ¬ y < x → zW X Q u (pc + 1 + 3) L S M) : zW X Q u pc L (.long y :: .long x :: S) M := fun ls H locs hl hP hS => W.lcmp hc.1 hc.2.1 hd (lv_if_gt hc.1 hc.2.1 hd2 ht (fun h => kt ((lg_cmp_gt x y).mp h) ls H locs hl hP hS) (fun h => kf (fun z => h ((lg_cmp_gt x y).mpr z)) ls H locs hl hP hS))
theorem za_if_le {off : Int} {x : Int32} (tgt : Nat) (hc : zCx X l md rm) (hd : decode md.2.1 pc = .ok (.ifCond .le off, 3)) (ht : (pc : Int) + off = (tgt : Int)) (kt : x ≤ 0 → zW X Q u tgt L S M) (kf : ¬ x ≤ 0 → zW X Q u (pc + 3) L S M) : zW X Q u pc L (.int x :: S) M := fun ls H locs hl hP hS => lv_if_le hc.1 hc.2.1 hd ht (fun h => kt h ls H locs hl hP hS) (fun h => kf h ls H locs hl hP hS)
theorem za_icmp_le {off : Int} {x y : Int32} (tgt : Nat) (hc : zCx X l md rm) (hd : decode md.2.1 pc = .ok (.if_icmp .le off, 3)) (ht : (pc : Int) + off = (tgt : Int)) (kt : x ≤ y → zW X Q u tgt L S M) (kf : ¬ x ≤ y → zW X Q u (pc + 3) L S M) : zW X Q u pc L (.int y :: .int x :: S) M := fun ls H locs hl hP hS => lv_icmp_le hc.1 hc.2.1 hd ht (fun h => kt h ls H locs hl hP hS) (fun h => kf h ls H locs hl hP hS)
theorem za_lcmp_le {off : Int} {x y : Int64} (tgt : Nat) (hc : zCx X l md rm) (hd : decode md.2.1 pc = .ok (.lcmp, 1)) (hd2 : decode md.2.1 (pc + 1) = .ok (.ifCond .le off, 3)) (ht : ((pc + 1 : Nat) : Int) + off = (tgt : Int)) (kt : x ≤ y → zW X Q u tgt L S M) (kf : ¬ x ≤ y → zW X Q u (pc + 1 + 3) L S M) : zW X Q u pc L (.long y :: .long x :: S) M := fun ls H locs hl hP hS => W.lcmp hc.1 hc.2.1 hd (lv_if_le hc.1 hc.2.1 hd2 ht (fun h => kt ((lg_cmp_le x y).mp h) ls H locs hl hP hS) (fun h => kf (fun z => h ((lg_cmp_le x y).mpr z)) ls H locs hl hP hS))
theorem za_iret {v : Int32} (hc : zCx X l md rm) (hr : md.2.2.2 = (some .int)) (hd : decode md.2.1 pc = .ok (.ireturn, 1)) (hu : u.1 ≤ rm.cells ∧ u.2 ≤ rm.slots) (hq : Q (some (.int v)) M) : zW X Q u pc L [.int v] M := by
  intro ls H locs hl hP hS
  have hR := hc.2.2.2.2.2.2.2.2.2.1
  refine W.widen (k := (zRo X).cells) (n := (zRo X).slots) (by rw [hR]; exact hu.1) (by rw [hR]; exact hu.2) ?_
  exact W.iret hc.1 hc.2.1 (hc.2.2.2.2.2.2.2.1.trans hr) (fun t ht hW => ⟨⟨some (.int v), M, rfl, hq, by rw [ht]; exact hP, va_K.moved hW.alike hc.2.2.2.2.2.1⟩, hS.F ht⟩) hS.2.2 hd hc.2.2.2.2.2.2.2.2.1
theorem za_lret {v : Int64} (hc : zCx X l md rm) (hr : md.2.2.2 = (some .long)) (hd : decode md.2.1 pc = .ok (.lreturn, 1)) (hu : u.1 ≤ rm.cells ∧ u.2 ≤ rm.slots) (hq : Q (some (.long v)) M) : zW X Q u pc L [.long v] M := by
  intro ls H locs hl hP hS
  have hR := hc.2.2.2.2.2.2.2.2.2.1
  refine W.widen (k := (zRo X).cells) (n := (zRo X).slots) (by rw [hR]; exact hu.1) (by rw [hR]; exact hu.2) ?_
  exact W.lret hc.1 hc.2.1 (hc.2.2.2.2.2.2.2.1.trans hr) (fun t ht hW => ⟨⟨some (.long v), M, rfl, hq, by rw [ht]; exact hP, va_K.moved hW.alike hc.2.2.2.2.2.1⟩, hS.F ht⟩) hS.2.2 hd hc.2.2.2.2.2.2.2.2.1
theorem za_zret {v : Int32} {ty : FieldType} (hc : zCx X l md rm) (hr : md.2.2.2 = some ty) (hn : narrow ty (.int v) = .int v) (hd : decode md.2.1 pc = .ok (.ireturn, 1)) (hu : u.1 ≤ rm.cells ∧ u.2 ≤ rm.slots) (hq : Q (some (.int v)) M) : zW X Q u pc L [.int v] M := by
  intro ls H locs hl hP hS
  have hR := hc.2.2.2.2.2.2.2.2.2.1
  refine W.widen (k := (zRo X).cells) (n := (zRo X).slots) (by rw [hR]; exact hu.1) (by rw [hR]; exact hu.2) ?_
  exact W.zret hc.1 hc.2.1 (hc.2.2.2.2.2.2.2.1.trans hr) hn (fun t ht hW => ⟨⟨some (.int v), M, rfl, hq, by rw [ht]; exact hP, va_K.moved hW.alike hc.2.2.2.2.2.1⟩, hS.F ht⟩) hS.2.2 hd hc.2.2.2.2.2.2.2.2.1
theorem za_aret {v : Nat} {C : String} (hc : zCx X l md rm) (hr : md.2.2.2 = some (.object C)) (hd : decode md.2.1 pc = .ok (.areturn, 1)) (hu : u.1 ≤ rm.cells ∧ u.2 ≤ rm.slots) (hq : Q (some (.ref v)) M) : zW X Q u pc L [.ref v] M := by
  intro ls H locs hl hP hS
  have hR := hc.2.2.2.2.2.2.2.2.2.1
  refine W.widen (k := (zRo X).cells) (n := (zRo X).slots) (by rw [hR]; exact hu.1) (by rw [hR]; exact hu.2) ?_
  exact W.aret (v := .ref (zad X v)) hc.1 hc.2.1 (hc.2.2.2.2.2.2.2.1.trans hr) (Or.inl ⟨_, rfl⟩) (Or.inr ⟨_, rfl⟩) (fun t ht hW => ⟨⟨some (.ref v), M, rfl, hq, by rw [ht]; exact hP, va_K.moved hW.alike hc.2.2.2.2.2.1⟩, hS.F ht⟩) hS.2.2 hd hc.2.2.2.2.2.2.2.2.1
theorem za_vret (hc : zCx X l md rm) (hr : md.2.2.2 = none) (hd : decode md.2.1 pc = .ok (.return_, 1)) (hu : u.1 ≤ rm.cells ∧ u.2 ≤ rm.slots) (hq : Q none M) : zW X Q u pc L [] M := by
  intro ls H locs hl hP hS
  have hR := hc.2.2.2.2.2.2.2.2.2.1
  refine W.widen (k := (zRo X).cells) (n := (zRo X).slots) (by rw [hR]; exact hu.1) (by rw [hR]; exact hu.2) ?_
  exact W.vret hc.1 hc.2.1 (hc.2.2.2.2.2.2.2.1.trans hr) (fun t ht hW => ⟨⟨none, M, rfl, hq, by rw [ht]; exact hP, va_K.moved hW.alike hc.2.2.2.2.2.1⟩, hS.F ht⟩) hS.2.2 hd hc.2.2.2.2.2.2.2.2.1
theorem za_iald {k n : Nat} {i : Int32} (hc : zCx X l md rm) (ha : zar k 1 n) (hd : decode md.2.1 pc = .ok (.iaload, 1)) (hin : vp_in i n) (kk : zW X Q u (pc + 1) L (.int (zI M k i.toNatClampNeg) :: S) M) : zW X Q u pc L (.int i :: .ref k :: S) M := fun ls H locs hl hP hS => va_iald hc.1 hc.2.1 hc.2.2.2.2.2.1 hP k 0 (by rw [zwd_get ha.1, zent_1 ha.2]) rfl hin hd (kk ls H locs hl hP hS)
theorem za_lald {k n : Nat} {i : Int32} (hc : zCx X l md rm) (ha : zar k 2 n) (hd : decode md.2.1 pc = .ok (.laload, 1)) (hin : vp_in i n) (kk : zW X Q u (pc + 1) L (.long (zJ M k i.toNatClampNeg) :: S) M) : zW X Q u pc L (.int i :: .ref k :: S) M := fun ls H locs hl hP hS => va_lald hc.1 hc.2.1 hc.2.2.2.2.2.1 hP k 1 (by rw [zwd_get ha.1, zent_2 ha.2]) rfl hin hd (kk ls H locs hl hP hS)
theorem za_zald {k n : Nat} {i : Int32} (hc : zCx X l md rm) (ha : zar k 3 n) (hd : decode md.2.1 pc = .ok (.baload, 1)) (hin : vp_in i n) (kk : zW X Q u (pc + 1) L (.int (zI M k i.toNatClampNeg) :: S) M) : zW X Q u pc L (.int i :: .ref k :: S) M := fun ls H locs hl hP hS => va_zald hc.1 hc.2.1 hc.2.2.2.2.2.1 hP k 2 (by rw [zwd_get ha.1, zent_3 ha.2]) rfl hin hd (kk ls H locs hl hP hS)
theorem za_aald {k n : Nat} {i : Int32} (hc : zCx X l md rm) (ha : zar k 4 n) (hd : decode md.2.1 pc = .ok (.aaload, 1)) (hin : vp_in i n) (kk : zW X Q u (pc + 1) L (.ref (zel k i.toNatClampNeg) :: S) M) : zW X Q u pc L (.int i :: .ref k :: S) M := fun ls H locs hl hP hS => va_aldq (f := fun j => some (zad X (zel k j))) hc.1 hc.2.1 hc.2.2.2.2.2.1 hP k 3 (by rw [zwd_get ha.1, zent_4 ha.2]) rfl hin hd (kk ls H locs hl hP hS)
theorem zent_rI {ca : zK4} {ad : Nat → Nat} {M : zM} {k i : Nat} {f : Nat → Int32} (h : i ≠ k) : zent ca ad (zrI M k f) i = zent ca ad M i := zent_eq (by rw [zI_rI, if_neg h]) rfl rfl
theorem zent_rJ {ca : zK4} {ad : Nat → Nat} {M : zM} {k i : Nat} {f : Nat → Int64} (h : i ≠ k) : zent ca ad (zrJ M k f) i = zent ca ad M i := zent_eq rfl (by rw [zJ_rJ, if_neg h]) rfl
theorem zent_rR {ca : zK4} {ad : Nat → Nat} {M : zM} {k i : Nat} {f : Nat → Nat} (h : i ≠ k) : zent ca ad (zrR M k f) i = zent ca ad M i := zent_eq rfl rfl (by rw [zR_rR, if_neg h])
theorem za_iast {k n : Nat} {i : Int32} {x : Int32} (hc : zCx X l md rm) (ha : zar k 1 n) (hd : decode md.2.1 pc = .ok (.iastore, 1)) (hin : vp_in i n) (kk : zW X Q u (pc + 1) L S (zsI M k i.toNatClampNeg x)) : zW X Q u pc L (.int x :: .int i :: .ref k :: S) M := by
  intro ls H locs hl hP hS
  refine va_iast hc.1 hc.2.1 hc.2.2.2.2.2.1 hP (zwd_D hc.2.2.2.2.2.2.1) hS k 0 (by rw [zwd_get ha.1, zent_1 ha.2]) rfl hin hd (fun H1 locs1 hP1 _ hS1 => kk ls H1 locs1 hl ?_ hS1)
  have e : zI (zsI M k i.toNatClampNeg x) k = upd (zI M k) i.toNatClampNeg x := by unfold zsI; rw [zI_rI, if_pos rfl]
  rw [← zwd_set (M := M) (M' := zsI M k i.toNatClampNeg x) ha.1 (zent_1 ha.2) (fun i h => zent_rI h), e]
  exact hP1
theorem za_last {k n : Nat} {i : Int32} {x : Int64} (hc : zCx X l md rm) (ha : zar k 2 n) (hd : decode md.2.1 pc = .ok (.lastore, 1)) (hin : vp_in i n) (kk : zW X Q u (pc + 1) L S (zsJ M k i.toNatClampNeg x)) : zW X Q u pc L (.long x :: .int i :: .ref k :: S) M := by
  intro ls H locs hl hP hS
  refine va_last hc.1 hc.2.1 hc.2.2.2.2.2.1 hP (zwd_D hc.2.2.2.2.2.2.1) hS k 1 (by rw [zwd_get ha.1, zent_2 ha.2]) rfl hin hd (fun H1 locs1 hP1 _ hS1 => kk ls H1 locs1 hl ?_ hS1)
  have e : zJ (zsJ M k i.toNatClampNeg x) k = vp_updL (zJ M k) i.toNatClampNeg x := by unfold zsJ; rw [zJ_rJ, if_pos rfl]
  rw [← zwd_set (M := M) (M' := zsJ M k i.toNatClampNeg x) ha.1 (zent_2 ha.2) (fun i h => zent_rJ h), e]
  exact hP1
theorem za_zast {k n : Nat} {i : Int32} {x : Int32} (hc : zCx X l md rm) (ha : zar k 3 n) (hd : decode md.2.1 pc = .ok (.bastore, 1)) (hin : vp_in i n) (kk : zW X Q u (pc + 1) L S (zsI M k i.toNatClampNeg (vp_nar .boolean x))) : zW X Q u pc L (.int x :: .int i :: .ref k :: S) M := by
  intro ls H locs hl hP hS
  refine va_zast hc.1 hc.2.1 hc.2.2.2.2.2.1 hP (zwd_D hc.2.2.2.2.2.2.1) hS k 2 (by rw [zwd_get ha.1, zent_3 ha.2]) rfl hin hd (fun H1 locs1 hP1 _ hS1 => kk ls H1 locs1 hl ?_ hS1)
  have e : zI (zsI M k i.toNatClampNeg (vp_nar .boolean x)) k = upd (zI M k) i.toNatClampNeg (vp_nar .boolean x) := by unfold zsI; rw [zI_rI, if_pos rfl]
  rw [← zwd_set (M := M) (M' := zsI M k i.toNatClampNeg (vp_nar .boolean x)) ha.1 (zent_3 ha.2) (fun i h => zent_rI h), e]
  exact hP1
/-- a field of class number ci, its slot j, of kind t, as entry idx of own's pool names it -/
def zFld (own : String) (idx : Nat) (ci j t : Nat) : Prop := ∃ (C : String) (T : u_T) (N : Nat), vwCl[ci]? = some (C, T, N) ∧ j < N ∧ (ztyl ci)[j]? = some t ∧ (∀ w ∈ u_ws C T N, w ∈ zWS) ∧ Cond.fieldLink own idx C (T j).2.1 (T j).2.2.1 ∈ zWS ∧ (T j).1 = C
/-- .. one that may be written: of this type -/
def zPut (own : String) (idx : Nat) (ci j t : Nat) (ty : FieldType) : Prop := ∃ (C : String) (T : u_T) (N : Nat) (ty0 : Nat → FieldType), vwCl[ci]? = some (C, T, N) ∧ j < N ∧ (ztyl ci)[j]? = some t ∧ (∀ w ∈ u_ws C T N, w ∈ zWS) ∧ Cond.fieldLink own idx C (T j).2.1 (T j).2.2.1 ∈ zWS ∧ (T j).1 = C ∧
  (∀ k, k < N → parseFieldDescriptor (T k).2.2.1 = some (ty0 k)) ∧ (∀ a, a < N → ∀ b, b < N → a ≠ b → (T a).2.1 ≠ (T b).2.1) ∧ (T j).2.2.2 = false ∧ parseFieldDescriptor (T j).2.2.1 = some ty
theorem za_get {k ci j t idx : Nat} (hc : zCx X l md rm) (hf : zFld md.1.cls idx ci j t) (ho : zob k ci) (hd : decode md.2.1 pc = .ok (.getfield idx, 3)) (kk : zW X Q u (pc + 3) L (zpv M k t j :: S) M) : zW X Q u pc L (.ref k :: S) M := by
  intro ls H locs hl hP hS
  obtain ⟨C, T, N, h1, h2, h3, h4, h5, h6⟩ := hf
  exact va_get hc.1 hc.2.1 hc.2.2.2.2.1 (fun w h => List.mem_cons_of_mem _ (h4 w h)) hc.2.2.2.1 hc.2.2.2.2.2.1 hP k (by rw [zwd_get ho.1, zent_0 ho.2]) h1 j h2 (hc.w h5) (fun x hx => by rw [h6] at hx; exact hx) (zfs_get h3) hd (kk ls H locs hl hP hS)
theorem za_put0 {k ci j t idx : Nat} {v : Value} {ty : FieldType} {M' : zM} (hc : zCx X l md rm) (hf : zPut md.1.cls idx ci j t ty) (ho : zob k ci) (hd : decode md.2.1 pc = .ok (.putfield idx, 3)) (hn : ∀ ad, narrow ty (zcv ad v) = zcv ad v) (hft : ∀ ad, fits ty (zcv ad v) = true) (hv : zpv M' k t j = v) (hi : ∀ i t', i ≠ j → zpv M' k t' i = zpv M k t' i) (hx : ∀ ca ad i, i ≠ k → zent ca ad M' i = zent ca ad M i)
    (kk : zW X Q u (pc + 3) L S M') : zW X Q u pc L (v :: .ref k :: S) M := by
  intro ls H locs hl hP hS
  obtain ⟨C, T, N, ty0, h1, h2, h3, h4, h5, h6, h7, h8, h9, h10⟩ := hf
  refine va_put hc.1 hc.2.1 hc.2.2.2.2.1 (fun w h => List.mem_cons_of_mem _ (h4 w h)) ty0 h7 h8 hc.2.2.2.1 hc.2.2.2.2.2.1 hP (zwd_D hc.2.2.2.2.2.2.1) hS k (by rw [zwd_get ho.1, zent_0 ho.2]) h1 j h2 (hc.w h5) (fun x hx => by rw [h6] at hx; exact hx) h9 h10 (hn _) (hft _) (by rw [zfs_len]; exact (List.getElem?_eq_some_iff.mp h3).1) hd (fun H1 locs1 hP1 _ hS1 => kk ls H1 locs1 hl ?_ hS1)
  rw [← zwd_set (M := M) ho.1 (zent_0 ho.2) (fun i h => hx _ _ i h), zfs_set (M := M) h3 (by rw [hv]) hi]
  exact hP1
theorem zpv_sI {M : zM} {k j i t : Nat} {v : Int32} (h : i ≠ j) : zpv (zsI M k j v) k t i = zpv M k t i := by
  unfold zpv
  rw [zI_sI, if_pos rfl, if_neg h, zJ_sI, zR_sI]
theorem zpv_sJ {M : zM} {k j i t : Nat} {v : Int64} (h : i ≠ j) : zpv (zsJ M k j v) k t i = zpv M k t i := by
  unfold zpv
  rw [zJ_sJ, if_pos rfl, if_neg h, zI_sJ, zR_sJ]
theorem zpv_sR {M : zM} {k j i t : Nat} {v : Nat} (h : i ≠ j) : zpv (zsR M k j v) k t i = zpv M k t i := by
  unfold zpv
  rw [zR_sR, if_pos rfl, if_neg h, zI_sR, zJ_sR]
theorem za_putI {k ci j idx : Nat} {v : Int32} (hc : zCx X l md rm) (hf : zPut md.1.cls idx ci j 0 .int) (ho : zob k ci) (hd : decode md.2.1 pc = .ok (.putfield idx, 3)) (kk : zW X Q u (pc + 3) L S (zsI M k j v)) : zW X Q u pc L (.int v :: .ref k :: S) M :=
  za_put0 (v := .int v) hc hf ho hd (fun _ => rfl) (fun _ => rfl) (by show Value.int _ = _; rw [zI_sI, if_pos rfl, if_pos rfl]) (fun i t' h => zpv_sI h) (fun ca ad i h => zent_rI h) kk
theorem za_putZ {k ci j idx : Nat} {v : Int32} (hc : zCx X l md rm) (hf : zPut md.1.cls idx ci j 0 .boolean) (ho : zob k ci) (hv : narrow .boolean (.int v) = .int v ∧ fits .boolean (.int v) = true) (hd : decode md.2.1 pc = .ok (.putfield idx, 3)) (kk : zW X Q u (pc + 3) L S (zsI M k j v)) : zW X Q u pc L (.int v :: .ref k :: S) M :=
  za_put0 (v := .int v) hc hf ho hd (fun _ => hv.1) (fun _ => hv.2) (by show Value.int _ = _; rw [zI_sI, if_pos rfl, if_pos rfl]) (fun i t' h => zpv_sI h) (fun ca ad i h => zent_rI h) kk
theorem za_putJ {k ci j idx : Nat} {v : Int64} (hc : zCx X l md rm) (hf : zPut md.1.cls idx ci j 1 .long) (ho : zob k ci) (hd : decode md.2.1 pc = .ok (.putfield idx, 3)) (kk : zW X Q u (pc + 3) L S (zsJ M k j v)) : zW X Q u pc L (.long v :: .ref k :: S) M :=
  za_put0 (v := .long v) hc hf ho hd (fun _ => rfl) (fun _ => rfl) (by show Value.long _ = _; rw [zJ_sJ, if_pos rfl, if_pos rfl]) (fun i t' h => zpv_sJ h) (fun ca ad i h => zent_rJ h) kk
theorem za_putR {k ci j idx v : Nat} {C : String} (hc : zCx X l md rm) (hf : zPut md.1.cls idx ci j 2 (.object C)) (ho : zob k ci) (hd : decode md.2.1 pc = .ok (.putfield idx, 3)) (kk : zW X Q u (pc + 3) L S (zsR M k j v)) : zW X Q u pc L (.ref v :: .ref k :: S) M :=
  za_put0 (v := .ref v) hc hf ho hd (fun _ => rfl) (fun _ => rfl) (by show Value.ref _ = _; rw [zR_sR, if_pos rfl, if_pos rfl]) (fun i t' h => zpv_sR h) (fun ca ad i h => zent_rR h) kk
end ZR
