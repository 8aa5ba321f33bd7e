/-! Rows of members: their order, the one that says most, the normal form. -/
def gklt (p q : gC) : Prop := p.1 < q.1 ∨ (p.1 = q.1 ∧ p.2.1 < q.2.1)
def gkeq (p q : gC) : Prop := p.1 = q.1 ∧ p.2.1 = q.2.1
theorem gk_tri (p q : gC) : gklt p q ∨ gkeq p q ∨ gklt q p := by unfold gklt gkeq; omega
theorem gklt_asym {p q : gC} (h : gklt p q) : ¬ gklt q p := by unfold gklt at *; omega
theorem gklt_irr {p : gC} : ¬ gklt p p := by unfold gklt; omega
theorem gklt_trans {p q r : gC} (h : gklt p q) (h' : gklt q r) : gklt p r := by unfold gklt at *; omega
theorem gklt_ne {p q : gC} (h : gklt p q) : ¬ gkeq p q := by unfold gklt gkeq at *; omega
theorem g_uniq : ∀ (l l' : List gC), l.Pairwise gklt → l'.Pairwise gklt → (∀ q, q ∈ l ↔ q ∈ l') → l = l' := by
  intro l
  induction l with
  | nil =>
    intro l' _ _ h
    cases l' with
    | nil => rfl
    | cons b t => exact absurd ((h b).mpr List.mem_cons_self) List.not_mem_nil
  | cons a t ih =>
    intro l' hp hp' h
    cases l' with
    | nil => exact absurd ((h a).mp List.mem_cons_self) List.not_mem_nil
    | cons b t' =>
      obtain ⟨h1, h2⟩ := List.pairwise_cons.mp hp
      obtain ⟨h3, h4⟩ := List.pairwise_cons.mp hp'
      have hab : a = b := by
        rcases List.mem_cons.mp ((h a).mp List.mem_cons_self) with e | e
        · exact e
        · rcases List.mem_cons.mp ((h b).mpr List.mem_cons_self) with e' | e'
          · exact e'.symm
          · exact absurd (h3 a e) (gklt_asym (h1 b e'))
      subst hab
      have : t = t' := ih t' h2 h4 (fun q => by
        constructor
        · intro hq
          rcases List.mem_cons.mp ((h q).mp (List.mem_cons_of_mem _ hq)) with e | e
          · subst e; exact absurd (h1 q hq) gklt_irr
          · exact e
        · intro hq
          rcases List.mem_cons.mp ((h q).mpr (List.mem_cons_of_mem _ hq)) with e | e
          · subst e; exact absurd (h3 q hq) gklt_irr
          · exact e)
      rw [this]
/-- of those with its a and b it says most -/
def gBest (ms : List gC) (q : gC) : Prop := (∃ m ∈ ms, gkeq m q ∧ m.2.2.1 = q.2.2.1) ∧ (∀ m ∈ ms, gkeq m q → q.2.2.1 ≤ m.2.2.1) ∧ (q.2.2.2 = true ↔ ∃ m ∈ ms, gkeq m q ∧ m.2.2.1 = q.2.2.1 ∧ m.2.2.2 = true)
/-- a normal form's list for some members: in order, each the best of its kind -/
def gCan (ms l : List gC) : Prop := l.Pairwise gklt ∧ ∀ q, q ∈ l ↔ gBest ms q
theorem gCan_uniq {ms l l' : List gC} (h : gCan ms l) (h' : gCan ms l') : l = l' := g_uniq l l' h.1 h'.1 (fun q => (h.2 q).trans (h'.2 q).symm)
theorem gCan_perm {ms ms' l : List gC} (hm : ∀ q, q ∈ ms ↔ q ∈ ms') (h : gCan ms l) : gCan ms' l := by
  refine ⟨h.1, fun q => (h.2 q).trans ?_⟩
  unfold gBest
  simp only [hm]
theorem gCan_nil : gCan [] [] := ⟨List.Pairwise.nil, fun q => ⟨fun h => (by cases h), fun h => (by obtain ⟨⟨m, hm, _⟩, _⟩ := h; cases hm)⟩⟩
theorem gCan_key {ms l : List gC} (h : gCan ms l) {m : gC} (hm : m ∈ ms) : ∃ q ∈ l, gkeq m q := by
  -- the best one of m's kind
  have key : ∀ (n : Nat) (m : gC), m ∈ ms → (∀ k : gC, k ∈ ms → gkeq k m → m.2.2.1 - n ≤ k.2.2.1) → ∃ q, gBest ms q ∧ gkeq m q := by
    intro n
    induction n with
    | zero =>
      intro m hm hlow
      by_cases hs : ∃ k ∈ ms, gkeq k m ∧ k.2.2.1 = m.2.2.1 ∧ k.2.2.2 = true
      · refine ⟨(m.1, m.2.1, m.2.2.1, true), ⟨⟨m, hm, ⟨rfl, rfl⟩, rfl⟩, fun k hk hkm => ?_, ?_⟩, rfl, rfl⟩
        · have := hlow k hk hkm; show m.2.2.1 ≤ _; omega
        · exact ⟨fun _ => hs, fun _ => rfl⟩
      · refine ⟨(m.1, m.2.1, m.2.2.1, false), ⟨⟨m, hm, ⟨rfl, rfl⟩, rfl⟩, fun k hk hkm => ?_, ?_⟩, rfl, rfl⟩
        · have := hlow k hk hkm; show m.2.2.1 ≤ _; omega
        · exact ⟨fun z => (by cases z), fun z => absurd z hs⟩
    | succ n ih =>
      intro m hm hlow
      by_cases hx : ∃ k ∈ ms, gkeq k m ∧ k.2.2.1 < m.2.2.1
      · obtain ⟨k, hk, hkm, hlt⟩ := hx
        obtain ⟨q, hq, hqk⟩ := ih k hk (fun k' hk' hkk => by
          have := hlow k' hk' ⟨hkk.1.trans hkm.1, hkk.2.trans hkm.2⟩
          omega)
        exact ⟨q, hq, hkm.1.symm.trans hqk.1, hkm.2.symm.trans hqk.2⟩
      · exact ih m hm (fun k hk hkm => by
          have : ¬ k.2.2.1 < m.2.2.1 := fun z => hx ⟨k, hk, hkm, z⟩
          omega)
  have hbound : ∃ n : Nat, ∀ k : gC, k ∈ ms → gkeq k m → m.2.2.1 - n ≤ k.2.2.1 := by
    clear key h hm
    induction ms with
    | nil => exact ⟨0, fun k hk => by cases hk⟩
    | cons a t ih =>
      obtain ⟨n, hn⟩ := ih
      refine ⟨n + (m.2.2.1 - a.2.2.1).toNat, fun k hk hkm => ?_⟩
      rcases List.mem_cons.mp hk with e | e
      · subst e; omega
      · have := hn k e hkm; omega
  obtain ⟨n, hn⟩ := hbound
  obtain ⟨q, hq, hmq⟩ := key n m hm hn
  exact ⟨q, (h.2 q).mpr hq, hmq⟩
/-- one member more, as the class lays it in -/
def gstr (q m : gC) : gC := if m.2.2.1 < q.2.2.1 then (q.1, q.2.1, m.2.2.1, m.2.2.2) else if m.2.2.1 = q.2.2.1 ∧ m.2.2.2 = true then (q.1, q.2.1, q.2.2.1, true) else q
def gins : List gC → gC → List gC
  | [], m => [m]
  | q :: l, m => if q.1 < m.1 ∨ (q.1 = m.1 ∧ q.2.1 < m.2.1) then q :: gins l m else if q.1 = m.1 ∧ q.2.1 = m.2.1 then gstr q m :: l else m :: q :: l
theorem gstr_key (q m : gC) : (gstr q m).1 = q.1 ∧ (gstr q m).2.1 = q.2.1 := by unfold gstr; split; exact ⟨rfl, rfl⟩; split; exact ⟨rfl, rfl⟩; exact ⟨rfl, rfl⟩
theorem gins_mem {m : gC} : ∀ {l : List gC}, l.Pairwise gklt → ∀ q, q ∈ gins l m ↔ (q ∈ l ∧ ¬ gkeq q m) ∨ (∃ p ∈ l, gkeq p m ∧ q = gstr p m) ∨ ((∀ p ∈ l, ¬ gkeq p m) ∧ q = m) := by
  intro l
  induction l with
  | nil =>
    intro _ q
    constructor
    · intro h; exact Or.inr (Or.inr ⟨fun p hp => (by cases hp), List.mem_singleton.mp h⟩)
    · rintro (⟨h, _⟩ | ⟨p, hp, _⟩ | ⟨_, h⟩)
      · cases h
      · cases hp
      · exact List.mem_singleton.mpr h
  | cons a t ih =>
    intro hp q
    obtain ⟨h1, h2⟩ := List.pairwise_cons.mp hp
    have ih := ih h2 q
    show q ∈ (if a.1 < m.1 ∨ (a.1 = m.1 ∧ a.2.1 < m.2.1) then a :: gins t m else if a.1 = m.1 ∧ a.2.1 = m.2.1 then gstr a m :: t else m :: a :: t) ↔ _
    by_cases c1 : gklt a m
    · rw [if_pos (show a.1 < m.1 ∨ (a.1 = m.1 ∧ a.2.1 < m.2.1) from c1)]
      have hna : ¬ gkeq a m := gklt_ne c1
      constructor
      · intro h
        rcases List.mem_cons.mp h with e | e
        · exact Or.inl ⟨by rw [e]; exact List.mem_cons_self, by rw [e]; exact hna⟩
        · rcases ih.mp e with ⟨e1, e2⟩ | ⟨p, e1, e2, e3⟩ | ⟨e1, e2⟩
          · exact Or.inl ⟨List.mem_cons_of_mem _ e1, e2⟩
          · exact Or.inr (Or.inl ⟨p, List.mem_cons_of_mem _ e1, e2, e3⟩)
          · refine Or.inr (Or.inr ⟨fun p hp => ?_, e2⟩)
            rcases List.mem_cons.mp hp with z | z
            · rw [z]; exact hna
            · exact e1 p z
      · rintro (⟨e1, e2⟩ | ⟨p, e1, e2, e3⟩ | ⟨e1, e2⟩)
        · rcases List.mem_cons.mp e1 with z | z
          · rw [z]; exact List.mem_cons_self
          · exact List.mem_cons_of_mem _ (ih.mpr (Or.inl ⟨z, e2⟩))
        · rcases List.mem_cons.mp e1 with z | z
          · rw [z] at e2; exact absurd e2 hna
          · exact List.mem_cons_of_mem _ (ih.mpr (Or.inr (Or.inl ⟨p, z, e2, e3⟩)))
        · exact List.mem_cons_of_mem _ (ih.mpr (Or.inr (Or.inr ⟨fun p hp => e1 p (List.mem_cons_of_mem _ hp), e2⟩)))
    · rw [if_neg (show ¬ (a.1 < m.1 ∨ (a.1 = m.1 ∧ a.2.1 < m.2.1)) from c1)]
      by_cases c2 : gkeq a m
      · rw [if_pos (show a.1 = m.1 ∧ a.2.1 = m.2.1 from c2)]
        have hnt : ∀ p ∈ t, ¬ gkeq p m := fun p hp h => by
          have := h1 p hp
          unfold gklt at this; unfold gkeq at h c2; omega
        constructor
        · intro h
          rcases List.mem_cons.mp h with e | e
          · exact Or.inr (Or.inl ⟨a, List.mem_cons_self, c2, e⟩)
          · exact Or.inl ⟨List.mem_cons_of_mem _ e, hnt q e⟩
        · rintro (⟨e1, e2⟩ | ⟨p, e1, e2, e3⟩ | ⟨e1, e2⟩)
          · rcases List.mem_cons.mp e1 with z | z
            · rw [z] at e2; exact absurd c2 e2
            · exact List.mem_cons_of_mem _ z
          · rcases List.mem_cons.mp e1 with z | z
            · rw [e3, z]; exact List.mem_cons_self
            · exact absurd e2 (hnt p z)
          · exact absurd c2 (e1 a List.mem_cons_self)
      · rw [if_neg (show ¬ (a.1 = m.1 ∧ a.2.1 = m.2.1) from c2)]
        have c3 : gklt m a := by rcases gk_tri a m with h | h | h; exact absurd h c1; exact absurd h c2; exact h
        have hn : ∀ p ∈ a :: t, ¬ gkeq p m := fun p hp h => by
          rcases List.mem_cons.mp hp with z | z
          · rw [z] at h; exact c2 h
          · have := gklt_trans c3 (h1 p z)
            unfold gklt at this; unfold gkeq at h; omega
        constructor
        · intro h
          rcases List.mem_cons.mp h with e | e
          · exact Or.inr (Or.inr ⟨hn, e⟩)
          · exact Or.inl ⟨e, hn q e⟩
        · rintro (⟨e1, e2⟩ | ⟨p, e1, e2, e3⟩ | ⟨e1, e2⟩)
          · exact List.mem_cons_of_mem _ e1
          · exact absurd e2 (hn p e1)
          · rw [e2]; exact List.mem_cons_self
theorem gins_key {m : gC} : ∀ {l : List gC} {q : gC}, q ∈ gins l m → gkeq q m ∨ q ∈ l := by
  intro l
  induction l with
  | nil => intro q h; rw [List.mem_singleton.mp h]; exact Or.inl ⟨rfl, rfl⟩
  | cons a t ih =>
    intro q h
    unfold gins at h
    split at h
    · rcases List.mem_cons.mp h with e | e
      · exact Or.inr (by rw [e]; exact List.mem_cons_self)
      · rcases ih e with z | z
        · exact Or.inl z
        · exact Or.inr (List.mem_cons_of_mem _ z)
    · split at h
      · rename_i h2
        rcases List.mem_cons.mp h with e | e
        · have := gstr_key a m
          exact Or.inl (by rw [e]; exact ⟨this.1.trans h2.1, this.2.trans h2.2⟩)
        · exact Or.inr (List.mem_cons_of_mem _ e)
      · rcases List.mem_cons.mp h with e | e
        · exact Or.inl (by rw [e]; exact ⟨rfl, rfl⟩)
        · exact Or.inr e
theorem gins_sorted {m : gC} : ∀ {l : List gC}, l.Pairwise gklt → (gins l m).Pairwise gklt := by
  intro l
  induction l with
  | nil => intro _; exact List.pairwise_singleton _ _
  | cons a t ih =>
    intro hp
    obtain ⟨h1, h2⟩ := List.pairwise_cons.mp hp
    unfold gins
    split
    · rename_i c
      refine List.pairwise_cons.mpr ⟨fun q hq => ?_, ih h2⟩
      rcases gins_key hq with z | z
      · unfold gklt; unfold gkeq at z; omega
      · exact h1 q z
    · rename_i c
      split
      · rename_i c2
        have hk := gstr_key a m
        refine List.pairwise_cons.mpr ⟨fun q hq => ?_, h2⟩
        have := h1 q hq
        unfold gklt at *; omega
      · rename_i c2
        refine List.pairwise_cons.mpr ⟨fun q hq => ?_, hp⟩
        rcases List.mem_cons.mp hq with z | z
        · rw [z]; unfold gklt; omega
        · have := h1 q z
          unfold gklt at *; omega
theorem gBest_uniq {ms : List gC} {q q' : gC} (h : gBest ms q) (h' : gBest ms q') (hk : gkeq q q') : q = q' := by
  obtain ⟨⟨m, hm, hmq, hmc⟩, hle, hs⟩ := h
  obtain ⟨⟨m', hm', hmq', hmc'⟩, hle', hs'⟩ := h'
  have c1 := hle m' hm' ⟨hmq'.1.trans hk.1.symm, hmq'.2.trans hk.2.symm⟩
  have c2 := hle' m hm ⟨hmq.1.trans hk.1, hmq.2.trans hk.2⟩
  have hc : q.2.2.1 = q'.2.2.1 := by omega
  have hb : q.2.2.2 = true ↔ q'.2.2.2 = true := by
    rw [hs, hs']
    constructor
    · rintro ⟨k, hk1, hk2, hk3, hk4⟩
      exact ⟨k, hk1, ⟨hk2.1.trans hk.1, hk2.2.trans hk.2⟩, hk3.trans hc, hk4⟩
    · rintro ⟨k, hk1, hk2, hk3, hk4⟩
      exact ⟨k, hk1, ⟨hk2.1.trans hk.1.symm, hk2.2.trans hk.2.symm⟩, hk3.trans hc.symm, hk4⟩
  have hb : q.2.2.2 = q'.2.2.2 := Bool.eq_iff_iff.mpr hb
  obtain ⟨a, b, c, s⟩ := q
  obtain ⟨a', b', c', s'⟩ := q'
  obtain ⟨e1, e2⟩ := hk
  simp only at e1 e2 hc hb
  rw [e1, e2, hc, hb]
theorem gBest_other {ms : List gC} {m q : gC} (hn : ¬ gkeq q m) : gBest (m :: ms) q ↔ gBest ms q := by
  have hn' : ¬ gkeq m q := fun h => hn ⟨h.1.symm, h.2.symm⟩
  unfold gBest
  constructor
  · rintro ⟨⟨k, hk, hkq, hkc⟩, hle, hs⟩
    refine ⟨⟨k, ?_, hkq, hkc⟩, fun k hk => hle k (List.mem_cons_of_mem _ hk), hs.trans ⟨?_, ?_⟩⟩
    · rcases List.mem_cons.mp hk with e | e
      · rw [e] at hkq; exact absurd hkq hn'
      · exact e
    · rintro ⟨k, hk, hkq, h⟩
      rcases List.mem_cons.mp hk with e | e
      · rw [e] at hkq; exact absurd hkq hn'
      · exact ⟨k, e, hkq, h⟩
    · rintro ⟨k, hk, h⟩; exact ⟨k, List.mem_cons_of_mem _ hk, h⟩
  · rintro ⟨⟨k, hk, hkq, hkc⟩, hle, hs⟩
    refine ⟨⟨k, List.mem_cons_of_mem _ hk, hkq, hkc⟩, fun k hk hkq => ?_, hs.trans ⟨?_, ?_⟩⟩
    · rcases List.mem_cons.mp hk with e | e
      · rw [e] at hkq; exact absurd hkq hn'
      · exact hle k e hkq
    · rintro ⟨k, hk, h⟩; exact ⟨k, List.mem_cons_of_mem _ hk, h⟩
    · rintro ⟨k, hk, hkq, h⟩
      rcases List.mem_cons.mp hk with e | e
      · rw [e] at hkq; exact absurd hkq hn'
      · exact ⟨k, e, hkq, h⟩
theorem gBest_gstr {ms : List gC} {p m : gC} (h : gBest ms p) (hk : gkeq p m) : gBest (m :: ms) (gstr p m) := by
  obtain ⟨⟨k, hk1, hk2, hk3⟩, hle, hs⟩ := h
  unfold gkeq at hk hk2
  unfold gstr
  split
  · rename_i c
    refine ⟨⟨m, List.mem_cons_self, ⟨hk.1.symm, hk.2.symm⟩, rfl⟩, fun k' hk' hkk => ?_, ?_⟩
    · rcases List.mem_cons.mp hk' with e | e
      · rw [e]; exact Int.le_refl _
      · have := hle k' e hkk; show m.2.2.1 ≤ _; omega
    · constructor
      · intro hb; exact ⟨m, List.mem_cons_self, ⟨hk.1.symm, hk.2.symm⟩, rfl, hb⟩
      · rintro ⟨k', hk', hkk, hkc, hb⟩
        rcases List.mem_cons.mp hk' with e | e
        · rw [e] at hb; exact hb
        · have := hle k' e hkk
          have hkc : k'.2.2.1 = m.2.2.1 := hkc
          omega
  · rename_i c
    split
    · rename_i c2
      refine ⟨⟨m, List.mem_cons_self, ⟨hk.1.symm, hk.2.symm⟩, c2.1⟩, fun k' hk' hkk => ?_, ?_⟩
      · rcases List.mem_cons.mp hk' with e | e
        · rw [e]; show p.2.2.1 ≤ _; omega
        · exact hle k' e hkk
      · exact ⟨fun _ => ⟨m, List.mem_cons_self, ⟨hk.1.symm, hk.2.symm⟩, c2.1, c2.2⟩, fun _ => rfl⟩
    · rename_i c2
      refine ⟨⟨k, List.mem_cons_of_mem _ hk1, hk2, hk3⟩, fun k' hk' hkk => ?_, hs.trans ⟨?_, ?_⟩⟩
      · rcases List.mem_cons.mp hk' with e | e
        · rw [e]; omega
        · exact hle k' e hkk
      · rintro ⟨k', hk', h⟩; exact ⟨k', List.mem_cons_of_mem _ hk', h⟩
      · rintro ⟨k', hk', hkk, hkc, hb⟩
        rcases List.mem_cons.mp hk' with e | e
        · rw [e] at hkc hb; exact absurd ⟨hkc, hb⟩ c2
        · exact ⟨k', e, hkk, hkc, hb⟩
theorem gCan_ins {ms l : List gC} {m : gC} (h : gCan ms l) : gCan (m :: ms) (gins l m) := by
  refine ⟨gins_sorted h.1, fun q => ?_⟩
  rw [gins_mem h.1]
  by_cases hq : gkeq q m
  · constructor
    · rintro (⟨_, e⟩ | ⟨p, e1, e2, e3⟩ | ⟨e1, e2⟩)
      · exact absurd hq e
      · rw [e3]; exact gBest_gstr ((h.2 p).mp e1) e2
      · subst e2
        have hno : ∀ k ∈ ms, ¬ gkeq k q := fun k hk hkq => by
          obtain ⟨p, hp, hkp⟩ := gCan_key h hk
          exact e1 p hp ⟨hkp.1.symm.trans hkq.1, hkp.2.symm.trans hkq.2⟩
        refine ⟨⟨q, List.mem_cons_self, ⟨rfl, rfl⟩, rfl⟩, fun k hk hkq => ?_, ⟨fun hb => ⟨q, List.mem_cons_self, ⟨rfl, rfl⟩, rfl, hb⟩, ?_⟩⟩
        · rcases List.mem_cons.mp hk with e | e
          · rw [e]; exact Int.le_refl _
          · exact absurd hkq (hno k e)
        · rintro ⟨k, hk, hkq, _, hb⟩
          rcases List.mem_cons.mp hk with e | e
          · rw [e] at hb; exact hb
          · exact absurd hkq (hno k e)
    · intro hb
      by_cases hx : ∃ p ∈ l, gkeq p m
      · obtain ⟨p, hp, hpm⟩ := hx
        refine Or.inr (Or.inl ⟨p, hp, hpm, gBest_uniq hb (gBest_gstr ((h.2 p).mp hp) hpm) ?_⟩)
        have := gstr_key p m
        exact ⟨hq.1.trans (hpm.1.symm.trans this.1.symm), hq.2.trans (hpm.2.symm.trans this.2.symm)⟩
      · have e1 : ∀ p ∈ l, ¬ gkeq p m := fun p hp h => hx ⟨p, hp, h⟩
        refine Or.inr (Or.inr ⟨e1, ?_⟩)
        have hno : ∀ k ∈ ms, ¬ gkeq k m := fun k hk hkq => by
          obtain ⟨p, hp, hkp⟩ := gCan_key h hk
          exact e1 p hp ⟨hkp.1.symm.trans hkq.1, hkp.2.symm.trans hkq.2⟩
        have hm : gBest (m :: ms) m := by
          refine ⟨⟨m, List.mem_cons_self, ⟨rfl, rfl⟩, rfl⟩, fun k hk hkq => ?_, ⟨fun hb => ⟨m, List.mem_cons_self, ⟨rfl, rfl⟩, rfl, hb⟩, ?_⟩⟩
          · rcases List.mem_cons.mp hk with e | e
            · rw [e]; exact Int.le_refl _
            · exact absurd hkq (hno k e)
          · rintro ⟨k, hk, hkq, _, hb⟩
            rcases List.mem_cons.mp hk with e | e
            · rw [e] at hb; exact hb
            · exact absurd hkq (hno k e)
        exact gBest_uniq hb hm hq
  · rw [gBest_other hq, ← h.2 q]
    constructor
    · rintro (⟨e, _⟩ | ⟨p, e1, e2, e3⟩ | ⟨_, e2⟩)
      · exact e
      · have := gstr_key p m
        exact absurd (show gkeq q m from by rw [e3]; exact ⟨this.1.trans e2.1, this.2.trans e2.2⟩) hq
      · exact absurd (show gkeq q m from by rw [e2]; exact ⟨rfl, rfl⟩) hq
    · intro e; exact Or.inl ⟨e, hq⟩
