/-! The start: the desk, the reference and the array are made; then the loop. -/
def zM0 : zM := (fun _ _ => 0, fun _ _ => 0, fun k j => if k = 12 then (if j = 2 then 25 else 28) else 0)
theorem zV0 : zV zM0 0 [] (fun _ => []) := by
  have b0 : ∀ d, zbo zM0 d := fun d j => Or.inl rfl
  have s0 : ∀ p, sB zM0 p := fun p => ⟨fun e => ⟨by show -1073741824 ≤ (0 : Int64).toInt; decide, by show (0 : Int64).toInt ≤ 1073741824; decide⟩, fun e => ⟨by show 0 ≤ (0 : Int64).toInt; decide, by show (0 : Int64).toInt ≤ 1073741824; decide⟩, fun e => Or.inl rfl⟩
  have r0 : ∀ r, rH zM0 r [] := fun r => ⟨rfl, by decide, fun j row h => by cases h⟩
  have g0 : ∀ r, sH zM0 r [] := fun r => ⟨rfl, by decide, fun j row h => by cases h⟩
  have d0 : dH zM0 3 [] := ⟨rfl, by decide, (fun j q h => by cases h), b0 3⟩
  have c0 : cH zM0 [] := ⟨rfl, by decide, (fun j q h => by cases h), (fun q h => by cases h), fun j => Or.inl rfl⟩
  have f0 : sF [] zM0 zM0 := ⟨b0 76, b0 72, fun p => Or.inl rfl, ⟨Or.inl rfl, Or.inl rfl⟩, mK.rf, sK.rf, zfr.rf⟩
  have z0 : gGd [] := ⟨(fun row h => by cases h), fun row h => by cases h⟩
  exact ⟨⟨by decide, rfl, rfl, d0, s0 8, ⟨Or.inl ⟨rfl, rfl⟩, b0 13, s0 18⟩, ⟨Or.inl rfl, Or.inl rfl⟩, fun i _ => r0 _, fun i _ => r0 _⟩, ⟨by decide, rfl, c0, f0, fun i _ => g0 _, fun i _ => g0 _⟩, ⟨fun i _ => z0, fun i _ => z0⟩, Or.inl ⟨rfl, rfl, rfl⟩⟩
def zAd (u v : Nat → Nat) (q b : Nat) : Nat → Nat := fun k => ([u 0, u 1, u 2, u 3, u 4, u 5, u 6, u 7, u 8, u 9, u 10, u 11, u 12, u 13, u 14, u 15, u 16, u 17, u 18, u 19, u 20, u 21, u 22, u 23, u 24, u 25, u 26, u 27, u 28, u 29, u 30, u 31, u 32, u 33, u 34, u 35, u 36, u 37, u 38, u 39, u 40, u 41, u 42, u 43, u 44, u 45, u 46, u 47, u 48, u 49, u 50, u 51, u 52, u 53, u 54, u 55, u 56, u 57, u 58, u 59, u 60, u 61, v 0, v 1, v 2, v 3, v 4, v 5, v 6, v 7, v 8, v 9, v 10, v 11, v 12, v 13, v 14, v 15, v 16, v 17, v 18, q] : List Nat).getD k b
set_option maxHeartbeats 8000000 in
set_option maxRecDepth 100000 in
theorem zW0 (ca : zK4) (u v : Nat → Nat) (q b : Nat) : ((wwK ca u ++ wwM ca v ++ [(q, (Sum.inl (ca.2.1, 1, .inr (.inl (fun _ => 0))) : va_E))]).set 1 (u 1, .inl (ca.2.2.2, 6, .inr (.inr (.inr (.inr (fun j => some (zAd u v q b (zel 1 j))))))))).set 2 (u 2, .inl (ca.2.2.2, 4, .inr (.inr (.inr (.inr (fun j => some (zAd u v q b (zel 2 j)))))))) = zwd ca (zAd u v q b) zM0 := by
  show _ = (List.range 82).map _
  rw [show List.range 82 = [0, 1, 2, 3, 4, 5, 6, 7, 8, 9, 10, 11, 12, 13, 14, 15, 16, 17, 18, 19, 20, 21, 22, 23, 24, 25, 26, 27, 28, 29, 30, 31, 32, 33, 34, 35, 36, 37, 38, 39, 40, 41, 42, 43, 44, 45, 46, 47, 48, 49, 50, 51, 52, 53, 54, 55, 56, 57, 58, 59, 60, 61, 62, 63, 64, 65, 66, 67, 68, 69, 70, 71, 72, 73, 74, 75, 76, 77, 78, 79, 80, 81] from rfl]
  simp only [wwK, wwM, wwD, wwW, wwS, wwIn, wwR, List.cons_append, List.nil_append, List.map_cons, List.map_nil, List.set_cons_succ, List.set_cons_zero]
  rfl
theorem zKn0 {args : Array Value} {s : State} (hts : ∀ w ∈ zWS, w.before args s = true) (hao : va_AO zRegion s) : ∃ (D : va_G) (ca : zK4), va_K D vwCl (ztys ca) s := by
  obtain ⟨c0, i0, h0⟩ := u_known hts inD (hts _ (zin 28 (by decide +kernel) (by decide +kernel) : Cond.instantiable RD 6 ∈ zWS))
  obtain ⟨c1, i1, h1⟩ := u_known hts inI (hts _ (zin 109 (by decide +kernel) (by decide +kernel) : Cond.instantiable RI 6 ∈ zWS))
  obtain ⟨c2, i2, h2⟩ := u_known hts inR (hts _ (zin 79 (by decide +kernel) (by decide +kernel) : Cond.instantiable RR 3 ∈ zWS))
  obtain ⟨c3, i3, h3⟩ := u_known hts inS (hts _ (zin 34 (by decide +kernel) (by decide +kernel) : Cond.instantiable RS 3 ∈ zWS))
  obtain ⟨c4, i4, h4⟩ := u_known hts inW (hts _ (zin 71 (by decide +kernel) (by decide +kernel) : Cond.instantiable RW 4 ∈ zWS))
  obtain ⟨c5, i5, h5⟩ := u_known hts inK (hts _ (zin 18 (by decide +kernel) (by decide +kernel) : Cond.instantiable RK 7 ∈ zWS))
  obtain ⟨c6, i6, h6⟩ := u_known hts inM (hts _ (zin 672 (by decide +kernel) (by decide +kernel) : Cond.instantiable RM 44 ∈ zWS))
  obtain ⟨aI, kI, pI, x1, x2, x3⟩ := Cond.arrayClass_spec (hts _ acI)
  obtain ⟨aJ, kJ, pJ, y1, y2, y3⟩ := Cond.arrayClass_spec (hts _ acJ)
  obtain ⟨aZ, kZ, pZ, z1, z2, z3⟩ := Cond.arrayClass_spec (hts _ acZ)
  obtain ⟨pR, aR, kR, r1, -, r2, r3, r4⟩ := Cond.arrayOver_spec hao
  refine ⟨(fun c => [c0, c1, c2, c3, c4, c5, c6].getD c c0, fun c => [i0, i1, i2, i3, i4, i5, i6].getD c i0), (aI, aJ, aZ, aR), fun c q hq => ?_, fun k q hq => ?_⟩
  · match c, hq with
    | 0, hq => cases hq; exact h0
    | 1, hq => cases hq; exact h1
    | 2, hq => cases hq; exact h2
    | 3, hq => cases hq; exact h3
    | 4, hq => cases hq; exact h4
    | 5, hq => cases hq; exact h5
    | 6, hq => cases hq; exact h6
    | n + 7, hq => cases hq
  · match k, hq with
    | 0, hq => cases hq; exact ⟨fun N z => ⟨(fun k h => by cases h), kI, x2, pI, x3⟩, x1⟩
    | 1, hq => cases hq; exact ⟨fun N z => ⟨(fun k h => by cases h), kJ, y2, pJ, y3⟩, y1⟩
    | 2, hq => cases hq; exact ⟨fun N z => ⟨(fun k h => by cases h), kZ, z2, pZ, z3⟩, z1⟩
    | 3, hq => cases hq; exact ⟨fun N z => ⟨(fun k h => by cases h), kR, r2, pR, r3⟩, kR, pR, r2, r3, r1, r4⟩
    | n + 4, hq => cases hq
