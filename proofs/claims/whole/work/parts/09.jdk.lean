/-! Math.abs of a long, System.arraycopy of ints. -/
theorem jmK_191 : Cond.methodLink RK 191 Lib.MathLoose.abs_long.x ∈ zWS := zin 270 (by decide +kernel) (by decide +kernel)
theorem ksAbs : Cond.static Lib.MathLoose.abs_long.x ∈ zWS := zin 271 (by decide +kernel) (by decide +kernel)
theorem kiAbs : Cond.initialized "java/lang/Math" ∈ zWS := zin 13 (by decide +kernel) (by decide +kernel)
theorem kcAbs : Cond.code Lib.MathLoose.abs_long.x Lib.MathLoose.abs_long.code 2 (some .long) ∈ zWS := zin 272 rfl rfl
theorem jmR_22 : Cond.methodLink RR 22 arraycopyName ∈ zWS := zin 448 (by decide +kernel) (by decide +kernel)
theorem ksCpy : Cond.static arraycopyName ∈ zWS := zin 449 (by decide +kernel) (by decide +kernel)
theorem knCpy : Cond.native arraycopyName ∈ zWS := zin 450 (by decide +kernel) (by decide +kernel)
theorem kiCpy : Cond.initialized "java/lang/System" ∈ zWS := zin 15 (by decide +kernel) (by decide +kernel)
section ZJD
variable {X : zC} {l : Launch} {md : zMd} {rm : Room} {Q : Option Value → zM → Prop} {u : Nat × Nat} {pc : Nat} {L : List (Nat × Value)} {S : List Value} {M : zM}
theorem zcat (ad : Nat → Nat) (S : List Value) : ((S.map (zcv ad)).map fun v => v.category).sum = (S.map fun v => v.category).sum := by
  rw [List.map_map]
  congr 1
  exact List.map_congr_left (fun v _ => zcv_cat ad v)
theorem za_absl {idx : Nat} {x : Int64} (hc : zCx X l md rm) (hl : Cond.methodLink md.1.cls idx Lib.MathLoose.abs_long.x ∈ zWS) (hrm : 1 ≤ rm.frames ∧ (S.map fun v => v.category).sum + 13 ≤ rm.locals) (hu : u.1 ≤ rm.cells ∧ u.2 ≤ rm.slots) (hd : decode md.2.1 pc = .ok (.invokestatic idx, 3)) (kk : zW X Q u (pc + 3) L (.long (if 0 < x then x else -x) :: S) M) : zW X Q u pc L (.long x :: S) M := by
  intro ls H locs hls hP hS
  have hR := hc.2.2.2.2.2.2.2.2.2.1
  exact va_mabs_long (rest := S.map (zcv (zad X))) hc.1 hc.2.1 hls.1.symm hc.2.2.2.1 (hc.w hl) (hc.w ksAbs) (hc.w kiAbs) (hc.w kcAbs) (by rw [hR]; exact hrm.1) (by rw [hR, zcat]; exact hrm.2) (by rw [hR]; exact hu.1) (by rw [hR]; exact hu.2) hd (kk ls H locs hls hP hS)
theorem za_copyi {idx k k' n n' : Nat} {sp dp c : Int32} (hc : zCx X l md rm) (hl : Cond.methodLink md.1.cls idx arraycopyName ∈ zWS) (ha : zar k 1 n) (ha' : zar k' 1 n') (h1 : ¬ sp < 0) (h2 : ¬ dp < 0) (h3 : ¬ c < 0) (h4 : sp.toNatClampNeg + c.toNatClampNeg ≤ n) (h5 : dp.toNatClampNeg + c.toNatClampNeg ≤ n') (hrm : 1 ≤ rm.frames ∧ (S.map fun v => v.category).sum + (nativeFrameWords "java/lang/System" "arraycopy" 5 + 11) ≤ rm.locals) (hd : decode md.2.1 pc = .ok (.invokestatic idx, 3)) (kk : zW X Q u (pc + 3) L S (zrI M k' (va_cpy (zI M k) (zI M k') sp.toNatClampNeg dp.toNatClampNeg c.toNatClampNeg))) : zW X Q u pc L (.int c :: .int dp :: .ref k' :: .int sp :: .ref k :: S) M := by
  intro ls H locs hls hP hS
  have hR := hc.2.2.2.2.2.2.2.2.2.1
  refine va_copyi (rest := S.map (zcv (zad X))) hc.1 hc.2.1 hls.1.symm hc.2.2.2.1 (hc.w hl) (hc.w knCpy) (hc.w ksCpy) (hc.w kiCpy) hc.2.2.2.2.2.1 hP (zwd_D hc.2.2.2.2.2.2.1) hS k k' 0 0 (ty := .int) (by rw [zwd_get ha.1, zent_1 ha.2]) (by rw [zwd_get ha'.1, zent_1 ha'.2]) rfl rfl rfl h1 h2 h3 h4 h5 (fun i _ => rfl) (by rw [hR]; exact hrm.1) (by rw [hR, zcat]; exact hrm.2) hd (fun H1 locs1 hP1 _ hS1 => kk ls H1 locs1 hls ?_ hS1)
  have e : zI (zrI M k' (va_cpy (zI M k) (zI M k') sp.toNatClampNeg dp.toNatClampNeg c.toNatClampNeg)) k' = va_cpy (zI M k) (zI M k') sp.toNatClampNeg dp.toNatClampNeg c.toNatClampNeg := by rw [zI_rI, if_pos rfl]
  rw [← zwd_set (M := M) (M' := zrI M k' (va_cpy (zI M k) (zI M k') sp.toNatClampNeg dp.toNatClampNeg c.toNatClampNeg)) ha'.1 (zent_1 ha'.2) (fun i h => zent_rI h), e]
  exact hP1
end ZJD
