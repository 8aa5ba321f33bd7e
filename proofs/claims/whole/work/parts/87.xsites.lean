/-! The throws of the class, as the tables have them. -/
theorem xa_46 : ∀ w ∈ (vx_atS RK 50 (zEx 0) zNm).filter goodWord, w ∈ zWS := by decide +kernel
theorem xb_46 : ∀ w ∈ (vx_atS RK 50 (zEx 0) zNm).filter (fun w => !goodWord w), w ∈ Cond.castable (zEx 0) (zEx 0) :: zDe.map Cond.declares := by decide +kernel
theorem xc_46 : ∀ w ∈ Cond.classLink RK 46 (zEx 0) :: Cond.initialized (zEx 0) :: vx_atS RK 50 (zEx 0) zNm, vx_ot w = true := by decide +kernel
theorem xtK_46_48 : zTs RK 46 48 50 0 "a number is not -10000 .. 10000" := ⟨rfl, by decide +kernel, zin 177 (by decide +kernel) (by decide +kernel), zin 11 (by decide +kernel) (by decide +kernel), by decide +kernel, xa_46, xb_46, xc_46, by decide +kernel⟩
theorem xtK_46_53 : zTs RK 46 53 50 0 "a and b are 0" := ⟨rfl, by decide +kernel, zin 177 (by decide +kernel) (by decide +kernel), zin 11 (by decide +kernel) (by decide +kernel), by decide +kernel, xa_46, xb_46, xc_46, by decide +kernel⟩
theorem xa_59 : ∀ w ∈ (vx_atS RK 63 (zEx 1) zNm).filter goodWord, w ∈ zWS := by decide +kernel
theorem xb_59 : ∀ w ∈ (vx_atS RK 63 (zEx 1) zNm).filter (fun w => !goodWord w), w ∈ Cond.castable (zEx 1) (zEx 1) :: zDe.map Cond.declares := by decide +kernel
theorem xc_59 : ∀ w ∈ Cond.classLink RK 59 (zEx 1) :: Cond.initialized (zEx 1) :: vx_atS RK 63 (zEx 1) zNm, vx_ot w = true := by decide +kernel
theorem xtK_59_61 : zTs RK 59 61 63 1 "twelve members are collected" := ⟨rfl, by decide +kernel, zin 247 (by decide +kernel) (by decide +kernel), zin 12 (by decide +kernel) (by decide +kernel), by decide +kernel, xa_59, xb_59, xc_59, by decide +kernel⟩
theorem xtK_46_109 : zTs RK 46 109 50 0 "no such column" := ⟨rfl, by decide +kernel, zin 177 (by decide +kernel) (by decide +kernel), zin 11 (by decide +kernel) (by decide +kernel), by decide +kernel, xa_46, xb_46, xc_46, by decide +kernel⟩
theorem xa_129 : ∀ w ∈ (vx_atS RK 133 (zEx 3) zNm).filter goodWord, w ∈ zWS := by decide +kernel
theorem xb_129 : ∀ w ∈ (vx_atS RK 133 (zEx 3) zNm).filter (fun w => !goodWord w), w ∈ Cond.castable (zEx 3) (zEx 3) :: zDe.map Cond.declares := by decide +kernel
theorem xc_129 : ∀ w ∈ Cond.classLink RK 129 (zEx 3) :: Cond.initialized (zEx 3) :: vx_atS RK 133 (zEx 3) zNm, vx_ot w = true := by decide +kernel
theorem xtK_129_131 : zTs RK 129 131 133 3 "no such member" := ⟨rfl, by decide +kernel, zin 549 (by decide +kernel) (by decide +kernel), zin 16 (by decide +kernel) (by decide +kernel), by decide +kernel, xa_129, xb_129, xc_129, by decide +kernel⟩
theorem xtK_46_148 : zTs RK 46 148 50 0 "no such what" := ⟨rfl, by decide +kernel, zin 177 (by decide +kernel) (by decide +kernel), zin 11 (by decide +kernel) (by decide +kernel), by decide +kernel, xa_46, xb_46, xc_46, by decide +kernel⟩
theorem xtK_46_150 : zTs RK 46 150 50 0 "p or q is not -10000 .. 10000" := ⟨rfl, by decide +kernel, zin 177 (by decide +kernel) (by decide +kernel), zin 11 (by decide +kernel) (by decide +kernel), by decide +kernel, xa_46, xb_46, xc_46, by decide +kernel⟩
theorem xtK_46_152 : zTs RK 46 152 50 0 "d is not 1 .. 1000" := ⟨rfl, by decide +kernel, zin 177 (by decide +kernel) (by decide +kernel), zin 11 (by decide +kernel) (by decide +kernel), by decide +kernel, xa_46, xb_46, xc_46, by decide +kernel⟩
theorem xtK_46_163 : zTs RK 46 163 50 0 "f or g is not -100 .. 100" := ⟨rfl, by decide +kernel, zin 177 (by decide +kernel) (by decide +kernel), zin 11 (by decide +kernel) (by decide +kernel), by decide +kernel, xa_46, xb_46, xc_46, by decide +kernel⟩
theorem xtK_46_169 : zTs RK 46 169 50 0 "no such part" := ⟨rfl, by decide +kernel, zin 177 (by decide +kernel) (by decide +kernel), zin 11 (by decide +kernel) (by decide +kernel), by decide +kernel, xa_46, xb_46, xc_46, by decide +kernel⟩
theorem xtK_59_178 : zTs RK 59 178 63 1 "six regions lie on the pile" := ⟨rfl, by decide +kernel, zin 247 (by decide +kernel) (by decide +kernel), zin 12 (by decide +kernel) (by decide +kernel), by decide +kernel, xa_59, xb_59, xc_59, by decide +kernel⟩
theorem xtK_59_180 : zTs RK 59 180 63 1 "too few regions lie on the pile" := ⟨rfl, by decide +kernel, zin 247 (by decide +kernel) (by decide +kernel), zin 12 (by decide +kernel) (by decide +kernel), by decide +kernel, xa_59, xb_59, xc_59, by decide +kernel⟩
theorem xtK_129_182 : zTs RK 129 182 133 3 "no such row" := ⟨rfl, by decide +kernel, zin 549 (by decide +kernel) (by decide +kernel), zin 16 (by decide +kernel) (by decide +kernel), by decide +kernel, xa_129, xb_129, xc_129, by decide +kernel⟩
theorem xtK_46_184 : zTs RK 46 184 50 0 "no such table" := ⟨rfl, by decide +kernel, zin 177 (by decide +kernel) (by decide +kernel), zin 11 (by decide +kernel) (by decide +kernel), by decide +kernel, xa_46, xb_46, xc_46, by decide +kernel⟩
theorem xa_186 : ∀ w ∈ (vx_atS RK 190 (zEx 2) zNm).filter goodWord, w ∈ zWS := by decide +kernel
theorem xb_186 : ∀ w ∈ (vx_atS RK 190 (zEx 2) zNm).filter (fun w => !goodWord w), w ∈ Cond.castable (zEx 2) (zEx 2) :: zDe.map Cond.declares := by decide +kernel
theorem xc_186 : ∀ w ∈ Cond.classLink RK 186 (zEx 2) :: Cond.initialized (zEx 2) :: vx_atS RK 190 (zEx 2) zNm, vx_ot w = true := by decide +kernel
theorem xtK_186_188 : zTs RK 186 188 190 2 "a limit is passed" := ⟨rfl, by decide +kernel, zin 424 (by decide +kernel) (by decide +kernel), zin 14 (by decide +kernel) (by decide +kernel), by decide +kernel, xa_186, xb_186, xc_186, by decide +kernel⟩
theorem dK_part_48 : decode cK_part 48 = .ok (.tableswitch 72 0 3 #[32, 40, 48, 56], 32) := by decide +kernel
