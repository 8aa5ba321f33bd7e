/-! The law's own methods: names, words, rows. -/
def RL : String := "RegionDeskLaw"
theorem clL_13 : Cond.classLink RL 13 (zEx 0) ∈ zWS := zin 167 (by decide +kernel) (by decide +kernel)
theorem clL_15 : Cond.classLink RL 15 (zEx 1) ∈ zWS := zin 168 (by decide +kernel) (by decide +kernel)
theorem clL_24 : Cond.classLink RL 24 (zEx 2) ∈ zWS := zin 391 (by decide +kernel) (by decide +kernel)
theorem clL_49 : Cond.classLink RL 49 (zEx 3) ∈ zWS := zin 540 (by decide +kernel) (by decide +kernel)
abbrev cL_member : ByteArray := method_3_code
def yL_member : MethodName := ⟨RL, "member", "(LRegionDesk;IIIZ[J)I"⟩
def mL_member : zMd := (yL_member, cL_member, 7, some .int)
def hL_member : List (Nat × Nat × Nat × Nat) := [(0, 14, 17, 13), (0, 14, 21, 15)]
set_option maxRecDepth 20000 in
theorem kL_member : Cond.codeWith yL_member cL_member 7 (some .int) hL_member ∈ zWS := zin 166 rfl rfl
def rL_member : Room := { frames := 7, cells := 3, slots := 18, locals := 114 }
theorem dL_member_0 : decode cL_member 0 = .ok (.aload 5, 2) := by decide +kernel
theorem dL_member_2 : decode cL_member 2 = .ok (.iconst 0, 1) := by decide +kernel
theorem dL_member_3 : decode cL_member 3 = .ok (.aload_n 0, 1) := by decide +kernel
theorem dL_member_4 : decode cL_member 4 = .ok (.iload_n 1, 1) := by decide +kernel
theorem dL_member_5 : decode cL_member 5 = .ok (.iload_n 2, 1) := by decide +kernel
theorem dL_member_6 : decode cL_member 6 = .ok (.iload_n 3, 1) := by decide +kernel
theorem dL_member_7 : decode cL_member 7 = .ok (.iload 4, 2) := by decide +kernel
theorem dL_member_9 : decode cL_member 9 = .ok (.invokevirtual 7, 3) := by decide +kernel
theorem dL_member_12 : decode cL_member 12 = .ok (.i2l, 1) := by decide +kernel
theorem dL_member_13 : decode cL_member 13 = .ok (.lastore, 1) := by decide +kernel
theorem dL_member_14 : decode cL_member 14 = .ok (.goto 11, 3) := by decide +kernel
theorem dL_member_17 : decode cL_member 17 = .ok (.astore 6, 2) := by decide +kernel
theorem dL_member_19 : decode cL_member 19 = .ok (.iconst 1, 1) := by decide +kernel
theorem dL_member_20 : decode cL_member 20 = .ok (.ireturn, 1) := by decide +kernel
theorem dL_member_21 : decode cL_member 21 = .ok (.astore 6, 2) := by decide +kernel
theorem dL_member_23 : decode cL_member 23 = .ok (.iconst 2, 1) := by decide +kernel
theorem dL_member_24 : decode cL_member 24 = .ok (.ireturn, 1) := by decide +kernel
theorem dL_member_25 : decode cL_member 25 = .ok (.iconst 0, 1) := by decide +kernel
theorem dL_member_26 : decode cL_member 26 = .ok (.ireturn, 1) := by decide +kernel
abbrev cL_row : ByteArray := method_4_code
def yL_row : MethodName := ⟨RL, "row", "(LRegionDesk;[J)I"⟩
def mL_row : zMd := (yL_row, cL_row, 3, some .int)
def hL_row : List (Nat × Nat × Nat × Nat) := [(0, 8, 11, 15)]
set_option maxRecDepth 20000 in
theorem kL_row : Cond.codeWith yL_row cL_row 3 (some .int) hL_row ∈ zWS := zin 287 rfl rfl
def rL_row : Room := { frames := 8, cells := 1, slots := 6, locals := 123 }
theorem dL_row_0 : decode cL_row 0 = .ok (.aload_n 1, 1) := by decide +kernel
theorem dL_row_1 : decode cL_row 1 = .ok (.iconst 0, 1) := by decide +kernel
theorem dL_row_2 : decode cL_row 2 = .ok (.aload_n 0, 1) := by decide +kernel
theorem dL_row_3 : decode cL_row 3 = .ok (.invokevirtual 17, 3) := by decide +kernel
theorem dL_row_6 : decode cL_row 6 = .ok (.i2l, 1) := by decide +kernel
theorem dL_row_7 : decode cL_row 7 = .ok (.lastore, 1) := by decide +kernel
theorem dL_row_8 : decode cL_row 8 = .ok (.goto 6, 3) := by decide +kernel
theorem dL_row_11 : decode cL_row 11 = .ok (.astore_n 2, 1) := by decide +kernel
theorem dL_row_12 : decode cL_row 12 = .ok (.iconst 1, 1) := by decide +kernel
theorem dL_row_13 : decode cL_row 13 = .ok (.ireturn, 1) := by decide +kernel
theorem dL_row_14 : decode cL_row 14 = .ok (.iconst 0, 1) := by decide +kernel
theorem dL_row_15 : decode cL_row 15 = .ok (.ireturn, 1) := by decide +kernel
abbrev cL_and : ByteArray := method_5_code
def yL_and : MethodName := ⟨RL, "and", "(LRegionDesk;)I"⟩
def mL_and : zMd := (yL_and, cL_and, 2, some .int)
def hL_and : List (Nat × Nat × Nat × Nat) := [(0, 4, 7, 15), (0, 4, 10, 24)]
set_option maxRecDepth 20000 in
theorem kL_and : Cond.codeWith yL_and cL_and 2 (some .int) hL_and ∈ zWS := zin 390 rfl rfl
def rL_and : Room := { frames := 8, cells := 2, slots := 12, locals := 121 }
theorem dL_and_0 : decode cL_and 0 = .ok (.aload_n 0, 1) := by decide +kernel
theorem dL_and_1 : decode cL_and 1 = .ok (.invokevirtual 21, 3) := by decide +kernel
theorem dL_and_4 : decode cL_and 4 = .ok (.goto 9, 3) := by decide +kernel
theorem dL_and_7 : decode cL_and 7 = .ok (.astore_n 1, 1) := by decide +kernel
theorem dL_and_8 : decode cL_and 8 = .ok (.iconst 1, 1) := by decide +kernel
theorem dL_and_9 : decode cL_and 9 = .ok (.ireturn, 1) := by decide +kernel
theorem dL_and_10 : decode cL_and 10 = .ok (.astore_n 1, 1) := by decide +kernel
theorem dL_and_11 : decode cL_and 11 = .ok (.iconst 2, 1) := by decide +kernel
theorem dL_and_12 : decode cL_and 12 = .ok (.ireturn, 1) := by decide +kernel
theorem dL_and_13 : decode cL_and 13 = .ok (.iconst 0, 1) := by decide +kernel
theorem dL_and_14 : decode cL_and 14 = .ok (.ireturn, 1) := by decide +kernel
abbrev cL_or : ByteArray := method_6_code
def yL_or : MethodName := ⟨RL, "or", "(LRegionDesk;)I"⟩
def mL_or : zMd := (yL_or, cL_or, 2, some .int)
def hL_or : List (Nat × Nat × Nat × Nat) := [(0, 4, 7, 15), (0, 4, 10, 24)]
set_option maxRecDepth 20000 in
theorem kL_or : Cond.codeWith yL_or cL_or 2 (some .int) hL_or ∈ zWS := zin 453 rfl rfl
def rL_or : Room := { frames := 8, cells := 2, slots := 12, locals := 121 }
theorem dL_or_0 : decode cL_or 0 = .ok (.aload_n 0, 1) := by decide +kernel
theorem dL_or_1 : decode cL_or 1 = .ok (.invokevirtual 26, 3) := by decide +kernel
theorem dL_or_4 : decode cL_or 4 = .ok (.goto 9, 3) := by decide +kernel
theorem dL_or_7 : decode cL_or 7 = .ok (.astore_n 1, 1) := by decide +kernel
theorem dL_or_8 : decode cL_or 8 = .ok (.iconst 1, 1) := by decide +kernel
theorem dL_or_9 : decode cL_or 9 = .ok (.ireturn, 1) := by decide +kernel
theorem dL_or_10 : decode cL_or 10 = .ok (.astore_n 1, 1) := by decide +kernel
theorem dL_or_11 : decode cL_or 11 = .ok (.iconst 2, 1) := by decide +kernel
theorem dL_or_12 : decode cL_or 12 = .ok (.ireturn, 1) := by decide +kernel
theorem dL_or_13 : decode cL_or 13 = .ok (.iconst 0, 1) := by decide +kernel
theorem dL_or_14 : decode cL_or 14 = .ok (.ireturn, 1) := by decide +kernel
abbrev cL_not : ByteArray := method_7_code
def yL_not : MethodName := ⟨RL, "not", "(LRegionDesk;)I"⟩
def mL_not : zMd := (yL_not, cL_not, 2, some .int)
def hL_not : List (Nat × Nat × Nat × Nat) := [(0, 4, 7, 15), (0, 4, 10, 24)]
set_option maxRecDepth 20000 in
theorem kL_not : Cond.codeWith yL_not cL_not 2 (some .int) hL_not ∈ zWS := zin 465 rfl rfl
def rL_not : Room := { frames := 8, cells := 2, slots := 12, locals := 121 }
theorem dL_not_0 : decode cL_not 0 = .ok (.aload_n 0, 1) := by decide +kernel
theorem dL_not_1 : decode cL_not 1 = .ok (.invokevirtual 29, 3) := by decide +kernel
theorem dL_not_4 : decode cL_not 4 = .ok (.goto 9, 3) := by decide +kernel
theorem dL_not_7 : decode cL_not 7 = .ok (.astore_n 1, 1) := by decide +kernel
theorem dL_not_8 : decode cL_not 8 = .ok (.iconst 1, 1) := by decide +kernel
theorem dL_not_9 : decode cL_not 9 = .ok (.ireturn, 1) := by decide +kernel
theorem dL_not_10 : decode cL_not 10 = .ok (.astore_n 1, 1) := by decide +kernel
theorem dL_not_11 : decode cL_not 11 = .ok (.iconst 2, 1) := by decide +kernel
theorem dL_not_12 : decode cL_not 12 = .ok (.ireturn, 1) := by decide +kernel
theorem dL_not_13 : decode cL_not 13 = .ok (.iconst 0, 1) := by decide +kernel
theorem dL_not_14 : decode cL_not 14 = .ok (.ireturn, 1) := by decide +kernel
abbrev cL_free : ByteArray := method_8_code
def yL_free : MethodName := ⟨RL, "free", "(LRegionDesk;I)I"⟩
def mL_free : zMd := (yL_free, cL_free, 3, some .int)
def hL_free : List (Nat × Nat × Nat × Nat) := [(0, 5, 8, 13), (0, 5, 11, 15), (0, 5, 14, 24)]
set_option maxRecDepth 20000 in
theorem kL_free : Cond.codeWith yL_free cL_free 3 (some .int) hL_free ∈ zWS := zin 489 rfl rfl
def rL_free : Room := { frames := 8, cells := 3, slots := 18, locals := 122 }
theorem dL_free_0 : decode cL_free 0 = .ok (.aload_n 0, 1) := by decide +kernel
theorem dL_free_1 : decode cL_free 1 = .ok (.iload_n 1, 1) := by decide +kernel
theorem dL_free_2 : decode cL_free 2 = .ok (.invokevirtual 32, 3) := by decide +kernel
theorem dL_free_5 : decode cL_free 5 = .ok (.goto 12, 3) := by decide +kernel
theorem dL_free_8 : decode cL_free 8 = .ok (.astore_n 2, 1) := by decide +kernel
theorem dL_free_9 : decode cL_free 9 = .ok (.iconst 1, 1) := by decide +kernel
theorem dL_free_10 : decode cL_free 10 = .ok (.ireturn, 1) := by decide +kernel
theorem dL_free_11 : decode cL_free 11 = .ok (.astore_n 2, 1) := by decide +kernel
theorem dL_free_12 : decode cL_free 12 = .ok (.iconst 2, 1) := by decide +kernel
theorem dL_free_13 : decode cL_free 13 = .ok (.ireturn, 1) := by decide +kernel
theorem dL_free_14 : decode cL_free 14 = .ok (.astore_n 2, 1) := by decide +kernel
theorem dL_free_15 : decode cL_free 15 = .ok (.iconst 3, 1) := by decide +kernel
theorem dL_free_16 : decode cL_free 16 = .ok (.ireturn, 1) := by decide +kernel
theorem dL_free_17 : decode cL_free 17 = .ok (.iconst 0, 1) := by decide +kernel
theorem dL_free_18 : decode cL_free 18 = .ok (.ireturn, 1) := by decide +kernel
abbrev cL_keep : ByteArray := method_9_code
def yL_keep : MethodName := ⟨RL, "keep", "(LRegionDesk;I)I"⟩
def mL_keep : zMd := (yL_keep, cL_keep, 3, some .int)
def hL_keep : List (Nat × Nat × Nat × Nat) := [(0, 5, 8, 13), (0, 5, 11, 15)]
set_option maxRecDepth 20000 in
theorem kL_keep : Cond.codeWith yL_keep cL_keep 3 (some .int) hL_keep ∈ zWS := zin 513 rfl rfl
def rL_keep : Room := { frames := 8, cells := 2, slots := 12, locals := 122 }
theorem dL_keep_0 : decode cL_keep 0 = .ok (.aload_n 0, 1) := by decide +kernel
theorem dL_keep_1 : decode cL_keep 1 = .ok (.iload_n 1, 1) := by decide +kernel
theorem dL_keep_2 : decode cL_keep 2 = .ok (.invokevirtual 36, 3) := by decide +kernel
theorem dL_keep_5 : decode cL_keep 5 = .ok (.goto 9, 3) := by decide +kernel
theorem dL_keep_8 : decode cL_keep 8 = .ok (.astore_n 2, 1) := by decide +kernel
theorem dL_keep_9 : decode cL_keep 9 = .ok (.iconst 1, 1) := by decide +kernel
theorem dL_keep_10 : decode cL_keep 10 = .ok (.ireturn, 1) := by decide +kernel
theorem dL_keep_11 : decode cL_keep 11 = .ok (.astore_n 2, 1) := by decide +kernel
theorem dL_keep_12 : decode cL_keep 12 = .ok (.iconst 2, 1) := by decide +kernel
theorem dL_keep_13 : decode cL_keep 13 = .ok (.ireturn, 1) := by decide +kernel
theorem dL_keep_14 : decode cL_keep 14 = .ok (.iconst 0, 1) := by decide +kernel
theorem dL_keep_15 : decode cL_keep 15 = .ok (.ireturn, 1) := by decide +kernel
abbrev cL_load : ByteArray := method_10_code
def yL_load : MethodName := ⟨RL, "load", "(LRegionDesk;I[J)I"⟩
def mL_load : zMd := (yL_load, cL_load, 4, some .int)
def hL_load : List (Nat × Nat × Nat × Nat) := [(0, 9, 12, 13), (0, 9, 15, 15)]
set_option maxRecDepth 20000 in
theorem kL_load : Cond.codeWith yL_load cL_load 4 (some .int) hL_load ∈ zWS := zin 524 rfl rfl
def rL_load : Room := { frames := 8, cells := 2, slots := 12, locals := 123 }
theorem dL_load_0 : decode cL_load 0 = .ok (.aload_n 2, 1) := by decide +kernel
theorem dL_load_1 : decode cL_load 1 = .ok (.iconst 0, 1) := by decide +kernel
theorem dL_load_2 : decode cL_load 2 = .ok (.aload_n 0, 1) := by decide +kernel
theorem dL_load_3 : decode cL_load 3 = .ok (.iload_n 1, 1) := by decide +kernel
theorem dL_load_4 : decode cL_load 4 = .ok (.invokevirtual 39, 3) := by decide +kernel
theorem dL_load_7 : decode cL_load 7 = .ok (.i2l, 1) := by decide +kernel
theorem dL_load_8 : decode cL_load 8 = .ok (.lastore, 1) := by decide +kernel
theorem dL_load_9 : decode cL_load 9 = .ok (.goto 9, 3) := by decide +kernel
theorem dL_load_12 : decode cL_load 12 = .ok (.astore_n 3, 1) := by decide +kernel
theorem dL_load_13 : decode cL_load 13 = .ok (.iconst 1, 1) := by decide +kernel
theorem dL_load_14 : decode cL_load 14 = .ok (.ireturn, 1) := by decide +kernel
theorem dL_load_15 : decode cL_load 15 = .ok (.astore_n 3, 1) := by decide +kernel
theorem dL_load_16 : decode cL_load 16 = .ok (.iconst 2, 1) := by decide +kernel
theorem dL_load_17 : decode cL_load 17 = .ok (.ireturn, 1) := by decide +kernel
theorem dL_load_18 : decode cL_load 18 = .ok (.iconst 0, 1) := by decide +kernel
theorem dL_load_19 : decode cL_load 19 = .ok (.ireturn, 1) := by decide +kernel
abbrev cL_rows : ByteArray := method_11_code
def yL_rows : MethodName := ⟨RL, "rows", "(LRegionDesk;[J)I"⟩
def mL_rows : zMd := (yL_rows, cL_rows, 3, some .int)
def hL_rows : List (Nat × Nat × Nat × Nat) := [(0, 8, 11, 15)]
set_option maxRecDepth 20000 in
theorem kL_rows : Cond.codeWith yL_rows cL_rows 3 (some .int) hL_rows ∈ zWS := zin 531 rfl rfl
def rL_rows : Room := { frames := 8, cells := 1, slots := 6, locals := 123 }
theorem dL_rows_0 : decode cL_rows 0 = .ok (.aload_n 1, 1) := by decide +kernel
theorem dL_rows_1 : decode cL_rows 1 = .ok (.iconst 0, 1) := by decide +kernel
theorem dL_rows_2 : decode cL_rows 2 = .ok (.aload_n 0, 1) := by decide +kernel
theorem dL_rows_3 : decode cL_rows 3 = .ok (.invokevirtual 43, 3) := by decide +kernel
theorem dL_rows_6 : decode cL_rows 6 = .ok (.i2l, 1) := by decide +kernel
theorem dL_rows_7 : decode cL_rows 7 = .ok (.lastore, 1) := by decide +kernel
theorem dL_rows_8 : decode cL_rows 8 = .ok (.goto 6, 3) := by decide +kernel
theorem dL_rows_11 : decode cL_rows 11 = .ok (.astore_n 2, 1) := by decide +kernel
theorem dL_rows_12 : decode cL_rows 12 = .ok (.iconst 1, 1) := by decide +kernel
theorem dL_rows_13 : decode cL_rows 13 = .ok (.ireturn, 1) := by decide +kernel
theorem dL_rows_14 : decode cL_rows 14 = .ok (.iconst 0, 1) := by decide +kernel
theorem dL_rows_15 : decode cL_rows 15 = .ok (.ireturn, 1) := by decide +kernel
abbrev cL_members : ByteArray := method_12_code
def yL_members : MethodName := ⟨RL, "members", "(LRegionDesk;I[J)I"⟩
def mL_members : zMd := (yL_members, cL_members, 4, some .int)
def hL_members : List (Nat × Nat × Nat × Nat) := [(0, 9, 12, 15), (0, 9, 15, 49)]
set_option maxRecDepth 20000 in
theorem kL_members : Cond.codeWith yL_members cL_members 4 (some .int) hL_members ∈ zWS := zin 539 rfl rfl
def rL_members : Room := { frames := 8, cells := 2, slots := 12, locals := 124 }
theorem dL_members_0 : decode cL_members 0 = .ok (.aload_n 2, 1) := by decide +kernel
theorem dL_members_1 : decode cL_members 1 = .ok (.iconst 0, 1) := by decide +kernel
theorem dL_members_2 : decode cL_members 2 = .ok (.aload_n 0, 1) := by decide +kernel
theorem dL_members_3 : decode cL_members 3 = .ok (.iload_n 1, 1) := by decide +kernel
theorem dL_members_4 : decode cL_members 4 = .ok (.invokevirtual 46, 3) := by decide +kernel
theorem dL_members_7 : decode cL_members 7 = .ok (.i2l, 1) := by decide +kernel
theorem dL_members_8 : decode cL_members 8 = .ok (.lastore, 1) := by decide +kernel
theorem dL_members_9 : decode cL_members 9 = .ok (.goto 9, 3) := by decide +kernel
theorem dL_members_12 : decode cL_members 12 = .ok (.astore_n 3, 1) := by decide +kernel
theorem dL_members_13 : decode cL_members 13 = .ok (.iconst 1, 1) := by decide +kernel
theorem dL_members_14 : decode cL_members 14 = .ok (.ireturn, 1) := by decide +kernel
theorem dL_members_15 : decode cL_members 15 = .ok (.astore_n 3, 1) := by decide +kernel
theorem dL_members_16 : decode cL_members 16 = .ok (.iconst 2, 1) := by decide +kernel
theorem dL_members_17 : decode cL_members 17 = .ok (.ireturn, 1) := by decide +kernel
theorem dL_members_18 : decode cL_members 18 = .ok (.iconst 0, 1) := by decide +kernel
theorem dL_members_19 : decode cL_members 19 = .ok (.ireturn, 1) := by decide +kernel
abbrev cL_part : ByteArray := method_13_code
def yL_part : MethodName := ⟨RL, "part", "(LRegionDesk;III[J)I"⟩
def mL_part : zMd := (yL_part, cL_part, 6, some .int)
def hL_part : List (Nat × Nat × Nat × Nat) := [(0, 12, 15, 15), (0, 12, 19, 49), (0, 12, 23, 13)]
set_option maxRecDepth 20000 in
theorem kL_part : Cond.codeWith yL_part cL_part 6 (some .int) hL_part ∈ zWS := zin 568 rfl rfl
def rL_part : Room := { frames := 8, cells := 4, slots := 24, locals := 127 }
theorem dL_part_0 : decode cL_part 0 = .ok (.aload 4, 2) := by decide +kernel
theorem dL_part_2 : decode cL_part 2 = .ok (.iconst 0, 1) := by decide +kernel
theorem dL_part_3 : decode cL_part 3 = .ok (.aload_n 0, 1) := by decide +kernel
theorem dL_part_4 : decode cL_part 4 = .ok (.iload_n 1, 1) := by decide +kernel
theorem dL_part_5 : decode cL_part 5 = .ok (.iload_n 2, 1) := by decide +kernel
theorem dL_part_6 : decode cL_part 6 = .ok (.iload_n 3, 1) := by decide +kernel
theorem dL_part_7 : decode cL_part 7 = .ok (.invokevirtual 51, 3) := by decide +kernel
theorem dL_part_10 : decode cL_part 10 = .ok (.i2l, 1) := by decide +kernel
theorem dL_part_11 : decode cL_part 11 = .ok (.lastore, 1) := by decide +kernel
theorem dL_part_12 : decode cL_part 12 = .ok (.goto 15, 3) := by decide +kernel
theorem dL_part_15 : decode cL_part 15 = .ok (.astore 5, 2) := by decide +kernel
theorem dL_part_17 : decode cL_part 17 = .ok (.iconst 1, 1) := by decide +kernel
theorem dL_part_18 : decode cL_part 18 = .ok (.ireturn, 1) := by decide +kernel
theorem dL_part_19 : decode cL_part 19 = .ok (.astore 5, 2) := by decide +kernel
theorem dL_part_21 : decode cL_part 21 = .ok (.iconst 2, 1) := by decide +kernel
theorem dL_part_22 : decode cL_part 22 = .ok (.ireturn, 1) := by decide +kernel
theorem dL_part_23 : decode cL_part 23 = .ok (.astore 5, 2) := by decide +kernel
theorem dL_part_25 : decode cL_part 25 = .ok (.iconst 3, 1) := by decide +kernel
theorem dL_part_26 : decode cL_part 26 = .ok (.ireturn, 1) := by decide +kernel
theorem dL_part_27 : decode cL_part 27 = .ok (.iconst 0, 1) := by decide +kernel
theorem dL_part_28 : decode cL_part 28 = .ok (.ireturn, 1) := by decide +kernel
abbrev cL_holds : ByteArray := method_14_code
def yL_holds : MethodName := ⟨RL, "holds", "(LRegionDesk;III[J)I"⟩
def mL_holds : zMd := (yL_holds, cL_holds, 6, some .int)
def hL_holds : List (Nat × Nat × Nat × Nat) := [(0, 19, 22, 15), (0, 19, 26, 13)]
set_option maxRecDepth 20000 in
theorem kL_holds : Cond.codeWith yL_holds cL_holds 6 (some .int) hL_holds ∈ zWS := zin 581 rfl rfl
def rL_holds : Room := { frames := 8, cells := 3, slots := 18, locals := 126 }
theorem dL_holds_0 : decode cL_holds 0 = .ok (.aload 4, 2) := by decide +kernel
theorem dL_holds_2 : decode cL_holds 2 = .ok (.iconst 0, 1) := by decide +kernel
theorem dL_holds_3 : decode cL_holds 3 = .ok (.aload_n 0, 1) := by decide +kernel
theorem dL_holds_4 : decode cL_holds 4 = .ok (.iload_n 1, 1) := by decide +kernel
theorem dL_holds_5 : decode cL_holds 5 = .ok (.iload_n 2, 1) := by decide +kernel
theorem dL_holds_6 : decode cL_holds 6 = .ok (.iload_n 3, 1) := by decide +kernel
theorem dL_holds_7 : decode cL_holds 7 = .ok (.invokevirtual 55, 3) := by decide +kernel
theorem dL_holds_10 : decode cL_holds 10 = .ok (.ifCond .eq 7, 3) := by decide +kernel
theorem dL_holds_13 : decode cL_holds 13 = .ok (.lconst 1, 1) := by decide +kernel
theorem dL_holds_14 : decode cL_holds 14 = .ok (.goto 4, 3) := by decide +kernel
theorem dL_holds_17 : decode cL_holds 17 = .ok (.lconst 0, 1) := by decide +kernel
theorem dL_holds_18 : decode cL_holds 18 = .ok (.lastore, 1) := by decide +kernel
theorem dL_holds_19 : decode cL_holds 19 = .ok (.goto 11, 3) := by decide +kernel
theorem dL_holds_22 : decode cL_holds 22 = .ok (.astore 5, 2) := by decide +kernel
theorem dL_holds_24 : decode cL_holds 24 = .ok (.iconst 1, 1) := by decide +kernel
theorem dL_holds_25 : decode cL_holds 25 = .ok (.ireturn, 1) := by decide +kernel
theorem dL_holds_26 : decode cL_holds 26 = .ok (.astore 5, 2) := by decide +kernel
theorem dL_holds_28 : decode cL_holds 28 = .ok (.iconst 2, 1) := by decide +kernel
theorem dL_holds_29 : decode cL_holds 29 = .ok (.ireturn, 1) := by decide +kernel
theorem dL_holds_30 : decode cL_holds 30 = .ok (.iconst 0, 1) := by decide +kernel
theorem dL_holds_31 : decode cL_holds 31 = .ok (.ireturn, 1) := by decide +kernel
abbrev cL_within : ByteArray := method_15_code
def yL_within : MethodName := ⟨RL, "within", "(LRegionDesk;[J)I"⟩
def mL_within : zMd := (yL_within, cL_within, 3, some .int)
def hL_within : List (Nat × Nat × Nat × Nat) := [(0, 15, 18, 15), (0, 15, 21, 24)]
set_option maxRecDepth 20000 in
theorem kL_within : Cond.codeWith yL_within cL_within 3 (some .int) hL_within ∈ zWS := zin 598 rfl rfl
def rL_within : Room := { frames := 8, cells := 3, slots := 18, locals := 123 }
theorem dL_within_0 : decode cL_within 0 = .ok (.aload_n 1, 1) := by decide +kernel
theorem dL_within_1 : decode cL_within 1 = .ok (.iconst 0, 1) := by decide +kernel
theorem dL_within_2 : decode cL_within 2 = .ok (.aload_n 0, 1) := by decide +kernel
theorem dL_within_3 : decode cL_within 3 = .ok (.invokevirtual 59, 3) := by decide +kernel
theorem dL_within_6 : decode cL_within 6 = .ok (.ifCond .eq 7, 3) := by decide +kernel
theorem dL_within_9 : decode cL_within 9 = .ok (.lconst 1, 1) := by decide +kernel
theorem dL_within_10 : decode cL_within 10 = .ok (.goto 4, 3) := by decide +kernel
theorem dL_within_13 : decode cL_within 13 = .ok (.lconst 0, 1) := by decide +kernel
theorem dL_within_14 : decode cL_within 14 = .ok (.lastore, 1) := by decide +kernel
theorem dL_within_15 : decode cL_within 15 = .ok (.goto 9, 3) := by decide +kernel
theorem dL_within_18 : decode cL_within 18 = .ok (.astore_n 2, 1) := by decide +kernel
theorem dL_within_19 : decode cL_within 19 = .ok (.iconst 1, 1) := by decide +kernel
theorem dL_within_20 : decode cL_within 20 = .ok (.ireturn, 1) := by decide +kernel
theorem dL_within_21 : decode cL_within 21 = .ok (.astore_n 2, 1) := by decide +kernel
theorem dL_within_22 : decode cL_within 22 = .ok (.iconst 2, 1) := by decide +kernel
theorem dL_within_23 : decode cL_within 23 = .ok (.ireturn, 1) := by decide +kernel
theorem dL_within_24 : decode cL_within 24 = .ok (.iconst 0, 1) := by decide +kernel
theorem dL_within_25 : decode cL_within 25 = .ok (.ireturn, 1) := by decide +kernel
abbrev cL_least : ByteArray := method_16_code
def yL_least : MethodName := ⟨RL, "least", "(LRegionDesk;II[J)I"⟩
def mL_least : zMd := (yL_least, cL_least, 5, some .int)
def hL_least : List (Nat × Nat × Nat × Nat) := [(0, 10, 13, 15), (0, 10, 17, 13)]
set_option maxRecDepth 20000 in
theorem kL_least : Cond.codeWith yL_least cL_least 5 (some .int) hL_least ∈ zWS := zin 606 rfl rfl
def rL_least : Room := { frames := 8, cells := 2, slots := 12, locals := 125 }
theorem dL_least_0 : decode cL_least 0 = .ok (.aload_n 3, 1) := by decide +kernel
theorem dL_least_1 : decode cL_least 1 = .ok (.iconst 0, 1) := by decide +kernel
theorem dL_least_2 : decode cL_least 2 = .ok (.aload_n 0, 1) := by decide +kernel
theorem dL_least_3 : decode cL_least 3 = .ok (.iload_n 1, 1) := by decide +kernel
theorem dL_least_4 : decode cL_least 4 = .ok (.iload_n 2, 1) := by decide +kernel
theorem dL_least_5 : decode cL_least 5 = .ok (.invokevirtual 63, 3) := by decide +kernel
theorem dL_least_8 : decode cL_least 8 = .ok (.i2l, 1) := by decide +kernel
theorem dL_least_9 : decode cL_least 9 = .ok (.lastore, 1) := by decide +kernel
theorem dL_least_10 : decode cL_least 10 = .ok (.goto 11, 3) := by decide +kernel
theorem dL_least_13 : decode cL_least 13 = .ok (.astore 4, 2) := by decide +kernel
theorem dL_least_15 : decode cL_least 15 = .ok (.iconst 1, 1) := by decide +kernel
theorem dL_least_16 : decode cL_least 16 = .ok (.ireturn, 1) := by decide +kernel
theorem dL_least_17 : decode cL_least 17 = .ok (.astore 4, 2) := by decide +kernel
theorem dL_least_19 : decode cL_least 19 = .ok (.iconst 2, 1) := by decide +kernel
theorem dL_least_20 : decode cL_least 20 = .ok (.ireturn, 1) := by decide +kernel
theorem dL_least_21 : decode cL_least 21 = .ok (.iconst 0, 1) := by decide +kernel
theorem dL_least_22 : decode cL_least 22 = .ok (.ireturn, 1) := by decide +kernel
abbrev cL_value : ByteArray := method_17_code
def yL_value : MethodName := ⟨RL, "value", "(LRegionDesk;I[J)I"⟩
def mL_value : zMd := (yL_value, cL_value, 4, some .int)
def hL_value : List (Nat × Nat × Nat × Nat) := [(0, 8, 11, 13)]
set_option maxRecDepth 20000 in
theorem kL_value : Cond.codeWith yL_value cL_value 4 (some .int) hL_value ∈ zWS := zin 657 rfl rfl
def rL_value : Room := { frames := 7, cells := 1, slots := 6, locals := 111 }
theorem dL_value_0 : decode cL_value 0 = .ok (.aload_n 2, 1) := by decide +kernel
theorem dL_value_1 : decode cL_value 1 = .ok (.iconst 0, 1) := by decide +kernel
theorem dL_value_2 : decode cL_value 2 = .ok (.aload_n 0, 1) := by decide +kernel
theorem dL_value_3 : decode cL_value 3 = .ok (.iload_n 1, 1) := by decide +kernel
theorem dL_value_4 : decode cL_value 4 = .ok (.invokevirtual 67, 3) := by decide +kernel
theorem dL_value_7 : decode cL_value 7 = .ok (.lastore, 1) := by decide +kernel
theorem dL_value_8 : decode cL_value 8 = .ok (.goto 6, 3) := by decide +kernel
theorem dL_value_11 : decode cL_value 11 = .ok (.astore_n 3, 1) := by decide +kernel
theorem dL_value_12 : decode cL_value 12 = .ok (.iconst 1, 1) := by decide +kernel
theorem dL_value_13 : decode cL_value 13 = .ok (.ireturn, 1) := by decide +kernel
theorem dL_value_14 : decode cL_value 14 = .ok (.iconst 0, 1) := by decide +kernel
theorem dL_value_15 : decode cL_value 15 = .ok (.ireturn, 1) := by decide +kernel
theorem jmL_7 : Cond.methodLink RL 7 yK_member ∈ zWS := zin 169 (by decide +kernel) (by decide +kernel)
theorem gsL_7 : zSV RL 7 mK_member 4 5 := ⟨kK_member, ⟨jmL_7, kiK_member, kvK_member⟩, rfl⟩
theorem jmL_17 : Cond.methodLink RL 17 yK_row ∈ zWS := zin 288 (by decide +kernel) (by decide +kernel)
theorem gsL_17 : zSV RL 17 mK_row 0 5 := ⟨kK_row, ⟨jmL_17, kiK_row, kvK_row⟩, rfl⟩
theorem jmL_21 : Cond.methodLink RL 21 yK_and ∈ zWS := zin 392 (by decide +kernel) (by decide +kernel)
theorem gsL_21 : zSV RL 21 mK_and 0 5 := ⟨kK_and, ⟨jmL_21, kiK_and, kvK_and⟩, rfl⟩
theorem jmL_26 : Cond.methodLink RL 26 yK_or ∈ zWS := zin 454 (by decide +kernel) (by decide +kernel)
theorem gsL_26 : zSV RL 26 mK_or 0 5 := ⟨kK_or, ⟨jmL_26, kiK_or, kvK_or⟩, rfl⟩
theorem jmL_29 : Cond.methodLink RL 29 yK_not ∈ zWS := zin 466 (by decide +kernel) (by decide +kernel)
theorem gsL_29 : zSV RL 29 mK_not 0 5 := ⟨kK_not, ⟨jmL_29, kiK_not, kvK_not⟩, rfl⟩
theorem jmL_32 : Cond.methodLink RL 32 yK_free ∈ zWS := zin 490 (by decide +kernel) (by decide +kernel)
theorem gsL_32 : zSV RL 32 mK_free 1 5 := ⟨kK_free, ⟨jmL_32, kiK_free, kvK_free⟩, rfl⟩
theorem jmL_36 : Cond.methodLink RL 36 yK_keep ∈ zWS := zin 514 (by decide +kernel) (by decide +kernel)
theorem gsL_36 : zSV RL 36 mK_keep 1 5 := ⟨kK_keep, ⟨jmL_36, kiK_keep, kvK_keep⟩, rfl⟩
theorem jmL_39 : Cond.methodLink RL 39 yK_load ∈ zWS := zin 525 (by decide +kernel) (by decide +kernel)
theorem gsL_39 : zSV RL 39 mK_load 1 5 := ⟨kK_load, ⟨jmL_39, kiK_load, kvK_load⟩, rfl⟩
theorem jmL_43 : Cond.methodLink RL 43 yK_rows ∈ zWS := zin 532 (by decide +kernel) (by decide +kernel)
theorem gsL_43 : zSV RL 43 mK_rows 0 5 := ⟨kK_rows, ⟨jmL_43, kiK_rows, kvK_rows⟩, rfl⟩
theorem jmL_46 : Cond.methodLink RL 46 yK_members ∈ zWS := zin 541 (by decide +kernel) (by decide +kernel)
theorem gsL_46 : zSV RL 46 mK_members 1 5 := ⟨kK_members, ⟨jmL_46, kiK_members, kvK_members⟩, rfl⟩
theorem jmL_51 : Cond.methodLink RL 51 yK_part ∈ zWS := zin 569 (by decide +kernel) (by decide +kernel)
theorem gsL_51 : zSV RL 51 mK_part 3 5 := ⟨kK_part, ⟨jmL_51, kiK_part, kvK_part⟩, rfl⟩
theorem jmL_55 : Cond.methodLink RL 55 yK_holds ∈ zWS := zin 582 (by decide +kernel) (by decide +kernel)
theorem gsL_55 : zSV RL 55 mK_holds 3 5 := ⟨kK_holds, ⟨jmL_55, kiK_holds, kvK_holds⟩, rfl⟩
theorem jmL_59 : Cond.methodLink RL 59 yK_within ∈ zWS := zin 599 (by decide +kernel) (by decide +kernel)
theorem gsL_59 : zSV RL 59 mK_within 0 5 := ⟨kK_within, ⟨jmL_59, kiK_within, kvK_within⟩, rfl⟩
theorem jmL_63 : Cond.methodLink RL 63 yK_least ∈ zWS := zin 607 (by decide +kernel) (by decide +kernel)
theorem gsL_63 : zSV RL 63 mK_least 2 5 := ⟨kK_least, ⟨jmL_63, kiK_least, kvK_least⟩, rfl⟩
theorem jmL_67 : Cond.methodLink RL 67 yK_value ∈ zWS := zin 658 (by decide +kernel) (by decide +kernel)
theorem gsL_67 : zSV RL 67 mK_value 1 5 := ⟨kK_value, ⟨jmL_67, kiK_value, kvK_value⟩, rfl⟩
theorem jmL_75 : Cond.methodLink RL 75 yL_member ∈ zWS := zin 164 (by decide +kernel) (by decide +kernel)
theorem ksL_member : Cond.static yL_member ∈ zWS := zin 165 (by decide +kernel) (by decide +kernel)
def npL_member : Nat := 6
theorem pdL_member : (yL_member.cls ≠ "java/lang/invoke/MethodHandle" ∧ yL_member.cls ≠ "java/lang/invoke/VarHandle") ∧ (parseMethodDescriptor yL_member.desc).map (fun d => d.parameters.length) = some 6 := ⟨⟨by decide +kernel, by decide +kernel⟩, by decide +kernel⟩
theorem jmL_80 : Cond.methodLink RL 80 yM_member ∈ zWS := zin 814 (by decide +kernel) (by decide +kernel)
theorem gsL_80 : zSV RL 80 mM_member 4 6 := ⟨kM_member, ⟨jmL_80, kiM_member, kvM_member⟩, rfl⟩
theorem jmL_81 : Cond.methodLink RL 81 yM_thrown ∈ zWS := zin 810 (by decide +kernel) (by decide +kernel)
theorem gsL_81 : zSV RL 81 mM_thrown 0 6 := ⟨kM_thrown, ⟨jmL_81, kiM_thrown, kvM_thrown⟩, rfl⟩
theorem jmL_84 : Cond.methodLink RL 84 yL_row ∈ zWS := zin 285 (by decide +kernel) (by decide +kernel)
theorem ksL_row : Cond.static yL_row ∈ zWS := zin 286 (by decide +kernel) (by decide +kernel)
def npL_row : Nat := 2
theorem pdL_row : (yL_row.cls ≠ "java/lang/invoke/MethodHandle" ∧ yL_row.cls ≠ "java/lang/invoke/VarHandle") ∧ (parseMethodDescriptor yL_row.desc).map (fun d => d.parameters.length) = some 2 := ⟨⟨by decide +kernel, by decide +kernel⟩, by decide +kernel⟩
theorem jmL_87 : Cond.methodLink RL 87 yM_row ∈ zWS := zin 823 (by decide +kernel) (by decide +kernel)
theorem gsL_87 : zSV RL 87 mM_row 0 6 := ⟨kM_row, ⟨jmL_87, kiM_row, kvM_row⟩, rfl⟩
theorem jmL_88 : Cond.methodLink RL 88 yL_and ∈ zWS := zin 388 (by decide +kernel) (by decide +kernel)
theorem ksL_and : Cond.static yL_and ∈ zWS := zin 389 (by decide +kernel) (by decide +kernel)
def npL_and : Nat := 1
theorem pdL_and : (yL_and.cls ≠ "java/lang/invoke/MethodHandle" ∧ yL_and.cls ≠ "java/lang/invoke/VarHandle") ∧ (parseMethodDescriptor yL_and.desc).map (fun d => d.parameters.length) = some 1 := ⟨⟨by decide +kernel, by decide +kernel⟩, by decide +kernel⟩
theorem jmL_91 : Cond.methodLink RL 91 yM_and ∈ zWS := zin 913 (by decide +kernel) (by decide +kernel)
theorem gsL_91 : zSV RL 91 mM_and 0 6 := ⟨kM_and, ⟨jmL_91, kiM_and, kvM_and⟩, rfl⟩
theorem jmL_92 : Cond.methodLink RL 92 yL_or ∈ zWS := zin 451 (by decide +kernel) (by decide +kernel)
theorem ksL_or : Cond.static yL_or ∈ zWS := zin 452 (by decide +kernel) (by decide +kernel)
def npL_or : Nat := 1
theorem pdL_or : (yL_or.cls ≠ "java/lang/invoke/MethodHandle" ∧ yL_or.cls ≠ "java/lang/invoke/VarHandle") ∧ (parseMethodDescriptor yL_or.desc).map (fun d => d.parameters.length) = some 1 := ⟨⟨by decide +kernel, by decide +kernel⟩, by decide +kernel⟩
theorem jmL_94 : Cond.methodLink RL 94 yM_or ∈ zWS := zin 929 (by decide +kernel) (by decide +kernel)
theorem gsL_94 : zSV RL 94 mM_or 0 6 := ⟨kM_or, ⟨jmL_94, kiM_or, kvM_or⟩, rfl⟩
theorem jmL_95 : Cond.methodLink RL 95 yL_not ∈ zWS := zin 463 (by decide +kernel) (by decide +kernel)
theorem ksL_not : Cond.static yL_not ∈ zWS := zin 464 (by decide +kernel) (by decide +kernel)
def npL_not : Nat := 1
theorem pdL_not : (yL_not.cls ≠ "java/lang/invoke/MethodHandle" ∧ yL_not.cls ≠ "java/lang/invoke/VarHandle") ∧ (parseMethodDescriptor yL_not.desc).map (fun d => d.parameters.length) = some 1 := ⟨⟨by decide +kernel, by decide +kernel⟩, by decide +kernel⟩
theorem jmL_97 : Cond.methodLink RL 97 yM_not ∈ zWS := zin 933 (by decide +kernel) (by decide +kernel)
theorem gsL_97 : zSV RL 97 mM_not 0 6 := ⟨kM_not, ⟨jmL_97, kiM_not, kvM_not⟩, rfl⟩
theorem jmL_98 : Cond.methodLink RL 98 yL_free ∈ zWS := zin 487 (by decide +kernel) (by decide +kernel)
theorem ksL_free : Cond.static yL_free ∈ zWS := zin 488 (by decide +kernel) (by decide +kernel)
def npL_free : Nat := 2
theorem pdL_free : (yL_free.cls ≠ "java/lang/invoke/MethodHandle" ∧ yL_free.cls ≠ "java/lang/invoke/VarHandle") ∧ (parseMethodDescriptor yL_free.desc).map (fun d => d.parameters.length) = some 2 := ⟨⟨by decide +kernel, by decide +kernel⟩, by decide +kernel⟩
theorem jmL_101 : Cond.methodLink RL 101 yM_free ∈ zWS := zin 945 (by decide +kernel) (by decide +kernel)
theorem gsL_101 : zSV RL 101 mM_free 1 6 := ⟨kM_free, ⟨jmL_101, kiM_free, kvM_free⟩, rfl⟩
theorem jmL_102 : Cond.methodLink RL 102 yL_keep ∈ zWS := zin 511 (by decide +kernel) (by decide +kernel)
theorem ksL_keep : Cond.static yL_keep ∈ zWS := zin 512 (by decide +kernel) (by decide +kernel)
def npL_keep : Nat := 2
theorem pdL_keep : (yL_keep.cls ≠ "java/lang/invoke/MethodHandle" ∧ yL_keep.cls ≠ "java/lang/invoke/VarHandle") ∧ (parseMethodDescriptor yL_keep.desc).map (fun d => d.parameters.length) = some 2 := ⟨⟨by decide +kernel, by decide +kernel⟩, by decide +kernel⟩
theorem jmL_104 : Cond.methodLink RL 104 yM_keep ∈ zWS := zin 953 (by decide +kernel) (by decide +kernel)
theorem gsL_104 : zSV RL 104 mM_keep 1 6 := ⟨kM_keep, ⟨jmL_104, kiM_keep, kvM_keep⟩, rfl⟩
theorem jmL_105 : Cond.methodLink RL 105 yL_load ∈ zWS := zin 522 (by decide +kernel) (by decide +kernel)
theorem ksL_load : Cond.static yL_load ∈ zWS := zin 523 (by decide +kernel) (by decide +kernel)
def npL_load : Nat := 3
theorem pdL_load : (yL_load.cls ≠ "java/lang/invoke/MethodHandle" ∧ yL_load.cls ≠ "java/lang/invoke/VarHandle") ∧ (parseMethodDescriptor yL_load.desc).map (fun d => d.parameters.length) = some 3 := ⟨⟨by decide +kernel, by decide +kernel⟩, by decide +kernel⟩
theorem jmL_108 : Cond.methodLink RL 108 yM_load ∈ zWS := zin 957 (by decide +kernel) (by decide +kernel)
theorem gsL_108 : zSV RL 108 mM_load 1 6 := ⟨kM_load, ⟨jmL_108, kiM_load, kvM_load⟩, rfl⟩
theorem jmL_109 : Cond.methodLink RL 109 yK_drop ∈ zWS := zin 156 (by decide +kernel) (by decide +kernel)
theorem gsL_109 : zSV RL 109 mK_drop 0 5 := ⟨kK_drop, ⟨jmL_109, kiK_drop, kvK_drop⟩, rfl⟩
theorem jmL_112 : Cond.methodLink RL 112 yM_drop ∈ zWS := zin 961 (by decide +kernel) (by decide +kernel)
theorem gsL_112 : zSV RL 112 mM_drop 0 6 := ⟨kM_drop, ⟨jmL_112, kiM_drop, kvM_drop⟩, rfl⟩
theorem jmL_113 : Cond.methodLink RL 113 yK_pile ∈ zWS := zin 160 (by decide +kernel) (by decide +kernel)
theorem gsL_113 : zSV RL 113 mK_pile 0 5 := ⟨kK_pile, ⟨jmL_113, kiK_pile, kvK_pile⟩, rfl⟩
theorem jmL_116 : Cond.methodLink RL 116 yM_pile ∈ zWS := zin 965 (by decide +kernel) (by decide +kernel)
theorem gsL_116 : zSV RL 116 mM_pile 0 6 := ⟨kM_pile, ⟨jmL_116, kiM_pile, kvM_pile⟩, rfl⟩
theorem jmL_117 : Cond.methodLink RL 117 yL_rows ∈ zWS := zin 529 (by decide +kernel) (by decide +kernel)
theorem ksL_rows : Cond.static yL_rows ∈ zWS := zin 530 (by decide +kernel) (by decide +kernel)
def npL_rows : Nat := 2
theorem pdL_rows : (yL_rows.cls ≠ "java/lang/invoke/MethodHandle" ∧ yL_rows.cls ≠ "java/lang/invoke/VarHandle") ∧ (parseMethodDescriptor yL_rows.desc).map (fun d => d.parameters.length) = some 2 := ⟨⟨by decide +kernel, by decide +kernel⟩, by decide +kernel⟩
theorem jmL_119 : Cond.methodLink RL 119 yM_rows ∈ zWS := zin 969 (by decide +kernel) (by decide +kernel)
theorem gsL_119 : zSV RL 119 mM_rows 0 6 := ⟨kM_rows, ⟨jmL_119, kiM_rows, kvM_rows⟩, rfl⟩
theorem jmL_120 : Cond.methodLink RL 120 yL_members ∈ zWS := zin 537 (by decide +kernel) (by decide +kernel)
theorem ksL_members : Cond.static yL_members ∈ zWS := zin 538 (by decide +kernel) (by decide +kernel)
def npL_members : Nat := 3
theorem pdL_members : (yL_members.cls ≠ "java/lang/invoke/MethodHandle" ∧ yL_members.cls ≠ "java/lang/invoke/VarHandle") ∧ (parseMethodDescriptor yL_members.desc).map (fun d => d.parameters.length) = some 3 := ⟨⟨by decide +kernel, by decide +kernel⟩, by decide +kernel⟩
theorem jmL_122 : Cond.methodLink RL 122 yM_members ∈ zWS := zin 973 (by decide +kernel) (by decide +kernel)
theorem gsL_122 : zSV RL 122 mM_members 1 6 := ⟨kM_members, ⟨jmL_122, kiM_members, kvM_members⟩, rfl⟩
theorem jmL_123 : Cond.methodLink RL 123 yL_part ∈ zWS := zin 566 (by decide +kernel) (by decide +kernel)
theorem ksL_part : Cond.static yL_part ∈ zWS := zin 567 (by decide +kernel) (by decide +kernel)
def npL_part : Nat := 5
theorem pdL_part : (yL_part.cls ≠ "java/lang/invoke/MethodHandle" ∧ yL_part.cls ≠ "java/lang/invoke/VarHandle") ∧ (parseMethodDescriptor yL_part.desc).map (fun d => d.parameters.length) = some 5 := ⟨⟨by decide +kernel, by decide +kernel⟩, by decide +kernel⟩
theorem jmL_126 : Cond.methodLink RL 126 yM_part ∈ zWS := zin 981 (by decide +kernel) (by decide +kernel)
theorem gsL_126 : zSV RL 126 mM_part 3 6 := ⟨kM_part, ⟨jmL_126, kiM_part, kvM_part⟩, rfl⟩
theorem jmL_127 : Cond.methodLink RL 127 yL_holds ∈ zWS := zin 579 (by decide +kernel) (by decide +kernel)
theorem ksL_holds : Cond.static yL_holds ∈ zWS := zin 580 (by decide +kernel) (by decide +kernel)
def npL_holds : Nat := 5
theorem pdL_holds : (yL_holds.cls ≠ "java/lang/invoke/MethodHandle" ∧ yL_holds.cls ≠ "java/lang/invoke/VarHandle") ∧ (parseMethodDescriptor yL_holds.desc).map (fun d => d.parameters.length) = some 5 := ⟨⟨by decide +kernel, by decide +kernel⟩, by decide +kernel⟩
theorem jmL_129 : Cond.methodLink RL 129 yM_holds ∈ zWS := zin 985 (by decide +kernel) (by decide +kernel)
theorem gsL_129 : zSV RL 129 mM_holds 3 6 := ⟨kM_holds, ⟨jmL_129, kiM_holds, kvM_holds⟩, rfl⟩
theorem jmL_130 : Cond.methodLink RL 130 yL_within ∈ zWS := zin 596 (by decide +kernel) (by decide +kernel)
theorem ksL_within : Cond.static yL_within ∈ zWS := zin 597 (by decide +kernel) (by decide +kernel)
def npL_within : Nat := 2
theorem pdL_within : (yL_within.cls ≠ "java/lang/invoke/MethodHandle" ∧ yL_within.cls ≠ "java/lang/invoke/VarHandle") ∧ (parseMethodDescriptor yL_within.desc).map (fun d => d.parameters.length) = some 2 := ⟨⟨by decide +kernel, by decide +kernel⟩, by decide +kernel⟩
theorem jmL_132 : Cond.methodLink RL 132 yM_within ∈ zWS := zin 989 (by decide +kernel) (by decide +kernel)
theorem gsL_132 : zSV RL 132 mM_within 0 6 := ⟨kM_within, ⟨jmL_132, kiM_within, kvM_within⟩, rfl⟩
theorem jmL_133 : Cond.methodLink RL 133 yL_least ∈ zWS := zin 604 (by decide +kernel) (by decide +kernel)
theorem ksL_least : Cond.static yL_least ∈ zWS := zin 605 (by decide +kernel) (by decide +kernel)
def npL_least : Nat := 4
theorem pdL_least : (yL_least.cls ≠ "java/lang/invoke/MethodHandle" ∧ yL_least.cls ≠ "java/lang/invoke/VarHandle") ∧ (parseMethodDescriptor yL_least.desc).map (fun d => d.parameters.length) = some 4 := ⟨⟨by decide +kernel, by decide +kernel⟩, by decide +kernel⟩
theorem jmL_136 : Cond.methodLink RL 136 yM_least ∈ zWS := zin 993 (by decide +kernel) (by decide +kernel)
theorem gsL_136 : zSV RL 136 mM_least 2 6 := ⟨kM_least, ⟨jmL_136, kiM_least, kvM_least⟩, rfl⟩
theorem jmL_137 : Cond.methodLink RL 137 yL_value ∈ zWS := zin 655 (by decide +kernel) (by decide +kernel)
theorem ksL_value : Cond.static yL_value ∈ zWS := zin 656 (by decide +kernel) (by decide +kernel)
def npL_value : Nat := 3
theorem pdL_value : (yL_value.cls ≠ "java/lang/invoke/MethodHandle" ∧ yL_value.cls ≠ "java/lang/invoke/VarHandle") ∧ (parseMethodDescriptor yL_value.desc).map (fun d => d.parameters.length) = some 3 := ⟨⟨by decide +kernel, by decide +kernel⟩, by decide +kernel⟩
theorem jmL_139 : Cond.methodLink RL 139 yM_value ∈ zWS := zin 1005 (by decide +kernel) (by decide +kernel)
theorem gsL_139 : zSV RL 139 mM_value 1 6 := ⟨kM_value, ⟨jmL_139, kiM_value, kvM_value⟩, rfl⟩
/-- a contract of a method with a table, that returns -/
def zMetL (l : Launch) (md : zMd) (hh : List (Nat × Nat × Nat × Nat)) (rm : Room) (as : List Value) (M : zM) (Q : Option Value → zM → Prop) : Prop :=
  ∀ (D : va_G) (ca : zK4) (ad : Nat → Nat) (sz : Nat), Met l md.1 (Cond.codeWith md.1 md.2.1 md.2.2.1 md.2.2.2 hh :: zWS) rm (zPx D ca ad as M sz) (zQc D ca ad sz Q) rm.cells rm.slots (zA ad sz)
abbrev zE (X : zC) (Q : Option Value → zM → Prop) : State → Prop := MQ (zbe X) (zQc (zDD X) (zca X) (zad X) (zs X).heap.size Q) (zas X) (zs X) (zRo X).cells (zRo X).slots (zA (zad X) (zs X).heap.size)
theorem zl_enter {l : Launch} {md : zMd} {hh : List (Nat × Nat × Nat × Nat)} {rm : Room} {as : List Value} {M : zM} {Q : Option Value → zM → Prop} (hy : plainName md.1.cls = true) (hlen : (lg_sl as).length ≤ md.2.2.1)
    (body : ∀ X, zCy X l md rm → zThr (zA (zad X) (zs X).heap.size) (zs X) → (zco X).exceptionTable.toList = tableOf hh → zF X (zE X Q) (0, 0) 0 (lv_args 0 as) [] M) : zMetL l md hh rm as M Q := by
  intro D ca ad sz
  refine va_MetW (cc := md.2.1) (maxL := md.2.2.1) (ret := md.2.2.2) (hh := hh) hy rfl ?_
  intro p e s m args below meth c s₁ B hml hv
  obtain ⟨rfl, hsz, hP, hK, hin, hnst, hth⟩ := hv
  have hts := atoms_spec (ws := Cond.codeWith md.1 md.2.1 md.2.2.1 md.2.2.2 hh :: zWS) B.pre
  have hown : s.vm.findClass md.1.cls = some m.cls := findClass_of_methodNamed B.named
  have htb : c.exceptionTable.toList = tableOf hh := vx_table (p := p) (x := md.1) B (hts _ List.mem_cons_self)
  subst hsz
  rw [lg_entry_eq]
  have hl := lv_entry (as.map (zcv ad)) (n := md.2.2.1) (by rw [lg_sl_zcv]; exact hlen)
  rw [lv_args_zcl] at hl
  exact body (p, l, e, rm, s, m, (as.map (zcv ad)).toArray, below, meth, c, D, ca, ad) ⟨B.exec, B.bytes, hml, hown, fun w h => hts w (List.mem_cons_of_mem _ h), hK, hin, B.returns, B.notSynchronized, rfl, rfl, hnst⟩ hth htb _ _ _ (by show lv_has _ c.maxLocals _; rw [hml]; exact hl) hP va_S.rf
section ZLR
variable {X : zC} {l : Launch} {md : zMd} {rm : Room} {Q : Option Value → zM → Prop} {u : Nat × Nat} {pc : Nat} {L : List (Nat × Value)} {S : List Value} {M : zM}
theorem zl_iret {v : Int32} (hc : zCy X l md rm) (hr : md.2.2.2 = (some .int)) (hd : decode md.2.1 pc = .ok (.ireturn, 1)) (hu : u.1 ≤ rm.cells ∧ u.2 ≤ rm.slots) (hq : Q (some (.int v)) M) : zF X (zE X Q) u pc L [.int v] M := by
  intro ls H locs hl hP hS
  have hR := hc.2.2.2.2.2.2.2.2.2.1
  refine W.widen (k := (zRo X).cells) (n := (zRo X).slots) (by rw [hR]; exact hu.1) (by rw [hR]; exact hu.2) ?_
  exact W.iret hc.1 hc.2.1 (hc.2.2.2.2.2.2.2.1.trans hr) (fun t ht hW => ⟨⟨some (.int v), M, rfl, hq, by rw [ht]; exact hP, va_K.moved hW.alike hc.2.2.2.2.2.1⟩, hS.F ht⟩) hS.2.2 hd hc.2.2.2.2.2.2.2.2.1
theorem zl_tail {v : Int32} {k : Int} {ls : Array Slot} {H1 : Heap} {locs1 : List Loc} (hc : zCy X l md rm) (hr : md.2.2.2 = (some .int)) (d2 : decode md.2.1 pc = .ok (.iconst k, 1)) (hv : Int32.ofInt k = v) (d3 : decode md.2.1 (pc + 1) = .ok (.ireturn, 1)) (hu : u.1 ≤ rm.cells ∧ u.2 ≤ rm.slots) (hq : Q (some (.int v)) M) (hl : lv_has ls (zco X).maxLocals []) (hP : va_P (zDD X) vwCl (zwd (zca X) (zad X) M) H1) (hS : va_S (zA (zad X) (zs X).heap.size) (zs X).heap H1 locs1) :
    W (zp X) (zl X) (ze X) (zRo X) (zs X) (zm X) (zas X) (zbe X) (zme X) (zco X) H1 locs1 u.1 u.2 (zE X Q) (F0 (zm X) pc ls []) :=
  zx_iconst (u := u) (L := []) (S := []) (M := M) hc v d2 hv (zl_iret (Q := Q) hc hr d3 hu hq) ls H1 locs1 hl hP hS
/-- caught: a number for the kind is answered -/
theorem zl_hand {v : Int32} {k : Int} {i : Nat} {ls : Array Slot} {H1 : Heap} {locs1 : List Loc} {q : Nat} (hc : zCy X l md rm) (hr : md.2.2.2 = (some .int)) (d1 : decode md.2.1 pc = .ok (.astore i, 2)) (hi : i < md.2.2.1) (d2 : decode md.2.1 (pc + 2) = .ok (.iconst k, 1)) (hv : Int32.ofInt k = v) (d3 : decode md.2.1 (pc + 2 + 1) = .ok (.ireturn, 1)) (hu : u.1 ≤ rm.cells ∧ u.2 ≤ rm.slots) (hq : Q (some (.int v)) M) (hl : lv_has ls (zco X).maxLocals (zcl (zad X) L)) (hP : va_P (zDD X) vwCl (zwd (zca X) (zad X) M) H1) (hS : va_S (zA (zad X) (zs X).heap.size) (zs X).heap H1 locs1) :
    W (zp X) (zl X) (ze X) (zRo X) (zs X) (zm X) (zas X) (zbe X) (zme X) (zco X) H1 locs1 u.1 u.2 (zE X Q) (F0 (zm X) pc ls [.ref q]) :=
  lv_astore hc.1 hc.2.1 d1 hl (by rw [hc.2.2.1]; exact hi) rfl (fun ls' hl' => zl_tail hc hr d2 hv d3 hu hq (lv_has_mono hl' (fun q h => by cases h)) hP hS)
theorem zl_hand_n {v : Int32} {k : Int} {i : Fin 4} {ls : Array Slot} {H1 : Heap} {locs1 : List Loc} {q : Nat} (hc : zCy X l md rm) (hr : md.2.2.2 = (some .int)) (d1 : decode md.2.1 pc = .ok (.astore_n i, 1)) (hi : i.val < md.2.2.1) (d2 : decode md.2.1 (pc + 1) = .ok (.iconst k, 1)) (hv : Int32.ofInt k = v) (d3 : decode md.2.1 (pc + 1 + 1) = .ok (.ireturn, 1)) (hu : u.1 ≤ rm.cells ∧ u.2 ≤ rm.slots) (hq : Q (some (.int v)) M) (hl : lv_has ls (zco X).maxLocals (zcl (zad X) L)) (hP : va_P (zDD X) vwCl (zwd (zca X) (zad X) M) H1) (hS : va_S (zA (zad X) (zs X).heap.size) (zs X).heap H1 locs1) :
    W (zp X) (zl X) (ze X) (zRo X) (zs X) (zm X) (zas X) (zbe X) (zme X) (zco X) H1 locs1 u.1 u.2 (zE X Q) (F0 (zm X) pc ls [.ref q]) :=
  lv_astore_n hc.1 hc.2.1 d1 rfl hl (by rw [hc.2.2.1]; exact hi) rfl (fun ls' hl' => zl_tail hc hr d2 hv d3 hu hq (lv_has_mono hl' (fun q h => by cases h)) hP hS)
/-- the row x of the table takes the kind n; the rows ahead are of other kinds -/
theorem zl_catch {F : State → Prop} {ls : Array Slot} {H1 : Heap} {locs1 : List Loc} {n : Nat} {q : Addr} {ce : Cell} {hh : List (Nat × Nat × Nat × Nat)} (pre : List ExceptionTableEntry) (x : ExceptionTableEntry) (suf : List ExceptionTableEntry) (hc : zCy X l md rm) (hT : zThr (zA (zad X) (zs X).heap.size) (zs X)) (ht : (zco X).exceptionTable.toList = tableOf hh) (hsp : tableOf hh = pre ++ x :: suf) (hpass : ∀ z ∈ pre, z.catchType ≠ 0 ∧ ∃ k, Cond.classLink md.1.cls z.catchType (zEx k) ∈ zWS ∧ (zEx n, zEx k) ∈ zNcL) (hx : covers x pc = true) (h0 : x.catchType ≠ 0) (hlk : Cond.classLink md.1.cls x.catchType (zEx n) ∈ zWS) (hn : zEx n ∈ zCa)
    (h1 : H1[q]? = some ce) (h2 : ce.vm = .none) (h3 : (zs X).vm.findClass (zEx n) = some ce.cls) (kk : W (zp X) (zl X) (ze X) (zRo X) (zs X) (zm X) (zas X) (zbe X) (zme X) (zco X) H1 locs1 u.1 u.2 F (F0 (zm X) x.handlerPc ls [.ref q])) :
    vx_W (zp X) (zl X) (ze X) (zRo X) (zs X) (zm X) (zas X) (zbe X) (zme X) (zco X) H1 locs1 u.1 u.2 F (F0 (zm X) pc ls (S.map (zcv (zad X)))) q :=
  vx_catch hc.2.2.2.1 pre x suf (ht.trans hsp) (fun z hz => Or.inr ⟨(hpass z hz).1, by obtain ⟨k, a, b⟩ := (hpass z hz).2; exact ⟨_, hc.w a, hT.2.2.2.2.1 _ b⟩⟩) hx h0 (hc.w hlk) (va_Nw.use rfl (hT.2.2.2.1 _ hn)) h1 h2 h3 kk
end ZLR

