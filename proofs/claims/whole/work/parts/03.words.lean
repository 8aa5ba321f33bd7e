/-! the tables' words on fields and methods -/
theorem jfK_11 : Cond.fieldLink RK 11 RK (TK 0).2.1 (TK 0).2.2.1 ∈ zWS := zin 134 (by decide +kernel) (by decide +kernel)
theorem jfK_15 : Cond.fieldLink RK 15 RK (TK 1).2.1 (TK 1).2.2.1 ∈ zWS := zin 135 (by decide +kernel) (by decide +kernel)
theorem jfK_21 : Cond.fieldLink RK 21 RK (TK 2).2.1 (TK 2).2.2.1 ∈ zWS := zin 136 (by decide +kernel) (by decide +kernel)
theorem jfK_28 : Cond.fieldLink RK 28 RK (TK 3).2.1 (TK 3).2.2.1 ∈ zWS := zin 137 (by decide +kernel) (by decide +kernel)
theorem jfK_35 : Cond.fieldLink RK 35 RK (TK 4).2.1 (TK 4).2.2.1 ∈ zWS := zin 138 (by decide +kernel) (by decide +kernel)
theorem jfK_55 : Cond.fieldLink RK 55 RK (TK 6).2.1 (TK 6).2.2.1 ∈ zWS := zin 140 (by decide +kernel) (by decide +kernel)
theorem jfK_71 : Cond.fieldLink RK 71 RK (TK 5).2.1 (TK 5).2.2.1 ∈ zWS := zin 139 (by decide +kernel) (by decide +kernel)
theorem jfD_11 : Cond.fieldLink RD 11 RD (TD 0).2.1 (TD 0).2.2.1 ∈ zWS := zin 51 (by decide +kernel) (by decide +kernel)
theorem jfD_15 : Cond.fieldLink RD 15 RD (TD 1).2.1 (TD 1).2.2.1 ∈ zWS := zin 52 (by decide +kernel) (by decide +kernel)
theorem jfD_18 : Cond.fieldLink RD 18 RD (TD 2).2.1 (TD 2).2.2.1 ∈ zWS := zin 53 (by decide +kernel) (by decide +kernel)
theorem jfD_21 : Cond.fieldLink RD 21 RD (TD 3).2.1 (TD 3).2.2.1 ∈ zWS := zin 54 (by decide +kernel) (by decide +kernel)
theorem jfD_28 : Cond.fieldLink RD 28 RD (TD 4).2.1 (TD 4).2.2.1 ∈ zWS := zin 55 (by decide +kernel) (by decide +kernel)
theorem jfD_32 : Cond.fieldLink RD 32 RD (TD 5).2.1 (TD 5).2.2.1 ∈ zWS := zin 56 (by decide +kernel) (by decide +kernel)
theorem jfI_9 : Cond.fieldLink RI 9 RI (TI 0).2.1 (TI 0).2.2.1 ∈ zWS := zin 114 (by decide +kernel) (by decide +kernel)
theorem jfI_15 : Cond.fieldLink RI 15 RI (TI 1).2.1 (TI 1).2.2.1 ∈ zWS := zin 115 (by decide +kernel) (by decide +kernel)
theorem jfI_31 : Cond.fieldLink RI 31 RI (TI 4).2.1 (TI 4).2.2.1 ∈ zWS := zin 118 (by decide +kernel) (by decide +kernel)
theorem jfI_40 : Cond.fieldLink RI 40 RI (TI 2).2.1 (TI 2).2.2.1 ∈ zWS := zin 116 (by decide +kernel) (by decide +kernel)
theorem jfI_44 : Cond.fieldLink RI 44 RI (TI 3).2.1 (TI 3).2.2.1 ∈ zWS := zin 117 (by decide +kernel) (by decide +kernel)
theorem jfI_47 : Cond.fieldLink RI 47 RI (TI 5).2.1 (TI 5).2.2.1 ∈ zWS := zin 119 (by decide +kernel) (by decide +kernel)
theorem jfR_11 : Cond.fieldLink RR 11 RR (TR 0).2.1 (TR 0).2.2.1 ∈ zWS := zin 84 (by decide +kernel) (by decide +kernel)
theorem jfR_15 : Cond.fieldLink RR 15 RR (TR 1).2.1 (TR 1).2.2.1 ∈ zWS := zin 85 (by decide +kernel) (by decide +kernel)
theorem jfR_18 : Cond.fieldLink RR 18 RR (TR 2).2.1 (TR 2).2.2.1 ∈ zWS := zin 86 (by decide +kernel) (by decide +kernel)
theorem jfS_7 : Cond.fieldLink RS 7 RS (TS 0).2.1 (TS 0).2.2.1 ∈ zWS := zin 39 (by decide +kernel) (by decide +kernel)
theorem jfS_13 : Cond.fieldLink RS 13 RS (TS 1).2.1 (TS 1).2.2.1 ∈ zWS := zin 40 (by decide +kernel) (by decide +kernel)
theorem jfS_16 : Cond.fieldLink RS 16 RS (TS 2).2.1 (TS 2).2.2.1 ∈ zWS := zin 41 (by decide +kernel) (by decide +kernel)
theorem jfW_10 : Cond.fieldLink RW 10 RW (TW 0).2.1 (TW 0).2.2.1 ∈ zWS := zin 95 (by decide +kernel) (by decide +kernel)
theorem jfW_19 : Cond.fieldLink RW 19 RW (TW 1).2.1 (TW 1).2.2.1 ∈ zWS := zin 96 (by decide +kernel) (by decide +kernel)
theorem jfW_23 : Cond.fieldLink RW 23 RW (TW 2).2.1 (TW 2).2.2.1 ∈ zWS := zin 97 (by decide +kernel) (by decide +kernel)
theorem jfW_26 : Cond.fieldLink RW 26 RW (TW 3).2.1 (TW 3).2.2.1 ∈ zWS := zin 98 (by decide +kernel) (by decide +kernel)
theorem jfM_7 : Cond.fieldLink RM 7 RM (TM 1).2.1 (TM 1).2.2.1 ∈ zWS := zin 678 (by decide +kernel) (by decide +kernel)
theorem jfM_13 : Cond.fieldLink RM 13 RM (TM 2).2.1 (TM 2).2.2.1 ∈ zWS := zin 679 (by decide +kernel) (by decide +kernel)
theorem jfM_16 : Cond.fieldLink RM 16 RM (TM 3).2.1 (TM 3).2.2.1 ∈ zWS := zin 680 (by decide +kernel) (by decide +kernel)
theorem jfM_19 : Cond.fieldLink RM 19 RM (TM 4).2.1 (TM 4).2.2.1 ∈ zWS := zin 681 (by decide +kernel) (by decide +kernel)
theorem jfM_22 : Cond.fieldLink RM 22 RM (TM 5).2.1 (TM 5).2.2.1 ∈ zWS := zin 682 (by decide +kernel) (by decide +kernel)
theorem jfM_25 : Cond.fieldLink RM 25 RM (TM 6).2.1 (TM 6).2.2.1 ∈ zWS := zin 683 (by decide +kernel) (by decide +kernel)
theorem jfM_29 : Cond.fieldLink RM 29 RM (TM 9).2.1 (TM 9).2.2.1 ∈ zWS := zin 686 (by decide +kernel) (by decide +kernel)
theorem jfM_32 : Cond.fieldLink RM 32 RM (TM 10).2.1 (TM 10).2.2.1 ∈ zWS := zin 687 (by decide +kernel) (by decide +kernel)
theorem jfM_35 : Cond.fieldLink RM 35 RM (TM 11).2.1 (TM 11).2.2.1 ∈ zWS := zin 688 (by decide +kernel) (by decide +kernel)
theorem jfM_38 : Cond.fieldLink RM 38 RM (TM 12).2.1 (TM 12).2.2.1 ∈ zWS := zin 689 (by decide +kernel) (by decide +kernel)
theorem jfM_41 : Cond.fieldLink RM 41 RM (TM 15).2.1 (TM 15).2.2.1 ∈ zWS := zin 692 (by decide +kernel) (by decide +kernel)
theorem jfM_45 : Cond.fieldLink RM 45 RM (TM 16).2.1 (TM 16).2.2.1 ∈ zWS := zin 693 (by decide +kernel) (by decide +kernel)
theorem jfM_48 : Cond.fieldLink RM 48 RM (TM 17).2.1 (TM 17).2.2.1 ∈ zWS := zin 694 (by decide +kernel) (by decide +kernel)
theorem jfM_51 : Cond.fieldLink RM 51 RM (TM 18).2.1 (TM 18).2.2.1 ∈ zWS := zin 695 (by decide +kernel) (by decide +kernel)
theorem jfM_54 : Cond.fieldLink RM 54 RM (TM 20).2.1 (TM 20).2.2.1 ∈ zWS := zin 697 (by decide +kernel) (by decide +kernel)
theorem jfM_57 : Cond.fieldLink RM 57 RM (TM 21).2.1 (TM 21).2.2.1 ∈ zWS := zin 698 (by decide +kernel) (by decide +kernel)
theorem jfM_60 : Cond.fieldLink RM 60 RM (TM 22).2.1 (TM 22).2.2.1 ∈ zWS := zin 699 (by decide +kernel) (by decide +kernel)
theorem jfM_63 : Cond.fieldLink RM 63 RM (TM 23).2.1 (TM 23).2.2.1 ∈ zWS := zin 700 (by decide +kernel) (by decide +kernel)
theorem jfM_66 : Cond.fieldLink RM 66 RM (TM 0).2.1 (TM 0).2.2.1 ∈ zWS := zin 677 (by decide +kernel) (by decide +kernel)
theorem jfM_70 : Cond.fieldLink RM 70 RM (TM 13).2.1 (TM 13).2.2.1 ∈ zWS := zin 690 (by decide +kernel) (by decide +kernel)
theorem jfM_73 : Cond.fieldLink RM 73 RM (TM 19).2.1 (TM 19).2.2.1 ∈ zWS := zin 696 (by decide +kernel) (by decide +kernel)
theorem jfM_82 : Cond.fieldLink RM 82 RM (TM 31).2.1 (TM 31).2.2.1 ∈ zWS := zin 708 (by decide +kernel) (by decide +kernel)
theorem jfM_86 : Cond.fieldLink RM 86 RM (TM 29).2.1 (TM 29).2.2.1 ∈ zWS := zin 706 (by decide +kernel) (by decide +kernel)
theorem jfM_89 : Cond.fieldLink RM 89 RM (TM 30).2.1 (TM 30).2.2.1 ∈ zWS := zin 707 (by decide +kernel) (by decide +kernel)
theorem jfM_92 : Cond.fieldLink RM 92 RM (TM 32).2.1 (TM 32).2.2.1 ∈ zWS := zin 709 (by decide +kernel) (by decide +kernel)
theorem jfM_95 : Cond.fieldLink RM 95 RM (TM 33).2.1 (TM 33).2.2.1 ∈ zWS := zin 710 (by decide +kernel) (by decide +kernel)
theorem jfM_123 : Cond.fieldLink RM 123 RM (TM 35).2.1 (TM 35).2.2.1 ∈ zWS := zin 712 (by decide +kernel) (by decide +kernel)
theorem jfM_126 : Cond.fieldLink RM 126 RM (TM 38).2.1 (TM 38).2.2.1 ∈ zWS := zin 715 (by decide +kernel) (by decide +kernel)
theorem jfM_129 : Cond.fieldLink RM 129 RM (TM 37).2.1 (TM 37).2.2.1 ∈ zWS := zin 714 (by decide +kernel) (by decide +kernel)
theorem jfM_136 : Cond.fieldLink RM 136 RM (TM 39).2.1 (TM 39).2.2.1 ∈ zWS := zin 716 (by decide +kernel) (by decide +kernel)
theorem jfM_140 : Cond.fieldLink RM 140 RM (TM 34).2.1 (TM 34).2.2.1 ∈ zWS := zin 711 (by decide +kernel) (by decide +kernel)
theorem jfM_143 : Cond.fieldLink RM 143 RM (TM 36).2.1 (TM 36).2.2.1 ∈ zWS := zin 713 (by decide +kernel) (by decide +kernel)
theorem jfM_146 : Cond.fieldLink RM 146 RM (TM 14).2.1 (TM 14).2.2.1 ∈ zWS := zin 691 (by decide +kernel) (by decide +kernel)
theorem jfM_181 : Cond.fieldLink RM 181 RM (TM 24).2.1 (TM 24).2.2.1 ∈ zWS := zin 701 (by decide +kernel) (by decide +kernel)
theorem jfM_217 : Cond.fieldLink RM 217 RM (TM 8).2.1 (TM 8).2.2.1 ∈ zWS := zin 685 (by decide +kernel) (by decide +kernel)
theorem jfM_220 : Cond.fieldLink RM 220 RM (TM 7).2.1 (TM 7).2.2.1 ∈ zWS := zin 684 (by decide +kernel) (by decide +kernel)
theorem jfM_233 : Cond.fieldLink RM 233 RM (TM 40).2.1 (TM 40).2.2.1 ∈ zWS := zin 717 (by decide +kernel) (by decide +kernel)
theorem jfM_236 : Cond.fieldLink RM 236 RM (TM 41).2.1 (TM 41).2.2.1 ∈ zWS := zin 718 (by decide +kernel) (by decide +kernel)
theorem jfM_239 : Cond.fieldLink RM 239 RM (TM 42).2.1 (TM 42).2.2.1 ∈ zWS := zin 719 (by decide +kernel) (by decide +kernel)
theorem jfM_242 : Cond.fieldLink RM 242 RM (TM 43).2.1 (TM 43).2.2.1 ∈ zWS := zin 720 (by decide +kernel) (by decide +kernel)
theorem jfM_245 : Cond.fieldLink RM 245 RM (TM 25).2.1 (TM 25).2.2.1 ∈ zWS := zin 702 (by decide +kernel) (by decide +kernel)
theorem jfM_248 : Cond.fieldLink RM 248 RM (TM 28).2.1 (TM 28).2.2.1 ∈ zWS := zin 705 (by decide +kernel) (by decide +kernel)
theorem jfM_258 : Cond.fieldLink RM 258 RM (TM 26).2.1 (TM 26).2.2.1 ∈ zWS := zin 703 (by decide +kernel) (by decide +kernel)
theorem jfM_261 : Cond.fieldLink RM 261 RM (TM 27).2.1 (TM 27).2.2.1 ∈ zWS := zin 704 (by decide +kernel) (by decide +kernel)
abbrev cK_init : ByteArray := prog_1_method_1_code
def yK_init : MethodName := ⟨RK, "<init>", "()V"⟩
def mK_init : zMd := (yK_init, cK_init, 2, none)
set_option maxRecDepth 20000 in
theorem kK_init : zKn mK_init 0 := ⟨zin 21 rfl rfl, zin 1 (by decide +kernel) (by decide +kernel), ⟨by decide +kernel, by decide +kernel⟩, by decide +kernel⟩
theorem kiK_init : Cond.instanceMethod yK_init ∈ zWS := zin 20 (by decide +kernel) (by decide +kernel)
def rK_init : Room := { frames := 4, cells := 0, slots := 0, locals := 54 }
abbrev cK_member : ByteArray := prog_1_method_2_code
def yK_member : MethodName := ⟨RK, "member", "(IIIZ)I"⟩
def mK_member : zMd := (yK_member, cK_member, 5, (some .int))
set_option maxRecDepth 20000 in
theorem kK_member : zKn mK_member 4 := ⟨zin 172 rfl rfl, zin 1 (by decide +kernel) (by decide +kernel), ⟨by decide +kernel, by decide +kernel⟩, by decide +kernel⟩
theorem kiK_member : Cond.instanceMethod yK_member ∈ zWS := zin 170 (by decide +kernel) (by decide +kernel)
theorem kvK_member : Cond.selects RK yK_member yK_member ∈ zWS := zin 171 (by decide +kernel) (by decide +kernel)
def rK_member : Room := { frames := 6, cells := 0, slots := 0, locals := 96 }
abbrev cK_row : ByteArray := prog_1_method_3_code
def yK_row : MethodName := ⟨RK, "row", "()I"⟩
def mK_row : zMd := (yK_row, cK_row, 2, (some .int))
set_option maxRecDepth 20000 in
theorem kK_row : zKn mK_row 0 := ⟨zin 291 rfl rfl, zin 1 (by decide +kernel) (by decide +kernel), ⟨by decide +kernel, by decide +kernel⟩, by decide +kernel⟩
theorem kiK_row : Cond.instanceMethod yK_row ∈ zWS := zin 289 (by decide +kernel) (by decide +kernel)
theorem kvK_row : Cond.selects RK yK_row yK_row ∈ zWS := zin 290 (by decide +kernel) (by decide +kernel)
def rK_row : Room := { frames := 7, cells := 0, slots := 0, locals := 108 }
abbrev cK_and : ByteArray := prog_1_method_4_code
def yK_and : MethodName := ⟨RK, "and", "()V"⟩
def mK_and : zMd := (yK_and, cK_and, 1, none)
set_option maxRecDepth 20000 in
theorem kK_and : zKn mK_and 0 := ⟨zin 395 rfl rfl, zin 1 (by decide +kernel) (by decide +kernel), ⟨by decide +kernel, by decide +kernel⟩, by decide +kernel⟩
theorem kiK_and : Cond.instanceMethod yK_and ∈ zWS := zin 393 (by decide +kernel) (by decide +kernel)
theorem kvK_and : Cond.selects RK yK_and yK_and ∈ zWS := zin 394 (by decide +kernel) (by decide +kernel)
def rK_and : Room := { frames := 7, cells := 0, slots := 0, locals := 109 }
abbrev cK_or : ByteArray := prog_1_method_5_code
def yK_or : MethodName := ⟨RK, "or", "()V"⟩
def mK_or : zMd := (yK_or, cK_or, 1, none)
set_option maxRecDepth 20000 in
theorem kK_or : zKn mK_or 0 := ⟨zin 457 rfl rfl, zin 1 (by decide +kernel) (by decide +kernel), ⟨by decide +kernel, by decide +kernel⟩, by decide +kernel⟩
theorem kiK_or : Cond.instanceMethod yK_or ∈ zWS := zin 455 (by decide +kernel) (by decide +kernel)
theorem kvK_or : Cond.selects RK yK_or yK_or ∈ zWS := zin 456 (by decide +kernel) (by decide +kernel)
def rK_or : Room := { frames := 7, cells := 0, slots := 0, locals := 109 }
abbrev cK_not : ByteArray := prog_1_method_6_code
def yK_not : MethodName := ⟨RK, "not", "()V"⟩
def mK_not : zMd := (yK_not, cK_not, 1, none)
set_option maxRecDepth 20000 in
theorem kK_not : zKn mK_not 0 := ⟨zin 469 rfl rfl, zin 1 (by decide +kernel) (by decide +kernel), ⟨by decide +kernel, by decide +kernel⟩, by decide +kernel⟩
theorem kiK_not : Cond.instanceMethod yK_not ∈ zWS := zin 467 (by decide +kernel) (by decide +kernel)
theorem kvK_not : Cond.selects RK yK_not yK_not ∈ zWS := zin 468 (by decide +kernel) (by decide +kernel)
def rK_not : Room := { frames := 7, cells := 0, slots := 0, locals := 109 }
abbrev cK_free : ByteArray := prog_1_method_7_code
def yK_free : MethodName := ⟨RK, "free", "(I)V"⟩
def mK_free : zMd := (yK_free, cK_free, 2, none)
set_option maxRecDepth 20000 in
theorem kK_free : zKn mK_free 1 := ⟨zin 493 rfl rfl, zin 1 (by decide +kernel) (by decide +kernel), ⟨by decide +kernel, by decide +kernel⟩, by decide +kernel⟩
theorem kiK_free : Cond.instanceMethod yK_free ∈ zWS := zin 491 (by decide +kernel) (by decide +kernel)
theorem kvK_free : Cond.selects RK yK_free yK_free ∈ zWS := zin 492 (by decide +kernel) (by decide +kernel)
def rK_free : Room := { frames := 7, cells := 0, slots := 0, locals := 109 }
abbrev cK_keep : ByteArray := prog_1_method_8_code
def yK_keep : MethodName := ⟨RK, "keep", "(I)V"⟩
def mK_keep : zMd := (yK_keep, cK_keep, 2, none)
set_option maxRecDepth 20000 in
theorem kK_keep : zKn mK_keep 1 := ⟨zin 517 rfl rfl, zin 1 (by decide +kernel) (by decide +kernel), ⟨by decide +kernel, by decide +kernel⟩, by decide +kernel⟩
theorem kiK_keep : Cond.instanceMethod yK_keep ∈ zWS := zin 515 (by decide +kernel) (by decide +kernel)
theorem kvK_keep : Cond.selects RK yK_keep yK_keep ∈ zWS := zin 516 (by decide +kernel) (by decide +kernel)
def rK_keep : Room := { frames := 7, cells := 0, slots := 0, locals := 109 }
abbrev cK_load : ByteArray := prog_1_method_9_code
def yK_load : MethodName := ⟨RK, "load", "(I)I"⟩
def mK_load : zMd := (yK_load, cK_load, 2, (some .int))
set_option maxRecDepth 20000 in
theorem kK_load : zKn mK_load 1 := ⟨zin 528 rfl rfl, zin 1 (by decide +kernel) (by decide +kernel), ⟨by decide +kernel, by decide +kernel⟩, by decide +kernel⟩
theorem kiK_load : Cond.instanceMethod yK_load ∈ zWS := zin 526 (by decide +kernel) (by decide +kernel)
theorem kvK_load : Cond.selects RK yK_load yK_load ∈ zWS := zin 527 (by decide +kernel) (by decide +kernel)
def rK_load : Room := { frames := 7, cells := 0, slots := 0, locals := 108 }
abbrev cK_drop : ByteArray := prog_1_method_10_code
def yK_drop : MethodName := ⟨RK, "drop", "()Z"⟩
def mK_drop : zMd := (yK_drop, cK_drop, 1, (some .boolean))
set_option maxRecDepth 20000 in
theorem kK_drop : zKn mK_drop 0 := ⟨zin 159 rfl rfl, zin 1 (by decide +kernel) (by decide +kernel), ⟨by decide +kernel, by decide +kernel⟩, by decide +kernel⟩
theorem kiK_drop : Cond.instanceMethod yK_drop ∈ zWS := zin 157 (by decide +kernel) (by decide +kernel)
theorem kvK_drop : Cond.selects RK yK_drop yK_drop ∈ zWS := zin 158 (by decide +kernel) (by decide +kernel)
def rK_drop : Room := { frames := 0, cells := 0, slots := 0, locals := 0 }
abbrev cK_pile : ByteArray := prog_1_method_11_code
def yK_pile : MethodName := ⟨RK, "pile", "()I"⟩
def mK_pile : zMd := (yK_pile, cK_pile, 1, (some .int))
set_option maxRecDepth 20000 in
theorem kK_pile : zKn mK_pile 0 := ⟨zin 163 rfl rfl, zin 1 (by decide +kernel) (by decide +kernel), ⟨by decide +kernel, by decide +kernel⟩, by decide +kernel⟩
theorem kiK_pile : Cond.instanceMethod yK_pile ∈ zWS := zin 161 (by decide +kernel) (by decide +kernel)
theorem kvK_pile : Cond.selects RK yK_pile yK_pile ∈ zWS := zin 162 (by decide +kernel) (by decide +kernel)
def rK_pile : Room := { frames := 0, cells := 0, slots := 0, locals := 0 }
abbrev cK_rows : ByteArray := prog_1_method_12_code
def yK_rows : MethodName := ⟨RK, "rows", "()I"⟩
def mK_rows : zMd := (yK_rows, cK_rows, 1, (some .int))
set_option maxRecDepth 20000 in
theorem kK_rows : zKn mK_rows 0 := ⟨zin 535 rfl rfl, zin 1 (by decide +kernel) (by decide +kernel), ⟨by decide +kernel, by decide +kernel⟩, by decide +kernel⟩
theorem kiK_rows : Cond.instanceMethod yK_rows ∈ zWS := zin 533 (by decide +kernel) (by decide +kernel)
theorem kvK_rows : Cond.selects RK yK_rows yK_rows ∈ zWS := zin 534 (by decide +kernel) (by decide +kernel)
def rK_rows : Room := { frames := 7, cells := 0, slots := 0, locals := 109 }
abbrev cK_members : ByteArray := prog_1_method_13_code
def yK_members : MethodName := ⟨RK, "members", "(I)I"⟩
def mK_members : zMd := (yK_members, cK_members, 2, (some .int))
set_option maxRecDepth 20000 in
theorem kK_members : zKn mK_members 1 := ⟨zin 544 rfl rfl, zin 1 (by decide +kernel) (by decide +kernel), ⟨by decide +kernel, by decide +kernel⟩, by decide +kernel⟩
theorem kiK_members : Cond.instanceMethod yK_members ∈ zWS := zin 542 (by decide +kernel) (by decide +kernel)
theorem kvK_members : Cond.selects RK yK_members yK_members ∈ zWS := zin 543 (by decide +kernel) (by decide +kernel)
def rK_members : Room := { frames := 7, cells := 0, slots := 0, locals := 109 }
abbrev cK_part : ByteArray := prog_1_method_14_code
def yK_part : MethodName := ⟨RK, "part", "(III)I"⟩
def mK_part : zMd := (yK_part, cK_part, 5, (some .int))
set_option maxRecDepth 20000 in
theorem kK_part : zKn mK_part 3 := ⟨zin 572 rfl rfl, zin 1 (by decide +kernel) (by decide +kernel), ⟨by decide +kernel, by decide +kernel⟩, by decide +kernel⟩
theorem kiK_part : Cond.instanceMethod yK_part ∈ zWS := zin 570 (by decide +kernel) (by decide +kernel)
theorem kvK_part : Cond.selects RK yK_part yK_part ∈ zWS := zin 571 (by decide +kernel) (by decide +kernel)
def rK_part : Room := { frames := 7, cells := 0, slots := 0, locals := 109 }
abbrev cK_holds : ByteArray := prog_1_method_15_code
def yK_holds : MethodName := ⟨RK, "holds", "(III)Z"⟩
def mK_holds : zMd := (yK_holds, cK_holds, 4, (some .boolean))
set_option maxRecDepth 20000 in
theorem kK_holds : zKn mK_holds 3 := ⟨zin 585 rfl rfl, zin 1 (by decide +kernel) (by decide +kernel), ⟨by decide +kernel, by decide +kernel⟩, by decide +kernel⟩
theorem kiK_holds : Cond.instanceMethod yK_holds ∈ zWS := zin 583 (by decide +kernel) (by decide +kernel)
theorem kvK_holds : Cond.selects RK yK_holds yK_holds ∈ zWS := zin 584 (by decide +kernel) (by decide +kernel)
def rK_holds : Room := { frames := 7, cells := 0, slots := 0, locals := 109 }
abbrev cK_within : ByteArray := prog_1_method_16_code
def yK_within : MethodName := ⟨RK, "within", "()Z"⟩
def mK_within : zMd := (yK_within, cK_within, 1, (some .boolean))
set_option maxRecDepth 20000 in
theorem kK_within : zKn mK_within 0 := ⟨zin 602 rfl rfl, zin 1 (by decide +kernel) (by decide +kernel), ⟨by decide +kernel, by decide +kernel⟩, by decide +kernel⟩
theorem kiK_within : Cond.instanceMethod yK_within ∈ zWS := zin 600 (by decide +kernel) (by decide +kernel)
theorem kvK_within : Cond.selects RK yK_within yK_within ∈ zWS := zin 601 (by decide +kernel) (by decide +kernel)
def rK_within : Room := { frames := 7, cells := 0, slots := 0, locals := 109 }
abbrev cK_least : ByteArray := prog_1_method_17_code
def yK_least : MethodName := ⟨RK, "least", "(II)I"⟩
def mK_least : zMd := (yK_least, cK_least, 3, (some .int))
set_option maxRecDepth 20000 in
theorem kK_least : zKn mK_least 2 := ⟨zin 610 rfl rfl, zin 1 (by decide +kernel) (by decide +kernel), ⟨by decide +kernel, by decide +kernel⟩, by decide +kernel⟩
theorem kiK_least : Cond.instanceMethod yK_least ∈ zWS := zin 608 (by decide +kernel) (by decide +kernel)
theorem kvK_least : Cond.selects RK yK_least yK_least ∈ zWS := zin 609 (by decide +kernel) (by decide +kernel)
def rK_least : Room := { frames := 7, cells := 0, slots := 0, locals := 109 }
abbrev cK_value : ByteArray := prog_1_method_18_code
def yK_value : MethodName := ⟨RK, "value", "(I)J"⟩
def mK_value : zMd := (yK_value, cK_value, 2, (some .long))
set_option maxRecDepth 20000 in
theorem kK_value : zKn mK_value 1 := ⟨zin 661 rfl rfl, zin 1 (by decide +kernel) (by decide +kernel), ⟨by decide +kernel, by decide +kernel⟩, by decide +kernel⟩
theorem kiK_value : Cond.instanceMethod yK_value ∈ zWS := zin 659 (by decide +kernel) (by decide +kernel)
theorem kvK_value : Cond.selects RK yK_value yK_value ∈ zWS := zin 660 (by decide +kernel) (by decide +kernel)
def rK_value : Room := { frames := 6, cells := 0, slots := 0, locals := 96 }
abbrev cK_requireRoom : ByteArray := prog_1_method_19_code
def yK_requireRoom : MethodName := ⟨RK, "requireRoom", "()V"⟩
def mK_requireRoom : zMd := (yK_requireRoom, cK_requireRoom, 1, none)
set_option maxRecDepth 20000 in
theorem kK_requireRoom : zKn mK_requireRoom 0 := ⟨zin 295 rfl rfl, zin 1 (by decide +kernel) (by decide +kernel), ⟨by decide +kernel, by decide +kernel⟩, by decide +kernel⟩
theorem kiK_requireRoom : Cond.instanceMethod yK_requireRoom ∈ zWS := zin 294 (by decide +kernel) (by decide +kernel)
theorem kvK_requireRoom : Cond.selects RK yK_requireRoom yK_requireRoom ∈ zWS := zsel (y := yK_requireRoom) 4 (by decide +kernel)
def rK_requireRoom : Room := { frames := 6, cells := 0, slots := 0, locals := 96 }
abbrev cK_requireHeight : ByteArray := prog_1_method_20_code
def yK_requireHeight : MethodName := ⟨RK, "requireHeight", "(I)V"⟩
def mK_requireHeight : zMd := (yK_requireHeight, cK_requireHeight, 2, none)
set_option maxRecDepth 20000 in
theorem kK_requireHeight : zKn mK_requireHeight 1 := ⟨zin 399 rfl rfl, zin 1 (by decide +kernel) (by decide +kernel), ⟨by decide +kernel, by decide +kernel⟩, by decide +kernel⟩
theorem kiK_requireHeight : Cond.instanceMethod yK_requireHeight ∈ zWS := zin 398 (by decide +kernel) (by decide +kernel)
theorem kvK_requireHeight : Cond.selects RK yK_requireHeight yK_requireHeight ∈ zWS := zsel (y := yK_requireHeight) 10 (by decide +kernel)
def rK_requireHeight : Room := { frames := 6, cells := 0, slots := 0, locals := 96 }
abbrev cK_requireRow : ByteArray := prog_1_method_21_code
def yK_requireRow : MethodName := ⟨RK, "requireRow", "(I)V"⟩
def mK_requireRow : zMd := (yK_requireRow, cK_requireRow, 2, none)
set_option maxRecDepth 20000 in
theorem kK_requireRow : zKn mK_requireRow 1 := ⟨zin 548 rfl rfl, zin 1 (by decide +kernel) (by decide +kernel), ⟨by decide +kernel, by decide +kernel⟩, by decide +kernel⟩
theorem kiK_requireRow : Cond.instanceMethod yK_requireRow ∈ zWS := zin 547 (by decide +kernel) (by decide +kernel)
theorem kvK_requireRow : Cond.selects RK yK_requireRow yK_requireRow ∈ zWS := zsel (y := yK_requireRow) 13 (by decide +kernel)
def rK_requireRow : Room := { frames := 6, cells := 0, slots := 0, locals := 96 }
abbrev cK_requireTable : ByteArray := prog_1_method_22_code
def yK_requireTable : MethodName := ⟨RK, "requireTable", "(I)V"⟩
def mK_requireTable : zMd := (yK_requireTable, cK_requireTable, 1, none)
set_option maxRecDepth 20000 in
theorem kK_requireTable : zKn mK_requireTable 1 := ⟨zin 520 rfl rfl, zin 1 (by decide +kernel) (by decide +kernel), ⟨by decide +kernel, by decide +kernel⟩, by decide +kernel⟩
theorem ksK_requireTable : Cond.static yK_requireTable ∈ zWS := zin 519 (by decide +kernel) (by decide +kernel)
def rK_requireTable : Room := { frames := 6, cells := 0, slots := 0, locals := 96 }
abbrev cK_requireLimitsKept : ByteArray := prog_1_method_23_code
def yK_requireLimitsKept : MethodName := ⟨RK, "requireLimitsKept", "(Z)V"⟩
def mK_requireLimitsKept : zMd := (yK_requireLimitsKept, cK_requireLimitsKept, 1, none)
set_option maxRecDepth 20000 in
theorem kK_requireLimitsKept : zKn mK_requireLimitsKept 1 := ⟨zin 423 rfl rfl, zin 1 (by decide +kernel) (by decide +kernel), ⟨by decide +kernel, by decide +kernel⟩, by decide +kernel⟩
theorem ksK_requireLimitsKept : Cond.static yK_requireLimitsKept ∈ zWS := zin 422 (by decide +kernel) (by decide +kernel)
def rK_requireLimitsKept : Room := { frames := 6, cells := 0, slots := 0, locals := 96 }
abbrev cK_exceeds : ByteArray := prog_1_method_24_code
def yK_exceeds : MethodName := ⟨RK, "exceeds", "(JJ)Z"⟩
def mK_exceeds : zMd := (yK_exceeds, cK_exceeds, 4, (some .boolean))
set_option maxRecDepth 20000 in
theorem kK_exceeds : zKn mK_exceeds 2 := ⟨zin 176 rfl rfl, zin 1 (by decide +kernel) (by decide +kernel), ⟨by decide +kernel, by decide +kernel⟩, by decide +kernel⟩
theorem ksK_exceeds : Cond.static yK_exceeds ∈ zWS := zin 175 (by decide +kernel) (by decide +kernel)
def rK_exceeds : Room := { frames := 0, cells := 0, slots := 0, locals := 0 }
abbrev cK_commonDivisor : ByteArray := prog_1_method_25_code
def yK_commonDivisor : MethodName := ⟨RK, "commonDivisor", "(JJ)J"⟩
def mK_commonDivisor : zMd := (yK_commonDivisor, cK_commonDivisor, 11, (some .long))
set_option maxRecDepth 20000 in
theorem kK_commonDivisor : zKn mK_commonDivisor 2 := ⟨zin 269 rfl rfl, zin 1 (by decide +kernel) (by decide +kernel), ⟨by decide +kernel, by decide +kernel⟩, by decide +kernel⟩
theorem ksK_commonDivisor : Cond.static yK_commonDivisor ∈ zWS := zin 268 (by decide +kernel) (by decide +kernel)
def rK_commonDivisor : Room := { frames := 1, cells := 0, slots := 0, locals := 13 }
abbrev cM_init : ByteArray := prog_8_method_1_code
def yM_init : MethodName := ⟨RM, "<init>", "()V"⟩
def mM_init : zMd := (yM_init, cM_init, 1, none)
set_option maxRecDepth 20000 in
theorem kM_init : zKn mM_init 0 := ⟨zin 675 rfl rfl, zin 7 (by decide +kernel) (by decide +kernel), ⟨by decide +kernel, by decide +kernel⟩, by decide +kernel⟩
theorem kiM_init : Cond.instanceMethod yM_init ∈ zWS := zin 674 (by decide +kernel) (by decide +kernel)
def rM_init : Room := { frames := 1, cells := 0, slots := 0, locals := 12 }
abbrev cM_thrown : ByteArray := prog_8_method_2_code
def yM_thrown : MethodName := ⟨RM, "thrown", "()I"⟩
def mM_thrown : zMd := (yM_thrown, cM_thrown, 1, (some .int))
set_option maxRecDepth 20000 in
theorem kM_thrown : zKn mM_thrown 0 := ⟨zin 813 rfl rfl, zin 7 (by decide +kernel) (by decide +kernel), ⟨by decide +kernel, by decide +kernel⟩, by decide +kernel⟩
theorem kiM_thrown : Cond.instanceMethod yM_thrown ∈ zWS := zin 811 (by decide +kernel) (by decide +kernel)
theorem kvM_thrown : Cond.selects RM yM_thrown yM_thrown ∈ zWS := zin 812 (by decide +kernel) (by decide +kernel)
def rM_thrown : Room := { frames := 0, cells := 0, slots := 0, locals := 0 }
abbrev cM_place : ByteArray := prog_8_method_3_code
def yM_place : MethodName := ⟨RM, "place", "(III)I"⟩
def mM_place : zMd := (yM_place, cM_place, 3, (some .int))
set_option maxRecDepth 20000 in
theorem kM_place : zKn mM_place 3 := ⟨zin 912 rfl rfl, zin 7 (by decide +kernel) (by decide +kernel), ⟨by decide +kernel, by decide +kernel⟩, by decide +kernel⟩
theorem ksM_place : Cond.static yM_place ∈ zWS := zin 911 (by decide +kernel) (by decide +kernel)
def rM_place : Room := { frames := 0, cells := 0, slots := 0, locals := 0 }
abbrev cM_ask : ByteArray := prog_8_method_4_code
def yM_ask : MethodName := ⟨RM, "ask", "()V"⟩
def mM_ask : zMd := (yM_ask, cM_ask, 2, none)
set_option maxRecDepth 20000 in
theorem kM_ask : zKn mM_ask 0 := ⟨zin 861 rfl rfl, zin 7 (by decide +kernel) (by decide +kernel), ⟨by decide +kernel, by decide +kernel⟩, by decide +kernel⟩
theorem kiM_ask : Cond.instanceMethod yM_ask ∈ zWS := zin 860 (by decide +kernel) (by decide +kernel)
theorem kvM_ask : Cond.selects RM yM_ask yM_ask ∈ zWS := zsel (y := yM_ask) 29 (by decide +kernel)
def rM_ask : Room := { frames := 0, cells := 0, slots := 0, locals := 0 }
abbrev cM_cross : ByteArray := prog_8_method_5_code
def yM_cross : MethodName := ⟨RM, "cross", "(II)J"⟩
def mM_cross : zMd := (yM_cross, cM_cross, 3, (some .long))
set_option maxRecDepth 20000 in
theorem kM_cross : zKn mM_cross 2 := ⟨zin 873 rfl rfl, zin 7 (by decide +kernel) (by decide +kernel), ⟨by decide +kernel, by decide +kernel⟩, by decide +kernel⟩
theorem kiM_cross : Cond.instanceMethod yM_cross ∈ zWS := zin 872 (by decide +kernel) (by decide +kernel)
theorem kvM_cross : Cond.selects RM yM_cross yM_cross ∈ zWS := zsel (y := yM_cross) 32 (by decide +kernel)
def rM_cross : Room := { frames := 0, cells := 0, slots := 0, locals := 0 }
abbrev cM_isBand : ByteArray := prog_8_method_6_code
def yM_isBand : MethodName := ⟨RM, "isBand", "()Z"⟩
def mM_isBand : zMd := (yM_isBand, cM_isBand, 3, (some .boolean))
set_option maxRecDepth 20000 in
theorem kM_isBand : zKn mM_isBand 0 := ⟨zin 869 rfl rfl, zin 7 (by decide +kernel) (by decide +kernel), ⟨by decide +kernel, by decide +kernel⟩, by decide +kernel⟩
theorem kiM_isBand : Cond.instanceMethod yM_isBand ∈ zWS := zin 868 (by decide +kernel) (by decide +kernel)
theorem kvM_isBand : Cond.selects RM yM_isBand yM_isBand ∈ zWS := zsel (y := yM_isBand) 31 (by decide +kernel)
def rM_isBand : Room := { frames := 1, cells := 0, slots := 0, locals := 14 }
abbrev cM_corner : ByteArray := prog_8_method_7_code
def yM_corner : MethodName := ⟨RM, "corner", "(II)Z"⟩
def mM_corner : zMd := (yM_corner, cM_corner, 9, (some .boolean))
set_option maxRecDepth 20000 in
theorem kM_corner : zKn mM_corner 2 := ⟨zin 884 rfl rfl, zin 7 (by decide +kernel) (by decide +kernel), ⟨by decide +kernel, by decide +kernel⟩, by decide +kernel⟩
theorem kiM_corner : Cond.instanceMethod yM_corner ∈ zWS := zin 883 (by decide +kernel) (by decide +kernel)
theorem kvM_corner : Cond.selects RM yM_corner yM_corner ∈ zWS := zsel (y := yM_corner) 34 (by decide +kernel)
def rM_corner : Room := { frames := 1, cells := 0, slots := 0, locals := 14 }
abbrev cM_way : ByteArray := prog_8_method_8_code
def yM_way : MethodName := ⟨RM, "way", "(IZ)Z"⟩
def mM_way : zMd := (yM_way, cM_way, 5, (some .boolean))
set_option maxRecDepth 20000 in
theorem kM_way : zKn mM_way 2 := ⟨zin 893 rfl rfl, zin 7 (by decide +kernel) (by decide +kernel), ⟨by decide +kernel, by decide +kernel⟩, by decide +kernel⟩
theorem kiM_way : Cond.instanceMethod yM_way ∈ zWS := zin 892 (by decide +kernel) (by decide +kernel)
theorem kvM_way : Cond.selects RM yM_way yM_way ∈ zWS := zsel (y := yM_way) 36 (by decide +kernel)
def rM_way : Room := { frames := 0, cells := 0, slots := 0, locals := 0 }
abbrev cM_inCorner : ByteArray := prog_8_method_9_code
def yM_inCorner : MethodName := ⟨RM, "inCorner", "()J"⟩
def mM_inCorner : zMd := (yM_inCorner, cM_inCorner, 4, (some .long))
set_option maxRecDepth 20000 in
theorem kM_inCorner : zKn mM_inCorner 0 := ⟨zin 889 rfl rfl, zin 7 (by decide +kernel) (by decide +kernel), ⟨by decide +kernel, by decide +kernel⟩, by decide +kernel⟩
theorem kiM_inCorner : Cond.instanceMethod yM_inCorner ∈ zWS := zin 888 (by decide +kernel) (by decide +kernel)
theorem kvM_inCorner : Cond.selects RM yM_inCorner yM_inCorner ∈ zWS := zsel (y := yM_inCorner) 35 (by decide +kernel)
def rM_inCorner : Room := { frames := 0, cells := 0, slots := 0, locals := 0 }
abbrev cM_inWay : ByteArray := prog_8_method_10_code
def yM_inWay : MethodName := ⟨RM, "inWay", "()J"⟩
def mM_inWay : zMd := (yM_inWay, cM_inWay, 4, (some .long))
set_option maxRecDepth 20000 in
theorem kM_inWay : zKn mM_inWay 0 := ⟨zin 897 rfl rfl, zin 7 (by decide +kernel) (by decide +kernel), ⟨by decide +kernel, by decide +kernel⟩, by decide +kernel⟩
theorem kiM_inWay : Cond.instanceMethod yM_inWay ∈ zWS := zin 896 (by decide +kernel) (by decide +kernel)
theorem kvM_inWay : Cond.selects RM yM_inWay yM_inWay ∈ zWS := zsel (y := yM_inWay) 37 (by decide +kernel)
def rM_inWay : Room := { frames := 0, cells := 0, slots := 0, locals := 0 }
abbrev cM_strictOnes : ByteArray := prog_8_method_11_code
def yM_strictOnes : MethodName := ⟨RM, "strictOnes", "()J"⟩
def mM_strictOnes : zMd := (yM_strictOnes, cM_strictOnes, 4, (some .long))
set_option maxRecDepth 20000 in
theorem kM_strictOnes : zKn mM_strictOnes 0 := ⟨zin 901 rfl rfl, zin 7 (by decide +kernel) (by decide +kernel), ⟨by decide +kernel, by decide +kernel⟩, by decide +kernel⟩
theorem kiM_strictOnes : Cond.instanceMethod yM_strictOnes ∈ zWS := zin 900 (by decide +kernel) (by decide +kernel)
theorem kvM_strictOnes : Cond.selects RM yM_strictOnes yM_strictOnes ∈ zWS := zsel (y := yM_strictOnes) 38 (by decide +kernel)
def rM_strictOnes : Room := { frames := 0, cells := 0, slots := 0, locals := 0 }
abbrev cM_hasPoints : ByteArray := prog_8_method_12_code
def yM_hasPoints : MethodName := ⟨RM, "hasPoints", "()Z"⟩
def mM_hasPoints : zMd := (yM_hasPoints, cM_hasPoints, 6, (some .boolean))
set_option maxRecDepth 20000 in
theorem kM_hasPoints : zKn mM_hasPoints 0 := ⟨zin 865 rfl rfl, zin 7 (by decide +kernel) (by decide +kernel), ⟨by decide +kernel, by decide +kernel⟩, by decide +kernel⟩
theorem kiM_hasPoints : Cond.instanceMethod yM_hasPoints ∈ zWS := zin 864 (by decide +kernel) (by decide +kernel)
theorem kvM_hasPoints : Cond.selects RM yM_hasPoints yM_hasPoints ∈ zWS := zsel (y := yM_hasPoints) 30 (by decide +kernel)
def rM_hasPoints : Room := { frames := 2, cells := 0, slots := 0, locals := 53 }
abbrev cM_compare : ByteArray := prog_8_method_13_code
def yM_compare : MethodName := ⟨RM, "compare", "(JJJJ)I"⟩
def mM_compare : zMd := (yM_compare, cM_compare, 25, (some .int))
set_option maxRecDepth 20000 in
theorem kM_compare : zKn mM_compare 4 := ⟨zin 880 rfl rfl, zin 7 (by decide +kernel) (by decide +kernel), ⟨by decide +kernel, by decide +kernel⟩, by decide +kernel⟩
theorem ksM_compare : Cond.static yM_compare ∈ zWS := zin 879 (by decide +kernel) (by decide +kernel)
def rM_compare : Room := { frames := 0, cells := 0, slots := 0, locals := 0 }
abbrev cM_band : ByteArray := prog_8_method_14_code
def yM_band : MethodName := ⟨RM, "band", "()Z"⟩
def mM_band : zMd := (yM_band, cM_band, 6, (some .boolean))
set_option maxRecDepth 20000 in
theorem kM_band : zKn mM_band 0 := ⟨zin 877 rfl rfl, zin 7 (by decide +kernel) (by decide +kernel), ⟨by decide +kernel, by decide +kernel⟩, by decide +kernel⟩
theorem kiM_band : Cond.instanceMethod yM_band ∈ zWS := zin 876 (by decide +kernel) (by decide +kernel)
theorem kvM_band : Cond.selects RM yM_band yM_band ∈ zWS := zsel (y := yM_band) 33 (by decide +kernel)
def rM_band : Room := { frames := 1, cells := 0, slots := 0, locals := 36 }
abbrev cM_begin : ByteArray := prog_8_method_15_code
def yM_begin : MethodName := ⟨RM, "begin", "()V"⟩
def mM_begin : zMd := (yM_begin, cM_begin, 1, none)
set_option maxRecDepth 20000 in
theorem kM_begin : zKn mM_begin 0 := ⟨zin 830 rfl rfl, zin 7 (by decide +kernel) (by decide +kernel), ⟨by decide +kernel, by decide +kernel⟩, by decide +kernel⟩
theorem kiM_begin : Cond.instanceMethod yM_begin ∈ zWS := zin 829 (by decide +kernel) (by decide +kernel)
theorem kvM_begin : Cond.selects RM yM_begin yM_begin ∈ zWS := zsel (y := yM_begin) 22 (by decide +kernel)
def rM_begin : Room := { frames := 0, cells := 0, slots := 0, locals := 0 }
abbrev cM_add : ByteArray := prog_8_method_16_code
def yM_add : MethodName := ⟨RM, "add", "(JJJZ)V"⟩
def mM_add : zMd := (yM_add, cM_add, 8, none)
set_option maxRecDepth 20000 in
theorem kM_add : zKn mM_add 4 := ⟨zin 834 rfl rfl, zin 7 (by decide +kernel) (by decide +kernel), ⟨by decide +kernel, by decide +kernel⟩, by decide +kernel⟩
theorem kiM_add : Cond.instanceMethod yM_add ∈ zWS := zin 833 (by decide +kernel) (by decide +kernel)
theorem kvM_add : Cond.selects RM yM_add yM_add ∈ zWS := zsel (y := yM_add) 23 (by decide +kernel)
def rM_add : Room := { frames := 0, cells := 0, slots := 0, locals := 0 }
abbrev cM_addRow : ByteArray := prog_8_method_17_code
def yM_addRow : MethodName := ⟨RM, "addRow", "(III)V"⟩
def mM_addRow : zMd := (yM_addRow, cM_addRow, 6, none)
set_option maxRecDepth 20000 in
theorem kM_addRow : zKn mM_addRow 3 := ⟨zin 924 rfl rfl, zin 7 (by decide +kernel) (by decide +kernel), ⟨by decide +kernel, by decide +kernel⟩, by decide +kernel⟩
theorem kiM_addRow : Cond.instanceMethod yM_addRow ∈ zWS := zin 923 (by decide +kernel) (by decide +kernel)
theorem kvM_addRow : Cond.selects RM yM_addRow yM_addRow ∈ zWS := zsel (y := yM_addRow) 42 (by decide +kernel)
def rM_addRow : Room := { frames := 1, cells := 0, slots := 0, locals := 19 }
abbrev cM_divisor : ByteArray := prog_8_method_18_code
def yM_divisor : MethodName := ⟨RM, "divisor", "(JJ)J"⟩
def mM_divisor : zMd := (yM_divisor, cM_divisor, 10, (some .long))
set_option maxRecDepth 20000 in
theorem kM_divisor : zKn mM_divisor 2 := ⟨zin 845 rfl rfl, zin 7 (by decide +kernel) (by decide +kernel), ⟨by decide +kernel, by decide +kernel⟩, by decide +kernel⟩
theorem ksM_divisor : Cond.static yM_divisor ∈ zWS := zin 844 (by decide +kernel) (by decide +kernel)
def rM_divisor : Room := { frames := 0, cells := 0, slots := 0, locals := 0 }
abbrev cM_isBefore : ByteArray := prog_8_method_19_code
def yM_isBefore : MethodName := ⟨RM, "isBefore", "(II)Z"⟩
def mM_isBefore : zMd := (yM_isBefore, cM_isBefore, 3, (some .boolean))
set_option maxRecDepth 20000 in
theorem kM_isBefore : zKn mM_isBefore 2 := ⟨zin 849 rfl rfl, zin 7 (by decide +kernel) (by decide +kernel), ⟨by decide +kernel, by decide +kernel⟩, by decide +kernel⟩
theorem kiM_isBefore : Cond.instanceMethod yM_isBefore ∈ zWS := zin 848 (by decide +kernel) (by decide +kernel)
theorem kvM_isBefore : Cond.selects RM yM_isBefore yM_isBefore ∈ zWS := zsel (y := yM_isBefore) 26 (by decide +kernel)
def rM_isBefore : Room := { frames := 0, cells := 0, slots := 0, locals := 0 }
abbrev cM_swap : ByteArray := prog_8_method_20_code
def yM_swap : MethodName := ⟨RM, "swap", "(II)V"⟩
def mM_swap : zMd := (yM_swap, cM_swap, 6, none)
set_option maxRecDepth 20000 in
theorem kM_swap : zKn mM_swap 2 := ⟨zin 853 rfl rfl, zin 7 (by decide +kernel) (by decide +kernel), ⟨by decide +kernel, by decide +kernel⟩, by decide +kernel⟩
theorem kiM_swap : Cond.instanceMethod yM_swap ∈ zWS := zin 852 (by decide +kernel) (by decide +kernel)
theorem kvM_swap : Cond.selects RM yM_swap yM_swap ∈ zWS := zsel (y := yM_swap) 27 (by decide +kernel)
def rM_swap : Room := { frames := 0, cells := 0, slots := 0, locals := 0 }
abbrev cM_remove : ByteArray := prog_8_method_21_code
def yM_remove : MethodName := ⟨RM, "remove", "(I)V"⟩
def mM_remove : zMd := (yM_remove, cM_remove, 3, none)
set_option maxRecDepth 20000 in
theorem kM_remove : zKn mM_remove 1 := ⟨zin 857 rfl rfl, zin 7 (by decide +kernel) (by decide +kernel), ⟨by decide +kernel, by decide +kernel⟩, by decide +kernel⟩
theorem kiM_remove : Cond.instanceMethod yM_remove ∈ zWS := zin 856 (by decide +kernel) (by decide +kernel)
theorem kvM_remove : Cond.selects RM yM_remove yM_remove ∈ zWS := zsel (y := yM_remove) 28 (by decide +kernel)
def rM_remove : Room := { frames := 1, cells := 0, slots := 0, locals := 17 }
abbrev cM_normal : ByteArray := prog_8_method_22_code
def yM_normal : MethodName := ⟨RM, "normal", "()Z"⟩
def mM_normal : zMd := (yM_normal, cM_normal, 4, (some .boolean))
set_option maxRecDepth 20000 in
theorem kM_normal : zKn mM_normal 0 := ⟨zin 842 rfl rfl, zin 7 (by decide +kernel) (by decide +kernel), ⟨by decide +kernel, by decide +kernel⟩, by decide +kernel⟩
theorem kiM_normal : Cond.instanceMethod yM_normal ∈ zWS := zin 841 (by decide +kernel) (by decide +kernel)
theorem kvM_normal : Cond.selects RM yM_normal yM_normal ∈ zWS := zsel (y := yM_normal) 25 (by decide +kernel)
def rM_normal : Room := { frames := 4, cells := 0, slots := 0, locals := 83 }
abbrev cM_thin : ByteArray := prog_8_method_23_code
def yM_thin : MethodName := ⟨RM, "thin", "()V"⟩
def mM_thin : zMd := (yM_thin, cM_thin, 2, none)
set_option maxRecDepth 20000 in
theorem kM_thin : zKn mM_thin 0 := ⟨zin 905 rfl rfl, zin 7 (by decide +kernel) (by decide +kernel), ⟨by decide +kernel, by decide +kernel⟩, by decide +kernel⟩
theorem kiM_thin : Cond.instanceMethod yM_thin ∈ zWS := zin 904 (by decide +kernel) (by decide +kernel)
theorem kvM_thin : Cond.selects RM yM_thin yM_thin ∈ zWS := zsel (y := yM_thin) 39 (by decide +kernel)
def rM_thin : Room := { frames := 3, cells := 0, slots := 0, locals := 70 }
abbrev cM_isRow : ByteArray := prog_8_method_24_code
def yM_isRow : MethodName := ⟨RM, "isRow", "(II)Z"⟩
def mM_isRow : zMd := (yM_isRow, cM_isRow, 6, (some .boolean))
set_option maxRecDepth 20000 in
theorem kM_isRow : zKn mM_isRow 2 := ⟨zin 909 rfl rfl, zin 7 (by decide +kernel) (by decide +kernel), ⟨by decide +kernel, by decide +kernel⟩, by decide +kernel⟩
theorem kiM_isRow : Cond.instanceMethod yM_isRow ∈ zWS := zin 908 (by decide +kernel) (by decide +kernel)
theorem kvM_isRow : Cond.selects RM yM_isRow yM_isRow ∈ zWS := zsel (y := yM_isRow) 40 (by decide +kernel)
def rM_isRow : Room := { frames := 1, cells := 0, slots := 0, locals := 14 }
abbrev cM_put : ByteArray := prog_8_method_25_code
def yM_put : MethodName := ⟨RM, "put", "(I)V"⟩
def mM_put : zMd := (yM_put, cM_put, 5, none)
set_option maxRecDepth 20000 in
theorem kM_put : zKn mM_put 1 := ⟨zin 838 rfl rfl, zin 7 (by decide +kernel) (by decide +kernel), ⟨by decide +kernel, by decide +kernel⟩, by decide +kernel⟩
theorem kiM_put : Cond.instanceMethod yM_put ∈ zWS := zin 837 (by decide +kernel) (by decide +kernel)
theorem kvM_put : Cond.selects RM yM_put yM_put ∈ zWS := zsel (y := yM_put) 24 (by decide +kernel)
def rM_put : Room := { frames := 5, cells := 0, slots := 0, locals := 98 }
abbrev cM_isFar : ByteArray := prog_8_method_26_code
def yM_isFar : MethodName := ⟨RM, "isFar", "(J)Z"⟩
def mM_isFar : zMd := (yM_isFar, cM_isFar, 2, (some .boolean))
set_option maxRecDepth 20000 in
theorem kM_isFar : zKn mM_isFar 1 := ⟨zin 820 rfl rfl, zin 7 (by decide +kernel) (by decide +kernel), ⟨by decide +kernel, by decide +kernel⟩, by decide +kernel⟩
theorem ksM_isFar : Cond.static yM_isFar ∈ zWS := zin 819 (by decide +kernel) (by decide +kernel)
def rM_isFar : Room := { frames := 0, cells := 0, slots := 0, locals := 0 }
abbrev cM_copy : ByteArray := prog_8_method_27_code
def yM_copy : MethodName := ⟨RM, "copy", "(II)V"⟩
def mM_copy : zMd := (yM_copy, cM_copy, 4, none)
set_option maxRecDepth 20000 in
theorem kM_copy : zKn mM_copy 2 := ⟨zin 928 rfl rfl, zin 7 (by decide +kernel) (by decide +kernel), ⟨by decide +kernel, by decide +kernel⟩, by decide +kernel⟩
theorem kiM_copy : Cond.instanceMethod yM_copy ∈ zWS := zin 927 (by decide +kernel) (by decide +kernel)
theorem kvM_copy : Cond.selects RM yM_copy yM_copy ∈ zWS := zsel (y := yM_copy) 43 (by decide +kernel)
def rM_copy : Room := { frames := 0, cells := 0, slots := 0, locals := 0 }
abbrev cM_both : ByteArray := prog_8_method_28_code
def yM_both : MethodName := ⟨RM, "both", "(III)V"⟩
def mM_both : zMd := (yM_both, cM_both, 6, none)
set_option maxRecDepth 20000 in
theorem kM_both : zKn mM_both 3 := ⟨zin 920 rfl rfl, zin 7 (by decide +kernel) (by decide +kernel), ⟨by decide +kernel, by decide +kernel⟩, by decide +kernel⟩
theorem kiM_both : Cond.instanceMethod yM_both ∈ zWS := zin 919 (by decide +kernel) (by decide +kernel)
theorem kvM_both : Cond.selects RM yM_both yM_both ∈ zWS := zsel (y := yM_both) 41 (by decide +kernel)
def rM_both : Room := { frames := 6, cells := 0, slots := 0, locals := 114 }
abbrev cM_parts : ByteArray := prog_8_method_29_code
def yM_parts : MethodName := ⟨RM, "parts", "(III)V"⟩
def mM_parts : zMd := (yM_parts, cM_parts, 6, none)
set_option maxRecDepth 20000 in
theorem kM_parts : zKn mM_parts 3 := ⟨zin 944 rfl rfl, zin 7 (by decide +kernel) (by decide +kernel), ⟨by decide +kernel, by decide +kernel⟩, by decide +kernel⟩
theorem kiM_parts : Cond.instanceMethod yM_parts ∈ zWS := zin 943 (by decide +kernel) (by decide +kernel)
theorem kvM_parts : Cond.selects RM yM_parts yM_parts ∈ zWS := zsel (y := yM_parts) 45 (by decide +kernel)
def rM_parts : Room := { frames := 6, cells := 0, slots := 0, locals := 114 }
abbrev cM_contrary : ByteArray := prog_8_method_30_code
def yM_contrary : MethodName := ⟨RM, "contrary", "(I)V"⟩
def mM_contrary : zMd := (yM_contrary, cM_contrary, 3, none)
set_option maxRecDepth 20000 in
theorem kM_contrary : zKn mM_contrary 1 := ⟨zin 940 rfl rfl, zin 7 (by decide +kernel) (by decide +kernel), ⟨by decide +kernel, by decide +kernel⟩, by decide +kernel⟩
theorem kiM_contrary : Cond.instanceMethod yM_contrary ∈ zWS := zin 939 (by decide +kernel) (by decide +kernel)
theorem kvM_contrary : Cond.selects RM yM_contrary yM_contrary ∈ zWS := zsel (y := yM_contrary) 44 (by decide +kernel)
def rM_contrary : Room := { frames := 7, cells := 0, slots := 0, locals := 131 }
abbrev cM_member : ByteArray := prog_8_method_31_code
def yM_member : MethodName := ⟨RM, "member", "(IIIZ)I"⟩
def mM_member : zMd := (yM_member, cM_member, 5, (some .int))
set_option maxRecDepth 20000 in
theorem kM_member : zKn mM_member 4 := ⟨zin 817 rfl rfl, zin 7 (by decide +kernel) (by decide +kernel), ⟨by decide +kernel, by decide +kernel⟩, by decide +kernel⟩
theorem kiM_member : Cond.instanceMethod yM_member ∈ zWS := zin 815 (by decide +kernel) (by decide +kernel)
theorem kvM_member : Cond.selects RM yM_member yM_member ∈ zWS := zin 816 (by decide +kernel) (by decide +kernel)
def rM_member : Room := { frames := 1, cells := 0, slots := 0, locals := 14 }
abbrev cM_row : ByteArray := prog_8_method_32_code
def yM_row : MethodName := ⟨RM, "row", "()I"⟩
def mM_row : zMd := (yM_row, cM_row, 2, (some .int))
set_option maxRecDepth 20000 in
theorem kM_row : zKn mM_row 0 := ⟨zin 826 rfl rfl, zin 7 (by decide +kernel) (by decide +kernel), ⟨by decide +kernel, by decide +kernel⟩, by decide +kernel⟩
theorem kiM_row : Cond.instanceMethod yM_row ∈ zWS := zin 824 (by decide +kernel) (by decide +kernel)
theorem kvM_row : Cond.selects RM yM_row yM_row ∈ zWS := zin 825 (by decide +kernel) (by decide +kernel)
def rM_row : Room := { frames := 6, cells := 0, slots := 0, locals := 114 }
abbrev cM_and : ByteArray := prog_8_method_33_code
def yM_and : MethodName := ⟨RM, "and", "()V"⟩
def mM_and : zMd := (yM_and, cM_and, 1, none)
set_option maxRecDepth 20000 in
theorem kM_and : zKn mM_and 0 := ⟨zin 916 rfl rfl, zin 7 (by decide +kernel) (by decide +kernel), ⟨by decide +kernel, by decide +kernel⟩, by decide +kernel⟩
theorem kiM_and : Cond.instanceMethod yM_and ∈ zWS := zin 914 (by decide +kernel) (by decide +kernel)
theorem kvM_and : Cond.selects RM yM_and yM_and ∈ zWS := zin 915 (by decide +kernel) (by decide +kernel)
def rM_and : Room := { frames := 7, cells := 0, slots := 0, locals := 131 }
abbrev cM_or : ByteArray := prog_8_method_34_code
def yM_or : MethodName := ⟨RM, "or", "()V"⟩
def mM_or : zMd := (yM_or, cM_or, 2, none)
set_option maxRecDepth 20000 in
theorem kM_or : zKn mM_or 0 := ⟨zin 932 rfl rfl, zin 7 (by decide +kernel) (by decide +kernel), ⟨by decide +kernel, by decide +kernel⟩, by decide +kernel⟩
theorem kiM_or : Cond.instanceMethod yM_or ∈ zWS := zin 930 (by decide +kernel) (by decide +kernel)
theorem kvM_or : Cond.selects RM yM_or yM_or ∈ zWS := zin 931 (by decide +kernel) (by decide +kernel)
def rM_or : Room := { frames := 6, cells := 0, slots := 0, locals := 114 }
abbrev cM_not : ByteArray := prog_8_method_35_code
def yM_not : MethodName := ⟨RM, "not", "()V"⟩
def mM_not : zMd := (yM_not, cM_not, 1, none)
set_option maxRecDepth 20000 in
theorem kM_not : zKn mM_not 0 := ⟨zin 936 rfl rfl, zin 7 (by decide +kernel) (by decide +kernel), ⟨by decide +kernel, by decide +kernel⟩, by decide +kernel⟩
theorem kiM_not : Cond.instanceMethod yM_not ∈ zWS := zin 934 (by decide +kernel) (by decide +kernel)
theorem kvM_not : Cond.selects RM yM_not yM_not ∈ zWS := zin 935 (by decide +kernel) (by decide +kernel)
def rM_not : Room := { frames := 8, cells := 0, slots := 0, locals := 145 }
abbrev cM_free : ByteArray := prog_8_method_36_code
def yM_free : MethodName := ⟨RM, "free", "(I)V"⟩
def mM_free : zMd := (yM_free, cM_free, 3, none)
set_option maxRecDepth 20000 in
theorem kM_free : zKn mM_free 1 := ⟨zin 948 rfl rfl, zin 7 (by decide +kernel) (by decide +kernel), ⟨by decide +kernel, by decide +kernel⟩, by decide +kernel⟩
theorem kiM_free : Cond.instanceMethod yM_free ∈ zWS := zin 946 (by decide +kernel) (by decide +kernel)
theorem kvM_free : Cond.selects RM yM_free yM_free ∈ zWS := zin 947 (by decide +kernel) (by decide +kernel)
def rM_free : Room := { frames := 6, cells := 0, slots := 0, locals := 114 }
abbrev cM_freed : ByteArray := prog_8_method_37_code
def yM_freed : MethodName := ⟨RM, "freed", "(III)V"⟩
def mM_freed : zMd := (yM_freed, cM_freed, 13, none)
set_option maxRecDepth 20000 in
theorem kM_freed : zKn mM_freed 3 := ⟨zin 952 rfl rfl, zin 7 (by decide +kernel) (by decide +kernel), ⟨by decide +kernel, by decide +kernel⟩, by decide +kernel⟩
theorem kiM_freed : Cond.instanceMethod yM_freed ∈ zWS := zin 951 (by decide +kernel) (by decide +kernel)
theorem kvM_freed : Cond.selects RM yM_freed yM_freed ∈ zWS := zsel (y := yM_freed) 46 (by decide +kernel)
def rM_freed : Room := { frames := 1, cells := 0, slots := 0, locals := 19 }
abbrev cM_keep : ByteArray := prog_8_method_38_code
def yM_keep : MethodName := ⟨RM, "keep", "(I)V"⟩
def mM_keep : zMd := (yM_keep, cM_keep, 2, none)
set_option maxRecDepth 20000 in
theorem kM_keep : zKn mM_keep 1 := ⟨zin 956 rfl rfl, zin 7 (by decide +kernel) (by decide +kernel), ⟨by decide +kernel, by decide +kernel⟩, by decide +kernel⟩
theorem kiM_keep : Cond.instanceMethod yM_keep ∈ zWS := zin 954 (by decide +kernel) (by decide +kernel)
theorem kvM_keep : Cond.selects RM yM_keep yM_keep ∈ zWS := zin 955 (by decide +kernel) (by decide +kernel)
def rM_keep : Room := { frames := 1, cells := 0, slots := 0, locals := 15 }
abbrev cM_load : ByteArray := prog_8_method_39_code
def yM_load : MethodName := ⟨RM, "load", "(I)I"⟩
def mM_load : zMd := (yM_load, cM_load, 2, (some .int))
set_option maxRecDepth 20000 in
theorem kM_load : zKn mM_load 1 := ⟨zin 960 rfl rfl, zin 7 (by decide +kernel) (by decide +kernel), ⟨by decide +kernel, by decide +kernel⟩, by decide +kernel⟩
theorem kiM_load : Cond.instanceMethod yM_load ∈ zWS := zin 958 (by decide +kernel) (by decide +kernel)
theorem kvM_load : Cond.selects RM yM_load yM_load ∈ zWS := zin 959 (by decide +kernel) (by decide +kernel)
def rM_load : Room := { frames := 1, cells := 0, slots := 0, locals := 15 }
abbrev cM_drop : ByteArray := prog_8_method_40_code
def yM_drop : MethodName := ⟨RM, "drop", "()Z"⟩
def mM_drop : zMd := (yM_drop, cM_drop, 1, (some .boolean))
set_option maxRecDepth 20000 in
theorem kM_drop : zKn mM_drop 0 := ⟨zin 964 rfl rfl, zin 7 (by decide +kernel) (by decide +kernel), ⟨by decide +kernel, by decide +kernel⟩, by decide +kernel⟩
theorem kiM_drop : Cond.instanceMethod yM_drop ∈ zWS := zin 962 (by decide +kernel) (by decide +kernel)
theorem kvM_drop : Cond.selects RM yM_drop yM_drop ∈ zWS := zin 963 (by decide +kernel) (by decide +kernel)
def rM_drop : Room := { frames := 0, cells := 0, slots := 0, locals := 0 }
abbrev cM_pile : ByteArray := prog_8_method_41_code
def yM_pile : MethodName := ⟨RM, "pile", "()I"⟩
def mM_pile : zMd := (yM_pile, cM_pile, 1, (some .int))
set_option maxRecDepth 20000 in
theorem kM_pile : zKn mM_pile 0 := ⟨zin 968 rfl rfl, zin 7 (by decide +kernel) (by decide +kernel), ⟨by decide +kernel, by decide +kernel⟩, by decide +kernel⟩
theorem kiM_pile : Cond.instanceMethod yM_pile ∈ zWS := zin 966 (by decide +kernel) (by decide +kernel)
theorem kvM_pile : Cond.selects RM yM_pile yM_pile ∈ zWS := zin 967 (by decide +kernel) (by decide +kernel)
def rM_pile : Room := { frames := 0, cells := 0, slots := 0, locals := 0 }
abbrev cM_rows : ByteArray := prog_8_method_42_code
def yM_rows : MethodName := ⟨RM, "rows", "()I"⟩
def mM_rows : zMd := (yM_rows, cM_rows, 1, (some .int))
set_option maxRecDepth 20000 in
theorem kM_rows : zKn mM_rows 0 := ⟨zin 972 rfl rfl, zin 7 (by decide +kernel) (by decide +kernel), ⟨by decide +kernel, by decide +kernel⟩, by decide +kernel⟩
theorem kiM_rows : Cond.instanceMethod yM_rows ∈ zWS := zin 970 (by decide +kernel) (by decide +kernel)
theorem kvM_rows : Cond.selects RM yM_rows yM_rows ∈ zWS := zin 971 (by decide +kernel) (by decide +kernel)
def rM_rows : Room := { frames := 0, cells := 0, slots := 0, locals := 0 }
abbrev cM_isRowThere : ByteArray := prog_8_method_43_code
def yM_isRowThere : MethodName := ⟨RM, "isRowThere", "(I)Z"⟩
def mM_isRowThere : zMd := (yM_isRowThere, cM_isRowThere, 2, (some .boolean))
set_option maxRecDepth 20000 in
theorem kM_isRowThere : zKn mM_isRowThere 1 := ⟨zin 980 rfl rfl, zin 7 (by decide +kernel) (by decide +kernel), ⟨by decide +kernel, by decide +kernel⟩, by decide +kernel⟩
theorem kiM_isRowThere : Cond.instanceMethod yM_isRowThere ∈ zWS := zin 979 (by decide +kernel) (by decide +kernel)
theorem kvM_isRowThere : Cond.selects RM yM_isRowThere yM_isRowThere ∈ zWS := zsel (y := yM_isRowThere) 47 (by decide +kernel)
def rM_isRowThere : Room := { frames := 0, cells := 0, slots := 0, locals := 0 }
abbrev cM_members : ByteArray := prog_8_method_44_code
def yM_members : MethodName := ⟨RM, "members", "(I)I"⟩
def mM_members : zMd := (yM_members, cM_members, 2, (some .int))
set_option maxRecDepth 20000 in
theorem kM_members : zKn mM_members 1 := ⟨zin 976 rfl rfl, zin 7 (by decide +kernel) (by decide +kernel), ⟨by decide +kernel, by decide +kernel⟩, by decide +kernel⟩
theorem kiM_members : Cond.instanceMethod yM_members ∈ zWS := zin 974 (by decide +kernel) (by decide +kernel)
theorem kvM_members : Cond.selects RM yM_members yM_members ∈ zWS := zin 975 (by decide +kernel) (by decide +kernel)
def rM_members : Room := { frames := 1, cells := 0, slots := 0, locals := 14 }
abbrev cM_part : ByteArray := prog_8_method_45_code
def yM_part : MethodName := ⟨RM, "part", "(III)I"⟩
def mM_part : zMd := (yM_part, cM_part, 5, (some .int))
set_option maxRecDepth 20000 in
theorem kM_part : zKn mM_part 3 := ⟨zin 984 rfl rfl, zin 7 (by decide +kernel) (by decide +kernel), ⟨by decide +kernel, by decide +kernel⟩, by decide +kernel⟩
theorem kiM_part : Cond.instanceMethod yM_part ∈ zWS := zin 982 (by decide +kernel) (by decide +kernel)
theorem kvM_part : Cond.selects RM yM_part yM_part ∈ zWS := zin 983 (by decide +kernel) (by decide +kernel)
def rM_part : Room := { frames := 1, cells := 0, slots := 0, locals := 14 }
abbrev cM_holds : ByteArray := prog_8_method_46_code
def yM_holds : MethodName := ⟨RM, "holds", "(III)Z"⟩
def mM_holds : zMd := (yM_holds, cM_holds, 13, (some .boolean))
set_option maxRecDepth 20000 in
theorem kM_holds : zKn mM_holds 3 := ⟨zin 988 rfl rfl, zin 7 (by decide +kernel) (by decide +kernel), ⟨by decide +kernel, by decide +kernel⟩, by decide +kernel⟩
theorem kiM_holds : Cond.instanceMethod yM_holds ∈ zWS := zin 986 (by decide +kernel) (by decide +kernel)
theorem kvM_holds : Cond.selects RM yM_holds yM_holds ∈ zWS := zin 987 (by decide +kernel) (by decide +kernel)
def rM_holds : Room := { frames := 1, cells := 0, slots := 0, locals := 14 }
abbrev cM_within : ByteArray := prog_8_method_47_code
def yM_within : MethodName := ⟨RM, "within", "()Z"⟩
def mM_within : zMd := (yM_within, cM_within, 1, (some .boolean))
set_option maxRecDepth 20000 in
theorem kM_within : zKn mM_within 0 := ⟨zin 992 rfl rfl, zin 7 (by decide +kernel) (by decide +kernel), ⟨by decide +kernel, by decide +kernel⟩, by decide +kernel⟩
theorem kiM_within : Cond.instanceMethod yM_within ∈ zWS := zin 990 (by decide +kernel) (by decide +kernel)
theorem kvM_within : Cond.selects RM yM_within yM_within ∈ zWS := zin 991 (by decide +kernel) (by decide +kernel)
def rM_within : Room := { frames := 8, cells := 0, slots := 0, locals := 145 }
abbrev cM_ofBand : ByteArray := prog_8_method_48_code
def yM_ofBand : MethodName := ⟨RM, "ofBand", "(JJ)V"⟩
def mM_ofBand : zMd := (yM_ofBand, cM_ofBand, 8, none)
set_option maxRecDepth 20000 in
theorem kM_ofBand : zKn mM_ofBand 2 := ⟨zin 1000 rfl rfl, zin 7 (by decide +kernel) (by decide +kernel), ⟨by decide +kernel, by decide +kernel⟩, by decide +kernel⟩
theorem kiM_ofBand : Cond.instanceMethod yM_ofBand ∈ zWS := zin 999 (by decide +kernel) (by decide +kernel)
theorem kvM_ofBand : Cond.selects RM yM_ofBand yM_ofBand ∈ zWS := zsel (y := yM_ofBand) 48 (by decide +kernel)
def rM_ofBand : Room := { frames := 2, cells := 0, slots := 0, locals := 53 }
abbrev cM_ofCorners : ByteArray := prog_8_method_49_code
def yM_ofCorners : MethodName := ⟨RM, "ofCorners", "(JJ)V"⟩
def mM_ofCorners : zMd := (yM_ofCorners, cM_ofCorners, 13, none)
set_option maxRecDepth 20000 in
theorem kM_ofCorners : zKn mM_ofCorners 2 := ⟨zin 1004 rfl rfl, zin 7 (by decide +kernel) (by decide +kernel), ⟨by decide +kernel, by decide +kernel⟩, by decide +kernel⟩
theorem kiM_ofCorners : Cond.instanceMethod yM_ofCorners ∈ zWS := zin 1003 (by decide +kernel) (by decide +kernel)
theorem kvM_ofCorners : Cond.selects RM yM_ofCorners yM_ofCorners ∈ zWS := zsel (y := yM_ofCorners) 49 (by decide +kernel)
def rM_ofCorners : Room := { frames := 2, cells := 0, slots := 0, locals := 36 }
abbrev cM_least : ByteArray := prog_8_method_50_code
def yM_least : MethodName := ⟨RM, "least", "(II)I"⟩
def mM_least : zMd := (yM_least, cM_least, 5, (some .int))
set_option maxRecDepth 20000 in
theorem kM_least : zKn mM_least 2 := ⟨zin 996 rfl rfl, zin 7 (by decide +kernel) (by decide +kernel), ⟨by decide +kernel, by decide +kernel⟩, by decide +kernel⟩
theorem kiM_least : Cond.instanceMethod yM_least ∈ zWS := zin 994 (by decide +kernel) (by decide +kernel)
theorem kvM_least : Cond.selects RM yM_least yM_least ∈ zWS := zin 995 (by decide +kernel) (by decide +kernel)
def rM_least : Room := { frames := 3, cells := 0, slots := 0, locals := 72 }
abbrev cM_value : ByteArray := prog_8_method_51_code
def yM_value : MethodName := ⟨RM, "value", "(I)J"⟩
def mM_value : zMd := (yM_value, cM_value, 2, (some .long))
set_option maxRecDepth 20000 in
theorem kM_value : zKn mM_value 1 := ⟨zin 1008 rfl rfl, zin 7 (by decide +kernel) (by decide +kernel), ⟨by decide +kernel, by decide +kernel⟩, by decide +kernel⟩
theorem kiM_value : Cond.instanceMethod yM_value ∈ zWS := zin 1006 (by decide +kernel) (by decide +kernel)
theorem kvM_value : Cond.selects RM yM_value yM_value ∈ zWS := zin 1007 (by decide +kernel) (by decide +kernel)
def rM_value : Room := { frames := 0, cells := 0, slots := 0, locals := 0 }
abbrev cD_init : ByteArray := prog_2_method_1_code
def yD_init : MethodName := ⟨RD, "<init>", "()V"⟩
def mD_init : zMd := (yD_init, cD_init, 1, none)
set_option maxRecDepth 20000 in
theorem kD_init : zKn mD_init 0 := ⟨zin 31 rfl rfl, zin 2 (by decide +kernel) (by decide +kernel), ⟨by decide +kernel, by decide +kernel⟩, by decide +kernel⟩
theorem kiD_init : Cond.instanceMethod yD_init ∈ zWS := zin 30 (by decide +kernel) (by decide +kernel)
def rD_init : Room := { frames := 2, cells := 0, slots := 0, locals := 26 }
abbrev cD_clear : ByteArray := prog_2_method_2_code
def yD_clear : MethodName := ⟨RD, "clear", "()V"⟩
def mD_clear : zMd := (yD_clear, cD_clear, 1, none)
set_option maxRecDepth 20000 in
theorem kD_clear : zKn mD_clear 0 := ⟨zin 387 rfl rfl, zin 2 (by decide +kernel) (by decide +kernel), ⟨by decide +kernel, by decide +kernel⟩, by decide +kernel⟩
theorem kiD_clear : Cond.instanceMethod yD_clear ∈ zWS := zin 385 (by decide +kernel) (by decide +kernel)
theorem kvD_clear : Cond.selects RD yD_clear yD_clear ∈ zWS := zin 386 (by decide +kernel) (by decide +kernel)
def rD_clear : Room := { frames := 0, cells := 0, slots := 0, locals := 0 }
abbrev cD_memberCount : ByteArray := prog_2_method_3_code
def yD_memberCount : MethodName := ⟨RD, "memberCount", "()I"⟩
def mD_memberCount : zMd := (yD_memberCount, cD_memberCount, 1, (some .int))
set_option maxRecDepth 20000 in
theorem kD_memberCount : zKn mD_memberCount 0 := ⟨zin 347 rfl rfl, zin 2 (by decide +kernel) (by decide +kernel), ⟨by decide +kernel, by decide +kernel⟩, by decide +kernel⟩
theorem kiD_memberCount : Cond.instanceMethod yD_memberCount ∈ zWS := zin 345 (by decide +kernel) (by decide +kernel)
theorem kvD_memberCount : Cond.selects RD yD_memberCount yD_memberCount ∈ zWS := zin 346 (by decide +kernel) (by decide +kernel)
def rD_memberCount : Room := { frames := 0, cells := 0, slots := 0, locals := 0 }
abbrev cD_x : ByteArray := prog_2_method_4_code
def yD_x : MethodName := ⟨RD, "x", "(I)J"⟩
def mD_x : zMd := (yD_x, cD_x, 2, (some .long))
set_option maxRecDepth 20000 in
theorem kD_x : zKn mD_x 1 := ⟨zin 355 rfl rfl, zin 2 (by decide +kernel) (by decide +kernel), ⟨by decide +kernel, by decide +kernel⟩, by decide +kernel⟩
theorem kiD_x : Cond.instanceMethod yD_x ∈ zWS := zin 353 (by decide +kernel) (by decide +kernel)
theorem kvD_x : Cond.selects RD yD_x yD_x ∈ zWS := zin 354 (by decide +kernel) (by decide +kernel)
def rD_x : Room := { frames := 0, cells := 0, slots := 0, locals := 0 }
abbrev cD_y : ByteArray := prog_2_method_5_code
def yD_y : MethodName := ⟨RD, "y", "(I)J"⟩
def mD_y : zMd := (yD_y, cD_y, 2, (some .long))
set_option maxRecDepth 20000 in
theorem kD_y : zKn mD_y 1 := ⟨zin 363 rfl rfl, zin 2 (by decide +kernel) (by decide +kernel), ⟨by decide +kernel, by decide +kernel⟩, by decide +kernel⟩
theorem kiD_y : Cond.instanceMethod yD_y ∈ zWS := zin 361 (by decide +kernel) (by decide +kernel)
theorem kvD_y : Cond.selects RD yD_y yD_y ∈ zWS := zin 362 (by decide +kernel) (by decide +kernel)
def rD_y : Room := { frames := 0, cells := 0, slots := 0, locals := 0 }
abbrev cD_bound : ByteArray := prog_2_method_6_code
def yD_bound : MethodName := ⟨RD, "bound", "(I)J"⟩
def mD_bound : zMd := (yD_bound, cD_bound, 2, (some .long))
set_option maxRecDepth 20000 in
theorem kD_bound : zKn mD_bound 1 := ⟨zin 371 rfl rfl, zin 2 (by decide +kernel) (by decide +kernel), ⟨by decide +kernel, by decide +kernel⟩, by decide +kernel⟩
theorem kiD_bound : Cond.instanceMethod yD_bound ∈ zWS := zin 369 (by decide +kernel) (by decide +kernel)
theorem kvD_bound : Cond.selects RD yD_bound yD_bound ∈ zWS := zin 370 (by decide +kernel) (by decide +kernel)
def rD_bound : Room := { frames := 0, cells := 0, slots := 0, locals := 0 }
abbrev cD_isStrict : ByteArray := prog_2_method_7_code
def yD_isStrict : MethodName := ⟨RD, "isStrict", "(I)Z"⟩
def mD_isStrict : zMd := (yD_isStrict, cD_isStrict, 2, (some .boolean))
set_option maxRecDepth 20000 in
theorem kD_isStrict : zKn mD_isStrict 1 := ⟨zin 379 rfl rfl, zin 2 (by decide +kernel) (by decide +kernel), ⟨by decide +kernel, by decide +kernel⟩, by decide +kernel⟩
theorem kiD_isStrict : Cond.instanceMethod yD_isStrict ∈ zWS := zin 377 (by decide +kernel) (by decide +kernel)
theorem kvD_isStrict : Cond.selects RD yD_isStrict yD_isStrict ∈ zWS := zin 378 (by decide +kernel) (by decide +kernel)
def rD_isStrict : Room := { frames := 0, cells := 0, slots := 0, locals := 0 }
abbrev cD_put : ByteArray := prog_2_method_8_code
def yD_put : MethodName := ⟨RD, "put", "(JJJZ)V"⟩
def mD_put : zMd := (yD_put, cD_put, 10, none)
set_option maxRecDepth 20000 in
theorem kD_put : zKn mD_put 4 := ⟨zin 266 rfl rfl, zin 2 (by decide +kernel) (by decide +kernel), ⟨by decide +kernel, by decide +kernel⟩, by decide +kernel⟩
theorem kiD_put : Cond.instanceMethod yD_put ∈ zWS := zin 264 (by decide +kernel) (by decide +kernel)
theorem kvD_put : Cond.selects RD yD_put yD_put ∈ zWS := zin 265 (by decide +kernel) (by decide +kernel)
def rD_put : Room := { frames := 2, cells := 0, slots := 0, locals := 37 }
abbrev cD_insert : ByteArray := prog_2_method_9_code
def yD_insert : MethodName := ⟨RD, "insert", "(JJJZ)V"⟩
def mD_insert : zMd := (yD_insert, cD_insert, 10, none)
set_option maxRecDepth 20000 in
theorem kD_insert : zKn mD_insert 4 := ⟨zin 276 rfl rfl, zin 2 (by decide +kernel) (by decide +kernel), ⟨by decide +kernel, by decide +kernel⟩, by decide +kernel⟩
theorem kiD_insert : Cond.instanceMethod yD_insert ∈ zWS := zin 275 (by decide +kernel) (by decide +kernel)
theorem kvD_insert : Cond.selects RD yD_insert yD_insert ∈ zWS := zsel (y := yD_insert) 1 (by decide +kernel)
def rD_insert : Room := { frames := 1, cells := 0, slots := 0, locals := 16 }
abbrev cD_strengthen : ByteArray := prog_2_method_10_code
def yD_strengthen : MethodName := ⟨RD, "strengthen", "(IJZ)V"⟩
def mD_strengthen : zMd := (yD_strengthen, cD_strengthen, 5, none)
set_option maxRecDepth 20000 in
theorem kD_strengthen : zKn mD_strengthen 3 := ⟨zin 280 rfl rfl, zin 2 (by decide +kernel) (by decide +kernel), ⟨by decide +kernel, by decide +kernel⟩, by decide +kernel⟩
theorem kiD_strengthen : Cond.instanceMethod yD_strengthen ∈ zWS := zin 279 (by decide +kernel) (by decide +kernel)
theorem kvD_strengthen : Cond.selects RD yD_strengthen yD_strengthen ∈ zWS := zsel (y := yD_strengthen) 2 (by decide +kernel)
def rD_strengthen : Room := { frames := 0, cells := 0, slots := 0, locals := 0 }
abbrev cD_move : ByteArray := prog_2_method_11_code
def yD_move : MethodName := ⟨RD, "move", "(II)V"⟩
def mD_move : zMd := (yD_move, cD_move, 3, none)
set_option maxRecDepth 20000 in
theorem kD_move : zKn mD_move 2 := ⟨zin 284 rfl rfl, zin 2 (by decide +kernel) (by decide +kernel), ⟨by decide +kernel, by decide +kernel⟩, by decide +kernel⟩
theorem kiD_move : Cond.instanceMethod yD_move ∈ zWS := zin 283 (by decide +kernel) (by decide +kernel)
theorem kvD_move : Cond.selects RD yD_move yD_move ∈ zWS := zsel (y := yD_move) 3 (by decide +kernel)
def rD_move : Room := { frames := 0, cells := 0, slots := 0, locals := 0 }
abbrev cD_remove : ByteArray := prog_2_method_12_code
def yD_remove : MethodName := ⟨RD, "remove", "(I)V"⟩
def mD_remove : zMd := (yD_remove, cD_remove, 3, none)
set_option maxRecDepth 20000 in
theorem kD_remove : zKn mD_remove 1 := ⟨zin 329 rfl rfl, zin 2 (by decide +kernel) (by decide +kernel), ⟨by decide +kernel, by decide +kernel⟩, by decide +kernel⟩
theorem kiD_remove : Cond.instanceMethod yD_remove ∈ zWS := zin 328 (by decide +kernel) (by decide +kernel)
theorem kvD_remove : Cond.selects RD yD_remove yD_remove ∈ zWS := zsel (y := yD_remove) 6 (by decide +kernel)
def rD_remove : Room := { frames := 1, cells := 0, slots := 0, locals := 14 }
abbrev cD_flip : ByteArray := prog_2_method_13_code
def yD_flip : MethodName := ⟨RD, "flip", "(I)V"⟩
def mD_flip : zMd := (yD_flip, cD_flip, 2, none)
set_option maxRecDepth 20000 in
theorem kD_flip : zKn mD_flip 1 := ⟨zin 324 rfl rfl, zin 2 (by decide +kernel) (by decide +kernel), ⟨by decide +kernel, by decide +kernel⟩, by decide +kernel⟩
theorem kiD_flip : Cond.instanceMethod yD_flip ∈ zWS := zin 323 (by decide +kernel) (by decide +kernel)
theorem kvD_flip : Cond.selects RD yD_flip yD_flip ∈ zWS := zsel (y := yD_flip) 5 (by decide +kernel)
def rD_flip : Room := { frames := 0, cells := 0, slots := 0, locals := 0 }
abbrev cD_hasPoints : ByteArray := prog_2_method_14_code
def yD_hasPoints : MethodName := ⟨RD, "hasPoints", "()Z"⟩
def mD_hasPoints : zMd := (yD_hasPoints, cD_hasPoints, 7, (some .boolean))
set_option maxRecDepth 20000 in
theorem kD_hasPoints : zKn mD_hasPoints 0 := ⟨zin 308 rfl rfl, zin 2 (by decide +kernel) (by decide +kernel), ⟨by decide +kernel, by decide +kernel⟩, by decide +kernel⟩
theorem kiD_hasPoints : Cond.instanceMethod yD_hasPoints ∈ zWS := zin 306 (by decide +kernel) (by decide +kernel)
theorem kvD_hasPoints : Cond.selects RD yD_hasPoints yD_hasPoints ∈ zWS := zin 307 (by decide +kernel) (by decide +kernel)
def rD_hasPoints : Room := { frames := 1, cells := 0, slots := 0, locals := 26 }
abbrev cD_dropImplied : ByteArray := prog_2_method_15_code
def yD_dropImplied : MethodName := ⟨RD, "dropImplied", "()V"⟩
def mD_dropImplied : zMd := (yD_dropImplied, cD_dropImplied, 5, none)
set_option maxRecDepth 20000 in
theorem kD_dropImplied : zKn mD_dropImplied 0 := ⟨zin 320 rfl rfl, zin 2 (by decide +kernel) (by decide +kernel), ⟨by decide +kernel, by decide +kernel⟩, by decide +kernel⟩
theorem kiD_dropImplied : Cond.instanceMethod yD_dropImplied ∈ zWS := zin 318 (by decide +kernel) (by decide +kernel)
theorem kvD_dropImplied : Cond.selects RD yD_dropImplied yD_dropImplied ∈ zWS := zin 319 (by decide +kernel) (by decide +kernel)
def rD_dropImplied : Room := { frames := 2, cells := 0, slots := 0, locals := 44 }
abbrev cD_keepsLimits : ByteArray := prog_2_method_16_code
def yD_keepsLimits : MethodName := ⟨RD, "keepsLimits", "()Z"⟩
def mD_keepsLimits : zMd := (yD_keepsLimits, cD_keepsLimits, 2, (some .boolean))
set_option maxRecDepth 20000 in
theorem kD_keepsLimits : zKn mD_keepsLimits 0 := ⟨zin 333 rfl rfl, zin 2 (by decide +kernel) (by decide +kernel), ⟨by decide +kernel, by decide +kernel⟩, by decide +kernel⟩
theorem kiD_keepsLimits : Cond.instanceMethod yD_keepsLimits ∈ zWS := zin 331 (by decide +kernel) (by decide +kernel)
theorem kvD_keepsLimits : Cond.selects RD yD_keepsLimits yD_keepsLimits ∈ zWS := zin 332 (by decide +kernel) (by decide +kernel)
def rD_keepsLimits : Room := { frames := 1, cells := 0, slots := 0, locals := 15 }
abbrev cI_init : ByteArray := prog_3_method_1_code
def yI_init : MethodName := ⟨RI, "<init>", "()V"⟩
def mI_init : zMd := (yI_init, cI_init, 1, none)
set_option maxRecDepth 20000 in
theorem kI_init : zKn mI_init 0 := ⟨zin 112 rfl rfl, zin 6 (by decide +kernel) (by decide +kernel), ⟨by decide +kernel, by decide +kernel⟩, by decide +kernel⟩
theorem kiI_init : Cond.instanceMethod yI_init ∈ zWS := zin 111 (by decide +kernel) (by decide +kernel)
def rI_init : Room := { frames := 1, cells := 0, slots := 0, locals := 12 }
abbrev cI_numerator : ByteArray := prog_3_method_2_code
def yI_numerator : MethodName := ⟨RI, "numerator", "()J"⟩
def mI_numerator : zMd := (yI_numerator, cI_numerator, 1, (some .long))
set_option maxRecDepth 20000 in
theorem kI_numerator : zKn mI_numerator 0 := ⟨zin 666 rfl rfl, zin 6 (by decide +kernel) (by decide +kernel), ⟨by decide +kernel, by decide +kernel⟩, by decide +kernel⟩
theorem kiI_numerator : Cond.instanceMethod yI_numerator ∈ zWS := zin 664 (by decide +kernel) (by decide +kernel)
theorem kvI_numerator : Cond.selects RI yI_numerator yI_numerator ∈ zWS := zin 665 (by decide +kernel) (by decide +kernel)
def rI_numerator : Room := { frames := 0, cells := 0, slots := 0, locals := 0 }
abbrev cI_denominator : ByteArray := prog_3_method_3_code
def yI_denominator : MethodName := ⟨RI, "denominator", "()J"⟩
def mI_denominator : zMd := (yI_denominator, cI_denominator, 1, (some .long))
set_option maxRecDepth 20000 in
theorem kI_denominator : zKn mI_denominator 0 := ⟨zin 670 rfl rfl, zin 6 (by decide +kernel) (by decide +kernel), ⟨by decide +kernel, by decide +kernel⟩, by decide +kernel⟩
theorem kiI_denominator : Cond.instanceMethod yI_denominator ∈ zWS := zin 668 (by decide +kernel) (by decide +kernel)
theorem kvI_denominator : Cond.selects RI yI_denominator yI_denominator ∈ zWS := zin 669 (by decide +kernel) (by decide +kernel)
def rI_denominator : Room := { frames := 0, cells := 0, slots := 0, locals := 0 }
abbrev cI_seek : ByteArray := prog_3_method_4_code
def yI_seek : MethodName := ⟨RI, "seek", "(LRegionDesk$Region;II)I"⟩
def mI_seek : zMd := (yI_seek, cI_seek, 5, (some .int))
set_option maxRecDepth 20000 in
theorem kI_seek : zKn mI_seek 3 := ⟨zin 616 rfl rfl, zin 6 (by decide +kernel) (by decide +kernel), ⟨by decide +kernel, by decide +kernel⟩, by decide +kernel⟩
theorem kiI_seek : Cond.instanceMethod yI_seek ∈ zWS := zin 614 (by decide +kernel) (by decide +kernel)
theorem kvI_seek : Cond.selects RI yI_seek yI_seek ∈ zWS := zin 615 (by decide +kernel) (by decide +kernel)
def rI_seek : Room := { frames := 3, cells := 0, slots := 0, locals := 71 }
abbrev cI_forget : ByteArray := prog_3_method_5_code
def yI_forget : MethodName := ⟨RI, "forget", "()V"⟩
def mI_forget : zMd := (yI_forget, cI_forget, 1, none)
set_option maxRecDepth 20000 in
theorem kI_forget : zKn mI_forget 0 := ⟨zin 620 rfl rfl, zin 6 (by decide +kernel) (by decide +kernel), ⟨by decide +kernel, by decide +kernel⟩, by decide +kernel⟩
theorem kiI_forget : Cond.instanceMethod yI_forget ∈ zWS := zin 619 (by decide +kernel) (by decide +kernel)
theorem kvI_forget : Cond.selects RI yI_forget yI_forget ∈ zWS := zsel (y := yI_forget) 15 (by decide +kernel)
def rI_forget : Room := { frames := 0, cells := 0, slots := 0, locals := 0 }
abbrev cI_lowerToRow : ByteArray := prog_3_method_6_code
def yI_lowerToRow : MethodName := ⟨RI, "lowerToRow", "()V"⟩
def mI_lowerToRow : zMd := (yI_lowerToRow, cI_lowerToRow, 5, none)
set_option maxRecDepth 20000 in
theorem kI_lowerToRow : zKn mI_lowerToRow 0 := ⟨zin 649 rfl rfl, zin 6 (by decide +kernel) (by decide +kernel), ⟨by decide +kernel, by decide +kernel⟩, by decide +kernel⟩
theorem kiI_lowerToRow : Cond.instanceMethod yI_lowerToRow ∈ zWS := zin 648 (by decide +kernel) (by decide +kernel)
theorem kvI_lowerToRow : Cond.selects RI yI_lowerToRow yI_lowerToRow ∈ zWS := zsel (y := yI_lowerToRow) 20 (by decide +kernel)
def rI_lowerToRow : Room := { frames := 0, cells := 0, slots := 0, locals := 0 }
abbrev cI_reduce : ByteArray := prog_3_method_7_code
def yI_reduce : MethodName := ⟨RI, "reduce", "()V"⟩
def mI_reduce : zMd := (yI_reduce, cI_reduce, 3, none)
set_option maxRecDepth 20000 in
theorem kI_reduce : zKn mI_reduce 0 := ⟨zin 653 rfl rfl, zin 6 (by decide +kernel) (by decide +kernel), ⟨by decide +kernel, by decide +kernel⟩, by decide +kernel⟩
theorem kiI_reduce : Cond.instanceMethod yI_reduce ∈ zWS := zin 652 (by decide +kernel) (by decide +kernel)
theorem kvI_reduce : Cond.selects RI yI_reduce yI_reduce ∈ zWS := zsel (y := yI_reduce) 21 (by decide +kernel)
def rI_reduce : Room := { frames := 2, cells := 0, slots := 0, locals := 35 }
abbrev cI_seekInRow : ByteArray := prog_3_method_8_code
def yI_seekInRow : MethodName := ⟨RI, "seekInRow", "(LRegionDesk$Region;III)V"⟩
def mI_seekInRow : zMd := (yI_seekInRow, cI_seekInRow, 8, none)
set_option maxRecDepth 20000 in
theorem kI_seekInRow : zKn mI_seekInRow 4 := ⟨zin 625 rfl rfl, zin 6 (by decide +kernel) (by decide +kernel), ⟨by decide +kernel, by decide +kernel⟩, by decide +kernel⟩
theorem kiI_seekInRow : Cond.instanceMethod yI_seekInRow ∈ zWS := zin 624 (by decide +kernel) (by decide +kernel)
theorem kvI_seekInRow : Cond.selects RI yI_seekInRow yI_seekInRow ∈ zWS := zsel (y := yI_seekInRow) 16 (by decide +kernel)
def rI_seekInRow : Room := { frames := 2, cells := 0, slots := 0, locals := 52 }
abbrev cI_side : ByteArray := prog_3_method_9_code
def yI_side : MethodName := ⟨RI, "side", "(LRegionDesk$Region;IIII)I"⟩
def mI_side : zMd := (yI_side, cI_side, 5, (some .int))
set_option maxRecDepth 20000 in
theorem kI_side : zKn mI_side 5 := ⟨zin 629 rfl rfl, zin 6 (by decide +kernel) (by decide +kernel), ⟨by decide +kernel, by decide +kernel⟩, by decide +kernel⟩
theorem ksI_side : Cond.static yI_side ∈ zWS := zin 628 (by decide +kernel) (by decide +kernel)
def rI_side : Room := { frames := 1, cells := 0, slots := 0, locals := 15 }
abbrev cI_boundByOne : ByteArray := prog_3_method_10_code
def yI_boundByOne : MethodName := ⟨RI, "boundByOne", "(LRegionDesk$Region;IIII)V"⟩
def mI_boundByOne : zMd := (yI_boundByOne, cI_boundByOne, 10, none)
set_option maxRecDepth 20000 in
theorem kI_boundByOne : zKn mI_boundByOne 5 := ⟨zin 635 rfl rfl, zin 6 (by decide +kernel) (by decide +kernel), ⟨by decide +kernel, by decide +kernel⟩, by decide +kernel⟩
theorem kiI_boundByOne : Cond.instanceMethod yI_boundByOne ∈ zWS := zin 634 (by decide +kernel) (by decide +kernel)
theorem kvI_boundByOne : Cond.selects RI yI_boundByOne yI_boundByOne ∈ zWS := zsel (y := yI_boundByOne) 17 (by decide +kernel)
def rI_boundByOne : Room := { frames := 1, cells := 0, slots := 0, locals := 21 }
abbrev cI_boundByTwo : ByteArray := prog_3_method_11_code
def yI_boundByTwo : MethodName := ⟨RI, "boundByTwo", "(LRegionDesk$Region;IIIII)V"⟩
def mI_boundByTwo : zMd := (yI_boundByTwo, cI_boundByTwo, 20, none)
set_option maxRecDepth 20000 in
theorem kI_boundByTwo : zKn mI_boundByTwo 6 := ⟨zin 645 rfl rfl, zin 6 (by decide +kernel) (by decide +kernel), ⟨by decide +kernel, by decide +kernel⟩, by decide +kernel⟩
theorem kiI_boundByTwo : Cond.instanceMethod yI_boundByTwo ∈ zWS := zin 644 (by decide +kernel) (by decide +kernel)
theorem kvI_boundByTwo : Cond.selects RI yI_boundByTwo yI_boundByTwo ∈ zWS := zsel (y := yI_boundByTwo) 19 (by decide +kernel)
def rI_boundByTwo : Room := { frames := 1, cells := 0, slots := 0, locals := 21 }
abbrev cI_raiseRow : ByteArray := prog_3_method_12_code
def yI_raiseRow : MethodName := ⟨RI, "raiseRow", "(JJZ)V"⟩
def mI_raiseRow : zMd := (yI_raiseRow, cI_raiseRow, 10, none)
set_option maxRecDepth 20000 in
theorem kI_raiseRow : zKn mI_raiseRow 3 := ⟨zin 641 rfl rfl, zin 6 (by decide +kernel) (by decide +kernel), ⟨by decide +kernel, by decide +kernel⟩, by decide +kernel⟩
theorem kiI_raiseRow : Cond.instanceMethod yI_raiseRow ∈ zWS := zin 640 (by decide +kernel) (by decide +kernel)
theorem kvI_raiseRow : Cond.selects RI yI_raiseRow yI_raiseRow ∈ zWS := zsel (y := yI_raiseRow) 18 (by decide +kernel)
def rI_raiseRow : Room := { frames := 0, cells := 0, slots := 0, locals := 0 }
abbrev cR_init : ByteArray := prog_4_method_1_code
def yR_init : MethodName := ⟨RR, "<init>", "()V"⟩
def mR_init : zMd := (yR_init, cR_init, 1, none)
set_option maxRecDepth 20000 in
theorem kR_init : zKn mR_init 0 := ⟨zin 82 rfl rfl, zin 5 (by decide +kernel) (by decide +kernel), ⟨by decide +kernel, by decide +kernel⟩, by decide +kernel⟩
theorem kiR_init : Cond.instanceMethod yR_init ∈ zWS := zin 81 (by decide +kernel) (by decide +kernel)
def rR_init : Room := { frames := 1, cells := 0, slots := 0, locals := 12 }
abbrev cR_clear : ByteArray := prog_4_method_2_code
def yR_clear : MethodName := ⟨RR, "clear", "()V"⟩
def mR_clear : zMd := (yR_clear, cR_clear, 1, none)
set_option maxRecDepth 20000 in
theorem kR_clear : zKn mR_clear 0 := ⟨zin 300 rfl rfl, zin 5 (by decide +kernel) (by decide +kernel), ⟨by decide +kernel, by decide +kernel⟩, by decide +kernel⟩
theorem kiR_clear : Cond.instanceMethod yR_clear ∈ zWS := zin 298 (by decide +kernel) (by decide +kernel)
theorem kvR_clear : Cond.selects RR yR_clear yR_clear ∈ zWS := zin 299 (by decide +kernel) (by decide +kernel)
def rR_clear : Room := { frames := 0, cells := 0, slots := 0, locals := 0 }
abbrev cR_copy : ByteArray := prog_4_method_3_code
def yR_copy : MethodName := ⟨RR, "copy", "(LRegionDesk$Region;)V"⟩
def mR_copy : zMd := (yR_copy, cR_copy, 3, none)
set_option maxRecDepth 20000 in
theorem kR_copy : zKn mR_copy 1 := ⟨zin 447 rfl rfl, zin 5 (by decide +kernel) (by decide +kernel), ⟨by decide +kernel, by decide +kernel⟩, by decide +kernel⟩
theorem kiR_copy : Cond.instanceMethod yR_copy ∈ zWS := zin 445 (by decide +kernel) (by decide +kernel)
theorem kvR_copy : Cond.selects RR yR_copy yR_copy ∈ zWS := zin 446 (by decide +kernel) (by decide +kernel)
def rR_copy : Room := { frames := 1, cells := 0, slots := 0, locals := 24 }
abbrev cR_rowCount : ByteArray := prog_4_method_4_code
def yR_rowCount : MethodName := ⟨RR, "rowCount", "()I"⟩
def mR_rowCount : zMd := (yR_rowCount, cR_rowCount, 1, (some .int))
set_option maxRecDepth 20000 in
theorem kR_rowCount : zKn mR_rowCount 0 := ⟨zin 409 rfl rfl, zin 5 (by decide +kernel) (by decide +kernel), ⟨by decide +kernel, by decide +kernel⟩, by decide +kernel⟩
theorem kiR_rowCount : Cond.instanceMethod yR_rowCount ∈ zWS := zin 407 (by decide +kernel) (by decide +kernel)
theorem kvR_rowCount : Cond.selects RR yR_rowCount yR_rowCount ∈ zWS := zin 408 (by decide +kernel) (by decide +kernel)
def rR_rowCount : Room := { frames := 0, cells := 0, slots := 0, locals := 0 }
abbrev cR_memberCount : ByteArray := prog_4_method_5_code
def yR_memberCount : MethodName := ⟨RR, "memberCount", "(I)I"⟩
def mR_memberCount : zMd := (yR_memberCount, cR_memberCount, 2, (some .int))
set_option maxRecDepth 20000 in
theorem kR_memberCount : zKn mR_memberCount 1 := ⟨zin 414 rfl rfl, zin 5 (by decide +kernel) (by decide +kernel), ⟨by decide +kernel, by decide +kernel⟩, by decide +kernel⟩
theorem kiR_memberCount : Cond.instanceMethod yR_memberCount ∈ zWS := zin 412 (by decide +kernel) (by decide +kernel)
theorem kvR_memberCount : Cond.selects RR yR_memberCount yR_memberCount ∈ zWS := zin 413 (by decide +kernel) (by decide +kernel)
def rR_memberCount : Room := { frames := 0, cells := 0, slots := 0, locals := 0 }
abbrev cR_x : ByteArray := prog_4_method_6_code
def yR_x : MethodName := ⟨RR, "x", "(II)I"⟩
def mR_x : zMd := (yR_x, cR_x, 3, (some .int))
set_option maxRecDepth 20000 in
theorem kR_x : zKn mR_x 2 := ⟨zin 351 rfl rfl, zin 5 (by decide +kernel) (by decide +kernel), ⟨by decide +kernel, by decide +kernel⟩, by decide +kernel⟩
theorem kiR_x : Cond.instanceMethod yR_x ∈ zWS := zin 349 (by decide +kernel) (by decide +kernel)
theorem kvR_x : Cond.selects RR yR_x yR_x ∈ zWS := zin 350 (by decide +kernel) (by decide +kernel)
def rR_x : Room := { frames := 0, cells := 0, slots := 0, locals := 0 }
abbrev cR_y : ByteArray := prog_4_method_7_code
def yR_y : MethodName := ⟨RR, "y", "(II)I"⟩
def mR_y : zMd := (yR_y, cR_y, 3, (some .int))
set_option maxRecDepth 20000 in
theorem kR_y : zKn mR_y 2 := ⟨zin 359 rfl rfl, zin 5 (by decide +kernel) (by decide +kernel), ⟨by decide +kernel, by decide +kernel⟩, by decide +kernel⟩
theorem kiR_y : Cond.instanceMethod yR_y ∈ zWS := zin 357 (by decide +kernel) (by decide +kernel)
theorem kvR_y : Cond.selects RR yR_y yR_y ∈ zWS := zin 358 (by decide +kernel) (by decide +kernel)
def rR_y : Room := { frames := 0, cells := 0, slots := 0, locals := 0 }
abbrev cR_bound : ByteArray := prog_4_method_8_code
def yR_bound : MethodName := ⟨RR, "bound", "(II)I"⟩
def mR_bound : zMd := (yR_bound, cR_bound, 3, (some .int))
set_option maxRecDepth 20000 in
theorem kR_bound : zKn mR_bound 2 := ⟨zin 367 rfl rfl, zin 5 (by decide +kernel) (by decide +kernel), ⟨by decide +kernel, by decide +kernel⟩, by decide +kernel⟩
theorem kiR_bound : Cond.instanceMethod yR_bound ∈ zWS := zin 365 (by decide +kernel) (by decide +kernel)
theorem kvR_bound : Cond.selects RR yR_bound yR_bound ∈ zWS := zin 366 (by decide +kernel) (by decide +kernel)
def rR_bound : Room := { frames := 0, cells := 0, slots := 0, locals := 0 }
abbrev cR_isStrict : ByteArray := prog_4_method_9_code
def yR_isStrict : MethodName := ⟨RR, "isStrict", "(II)Z"⟩
def mR_isStrict : zMd := (yR_isStrict, cR_isStrict, 3, (some .boolean))
set_option maxRecDepth 20000 in
theorem kR_isStrict : zKn mR_isStrict 2 := ⟨zin 375 rfl rfl, zin 5 (by decide +kernel) (by decide +kernel), ⟨by decide +kernel, by decide +kernel⟩, by decide +kernel⟩
theorem kiR_isStrict : Cond.instanceMethod yR_isStrict ∈ zWS := zin 373 (by decide +kernel) (by decide +kernel)
theorem kvR_isStrict : Cond.selects RR yR_isStrict yR_isStrict ∈ zWS := zin 374 (by decide +kernel) (by decide +kernel)
def rR_isStrict : Room := { frames := 0, cells := 0, slots := 0, locals := 0 }
abbrev cR_admit : ByteArray := prog_4_method_10_code
/-- the name of this method of Region, as the tables have it -/
def zName302 : String := match (tables_1[302]? : Option Cond) with
  | some (Cond.instanceMethod y) => y.name
  | _ => ""
def yR_admit : MethodName := ⟨RR, zName302, "(LRegionDesk$Draft;)Z"⟩
def mR_admit : zMd := (yR_admit, cR_admit, 2, (some .boolean))
set_option maxRecDepth 20000 in
theorem kR_admit : zKn mR_admit 1 := ⟨zin 304 rfl rfl, zin 5 (by decide +kernel) (by decide +kernel), ⟨by decide +kernel, by decide +kernel⟩, by decide +kernel⟩
theorem kiR_admit : Cond.instanceMethod yR_admit ∈ zWS := zin 302 (by decide +kernel) (by decide +kernel)
theorem kvR_admit : Cond.selects RR yR_admit yR_admit ∈ zWS := zin 303 (by decide +kernel) (by decide +kernel)
def rR_admit : Room := { frames := 3, cells := 0, slots := 0, locals := 60 }
abbrev cR_contains : ByteArray := prog_4_method_11_code
def yR_contains : MethodName := ⟨RR, "contains", "(LRegionDesk$Draft;)Z"⟩
def mR_contains : zMd := (yR_contains, cR_contains, 3, (some .boolean))
set_option maxRecDepth 20000 in
theorem kR_contains : zKn mR_contains 1 := ⟨zin 339 rfl rfl, zin 5 (by decide +kernel) (by decide +kernel), ⟨by decide +kernel, by decide +kernel⟩, by decide +kernel⟩
theorem kiR_contains : Cond.instanceMethod yR_contains ∈ zWS := zin 338 (by decide +kernel) (by decide +kernel)
theorem kvR_contains : Cond.selects RR yR_contains yR_contains ∈ zWS := zsel (y := yR_contains) 7 (by decide +kernel)
def rR_contains : Room := { frames := 2, cells := 0, slots := 0, locals := 30 }
abbrev cR_isSame : ByteArray := prog_4_method_12_code
def yR_isSame : MethodName := ⟨RR, "isSame", "(ILRegionDesk$Draft;)Z"⟩
def mR_isSame : zMd := (yR_isSame, cR_isSame, 4, (some .boolean))
set_option maxRecDepth 20000 in
theorem kR_isSame : zKn mR_isSame 2 := ⟨zin 343 rfl rfl, zin 5 (by decide +kernel) (by decide +kernel), ⟨by decide +kernel, by decide +kernel⟩, by decide +kernel⟩
theorem kiR_isSame : Cond.instanceMethod yR_isSame ∈ zWS := zin 342 (by decide +kernel) (by decide +kernel)
theorem kvR_isSame : Cond.selects RR yR_isSame yR_isSame ∈ zWS := zsel (y := yR_isSame) 8 (by decide +kernel)
def rR_isSame : Room := { frames := 1, cells := 0, slots := 0, locals := 15 }
abbrev cR_append : ByteArray := prog_4_method_13_code
def yR_append : MethodName := ⟨RR, "append", "(LRegionDesk$Draft;)V"⟩
def mR_append : zMd := (yR_append, cR_append, 4, none)
set_option maxRecDepth 20000 in
theorem kR_append : zKn mR_append 1 := ⟨zin 383 rfl rfl, zin 5 (by decide +kernel) (by decide +kernel), ⟨by decide +kernel, by decide +kernel⟩, by decide +kernel⟩
theorem kiR_append : Cond.instanceMethod yR_append ∈ zWS := zin 382 (by decide +kernel) (by decide +kernel)
theorem kvR_append : Cond.selects RR yR_append yR_append ∈ zWS := zsel (y := yR_append) 9 (by decide +kernel)
def rR_append : Room := { frames := 1, cells := 0, slots := 0, locals := 15 }
abbrev cR_pour : ByteArray := prog_4_method_14_code
def yR_pour : MethodName := ⟨RR, "pour", "(IILRegionDesk$Draft;)V"⟩
def mR_pour : zMd := (yR_pour, cR_pour, 5, none)
set_option maxRecDepth 20000 in
theorem kR_pour : zKn mR_pour 3 := ⟨zin 418 rfl rfl, zin 5 (by decide +kernel) (by decide +kernel), ⟨by decide +kernel, by decide +kernel⟩, by decide +kernel⟩
theorem kiR_pour : Cond.instanceMethod yR_pour ∈ zWS := zin 416 (by decide +kernel) (by decide +kernel)
theorem kvR_pour : Cond.selects RR yR_pour yR_pour ∈ zWS := zin 417 (by decide +kernel) (by decide +kernel)
def rR_pour : Room := { frames := 3, cells := 0, slots := 0, locals := 58 }
abbrev cR_pourContrary : ByteArray := prog_4_method_15_code
def yR_pourContrary : MethodName := ⟨RR, "pourContrary", "(IILRegionDesk$Draft;)V"⟩
def mR_pourContrary : zMd := (yR_pourContrary, cR_pourContrary, 4, none)
set_option maxRecDepth 20000 in
theorem kR_pourContrary : zKn mR_pourContrary 3 := ⟨zin 481 rfl rfl, zin 5 (by decide +kernel) (by decide +kernel), ⟨by decide +kernel, by decide +kernel⟩, by decide +kernel⟩
theorem kiR_pourContrary : Cond.instanceMethod yR_pourContrary ∈ zWS := zin 479 (by decide +kernel) (by decide +kernel)
theorem kvR_pourContrary : Cond.selects RR yR_pourContrary yR_pourContrary ∈ zWS := zin 480 (by decide +kernel) (by decide +kernel)
def rR_pourContrary : Room := { frames := 3, cells := 0, slots := 0, locals := 58 }
abbrev cR_hasPoint : ByteArray := prog_4_method_16_code
def yR_hasPoint : MethodName := ⟨RR, "hasPoint", "(III)Z"⟩
def mR_hasPoint : zMd := (yR_hasPoint, cR_hasPoint, 5, (some .boolean))
set_option maxRecDepth 20000 in
theorem kR_hasPoint : zKn mR_hasPoint 3 := ⟨zin 591 rfl rfl, zin 5 (by decide +kernel) (by decide +kernel), ⟨by decide +kernel, by decide +kernel⟩, by decide +kernel⟩
theorem kiR_hasPoint : Cond.instanceMethod yR_hasPoint ∈ zWS := zin 589 (by decide +kernel) (by decide +kernel)
theorem kvR_hasPoint : Cond.selects RR yR_hasPoint yR_hasPoint ∈ zWS := zin 590 (by decide +kernel) (by decide +kernel)
def rR_hasPoint : Room := { frames := 2, cells := 0, slots := 0, locals := 34 }
abbrev cR_rowHasPoint : ByteArray := prog_4_method_17_code
def yR_rowHasPoint : MethodName := ⟨RR, "rowHasPoint", "(IIII)Z"⟩
def mR_rowHasPoint : zMd := (yR_rowHasPoint, cR_rowHasPoint, 8, (some .boolean))
set_option maxRecDepth 20000 in
theorem kR_rowHasPoint : zKn mR_rowHasPoint 4 := ⟨zin 595 rfl rfl, zin 5 (by decide +kernel) (by decide +kernel), ⟨by decide +kernel, by decide +kernel⟩, by decide +kernel⟩
theorem kiR_rowHasPoint : Cond.instanceMethod yR_rowHasPoint ∈ zWS := zin 594 (by decide +kernel) (by decide +kernel)
theorem kvR_rowHasPoint : Cond.selects RR yR_rowHasPoint yR_rowHasPoint ∈ zWS := zsel (y := yR_rowHasPoint) 14 (by decide +kernel)
def rR_rowHasPoint : Room := { frames := 1, cells := 0, slots := 0, locals := 15 }
abbrev cS_init : ByteArray := prog_5_method_1_code
def yS_init : MethodName := ⟨RS, "<init>", "()V"⟩
def mS_init : zMd := (yS_init, cS_init, 1, none)
set_option maxRecDepth 20000 in
theorem kS_init : zKn mS_init 0 := ⟨zin 37 rfl rfl, zin 3 (by decide +kernel) (by decide +kernel), ⟨by decide +kernel, by decide +kernel⟩, by decide +kernel⟩
theorem kiS_init : Cond.instanceMethod yS_init ∈ zWS := zin 36 (by decide +kernel) (by decide +kernel)
def rS_init : Room := { frames := 1, cells := 0, slots := 0, locals := 12 }
abbrev cS_reset : ByteArray := prog_5_method_2_code
def yS_reset : MethodName := ⟨RS, "reset", "()V"⟩
def mS_reset : zMd := (yS_reset, cS_reset, 1, none)
set_option maxRecDepth 20000 in
theorem kS_reset : zKn mS_reset 0 := ⟨zin 312 rfl rfl, zin 3 (by decide +kernel) (by decide +kernel), ⟨by decide +kernel, by decide +kernel⟩, by decide +kernel⟩
theorem kiS_reset : Cond.instanceMethod yS_reset ∈ zWS := zin 310 (by decide +kernel) (by decide +kernel)
theorem kvS_reset : Cond.selects RS yS_reset yS_reset ∈ zWS := zin 311 (by decide +kernel) (by decide +kernel)
def rS_reset : Room := { frames := 0, cells := 0, slots := 0, locals := 0 }
abbrev cS_narrow : ByteArray := prog_5_method_3_code
def yS_narrow : MethodName := ⟨RS, "narrow", "(JJZ)Z"⟩
def mS_narrow : zMd := (yS_narrow, cS_narrow, 15, (some .boolean))
set_option maxRecDepth 20000 in
theorem kS_narrow : zKn mS_narrow 3 := ⟨zin 316 rfl rfl, zin 3 (by decide +kernel) (by decide +kernel), ⟨by decide +kernel, by decide +kernel⟩, by decide +kernel⟩
theorem kiS_narrow : Cond.instanceMethod yS_narrow ∈ zWS := zin 314 (by decide +kernel) (by decide +kernel)
theorem kvS_narrow : Cond.selects RS yS_narrow yS_narrow ∈ zWS := zin 315 (by decide +kernel) (by decide +kernel)
def rS_narrow : Room := { frames := 0, cells := 0, slots := 0, locals := 0 }
abbrev cW_init : ByteArray := prog_6_method_1_code
def yW_init : MethodName := ⟨RW, "<init>", "()V"⟩
def mW_init : zMd := (yW_init, cW_init, 1, none)
set_option maxRecDepth 20000 in
theorem kW_init : zKn mW_init 0 := ⟨zin 74 rfl rfl, zin 4 (by decide +kernel) (by decide +kernel), ⟨by decide +kernel, by decide +kernel⟩, by decide +kernel⟩
theorem kiW_init : Cond.instanceMethod yW_init ∈ zWS := zin 73 (by decide +kernel) (by decide +kernel)
def rW_init : Room := { frames := 3, cells := 0, slots := 0, locals := 40 }
abbrev cW_result : ByteArray := prog_6_method_2_code
def yW_result : MethodName := ⟨RW, "result", "()LRegionDesk$Region;"⟩
def mW_result : zMd := (yW_result, cW_result, 1, (some (.object "RegionDesk$Region")))
set_option maxRecDepth 20000 in
theorem kW_result : zKn mW_result 0 := ⟨zin 443 rfl rfl, zin 4 (by decide +kernel) (by decide +kernel), ⟨by decide +kernel, by decide +kernel⟩, by decide +kernel⟩
theorem kiW_result : Cond.instanceMethod yW_result ∈ zWS := zin 441 (by decide +kernel) (by decide +kernel)
theorem kvW_result : Cond.selects RW yW_result yW_result ∈ zWS := zin 442 (by decide +kernel) (by decide +kernel)
def rW_result : Room := { frames := 0, cells := 0, slots := 0, locals := 0 }
abbrev cW_intersect : ByteArray := prog_6_method_3_code
def yW_intersect : MethodName := ⟨RW, "intersect", "(LRegionDesk$Region;LRegionDesk$Region;)Z"⟩
def mW_intersect : zMd := (yW_intersect, cW_intersect, 5, (some .boolean))
set_option maxRecDepth 20000 in
theorem kW_intersect : zKn mW_intersect 2 := ⟨zin 404 rfl rfl, zin 4 (by decide +kernel) (by decide +kernel), ⟨by decide +kernel, by decide +kernel⟩, by decide +kernel⟩
theorem kiW_intersect : Cond.instanceMethod yW_intersect ∈ zWS := zin 402 (by decide +kernel) (by decide +kernel)
theorem kvW_intersect : Cond.selects RW yW_intersect yW_intersect ∈ zWS := zin 403 (by decide +kernel) (by decide +kernel)
def rW_intersect : Room := { frames := 4, cells := 0, slots := 0, locals := 74 }
abbrev cW_unite : ByteArray := prog_6_method_4_code
def yW_unite : MethodName := ⟨RW, "unite", "(LRegionDesk$Region;LRegionDesk$Region;)Z"⟩
def mW_unite : zMd := (yW_unite, cW_unite, 4, (some .boolean))
set_option maxRecDepth 20000 in
theorem kW_unite : zKn mW_unite 2 := ⟨zin 461 rfl rfl, zin 4 (by decide +kernel) (by decide +kernel), ⟨by decide +kernel, by decide +kernel⟩, by decide +kernel⟩
theorem kiW_unite : Cond.instanceMethod yW_unite ∈ zWS := zin 459 (by decide +kernel) (by decide +kernel)
theorem kvW_unite : Cond.selects RW yW_unite yW_unite ∈ zWS := zin 460 (by decide +kernel) (by decide +kernel)
def rW_unite : Room := { frames := 4, cells := 0, slots := 0, locals := 74 }
abbrev cW_complement : ByteArray := prog_6_method_5_code
def yW_complement : MethodName := ⟨RW, "complement", "(LRegionDesk$Region;)Z"⟩
def mW_complement : zMd := (yW_complement, cW_complement, 3, (some .boolean))
set_option maxRecDepth 20000 in
theorem kW_complement : zKn mW_complement 1 := ⟨zin 473 rfl rfl, zin 4 (by decide +kernel) (by decide +kernel), ⟨by decide +kernel, by decide +kernel⟩, by decide +kernel⟩
theorem kiW_complement : Cond.instanceMethod yW_complement ∈ zWS := zin 471 (by decide +kernel) (by decide +kernel)
theorem kvW_complement : Cond.selects RW yW_complement yW_complement ∈ zWS := zin 472 (by decide +kernel) (by decide +kernel)
def rW_complement : Room := { frames := 5, cells := 0, slots := 0, locals := 90 }
abbrev cW_setAside : ByteArray := prog_6_method_6_code
def yW_setAside : MethodName := ⟨RW, "setAside", "()LRegionDesk$Region;"⟩
def mW_setAside : zMd := (yW_setAside, cW_setAside, 2, (some (.object "RegionDesk$Region")))
set_option maxRecDepth 20000 in
theorem kW_setAside : zKn mW_setAside 0 := ⟨zin 485 rfl rfl, zin 4 (by decide +kernel) (by decide +kernel), ⟨by decide +kernel, by decide +kernel⟩, by decide +kernel⟩
theorem kiW_setAside : Cond.instanceMethod yW_setAside ∈ zWS := zin 483 (by decide +kernel) (by decide +kernel)
theorem kvW_setAside : Cond.selects RW yW_setAside yW_setAside ∈ zWS := zin 484 (by decide +kernel) (by decide +kernel)
def rW_setAside : Room := { frames := 0, cells := 0, slots := 0, locals := 0 }
abbrev cW_cut : ByteArray := prog_6_method_7_code
def yW_cut : MethodName := ⟨RW, "cut", "(LRegionDesk$Region;I)V"⟩
def mW_cut : zMd := (yW_cut, cW_cut, 4, none)
set_option maxRecDepth 20000 in
theorem kW_cut : zKn mW_cut 2 := ⟨zin 477 rfl rfl, zin 4 (by decide +kernel) (by decide +kernel), ⟨by decide +kernel, by decide +kernel⟩, by decide +kernel⟩
theorem kiW_cut : Cond.instanceMethod yW_cut ∈ zWS := zin 476 (by decide +kernel) (by decide +kernel)
theorem kvW_cut : Cond.selects RW yW_cut yW_cut ∈ zWS := zsel (y := yW_cut) 11 (by decide +kernel)
def rW_cut : Room := { frames := 4, cells := 0, slots := 0, locals := 74 }
abbrev cW_project : ByteArray := prog_6_method_8_code
def yW_project : MethodName := ⟨RW, "project", "(LRegionDesk$Region;I)Z"⟩
def mW_project : zMd := (yW_project, cW_project, 5, (some .boolean))
set_option maxRecDepth 20000 in
theorem kW_project : zKn mW_project 2 := ⟨zin 498 rfl rfl, zin 4 (by decide +kernel) (by decide +kernel), ⟨by decide +kernel, by decide +kernel⟩, by decide +kernel⟩
theorem kiW_project : Cond.instanceMethod yW_project ∈ zWS := zin 496 (by decide +kernel) (by decide +kernel)
theorem kvW_project : Cond.selects RW yW_project yW_project ∈ zWS := zin 497 (by decide +kernel) (by decide +kernel)
def rW_project : Room := { frames := 4, cells := 0, slots := 0, locals := 79 }
abbrev cW_eliminate : ByteArray := prog_6_method_9_code
def yW_eliminate : MethodName := ⟨RW, "eliminate", "(LRegionDesk$Region;III)V"⟩
def mW_eliminate : zMd := (yW_eliminate, cW_eliminate, 10, none)
set_option maxRecDepth 20000 in
theorem kW_eliminate : zKn mW_eliminate 4 := ⟨zin 502 rfl rfl, zin 4 (by decide +kernel) (by decide +kernel), ⟨by decide +kernel, by decide +kernel⟩, by decide +kernel⟩
theorem kiW_eliminate : Cond.instanceMethod yW_eliminate ∈ zWS := zin 501 (by decide +kernel) (by decide +kernel)
theorem kvW_eliminate : Cond.selects RW yW_eliminate yW_eliminate ∈ zWS := zsel (y := yW_eliminate) 12 (by decide +kernel)
def rW_eliminate : Room := { frames := 3, cells := 0, slots := 0, locals := 58 }
abbrev cW_entry : ByteArray := prog_6_method_10_code
def yW_entry : MethodName := ⟨RW, "entry", "(LRegionDesk$Region;III)J"⟩
def mW_entry : zMd := (yW_entry, cW_entry, 4, (some .long))
set_option maxRecDepth 20000 in
theorem kW_entry : zKn mW_entry 4 := ⟨zin 505 rfl rfl, zin 4 (by decide +kernel) (by decide +kernel), ⟨by decide +kernel, by decide +kernel⟩, by decide +kernel⟩
theorem ksW_entry : Cond.static yW_entry ∈ zWS := zin 504 (by decide +kernel) (by decide +kernel)
def rW_entry : Room := { frames := 1, cells := 0, slots := 0, locals := 14 }
theorem jmK_42 : Cond.methodLink RK 42 yK_exceeds ∈ zWS := zin 174 (by decide +kernel) (by decide +kernel)
theorem jmK_64 : Cond.methodLink RK 64 yD_put ∈ zWS := zin 263 (by decide +kernel) (by decide +kernel)
theorem jmK_68 : Cond.methodLink RK 68 yK_requireRoom ∈ zWS := zin 292 (by decide +kernel) (by decide +kernel)
theorem jmK_74 : Cond.methodLink RK 74 yR_clear ∈ zWS := zin 297 (by decide +kernel) (by decide +kernel)
theorem jmK_77 : Cond.methodLink RK 77 yR_admit ∈ zWS := zin 301 (by decide +kernel) (by decide +kernel)
theorem jmK_81 : Cond.methodLink RK 81 yD_clear ∈ zWS := zin 384 (by decide +kernel) (by decide +kernel)
theorem jmK_82 : Cond.methodLink RK 82 yK_requireHeight ∈ zWS := zin 396 (by decide +kernel) (by decide +kernel)
theorem jmK_86 : Cond.methodLink RK 86 yW_intersect ∈ zWS := zin 401 (by decide +kernel) (by decide +kernel)
theorem jmK_90 : Cond.methodLink RK 90 yK_requireLimitsKept ∈ zWS := zin 421 (by decide +kernel) (by decide +kernel)
theorem jmK_94 : Cond.methodLink RK 94 yW_result ∈ zWS := zin 440 (by decide +kernel) (by decide +kernel)
theorem jmK_98 : Cond.methodLink RK 98 yR_copy ∈ zWS := zin 444 (by decide +kernel) (by decide +kernel)
theorem jmK_102 : Cond.methodLink RK 102 yW_unite ∈ zWS := zin 458 (by decide +kernel) (by decide +kernel)
theorem jmK_105 : Cond.methodLink RK 105 yW_complement ∈ zWS := zin 470 (by decide +kernel) (by decide +kernel)
theorem jmK_111 : Cond.methodLink RK 111 yW_project ∈ zWS := zin 495 (by decide +kernel) (by decide +kernel)
theorem jmK_115 : Cond.methodLink RK 115 yK_requireTable ∈ zWS := zin 518 (by decide +kernel) (by decide +kernel)
theorem jmK_118 : Cond.methodLink RK 118 yR_rowCount ∈ zWS := zin 536 (by decide +kernel) (by decide +kernel)
theorem jmK_122 : Cond.methodLink RK 122 yK_requireRow ∈ zWS := zin 545 (by decide +kernel) (by decide +kernel)
theorem jmK_125 : Cond.methodLink RK 125 yR_memberCount ∈ zWS := zin 565 (by decide +kernel) (by decide +kernel)
theorem jmK_134 : Cond.methodLink RK 134 yR_x ∈ zWS := zin 574 (by decide +kernel) (by decide +kernel)
theorem jmK_138 : Cond.methodLink RK 138 yR_y ∈ zWS := zin 575 (by decide +kernel) (by decide +kernel)
theorem jmK_141 : Cond.methodLink RK 141 yR_bound ∈ zWS := zin 576 (by decide +kernel) (by decide +kernel)
theorem jmK_144 : Cond.methodLink RK 144 yR_isStrict ∈ zWS := zin 577 (by decide +kernel) (by decide +kernel)
theorem jmK_154 : Cond.methodLink RK 154 yR_hasPoint ∈ zWS := zin 588 (by decide +kernel) (by decide +kernel)
theorem jmK_158 : Cond.methodLink RK 158 yW_setAside ∈ zWS := zin 603 (by decide +kernel) (by decide +kernel)
theorem jmK_165 : Cond.methodLink RK 165 yI_seek ∈ zWS := zin 613 (by decide +kernel) (by decide +kernel)
theorem jmK_171 : Cond.methodLink RK 171 yI_numerator ∈ zWS := zin 663 (by decide +kernel) (by decide +kernel)
theorem jmK_175 : Cond.methodLink RK 175 yI_denominator ∈ zWS := zin 667 (by decide +kernel) (by decide +kernel)
theorem jmD_40 : Cond.methodLink RD 40 yD_insert ∈ zWS := zin 273 (by decide +kernel) (by decide +kernel)
theorem jmD_44 : Cond.methodLink RD 44 yD_strengthen ∈ zWS := zin 277 (by decide +kernel) (by decide +kernel)
theorem jmD_48 : Cond.methodLink RD 48 yD_move ∈ zWS := zin 281 (by decide +kernel) (by decide +kernel)
theorem jmD_52 : Cond.methodLink RD 52 yS_reset ∈ zWS := zin 309 (by decide +kernel) (by decide +kernel)
theorem jmD_55 : Cond.methodLink RD 55 yS_narrow ∈ zWS := zin 313 (by decide +kernel) (by decide +kernel)
theorem jmD_59 : Cond.methodLink RD 59 yD_flip ∈ zWS := zin 321 (by decide +kernel) (by decide +kernel)
theorem jmD_63 : Cond.methodLink RD 63 yD_hasPoints ∈ zWS := zin 325 (by decide +kernel) (by decide +kernel)
theorem jmD_67 : Cond.methodLink RD 67 yD_remove ∈ zWS := zin 326 (by decide +kernel) (by decide +kernel)
theorem jmI_18 : Cond.methodLink RI 18 yI_forget ∈ zWS := zin 617 (by decide +kernel) (by decide +kernel)
theorem jmI_21 : Cond.methodLink RI 21 yR_rowCount ∈ zWS := zin 621 (by decide +kernel) (by decide +kernel)
theorem jmI_27 : Cond.methodLink RI 27 yI_seekInRow ∈ zWS := zin 622 (by decide +kernel) (by decide +kernel)
theorem jmI_34 : Cond.methodLink RI 34 yI_lowerToRow ∈ zWS := zin 646 (by decide +kernel) (by decide +kernel)
theorem jmI_37 : Cond.methodLink RI 37 yI_reduce ∈ zWS := zin 650 (by decide +kernel) (by decide +kernel)
theorem jmI_54 : Cond.methodLink RI 54 yR_memberCount ∈ zWS := zin 626 (by decide +kernel) (by decide +kernel)
theorem jmI_58 : Cond.methodLink RI 58 yI_side ∈ zWS := zin 627 (by decide +kernel) (by decide +kernel)
theorem jmI_62 : Cond.methodLink RI 62 yI_boundByOne ∈ zWS := zin 632 (by decide +kernel) (by decide +kernel)
theorem jmI_66 : Cond.methodLink RI 66 yI_boundByTwo ∈ zWS := zin 642 (by decide +kernel) (by decide +kernel)
theorem jmI_70 : Cond.methodLink RI 70 yR_y ∈ zWS := zin 630 (by decide +kernel) (by decide +kernel)
theorem jmI_74 : Cond.methodLink RI 74 yR_x ∈ zWS := zin 631 (by decide +kernel) (by decide +kernel)
theorem jmI_77 : Cond.methodLink RI 77 yR_bound ∈ zWS := zin 636 (by decide +kernel) (by decide +kernel)
theorem jmI_80 : Cond.methodLink RI 80 yR_isStrict ∈ zWS := zin 637 (by decide +kernel) (by decide +kernel)
theorem jmI_84 : Cond.methodLink RI 84 yI_raiseRow ∈ zWS := zin 638 (by decide +kernel) (by decide +kernel)
theorem jmR_28 : Cond.methodLink RR 28 yD_hasPoints ∈ zWS := zin 305 (by decide +kernel) (by decide +kernel)
theorem jmR_34 : Cond.methodLink RR 34 yD_dropImplied ∈ zWS := zin 317 (by decide +kernel) (by decide +kernel)
theorem jmR_37 : Cond.methodLink RR 37 yD_keepsLimits ∈ zWS := zin 330 (by decide +kernel) (by decide +kernel)
theorem jmR_40 : Cond.methodLink RR 40 yR_contains ∈ zWS := zin 336 (by decide +kernel) (by decide +kernel)
theorem jmR_44 : Cond.methodLink RR 44 yR_append ∈ zWS := zin 380 (by decide +kernel) (by decide +kernel)
theorem jmR_48 : Cond.methodLink RR 48 yR_isSame ∈ zWS := zin 340 (by decide +kernel) (by decide +kernel)
theorem jmR_52 : Cond.methodLink RR 52 yD_memberCount ∈ zWS := zin 344 (by decide +kernel) (by decide +kernel)
theorem jmR_56 : Cond.methodLink RR 56 yR_x ∈ zWS := zin 348 (by decide +kernel) (by decide +kernel)
theorem jmR_60 : Cond.methodLink RR 60 yD_x ∈ zWS := zin 352 (by decide +kernel) (by decide +kernel)
theorem jmR_63 : Cond.methodLink RR 63 yR_y ∈ zWS := zin 356 (by decide +kernel) (by decide +kernel)
theorem jmR_66 : Cond.methodLink RR 66 yD_y ∈ zWS := zin 360 (by decide +kernel) (by decide +kernel)
theorem jmR_68 : Cond.methodLink RR 68 yR_bound ∈ zWS := zin 364 (by decide +kernel) (by decide +kernel)
theorem jmR_71 : Cond.methodLink RR 71 yD_bound ∈ zWS := zin 368 (by decide +kernel) (by decide +kernel)
theorem jmR_73 : Cond.methodLink RR 73 yR_isStrict ∈ zWS := zin 372 (by decide +kernel) (by decide +kernel)
theorem jmR_77 : Cond.methodLink RR 77 yD_isStrict ∈ zWS := zin 376 (by decide +kernel) (by decide +kernel)
theorem jmR_80 : Cond.methodLink RR 80 yD_put ∈ zWS := zin 419 (by decide +kernel) (by decide +kernel)
theorem jmR_84 : Cond.methodLink RR 84 yR_rowHasPoint ∈ zWS := zin 592 (by decide +kernel) (by decide +kernel)
theorem jmW_29 : Cond.methodLink RW 29 yR_clear ∈ zWS := zin 405 (by decide +kernel) (by decide +kernel)
theorem jmW_32 : Cond.methodLink RW 32 yR_rowCount ∈ zWS := zin 406 (by decide +kernel) (by decide +kernel)
theorem jmW_36 : Cond.methodLink RW 36 yD_clear ∈ zWS := zin 410 (by decide +kernel) (by decide +kernel)
theorem jmW_37 : Cond.methodLink RW 37 yR_memberCount ∈ zWS := zin 411 (by decide +kernel) (by decide +kernel)
theorem jmW_41 : Cond.methodLink RW 41 yR_pour ∈ zWS := zin 415 (by decide +kernel) (by decide +kernel)
theorem jmW_45 : Cond.methodLink RW 45 yR_admit ∈ zWS := zin 420 (by decide +kernel) (by decide +kernel)
theorem jmW_49 : Cond.methodLink RW 49 yR_copy ∈ zWS := zin 462 (by decide +kernel) (by decide +kernel)
theorem jmW_53 : Cond.methodLink RW 53 yW_cut ∈ zWS := zin 474 (by decide +kernel) (by decide +kernel)
theorem jmW_57 : Cond.methodLink RW 57 yW_setAside ∈ zWS := zin 482 (by decide +kernel) (by decide +kernel)
theorem jmW_61 : Cond.methodLink RW 61 yW_intersect ∈ zWS := zin 486 (by decide +kernel) (by decide +kernel)
theorem jmW_65 : Cond.methodLink RW 65 yR_pourContrary ∈ zWS := zin 478 (by decide +kernel) (by decide +kernel)
theorem jmW_68 : Cond.methodLink RW 68 yW_eliminate ∈ zWS := zin 499 (by decide +kernel) (by decide +kernel)
theorem jmW_72 : Cond.methodLink RW 72 yW_entry ∈ zWS := zin 503 (by decide +kernel) (by decide +kernel)
theorem jmW_76 : Cond.methodLink RW 76 yR_x ∈ zWS := zin 506 (by decide +kernel) (by decide +kernel)
theorem jmW_80 : Cond.methodLink RW 80 yR_y ∈ zWS := zin 507 (by decide +kernel) (by decide +kernel)
theorem jmW_83 : Cond.methodLink RW 83 yR_bound ∈ zWS := zin 508 (by decide +kernel) (by decide +kernel)
theorem jmW_86 : Cond.methodLink RW 86 yR_isStrict ∈ zWS := zin 509 (by decide +kernel) (by decide +kernel)
theorem jmW_90 : Cond.methodLink RW 90 yD_put ∈ zWS := zin 510 (by decide +kernel) (by decide +kernel)
theorem jmM_76 : Cond.methodLink RM 76 yM_cross ∈ zWS := zin 870 (by decide +kernel) (by decide +kernel)
theorem jmM_98 : Cond.methodLink RM 98 yM_isBand ∈ zWS := zin 866 (by decide +kernel) (by decide +kernel)
theorem jmM_102 : Cond.methodLink RM 102 yM_band ∈ zWS := zin 874 (by decide +kernel) (by decide +kernel)
theorem jmM_105 : Cond.methodLink RM 105 yM_corner ∈ zWS := zin 881 (by decide +kernel) (by decide +kernel)
theorem jmM_109 : Cond.methodLink RM 109 yM_inCorner ∈ zWS := zin 886 (by decide +kernel) (by decide +kernel)
theorem jmM_113 : Cond.methodLink RM 113 yM_way ∈ zWS := zin 890 (by decide +kernel) (by decide +kernel)
theorem jmM_117 : Cond.methodLink RM 117 yM_inWay ∈ zWS := zin 894 (by decide +kernel) (by decide +kernel)
theorem jmM_120 : Cond.methodLink RM 120 yM_strictOnes ∈ zWS := zin 898 (by decide +kernel) (by decide +kernel)
theorem jmM_132 : Cond.methodLink RM 132 yM_compare ∈ zWS := zin 878 (by decide +kernel) (by decide +kernel)
theorem jmM_149 : Cond.methodLink RM 149 yM_place ∈ zWS := zin 910 (by decide +kernel) (by decide +kernel)
theorem jmM_153 : Cond.methodLink RM 153 yM_add ∈ zWS := zin 831 (by decide +kernel) (by decide +kernel)
theorem jmM_157 : Cond.methodLink RM 157 yM_swap ∈ zWS := zin 850 (by decide +kernel) (by decide +kernel)
theorem jmM_161 : Cond.methodLink RM 161 yM_divisor ∈ zWS := zin 843 (by decide +kernel) (by decide +kernel)
theorem jmM_165 : Cond.methodLink RM 165 yM_isBefore ∈ zWS := zin 846 (by decide +kernel) (by decide +kernel)
theorem jmM_168 : Cond.methodLink RM 168 yM_remove ∈ zWS := zin 854 (by decide +kernel) (by decide +kernel)
theorem jmM_172 : Cond.methodLink RM 172 yM_ask ∈ zWS := zin 858 (by decide +kernel) (by decide +kernel)
theorem jmM_175 : Cond.methodLink RM 175 yM_hasPoints ∈ zWS := zin 862 (by decide +kernel) (by decide +kernel)
theorem jmM_178 : Cond.methodLink RM 178 yM_thin ∈ zWS := zin 902 (by decide +kernel) (by decide +kernel)
theorem jmM_184 : Cond.methodLink RM 184 yM_normal ∈ zWS := zin 839 (by decide +kernel) (by decide +kernel)
theorem jmM_187 : Cond.methodLink RM 187 yM_isFar ∈ zWS := zin 818 (by decide +kernel) (by decide +kernel)
theorem jmM_191 : Cond.methodLink RM 191 yM_isRow ∈ zWS := zin 906 (by decide +kernel) (by decide +kernel)
theorem jmM_198 : Cond.methodLink RM 198 yM_begin ∈ zWS := zin 827 (by decide +kernel) (by decide +kernel)
theorem jmM_201 : Cond.methodLink RM 201 yM_addRow ∈ zWS := zin 921 (by decide +kernel) (by decide +kernel)
theorem jmM_205 : Cond.methodLink RM 205 yM_put ∈ zWS := zin 835 (by decide +kernel) (by decide +kernel)
theorem jmM_208 : Cond.methodLink RM 208 yM_parts ∈ zWS := zin 941 (by decide +kernel) (by decide +kernel)
theorem jmM_211 : Cond.methodLink RM 211 yM_both ∈ zWS := zin 917 (by decide +kernel) (by decide +kernel)
theorem jmM_214 : Cond.methodLink RM 214 yM_copy ∈ zWS := zin 925 (by decide +kernel) (by decide +kernel)
theorem jmM_223 : Cond.methodLink RM 223 yM_contrary ∈ zWS := zin 937 (by decide +kernel) (by decide +kernel)
theorem jmM_226 : Cond.methodLink RM 226 yM_freed ∈ zWS := zin 949 (by decide +kernel) (by decide +kernel)
theorem jmM_229 : Cond.methodLink RM 229 yM_isRowThere ∈ zWS := zin 977 (by decide +kernel) (by decide +kernel)
theorem jmM_251 : Cond.methodLink RM 251 yM_ofBand ∈ zWS := zin 997 (by decide +kernel) (by decide +kernel)
theorem jmM_255 : Cond.methodLink RM 255 yM_ofCorners ∈ zWS := zin 1001 (by decide +kernel) (by decide +kernel)
/-- links to private members of nest mates: no words of zWS (a warmer table keeps them by a law of their own) -/
def zNL : List (String × Nat × MethodName × String) := [(RK, 20, yD_init, "RegionDesk"), (RK, 27, yW_init, "RegionDesk"), (RK, 34, yI_init, "RegionDesk"), (RK, 39, yR_init, "RegionDesk"), (RD, 27, yS_init, "RegionDesk"), (RD, 36, yK_commonDivisor, "RegionDesk"), (RD, 72, yK_exceeds, "RegionDesk"), (RI, 50, yK_commonDivisor, "RegionDesk"), (RW, 9, yD_init, "RegionDesk"), (RW, 18, yR_init, "RegionDesk")]
def zNst (U : State) : Prop := ∀ q ∈ zNL, va_Nw (.methodLinkNest q.1 q.2.1 q.2.2.1 q.2.2.2) U
theorem zNL_tbl : ∀ q ∈ zNL, Cond.methodLinkNest q.1 q.2.1 q.2.2.1 q.2.2.2 ∈ tables_1 := by
  have h : ∀ k, k < 10 → ∀ q, zNL[k]? = some q → Cond.methodLinkNest q.1 q.2.1 q.2.2.1 q.2.2.2 ∈ tables_1 := by
    intro k hk
    match k, hk with
    | 0, _ => intro q hq; cases hq; exact List.mem_of_getElem? (i := 29) (by decide +kernel)
    | 1, _ => intro q hq; cases hq; exact List.mem_of_getElem? (i := 72) (by decide +kernel)
    | 2, _ => intro q hq; cases hq; exact List.mem_of_getElem? (i := 110) (by decide +kernel)
    | 3, _ => intro q hq; cases hq; exact List.mem_of_getElem? (i := 133) (by decide +kernel)
    | 4, _ => intro q hq; cases hq; exact List.mem_of_getElem? (i := 35) (by decide +kernel)
    | 5, _ => intro q hq; cases hq; exact List.mem_of_getElem? (i := 267) (by decide +kernel)
    | 6, _ => intro q hq; cases hq; exact List.mem_of_getElem? (i := 335) (by decide +kernel)
    | 7, _ => intro q hq; cases hq; exact List.mem_of_getElem? (i := 654) (by decide +kernel)
    | 8, _ => intro q hq; cases hq; exact List.mem_of_getElem? (i := 77) (by decide +kernel)
    | 9, _ => intro q hq; cases hq; exact List.mem_of_getElem? (i := 80) (by decide +kernel)
    | n + 10, h => omega
  intro q hq
  obtain ⟨k, hk⟩ := List.getElem?_of_mem hq
  exact h k (by have := (List.getElem?_eq_some_iff.mp hk).1; simpa [zNL] using this) q hk
theorem jlK_40 : Cond.constantLong RK 40 (10000 : Int64) ∈ zWS := zin 173 (by decide +kernel) (by decide +kernel)
theorem jlD_70 : Cond.constantLong RD 70 (10000 : Int64) ∈ zWS := zin 334 (by decide +kernel) (by decide +kernel)
theorem jlK_161 : Cond.constantLong RK 161 (100 : Int64) ∈ zWS := zin 611 (by decide +kernel) (by decide +kernel)
theorem jlM_194 : Cond.constantLong RM 194 (-10000 : Int64) ∈ zWS := zin 821 (by decide +kernel) (by decide +kernel)
theorem jlM_196 : Cond.constantLong RM 196 (10000 : Int64) ∈ zWS := zin 822 (by decide +kernel) (by decide +kernel)
theorem jlM_80 : Cond.constantLong RM 80 (-1 : Int64) ∈ zWS := zin 885 (by decide +kernel) (by decide +kernel)
