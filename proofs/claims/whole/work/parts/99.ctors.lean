/-! The seven constructors. -/
theorem obI : Cond.instanceMethod objectInit ∈ zWS := zin 23 (by decide +kernel) (by decide +kernel)
theorem obC : Cond.code objectInit ⟨#[0xb1]⟩ 1 none ∈ zWS := zin 24 rfl rfl
theorem acI : Cond.arrayClass .int ∈ zWS := zin 94 (by decide +kernel) (by decide +kernel)
theorem acJ : Cond.arrayClass .long ∈ zWS := zin 49 (by decide +kernel) (by decide +kernel)
theorem acZ : Cond.arrayClass .boolean ∈ zWS := zin 50 (by decide +kernel) (by decide +kernel)
theorem iiD : Cond.instanceMethod yD_init ∈ zWS := zin 30 (by decide +kernel) (by decide +kernel)
theorem olD_3 : Cond.methodLink RD 3 objectInit ∈ zWS := zin 32 (by decide +kernel) (by decide +kernel)
def f0D : List Value := [.null, .null, .null, .null, .null, .int 0]
theorem dfD : ∀ j, j < 6 → defaultValue (tyD j) = vp_V f0D j := by
  intro j hj
  match j, hj with
  | 0, _ => rfl
  | 1, _ => rfl
  | 2, _ => rfl
  | 3, _ => rfl
  | 4, _ => rfl
  | 5, _ => rfl
  | n + 6, h => omega
theorem iiI : Cond.instanceMethod yI_init ∈ zWS := zin 111 (by decide +kernel) (by decide +kernel)
theorem olI_3 : Cond.methodLink RI 3 objectInit ∈ zWS := zin 113 (by decide +kernel) (by decide +kernel)
def f0I : List Value := [.long 0, .long 0, .int 0, .long 0, .long 0, .int 0]
theorem dfI : ∀ j, j < 6 → defaultValue (tyI j) = vp_V f0I j := by
  intro j hj
  match j, hj with
  | 0, _ => rfl
  | 1, _ => rfl
  | 2, _ => rfl
  | 3, _ => rfl
  | 4, _ => rfl
  | 5, _ => rfl
  | n + 6, h => omega
theorem iiR : Cond.instanceMethod yR_init ∈ zWS := zin 81 (by decide +kernel) (by decide +kernel)
theorem olR_5 : Cond.methodLink RR 5 objectInit ∈ zWS := zin 83 (by decide +kernel) (by decide +kernel)
def f0R : List Value := [.null, .null, .int 0]
theorem dfR : ∀ j, j < 3 → defaultValue (tyR j) = vp_V f0R j := by
  intro j hj
  match j, hj with
  | 0, _ => rfl
  | 1, _ => rfl
  | 2, _ => rfl
  | n + 3, h => omega
theorem iiS : Cond.instanceMethod yS_init ∈ zWS := zin 36 (by decide +kernel) (by decide +kernel)
theorem olS_1 : Cond.methodLink RS 1 objectInit ∈ zWS := zin 38 (by decide +kernel) (by decide +kernel)
def f0S : List Value := [.null, .null, .null]
theorem dfS : ∀ j, j < 3 → defaultValue (tyS j) = vp_V f0S j := by
  intro j hj
  match j, hj with
  | 0, _ => rfl
  | 1, _ => rfl
  | 2, _ => rfl
  | n + 3, h => omega
theorem iiW : Cond.instanceMethod yW_init ∈ zWS := zin 73 (by decide +kernel) (by decide +kernel)
theorem olW_1 : Cond.methodLink RW 1 objectInit ∈ zWS := zin 75 (by decide +kernel) (by decide +kernel)
def f0W : List Value := [.null, .null, .null, .null]
theorem dfW : ∀ j, j < 4 → defaultValue (tyW j) = vp_V f0W j := by
  intro j hj
  match j, hj with
  | 0, _ => rfl
  | 1, _ => rfl
  | 2, _ => rfl
  | 3, _ => rfl
  | n + 4, h => omega
theorem iiK : Cond.instanceMethod yK_init ∈ zWS := zin 20 (by decide +kernel) (by decide +kernel)
theorem olK_1 : Cond.methodLink RK 1 objectInit ∈ zWS := zin 22 (by decide +kernel) (by decide +kernel)
def f0K : List Value := [.null, .null, .null, .null, .null, .int 0, .int 0]
theorem dfK : ∀ j, j < 7 → defaultValue (tyK j) = vp_V f0K j := by
  intro j hj
  match j, hj with
  | 0, _ => rfl
  | 1, _ => rfl
  | 2, _ => rfl
  | 3, _ => rfl
  | 4, _ => rfl
  | 5, _ => rfl
  | 6, _ => rfl
  | n + 7, h => omega
theorem iiM : Cond.instanceMethod yM_init ∈ zWS := zin 674 (by decide +kernel) (by decide +kernel)
theorem olM_1 : Cond.methodLink RM 1 objectInit ∈ zWS := zin 676 (by decide +kernel) (by decide +kernel)
def f0M : List Value := [.int 0, .null, .null, .null, .null, .null, .null, .int 0, .int 0, .null, .null, .null, .null, .int 0, .int 0, .null, .null, .null, .null, .int 0, .null, .null, .null, .null, .int 0, .int 0, .long 0, .long 0, .int 0, .long 0, .long 0, .long 0, .long 0, .long 0, .long 0, .long 0, .int 0, .long 0, .long 0, .int 0, .int 0, .int 0, .long 0, .long 0]
theorem dfM : ∀ j, j < 44 → defaultValue (tyM j) = vp_V f0M j := by
  intro j hj
  match j, hj with
  | 0, _ => rfl
  | 1, _ => rfl
  | 2, _ => rfl
  | 3, _ => rfl
  | 4, _ => rfl
  | 5, _ => rfl
  | 6, _ => rfl
  | 7, _ => rfl
  | 8, _ => rfl
  | 9, _ => rfl
  | 10, _ => rfl
  | 11, _ => rfl
  | 12, _ => rfl
  | 13, _ => rfl
  | 14, _ => rfl
  | 15, _ => rfl
  | 16, _ => rfl
  | 17, _ => rfl
  | 18, _ => rfl
  | 19, _ => rfl
  | 20, _ => rfl
  | 21, _ => rfl
  | 22, _ => rfl
  | 23, _ => rfl
  | 24, _ => rfl
  | 25, _ => rfl
  | 26, _ => rfl
  | 27, _ => rfl
  | 28, _ => rfl
  | 29, _ => rfl
  | 30, _ => rfl
  | 31, _ => rfl
  | 32, _ => rfl
  | 33, _ => rfl
  | 34, _ => rfl
  | 35, _ => rfl
  | 36, _ => rfl
  | 37, _ => rfl
  | 38, _ => rfl
  | 39, _ => rfl
  | 40, _ => rfl
  | 41, _ => rfl
  | 42, _ => rfl
  | 43, _ => rfl
  | n + 44, h => omega
theorem klL : Cond.methodLink RL 71 yK_init ∈ zWS := zin 19 (by decide +kernel) (by decide +kernel)
theorem kmL : Cond.methodLink RL 74 yM_init ∈ zWS := zin 673 (by decide +kernel) (by decide +kernel)
def rcS : Room := { frames := 1, cells := 3, slots := 6, locals := 12 }
def rcI : Room := { frames := 1, cells := 0, slots := 0, locals := 12 }
def rcR : Room := { frames := 1, cells := 2, slots := 588, locals := 12 }
def rcD : Room := { frames := 2, cells := 8, slots := 153, locals := 32 }
def rcW : Room := { frames := 3, cells := 18, slots := 1932, locals := 52 }
def rcK : Room := { frames := 4, cells := 61, slots := 8021, locals := 72 }
def rcM : Room := { frames := 1, cells := 18, slots := 8934, locals := 12 }
def wwS (ca : zK4) (u : Nat → Nat) : va_W := [(u 0, .inr (3, [.ref (u 1), .ref (u 2), .ref (u 3)])), (u 1, .inl (ca.2.1, 2, .inr (.inl (fun _ => 0)))), (u 2, .inl (ca.2.1, 2, .inr (.inl (fun _ => 0)))), (u 3, .inl (ca.2.2.1, 2, .inl (fun _ => 0)))]
def wwIn (ca : zK4) (u : Nat → Nat) : va_W := [(u 0, .inr (1, f0I))]
def wwR (ca : zK4) (u : Nat → Nat) : va_W := [(u 0, .inr (2, [.ref (u 1), .ref (u 2), .int 0])), (u 1, .inl (ca.1, 12, .inl (fun _ => 0))), (u 2, .inl (ca.1, 576, .inl (fun _ => 0)))]
def wwD (ca : zK4) (u : Nat → Nat) : va_W := [(u 0, .inr (0, [.ref (u 1), .ref (u 2), .ref (u 3), .ref (u 4), .ref (u 5), .int 0])), (u 1, .inl (ca.2.1, 36, .inr (.inl (fun _ => 0)))), (u 2, .inl (ca.2.1, 36, .inr (.inl (fun _ => 0)))), (u 3, .inl (ca.2.1, 36, .inr (.inl (fun _ => 0)))), (u 4, .inl (ca.2.2.1, 36, .inl (fun _ => 0)))] ++ wwS ca (fun i => u (i + 5))
def wwW (ca : zK4) (u : Nat → Nat) : va_W := [(u 0, .inr (4, [.ref (u 1), .ref (u 10), .ref (u 13), .ref (u 16)]))] ++ wwD ca (fun i => u (i + 1)) ++ wwR ca (fun i => u (i + 10)) ++ wwR ca (fun i => u (i + 13)) ++ wwR ca (fun i => u (i + 16))
def wwK (ca : zK4) (u : Nat → Nat) : va_W := [(u 0, .inr (5, [.ref (u 1), .ref (u 2), .ref (u 3), .ref (u 12), .ref (u 31), .int 0, .int 0])), (u 1, .inl (ca.2.2.2, 6, .inr (.inr (.inr (.inr (fun j => some (u (zel 1 j)))))))), (u 2, .inl (ca.2.2.2, 4, .inr (.inr (.inr (.inr (fun j => some (u (zel 2 j))))))))] ++ wwD ca (fun i => u (i + 3)) ++ wwW ca (fun i => u (i + 12)) ++ wwIn ca (fun i => u (i + 31)) ++ wwR ca (fun i => u (i + 32)) ++ wwR ca (fun i => u (i + 35)) ++ wwR ca (fun i => u (i + 38)) ++ wwR ca (fun i => u (i + 41)) ++ wwR ca (fun i => u (i + 44)) ++ wwR ca (fun i => u (i + 47)) ++ wwR ca (fun i => u (i + 50)) ++ wwR ca (fun i => u (i + 53)) ++ wwR ca (fun i => u (i + 56)) ++ wwR ca (fun i => u (i + 59))
def wwM (ca : zK4) (u : Nat → Nat) : va_W := [(u 0, .inr (6, [.int 0, .ref (u 1), .ref (u 2), .ref (u 3), .ref (u 4), .ref (u 5), .ref (u 6), .int 0, .int 0, .ref (u 7), .ref (u 8), .ref (u 9), .ref (u 10), .int 0, .int 0, .ref (u 11), .ref (u 12), .ref (u 13), .ref (u 14), .int 0, .ref (u 15), .ref (u 16), .ref (u 17), .ref (u 18), .int 0, .int 0, .long 0, .long 0, .int 0, .long 0, .long 0, .long 0, .long 0, .long 0, .long 0, .long 0, .int 0, .long 0, .long 0, .int 0, .int 0, .int 0, .long 0, .long 0])), (u 1, .inl (ca.1, 14, .inl (fun _ => 0))), (u 2, .inl (ca.1, 168, .inl (fun _ => 0))), (u 3, .inl (ca.1, 2016, .inl (fun _ => 0))), (u 4, .inl (ca.1, 2016, .inl (fun _ => 0))), (u 5, .inl (ca.1, 2016, .inl (fun _ => 0))), (u 6, .inl (ca.2.2.1, 2016, .inl (fun _ => 0))), (u 7, .inl (ca.1, 12, .inl (fun _ => 0))), (u 8, .inl (ca.1, 12, .inl (fun _ => 0))), (u 9, .inl (ca.1, 12, .inl (fun _ => 0))), (u 10, .inl (ca.2.2.1, 12, .inl (fun _ => 0))), (u 11, .inl (ca.2.1, 80, .inr (.inl (fun _ => 0)))), (u 12, .inl (ca.2.1, 80, .inr (.inl (fun _ => 0)))), (u 13, .inl (ca.2.1, 80, .inr (.inl (fun _ => 0)))), (u 14, .inl (ca.2.2.1, 80, .inl (fun _ => 0))), (u 15, .inl (ca.2.1, 80, .inr (.inl (fun _ => 0)))), (u 16, .inl (ca.2.1, 80, .inr (.inl (fun _ => 0)))), (u 17, .inl (ca.2.1, 80, .inr (.inl (fun _ => 0)))), (u 18, .inl (ca.2.2.1, 80, .inl (fun _ => 0)))]
theorem dM_init_0 : decode cM_init 0 = .ok (.aload_n 0, 1) := by decide +kernel
theorem dM_init_1 : decode cM_init 1 = .ok (.invokespecial 1, 3) := by decide +kernel
theorem dM_init_4 : decode cM_init 4 = .ok (.aload_n 0, 1) := by decide +kernel
theorem dM_init_5 : decode cM_init 5 = .ok (.bipush 14, 2) := by decide +kernel
theorem dM_init_7 : decode cM_init 7 = .ok (.newarray .int, 2) := by decide +kernel
theorem dM_init_9 : decode cM_init 9 = .ok (.putfield 7, 3) := by decide +kernel
theorem dM_init_12 : decode cM_init 12 = .ok (.aload_n 0, 1) := by decide +kernel
theorem dM_init_13 : decode cM_init 13 = .ok (.sipush 168, 3) := by decide +kernel
theorem dM_init_16 : decode cM_init 16 = .ok (.newarray .int, 2) := by decide +kernel
theorem dM_init_18 : decode cM_init 18 = .ok (.putfield 13, 3) := by decide +kernel
theorem dM_init_21 : decode cM_init 21 = .ok (.aload_n 0, 1) := by decide +kernel
theorem dM_init_22 : decode cM_init 22 = .ok (.sipush 2016, 3) := by decide +kernel
theorem dM_init_25 : decode cM_init 25 = .ok (.newarray .int, 2) := by decide +kernel
theorem dM_init_27 : decode cM_init 27 = .ok (.putfield 16, 3) := by decide +kernel
theorem dM_init_30 : decode cM_init 30 = .ok (.aload_n 0, 1) := by decide +kernel
theorem dM_init_31 : decode cM_init 31 = .ok (.sipush 2016, 3) := by decide +kernel
theorem dM_init_34 : decode cM_init 34 = .ok (.newarray .int, 2) := by decide +kernel
theorem dM_init_36 : decode cM_init 36 = .ok (.putfield 19, 3) := by decide +kernel
theorem dM_init_39 : decode cM_init 39 = .ok (.aload_n 0, 1) := by decide +kernel
theorem dM_init_40 : decode cM_init 40 = .ok (.sipush 2016, 3) := by decide +kernel
theorem dM_init_43 : decode cM_init 43 = .ok (.newarray .int, 2) := by decide +kernel
theorem dM_init_45 : decode cM_init 45 = .ok (.putfield 22, 3) := by decide +kernel
theorem dM_init_48 : decode cM_init 48 = .ok (.aload_n 0, 1) := by decide +kernel
theorem dM_init_49 : decode cM_init 49 = .ok (.sipush 2016, 3) := by decide +kernel
theorem dM_init_52 : decode cM_init 52 = .ok (.newarray .boolean, 2) := by decide +kernel
theorem dM_init_54 : decode cM_init 54 = .ok (.putfield 25, 3) := by decide +kernel
theorem dM_init_57 : decode cM_init 57 = .ok (.aload_n 0, 1) := by decide +kernel
theorem dM_init_58 : decode cM_init 58 = .ok (.bipush 12, 2) := by decide +kernel
theorem dM_init_60 : decode cM_init 60 = .ok (.newarray .int, 2) := by decide +kernel
theorem dM_init_62 : decode cM_init 62 = .ok (.putfield 29, 3) := by decide +kernel
theorem dM_init_65 : decode cM_init 65 = .ok (.aload_n 0, 1) := by decide +kernel
theorem dM_init_66 : decode cM_init 66 = .ok (.bipush 12, 2) := by decide +kernel
theorem dM_init_68 : decode cM_init 68 = .ok (.newarray .int, 2) := by decide +kernel
theorem dM_init_70 : decode cM_init 70 = .ok (.putfield 32, 3) := by decide +kernel
theorem dM_init_73 : decode cM_init 73 = .ok (.aload_n 0, 1) := by decide +kernel
theorem dM_init_74 : decode cM_init 74 = .ok (.bipush 12, 2) := by decide +kernel
theorem dM_init_76 : decode cM_init 76 = .ok (.newarray .int, 2) := by decide +kernel
theorem dM_init_78 : decode cM_init 78 = .ok (.putfield 35, 3) := by decide +kernel
theorem dM_init_81 : decode cM_init 81 = .ok (.aload_n 0, 1) := by decide +kernel
theorem dM_init_82 : decode cM_init 82 = .ok (.bipush 12, 2) := by decide +kernel
theorem dM_init_84 : decode cM_init 84 = .ok (.newarray .boolean, 2) := by decide +kernel
theorem dM_init_86 : decode cM_init 86 = .ok (.putfield 38, 3) := by decide +kernel
theorem dM_init_89 : decode cM_init 89 = .ok (.aload_n 0, 1) := by decide +kernel
theorem dM_init_90 : decode cM_init 90 = .ok (.bipush 80, 2) := by decide +kernel
theorem dM_init_92 : decode cM_init 92 = .ok (.newarray .long, 2) := by decide +kernel
theorem dM_init_94 : decode cM_init 94 = .ok (.putfield 41, 3) := by decide +kernel
theorem dM_init_97 : decode cM_init 97 = .ok (.aload_n 0, 1) := by decide +kernel
theorem dM_init_98 : decode cM_init 98 = .ok (.bipush 80, 2) := by decide +kernel
theorem dM_init_100 : decode cM_init 100 = .ok (.newarray .long, 2) := by decide +kernel
theorem dM_init_102 : decode cM_init 102 = .ok (.putfield 45, 3) := by decide +kernel
theorem dM_init_105 : decode cM_init 105 = .ok (.aload_n 0, 1) := by decide +kernel
theorem dM_init_106 : decode cM_init 106 = .ok (.bipush 80, 2) := by decide +kernel
theorem dM_init_108 : decode cM_init 108 = .ok (.newarray .long, 2) := by decide +kernel
theorem dM_init_110 : decode cM_init 110 = .ok (.putfield 48, 3) := by decide +kernel
theorem dM_init_113 : decode cM_init 113 = .ok (.aload_n 0, 1) := by decide +kernel
theorem dM_init_114 : decode cM_init 114 = .ok (.bipush 80, 2) := by decide +kernel
theorem dM_init_116 : decode cM_init 116 = .ok (.newarray .boolean, 2) := by decide +kernel
theorem dM_init_118 : decode cM_init 118 = .ok (.putfield 51, 3) := by decide +kernel
theorem dM_init_121 : decode cM_init 121 = .ok (.aload_n 0, 1) := by decide +kernel
theorem dM_init_122 : decode cM_init 122 = .ok (.bipush 80, 2) := by decide +kernel
theorem dM_init_124 : decode cM_init 124 = .ok (.newarray .long, 2) := by decide +kernel
theorem dM_init_126 : decode cM_init 126 = .ok (.putfield 54, 3) := by decide +kernel
theorem dM_init_129 : decode cM_init 129 = .ok (.aload_n 0, 1) := by decide +kernel
theorem dM_init_130 : decode cM_init 130 = .ok (.bipush 80, 2) := by decide +kernel
theorem dM_init_132 : decode cM_init 132 = .ok (.newarray .long, 2) := by decide +kernel
theorem dM_init_134 : decode cM_init 134 = .ok (.putfield 57, 3) := by decide +kernel
theorem dM_init_137 : decode cM_init 137 = .ok (.aload_n 0, 1) := by decide +kernel
theorem dM_init_138 : decode cM_init 138 = .ok (.bipush 80, 2) := by decide +kernel
theorem dM_init_140 : decode cM_init 140 = .ok (.newarray .long, 2) := by decide +kernel
theorem dM_init_142 : decode cM_init 142 = .ok (.putfield 60, 3) := by decide +kernel
theorem dM_init_145 : decode cM_init 145 = .ok (.aload_n 0, 1) := by decide +kernel
theorem dM_init_146 : decode cM_init 146 = .ok (.bipush 80, 2) := by decide +kernel
theorem dM_init_148 : decode cM_init 148 = .ok (.newarray .boolean, 2) := by decide +kernel
theorem dM_init_150 : decode cM_init 150 = .ok (.putfield 63, 3) := by decide +kernel
theorem dM_init_153 : decode cM_init 153 = .ok (.return_, 1) := by decide +kernel
theorem gnS_7 : zFin RS 7 3 0 (.array .long) true := ⟨TS, 3, tyS, rfl, by decide, inS, jfS_7, rfl, okS, nmS, rfl, by decide +kernel⟩
theorem gnS_13 : zFin RS 13 3 1 (.array .long) true := ⟨TS, 3, tyS, rfl, by decide, inS, jfS_13, rfl, okS, nmS, rfl, by decide +kernel⟩
theorem gnS_16 : zFin RS 16 3 2 (.array .boolean) true := ⟨TS, 3, tyS, rfl, by decide, inS, jfS_16, rfl, okS, nmS, rfl, by decide +kernel⟩
theorem gnR_11 : zFin RR 11 2 0 (.array .int) true := ⟨TR, 3, tyR, rfl, by decide, inR, jfR_11, rfl, okR, nmR, rfl, by decide +kernel⟩
theorem gnR_15 : zFin RR 15 2 1 (.array .int) true := ⟨TR, 3, tyR, rfl, by decide, inR, jfR_15, rfl, okR, nmR, rfl, by decide +kernel⟩
theorem gnD_11 : zFin RD 11 0 0 (.array .long) true := ⟨TD, 6, tyD, rfl, by decide, inD, jfD_11, rfl, okD, nmD, rfl, by decide +kernel⟩
theorem gnD_15 : zFin RD 15 0 1 (.array .long) true := ⟨TD, 6, tyD, rfl, by decide, inD, jfD_15, rfl, okD, nmD, rfl, by decide +kernel⟩
theorem gnD_18 : zFin RD 18 0 2 (.array .long) true := ⟨TD, 6, tyD, rfl, by decide, inD, jfD_18, rfl, okD, nmD, rfl, by decide +kernel⟩
theorem gnD_21 : zFin RD 21 0 3 (.array .boolean) true := ⟨TD, 6, tyD, rfl, by decide, inD, jfD_21, rfl, okD, nmD, rfl, by decide +kernel⟩
theorem nwD_25 : zNew RD 25 3 f0S := ⟨RS, TS, 3, tyS, rfl, inS, okS, zin 33 (by decide +kernel) (by decide +kernel), zin 34 (by decide +kernel) (by decide +kernel), zin 3 (by decide +kernel) (by decide +kernel), dfS, rfl⟩
theorem gnD_28 : zFin RD 28 0 4 (.object "RegionDesk$Span") true := ⟨TD, 6, tyD, rfl, by decide, inD, jfD_28, rfl, okD, nmD, rfl, by decide +kernel⟩
theorem nwW_7 : zNew RW 7 0 f0D := ⟨RD, TD, 6, tyD, rfl, inD, okD, zin 76 (by decide +kernel) (by decide +kernel), zin 28 (by decide +kernel) (by decide +kernel), zin 2 (by decide +kernel) (by decide +kernel), dfD, rfl⟩
theorem gnW_10 : zFin RW 10 4 0 (.object "RegionDesk$Draft") true := ⟨TW, 4, tyW, rfl, by decide, inW, jfW_10, rfl, okW, nmW, rfl, by decide +kernel⟩
theorem nwW_16 : zNew RW 16 2 f0R := ⟨RR, TR, 3, tyR, rfl, inR, okR, zin 78 (by decide +kernel) (by decide +kernel), zin 79 (by decide +kernel) (by decide +kernel), zin 5 (by decide +kernel) (by decide +kernel), dfR, rfl⟩
theorem gnW_19 : zFin RW 19 4 1 (.object "RegionDesk$Region") true := ⟨TW, 4, tyW, rfl, by decide, inW, jfW_19, rfl, okW, nmW, rfl, by decide +kernel⟩
theorem gnW_23 : zFin RW 23 4 2 (.object "RegionDesk$Region") false := ⟨TW, 4, tyW, rfl, by decide, inW, jfW_23, rfl, okW, nmW, rfl, by decide +kernel⟩
theorem gnW_26 : zFin RW 26 4 3 (.object "RegionDesk$Region") false := ⟨TW, 4, tyW, rfl, by decide, inW, jfW_26, rfl, okW, nmW, rfl, by decide +kernel⟩
theorem gnK_11 : zFin RK 11 5 0 (.array (.object "RegionDesk$Region")) true := ⟨TK, 7, tyK, rfl, by decide, inK, jfK_11, rfl, okK, nmK, rfl, by decide +kernel⟩
theorem gnK_15 : zFin RK 15 5 1 (.array (.object "RegionDesk$Region")) true := ⟨TK, 7, tyK, rfl, by decide, inK, jfK_15, rfl, okK, nmK, rfl, by decide +kernel⟩
theorem nwK_18 : zNew RK 18 0 f0D := ⟨RD, TD, 6, tyD, rfl, inD, okD, zin 27 (by decide +kernel) (by decide +kernel), zin 28 (by decide +kernel) (by decide +kernel), zin 2 (by decide +kernel) (by decide +kernel), dfD, rfl⟩
theorem gnK_21 : zFin RK 21 5 2 (.object "RegionDesk$Draft") true := ⟨TK, 7, tyK, rfl, by decide, inK, jfK_21, rfl, okK, nmK, rfl, by decide +kernel⟩
theorem nwK_25 : zNew RK 25 4 f0W := ⟨RW, TW, 4, tyW, rfl, inW, okW, zin 70 (by decide +kernel) (by decide +kernel), zin 71 (by decide +kernel) (by decide +kernel), zin 4 (by decide +kernel) (by decide +kernel), dfW, rfl⟩
theorem gnK_28 : zFin RK 28 5 3 (.object "RegionDesk$Workshop") true := ⟨TK, 7, tyK, rfl, by decide, inK, jfK_28, rfl, okK, nmK, rfl, by decide +kernel⟩
theorem nwK_32 : zNew RK 32 1 f0I := ⟨RI, TI, 6, tyI, rfl, inI, okI, zin 108 (by decide +kernel) (by decide +kernel), zin 109 (by decide +kernel) (by decide +kernel), zin 6 (by decide +kernel) (by decide +kernel), dfI, rfl⟩
theorem gnK_35 : zFin RK 35 5 4 (.object "RegionDesk$Infimum") true := ⟨TK, 7, tyK, rfl, by decide, inK, jfK_35, rfl, okK, nmK, rfl, by decide +kernel⟩
theorem nwK_9 : zNew RK 9 2 f0R := ⟨RR, TR, 3, tyR, rfl, inR, okR, zin 25 (by decide +kernel) (by decide +kernel), zin 79 (by decide +kernel) (by decide +kernel), zin 5 (by decide +kernel) (by decide +kernel), dfR, rfl⟩
theorem gnM_7 : zFin RM 7 6 1 (.array .int) true := ⟨TM, 44, tyM, rfl, by decide, inM, jfM_7, rfl, okM, nmM, rfl, by decide +kernel⟩
theorem gnM_13 : zFin RM 13 6 2 (.array .int) true := ⟨TM, 44, tyM, rfl, by decide, inM, jfM_13, rfl, okM, nmM, rfl, by decide +kernel⟩
theorem gnM_16 : zFin RM 16 6 3 (.array .int) true := ⟨TM, 44, tyM, rfl, by decide, inM, jfM_16, rfl, okM, nmM, rfl, by decide +kernel⟩
theorem gnM_19 : zFin RM 19 6 4 (.array .int) true := ⟨TM, 44, tyM, rfl, by decide, inM, jfM_19, rfl, okM, nmM, rfl, by decide +kernel⟩
theorem gnM_22 : zFin RM 22 6 5 (.array .int) true := ⟨TM, 44, tyM, rfl, by decide, inM, jfM_22, rfl, okM, nmM, rfl, by decide +kernel⟩
theorem gnM_25 : zFin RM 25 6 6 (.array .boolean) true := ⟨TM, 44, tyM, rfl, by decide, inM, jfM_25, rfl, okM, nmM, rfl, by decide +kernel⟩
theorem gnM_29 : zFin RM 29 6 9 (.array .int) true := ⟨TM, 44, tyM, rfl, by decide, inM, jfM_29, rfl, okM, nmM, rfl, by decide +kernel⟩
theorem gnM_32 : zFin RM 32 6 10 (.array .int) true := ⟨TM, 44, tyM, rfl, by decide, inM, jfM_32, rfl, okM, nmM, rfl, by decide +kernel⟩
theorem gnM_35 : zFin RM 35 6 11 (.array .int) true := ⟨TM, 44, tyM, rfl, by decide, inM, jfM_35, rfl, okM, nmM, rfl, by decide +kernel⟩
theorem gnM_38 : zFin RM 38 6 12 (.array .boolean) true := ⟨TM, 44, tyM, rfl, by decide, inM, jfM_38, rfl, okM, nmM, rfl, by decide +kernel⟩
theorem gnM_41 : zFin RM 41 6 15 (.array .long) true := ⟨TM, 44, tyM, rfl, by decide, inM, jfM_41, rfl, okM, nmM, rfl, by decide +kernel⟩
theorem gnM_45 : zFin RM 45 6 16 (.array .long) true := ⟨TM, 44, tyM, rfl, by decide, inM, jfM_45, rfl, okM, nmM, rfl, by decide +kernel⟩
theorem gnM_48 : zFin RM 48 6 17 (.array .long) true := ⟨TM, 44, tyM, rfl, by decide, inM, jfM_48, rfl, okM, nmM, rfl, by decide +kernel⟩
theorem gnM_51 : zFin RM 51 6 18 (.array .boolean) true := ⟨TM, 44, tyM, rfl, by decide, inM, jfM_51, rfl, okM, nmM, rfl, by decide +kernel⟩
theorem gnM_54 : zFin RM 54 6 20 (.array .long) true := ⟨TM, 44, tyM, rfl, by decide, inM, jfM_54, rfl, okM, nmM, rfl, by decide +kernel⟩
theorem gnM_57 : zFin RM 57 6 21 (.array .long) true := ⟨TM, 44, tyM, rfl, by decide, inM, jfM_57, rfl, okM, nmM, rfl, by decide +kernel⟩
theorem gnM_60 : zFin RM 60 6 22 (.array .long) true := ⟨TM, 44, tyM, rfl, by decide, inM, jfM_60, rfl, okM, nmM, rfl, by decide +kernel⟩
theorem gnM_63 : zFin RM 63 6 23 (.array .boolean) true := ⟨TM, 44, tyM, rfl, by decide, inM, jfM_63, rfl, okM, nmM, rfl, by decide +kernel⟩
theorem nwL_8 : zNew RL 8 5 f0K := ⟨RK, TK, 7, tyK, rfl, inK, okK, zin 17 (by decide +kernel) (by decide +kernel), zin 18 (by decide +kernel) (by decide +kernel), zin 1 (by decide +kernel) (by decide +kernel), dfK, rfl⟩
theorem nwL_72 : zNew RL 72 6 f0M := ⟨RM, TM, 44, tyM, rfl, inM, okM, zin 671 (by decide +kernel) (by decide +kernel), zin 672 (by decide +kernel) (by decide +kernel), zin 7 (by decide +kernel) (by decide +kernel), dfM, rfl⟩
set_option maxRecDepth 100000 in
theorem ctS (l : Launch) : zCt l mS_init rcS 3 f0S wwS := by
  refine zct_enter (by decide) (Nat.le_of_ble_eq_true rfl) rfl (fun X h0 hc hin hao hA => ?_)
  refine zb_eq (ws' := [(h0, .inr (3, [.null, .null, .null]))]) rfl ?_
  refine zb_aload_n hc dS_init_0 rfl ?_
  refine zb_obj hc olS_1 obI obC dS_init_1 ⟨Nat.le_of_ble_eq_true rfl, Nat.le_of_ble_eq_true rfl⟩ ⟨Nat.le_of_ble_eq_true rfl, Nat.le_of_ble_eq_true rfl⟩ ?_
  refine zb_aload_n hc dS_init_4 rfl ?_
  refine zb_iconst hc (2 : Int32) dS_init_5 rfl ?_
  refine zb_newJ 2 hc hA acJ dS_init_6 (by decide) rfl (by decide) ⟨Nat.le_of_ble_eq_true rfl, Nat.le_of_ble_eq_true rfl⟩ (fun q1 => ?_)
  refine zb_putF 0 hc hin gnS_7 dS_init_8 rfl rfl rfl (Nat.le_of_ble_eq_true rfl) ?_
  refine zb_eq (ws' := [(h0, .inr (3, [.ref q1, .null, .null])), (q1, .inl ((zca X).2.1, 2, .inr (.inl (fun _ => 0))))]) rfl ?_
  refine zb_aload_n hc dS_init_11 rfl ?_
  refine zb_iconst hc (2 : Int32) dS_init_12 rfl ?_
  refine zb_newJ 2 hc hA acJ dS_init_13 (by decide) rfl (by decide) ⟨Nat.le_of_ble_eq_true rfl, Nat.le_of_ble_eq_true rfl⟩ (fun q2 => ?_)
  refine zb_putF 0 hc hin gnS_13 dS_init_15 rfl rfl rfl (Nat.le_of_ble_eq_true rfl) ?_
  refine zb_eq (ws' := [(h0, .inr (3, [.ref q1, .ref q2, .null])), (q1, .inl ((zca X).2.1, 2, .inr (.inl (fun _ => 0)))), (q2, .inl ((zca X).2.1, 2, .inr (.inl (fun _ => 0))))]) rfl ?_
  refine zb_aload_n hc dS_init_18 rfl ?_
  refine zb_iconst hc (2 : Int32) dS_init_19 rfl ?_
  refine zb_newZ 2 hc hA acZ dS_init_20 (by decide) rfl (by decide) ⟨Nat.le_of_ble_eq_true rfl, Nat.le_of_ble_eq_true rfl⟩ (fun q3 => ?_)
  refine zb_putF 0 hc hin gnS_16 dS_init_22 rfl rfl rfl (Nat.le_of_ble_eq_true rfl) ?_
  refine zb_eq (ws' := [(h0, .inr (3, [.ref q1, .ref q2, .ref q3])), (q1, .inl ((zca X).2.1, 2, .inr (.inl (fun _ => 0)))), (q2, .inl ((zca X).2.1, 2, .inr (.inl (fun _ => 0)))), (q3, .inl ((zca X).2.2.1, 2, .inl (fun _ => 0)))]) rfl ?_
  have hu : ∃ u : Nat → Nat, u = fun i => ([h0, q1, q2, q3] : List Nat).getD i 0 := ⟨_, rfl⟩
  obtain ⟨u, hu⟩ := hu
  exact zb_vret u hc rfl dS_init_25 ⟨Nat.le_of_ble_eq_true rfl, Nat.le_of_ble_eq_true rfl⟩ (by subst hu; rfl) (by subst hu; rfl)
set_option maxRecDepth 100000 in
theorem ctI (l : Launch) : zCt l mI_init rcI 1 f0I wwIn := by
  refine zct_enter (by decide) (Nat.le_of_ble_eq_true rfl) rfl (fun X h0 hc hin hao hA => ?_)
  refine zb_eq (ws' := [(h0, .inr (1, [.long 0, .long 0, .int 0, .long 0, .long 0, .int 0]))]) rfl ?_
  refine zb_aload_n hc dI_init_0 rfl ?_
  refine zb_obj hc olI_3 obI obC dI_init_1 ⟨Nat.le_of_ble_eq_true rfl, Nat.le_of_ble_eq_true rfl⟩ ⟨Nat.le_of_ble_eq_true rfl, Nat.le_of_ble_eq_true rfl⟩ ?_
  have hu : ∃ u : Nat → Nat, u = fun i => ([h0] : List Nat).getD i 0 := ⟨_, rfl⟩
  obtain ⟨u, hu⟩ := hu
  exact zb_vret u hc rfl dI_init_4 ⟨Nat.le_of_ble_eq_true rfl, Nat.le_of_ble_eq_true rfl⟩ (by subst hu; rfl) (by subst hu; rfl)
set_option maxRecDepth 100000 in
theorem ctR (l : Launch) : zCt l mR_init rcR 2 f0R wwR := by
  refine zct_enter (by decide) (Nat.le_of_ble_eq_true rfl) rfl (fun X h0 hc hin hao hA => ?_)
  refine zb_eq (ws' := [(h0, .inr (2, [.null, .null, .int 0]))]) rfl ?_
  refine zb_aload_n hc dR_init_0 rfl ?_
  refine zb_obj hc olR_5 obI obC dR_init_1 ⟨Nat.le_of_ble_eq_true rfl, Nat.le_of_ble_eq_true rfl⟩ ⟨Nat.le_of_ble_eq_true rfl, Nat.le_of_ble_eq_true rfl⟩ ?_
  refine zb_aload_n hc dR_init_4 rfl ?_
  refine zb_bipush hc (12 : Int32) dR_init_5 rfl ?_
  refine zb_newI 12 hc hA acI dR_init_7 (by decide) rfl (by decide) ⟨Nat.le_of_ble_eq_true rfl, Nat.le_of_ble_eq_true rfl⟩ (fun q1 => ?_)
  refine zb_putF 0 hc hin gnR_11 dR_init_9 rfl rfl rfl (Nat.le_of_ble_eq_true rfl) ?_
  refine zb_eq (ws' := [(h0, .inr (2, [.ref q1, .null, .int 0])), (q1, .inl ((zca X).1, 12, .inl (fun _ => 0)))]) rfl ?_
  refine zb_aload_n hc dR_init_12 rfl ?_
  refine zb_sipush hc (576 : Int32) dR_init_13 rfl ?_
  refine zb_newI 576 hc hA acI dR_init_16 (by decide) rfl (by decide) ⟨Nat.le_of_ble_eq_true rfl, Nat.le_of_ble_eq_true rfl⟩ (fun q2 => ?_)
  refine zb_putF 0 hc hin gnR_15 dR_init_18 rfl rfl rfl (Nat.le_of_ble_eq_true rfl) ?_
  refine zb_eq (ws' := [(h0, .inr (2, [.ref q1, .ref q2, .int 0])), (q1, .inl ((zca X).1, 12, .inl (fun _ => 0))), (q2, .inl ((zca X).1, 576, .inl (fun _ => 0)))]) rfl ?_
  have hu : ∃ u : Nat → Nat, u = fun i => ([h0, q1, q2] : List Nat).getD i 0 := ⟨_, rfl⟩
  obtain ⟨u, hu⟩ := hu
  exact zb_vret u hc rfl dR_init_21 ⟨Nat.le_of_ble_eq_true rfl, Nat.le_of_ble_eq_true rfl⟩ (by subst hu; rfl) (by subst hu; rfl)
set_option maxRecDepth 100000 in
theorem ctD (l : Launch) : zCt l mD_init rcD 0 f0D wwD := by
  refine zct_enter (by decide) (Nat.le_of_ble_eq_true rfl) rfl (fun X h0 hc hin hao hA => ?_)
  refine zb_eq (ws' := [(h0, .inr (0, [.null, .null, .null, .null, .null, .int 0]))]) rfl ?_
  refine zb_aload_n hc dD_init_0 rfl ?_
  refine zb_obj hc olD_3 obI obC dD_init_1 ⟨Nat.le_of_ble_eq_true rfl, Nat.le_of_ble_eq_true rfl⟩ ⟨Nat.le_of_ble_eq_true rfl, Nat.le_of_ble_eq_true rfl⟩ ?_
  refine zb_aload_n hc dD_init_4 rfl ?_
  refine zb_bipush hc (36 : Int32) dD_init_5 rfl ?_
  refine zb_newJ 36 hc hA acJ dD_init_7 (by decide) rfl (by decide) ⟨Nat.le_of_ble_eq_true rfl, Nat.le_of_ble_eq_true rfl⟩ (fun q1 => ?_)
  refine zb_putF 0 hc hin gnD_11 dD_init_9 rfl rfl rfl (Nat.le_of_ble_eq_true rfl) ?_
  refine zb_eq (ws' := [(h0, .inr (0, [.ref q1, .null, .null, .null, .null, .int 0])), (q1, .inl ((zca X).2.1, 36, .inr (.inl (fun _ => 0))))]) rfl ?_
  refine zb_aload_n hc dD_init_12 rfl ?_
  refine zb_bipush hc (36 : Int32) dD_init_13 rfl ?_
  refine zb_newJ 36 hc hA acJ dD_init_15 (by decide) rfl (by decide) ⟨Nat.le_of_ble_eq_true rfl, Nat.le_of_ble_eq_true rfl⟩ (fun q2 => ?_)
  refine zb_putF 0 hc hin gnD_15 dD_init_17 rfl rfl rfl (Nat.le_of_ble_eq_true rfl) ?_
  refine zb_eq (ws' := [(h0, .inr (0, [.ref q1, .ref q2, .null, .null, .null, .int 0])), (q1, .inl ((zca X).2.1, 36, .inr (.inl (fun _ => 0)))), (q2, .inl ((zca X).2.1, 36, .inr (.inl (fun _ => 0))))]) rfl ?_
  refine zb_aload_n hc dD_init_20 rfl ?_
  refine zb_bipush hc (36 : Int32) dD_init_21 rfl ?_
  refine zb_newJ 36 hc hA acJ dD_init_23 (by decide) rfl (by decide) ⟨Nat.le_of_ble_eq_true rfl, Nat.le_of_ble_eq_true rfl⟩ (fun q3 => ?_)
  refine zb_putF 0 hc hin gnD_18 dD_init_25 rfl rfl rfl (Nat.le_of_ble_eq_true rfl) ?_
  refine zb_eq (ws' := [(h0, .inr (0, [.ref q1, .ref q2, .ref q3, .null, .null, .int 0])), (q1, .inl ((zca X).2.1, 36, .inr (.inl (fun _ => 0)))), (q2, .inl ((zca X).2.1, 36, .inr (.inl (fun _ => 0)))), (q3, .inl ((zca X).2.1, 36, .inr (.inl (fun _ => 0))))]) rfl ?_
  refine zb_aload_n hc dD_init_28 rfl ?_
  refine zb_bipush hc (36 : Int32) dD_init_29 rfl ?_
  refine zb_newZ 36 hc hA acZ dD_init_31 (by decide) rfl (by decide) ⟨Nat.le_of_ble_eq_true rfl, Nat.le_of_ble_eq_true rfl⟩ (fun q4 => ?_)
  refine zb_putF 0 hc hin gnD_21 dD_init_33 rfl rfl rfl (Nat.le_of_ble_eq_true rfl) ?_
  refine zb_eq (ws' := [(h0, .inr (0, [.ref q1, .ref q2, .ref q3, .ref q4, .null, .int 0])), (q1, .inl ((zca X).2.1, 36, .inr (.inl (fun _ => 0)))), (q2, .inl ((zca X).2.1, 36, .inr (.inl (fun _ => 0)))), (q3, .inl ((zca X).2.1, 36, .inr (.inl (fun _ => 0)))), (q4, .inl ((zca X).2.2.1, 36, .inl (fun _ => 0)))]) rfl ?_
  refine zb_aload_n hc dD_init_36 rfl ?_
  refine zb_new hc hA nwD_25 dD_init_37 ⟨Nat.le_of_ble_eq_true rfl, Nat.le_of_ble_eq_true rfl⟩ (fun q5 => ?_)
  refine zb_dup hc dD_init_40 ?_
  refine zb_ctorN (host := "RegionDesk") hc hA hao kS_init ⟨List.mem_of_getElem? (i := 4) rfl, iiS, rfl, rfl⟩ (ctS l) ⟨Nat.le_of_ble_eq_true rfl, Nat.le_of_ble_eq_true rfl⟩ (Nat.le_of_ble_eq_true rfl) ⟨Nat.le_of_ble_eq_true rfl, Nat.le_of_ble_eq_true rfl⟩ dD_init_41 (fun v6 e6 => ?_)
  subst e6
  refine zb_putF 0 hc hin gnD_28 dD_init_44 rfl rfl rfl (Nat.le_of_ble_eq_true rfl) ?_
  refine zb_eq (ws' := [(h0, .inr (0, [.ref q1, .ref q2, .ref q3, .ref q4, .ref (v6 0), .int 0])), (q1, .inl ((zca X).2.1, 36, .inr (.inl (fun _ => 0)))), (q2, .inl ((zca X).2.1, 36, .inr (.inl (fun _ => 0)))), (q3, .inl ((zca X).2.1, 36, .inr (.inl (fun _ => 0)))), (q4, .inl ((zca X).2.2.1, 36, .inl (fun _ => 0)))] ++ wwS (zca X) v6) rfl ?_
  have hu : ∃ u : Nat → Nat, u = fun i => ([h0, q1, q2, q3, q4, v6 0, v6 1, v6 2, v6 3] : List Nat).getD i 0 := ⟨_, rfl⟩
  obtain ⟨u, hu⟩ := hu
  exact zb_vret u hc rfl dD_init_47 ⟨Nat.le_of_ble_eq_true rfl, Nat.le_of_ble_eq_true rfl⟩ (by subst hu; rfl) (by subst hu; rfl)
set_option maxRecDepth 100000 in
theorem ctW (l : Launch) : zCt l mW_init rcW 4 f0W wwW := by
  refine zct_enter (by decide) (Nat.le_of_ble_eq_true rfl) rfl (fun X h0 hc hin hao hA => ?_)
  refine zb_eq (ws' := [(h0, .inr (4, [.null, .null, .null, .null]))]) rfl ?_
  refine zb_aload_n hc dW_init_0 rfl ?_
  refine zb_obj hc olW_1 obI obC dW_init_1 ⟨Nat.le_of_ble_eq_true rfl, Nat.le_of_ble_eq_true rfl⟩ ⟨Nat.le_of_ble_eq_true rfl, Nat.le_of_ble_eq_true rfl⟩ ?_
  refine zb_aload_n hc dW_init_4 rfl ?_
  refine zb_new hc hA nwW_7 dW_init_5 ⟨Nat.le_of_ble_eq_true rfl, Nat.le_of_ble_eq_true rfl⟩ (fun q1 => ?_)
  refine zb_dup hc dW_init_8 ?_
  refine zb_ctorN (host := "RegionDesk") hc hA hao kD_init ⟨List.mem_of_getElem? (i := 8) rfl, iiD, rfl, rfl⟩ (ctD l) ⟨Nat.le_of_ble_eq_true rfl, Nat.le_of_ble_eq_true rfl⟩ (Nat.le_of_ble_eq_true rfl) ⟨Nat.le_of_ble_eq_true rfl, Nat.le_of_ble_eq_true rfl⟩ dW_init_9 (fun v2 e2 => ?_)
  subst e2
  refine zb_putF 0 hc hin gnW_10 dW_init_12 rfl rfl rfl (Nat.le_of_ble_eq_true rfl) ?_
  refine zb_eq (ws' := [(h0, .inr (4, [.ref (v2 0), .null, .null, .null]))] ++ wwD (zca X) v2) rfl ?_
  refine zb_aload_n hc dW_init_15 rfl ?_
  refine zb_new hc hA nwW_16 dW_init_16 ⟨Nat.le_of_ble_eq_true rfl, Nat.le_of_ble_eq_true rfl⟩ (fun q3 => ?_)
  refine zb_dup hc dW_init_19 ?_
  refine zb_ctorN (host := "RegionDesk") hc hA hao kR_init ⟨List.mem_of_getElem? (i := 9) rfl, iiR, rfl, rfl⟩ (ctR l) ⟨Nat.le_of_ble_eq_true rfl, Nat.le_of_ble_eq_true rfl⟩ (Nat.le_of_ble_eq_true rfl) ⟨Nat.le_of_ble_eq_true rfl, Nat.le_of_ble_eq_true rfl⟩ dW_init_20 (fun v4 e4 => ?_)
  subst e4
  refine zb_putF 0 hc hin gnW_19 dW_init_23 rfl rfl rfl (Nat.le_of_ble_eq_true rfl) ?_
  refine zb_eq (ws' := [(h0, .inr (4, [.ref (v2 0), .ref (v4 0), .null, .null]))] ++ wwD (zca X) v2 ++ wwR (zca X) v4) rfl ?_
  refine zb_aload_n hc dW_init_26 rfl ?_
  refine zb_new hc hA nwW_16 dW_init_27 ⟨Nat.le_of_ble_eq_true rfl, Nat.le_of_ble_eq_true rfl⟩ (fun q5 => ?_)
  refine zb_dup hc dW_init_30 ?_
  refine zb_ctorN (host := "RegionDesk") hc hA hao kR_init ⟨List.mem_of_getElem? (i := 9) rfl, iiR, rfl, rfl⟩ (ctR l) ⟨Nat.le_of_ble_eq_true rfl, Nat.le_of_ble_eq_true rfl⟩ (Nat.le_of_ble_eq_true rfl) ⟨Nat.le_of_ble_eq_true rfl, Nat.le_of_ble_eq_true rfl⟩ dW_init_31 (fun v6 e6 => ?_)
  subst e6
  refine zb_put 0 hc gnW_23 dW_init_34 rfl rfl rfl (Nat.le_of_ble_eq_true rfl) ?_
  refine zb_eq (ws' := [(h0, .inr (4, [.ref (v2 0), .ref (v4 0), .ref (v6 0), .null]))] ++ wwD (zca X) v2 ++ wwR (zca X) v4 ++ wwR (zca X) v6) rfl ?_
  refine zb_aload_n hc dW_init_37 rfl ?_
  refine zb_new hc hA nwW_16 dW_init_38 ⟨Nat.le_of_ble_eq_true rfl, Nat.le_of_ble_eq_true rfl⟩ (fun q7 => ?_)
  refine zb_dup hc dW_init_41 ?_
  refine zb_ctorN (host := "RegionDesk") hc hA hao kR_init ⟨List.mem_of_getElem? (i := 9) rfl, iiR, rfl, rfl⟩ (ctR l) ⟨Nat.le_of_ble_eq_true rfl, Nat.le_of_ble_eq_true rfl⟩ (Nat.le_of_ble_eq_true rfl) ⟨Nat.le_of_ble_eq_true rfl, Nat.le_of_ble_eq_true rfl⟩ dW_init_42 (fun v8 e8 => ?_)
  subst e8
  refine zb_put 0 hc gnW_26 dW_init_45 rfl rfl rfl (Nat.le_of_ble_eq_true rfl) ?_
  refine zb_eq (ws' := [(h0, .inr (4, [.ref (v2 0), .ref (v4 0), .ref (v6 0), .ref (v8 0)]))] ++ wwD (zca X) v2 ++ wwR (zca X) v4 ++ wwR (zca X) v6 ++ wwR (zca X) v8) rfl ?_
  have hu : ∃ u : Nat → Nat, u = fun i => ([h0, v2 0, v2 1, v2 2, v2 3, v2 4, v2 5, v2 6, v2 7, v2 8, v4 0, v4 1, v4 2, v6 0, v6 1, v6 2, v8 0, v8 1, v8 2] : List Nat).getD i 0 := ⟨_, rfl⟩
  obtain ⟨u, hu⟩ := hu
  exact zb_vret u hc rfl dW_init_48 ⟨Nat.le_of_ble_eq_true rfl, Nat.le_of_ble_eq_true rfl⟩ (by subst hu; rfl) (by subst hu; rfl)
set_option maxRecDepth 100000 in
theorem ctM (l : Launch) : zCt l mM_init rcM 6 f0M wwM := by
  refine zct_enter (by decide) (Nat.le_of_ble_eq_true rfl) rfl (fun X h0 hc hin hao hA => ?_)
  refine zb_eq (ws' := [(h0, .inr (6, [.int 0, .null, .null, .null, .null, .null, .null, .int 0, .int 0, .null, .null, .null, .null, .int 0, .int 0, .null, .null, .null, .null, .int 0, .null, .null, .null, .null, .int 0, .int 0, .long 0, .long 0, .int 0, .long 0, .long 0, .long 0, .long 0, .long 0, .long 0, .long 0, .int 0, .long 0, .long 0, .int 0, .int 0, .int 0, .long 0, .long 0]))]) rfl ?_
  refine zb_aload_n hc dM_init_0 rfl ?_
  refine zb_obj hc olM_1 obI obC dM_init_1 ⟨Nat.le_of_ble_eq_true rfl, Nat.le_of_ble_eq_true rfl⟩ ⟨Nat.le_of_ble_eq_true rfl, Nat.le_of_ble_eq_true rfl⟩ ?_
  refine zb_aload_n hc dM_init_4 rfl ?_
  refine zb_bipush hc (14 : Int32) dM_init_5 rfl ?_
  refine zb_newI 14 hc hA acI dM_init_7 (by decide) rfl (by decide) ⟨Nat.le_of_ble_eq_true rfl, Nat.le_of_ble_eq_true rfl⟩ (fun q1 => ?_)
  refine zb_putF 0 hc hin gnM_7 dM_init_9 rfl rfl rfl (Nat.le_of_ble_eq_true rfl) ?_
  refine zb_eq (ws' := [(h0, .inr (6, [.int 0, .ref q1, .null, .null, .null, .null, .null, .int 0, .int 0, .null, .null, .null, .null, .int 0, .int 0, .null, .null, .null, .null, .int 0, .null, .null, .null, .null, .int 0, .int 0, .long 0, .long 0, .int 0, .long 0, .long 0, .long 0, .long 0, .long 0, .long 0, .long 0, .int 0, .long 0, .long 0, .int 0, .int 0, .int 0, .long 0, .long 0])), (q1, .inl ((zca X).1, 14, .inl (fun _ => 0)))]) rfl ?_
  refine zb_aload_n hc dM_init_12 rfl ?_
  refine zb_sipush hc (168 : Int32) dM_init_13 rfl ?_
  refine zb_newI 168 hc hA acI dM_init_16 (by decide) rfl (by decide) ⟨Nat.le_of_ble_eq_true rfl, Nat.le_of_ble_eq_true rfl⟩ (fun q2 => ?_)
  refine zb_putF 0 hc hin gnM_13 dM_init_18 rfl rfl rfl (Nat.le_of_ble_eq_true rfl) ?_
  refine zb_eq (ws' := [(h0, .inr (6, [.int 0, .ref q1, .ref q2, .null, .null, .null, .null, .int 0, .int 0, .null, .null, .null, .null, .int 0, .int 0, .null, .null, .null, .null, .int 0, .null, .null, .null, .null, .int 0, .int 0, .long 0, .long 0, .int 0, .long 0, .long 0, .long 0, .long 0, .long 0, .long 0, .long 0, .int 0, .long 0, .long 0, .int 0, .int 0, .int 0, .long 0, .long 0])), (q1, .inl ((zca X).1, 14, .inl (fun _ => 0))), (q2, .inl ((zca X).1, 168, .inl (fun _ => 0)))]) rfl ?_
  refine zb_aload_n hc dM_init_21 rfl ?_
  refine zb_sipush hc (2016 : Int32) dM_init_22 rfl ?_
  refine zb_newI 2016 hc hA acI dM_init_25 (by decide) rfl (by decide) ⟨Nat.le_of_ble_eq_true rfl, Nat.le_of_ble_eq_true rfl⟩ (fun q3 => ?_)
  refine zb_putF 0 hc hin gnM_16 dM_init_27 rfl rfl rfl (Nat.le_of_ble_eq_true rfl) ?_
  refine zb_eq (ws' := [(h0, .inr (6, [.int 0, .ref q1, .ref q2, .ref q3, .null, .null, .null, .int 0, .int 0, .null, .null, .null, .null, .int 0, .int 0, .null, .null, .null, .null, .int 0, .null, .null, .null, .null, .int 0, .int 0, .long 0, .long 0, .int 0, .long 0, .long 0, .long 0, .long 0, .long 0, .long 0, .long 0, .int 0, .long 0, .long 0, .int 0, .int 0, .int 0, .long 0, .long 0])), (q1, .inl ((zca X).1, 14, .inl (fun _ => 0))), (q2, .inl ((zca X).1, 168, .inl (fun _ => 0))), (q3, .inl ((zca X).1, 2016, .inl (fun _ => 0)))]) rfl ?_
  refine zb_aload_n hc dM_init_30 rfl ?_
  refine zb_sipush hc (2016 : Int32) dM_init_31 rfl ?_
  refine zb_newI 2016 hc hA acI dM_init_34 (by decide) rfl (by decide) ⟨Nat.le_of_ble_eq_true rfl, Nat.le_of_ble_eq_true rfl⟩ (fun q4 => ?_)
  refine zb_putF 0 hc hin gnM_19 dM_init_36 rfl rfl rfl (Nat.le_of_ble_eq_true rfl) ?_
  refine zb_eq (ws' := [(h0, .inr (6, [.int 0, .ref q1, .ref q2, .ref q3, .ref q4, .null, .null, .int 0, .int 0, .null, .null, .null, .null, .int 0, .int 0, .null, .null, .null, .null, .int 0, .null, .null, .null, .null, .int 0, .int 0, .long 0, .long 0, .int 0, .long 0, .long 0, .long 0, .long 0, .long 0, .long 0, .long 0, .int 0, .long 0, .long 0, .int 0, .int 0, .int 0, .long 0, .long 0])), (q1, .inl ((zca X).1, 14, .inl (fun _ => 0))), (q2, .inl ((zca X).1, 168, .inl (fun _ => 0))), (q3, .inl ((zca X).1, 2016, .inl (fun _ => 0))), (q4, .inl ((zca X).1, 2016, .inl (fun _ => 0)))]) rfl ?_
  refine zb_aload_n hc dM_init_39 rfl ?_
  refine zb_sipush hc (2016 : Int32) dM_init_40 rfl ?_
  refine zb_newI 2016 hc hA acI dM_init_43 (by decide) rfl (by decide) ⟨Nat.le_of_ble_eq_true rfl, Nat.le_of_ble_eq_true rfl⟩ (fun q5 => ?_)
  refine zb_putF 0 hc hin gnM_22 dM_init_45 rfl rfl rfl (Nat.le_of_ble_eq_true rfl) ?_
  refine zb_eq (ws' := [(h0, .inr (6, [.int 0, .ref q1, .ref q2, .ref q3, .ref q4, .ref q5, .null, .int 0, .int 0, .null, .null, .null, .null, .int 0, .int 0, .null, .null, .null, .null, .int 0, .null, .null, .null, .null, .int 0, .int 0, .long 0, .long 0, .int 0, .long 0, .long 0, .long 0, .long 0, .long 0, .long 0, .long 0, .int 0, .long 0, .long 0, .int 0, .int 0, .int 0, .long 0, .long 0])), (q1, .inl ((zca X).1, 14, .inl (fun _ => 0))), (q2, .inl ((zca X).1, 168, .inl (fun _ => 0))), (q3, .inl ((zca X).1, 2016, .inl (fun _ => 0))), (q4, .inl ((zca X).1, 2016, .inl (fun _ => 0))), (q5, .inl ((zca X).1, 2016, .inl (fun _ => 0)))]) rfl ?_
  refine zb_aload_n hc dM_init_48 rfl ?_
  refine zb_sipush hc (2016 : Int32) dM_init_49 rfl ?_
  refine zb_newZ 2016 hc hA acZ dM_init_52 (by decide) rfl (by decide) ⟨Nat.le_of_ble_eq_true rfl, Nat.le_of_ble_eq_true rfl⟩ (fun q6 => ?_)
  refine zb_putF 0 hc hin gnM_25 dM_init_54 rfl rfl rfl (Nat.le_of_ble_eq_true rfl) ?_
  refine zb_eq (ws' := [(h0, .inr (6, [.int 0, .ref q1, .ref q2, .ref q3, .ref q4, .ref q5, .ref q6, .int 0, .int 0, .null, .null, .null, .null, .int 0, .int 0, .null, .null, .null, .null, .int 0, .null, .null, .null, .null, .int 0, .int 0, .long 0, .long 0, .int 0, .long 0, .long 0, .long 0, .long 0, .long 0, .long 0, .long 0, .int 0, .long 0, .long 0, .int 0, .int 0, .int 0, .long 0, .long 0])), (q1, .inl ((zca X).1, 14, .inl (fun _ => 0))), (q2, .inl ((zca X).1, 168, .inl (fun _ => 0))), (q3, .inl ((zca X).1, 2016, .inl (fun _ => 0))), (q4, .inl ((zca X).1, 2016, .inl (fun _ => 0))), (q5, .inl ((zca X).1, 2016, .inl (fun _ => 0))), (q6, .inl ((zca X).2.2.1, 2016, .inl (fun _ => 0)))]) rfl ?_
  refine zb_aload_n hc dM_init_57 rfl ?_
  refine zb_bipush hc (12 : Int32) dM_init_58 rfl ?_
  refine zb_newI 12 hc hA acI dM_init_60 (by decide) rfl (by decide) ⟨Nat.le_of_ble_eq_true rfl, Nat.le_of_ble_eq_true rfl⟩ (fun q7 => ?_)
  refine zb_putF 0 hc hin gnM_29 dM_init_62 rfl rfl rfl (Nat.le_of_ble_eq_true rfl) ?_
  refine zb_eq (ws' := [(h0, .inr (6, [.int 0, .ref q1, .ref q2, .ref q3, .ref q4, .ref q5, .ref q6, .int 0, .int 0, .ref q7, .null, .null, .null, .int 0, .int 0, .null, .null, .null, .null, .int 0, .null, .null, .null, .null, .int 0, .int 0, .long 0, .long 0, .int 0, .long 0, .long 0, .long 0, .long 0, .long 0, .long 0, .long 0, .int 0, .long 0, .long 0, .int 0, .int 0, .int 0, .long 0, .long 0])), (q1, .inl ((zca X).1, 14, .inl (fun _ => 0))), (q2, .inl ((zca X).1, 168, .inl (fun _ => 0))), (q3, .inl ((zca X).1, 2016, .inl (fun _ => 0))), (q4, .inl ((zca X).1, 2016, .inl (fun _ => 0))), (q5, .inl ((zca X).1, 2016, .inl (fun _ => 0))), (q6, .inl ((zca X).2.2.1, 2016, .inl (fun _ => 0))), (q7, .inl ((zca X).1, 12, .inl (fun _ => 0)))]) rfl ?_
  refine zb_aload_n hc dM_init_65 rfl ?_
  refine zb_bipush hc (12 : Int32) dM_init_66 rfl ?_
  refine zb_newI 12 hc hA acI dM_init_68 (by decide) rfl (by decide) ⟨Nat.le_of_ble_eq_true rfl, Nat.le_of_ble_eq_true rfl⟩ (fun q8 => ?_)
  refine zb_putF 0 hc hin gnM_32 dM_init_70 rfl rfl rfl (Nat.le_of_ble_eq_true rfl) ?_
  refine zb_eq (ws' := [(h0, .inr (6, [.int 0, .ref q1, .ref q2, .ref q3, .ref q4, .ref q5, .ref q6, .int 0, .int 0, .ref q7, .ref q8, .null, .null, .int 0, .int 0, .null, .null, .null, .null, .int 0, .null, .null, .null, .null, .int 0, .int 0, .long 0, .long 0, .int 0, .long 0, .long 0, .long 0, .long 0, .long 0, .long 0, .long 0, .int 0, .long 0, .long 0, .int 0, .int 0, .int 0, .long 0, .long 0])), (q1, .inl ((zca X).1, 14, .inl (fun _ => 0))), (q2, .inl ((zca X).1, 168, .inl (fun _ => 0))), (q3, .inl ((zca X).1, 2016, .inl (fun _ => 0))), (q4, .inl ((zca X).1, 2016, .inl (fun _ => 0))), (q5, .inl ((zca X).1, 2016, .inl (fun _ => 0))), (q6, .inl ((zca X).2.2.1, 2016, .inl (fun _ => 0))), (q7, .inl ((zca X).1, 12, .inl (fun _ => 0))), (q8, .inl ((zca X).1, 12, .inl (fun _ => 0)))]) rfl ?_
  refine zb_aload_n hc dM_init_73 rfl ?_
  refine zb_bipush hc (12 : Int32) dM_init_74 rfl ?_
  refine zb_newI 12 hc hA acI dM_init_76 (by decide) rfl (by decide) ⟨Nat.le_of_ble_eq_true rfl, Nat.le_of_ble_eq_true rfl⟩ (fun q9 => ?_)
  refine zb_putF 0 hc hin gnM_35 dM_init_78 rfl rfl rfl (Nat.le_of_ble_eq_true rfl) ?_
  refine zb_eq (ws' := [(h0, .inr (6, [.int 0, .ref q1, .ref q2, .ref q3, .ref q4, .ref q5, .ref q6, .int 0, .int 0, .ref q7, .ref q8, .ref q9, .null, .int 0, .int 0, .null, .null, .null, .null, .int 0, .null, .null, .null, .null, .int 0, .int 0, .long 0, .long 0, .int 0, .long 0, .long 0, .long 0, .long 0, .long 0, .long 0, .long 0, .int 0, .long 0, .long 0, .int 0, .int 0, .int 0, .long 0, .long 0])), (q1, .inl ((zca X).1, 14, .inl (fun _ => 0))), (q2, .inl ((zca X).1, 168, .inl (fun _ => 0))), (q3, .inl ((zca X).1, 2016, .inl (fun _ => 0))), (q4, .inl ((zca X).1, 2016, .inl (fun _ => 0))), (q5, .inl ((zca X).1, 2016, .inl (fun _ => 0))), (q6, .inl ((zca X).2.2.1, 2016, .inl (fun _ => 0))), (q7, .inl ((zca X).1, 12, .inl (fun _ => 0))), (q8, .inl ((zca X).1, 12, .inl (fun _ => 0))), (q9, .inl ((zca X).1, 12, .inl (fun _ => 0)))]) rfl ?_
  refine zb_aload_n hc dM_init_81 rfl ?_
  refine zb_bipush hc (12 : Int32) dM_init_82 rfl ?_
  refine zb_newZ 12 hc hA acZ dM_init_84 (by decide) rfl (by decide) ⟨Nat.le_of_ble_eq_true rfl, Nat.le_of_ble_eq_true rfl⟩ (fun q10 => ?_)
  refine zb_putF 0 hc hin gnM_38 dM_init_86 rfl rfl rfl (Nat.le_of_ble_eq_true rfl) ?_
  refine zb_eq (ws' := [(h0, .inr (6, [.int 0, .ref q1, .ref q2, .ref q3, .ref q4, .ref q5, .ref q6, .int 0, .int 0, .ref q7, .ref q8, .ref q9, .ref q10, .int 0, .int 0, .null, .null, .null, .null, .int 0, .null, .null, .null, .null, .int 0, .int 0, .long 0, .long 0, .int 0, .long 0, .long 0, .long 0, .long 0, .long 0, .long 0, .long 0, .int 0, .long 0, .long 0, .int 0, .int 0, .int 0, .long 0, .long 0])), (q1, .inl ((zca X).1, 14, .inl (fun _ => 0))), (q2, .inl ((zca X).1, 168, .inl (fun _ => 0))), (q3, .inl ((zca X).1, 2016, .inl (fun _ => 0))), (q4, .inl ((zca X).1, 2016, .inl (fun _ => 0))), (q5, .inl ((zca X).1, 2016, .inl (fun _ => 0))), (q6, .inl ((zca X).2.2.1, 2016, .inl (fun _ => 0))), (q7, .inl ((zca X).1, 12, .inl (fun _ => 0))), (q8, .inl ((zca X).1, 12, .inl (fun _ => 0))), (q9, .inl ((zca X).1, 12, .inl (fun _ => 0))), (q10, .inl ((zca X).2.2.1, 12, .inl (fun _ => 0)))]) rfl ?_
  refine zb_aload_n hc dM_init_89 rfl ?_
  refine zb_bipush hc (80 : Int32) dM_init_90 rfl ?_
  refine zb_newJ 80 hc hA acJ dM_init_92 (by decide) rfl (by decide) ⟨Nat.le_of_ble_eq_true rfl, Nat.le_of_ble_eq_true rfl⟩ (fun q11 => ?_)
  refine zb_putF 0 hc hin gnM_41 dM_init_94 rfl rfl rfl (Nat.le_of_ble_eq_true rfl) ?_
  refine zb_eq (ws' := [(h0, .inr (6, [.int 0, .ref q1, .ref q2, .ref q3, .ref q4, .ref q5, .ref q6, .int 0, .int 0, .ref q7, .ref q8, .ref q9, .ref q10, .int 0, .int 0, .ref q11, .null, .null, .null, .int 0, .null, .null, .null, .null, .int 0, .int 0, .long 0, .long 0, .int 0, .long 0, .long 0, .long 0, .long 0, .long 0, .long 0, .long 0, .int 0, .long 0, .long 0, .int 0, .int 0, .int 0, .long 0, .long 0])), (q1, .inl ((zca X).1, 14, .inl (fun _ => 0))), (q2, .inl ((zca X).1, 168, .inl (fun _ => 0))), (q3, .inl ((zca X).1, 2016, .inl (fun _ => 0))), (q4, .inl ((zca X).1, 2016, .inl (fun _ => 0))), (q5, .inl ((zca X).1, 2016, .inl (fun _ => 0))), (q6, .inl ((zca X).2.2.1, 2016, .inl (fun _ => 0))), (q7, .inl ((zca X).1, 12, .inl (fun _ => 0))), (q8, .inl ((zca X).1, 12, .inl (fun _ => 0))), (q9, .inl ((zca X).1, 12, .inl (fun _ => 0))), (q10, .inl ((zca X).2.2.1, 12, .inl (fun _ => 0))), (q11, .inl ((zca X).2.1, 80, .inr (.inl (fun _ => 0))))]) rfl ?_
  refine zb_aload_n hc dM_init_97 rfl ?_
  refine zb_bipush hc (80 : Int32) dM_init_98 rfl ?_
  refine zb_newJ 80 hc hA acJ dM_init_100 (by decide) rfl (by decide) ⟨Nat.le_of_ble_eq_true rfl, Nat.le_of_ble_eq_true rfl⟩ (fun q12 => ?_)
  refine zb_putF 0 hc hin gnM_45 dM_init_102 rfl rfl rfl (Nat.le_of_ble_eq_true rfl) ?_
  refine zb_eq (ws' := [(h0, .inr (6, [.int 0, .ref q1, .ref q2, .ref q3, .ref q4, .ref q5, .ref q6, .int 0, .int 0, .ref q7, .ref q8, .ref q9, .ref q10, .int 0, .int 0, .ref q11, .ref q12, .null, .null, .int 0, .null, .null, .null, .null, .int 0, .int 0, .long 0, .long 0, .int 0, .long 0, .long 0, .long 0, .long 0, .long 0, .long 0, .long 0, .int 0, .long 0, .long 0, .int 0, .int 0, .int 0, .long 0, .long 0])), (q1, .inl ((zca X).1, 14, .inl (fun _ => 0))), (q2, .inl ((zca X).1, 168, .inl (fun _ => 0))), (q3, .inl ((zca X).1, 2016, .inl (fun _ => 0))), (q4, .inl ((zca X).1, 2016, .inl (fun _ => 0))), (q5, .inl ((zca X).1, 2016, .inl (fun _ => 0))), (q6, .inl ((zca X).2.2.1, 2016, .inl (fun _ => 0))), (q7, .inl ((zca X).1, 12, .inl (fun _ => 0))), (q8, .inl ((zca X).1, 12, .inl (fun _ => 0))), (q9, .inl ((zca X).1, 12, .inl (fun _ => 0))), (q10, .inl ((zca X).2.2.1, 12, .inl (fun _ => 0))), (q11, .inl ((zca X).2.1, 80, .inr (.inl (fun _ => 0)))), (q12, .inl ((zca X).2.1, 80, .inr (.inl (fun _ => 0))))]) rfl ?_
  refine zb_aload_n hc dM_init_105 rfl ?_
  refine zb_bipush hc (80 : Int32) dM_init_106 rfl ?_
  refine zb_newJ 80 hc hA acJ dM_init_108 (by decide) rfl (by decide) ⟨Nat.le_of_ble_eq_true rfl, Nat.le_of_ble_eq_true rfl⟩ (fun q13 => ?_)
  refine zb_putF 0 hc hin gnM_48 dM_init_110 rfl rfl rfl (Nat.le_of_ble_eq_true rfl) ?_
  refine zb_eq (ws' := [(h0, .inr (6, [.int 0, .ref q1, .ref q2, .ref q3, .ref q4, .ref q5, .ref q6, .int 0, .int 0, .ref q7, .ref q8, .ref q9, .ref q10, .int 0, .int 0, .ref q11, .ref q12, .ref q13, .null, .int 0, .null, .null, .null, .null, .int 0, .int 0, .long 0, .long 0, .int 0, .long 0, .long 0, .long 0, .long 0, .long 0, .long 0, .long 0, .int 0, .long 0, .long 0, .int 0, .int 0, .int 0, .long 0, .long 0])), (q1, .inl ((zca X).1, 14, .inl (fun _ => 0))), (q2, .inl ((zca X).1, 168, .inl (fun _ => 0))), (q3, .inl ((zca X).1, 2016, .inl (fun _ => 0))), (q4, .inl ((zca X).1, 2016, .inl (fun _ => 0))), (q5, .inl ((zca X).1, 2016, .inl (fun _ => 0))), (q6, .inl ((zca X).2.2.1, 2016, .inl (fun _ => 0))), (q7, .inl ((zca X).1, 12, .inl (fun _ => 0))), (q8, .inl ((zca X).1, 12, .inl (fun _ => 0))), (q9, .inl ((zca X).1, 12, .inl (fun _ => 0))), (q10, .inl ((zca X).2.2.1, 12, .inl (fun _ => 0))), (q11, .inl ((zca X).2.1, 80, .inr (.inl (fun _ => 0)))), (q12, .inl ((zca X).2.1, 80, .inr (.inl (fun _ => 0)))), (q13, .inl ((zca X).2.1, 80, .inr (.inl (fun _ => 0))))]) rfl ?_
  refine zb_aload_n hc dM_init_113 rfl ?_
  refine zb_bipush hc (80 : Int32) dM_init_114 rfl ?_
  refine zb_newZ 80 hc hA acZ dM_init_116 (by decide) rfl (by decide) ⟨Nat.le_of_ble_eq_true rfl, Nat.le_of_ble_eq_true rfl⟩ (fun q14 => ?_)
  refine zb_putF 0 hc hin gnM_51 dM_init_118 rfl rfl rfl (Nat.le_of_ble_eq_true rfl) ?_
  refine zb_eq (ws' := [(h0, .inr (6, [.int 0, .ref q1, .ref q2, .ref q3, .ref q4, .ref q5, .ref q6, .int 0, .int 0, .ref q7, .ref q8, .ref q9, .ref q10, .int 0, .int 0, .ref q11, .ref q12, .ref q13, .ref q14, .int 0, .null, .null, .null, .null, .int 0, .int 0, .long 0, .long 0, .int 0, .long 0, .long 0, .long 0, .long 0, .long 0, .long 0, .long 0, .int 0, .long 0, .long 0, .int 0, .int 0, .int 0, .long 0, .long 0])), (q1, .inl ((zca X).1, 14, .inl (fun _ => 0))), (q2, .inl ((zca X).1, 168, .inl (fun _ => 0))), (q3, .inl ((zca X).1, 2016, .inl (fun _ => 0))), (q4, .inl ((zca X).1, 2016, .inl (fun _ => 0))), (q5, .inl ((zca X).1, 2016, .inl (fun _ => 0))), (q6, .inl ((zca X).2.2.1, 2016, .inl (fun _ => 0))), (q7, .inl ((zca X).1, 12, .inl (fun _ => 0))), (q8, .inl ((zca X).1, 12, .inl (fun _ => 0))), (q9, .inl ((zca X).1, 12, .inl (fun _ => 0))), (q10, .inl ((zca X).2.2.1, 12, .inl (fun _ => 0))), (q11, .inl ((zca X).2.1, 80, .inr (.inl (fun _ => 0)))), (q12, .inl ((zca X).2.1, 80, .inr (.inl (fun _ => 0)))), (q13, .inl ((zca X).2.1, 80, .inr (.inl (fun _ => 0)))), (q14, .inl ((zca X).2.2.1, 80, .inl (fun _ => 0)))]) rfl ?_
  refine zb_aload_n hc dM_init_121 rfl ?_
  refine zb_bipush hc (80 : Int32) dM_init_122 rfl ?_
  refine zb_newJ 80 hc hA acJ dM_init_124 (by decide) rfl (by decide) ⟨Nat.le_of_ble_eq_true rfl, Nat.le_of_ble_eq_true rfl⟩ (fun q15 => ?_)
  refine zb_putF 0 hc hin gnM_54 dM_init_126 rfl rfl rfl (Nat.le_of_ble_eq_true rfl) ?_
  refine zb_eq (ws' := [(h0, .inr (6, [.int 0, .ref q1, .ref q2, .ref q3, .ref q4, .ref q5, .ref q6, .int 0, .int 0, .ref q7, .ref q8, .ref q9, .ref q10, .int 0, .int 0, .ref q11, .ref q12, .ref q13, .ref q14, .int 0, .ref q15, .null, .null, .null, .int 0, .int 0, .long 0, .long 0, .int 0, .long 0, .long 0, .long 0, .long 0, .long 0, .long 0, .long 0, .int 0, .long 0, .long 0, .int 0, .int 0, .int 0, .long 0, .long 0])), (q1, .inl ((zca X).1, 14, .inl (fun _ => 0))), (q2, .inl ((zca X).1, 168, .inl (fun _ => 0))), (q3, .inl ((zca X).1, 2016, .inl (fun _ => 0))), (q4, .inl ((zca X).1, 2016, .inl (fun _ => 0))), (q5, .inl ((zca X).1, 2016, .inl (fun _ => 0))), (q6, .inl ((zca X).2.2.1, 2016, .inl (fun _ => 0))), (q7, .inl ((zca X).1, 12, .inl (fun _ => 0))), (q8, .inl ((zca X).1, 12, .inl (fun _ => 0))), (q9, .inl ((zca X).1, 12, .inl (fun _ => 0))), (q10, .inl ((zca X).2.2.1, 12, .inl (fun _ => 0))), (q11, .inl ((zca X).2.1, 80, .inr (.inl (fun _ => 0)))), (q12, .inl ((zca X).2.1, 80, .inr (.inl (fun _ => 0)))), (q13, .inl ((zca X).2.1, 80, .inr (.inl (fun _ => 0)))), (q14, .inl ((zca X).2.2.1, 80, .inl (fun _ => 0))), (q15, .inl ((zca X).2.1, 80, .inr (.inl (fun _ => 0))))]) rfl ?_
  refine zb_aload_n hc dM_init_129 rfl ?_
  refine zb_bipush hc (80 : Int32) dM_init_130 rfl ?_
  refine zb_newJ 80 hc hA acJ dM_init_132 (by decide) rfl (by decide) ⟨Nat.le_of_ble_eq_true rfl, Nat.le_of_ble_eq_true rfl⟩ (fun q16 => ?_)
  refine zb_putF 0 hc hin gnM_57 dM_init_134 rfl rfl rfl (Nat.le_of_ble_eq_true rfl) ?_
  refine zb_eq (ws' := [(h0, .inr (6, [.int 0, .ref q1, .ref q2, .ref q3, .ref q4, .ref q5, .ref q6, .int 0, .int 0, .ref q7, .ref q8, .ref q9, .ref q10, .int 0, .int 0, .ref q11, .ref q12, .ref q13, .ref q14, .int 0, .ref q15, .ref q16, .null, .null, .int 0, .int 0, .long 0, .long 0, .int 0, .long 0, .long 0, .long 0, .long 0, .long 0, .long 0, .long 0, .int 0, .long 0, .long 0, .int 0, .int 0, .int 0, .long 0, .long 0])), (q1, .inl ((zca X).1, 14, .inl (fun _ => 0))), (q2, .inl ((zca X).1, 168, .inl (fun _ => 0))), (q3, .inl ((zca X).1, 2016, .inl (fun _ => 0))), (q4, .inl ((zca X).1, 2016, .inl (fun _ => 0))), (q5, .inl ((zca X).1, 2016, .inl (fun _ => 0))), (q6, .inl ((zca X).2.2.1, 2016, .inl (fun _ => 0))), (q7, .inl ((zca X).1, 12, .inl (fun _ => 0))), (q8, .inl ((zca X).1, 12, .inl (fun _ => 0))), (q9, .inl ((zca X).1, 12, .inl (fun _ => 0))), (q10, .inl ((zca X).2.2.1, 12, .inl (fun _ => 0))), (q11, .inl ((zca X).2.1, 80, .inr (.inl (fun _ => 0)))), (q12, .inl ((zca X).2.1, 80, .inr (.inl (fun _ => 0)))), (q13, .inl ((zca X).2.1, 80, .inr (.inl (fun _ => 0)))), (q14, .inl ((zca X).2.2.1, 80, .inl (fun _ => 0))), (q15, .inl ((zca X).2.1, 80, .inr (.inl (fun _ => 0)))), (q16, .inl ((zca X).2.1, 80, .inr (.inl (fun _ => 0))))]) rfl ?_
  refine zb_aload_n hc dM_init_137 rfl ?_
  refine zb_bipush hc (80 : Int32) dM_init_138 rfl ?_
  refine zb_newJ 80 hc hA acJ dM_init_140 (by decide) rfl (by decide) ⟨Nat.le_of_ble_eq_true rfl, Nat.le_of_ble_eq_true rfl⟩ (fun q17 => ?_)
  refine zb_putF 0 hc hin gnM_60 dM_init_142 rfl rfl rfl (Nat.le_of_ble_eq_true rfl) ?_
  refine zb_eq (ws' := [(h0, .inr (6, [.int 0, .ref q1, .ref q2, .ref q3, .ref q4, .ref q5, .ref q6, .int 0, .int 0, .ref q7, .ref q8, .ref q9, .ref q10, .int 0, .int 0, .ref q11, .ref q12, .ref q13, .ref q14, .int 0, .ref q15, .ref q16, .ref q17, .null, .int 0, .int 0, .long 0, .long 0, .int 0, .long 0, .long 0, .long 0, .long 0, .long 0, .long 0, .long 0, .int 0, .long 0, .long 0, .int 0, .int 0, .int 0, .long 0, .long 0])), (q1, .inl ((zca X).1, 14, .inl (fun _ => 0))), (q2, .inl ((zca X).1, 168, .inl (fun _ => 0))), (q3, .inl ((zca X).1, 2016, .inl (fun _ => 0))), (q4, .inl ((zca X).1, 2016, .inl (fun _ => 0))), (q5, .inl ((zca X).1, 2016, .inl (fun _ => 0))), (q6, .inl ((zca X).2.2.1, 2016, .inl (fun _ => 0))), (q7, .inl ((zca X).1, 12, .inl (fun _ => 0))), (q8, .inl ((zca X).1, 12, .inl (fun _ => 0))), (q9, .inl ((zca X).1, 12, .inl (fun _ => 0))), (q10, .inl ((zca X).2.2.1, 12, .inl (fun _ => 0))), (q11, .inl ((zca X).2.1, 80, .inr (.inl (fun _ => 0)))), (q12, .inl ((zca X).2.1, 80, .inr (.inl (fun _ => 0)))), (q13, .inl ((zca X).2.1, 80, .inr (.inl (fun _ => 0)))), (q14, .inl ((zca X).2.2.1, 80, .inl (fun _ => 0))), (q15, .inl ((zca X).2.1, 80, .inr (.inl (fun _ => 0)))), (q16, .inl ((zca X).2.1, 80, .inr (.inl (fun _ => 0)))), (q17, .inl ((zca X).2.1, 80, .inr (.inl (fun _ => 0))))]) rfl ?_
  refine zb_aload_n hc dM_init_145 rfl ?_
  refine zb_bipush hc (80 : Int32) dM_init_146 rfl ?_
  refine zb_newZ 80 hc hA acZ dM_init_148 (by decide) rfl (by decide) ⟨Nat.le_of_ble_eq_true rfl, Nat.le_of_ble_eq_true rfl⟩ (fun q18 => ?_)
  refine zb_putF 0 hc hin gnM_63 dM_init_150 rfl rfl rfl (Nat.le_of_ble_eq_true rfl) ?_
  refine zb_eq (ws' := [(h0, .inr (6, [.int 0, .ref q1, .ref q2, .ref q3, .ref q4, .ref q5, .ref q6, .int 0, .int 0, .ref q7, .ref q8, .ref q9, .ref q10, .int 0, .int 0, .ref q11, .ref q12, .ref q13, .ref q14, .int 0, .ref q15, .ref q16, .ref q17, .ref q18, .int 0, .int 0, .long 0, .long 0, .int 0, .long 0, .long 0, .long 0, .long 0, .long 0, .long 0, .long 0, .int 0, .long 0, .long 0, .int 0, .int 0, .int 0, .long 0, .long 0])), (q1, .inl ((zca X).1, 14, .inl (fun _ => 0))), (q2, .inl ((zca X).1, 168, .inl (fun _ => 0))), (q3, .inl ((zca X).1, 2016, .inl (fun _ => 0))), (q4, .inl ((zca X).1, 2016, .inl (fun _ => 0))), (q5, .inl ((zca X).1, 2016, .inl (fun _ => 0))), (q6, .inl ((zca X).2.2.1, 2016, .inl (fun _ => 0))), (q7, .inl ((zca X).1, 12, .inl (fun _ => 0))), (q8, .inl ((zca X).1, 12, .inl (fun _ => 0))), (q9, .inl ((zca X).1, 12, .inl (fun _ => 0))), (q10, .inl ((zca X).2.2.1, 12, .inl (fun _ => 0))), (q11, .inl ((zca X).2.1, 80, .inr (.inl (fun _ => 0)))), (q12, .inl ((zca X).2.1, 80, .inr (.inl (fun _ => 0)))), (q13, .inl ((zca X).2.1, 80, .inr (.inl (fun _ => 0)))), (q14, .inl ((zca X).2.2.1, 80, .inl (fun _ => 0))), (q15, .inl ((zca X).2.1, 80, .inr (.inl (fun _ => 0)))), (q16, .inl ((zca X).2.1, 80, .inr (.inl (fun _ => 0)))), (q17, .inl ((zca X).2.1, 80, .inr (.inl (fun _ => 0)))), (q18, .inl ((zca X).2.2.1, 80, .inl (fun _ => 0)))]) rfl ?_
  have hu : ∃ u : Nat → Nat, u = fun i => ([h0, q1, q2, q3, q4, q5, q6, q7, q8, q9, q10, q11, q12, q13, q14, q15, q16, q17, q18] : List Nat).getD i 0 := ⟨_, rfl⟩
  obtain ⟨u, hu⟩ := hu
  exact zb_vret u hc rfl dM_init_153 ⟨Nat.le_of_ble_eq_true rfl, Nat.le_of_ble_eq_true rfl⟩ (by subst hu; rfl) (by subst hu; rfl)
