section
-- ===== PART A: goes FIRST, ahead of the names: the tables' words, and 'selects' of the private methods out of them =====
/-- a private method of a class that the tables say can be made, by its rows of tables_1 -/
def lw_okq (q : MethodName × Nat) : Prop := (q.1.cls ≠ "java/lang/invoke/MethodHandle" ∧ q.1.cls ≠ "java/lang/invoke/VarHandle") ∧ Cond.instantiable q.1.cls q.2 ∈ tables_1 ∧ Cond.privateMethod q.1 ∈ tables_1 ∧ Cond.instanceMethod q.1 ∈ tables_1
theorem lw_p0 : lw_okq (⟨"java/lang/Throwable", "fillInStackTrace", "(I)Ljava/lang/Throwable;"⟩, 6) := ⟨⟨by decide +kernel, by decide +kernel⟩, List.mem_of_getElem? (i := 217) (by decide +kernel), List.mem_of_getElem? (i := 215) (by decide +kernel), List.mem_of_getElem? (i := 216) (by decide +kernel)⟩
theorem lw_p1 : lw_okq (⟨"RegionDesk$Draft", "insert", "(JJJZ)V"⟩, 6) := ⟨⟨by decide +kernel, by decide +kernel⟩, List.mem_of_getElem? (i := 28) (by decide +kernel), List.mem_of_getElem? (i := 274) (by decide +kernel), List.mem_of_getElem? (i := 275) (by decide +kernel)⟩
theorem lw_p2 : lw_okq (⟨"RegionDesk$Draft", "strengthen", "(IJZ)V"⟩, 6) := ⟨⟨by decide +kernel, by decide +kernel⟩, List.mem_of_getElem? (i := 28) (by decide +kernel), List.mem_of_getElem? (i := 278) (by decide +kernel), List.mem_of_getElem? (i := 279) (by decide +kernel)⟩
theorem lw_p3 : lw_okq (⟨"RegionDesk$Draft", "move", "(II)V"⟩, 6) := ⟨⟨by decide +kernel, by decide +kernel⟩, List.mem_of_getElem? (i := 28) (by decide +kernel), List.mem_of_getElem? (i := 282) (by decide +kernel), List.mem_of_getElem? (i := 283) (by decide +kernel)⟩
theorem lw_p4 : lw_okq (⟨"RegionDesk", "requireRoom", "()V"⟩, 7) := ⟨⟨by decide +kernel, by decide +kernel⟩, List.mem_of_getElem? (i := 18) (by decide +kernel), List.mem_of_getElem? (i := 293) (by decide +kernel), List.mem_of_getElem? (i := 294) (by decide +kernel)⟩
theorem lw_p5 : lw_okq (⟨"RegionDesk$Draft", "flip", "(I)V"⟩, 6) := ⟨⟨by decide +kernel, by decide +kernel⟩, List.mem_of_getElem? (i := 28) (by decide +kernel), List.mem_of_getElem? (i := 322) (by decide +kernel), List.mem_of_getElem? (i := 323) (by decide +kernel)⟩
theorem lw_p6 : lw_okq (⟨"RegionDesk$Draft", "remove", "(I)V"⟩, 6) := ⟨⟨by decide +kernel, by decide +kernel⟩, List.mem_of_getElem? (i := 28) (by decide +kernel), List.mem_of_getElem? (i := 327) (by decide +kernel), List.mem_of_getElem? (i := 328) (by decide +kernel)⟩
theorem lw_p7 : lw_okq (⟨"RegionDesk$Region", "contains", "(LRegionDesk$Draft;)Z"⟩, 3) := ⟨⟨by decide +kernel, by decide +kernel⟩, List.mem_of_getElem? (i := 79) (by decide +kernel), List.mem_of_getElem? (i := 337) (by decide +kernel), List.mem_of_getElem? (i := 338) (by decide +kernel)⟩
theorem lw_p8 : lw_okq (⟨"RegionDesk$Region", "isSame", "(ILRegionDesk$Draft;)Z"⟩, 3) := ⟨⟨by decide +kernel, by decide +kernel⟩, List.mem_of_getElem? (i := 79) (by decide +kernel), List.mem_of_getElem? (i := 341) (by decide +kernel), List.mem_of_getElem? (i := 342) (by decide +kernel)⟩
theorem lw_p9 : lw_okq (⟨"RegionDesk$Region", "append", "(LRegionDesk$Draft;)V"⟩, 3) := ⟨⟨by decide +kernel, by decide +kernel⟩, List.mem_of_getElem? (i := 79) (by decide +kernel), List.mem_of_getElem? (i := 381) (by decide +kernel), List.mem_of_getElem? (i := 382) (by decide +kernel)⟩
theorem lw_p10 : lw_okq (⟨"RegionDesk", "requireHeight", "(I)V"⟩, 7) := ⟨⟨by decide +kernel, by decide +kernel⟩, List.mem_of_getElem? (i := 18) (by decide +kernel), List.mem_of_getElem? (i := 397) (by decide +kernel), List.mem_of_getElem? (i := 398) (by decide +kernel)⟩
theorem lw_p11 : lw_okq (⟨"RegionDesk$Workshop", "cut", "(LRegionDesk$Region;I)V"⟩, 4) := ⟨⟨by decide +kernel, by decide +kernel⟩, List.mem_of_getElem? (i := 71) (by decide +kernel), List.mem_of_getElem? (i := 475) (by decide +kernel), List.mem_of_getElem? (i := 476) (by decide +kernel)⟩
theorem lw_p12 : lw_okq (⟨"RegionDesk$Workshop", "eliminate", "(LRegionDesk$Region;III)V"⟩, 4) := ⟨⟨by decide +kernel, by decide +kernel⟩, List.mem_of_getElem? (i := 71) (by decide +kernel), List.mem_of_getElem? (i := 500) (by decide +kernel), List.mem_of_getElem? (i := 501) (by decide +kernel)⟩
theorem lw_p13 : lw_okq (⟨"RegionDesk", "requireRow", "(I)V"⟩, 7) := ⟨⟨by decide +kernel, by decide +kernel⟩, List.mem_of_getElem? (i := 18) (by decide +kernel), List.mem_of_getElem? (i := 546) (by decide +kernel), List.mem_of_getElem? (i := 547) (by decide +kernel)⟩
theorem lw_p14 : lw_okq (⟨"RegionDesk$Region", "rowHasPoint", "(IIII)Z"⟩, 3) := ⟨⟨by decide +kernel, by decide +kernel⟩, List.mem_of_getElem? (i := 79) (by decide +kernel), List.mem_of_getElem? (i := 593) (by decide +kernel), List.mem_of_getElem? (i := 594) (by decide +kernel)⟩
theorem lw_p15 : lw_okq (⟨"RegionDesk$Infimum", "forget", "()V"⟩, 6) := ⟨⟨by decide +kernel, by decide +kernel⟩, List.mem_of_getElem? (i := 109) (by decide +kernel), List.mem_of_getElem? (i := 618) (by decide +kernel), List.mem_of_getElem? (i := 619) (by decide +kernel)⟩
def lw_privs_1 : List (MethodName × Nat) := [(⟨"java/lang/Throwable", "fillInStackTrace", "(I)Ljava/lang/Throwable;"⟩, 6), (⟨"RegionDesk$Draft", "insert", "(JJJZ)V"⟩, 6), (⟨"RegionDesk$Draft", "strengthen", "(IJZ)V"⟩, 6), (⟨"RegionDesk$Draft", "move", "(II)V"⟩, 6), (⟨"RegionDesk", "requireRoom", "()V"⟩, 7), (⟨"RegionDesk$Draft", "flip", "(I)V"⟩, 6), (⟨"RegionDesk$Draft", "remove", "(I)V"⟩, 6), (⟨"RegionDesk$Region", "contains", "(LRegionDesk$Draft;)Z"⟩, 3), (⟨"RegionDesk$Region", "isSame", "(ILRegionDesk$Draft;)Z"⟩, 3), (⟨"RegionDesk$Region", "append", "(LRegionDesk$Draft;)V"⟩, 3), (⟨"RegionDesk", "requireHeight", "(I)V"⟩, 7), (⟨"RegionDesk$Workshop", "cut", "(LRegionDesk$Region;I)V"⟩, 4), (⟨"RegionDesk$Workshop", "eliminate", "(LRegionDesk$Region;III)V"⟩, 4), (⟨"RegionDesk", "requireRow", "(I)V"⟩, 7), (⟨"RegionDesk$Region", "rowHasPoint", "(IIII)Z"⟩, 3), (⟨"RegionDesk$Infimum", "forget", "()V"⟩, 6)]
theorem lw_r1 : ∀ q ∈ lw_privs_1, lw_okq q := List.forall_mem_cons.mpr ⟨lw_p0, List.forall_mem_cons.mpr ⟨lw_p1, List.forall_mem_cons.mpr ⟨lw_p2, List.forall_mem_cons.mpr ⟨lw_p3, List.forall_mem_cons.mpr ⟨lw_p4, List.forall_mem_cons.mpr ⟨lw_p5, List.forall_mem_cons.mpr ⟨lw_p6, List.forall_mem_cons.mpr ⟨lw_p7, List.forall_mem_cons.mpr ⟨lw_p8, List.forall_mem_cons.mpr ⟨lw_p9, List.forall_mem_cons.mpr ⟨lw_p10, List.forall_mem_cons.mpr ⟨lw_p11, List.forall_mem_cons.mpr ⟨lw_p12, List.forall_mem_cons.mpr ⟨lw_p13, List.forall_mem_cons.mpr ⟨lw_p14, List.forall_mem_cons.mpr ⟨lw_p15, fun _ h => absurd h List.not_mem_nil⟩⟩⟩⟩⟩⟩⟩⟩⟩⟩⟩⟩⟩⟩⟩⟩
theorem lw_p16 : lw_okq (⟨"RegionDesk$Infimum", "seekInRow", "(LRegionDesk$Region;III)V"⟩, 6) := ⟨⟨by decide +kernel, by decide +kernel⟩, List.mem_of_getElem? (i := 109) (by decide +kernel), List.mem_of_getElem? (i := 623) (by decide +kernel), List.mem_of_getElem? (i := 624) (by decide +kernel)⟩
theorem lw_p17 : lw_okq (⟨"RegionDesk$Infimum", "boundByOne", "(LRegionDesk$Region;IIII)V"⟩, 6) := ⟨⟨by decide +kernel, by decide +kernel⟩, List.mem_of_getElem? (i := 109) (by decide +kernel), List.mem_of_getElem? (i := 633) (by decide +kernel), List.mem_of_getElem? (i := 634) (by decide +kernel)⟩
theorem lw_p18 : lw_okq (⟨"RegionDesk$Infimum", "raiseRow", "(JJZ)V"⟩, 6) := ⟨⟨by decide +kernel, by decide +kernel⟩, List.mem_of_getElem? (i := 109) (by decide +kernel), List.mem_of_getElem? (i := 639) (by decide +kernel), List.mem_of_getElem? (i := 640) (by decide +kernel)⟩
theorem lw_p19 : lw_okq (⟨"RegionDesk$Infimum", "boundByTwo", "(LRegionDesk$Region;IIIII)V"⟩, 6) := ⟨⟨by decide +kernel, by decide +kernel⟩, List.mem_of_getElem? (i := 109) (by decide +kernel), List.mem_of_getElem? (i := 643) (by decide +kernel), List.mem_of_getElem? (i := 644) (by decide +kernel)⟩
theorem lw_p20 : lw_okq (⟨"RegionDesk$Infimum", "lowerToRow", "()V"⟩, 6) := ⟨⟨by decide +kernel, by decide +kernel⟩, List.mem_of_getElem? (i := 109) (by decide +kernel), List.mem_of_getElem? (i := 647) (by decide +kernel), List.mem_of_getElem? (i := 648) (by decide +kernel)⟩
theorem lw_p21 : lw_okq (⟨"RegionDesk$Infimum", "reduce", "()V"⟩, 6) := ⟨⟨by decide +kernel, by decide +kernel⟩, List.mem_of_getElem? (i := 109) (by decide +kernel), List.mem_of_getElem? (i := 651) (by decide +kernel), List.mem_of_getElem? (i := 652) (by decide +kernel)⟩
theorem lw_p22 : lw_okq (⟨"RegionDeskModel", "begin", "()V"⟩, 44) := ⟨⟨by decide +kernel, by decide +kernel⟩, List.mem_of_getElem? (i := 672) (by decide +kernel), List.mem_of_getElem? (i := 828) (by decide +kernel), List.mem_of_getElem? (i := 829) (by decide +kernel)⟩
theorem lw_p23 : lw_okq (⟨"RegionDeskModel", "add", "(JJJZ)V"⟩, 44) := ⟨⟨by decide +kernel, by decide +kernel⟩, List.mem_of_getElem? (i := 672) (by decide +kernel), List.mem_of_getElem? (i := 832) (by decide +kernel), List.mem_of_getElem? (i := 833) (by decide +kernel)⟩
theorem lw_p24 : lw_okq (⟨"RegionDeskModel", "put", "(I)V"⟩, 44) := ⟨⟨by decide +kernel, by decide +kernel⟩, List.mem_of_getElem? (i := 672) (by decide +kernel), List.mem_of_getElem? (i := 836) (by decide +kernel), List.mem_of_getElem? (i := 837) (by decide +kernel)⟩
theorem lw_p25 : lw_okq (⟨"RegionDeskModel", "normal", "()Z"⟩, 44) := ⟨⟨by decide +kernel, by decide +kernel⟩, List.mem_of_getElem? (i := 672) (by decide +kernel), List.mem_of_getElem? (i := 840) (by decide +kernel), List.mem_of_getElem? (i := 841) (by decide +kernel)⟩
theorem lw_p26 : lw_okq (⟨"RegionDeskModel", "isBefore", "(II)Z"⟩, 44) := ⟨⟨by decide +kernel, by decide +kernel⟩, List.mem_of_getElem? (i := 672) (by decide +kernel), List.mem_of_getElem? (i := 847) (by decide +kernel), List.mem_of_getElem? (i := 848) (by decide +kernel)⟩
theorem lw_p27 : lw_okq (⟨"RegionDeskModel", "swap", "(II)V"⟩, 44) := ⟨⟨by decide +kernel, by decide +kernel⟩, List.mem_of_getElem? (i := 672) (by decide +kernel), List.mem_of_getElem? (i := 851) (by decide +kernel), List.mem_of_getElem? (i := 852) (by decide +kernel)⟩
theorem lw_p28 : lw_okq (⟨"RegionDeskModel", "remove", "(I)V"⟩, 44) := ⟨⟨by decide +kernel, by decide +kernel⟩, List.mem_of_getElem? (i := 672) (by decide +kernel), List.mem_of_getElem? (i := 855) (by decide +kernel), List.mem_of_getElem? (i := 856) (by decide +kernel)⟩
theorem lw_p29 : lw_okq (⟨"RegionDeskModel", "ask", "()V"⟩, 44) := ⟨⟨by decide +kernel, by decide +kernel⟩, List.mem_of_getElem? (i := 672) (by decide +kernel), List.mem_of_getElem? (i := 859) (by decide +kernel), List.mem_of_getElem? (i := 860) (by decide +kernel)⟩
theorem lw_p30 : lw_okq (⟨"RegionDeskModel", "hasPoints", "()Z"⟩, 44) := ⟨⟨by decide +kernel, by decide +kernel⟩, List.mem_of_getElem? (i := 672) (by decide +kernel), List.mem_of_getElem? (i := 863) (by decide +kernel), List.mem_of_getElem? (i := 864) (by decide +kernel)⟩
theorem lw_p31 : lw_okq (⟨"RegionDeskModel", "isBand", "()Z"⟩, 44) := ⟨⟨by decide +kernel, by decide +kernel⟩, List.mem_of_getElem? (i := 672) (by decide +kernel), List.mem_of_getElem? (i := 867) (by decide +kernel), List.mem_of_getElem? (i := 868) (by decide +kernel)⟩
def lw_privs_2 : List (MethodName × Nat) := [(⟨"RegionDesk$Infimum", "seekInRow", "(LRegionDesk$Region;III)V"⟩, 6), (⟨"RegionDesk$Infimum", "boundByOne", "(LRegionDesk$Region;IIII)V"⟩, 6), (⟨"RegionDesk$Infimum", "raiseRow", "(JJZ)V"⟩, 6), (⟨"RegionDesk$Infimum", "boundByTwo", "(LRegionDesk$Region;IIIII)V"⟩, 6), (⟨"RegionDesk$Infimum", "lowerToRow", "()V"⟩, 6), (⟨"RegionDesk$Infimum", "reduce", "()V"⟩, 6), (⟨"RegionDeskModel", "begin", "()V"⟩, 44), (⟨"RegionDeskModel", "add", "(JJJZ)V"⟩, 44), (⟨"RegionDeskModel", "put", "(I)V"⟩, 44), (⟨"RegionDeskModel", "normal", "()Z"⟩, 44), (⟨"RegionDeskModel", "isBefore", "(II)Z"⟩, 44), (⟨"RegionDeskModel", "swap", "(II)V"⟩, 44), (⟨"RegionDeskModel", "remove", "(I)V"⟩, 44), (⟨"RegionDeskModel", "ask", "()V"⟩, 44), (⟨"RegionDeskModel", "hasPoints", "()Z"⟩, 44), (⟨"RegionDeskModel", "isBand", "()Z"⟩, 44)]
theorem lw_r2 : ∀ q ∈ lw_privs_2, lw_okq q := List.forall_mem_cons.mpr ⟨lw_p16, List.forall_mem_cons.mpr ⟨lw_p17, List.forall_mem_cons.mpr ⟨lw_p18, List.forall_mem_cons.mpr ⟨lw_p19, List.forall_mem_cons.mpr ⟨lw_p20, List.forall_mem_cons.mpr ⟨lw_p21, List.forall_mem_cons.mpr ⟨lw_p22, List.forall_mem_cons.mpr ⟨lw_p23, List.forall_mem_cons.mpr ⟨lw_p24, List.forall_mem_cons.mpr ⟨lw_p25, List.forall_mem_cons.mpr ⟨lw_p26, List.forall_mem_cons.mpr ⟨lw_p27, List.forall_mem_cons.mpr ⟨lw_p28, List.forall_mem_cons.mpr ⟨lw_p29, List.forall_mem_cons.mpr ⟨lw_p30, List.forall_mem_cons.mpr ⟨lw_p31, fun _ h => absurd h List.not_mem_nil⟩⟩⟩⟩⟩⟩⟩⟩⟩⟩⟩⟩⟩⟩⟩⟩
theorem lw_p32 : lw_okq (⟨"RegionDeskModel", "cross", "(II)J"⟩, 44) := ⟨⟨by decide +kernel, by decide +kernel⟩, List.mem_of_getElem? (i := 672) (by decide +kernel), List.mem_of_getElem? (i := 871) (by decide +kernel), List.mem_of_getElem? (i := 872) (by decide +kernel)⟩
theorem lw_p33 : lw_okq (⟨"RegionDeskModel", "band", "()Z"⟩, 44) := ⟨⟨by decide +kernel, by decide +kernel⟩, List.mem_of_getElem? (i := 672) (by decide +kernel), List.mem_of_getElem? (i := 875) (by decide +kernel), List.mem_of_getElem? (i := 876) (by decide +kernel)⟩
theorem lw_p34 : lw_okq (⟨"RegionDeskModel", "corner", "(II)Z"⟩, 44) := ⟨⟨by decide +kernel, by decide +kernel⟩, List.mem_of_getElem? (i := 672) (by decide +kernel), List.mem_of_getElem? (i := 882) (by decide +kernel), List.mem_of_getElem? (i := 883) (by decide +kernel)⟩
theorem lw_p35 : lw_okq (⟨"RegionDeskModel", "inCorner", "()J"⟩, 44) := ⟨⟨by decide +kernel, by decide +kernel⟩, List.mem_of_getElem? (i := 672) (by decide +kernel), List.mem_of_getElem? (i := 887) (by decide +kernel), List.mem_of_getElem? (i := 888) (by decide +kernel)⟩
theorem lw_p36 : lw_okq (⟨"RegionDeskModel", "way", "(IZ)Z"⟩, 44) := ⟨⟨by decide +kernel, by decide +kernel⟩, List.mem_of_getElem? (i := 672) (by decide +kernel), List.mem_of_getElem? (i := 891) (by decide +kernel), List.mem_of_getElem? (i := 892) (by decide +kernel)⟩
theorem lw_p37 : lw_okq (⟨"RegionDeskModel", "inWay", "()J"⟩, 44) := ⟨⟨by decide +kernel, by decide +kernel⟩, List.mem_of_getElem? (i := 672) (by decide +kernel), List.mem_of_getElem? (i := 895) (by decide +kernel), List.mem_of_getElem? (i := 896) (by decide +kernel)⟩
theorem lw_p38 : lw_okq (⟨"RegionDeskModel", "strictOnes", "()J"⟩, 44) := ⟨⟨by decide +kernel, by decide +kernel⟩, List.mem_of_getElem? (i := 672) (by decide +kernel), List.mem_of_getElem? (i := 899) (by decide +kernel), List.mem_of_getElem? (i := 900) (by decide +kernel)⟩
theorem lw_p39 : lw_okq (⟨"RegionDeskModel", "thin", "()V"⟩, 44) := ⟨⟨by decide +kernel, by decide +kernel⟩, List.mem_of_getElem? (i := 672) (by decide +kernel), List.mem_of_getElem? (i := 903) (by decide +kernel), List.mem_of_getElem? (i := 904) (by decide +kernel)⟩
theorem lw_p40 : lw_okq (⟨"RegionDeskModel", "isRow", "(II)Z"⟩, 44) := ⟨⟨by decide +kernel, by decide +kernel⟩, List.mem_of_getElem? (i := 672) (by decide +kernel), List.mem_of_getElem? (i := 907) (by decide +kernel), List.mem_of_getElem? (i := 908) (by decide +kernel)⟩
theorem lw_p41 : lw_okq (⟨"RegionDeskModel", "both", "(III)V"⟩, 44) := ⟨⟨by decide +kernel, by decide +kernel⟩, List.mem_of_getElem? (i := 672) (by decide +kernel), List.mem_of_getElem? (i := 918) (by decide +kernel), List.mem_of_getElem? (i := 919) (by decide +kernel)⟩
theorem lw_p42 : lw_okq (⟨"RegionDeskModel", "addRow", "(III)V"⟩, 44) := ⟨⟨by decide +kernel, by decide +kernel⟩, List.mem_of_getElem? (i := 672) (by decide +kernel), List.mem_of_getElem? (i := 922) (by decide +kernel), List.mem_of_getElem? (i := 923) (by decide +kernel)⟩
theorem lw_p43 : lw_okq (⟨"RegionDeskModel", "copy", "(II)V"⟩, 44) := ⟨⟨by decide +kernel, by decide +kernel⟩, List.mem_of_getElem? (i := 672) (by decide +kernel), List.mem_of_getElem? (i := 926) (by decide +kernel), List.mem_of_getElem? (i := 927) (by decide +kernel)⟩
theorem lw_p44 : lw_okq (⟨"RegionDeskModel", "contrary", "(I)V"⟩, 44) := ⟨⟨by decide +kernel, by decide +kernel⟩, List.mem_of_getElem? (i := 672) (by decide +kernel), List.mem_of_getElem? (i := 938) (by decide +kernel), List.mem_of_getElem? (i := 939) (by decide +kernel)⟩
theorem lw_p45 : lw_okq (⟨"RegionDeskModel", "parts", "(III)V"⟩, 44) := ⟨⟨by decide +kernel, by decide +kernel⟩, List.mem_of_getElem? (i := 672) (by decide +kernel), List.mem_of_getElem? (i := 942) (by decide +kernel), List.mem_of_getElem? (i := 943) (by decide +kernel)⟩
theorem lw_p46 : lw_okq (⟨"RegionDeskModel", "freed", "(III)V"⟩, 44) := ⟨⟨by decide +kernel, by decide +kernel⟩, List.mem_of_getElem? (i := 672) (by decide +kernel), List.mem_of_getElem? (i := 950) (by decide +kernel), List.mem_of_getElem? (i := 951) (by decide +kernel)⟩
theorem lw_p47 : lw_okq (⟨"RegionDeskModel", "isRowThere", "(I)Z"⟩, 44) := ⟨⟨by decide +kernel, by decide +kernel⟩, List.mem_of_getElem? (i := 672) (by decide +kernel), List.mem_of_getElem? (i := 978) (by decide +kernel), List.mem_of_getElem? (i := 979) (by decide +kernel)⟩
def lw_privs_3 : List (MethodName × Nat) := [(⟨"RegionDeskModel", "cross", "(II)J"⟩, 44), (⟨"RegionDeskModel", "band", "()Z"⟩, 44), (⟨"RegionDeskModel", "corner", "(II)Z"⟩, 44), (⟨"RegionDeskModel", "inCorner", "()J"⟩, 44), (⟨"RegionDeskModel", "way", "(IZ)Z"⟩, 44), (⟨"RegionDeskModel", "inWay", "()J"⟩, 44), (⟨"RegionDeskModel", "strictOnes", "()J"⟩, 44), (⟨"RegionDeskModel", "thin", "()V"⟩, 44), (⟨"RegionDeskModel", "isRow", "(II)Z"⟩, 44), (⟨"RegionDeskModel", "both", "(III)V"⟩, 44), (⟨"RegionDeskModel", "addRow", "(III)V"⟩, 44), (⟨"RegionDeskModel", "copy", "(II)V"⟩, 44), (⟨"RegionDeskModel", "contrary", "(I)V"⟩, 44), (⟨"RegionDeskModel", "parts", "(III)V"⟩, 44), (⟨"RegionDeskModel", "freed", "(III)V"⟩, 44), (⟨"RegionDeskModel", "isRowThere", "(I)Z"⟩, 44)]
theorem lw_r3 : ∀ q ∈ lw_privs_3, lw_okq q := List.forall_mem_cons.mpr ⟨lw_p32, List.forall_mem_cons.mpr ⟨lw_p33, List.forall_mem_cons.mpr ⟨lw_p34, List.forall_mem_cons.mpr ⟨lw_p35, List.forall_mem_cons.mpr ⟨lw_p36, List.forall_mem_cons.mpr ⟨lw_p37, List.forall_mem_cons.mpr ⟨lw_p38, List.forall_mem_cons.mpr ⟨lw_p39, List.forall_mem_cons.mpr ⟨lw_p40, List.forall_mem_cons.mpr ⟨lw_p41, List.forall_mem_cons.mpr ⟨lw_p42, List.forall_mem_cons.mpr ⟨lw_p43, List.forall_mem_cons.mpr ⟨lw_p44, List.forall_mem_cons.mpr ⟨lw_p45, List.forall_mem_cons.mpr ⟨lw_p46, List.forall_mem_cons.mpr ⟨lw_p47, fun _ h => absurd h List.not_mem_nil⟩⟩⟩⟩⟩⟩⟩⟩⟩⟩⟩⟩⟩⟩⟩⟩
theorem lw_p48 : lw_okq (⟨"RegionDeskModel", "ofBand", "(JJ)V"⟩, 44) := ⟨⟨by decide +kernel, by decide +kernel⟩, List.mem_of_getElem? (i := 672) (by decide +kernel), List.mem_of_getElem? (i := 998) (by decide +kernel), List.mem_of_getElem? (i := 999) (by decide +kernel)⟩
theorem lw_p49 : lw_okq (⟨"RegionDeskModel", "ofCorners", "(JJ)V"⟩, 44) := ⟨⟨by decide +kernel, by decide +kernel⟩, List.mem_of_getElem? (i := 672) (by decide +kernel), List.mem_of_getElem? (i := 1002) (by decide +kernel), List.mem_of_getElem? (i := 1003) (by decide +kernel)⟩
def lw_privs_4 : List (MethodName × Nat) := [(⟨"RegionDeskModel", "ofBand", "(JJ)V"⟩, 44), (⟨"RegionDeskModel", "ofCorners", "(JJ)V"⟩, 44)]
theorem lw_r4 : ∀ q ∈ lw_privs_4, lw_okq q := List.forall_mem_cons.mpr ⟨lw_p48, List.forall_mem_cons.mpr ⟨lw_p49, fun _ h => absurd h List.not_mem_nil⟩⟩
def lw_privs : List (MethodName × Nat) := lw_privs_1 ++ (lw_privs_2 ++ (lw_privs_3 ++ (lw_privs_4)))
def lw_tbl : List Cond := k2_sels lw_privs ++ tables_1
theorem lw_privs_ok : ∀ q ∈ lw_privs, lw_okq q := by
  show ∀ q ∈ lw_privs_1 ++ (lw_privs_2 ++ (lw_privs_3 ++ (lw_privs_4))), lw_okq q
  exact List.forall_mem_append.mpr ⟨lw_r1, List.forall_mem_append.mpr ⟨lw_r2, List.forall_mem_append.mpr ⟨lw_r3, lw_r4⟩⟩⟩
-- ===== end of PART A; then your names; then what follows =====
end
section
/-! Names, by program out of the Statement's tables and javap's listing (wip/whole/mk.py): the words that every method may use, classes, fields, methods, places. -/
def zWS : List Cond := lw_tbl.filter goodWord
theorem zin {w : Cond} (n : Nat) (h : tables_1[n]? = some w) (g : goodWord w = true) : w ∈ zWS := List.mem_filter.mpr ⟨List.mem_append_right _ (List.mem_of_getElem? h), g⟩
theorem zsel {y : MethodName} (n : Nat) (h : (lw_privs.map (fun q => q.1))[n]? = some y) : Cond.selects y.cls y y ∈ zWS := by
  refine List.mem_filter.mpr ⟨List.mem_append_left _ ?_, rfl⟩
  obtain ⟨q, hq, rfl⟩ := List.mem_map.mp (List.mem_of_getElem? h)
  exact List.mem_map.mpr ⟨q, hq, rfl⟩
theorem zWS_good : ∀ w ∈ zWS, (w.onTables && w.keeps) = true ∨ ∃ ty, w = .arrayClass ty := fun w h => good_of_word (List.mem_filter.mp h).2
/-- a method: its name, code, locals, what it answers -/
abbrev zMd : Type := MethodName × ByteArray × Nat × Option FieldType
def zws (md : zMd) : List Cond := Cond.code md.1 md.2.1 md.2.2.1 md.2.2.2 :: zWS
/-- what the tables say of a method that is called: n parameters -/
def zKn (md : zMd) (n : Nat) : Prop := Cond.code md.1 md.2.1 md.2.2.1 md.2.2.2 ∈ zWS ∧ Cond.initialized md.1.cls ∈ zWS ∧ (md.1.cls ≠ "java/lang/invoke/MethodHandle" ∧ md.1.cls ≠ "java/lang/invoke/VarHandle") ∧ (parseMethodDescriptor md.1.desc).map (fun d => d.parameters.length) = some n
theorem zgood {md md' : zMd} (h : Cond.code md'.1 md'.2.1 md'.2.2.1 md'.2.2.2 ∈ zWS) : GoodIn (zws md) (zws md') := fun w hw => (List.mem_cons.mp hw).elim (fun e => by subst e; exact ⟨List.mem_cons_of_mem _ h, zWS_good _ h⟩) (fun h => ⟨List.mem_cons_of_mem _ h, zWS_good w h⟩)
def RD : String := "RegionDesk$Draft"
def TD : u_T := fun k => match k with
  | 0 => ("RegionDesk$Draft", "as", "[J", true)
  | 1 => ("RegionDesk$Draft", "bs", "[J", true)
  | 2 => ("RegionDesk$Draft", "cs", "[J", true)
  | 3 => ("RegionDesk$Draft", "stricts", "[Z", true)
  | 4 => ("RegionDesk$Draft", "span", "LRegionDesk$Span;", true)
  | _ => ("RegionDesk$Draft", "size", "I", false)
def tyD : Nat → FieldType := fun k => match k with
  | 0 => .array .long
  | 1 => .array .long
  | 2 => .array .long
  | 3 => .array .boolean
  | 4 => .object "RegionDesk$Span"
  | _ => .int
theorem nmD : ∀ a, a < 6 → ∀ b, b < 6 → a ≠ b → (TD a).2.1 ≠ (TD b).2.1 := by decide +kernel
theorem okD : ∀ k, k < 6 → parseFieldDescriptor (TD k).2.2.1 = some (tyD k) := by decide +kernel
theorem inD : ∀ w ∈ u_ws RD TD 6, w ∈ zWS := by
  have h : ∀ k, k < 6 → u_lay RD TD k ∈ zWS := by
    intro k hk
    match k, hk with
    | 0, _ => exact zin 57 (by decide +kernel) (by decide +kernel)
    | 1, _ => exact zin 59 (by decide +kernel) (by decide +kernel)
    | 2, _ => exact zin 61 (by decide +kernel) (by decide +kernel)
    | 3, _ => exact zin 63 (by decide +kernel) (by decide +kernel)
    | 4, _ => exact zin 65 (by decide +kernel) (by decide +kernel)
    | 5, _ => exact zin 67 (by decide +kernel) (by decide +kernel)
    | n + 6, h => omega
  intro w hw
  obtain ⟨k, hk, rfl⟩ := List.mem_map.mp hw
  exact h k (List.mem_range.mp hk)
def RI : String := "RegionDesk$Infimum"
def TI : u_T := fun k => match k with
  | 0 => ("RegionDesk$Infimum", "top", "J", false)
  | 1 => ("RegionDesk$Infimum", "base", "J", false)
  | 2 => ("RegionDesk$Infimum", "taken", "Z", false)
  | 3 => ("RegionDesk$Infimum", "rowTop", "J", false)
  | 4 => ("RegionDesk$Infimum", "rowBase", "J", false)
  | _ => ("RegionDesk$Infimum", "rowTaken", "Z", false)
def tyI : Nat → FieldType := fun k => match k with
  | 0 => .long
  | 1 => .long
  | 2 => .boolean
  | 3 => .long
  | 4 => .long
  | _ => .boolean
theorem nmI : ∀ a, a < 6 → ∀ b, b < 6 → a ≠ b → (TI a).2.1 ≠ (TI b).2.1 := by decide +kernel
theorem okI : ∀ k, k < 6 → parseFieldDescriptor (TI k).2.2.1 = some (tyI k) := by decide +kernel
theorem inI : ∀ w ∈ u_ws RI TI 6, w ∈ zWS := by
  have h : ∀ k, k < 6 → u_lay RI TI k ∈ zWS := by
    intro k hk
    match k, hk with
    | 0, _ => exact zin 120 (by decide +kernel) (by decide +kernel)
    | 1, _ => exact zin 122 (by decide +kernel) (by decide +kernel)
    | 2, _ => exact zin 124 (by decide +kernel) (by decide +kernel)
    | 3, _ => exact zin 126 (by decide +kernel) (by decide +kernel)
    | 4, _ => exact zin 128 (by decide +kernel) (by decide +kernel)
    | 5, _ => exact zin 130 (by decide +kernel) (by decide +kernel)
    | n + 6, h => omega
  intro w hw
  obtain ⟨k, hk, rfl⟩ := List.mem_map.mp hw
  exact h k (List.mem_range.mp hk)
def RR : String := "RegionDesk$Region"
def TR : u_T := fun k => match k with
  | 0 => ("RegionDesk$Region", "sizes", "[I", true)
  | 1 => ("RegionDesk$Region", "numbers", "[I", true)
  | _ => ("RegionDesk$Region", "count", "I", false)
def tyR : Nat → FieldType := fun k => match k with
  | 0 => .array .int
  | 1 => .array .int
  | _ => .int
theorem nmR : ∀ a, a < 3 → ∀ b, b < 3 → a ≠ b → (TR a).2.1 ≠ (TR b).2.1 := by decide +kernel
theorem okR : ∀ k, k < 3 → parseFieldDescriptor (TR k).2.2.1 = some (tyR k) := by decide +kernel
theorem inR : ∀ w ∈ u_ws RR TR 3, w ∈ zWS := by
  have h : ∀ k, k < 3 → u_lay RR TR k ∈ zWS := by
    intro k hk
    match k, hk with
    | 0, _ => exact zin 87 (by decide +kernel) (by decide +kernel)
    | 1, _ => exact zin 89 (by decide +kernel) (by decide +kernel)
    | 2, _ => exact zin 91 (by decide +kernel) (by decide +kernel)
    | n + 3, h => omega
  intro w hw
  obtain ⟨k, hk, rfl⟩ := List.mem_map.mp hw
  exact h k (List.mem_range.mp hk)
def RS : String := "RegionDesk$Span"
def TS : u_T := fun k => match k with
  | 0 => ("RegionDesk$Span", "tops", "[J", true)
  | 1 => ("RegionDesk$Span", "bases", "[J", true)
  | _ => ("RegionDesk$Span", "stricts", "[Z", true)
def tyS : Nat → FieldType := fun k => match k with
  | 0 => .array .long
  | 1 => .array .long
  | _ => .array .boolean
theorem nmS : ∀ a, a < 3 → ∀ b, b < 3 → a ≠ b → (TS a).2.1 ≠ (TS b).2.1 := by decide +kernel
theorem okS : ∀ k, k < 3 → parseFieldDescriptor (TS k).2.2.1 = some (tyS k) := by decide +kernel
theorem inS : ∀ w ∈ u_ws RS TS 3, w ∈ zWS := by
  have h : ∀ k, k < 3 → u_lay RS TS k ∈ zWS := by
    intro k hk
    match k, hk with
    | 0, _ => exact zin 42 (by decide +kernel) (by decide +kernel)
    | 1, _ => exact zin 44 (by decide +kernel) (by decide +kernel)
    | 2, _ => exact zin 46 (by decide +kernel) (by decide +kernel)
    | n + 3, h => omega
  intro w hw
  obtain ⟨k, hk, rfl⟩ := List.mem_map.mp hw
  exact h k (List.mem_range.mp hk)
def RW : String := "RegionDesk$Workshop"
def TW : u_T := fun k => match k with
  | 0 => ("RegionDesk$Workshop", "draft", "LRegionDesk$Draft;", true)
  | 1 => ("RegionDesk$Workshop", "pieces", "LRegionDesk$Region;", true)
  | 2 => ("RegionDesk$Workshop", "result", "LRegionDesk$Region;", false)
  | _ => ("RegionDesk$Workshop", "previous", "LRegionDesk$Region;", false)
def tyW : Nat → FieldType := fun k => match k with
  | 0 => .object "RegionDesk$Draft"
  | 1 => .object "RegionDesk$Region"
  | 2 => .object "RegionDesk$Region"
  | _ => .object "RegionDesk$Region"
theorem nmW : ∀ a, a < 4 → ∀ b, b < 4 → a ≠ b → (TW a).2.1 ≠ (TW b).2.1 := by decide +kernel
theorem okW : ∀ k, k < 4 → parseFieldDescriptor (TW k).2.2.1 = some (tyW k) := by decide +kernel
theorem inW : ∀ w ∈ u_ws RW TW 4, w ∈ zWS := by
  have h : ∀ k, k < 4 → u_lay RW TW k ∈ zWS := by
    intro k hk
    match k, hk with
    | 0, _ => exact zin 99 (by decide +kernel) (by decide +kernel)
    | 1, _ => exact zin 101 (by decide +kernel) (by decide +kernel)
    | 2, _ => exact zin 103 (by decide +kernel) (by decide +kernel)
    | 3, _ => exact zin 105 (by decide +kernel) (by decide +kernel)
    | n + 4, h => omega
  intro w hw
  obtain ⟨k, hk, rfl⟩ := List.mem_map.mp hw
  exact h k (List.mem_range.mp hk)
def RK : String := "RegionDesk"
def TK : u_T := fun k => match k with
  | 0 => ("RegionDesk", "stack", "[LRegionDesk$Region;", true)
  | 1 => ("RegionDesk", "tables", "[LRegionDesk$Region;", true)
  | 2 => ("RegionDesk", "collected", "LRegionDesk$Draft;", true)
  | 3 => ("RegionDesk", "workshop", "LRegionDesk$Workshop;", true)
  | 4 => ("RegionDesk", "infimum", "LRegionDesk$Infimum;", true)
  | 5 => ("RegionDesk", "height", "I", false)
  | _ => ("RegionDesk", "collectedCount", "I", false)
def tyK : Nat → FieldType := fun k => match k with
  | 0 => .array (.object "RegionDesk$Region")
  | 1 => .array (.object "RegionDesk$Region")
  | 2 => .object "RegionDesk$Draft"
  | 3 => .object "RegionDesk$Workshop"
  | 4 => .object "RegionDesk$Infimum"
  | 5 => .int
  | _ => .int
theorem nmK : ∀ a, a < 7 → ∀ b, b < 7 → a ≠ b → (TK a).2.1 ≠ (TK b).2.1 := by decide +kernel
theorem okK : ∀ k, k < 7 → parseFieldDescriptor (TK k).2.2.1 = some (tyK k) := by decide +kernel
theorem inK : ∀ w ∈ u_ws RK TK 7, w ∈ zWS := by
  have h : ∀ k, k < 7 → u_lay RK TK k ∈ zWS := by
    intro k hk
    match k, hk with
    | 0, _ => exact zin 141 (by decide +kernel) (by decide +kernel)
    | 1, _ => exact zin 143 (by decide +kernel) (by decide +kernel)
    | 2, _ => exact zin 145 (by decide +kernel) (by decide +kernel)
    | 3, _ => exact zin 147 (by decide +kernel) (by decide +kernel)
    | 4, _ => exact zin 149 (by decide +kernel) (by decide +kernel)
    | 5, _ => exact zin 151 (by decide +kernel) (by decide +kernel)
    | 6, _ => exact zin 153 (by decide +kernel) (by decide +kernel)
    | n + 7, h => omega
  intro w hw
  obtain ⟨k, hk, rfl⟩ := List.mem_map.mp hw
  exact h k (List.mem_range.mp hk)
def RM : String := "RegionDeskModel"
def TM : u_T := fun k => match k with
  | 0 => ("RegionDeskModel", "code", "I", false)
  | 1 => ("RegionDeskModel", "rows", "[I", true)
  | 2 => ("RegionDeskModel", "counts", "[I", true)
  | 3 => ("RegionDeskModel", "numberA", "[I", true)
  | 4 => ("RegionDeskModel", "numberB", "[I", true)
  | 5 => ("RegionDeskModel", "numberC", "[I", true)
  | 6 => ("RegionDeskModel", "strictly", "[Z", true)
  | 7 => ("RegionDeskModel", "pile", "I", false)
  | 8 => ("RegionDeskModel", "collected", "I", false)
  | 9 => ("RegionDeskModel", "nextA", "[I", true)
  | 10 => ("RegionDeskModel", "nextB", "[I", true)
  | 11 => ("RegionDeskModel", "nextC", "[I", true)
  | 12 => ("RegionDeskModel", "nextStrict", "[Z", true)
  | 13 => ("RegionDeskModel", "many", "I", false)
  | 14 => ("RegionDeskModel", "never", "Z", false)
  | 15 => ("RegionDeskModel", "a", "[J", true)
  | 16 => ("RegionDeskModel", "b", "[J", true)
  | 17 => ("RegionDeskModel", "c", "[J", true)
  | 18 => ("RegionDeskModel", "s", "[Z", true)
  | 19 => ("RegionDeskModel", "asked", "I", false)
  | 20 => ("RegionDeskModel", "qa", "[J", true)
  | 21 => ("RegionDeskModel", "qb", "[J", true)
  | 22 => ("RegionDeskModel", "qc", "[J", true)
  | 23 => ("RegionDeskModel", "qs", "[Z", true)
  | 24 => ("RegionDeskModel", "passed", "Z", false)
  | 25 => ("RegionDeskModel", "answer", "I", false)
  | 26 => ("RegionDeskModel", "above", "J", false)
  | 27 => ("RegionDeskModel", "below", "J", false)
  | 28 => ("RegionDeskModel", "told", "Z", false)
  | 29 => ("RegionDeskModel", "cornerX", "J", false)
  | 30 => ("RegionDeskModel", "cornerY", "J", false)
  | 31 => ("RegionDeskModel", "cornerD", "J", false)
  | 32 => ("RegionDeskModel", "wayX", "J", false)
  | 33 => ("RegionDeskModel", "wayY", "J", false)
  | 34 => ("RegionDeskModel", "lowN", "J", false)
  | 35 => ("RegionDeskModel", "lowD", "J", false)
  | 36 => ("RegionDeskModel", "lowStrict", "Z", false)
  | 37 => ("RegionDeskModel", "highN", "J", false)
  | 38 => ("RegionDeskModel", "highD", "J", false)
  | 39 => ("RegionDeskModel", "highStrict", "Z", false)
  | 40 => ("RegionDeskModel", "bounded", "Z", false)
  | 41 => ("RegionDeskModel", "taken", "Z", false)
  | 42 => ("RegionDeskModel", "infN", "J", false)
  | _ => ("RegionDeskModel", "infD", "J", false)
def tyM : Nat → FieldType := fun k => match k with
  | 0 => .int
  | 1 => .array .int
  | 2 => .array .int
  | 3 => .array .int
  | 4 => .array .int
  | 5 => .array .int
  | 6 => .array .boolean
  | 7 => .int
  | 8 => .int
  | 9 => .array .int
  | 10 => .array .int
  | 11 => .array .int
  | 12 => .array .boolean
  | 13 => .int
  | 14 => .boolean
  | 15 => .array .long
  | 16 => .array .long
  | 17 => .array .long
  | 18 => .array .boolean
  | 19 => .int
  | 20 => .array .long
  | 21 => .array .long
  | 22 => .array .long
  | 23 => .array .boolean
  | 24 => .boolean
  | 25 => .int
  | 26 => .long
  | 27 => .long
  | 28 => .boolean
  | 29 => .long
  | 30 => .long
  | 31 => .long
  | 32 => .long
  | 33 => .long
  | 34 => .long
  | 35 => .long
  | 36 => .boolean
  | 37 => .long
  | 38 => .long
  | 39 => .boolean
  | 40 => .boolean
  | 41 => .boolean
  | 42 => .long
  | _ => .long
theorem nmM : ∀ a, a < 44 → ∀ b, b < 44 → a ≠ b → (TM a).2.1 ≠ (TM b).2.1 := by decide +kernel
theorem okM : ∀ k, k < 44 → parseFieldDescriptor (TM k).2.2.1 = some (tyM k) := by decide +kernel
theorem inM : ∀ w ∈ u_ws RM TM 44, w ∈ zWS := by
  have h : ∀ k, k < 44 → u_lay RM TM k ∈ zWS := by
    intro k hk
    match k, hk with
    | 0, _ => exact zin 721 (by decide +kernel) (by decide +kernel)
    | 1, _ => exact zin 723 (by decide +kernel) (by decide +kernel)
    | 2, _ => exact zin 725 (by decide +kernel) (by decide +kernel)
    | 3, _ => exact zin 727 (by decide +kernel) (by decide +kernel)
    | 4, _ => exact zin 729 (by decide +kernel) (by decide +kernel)
    | 5, _ => exact zin 731 (by decide +kernel) (by decide +kernel)
    | 6, _ => exact zin 733 (by decide +kernel) (by decide +kernel)
    | 7, _ => exact zin 735 (by decide +kernel) (by decide +kernel)
    | 8, _ => exact zin 737 (by decide +kernel) (by decide +kernel)
    | 9, _ => exact zin 739 (by decide +kernel) (by decide +kernel)
    | 10, _ => exact zin 741 (by decide +kernel) (by decide +kernel)
    | 11, _ => exact zin 743 (by decide +kernel) (by decide +kernel)
    | 12, _ => exact zin 745 (by decide +kernel) (by decide +kernel)
    | 13, _ => exact zin 747 (by decide +kernel) (by decide +kernel)
    | 14, _ => exact zin 749 (by decide +kernel) (by decide +kernel)
    | 15, _ => exact zin 751 (by decide +kernel) (by decide +kernel)
    | 16, _ => exact zin 753 (by decide +kernel) (by decide +kernel)
    | 17, _ => exact zin 755 (by decide +kernel) (by decide +kernel)
    | 18, _ => exact zin 757 (by decide +kernel) (by decide +kernel)
    | 19, _ => exact zin 759 (by decide +kernel) (by decide +kernel)
    | 20, _ => exact zin 761 (by decide +kernel) (by decide +kernel)
    | 21, _ => exact zin 763 (by decide +kernel) (by decide +kernel)
    | 22, _ => exact zin 765 (by decide +kernel) (by decide +kernel)
    | 23, _ => exact zin 767 (by decide +kernel) (by decide +kernel)
    | 24, _ => exact zin 769 (by decide +kernel) (by decide +kernel)
    | 25, _ => exact zin 771 (by decide +kernel) (by decide +kernel)
    | 26, _ => exact zin 773 (by decide +kernel) (by decide +kernel)
    | 27, _ => exact zin 775 (by decide +kernel) (by decide +kernel)
    | 28, _ => exact zin 777 (by decide +kernel) (by decide +kernel)
    | 29, _ => exact zin 779 (by decide +kernel) (by decide +kernel)
    | 30, _ => exact zin 781 (by decide +kernel) (by decide +kernel)
    | 31, _ => exact zin 783 (by decide +kernel) (by decide +kernel)
    | 32, _ => exact zin 785 (by decide +kernel) (by decide +kernel)
    | 33, _ => exact zin 787 (by decide +kernel) (by decide +kernel)
    | 34, _ => exact zin 789 (by decide +kernel) (by decide +kernel)
    | 35, _ => exact zin 791 (by decide +kernel) (by decide +kernel)
    | 36, _ => exact zin 793 (by decide +kernel) (by decide +kernel)
    | 37, _ => exact zin 795 (by decide +kernel) (by decide +kernel)
    | 38, _ => exact zin 797 (by decide +kernel) (by decide +kernel)
    | 39, _ => exact zin 799 (by decide +kernel) (by decide +kernel)
    | 40, _ => exact zin 801 (by decide +kernel) (by decide +kernel)
    | 41, _ => exact zin 803 (by decide +kernel) (by decide +kernel)
    | 42, _ => exact zin 805 (by decide +kernel) (by decide +kernel)
    | 43, _ => exact zin 807 (by decide +kernel) (by decide +kernel)
    | n + 44, h => omega
  intro w hw
  obtain ⟨k, hk, rfl⟩ := List.mem_map.mp hw
  exact h k (List.mem_range.mp hk)
abbrev vwCl : List vw_C := [(RD, TD, 6), (RI, TI, 6), (RR, TR, 3), (RS, TS, 3), (RW, TW, 4), (RK, TK, 7), (RM, TM, 44)]
/-! places -/
def zNP : Nat := 82
def zlayL : List (Nat × Nat) := [(0, 5), (4, 6), (4, 4), (0, 0), (2, 36), (2, 36), (2, 36), (3, 36), (0, 3), (2, 2), (2, 2), (3, 2), (0, 4), (0, 0), (2, 36), (2, 36), (2, 36), (3, 36), (0, 3), (2, 2), (2, 2), (3, 2), (0, 2), (1, 12), (1, 576), (0, 2), (1, 12), (1, 576), (0, 2), (1, 12), (1, 576), (0, 1), (0, 2), (1, 12), (1, 576), (0, 2), (1, 12), (1, 576), (0, 2), (1, 12), (1, 576), (0, 2), (1, 12), (1, 576), (0, 2), (1, 12), (1, 576), (0, 2), (1, 12), (1, 576), (0, 2), (1, 12), (1, 576), (0, 2), (1, 12), (1, 576), (0, 2), (1, 12), (1, 576), (0, 2), (1, 12), (1, 576), (0, 6), (1, 14), (1, 168), (1, 2016), (1, 2016), (1, 2016), (3, 2016), (1, 12), (1, 12), (1, 12), (3, 12), (2, 80), (2, 80), (2, 80), (3, 80), (2, 80), (2, 80), (2, 80), (3, 80), (2, 1)]
def zlay (k : Nat) : Nat × Nat := zlayL.getD k (9, 0)
def ztyl (ci : Nat) : List Nat := match ci with
  | 0 => [4, 5, 6, 7, 8, 0]
  | 1 => [1, 1, 0, 1, 1, 0]
  | 2 => [4, 5, 0]
  | 3 => [4, 5, 6]
  | 4 => [4, 13, 2, 2]
  | 5 => [4, 5, 6, 15, 34, 0, 0]
  | _ => [0, 4, 5, 6, 7, 8, 9, 0, 0, 10, 11, 12, 13, 0, 0, 14, 15, 16, 17, 0, 18, 19, 20, 21, 0, 0, 1, 1, 0, 1, 1, 1, 1, 1, 1, 1, 0, 1, 1, 0, 0, 0, 1, 1]
def zel (k j : Nat) : Nat := if k = 1 then 32 + 3 * j else 50 + 3 * j
def zRegion : String := "RegionDesk$Region"
end
section
/-! the tables' words on fields and methods -/
theorem jfK_11 : Cond.fieldLink RK 11 RK (TK 0).2.1 (TK 0).2.2.1 ∈ zWS := zin 134 (by decide +kernel) (by decide +kernel)
theorem jfK_15 : Cond.fieldLink RK 15 RK (TK 1).2.1 (TK 1).2.2.1 ∈ zWS := zin 135 (by decide +kernel) (by decide +kernel)
theorem jfK_21 : Cond.fieldLink RK 21 RK (TK 2).2.1 (TK 2).2.2.1 ∈ zWS := zin 136 (by decide +kernel) (by decide +kernel)
theorem jfK_28 : Cond.fieldLink RK 28 RK (TK 3).2.1 (TK 3).2.2.1 ∈ zWS := zin 137 (by decide +kernel) (by decide +kernel)
theorem jfK_35 : Cond.fieldLink RK 35 RK (TK 4).2.1 (TK 4).2.2.1 ∈ zWS := zin 138 (by decide +kernel) (by decide +kernel)
theorem jfK_55 : Cond.fieldLink RK 55 RK (TK 6).2.1 (TK 6).2.2.1 ∈ zWS := zin 140 (by decide +kernel) (by decide +kernel)
theorem jfK_71 : Cond.fieldLink RK 71 RK (TK 5).2.1 (TK 5).2.2.1 ∈ zWS := zin 139 (by decide +kernel) (by decide +kernel)
theorem jfD_11 : Cond.fieldLink RD 11 RD (TD 0).2.1 (TD 0).2.2.1 ∈ zWS := zin 51 (by decide +kernel) (by decide +kernel)
theorem jfD_15 : Cond.fieldLink RD 15 RD (TD 1).2.1 (TD 1).2.2.1 ∈ zWS := zin 52 (by decide +kernel) (by decide +kernel)
theorem jfD_18 : Cond.fieldLink RD 18 RD (TD 2).2.1 (TD 2).2.2.1 ∈ zWS := zin 53 (by decide +kernel) (by decide +kernel)
theorem jfD_21 : Cond.fieldLink RD 21 RD (TD 3).2.1 (TD 3).2.2.1 ∈ zWS := zin 54 (by decide +kernel) (by decide +kernel)
theorem jfD_28 : Cond.fieldLink RD 28 RD (TD 4).2.1 (TD 4).2.2.1 ∈ zWS := zin 55 (by decide +kernel) (by decide +kernel)
theorem jfD_32 : Cond.fieldLink RD 32 RD (TD 5).2.1 (TD 5).2.2.1 ∈ zWS := zin 56 (by decide +kernel) (by decide +kernel)
theorem jfI_9 : Cond.fieldLink RI 9 RI (TI 0).2.1 (TI 0).2.2.1 ∈ zWS := zin 114 (by decide +kernel) (by decide +kernel)
theorem jfI_15 : Cond.fieldLink RI 15 RI (TI 1).2.1 (TI 1).2.2.1 ∈ zWS := zin 115 (by decide +kernel) (by decide +kernel)
theorem jfI_31 : Cond.fieldLink RI 31 RI (TI 4).2.1 (TI 4).2.2.1 ∈ zWS := zin 118 (by decide +kernel) (by decide +kernel)
theorem jfI_40 : Cond.fieldLink RI 40 RI (TI 2).2.1 (TI 2).2.2.1 ∈ zWS := zin 116 (by decide +kernel) (by decide +kernel)
theorem jfI_44 : Cond.fieldLink RI 44 RI (TI 3).2.1 (TI 3).2.2.1 ∈ zWS := zin 117 (by decide +kernel) (by decide +kernel)
theorem jfI_47 : Cond.fieldLink RI 47 RI (TI 5).2.1 (TI 5).2.2.1 ∈ zWS := zin 119 (by decide +kernel) (by decide +kernel)
theorem jfR_11 : Cond.fieldLink RR 11 RR (TR 0).2.1 (TR 0).2.2.1 ∈ zWS := zin 84 (by decide +kernel) (by decide +kernel)
theorem jfR_15 : Cond.fieldLink RR 15 RR (TR 1).2.1 (TR 1).2.2.1 ∈ zWS := zin 85 (by decide +kernel) (by decide +kernel)
theorem jfR_18 : Cond.fieldLink RR 18 RR (TR 2).2.1 (TR 2).2.2.1 ∈ zWS := zin 86 (by decide +kernel) (by decide +kernel)
theorem jfS_7 : Cond.fieldLink RS 7 RS (TS 0).2.1 (TS 0).2.2.1 ∈ zWS := zin 39 (by decide +kernel) (by decide +kernel)
theorem jfS_13 : Cond.fieldLink RS 13 RS (TS 1).2.1 (TS 1).2.2.1 ∈ zWS := zin 40 (by decide +kernel) (by decide +kernel)
theorem jfS_16 : Cond.fieldLink RS 16 RS (TS 2).2.1 (TS 2).2.2.1 ∈ zWS := zin 41 (by decide +kernel) (by decide +kernel)
theorem jfW_10 : Cond.fieldLink RW 10 RW (TW 0).2.1 (TW 0).2.2.1 ∈ zWS := zin 95 (by decide +kernel) (by decide +kernel)
theorem jfW_19 : Cond.fieldLink RW 19 RW (TW 1).2.1 (TW 1).2.2.1 ∈ zWS := zin 96 (by decide +kernel) (by decide +kernel)
theorem jfW_23 : Cond.fieldLink RW 23 RW (TW 2).2.1 (TW 2).2.2.1 ∈ zWS := zin 97 (by decide +kernel) (by decide +kernel)
theorem jfW_26 : Cond.fieldLink RW 26 RW (TW 3).2.1 (TW 3).2.2.1 ∈ zWS := zin 98 (by decide +kernel) (by decide +kernel)
theorem jfM_7 : Cond.fieldLink RM 7 RM (TM 1).2.1 (TM 1).2.2.1 ∈ zWS := zin 678 (by decide +kernel) (by decide +kernel)
theorem jfM_13 : Cond.fieldLink RM 13 RM (TM 2).2.1 (TM 2).2.2.1 ∈ zWS := zin 679 (by decide +kernel) (by decide +kernel)
theorem jfM_16 : Cond.fieldLink RM 16 RM (TM 3).2.1 (TM 3).2.2.1 ∈ zWS := zin 680 (by decide +kernel) (by decide +kernel)
theorem jfM_19 : Cond.fieldLink RM 19 RM (TM 4).2.1 (TM 4).2.2.1 ∈ zWS := zin 681 (by decide +kernel) (by decide +kernel)
theorem jfM_22 : Cond.fieldLink RM 22 RM (TM 5).2.1 (TM 5).2.2.1 ∈ zWS := zin 682 (by decide +kernel) (by decide +kernel)
theorem jfM_25 : Cond.fieldLink RM 25 RM (TM 6).2.1 (TM 6).2.2.1 ∈ zWS := zin 683 (by decide +kernel) (by decide +kernel)
theorem jfM_29 : Cond.fieldLink RM 29 RM (TM 9).2.1 (TM 9).2.2.1 ∈ zWS := zin 686 (by decide +kernel) (by decide +kernel)
theorem jfM_32 : Cond.fieldLink RM 32 RM (TM 10).2.1 (TM 10).2.2.1 ∈ zWS := zin 687 (by decide +kernel) (by decide +kernel)
theorem jfM_35 : Cond.fieldLink RM 35 RM (TM 11).2.1 (TM 11).2.2.1 ∈ zWS := zin 688 (by decide +kernel) (by decide +kernel)
theorem jfM_38 : Cond.fieldLink RM 38 RM (TM 12).2.1 (TM 12).2.2.1 ∈ zWS := zin 689 (by decide +kernel) (by decide +kernel)
theorem jfM_41 : Cond.fieldLink RM 41 RM (TM 15).2.1 (TM 15).2.2.1 ∈ zWS := zin 692 (by decide +kernel) (by decide +kernel)
theorem jfM_45 : Cond.fieldLink RM 45 RM (TM 16).2.1 (TM 16).2.2.1 ∈ zWS := zin 693 (by decide +kernel) (by decide +kernel)
theorem jfM_48 : Cond.fieldLink RM 48 RM (TM 17).2.1 (TM 17).2.2.1 ∈ zWS := zin 694 (by decide +kernel) (by decide +kernel)
theorem jfM_51 : Cond.fieldLink RM 51 RM (TM 18).2.1 (TM 18).2.2.1 ∈ zWS := zin 695 (by decide +kernel) (by decide +kernel)
theorem jfM_54 : Cond.fieldLink RM 54 RM (TM 20).2.1 (TM 20).2.2.1 ∈ zWS := zin 697 (by decide +kernel) (by decide +kernel)
theorem jfM_57 : Cond.fieldLink RM 57 RM (TM 21).2.1 (TM 21).2.2.1 ∈ zWS := zin 698 (by decide +kernel) (by decide +kernel)
theorem jfM_60 : Cond.fieldLink RM 60 RM (TM 22).2.1 (TM 22).2.2.1 ∈ zWS := zin 699 (by decide +kernel) (by decide +kernel)
theorem jfM_63 : Cond.fieldLink RM 63 RM (TM 23).2.1 (TM 23).2.2.1 ∈ zWS := zin 700 (by decide +kernel) (by decide +kernel)
theorem jfM_66 : Cond.fieldLink RM 66 RM (TM 0).2.1 (TM 0).2.2.1 ∈ zWS := zin 677 (by decide +kernel) (by decide +kernel)
theorem jfM_70 : Cond.fieldLink RM 70 RM (TM 13).2.1 (TM 13).2.2.1 ∈ zWS := zin 690 (by decide +kernel) (by decide +kernel)
theorem jfM_73 : Cond.fieldLink RM 73 RM (TM 19).2.1 (TM 19).2.2.1 ∈ zWS := zin 696 (by decide +kernel) (by decide +kernel)
theorem jfM_82 : Cond.fieldLink RM 82 RM (TM 31).2.1 (TM 31).2.2.1 ∈ zWS := zin 708 (by decide +kernel) (by decide +kernel)
theorem jfM_86 : Cond.fieldLink RM 86 RM (TM 29).2.1 (TM 29).2.2.1 ∈ zWS := zin 706 (by decide +kernel) (by decide +kernel)
theorem jfM_89 : Cond.fieldLink RM 89 RM (TM 30).2.1 (TM 30).2.2.1 ∈ zWS := zin 707 (by decide +kernel) (by decide +kernel)
theorem jfM_92 : Cond.fieldLink RM 92 RM (TM 32).2.1 (TM 32).2.2.1 ∈ zWS := zin 709 (by decide +kernel) (by decide +kernel)
theorem jfM_95 : Cond.fieldLink RM 95 RM (TM 33).2.1 (TM 33).2.2.1 ∈ zWS := zin 710 (by decide +kernel) (by decide +kernel)
theorem jfM_123 : Cond.fieldLink RM 123 RM (TM 35).2.1 (TM 35).2.2.1 ∈ zWS := zin 712 (by decide +kernel) (by decide +kernel)
theorem jfM_126 : Cond.fieldLink RM 126 RM (TM 38).2.1 (TM 38).2.2.1 ∈ zWS := zin 715 (by decide +kernel) (by decide +kernel)
theorem jfM_129 : Cond.fieldLink RM 129 RM (TM 37).2.1 (TM 37).2.2.1 ∈ zWS := zin 714 (by decide +kernel) (by decide +kernel)
theorem jfM_136 : Cond.fieldLink RM 136 RM (TM 39).2.1 (TM 39).2.2.1 ∈ zWS := zin 716 (by decide +kernel) (by decide +kernel)
theorem jfM_140 : Cond.fieldLink RM 140 RM (TM 34).2.1 (TM 34).2.2.1 ∈ zWS := zin 711 (by decide +kernel) (by decide +kernel)
theorem jfM_143 : Cond.fieldLink RM 143 RM (TM 36).2.1 (TM 36).2.2.1 ∈ zWS := zin 713 (by decide +kernel) (by decide +kernel)
theorem jfM_146 : Cond.fieldLink RM 146 RM (TM 14).2.1 (TM 14).2.2.1 ∈ zWS := zin 691 (by decide +kernel) (by decide +kernel)
theorem jfM_181 : Cond.fieldLink RM 181 RM (TM 24).2.1 (TM 24).2.2.1 ∈ zWS := zin 701 (by decide +kernel) (by decide +kernel)
theorem jfM_217 : Cond.fieldLink RM 217 RM (TM 8).2.1 (TM 8).2.2.1 ∈ zWS := zin 685 (by decide +kernel) (by decide +kernel)
theorem jfM_220 : Cond.fieldLink RM 220 RM (TM 7).2.1 (TM 7).2.2.1 ∈ zWS := zin 684 (by decide +kernel) (by decide +kernel)
theorem jfM_233 : Cond.fieldLink RM 233 RM (TM 40).2.1 (TM 40).2.2.1 ∈ zWS := zin 717 (by decide +kernel) (by decide +kernel)
theorem jfM_236 : Cond.fieldLink RM 236 RM (TM 41).2.1 (TM 41).2.2.1 ∈ zWS := zin 718 (by decide +kernel) (by decide +kernel)
theorem jfM_239 : Cond.fieldLink RM 239 RM (TM 42).2.1 (TM 42).2.2.1 ∈ zWS := zin 719 (by decide +kernel) (by decide +kernel)
theorem jfM_242 : Cond.fieldLink RM 242 RM (TM 43).2.1 (TM 43).2.2.1 ∈ zWS := zin 720 (by decide +kernel) (by decide +kernel)
theorem jfM_245 : Cond.fieldLink RM 245 RM (TM 25).2.1 (TM 25).2.2.1 ∈ zWS := zin 702 (by decide +kernel) (by decide +kernel)
theorem jfM_248 : Cond.fieldLink RM 248 RM (TM 28).2.1 (TM 28).2.2.1 ∈ zWS := zin 705 (by decide +kernel) (by decide +kernel)
theorem jfM_258 : Cond.fieldLink RM 258 RM (TM 26).2.1 (TM 26).2.2.1 ∈ zWS := zin 703 (by decide +kernel) (by decide +kernel)
theorem jfM_261 : Cond.fieldLink RM 261 RM (TM 27).2.1 (TM 27).2.2.1 ∈ zWS := zin 704 (by decide +kernel) (by decide +kernel)
abbrev cK_init : ByteArray := prog_1_method_1_code
def yK_init : MethodName := ⟨RK, "<init>", "()V"⟩
def mK_init : zMd := (yK_init, cK_init, 2, none)
set_option maxRecDepth 20000 in
theorem kK_init : zKn mK_init 0 := ⟨zin 21 rfl rfl, zin 1 (by decide +kernel) (by decide +kernel), ⟨by decide +kernel, by decide +kernel⟩, by decide +kernel⟩
theorem kiK_init : Cond.instanceMethod yK_init ∈ zWS := zin 20 (by decide +kernel) (by decide +kernel)
def rK_init : Room := { frames := 4, cells := 0, slots := 0, locals := 54 }
abbrev cK_member : ByteArray := prog_1_method_2_code
def yK_member : MethodName := ⟨RK, "member", "(IIIZ)I"⟩
def mK_member : zMd := (yK_member, cK_member, 5, (some .int))
set_option maxRecDepth 20000 in
theorem kK_member : zKn mK_member 4 := ⟨zin 172 rfl rfl, zin 1 (by decide +kernel) (by decide +kernel), ⟨by decide +kernel, by decide +kernel⟩, by decide +kernel⟩
theorem kiK_member : Cond.instanceMethod yK_member ∈ zWS := zin 170 (by decide +kernel) (by decide +kernel)
theorem kvK_member : Cond.selects RK yK_member yK_member ∈ zWS := zin 171 (by decide +kernel) (by decide +kernel)
def rK_member : Room := { frames := 6, cells := 0, slots := 0, locals := 96 }
abbrev cK_row : ByteArray := prog_1_method_3_code
def yK_row : MethodName := ⟨RK, "row", "()I"⟩
def mK_row : zMd := (yK_row, cK_row, 2, (some .int))
set_option maxRecDepth 20000 in
theorem kK_row : zKn mK_row 0 := ⟨zin 291 rfl rfl, zin 1 (by decide +kernel) (by decide +kernel), ⟨by decide +kernel, by decide +kernel⟩, by decide +kernel⟩
theorem kiK_row : Cond.instanceMethod yK_row ∈ zWS := zin 289 (by decide +kernel) (by decide +kernel)
theorem kvK_row : Cond.selects RK yK_row yK_row ∈ zWS := zin 290 (by decide +kernel) (by decide +kernel)
def rK_row : Room := { frames := 7, cells := 0, slots := 0, locals := 108 }
abbrev cK_and : ByteArray := prog_1_method_4_code
def yK_and : MethodName := ⟨RK, "and", "()V"⟩
def mK_and : zMd := (yK_and, cK_and, 1, none)
set_option maxRecDepth 20000 in
theorem kK_and : zKn mK_and 0 := ⟨zin 395 rfl rfl, zin 1 (by decide +kernel) (by decide +kernel), ⟨by decide +kernel, by decide +kernel⟩, by decide +kernel⟩
theorem kiK_and : Cond.instanceMethod yK_and ∈ zWS := zin 393 (by decide +kernel) (by decide +kernel)
theorem kvK_and : Cond.selects RK yK_and yK_and ∈ zWS := zin 394 (by decide +kernel) (by decide +kernel)
def rK_and : Room := { frames := 7, cells := 0, slots := 0, locals := 109 }
abbrev cK_or : ByteArray := prog_1_method_5_code
def yK_or : MethodName := ⟨RK, "or", "()V"⟩
def mK_or : zMd := (yK_or, cK_or, 1, none)
set_option maxRecDepth 20000 in
theorem kK_or : zKn mK_or 0 := ⟨zin 457 rfl rfl, zin 1 (by decide +kernel) (by decide +kernel), ⟨by decide +kernel, by decide +kernel⟩, by decide +kernel⟩
theorem kiK_or : Cond.instanceMethod yK_or ∈ zWS := zin 455 (by decide +kernel) (by decide +kernel)
theorem kvK_or : Cond.selects RK yK_or yK_or ∈ zWS := zin 456 (by decide +kernel) (by decide +kernel)
def rK_or : Room := { frames := 7, cells := 0, slots := 0, locals := 109 }
abbrev cK_not : ByteArray := prog_1_method_6_code
def yK_not : MethodName := ⟨RK, "not", "()V"⟩
def mK_not : zMd := (yK_not, cK_not, 1, none)
set_option maxRecDepth 20000 in
theorem kK_not : zKn mK_not 0 := ⟨zin 469 rfl rfl, zin 1 (by decide +kernel) (by decide +kernel), ⟨by decide +kernel, by decide +kernel⟩, by decide +kernel⟩
theorem kiK_not : Cond.instanceMethod yK_not ∈ zWS := zin 467 (by decide +kernel) (by decide +kernel)
theorem kvK_not : Cond.selects RK yK_not yK_not ∈ zWS := zin 468 (by decide +kernel) (by decide +kernel)
def rK_not : Room := { frames := 7, cells := 0, slots := 0, locals := 109 }
abbrev cK_free : ByteArray := prog_1_method_7_code
def yK_free : MethodName := ⟨RK, "free", "(I)V"⟩
def mK_free : zMd := (yK_free, cK_free, 2, none)
set_option maxRecDepth 20000 in
theorem kK_free : zKn mK_free 1 := ⟨zin 493 rfl rfl, zin 1 (by decide +kernel) (by decide +kernel), ⟨by decide +kernel, by decide +kernel⟩, by decide +kernel⟩
theorem kiK_free : Cond.instanceMethod yK_free ∈ zWS := zin 491 (by decide +kernel) (by decide +kernel)
theorem kvK_free : Cond.selects RK yK_free yK_free ∈ zWS := zin 492 (by decide +kernel) (by decide +kernel)
def rK_free : Room := { frames := 7, cells := 0, slots := 0, locals := 109 }
abbrev cK_keep : ByteArray := prog_1_method_8_code
def yK_keep : MethodName := ⟨RK, "keep", "(I)V"⟩
def mK_keep : zMd := (yK_keep, cK_keep, 2, none)
set_option maxRecDepth 20000 in
theorem kK_keep : zKn mK_keep 1 := ⟨zin 517 rfl rfl, zin 1 (by decide +kernel) (by decide +kernel), ⟨by decide +kernel, by decide +kernel⟩, by decide +kernel⟩
theorem kiK_keep : Cond.instanceMethod yK_keep ∈ zWS := zin 515 (by decide +kernel) (by decide +kernel)
theorem kvK_keep : Cond.selects RK yK_keep yK_keep ∈ zWS := zin 516 (by decide +kernel) (by decide +kernel)
def rK_keep : Room := { frames := 7, cells := 0, slots := 0, locals := 109 }
abbrev cK_load : ByteArray := prog_1_method_9_code
def yK_load : MethodName := ⟨RK, "load", "(I)I"⟩
def mK_load : zMd := (yK_load, cK_load, 2, (some .int))
set_option maxRecDepth 20000 in
theorem kK_load : zKn mK_load 1 := ⟨zin 528 rfl rfl, zin 1 (by decide +kernel) (by decide +kernel), ⟨by decide +kernel, by decide +kernel⟩, by decide +kernel⟩
theorem kiK_load : Cond.instanceMethod yK_load ∈ zWS := zin 526 (by decide +kernel) (by decide +kernel)
theorem kvK_load : Cond.selects RK yK_load yK_load ∈ zWS := zin 527 (by decide +kernel) (by decide +kernel)
def rK_load : Room := { frames := 7, cells := 0, slots := 0, locals := 108 }
abbrev cK_drop : ByteArray := prog_1_method_10_code
def yK_drop : MethodName := ⟨RK, "drop", "()Z"⟩
def mK_drop : zMd := (yK_drop, cK_drop, 1, (some .boolean))
set_option maxRecDepth 20000 in
theorem kK_drop : zKn mK_drop 0 := ⟨zin 159 rfl rfl, zin 1 (by decide +kernel) (by decide +kernel), ⟨by decide +kernel, by decide +kernel⟩, by decide +kernel⟩
theorem kiK_drop : Cond.instanceMethod yK_drop ∈ zWS := zin 157 (by decide +kernel) (by decide +kernel)
theorem kvK_drop : Cond.selects RK yK_drop yK_drop ∈ zWS := zin 158 (by decide +kernel) (by decide +kernel)
def rK_drop : Room := { frames := 0, cells := 0, slots := 0, locals := 0 }
abbrev cK_pile : ByteArray := prog_1_method_11_code
def yK_pile : MethodName := ⟨RK, "pile", "()I"⟩
def mK_pile : zMd := (yK_pile, cK_pile, 1, (some .int))
set_option maxRecDepth 20000 in
theorem kK_pile : zKn mK_pile 0 := ⟨zin 163 rfl rfl, zin 1 (by decide +kernel) (by decide +kernel), ⟨by decide +kernel, by decide +kernel⟩, by decide +kernel⟩
theorem kiK_pile : Cond.instanceMethod yK_pile ∈ zWS := zin 161 (by decide +kernel) (by decide +kernel)
theorem kvK_pile : Cond.selects RK yK_pile yK_pile ∈ zWS := zin 162 (by decide +kernel) (by decide +kernel)
def rK_pile : Room := { frames := 0, cells := 0, slots := 0, locals := 0 }
abbrev cK_rows : ByteArray := prog_1_method_12_code
def yK_rows : MethodName := ⟨RK, "rows", "()I"⟩
def mK_rows : zMd := (yK_rows, cK_rows, 1, (some .int))
set_option maxRecDepth 20000 in
theorem kK_rows : zKn mK_rows 0 := ⟨zin 535 rfl rfl, zin 1 (by decide +kernel) (by decide +kernel), ⟨by decide +kernel, by decide +kernel⟩, by decide +kernel⟩
theorem kiK_rows : Cond.instanceMethod yK_rows ∈ zWS := zin 533 (by decide +kernel) (by decide +kernel)
theorem kvK_rows : Cond.selects RK yK_rows yK_rows ∈ zWS := zin 534 (by decide +kernel) (by decide +kernel)
def rK_rows : Room := { frames := 7, cells := 0, slots := 0, locals := 109 }
abbrev cK_members : ByteArray := prog_1_method_13_code
def yK_members : MethodName := ⟨RK, "members", "(I)I"⟩
def mK_members : zMd := (yK_members, cK_members, 2, (some .int))
set_option maxRecDepth 20000 in
theorem kK_members : zKn mK_members 1 := ⟨zin 544 rfl rfl, zin 1 (by decide +kernel) (by decide +kernel), ⟨by decide +kernel, by decide +kernel⟩, by decide +kernel⟩
theorem kiK_members : Cond.instanceMethod yK_members ∈ zWS := zin 542 (by decide +kernel) (by decide +kernel)
theorem kvK_members : Cond.selects RK yK_members yK_members ∈ zWS := zin 543 (by decide +kernel) (by decide +kernel)
def rK_members : Room := { frames := 7, cells := 0, slots := 0, locals := 109 }
abbrev cK_part : ByteArray := prog_1_method_14_code
def yK_part : MethodName := ⟨RK, "part", "(III)I"⟩
def mK_part : zMd := (yK_part, cK_part, 5, (some .int))
set_option maxRecDepth 20000 in
theorem kK_part : zKn mK_part 3 := ⟨zin 572 rfl rfl, zin 1 (by decide +kernel) (by decide +kernel), ⟨by decide +kernel, by decide +kernel⟩, by decide +kernel⟩
theorem kiK_part : Cond.instanceMethod yK_part ∈ zWS := zin 570 (by decide +kernel) (by decide +kernel)
theorem kvK_part : Cond.selects RK yK_part yK_part ∈ zWS := zin 571 (by decide +kernel) (by decide +kernel)
def rK_part : Room := { frames := 7, cells := 0, slots := 0, locals := 109 }
abbrev cK_holds : ByteArray := prog_1_method_15_code
def yK_holds : MethodName := ⟨RK, "holds", "(III)Z"⟩
def mK_holds : zMd := (yK_holds, cK_holds, 4, (some .boolean))
set_option maxRecDepth 20000 in
theorem kK_holds : zKn mK_holds 3 := ⟨zin 585 rfl rfl, zin 1 (by decide +kernel) (by decide +kernel), ⟨by decide +kernel, by decide +kernel⟩, by decide +kernel⟩
theorem kiK_holds : Cond.instanceMethod yK_holds ∈ zWS := zin 583 (by decide +kernel) (by decide +kernel)
theorem kvK_holds : Cond.selects RK yK_holds yK_holds ∈ zWS := zin 584 (by decide +kernel) (by decide +kernel)
def rK_holds : Room := { frames := 7, cells := 0, slots := 0, locals := 109 }
abbrev cK_within : ByteArray := prog_1_method_16_code
def yK_within : MethodName := ⟨RK, "within", "()Z"⟩
def mK_within : zMd := (yK_within, cK_within, 1, (some .boolean))
set_option maxRecDepth 20000 in
theorem kK_within : zKn mK_within 0 := ⟨zin 602 rfl rfl, zin 1 (by decide +kernel) (by decide +kernel), ⟨by decide +kernel, by decide +kernel⟩, by decide +kernel⟩
theorem kiK_within : Cond.instanceMethod yK_within ∈ zWS := zin 600 (by decide +kernel) (by decide +kernel)
theorem kvK_within : Cond.selects RK yK_within yK_within ∈ zWS := zin 601 (by decide +kernel) (by decide +kernel)
def rK_within : Room := { frames := 7, cells := 0, slots := 0, locals := 109 }
abbrev cK_least : ByteArray := prog_1_method_17_code
def yK_least : MethodName := ⟨RK, "least", "(II)I"⟩
def mK_least : zMd := (yK_least, cK_least, 3, (some .int))
set_option maxRecDepth 20000 in
theorem kK_least : zKn mK_least 2 := ⟨zin 610 rfl rfl, zin 1 (by decide +kernel) (by decide +kernel), ⟨by decide +kernel, by decide +kernel⟩, by decide +kernel⟩
theorem kiK_least : Cond.instanceMethod yK_least ∈ zWS := zin 608 (by decide +kernel) (by decide +kernel)
theorem kvK_least : Cond.selects RK yK_least yK_least ∈ zWS := zin 609 (by decide +kernel) (by decide +kernel)
def rK_least : Room := { frames := 7, cells := 0, slots := 0, locals := 109 }
abbrev cK_value : ByteArray := prog_1_method_18_code
def yK_value : MethodName := ⟨RK, "value", "(I)J"⟩
def mK_value : zMd := (yK_value, cK_value, 2, (some .long))
set_option maxRecDepth 20000 in
theorem kK_value : zKn mK_value 1 := ⟨zin 661 rfl rfl, zin 1 (by decide +kernel) (by decide +kernel), ⟨by decide +kernel, by decide +kernel⟩, by decide +kernel⟩
theorem kiK_value : Cond.instanceMethod yK_value ∈ zWS := zin 659 (by decide +kernel) (by decide +kernel)
theorem kvK_value : Cond.selects RK yK_value yK_value ∈ zWS := zin 660 (by decide +kernel) (by decide +kernel)
def rK_value : Room := { frames := 6, cells := 0, slots := 0, locals := 96 }
abbrev cK_requireRoom : ByteArray := prog_1_method_19_code
def yK_requireRoom : MethodName := ⟨RK, "requireRoom", "()V"⟩
def mK_requireRoom : zMd := (yK_requireRoom, cK_requireRoom, 1, none)
set_option maxRecDepth 20000 in
theorem kK_requireRoom : zKn mK_requireRoom 0 := ⟨zin 295 rfl rfl, zin 1 (by decide +kernel) (by decide +kernel), ⟨by decide +kernel, by decide +kernel⟩, by decide +kernel⟩
theorem kiK_requireRoom : Cond.instanceMethod yK_requireRoom ∈ zWS := zin 294 (by decide +kernel) (by decide +kernel)
theorem kvK_requireRoom : Cond.selects RK yK_requireRoom yK_requireRoom ∈ zWS := zsel (y := yK_requireRoom) 4 (by decide +kernel)
def rK_requireRoom : Room := { frames := 6, cells := 0, slots := 0, locals := 96 }
abbrev cK_requireHeight : ByteArray := prog_1_method_20_code
def yK_requireHeight : MethodName := ⟨RK, "requireHeight", "(I)V"⟩
def mK_requireHeight : zMd := (yK_requireHeight, cK_requireHeight, 2, none)
set_option maxRecDepth 20000 in
theorem kK_requireHeight : zKn mK_requireHeight 1 := ⟨zin 399 rfl rfl, zin 1 (by decide +kernel) (by decide +kernel), ⟨by decide +kernel, by decide +kernel⟩, by decide +kernel⟩
theorem kiK_requireHeight : Cond.instanceMethod yK_requireHeight ∈ zWS := zin 398 (by decide +kernel) (by decide +kernel)
theorem kvK_requireHeight : Cond.selects RK yK_requireHeight yK_requireHeight ∈ zWS := zsel (y := yK_requireHeight) 10 (by decide +kernel)
def rK_requireHeight : Room := { frames := 6, cells := 0, slots := 0, locals := 96 }
abbrev cK_requireRow : ByteArray := prog_1_method_21_code
def yK_requireRow : MethodName := ⟨RK, "requireRow", "(I)V"⟩
def mK_requireRow : zMd := (yK_requireRow, cK_requireRow, 2, none)
set_option maxRecDepth 20000 in
theorem kK_requireRow : zKn mK_requireRow 1 := ⟨zin 548 rfl rfl, zin 1 (by decide +kernel) (by decide +kernel), ⟨by decide +kernel, by decide +kernel⟩, by decide +kernel⟩
theorem kiK_requireRow : Cond.instanceMethod yK_requireRow ∈ zWS := zin 547 (by decide +kernel) (by decide +kernel)
theorem kvK_requireRow : Cond.selects RK yK_requireRow yK_requireRow ∈ zWS := zsel (y := yK_requireRow) 13 (by decide +kernel)
def rK_requireRow : Room := { frames := 6, cells := 0, slots := 0, locals := 96 }
abbrev cK_requireTable : ByteArray := prog_1_method_22_code
def yK_requireTable : MethodName := ⟨RK, "requireTable", "(I)V"⟩
def mK_requireTable : zMd := (yK_requireTable, cK_requireTable, 1, none)
set_option maxRecDepth 20000 in
theorem kK_requireTable : zKn mK_requireTable 1 := ⟨zin 520 rfl rfl, zin 1 (by decide +kernel) (by decide +kernel), ⟨by decide +kernel, by decide +kernel⟩, by decide +kernel⟩
theorem ksK_requireTable : Cond.static yK_requireTable ∈ zWS := zin 519 (by decide +kernel) (by decide +kernel)
def rK_requireTable : Room := { frames := 6, cells := 0, slots := 0, locals := 96 }
abbrev cK_requireLimitsKept : ByteArray := prog_1_method_23_code
def yK_requireLimitsKept : MethodName := ⟨RK, "requireLimitsKept", "(Z)V"⟩
def mK_requireLimitsKept : zMd := (yK_requireLimitsKept, cK_requireLimitsKept, 1, none)
set_option maxRecDepth 20000 in
theorem kK_requireLimitsKept : zKn mK_requireLimitsKept 1 := ⟨zin 423 rfl rfl, zin 1 (by decide +kernel) (by decide +kernel), ⟨by decide +kernel, by decide +kernel⟩, by decide +kernel⟩
theorem ksK_requireLimitsKept : Cond.static yK_requireLimitsKept ∈ zWS := zin 422 (by decide +kernel) (by decide +kernel)
def rK_requireLimitsKept : Room := { frames := 6, cells := 0, slots := 0, locals := 96 }
abbrev cK_exceeds : ByteArray := prog_1_method_24_code
def yK_exceeds : MethodName := ⟨RK, "exceeds", "(JJ)Z"⟩
def mK_exceeds : zMd := (yK_exceeds, cK_exceeds, 4, (some .boolean))
set_option maxRecDepth 20000 in
theorem kK_exceeds : zKn mK_exceeds 2 := ⟨zin 176 rfl rfl, zin 1 (by decide +kernel) (by decide +kernel), ⟨by decide +kernel, by decide +kernel⟩, by decide +kernel⟩
theorem ksK_exceeds : Cond.static yK_exceeds ∈ zWS := zin 175 (by decide +kernel) (by decide +kernel)
def rK_exceeds : Room := { frames := 0, cells := 0, slots := 0, locals := 0 }
abbrev cK_commonDivisor : ByteArray := prog_1_method_25_code
def yK_commonDivisor : MethodName := ⟨RK, "commonDivisor", "(JJ)J"⟩
def mK_commonDivisor : zMd := (yK_commonDivisor, cK_commonDivisor, 11, (some .long))
set_option maxRecDepth 20000 in
theorem kK_commonDivisor : zKn mK_commonDivisor 2 := ⟨zin 269 rfl rfl, zin 1 (by decide +kernel) (by decide +kernel), ⟨by decide +kernel, by decide +kernel⟩, by decide +kernel⟩
theorem ksK_commonDivisor : Cond.static yK_commonDivisor ∈ zWS := zin 268 (by decide +kernel) (by decide +kernel)
def rK_commonDivisor : Room := { frames := 1, cells := 0, slots := 0, locals := 13 }
abbrev cM_init : ByteArray := prog_8_method_1_code
def yM_init : MethodName := ⟨RM, "<init>", "()V"⟩
def mM_init : zMd := (yM_init, cM_init, 1, none)
set_option maxRecDepth 20000 in
theorem kM_init : zKn mM_init 0 := ⟨zin 675 rfl rfl, zin 7 (by decide +kernel) (by decide +kernel), ⟨by decide +kernel, by decide +kernel⟩, by decide +kernel⟩
theorem kiM_init : Cond.instanceMethod yM_init ∈ zWS := zin 674 (by decide +kernel) (by decide +kernel)
def rM_init : Room := { frames := 1, cells := 0, slots := 0, locals := 12 }
abbrev cM_thrown : ByteArray := prog_8_method_2_code
def yM_thrown : MethodName := ⟨RM, "thrown", "()I"⟩
def mM_thrown : zMd := (yM_thrown, cM_thrown, 1, (some .int))
set_option maxRecDepth 20000 in
theorem kM_thrown : zKn mM_thrown 0 := ⟨zin 813 rfl rfl, zin 7 (by decide +kernel) (by decide +kernel), ⟨by decide +kernel, by decide +kernel⟩, by decide +kernel⟩
theorem kiM_thrown : Cond.instanceMethod yM_thrown ∈ zWS := zin 811 (by decide +kernel) (by decide +kernel)
theorem kvM_thrown : Cond.selects RM yM_thrown yM_thrown ∈ zWS := zin 812 (by decide +kernel) (by decide +kernel)
def rM_thrown : Room := { frames := 0, cells := 0, slots := 0, locals := 0 }
abbrev cM_place : ByteArray := prog_8_method_3_code
def yM_place : MethodName := ⟨RM, "place", "(III)I"⟩
def mM_place : zMd := (yM_place, cM_place, 3, (some .int))
set_option maxRecDepth 20000 in
theorem kM_place : zKn mM_place 3 := ⟨zin 912 rfl rfl, zin 7 (by decide +kernel) (by decide +kernel), ⟨by decide +kernel, by decide +kernel⟩, by decide +kernel⟩
theorem ksM_place : Cond.static yM_place ∈ zWS := zin 911 (by decide +kernel) (by decide +kernel)
def rM_place : Room := { frames := 0, cells := 0, slots := 0, locals := 0 }
abbrev cM_ask : ByteArray := prog_8_method_4_code
def yM_ask : MethodName := ⟨RM, "ask", "()V"⟩
def mM_ask : zMd := (yM_ask, cM_ask, 2, none)
set_option maxRecDepth 20000 in
theorem kM_ask : zKn mM_ask 0 := ⟨zin 861 rfl rfl, zin 7 (by decide +kernel) (by decide +kernel), ⟨by decide +kernel, by decide +kernel⟩, by decide +kernel⟩
theorem kiM_ask : Cond.instanceMethod yM_ask ∈ zWS := zin 860 (by decide +kernel) (by decide +kernel)
theorem kvM_ask : Cond.selects RM yM_ask yM_ask ∈ zWS := zsel (y := yM_ask) 29 (by decide +kernel)
def rM_ask : Room := { frames := 0, cells := 0, slots := 0, locals := 0 }
abbrev cM_cross : ByteArray := prog_8_method_5_code
def yM_cross : MethodName := ⟨RM, "cross", "(II)J"⟩
def mM_cross : zMd := (yM_cross, cM_cross, 3, (some .long))
set_option maxRecDepth 20000 in
theorem kM_cross : zKn mM_cross 2 := ⟨zin 873 rfl rfl, zin 7 (by decide +kernel) (by decide +kernel), ⟨by decide +kernel, by decide +kernel⟩, by decide +kernel⟩
theorem kiM_cross : Cond.instanceMethod yM_cross ∈ zWS := zin 872 (by decide +kernel) (by decide +kernel)
theorem kvM_cross : Cond.selects RM yM_cross yM_cross ∈ zWS := zsel (y := yM_cross) 32 (by decide +kernel)
def rM_cross : Room := { frames := 0, cells := 0, slots := 0, locals := 0 }
abbrev cM_isBand : ByteArray := prog_8_method_6_code
def yM_isBand : MethodName := ⟨RM, "isBand", "()Z"⟩
def mM_isBand : zMd := (yM_isBand, cM_isBand, 3, (some .boolean))
set_option maxRecDepth 20000 in
theorem kM_isBand : zKn mM_isBand 0 := ⟨zin 869 rfl rfl, zin 7 (by decide +kernel) (by decide +kernel), ⟨by decide +kernel, by decide +kernel⟩, by decide +kernel⟩
theorem kiM_isBand : Cond.instanceMethod yM_isBand ∈ zWS := zin 868 (by decide +kernel) (by decide +kernel)
theorem kvM_isBand : Cond.selects RM yM_isBand yM_isBand ∈ zWS := zsel (y := yM_isBand) 31 (by decide +kernel)
def rM_isBand : Room := { frames := 1, cells := 0, slots := 0, locals := 14 }
abbrev cM_corner : ByteArray := prog_8_method_7_code
def yM_corner : MethodName := ⟨RM, "corner", "(II)Z"⟩
def mM_corner : zMd := (yM_corner, cM_corner, 9, (some .boolean))
set_option maxRecDepth 20000 in
theorem kM_corner : zKn mM_corner 2 := ⟨zin 884 rfl rfl, zin 7 (by decide +kernel) (by decide +kernel), ⟨by decide +kernel, by decide +kernel⟩, by decide +kernel⟩
theorem kiM_corner : Cond.instanceMethod yM_corner ∈ zWS := zin 883 (by decide +kernel) (by decide +kernel)
theorem kvM_corner : Cond.selects RM yM_corner yM_corner ∈ zWS := zsel (y := yM_corner) 34 (by decide +kernel)
def rM_corner : Room := { frames := 1, cells := 0, slots := 0, locals := 14 }
abbrev cM_way : ByteArray := prog_8_method_8_code
def yM_way : MethodName := ⟨RM, "way", "(IZ)Z"⟩
def mM_way : zMd := (yM_way, cM_way, 5, (some .boolean))
set_option maxRecDepth 20000 in
theorem kM_way : zKn mM_way 2 := ⟨zin 893 rfl rfl, zin 7 (by decide +kernel) (by decide +kernel), ⟨by decide +kernel, by decide +kernel⟩, by decide +kernel⟩
theorem kiM_way : Cond.instanceMethod yM_way ∈ zWS := zin 892 (by decide +kernel) (by decide +kernel)
theorem kvM_way : Cond.selects RM yM_way yM_way ∈ zWS := zsel (y := yM_way) 36 (by decide +kernel)
def rM_way : Room := { frames := 0, cells := 0, slots := 0, locals := 0 }
abbrev cM_inCorner : ByteArray := prog_8_method_9_code
def yM_inCorner : MethodName := ⟨RM, "inCorner", "()J"⟩
def mM_inCorner : zMd := (yM_inCorner, cM_inCorner, 4, (some .long))
set_option maxRecDepth 20000 in
theorem kM_inCorner : zKn mM_inCorner 0 := ⟨zin 889 rfl rfl, zin 7 (by decide +kernel) (by decide +kernel), ⟨by decide +kernel, by decide +kernel⟩, by decide +kernel⟩
theorem kiM_inCorner : Cond.instanceMethod yM_inCorner ∈ zWS := zin 888 (by decide +kernel) (by decide +kernel)
theorem kvM_inCorner : Cond.selects RM yM_inCorner yM_inCorner ∈ zWS := zsel (y := yM_inCorner) 35 (by decide +kernel)
def rM_inCorner : Room := { frames := 0, cells := 0, slots := 0, locals := 0 }
abbrev cM_inWay : ByteArray := prog_8_method_10_code
def yM_inWay : MethodName := ⟨RM, "inWay", "()J"⟩
def mM_inWay : zMd := (yM_inWay, cM_inWay, 4, (some .long))
set_option maxRecDepth 20000 in
theorem kM_inWay : zKn mM_inWay 0 := ⟨zin 897 rfl rfl, zin 7 (by decide +kernel) (by decide +kernel), ⟨by decide +kernel, by decide +kernel⟩, by decide +kernel⟩
theorem kiM_inWay : Cond.instanceMethod yM_inWay ∈ zWS := zin 896 (by decide +kernel) (by decide +kernel)
theorem kvM_inWay : Cond.selects RM yM_inWay yM_inWay ∈ zWS := zsel (y := yM_inWay) 37 (by decide +kernel)
def rM_inWay : Room := { frames := 0, cells := 0, slots := 0, locals := 0 }
abbrev cM_strictOnes : ByteArray := prog_8_method_11_code
def yM_strictOnes : MethodName := ⟨RM, "strictOnes", "()J"⟩
def mM_strictOnes : zMd := (yM_strictOnes, cM_strictOnes, 4, (some .long))
set_option maxRecDepth 20000 in
theorem kM_strictOnes : zKn mM_strictOnes 0 := ⟨zin 901 rfl rfl, zin 7 (by decide +kernel) (by decide +kernel), ⟨by decide +kernel, by decide +kernel⟩, by decide +kernel⟩
theorem kiM_strictOnes : Cond.instanceMethod yM_strictOnes ∈ zWS := zin 900 (by decide +kernel) (by decide +kernel)
theorem kvM_strictOnes : Cond.selects RM yM_strictOnes yM_strictOnes ∈ zWS := zsel (y := yM_strictOnes) 38 (by decide +kernel)
def rM_strictOnes : Room := { frames := 0, cells := 0, slots := 0, locals := 0 }
abbrev cM_hasPoints : ByteArray := prog_8_method_12_code
def yM_hasPoints : MethodName := ⟨RM, "hasPoints", "()Z"⟩
def mM_hasPoints : zMd := (yM_hasPoints, cM_hasPoints, 6, (some .boolean))
set_option maxRecDepth 20000 in
theorem kM_hasPoints : zKn mM_hasPoints 0 := ⟨zin 865 rfl rfl, zin 7 (by decide +kernel) (by decide +kernel), ⟨by decide +kernel, by decide +kernel⟩, by decide +kernel⟩
theorem kiM_hasPoints : Cond.instanceMethod yM_hasPoints ∈ zWS := zin 864 (by decide +kernel) (by decide +kernel)
theorem kvM_hasPoints : Cond.selects RM yM_hasPoints yM_hasPoints ∈ zWS := zsel (y := yM_hasPoints) 30 (by decide +kernel)
def rM_hasPoints : Room := { frames := 2, cells := 0, slots := 0, locals := 53 }
abbrev cM_compare : ByteArray := prog_8_method_13_code
def yM_compare : MethodName := ⟨RM, "compare", "(JJJJ)I"⟩
def mM_compare : zMd := (yM_compare, cM_compare, 25, (some .int))
set_option maxRecDepth 20000 in
theorem kM_compare : zKn mM_compare 4 := ⟨zin 880 rfl rfl, zin 7 (by decide +kernel) (by decide +kernel), ⟨by decide +kernel, by decide +kernel⟩, by decide +kernel⟩
theorem ksM_compare : Cond.static yM_compare ∈ zWS := zin 879 (by decide +kernel) (by decide +kernel)
def rM_compare : Room := { frames := 0, cells := 0, slots := 0, locals := 0 }
abbrev cM_band : ByteArray := prog_8_method_14_code
def yM_band : MethodName := ⟨RM, "band", "()Z"⟩
def mM_band : zMd := (yM_band, cM_band, 6, (some .boolean))
set_option maxRecDepth 20000 in
theorem kM_band : zKn mM_band 0 := ⟨zin 877 rfl rfl, zin 7 (by decide +kernel) (by decide +kernel), ⟨by decide +kernel, by decide +kernel⟩, by decide +kernel⟩
theorem kiM_band : Cond.instanceMethod yM_band ∈ zWS := zin 876 (by decide +kernel) (by decide +kernel)
theorem kvM_band : Cond.selects RM yM_band yM_band ∈ zWS := zsel (y := yM_band) 33 (by decide +kernel)
def rM_band : Room := { frames := 1, cells := 0, slots := 0, locals := 36 }
abbrev cM_begin : ByteArray := prog_8_method_15_code
def yM_begin : MethodName := ⟨RM, "begin", "()V"⟩
def mM_begin : zMd := (yM_begin, cM_begin, 1, none)
set_option maxRecDepth 20000 in
theorem kM_begin : zKn mM_begin 0 := ⟨zin 830 rfl rfl, zin 7 (by decide +kernel) (by decide +kernel), ⟨by decide +kernel, by decide +kernel⟩, by decide +kernel⟩
theorem kiM_begin : Cond.instanceMethod yM_begin ∈ zWS := zin 829 (by decide +kernel) (by decide +kernel)
theorem kvM_begin : Cond.selects RM yM_begin yM_begin ∈ zWS := zsel (y := yM_begin) 22 (by decide +kernel)
def rM_begin : Room := { frames := 0, cells := 0, slots := 0, locals := 0 }
abbrev cM_add : ByteArray := prog_8_method_16_code
def yM_add : MethodName := ⟨RM, "add", "(JJJZ)V"⟩
def mM_add : zMd := (yM_add, cM_add, 8, none)
set_option maxRecDepth 20000 in
theorem kM_add : zKn mM_add 4 := ⟨zin 834 rfl rfl, zin 7 (by decide +kernel) (by decide +kernel), ⟨by decide +kernel, by decide +kernel⟩, by decide +kernel⟩
theorem kiM_add : Cond.instanceMethod yM_add ∈ zWS := zin 833 (by decide +kernel) (by decide +kernel)
theorem kvM_add : Cond.selects RM yM_add yM_add ∈ zWS := zsel (y := yM_add) 23 (by decide +kernel)
def rM_add : Room := { frames := 0, cells := 0, slots := 0, locals := 0 }
abbrev cM_addRow : ByteArray := prog_8_method_17_code
def yM_addRow : MethodName := ⟨RM, "addRow", "(III)V"⟩
def mM_addRow : zMd := (yM_addRow, cM_addRow, 6, none)
set_option maxRecDepth 20000 in
theorem kM_addRow : zKn mM_addRow 3 := ⟨zin 924 rfl rfl, zin 7 (by decide +kernel) (by decide +kernel), ⟨by decide +kernel, by decide +kernel⟩, by decide +kernel⟩
theorem kiM_addRow : Cond.instanceMethod yM_addRow ∈ zWS := zin 923 (by decide +kernel) (by decide +kernel)
theorem kvM_addRow : Cond.selects RM yM_addRow yM_addRow ∈ zWS := zsel (y := yM_addRow) 42 (by decide +kernel)
def rM_addRow : Room := { frames := 1, cells := 0, slots := 0, locals := 19 }
abbrev cM_divisor : ByteArray := prog_8_method_18_code
def yM_divisor : MethodName := ⟨RM, "divisor", "(JJ)J"⟩
def mM_divisor : zMd := (yM_divisor, cM_divisor, 10, (some .long))
set_option maxRecDepth 20000 in
theorem kM_divisor : zKn mM_divisor 2 := ⟨zin 845 rfl rfl, zin 7 (by decide +kernel) (by decide +kernel), ⟨by decide +kernel, by decide +kernel⟩, by decide +kernel⟩
theorem ksM_divisor : Cond.static yM_divisor ∈ zWS := zin 844 (by decide +kernel) (by decide +kernel)
def rM_divisor : Room := { frames := 0, cells := 0, slots := 0, locals := 0 }
abbrev cM_isBefore : ByteArray := prog_8_method_19_code
def yM_isBefore : MethodName := ⟨RM, "isBefore", "(II)Z"⟩
def mM_isBefore : zMd := (yM_isBefore, cM_isBefore, 3, (some .boolean))
set_option maxRecDepth 20000 in
theorem kM_isBefore : zKn mM_isBefore 2 := ⟨zin 849 rfl rfl, zin 7 (by decide +kernel) (by decide +kernel), ⟨by decide +kernel, by decide +kernel⟩, by decide +kernel⟩
theorem kiM_isBefore : Cond.instanceMethod yM_isBefore ∈ zWS := zin 848 (by decide +kernel) (by decide +kernel)
theorem kvM_isBefore : Cond.selects RM yM_isBefore yM_isBefore ∈ zWS := zsel (y := yM_isBefore) 26 (by decide +kernel)
def rM_isBefore : Room := { frames := 0, cells := 0, slots := 0, locals := 0 }
abbrev cM_swap : ByteArray := prog_8_method_20_code
def yM_swap : MethodName := ⟨RM, "swap", "(II)V"⟩
def mM_swap : zMd := (yM_swap, cM_swap, 6, none)
set_option maxRecDepth 20000 in
theorem kM_swap : zKn mM_swap 2 := ⟨zin 853 rfl rfl, zin 7 (by decide +kernel) (by decide +kernel), ⟨by decide +kernel, by decide +kernel⟩, by decide +kernel⟩
theorem kiM_swap : Cond.instanceMethod yM_swap ∈ zWS := zin 852 (by decide +kernel) (by decide +kernel)
theorem kvM_swap : Cond.selects RM yM_swap yM_swap ∈ zWS := zsel (y := yM_swap) 27 (by decide +kernel)
def rM_swap : Room := { frames := 0, cells := 0, slots := 0, locals := 0 }
abbrev cM_remove : ByteArray := prog_8_method_21_code
def yM_remove : MethodName := ⟨RM, "remove", "(I)V"⟩
def mM_remove : zMd := (yM_remove, cM_remove, 3, none)
set_option maxRecDepth 20000 in
theorem kM_remove : zKn mM_remove 1 := ⟨zin 857 rfl rfl, zin 7 (by decide +kernel) (by decide +kernel), ⟨by decide +kernel, by decide +kernel⟩, by decide +kernel⟩
theorem kiM_remove : Cond.instanceMethod yM_remove ∈ zWS := zin 856 (by decide +kernel) (by decide +kernel)
theorem kvM_remove : Cond.selects RM yM_remove yM_remove ∈ zWS := zsel (y := yM_remove) 28 (by decide +kernel)
def rM_remove : Room := { frames := 1, cells := 0, slots := 0, locals := 17 }
abbrev cM_normal : ByteArray := prog_8_method_22_code
def yM_normal : MethodName := ⟨RM, "normal", "()Z"⟩
def mM_normal : zMd := (yM_normal, cM_normal, 4, (some .boolean))
set_option maxRecDepth 20000 in
theorem kM_normal : zKn mM_normal 0 := ⟨zin 842 rfl rfl, zin 7 (by decide +kernel) (by decide +kernel), ⟨by decide +kernel, by decide +kernel⟩, by decide +kernel⟩
theorem kiM_normal : Cond.instanceMethod yM_normal ∈ zWS := zin 841 (by decide +kernel) (by decide +kernel)
theorem kvM_normal : Cond.selects RM yM_normal yM_normal ∈ zWS := zsel (y := yM_normal) 25 (by decide +kernel)
def rM_normal : Room := { frames := 4, cells := 0, slots := 0, locals := 83 }
abbrev cM_thin : ByteArray := prog_8_method_23_code
def yM_thin : MethodName := ⟨RM, "thin", "()V"⟩
def mM_thin : zMd := (yM_thin, cM_thin, 2, none)
set_option maxRecDepth 20000 in
theorem kM_thin : zKn mM_thin 0 := ⟨zin 905 rfl rfl, zin 7 (by decide +kernel) (by decide +kernel), ⟨by decide +kernel, by decide +kernel⟩, by decide +kernel⟩
theorem kiM_thin : Cond.instanceMethod yM_thin ∈ zWS := zin 904 (by decide +kernel) (by decide +kernel)
theorem kvM_thin : Cond.selects RM yM_thin yM_thin ∈ zWS := zsel (y := yM_thin) 39 (by decide +kernel)
def rM_thin : Room := { frames := 3, cells := 0, slots := 0, locals := 70 }
abbrev cM_isRow : ByteArray := prog_8_method_24_code
def yM_isRow : MethodName := ⟨RM, "isRow", "(II)Z"⟩
def mM_isRow : zMd := (yM_isRow, cM_isRow, 6, (some .boolean))
set_option maxRecDepth 20000 in
theorem kM_isRow : zKn mM_isRow 2 := ⟨zin 909 rfl rfl, zin 7 (by decide +kernel) (by decide +kernel), ⟨by decide +kernel, by decide +kernel⟩, by decide +kernel⟩
theorem kiM_isRow : Cond.instanceMethod yM_isRow ∈ zWS := zin 908 (by decide +kernel) (by decide +kernel)
theorem kvM_isRow : Cond.selects RM yM_isRow yM_isRow ∈ zWS := zsel (y := yM_isRow) 40 (by decide +kernel)
def rM_isRow : Room := { frames := 1, cells := 0, slots := 0, locals := 14 }
abbrev cM_put : ByteArray := prog_8_method_25_code
def yM_put : MethodName := ⟨RM, "put", "(I)V"⟩
def mM_put : zMd := (yM_put, cM_put, 5, none)
set_option maxRecDepth 20000 in
theorem kM_put : zKn mM_put 1 := ⟨zin 838 rfl rfl, zin 7 (by decide +kernel) (by decide +kernel), ⟨by decide +kernel, by decide +kernel⟩, by decide +kernel⟩
theorem kiM_put : Cond.instanceMethod yM_put ∈ zWS := zin 837 (by decide +kernel) (by decide +kernel)
theorem kvM_put : Cond.selects RM yM_put yM_put ∈ zWS := zsel (y := yM_put) 24 (by decide +kernel)
def rM_put : Room := { frames := 5, cells := 0, slots := 0, locals := 98 }
abbrev cM_isFar : ByteArray := prog_8_method_26_code
def yM_isFar : MethodName := ⟨RM, "isFar", "(J)Z"⟩
def mM_isFar : zMd := (yM_isFar, cM_isFar, 2, (some .boolean))
set_option maxRecDepth 20000 in
theorem kM_isFar : zKn mM_isFar 1 := ⟨zin 820 rfl rfl, zin 7 (by decide +kernel) (by decide +kernel), ⟨by decide +kernel, by decide +kernel⟩, by decide +kernel⟩
theorem ksM_isFar : Cond.static yM_isFar ∈ zWS := zin 819 (by decide +kernel) (by decide +kernel)
def rM_isFar : Room := { frames := 0, cells := 0, slots := 0, locals := 0 }
abbrev cM_copy : ByteArray := prog_8_method_27_code
def yM_copy : MethodName := ⟨RM, "copy", "(II)V"⟩
def mM_copy : zMd := (yM_copy, cM_copy, 4, none)
set_option maxRecDepth 20000 in
theorem kM_copy : zKn mM_copy 2 := ⟨zin 928 rfl rfl, zin 7 (by decide +kernel) (by decide +kernel), ⟨by decide +kernel, by decide +kernel⟩, by decide +kernel⟩
theorem kiM_copy : Cond.instanceMethod yM_copy ∈ zWS := zin 927 (by decide +kernel) (by decide +kernel)
theorem kvM_copy : Cond.selects RM yM_copy yM_copy ∈ zWS := zsel (y := yM_copy) 43 (by decide +kernel)
def rM_copy : Room := { frames := 0, cells := 0, slots := 0, locals := 0 }
abbrev cM_both : ByteArray := prog_8_method_28_code
def yM_both : MethodName := ⟨RM, "both", "(III)V"⟩
def mM_both : zMd := (yM_both, cM_both, 6, none)
set_option maxRecDepth 20000 in
theorem kM_both : zKn mM_both 3 := ⟨zin 920 rfl rfl, zin 7 (by decide +kernel) (by decide +kernel), ⟨by decide +kernel, by decide +kernel⟩, by decide +kernel⟩
theorem kiM_both : Cond.instanceMethod yM_both ∈ zWS := zin 919 (by decide +kernel) (by decide +kernel)
theorem kvM_both : Cond.selects RM yM_both yM_both ∈ zWS := zsel (y := yM_both) 41 (by decide +kernel)
def rM_both : Room := { frames := 6, cells := 0, slots := 0, locals := 114 }
abbrev cM_parts : ByteArray := prog_8_method_29_code
def yM_parts : MethodName := ⟨RM, "parts", "(III)V"⟩
def mM_parts : zMd := (yM_parts, cM_parts, 6, none)
set_option maxRecDepth 20000 in
theorem kM_parts : zKn mM_parts 3 := ⟨zin 944 rfl rfl, zin 7 (by decide +kernel) (by decide +kernel), ⟨by decide +kernel, by decide +kernel⟩, by decide +kernel⟩
theorem kiM_parts : Cond.instanceMethod yM_parts ∈ zWS := zin 943 (by decide +kernel) (by decide +kernel)
theorem kvM_parts : Cond.selects RM yM_parts yM_parts ∈ zWS := zsel (y := yM_parts) 45 (by decide +kernel)
def rM_parts : Room := { frames := 6, cells := 0, slots := 0, locals := 114 }
abbrev cM_contrary : ByteArray := prog_8_method_30_code
def yM_contrary : MethodName := ⟨RM, "contrary", "(I)V"⟩
def mM_contrary : zMd := (yM_contrary, cM_contrary, 3, none)
set_option maxRecDepth 20000 in
theorem kM_contrary : zKn mM_contrary 1 := ⟨zin 940 rfl rfl, zin 7 (by decide +kernel) (by decide +kernel), ⟨by decide +kernel, by decide +kernel⟩, by decide +kernel⟩
theorem kiM_contrary : Cond.instanceMethod yM_contrary ∈ zWS := zin 939 (by decide +kernel) (by decide +kernel)
theorem kvM_contrary : Cond.selects RM yM_contrary yM_contrary ∈ zWS := zsel (y := yM_contrary) 44 (by decide +kernel)
def rM_contrary : Room := { frames := 7, cells := 0, slots := 0, locals := 131 }
abbrev cM_member : ByteArray := prog_8_method_31_code
def yM_member : MethodName := ⟨RM, "member", "(IIIZ)I"⟩
def mM_member : zMd := (yM_member, cM_member, 5, (some .int))
set_option maxRecDepth 20000 in
theorem kM_member : zKn mM_member 4 := ⟨zin 817 rfl rfl, zin 7 (by decide +kernel) (by decide +kernel), ⟨by decide +kernel, by decide +kernel⟩, by decide +kernel⟩
theorem kiM_member : Cond.instanceMethod yM_member ∈ zWS := zin 815 (by decide +kernel) (by decide +kernel)
theorem kvM_member : Cond.selects RM yM_member yM_member ∈ zWS := zin 816 (by decide +kernel) (by decide +kernel)
def rM_member : Room := { frames := 1, cells := 0, slots := 0, locals := 14 }
abbrev cM_row : ByteArray := prog_8_method_32_code
def yM_row : MethodName := ⟨RM, "row", "()I"⟩
def mM_row : zMd := (yM_row, cM_row, 2, (some .int))
set_option maxRecDepth 20000 in
theorem kM_row : zKn mM_row 0 := ⟨zin 826 rfl rfl, zin 7 (by decide +kernel) (by decide +kernel), ⟨by decide +kernel, by decide +kernel⟩, by decide +kernel⟩
theorem kiM_row : Cond.instanceMethod yM_row ∈ zWS := zin 824 (by decide +kernel) (by decide +kernel)
theorem kvM_row : Cond.selects RM yM_row yM_row ∈ zWS := zin 825 (by decide +kernel) (by decide +kernel)
def rM_row : Room := { frames := 6, cells := 0, slots := 0, locals := 114 }
abbrev cM_and : ByteArray := prog_8_method_33_code
def yM_and : MethodName := ⟨RM, "and", "()V"⟩
def mM_and : zMd := (yM_and, cM_and, 1, none)
set_option maxRecDepth 20000 in
theorem kM_and : zKn mM_and 0 := ⟨zin 916 rfl rfl, zin 7 (by decide +kernel) (by decide +kernel), ⟨by decide +kernel, by decide +kernel⟩, by decide +kernel⟩
theorem kiM_and : Cond.instanceMethod yM_and ∈ zWS := zin 914 (by decide +kernel) (by decide +kernel)
theorem kvM_and : Cond.selects RM yM_and yM_and ∈ zWS := zin 915 (by decide +kernel) (by decide +kernel)
def rM_and : Room := { frames := 7, cells := 0, slots := 0, locals := 131 }
abbrev cM_or : ByteArray := prog_8_method_34_code
def yM_or : MethodName := ⟨RM, "or", "()V"⟩
def mM_or : zMd := (yM_or, cM_or, 2, none)
set_option maxRecDepth 20000 in
theorem kM_or : zKn mM_or 0 := ⟨zin 932 rfl rfl, zin 7 (by decide +kernel) (by decide +kernel), ⟨by decide +kernel, by decide +kernel⟩, by decide +kernel⟩
theorem kiM_or : Cond.instanceMethod yM_or ∈ zWS := zin 930 (by decide +kernel) (by decide +kernel)
theorem kvM_or : Cond.selects RM yM_or yM_or ∈ zWS := zin 931 (by decide +kernel) (by decide +kernel)
def rM_or : Room := { frames := 6, cells := 0, slots := 0, locals := 114 }
abbrev cM_not : ByteArray := prog_8_method_35_code
def yM_not : MethodName := ⟨RM, "not", "()V"⟩
def mM_not : zMd := (yM_not, cM_not, 1, none)
set_option maxRecDepth 20000 in
theorem kM_not : zKn mM_not 0 := ⟨zin 936 rfl rfl, zin 7 (by decide +kernel) (by decide +kernel), ⟨by decide +kernel, by decide +kernel⟩, by decide +kernel⟩
theorem kiM_not : Cond.instanceMethod yM_not ∈ zWS := zin 934 (by decide +kernel) (by decide +kernel)
theorem kvM_not : Cond.selects RM yM_not yM_not ∈ zWS := zin 935 (by decide +kernel) (by decide +kernel)
def rM_not : Room := { frames := 8, cells := 0, slots := 0, locals := 145 }
abbrev cM_free : ByteArray := prog_8_method_36_code
def yM_free : MethodName := ⟨RM, "free", "(I)V"⟩
def mM_free : zMd := (yM_free, cM_free, 3, none)
set_option maxRecDepth 20000 in
theorem kM_free : zKn mM_free 1 := ⟨zin 948 rfl rfl, zin 7 (by decide +kernel) (by decide +kernel), ⟨by decide +kernel, by decide +kernel⟩, by decide +kernel⟩
theorem kiM_free : Cond.instanceMethod yM_free ∈ zWS := zin 946 (by decide +kernel) (by decide +kernel)
theorem kvM_free : Cond.selects RM yM_free yM_free ∈ zWS := zin 947 (by decide +kernel) (by decide +kernel)
def rM_free : Room := { frames := 6, cells := 0, slots := 0, locals := 114 }
abbrev cM_freed : ByteArray := prog_8_method_37_code
def yM_freed : MethodName := ⟨RM, "freed", "(III)V"⟩
def mM_freed : zMd := (yM_freed, cM_freed, 13, none)
set_option maxRecDepth 20000 in
theorem kM_freed : zKn mM_freed 3 := ⟨zin 952 rfl rfl, zin 7 (by decide +kernel) (by decide +kernel), ⟨by decide +kernel, by decide +kernel⟩, by decide +kernel⟩
theorem kiM_freed : Cond.instanceMethod yM_freed ∈ zWS := zin 951 (by decide +kernel) (by decide +kernel)
theorem kvM_freed : Cond.selects RM yM_freed yM_freed ∈ zWS := zsel (y := yM_freed) 46 (by decide +kernel)
def rM_freed : Room := { frames := 1, cells := 0, slots := 0, locals := 19 }
abbrev cM_keep : ByteArray := prog_8_method_38_code
def yM_keep : MethodName := ⟨RM, "keep", "(I)V"⟩
def mM_keep : zMd := (yM_keep, cM_keep, 2, none)
set_option maxRecDepth 20000 in
theorem kM_keep : zKn mM_keep 1 := ⟨zin 956 rfl rfl, zin 7 (by decide +kernel) (by decide +kernel), ⟨by decide +kernel, by decide +kernel⟩, by decide +kernel⟩
theorem kiM_keep : Cond.instanceMethod yM_keep ∈ zWS := zin 954 (by decide +kernel) (by decide +kernel)
theorem kvM_keep : Cond.selects RM yM_keep yM_keep ∈ zWS := zin 955 (by decide +kernel) (by decide +kernel)
def rM_keep : Room := { frames := 1, cells := 0, slots := 0, locals := 15 }
abbrev cM_load : ByteArray := prog_8_method_39_code
def yM_load : MethodName := ⟨RM, "load", "(I)I"⟩
def mM_load : zMd := (yM_load, cM_load, 2, (some .int))
set_option maxRecDepth 20000 in
theorem kM_load : zKn mM_load 1 := ⟨zin 960 rfl rfl, zin 7 (by decide +kernel) (by decide +kernel), ⟨by decide +kernel, by decide +kernel⟩, by decide +kernel⟩
theorem kiM_load : Cond.instanceMethod yM_load ∈ zWS := zin 958 (by decide +kernel) (by decide +kernel)
theorem kvM_load : Cond.selects RM yM_load yM_load ∈ zWS := zin 959 (by decide +kernel) (by decide +kernel)
def rM_load : Room := { frames := 1, cells := 0, slots := 0, locals := 15 }
abbrev cM_drop : ByteArray := prog_8_method_40_code
def yM_drop : MethodName := ⟨RM, "drop", "()Z"⟩
def mM_drop : zMd := (yM_drop, cM_drop, 1, (some .boolean))
set_option maxRecDepth 20000 in
theorem kM_drop : zKn mM_drop 0 := ⟨zin 964 rfl rfl, zin 7 (by decide +kernel) (by decide +kernel), ⟨by decide +kernel, by decide +kernel⟩, by decide +kernel⟩
theorem kiM_drop : Cond.instanceMethod yM_drop ∈ zWS := zin 962 (by decide +kernel) (by decide +kernel)
theorem kvM_drop : Cond.selects RM yM_drop yM_drop ∈ zWS := zin 963 (by decide +kernel) (by decide +kernel)
def rM_drop : Room := { frames := 0, cells := 0, slots := 0, locals := 0 }
abbrev cM_pile : ByteArray := prog_8_method_41_code
def yM_pile : MethodName := ⟨RM, "pile", "()I"⟩
def mM_pile : zMd := (yM_pile, cM_pile, 1, (some .int))
set_option maxRecDepth 20000 in
theorem kM_pile : zKn mM_pile 0 := ⟨zin 968 rfl rfl, zin 7 (by decide +kernel) (by decide +kernel), ⟨by decide +kernel, by decide +kernel⟩, by decide +kernel⟩
theorem kiM_pile : Cond.instanceMethod yM_pile ∈ zWS := zin 966 (by decide +kernel) (by decide +kernel)
theorem kvM_pile : Cond.selects RM yM_pile yM_pile ∈ zWS := zin 967 (by decide +kernel) (by decide +kernel)
def rM_pile : Room := { frames := 0, cells := 0, slots := 0, locals := 0 }
abbrev cM_rows : ByteArray := prog_8_method_42_code
def yM_rows : MethodName := ⟨RM, "rows", "()I"⟩
def mM_rows : zMd := (yM_rows, cM_rows, 1, (some .int))
set_option maxRecDepth 20000 in
theorem kM_rows : zKn mM_rows 0 := ⟨zin 972 rfl rfl, zin 7 (by decide +kernel) (by decide +kernel), ⟨by decide +kernel, by decide +kernel⟩, by decide +kernel⟩
theorem kiM_rows : Cond.instanceMethod yM_rows ∈ zWS := zin 970 (by decide +kernel) (by decide +kernel)
theorem kvM_rows : Cond.selects RM yM_rows yM_rows ∈ zWS := zin 971 (by decide +kernel) (by decide +kernel)
def rM_rows : Room := { frames := 0, cells := 0, slots := 0, locals := 0 }
abbrev cM_isRowThere : ByteArray := prog_8_method_43_code
def yM_isRowThere : MethodName := ⟨RM, "isRowThere", "(I)Z"⟩
def mM_isRowThere : zMd := (yM_isRowThere, cM_isRowThere, 2, (some .boolean))
set_option maxRecDepth 20000 in
theorem kM_isRowThere : zKn mM_isRowThere 1 := ⟨zin 980 rfl rfl, zin 7 (by decide +kernel) (by decide +kernel), ⟨by decide +kernel, by decide +kernel⟩, by decide +kernel⟩
theorem kiM_isRowThere : Cond.instanceMethod yM_isRowThere ∈ zWS := zin 979 (by decide +kernel) (by decide +kernel)
theorem kvM_isRowThere : Cond.selects RM yM_isRowThere yM_isRowThere ∈ zWS := zsel (y := yM_isRowThere) 47 (by decide +kernel)
def rM_isRowThere : Room := { frames := 0, cells := 0, slots := 0, locals := 0 }
abbrev cM_members : ByteArray := prog_8_method_44_code
def yM_members : MethodName := ⟨RM, "members", "(I)I"⟩
def mM_members : zMd := (yM_members, cM_members, 2, (some .int))
set_option maxRecDepth 20000 in
theorem kM_members : zKn mM_members 1 := ⟨zin 976 rfl rfl, zin 7 (by decide +kernel) (by decide +kernel), ⟨by decide +kernel, by decide +kernel⟩, by decide +kernel⟩
theorem kiM_members : Cond.instanceMethod yM_members ∈ zWS := zin 974 (by decide +kernel) (by decide +kernel)
theorem kvM_members : Cond.selects RM yM_members yM_members ∈ zWS := zin 975 (by decide +kernel) (by decide +kernel)
def rM_members : Room := { frames := 1, cells := 0, slots := 0, locals := 14 }
abbrev cM_part : ByteArray := prog_8_method_45_code
def yM_part : MethodName := ⟨RM, "part", "(III)I"⟩
def mM_part : zMd := (yM_part, cM_part, 5, (some .int))
set_option maxRecDepth 20000 in
theorem kM_part : zKn mM_part 3 := ⟨zin 984 rfl rfl, zin 7 (by decide +kernel) (by decide +kernel), ⟨by decide +kernel, by decide +kernel⟩, by decide +kernel⟩
theorem kiM_part : Cond.instanceMethod yM_part ∈ zWS := zin 982 (by decide +kernel) (by decide +kernel)
theorem kvM_part : Cond.selects RM yM_part yM_part ∈ zWS := zin 983 (by decide +kernel) (by decide +kernel)
def rM_part : Room := { frames := 1, cells := 0, slots := 0, locals := 14 }
abbrev cM_holds : ByteArray := prog_8_method_46_code
def yM_holds : MethodName := ⟨RM, "holds", "(III)Z"⟩
def mM_holds : zMd := (yM_holds, cM_holds, 13, (some .boolean))
set_option maxRecDepth 20000 in
theorem kM_holds : zKn mM_holds 3 := ⟨zin 988 rfl rfl, zin 7 (by decide +kernel) (by decide +kernel), ⟨by decide +kernel, by decide +kernel⟩, by decide +kernel⟩
theorem kiM_holds : Cond.instanceMethod yM_holds ∈ zWS := zin 986 (by decide +kernel) (by decide +kernel)
theorem kvM_holds : Cond.selects RM yM_holds yM_holds ∈ zWS := zin 987 (by decide +kernel) (by decide +kernel)
def rM_holds : Room := { frames := 1, cells := 0, slots := 0, locals := 14 }
abbrev cM_within : ByteArray := prog_8_method_47_code
def yM_within : MethodName := ⟨RM, "within", "()Z"⟩
def mM_within : zMd := (yM_within, cM_within, 1, (some .boolean))
set_option maxRecDepth 20000 in
theorem kM_within : zKn mM_within 0 := ⟨zin 992 rfl rfl, zin 7 (by decide +kernel) (by decide +kernel), ⟨by decide +kernel, by decide +kernel⟩, by decide +kernel⟩
theorem kiM_within : Cond.instanceMethod yM_within ∈ zWS := zin 990 (by decide +kernel) (by decide +kernel)
theorem kvM_within : Cond.selects RM yM_within yM_within ∈ zWS := zin 991 (by decide +kernel) (by decide +kernel)
def rM_within : Room := { frames := 8, cells := 0, slots := 0, locals := 145 }
abbrev cM_ofBand : ByteArray := prog_8_method_48_code
def yM_ofBand : MethodName := ⟨RM, "ofBand", "(JJ)V"⟩
def mM_ofBand : zMd := (yM_ofBand, cM_ofBand, 8, none)
set_option maxRecDepth 20000 in
theorem kM_ofBand : zKn mM_ofBand 2 := ⟨zin 1000 rfl rfl, zin 7 (by decide +kernel) (by decide +kernel), ⟨by decide +kernel, by decide +kernel⟩, by decide +kernel⟩
theorem kiM_ofBand : Cond.instanceMethod yM_ofBand ∈ zWS := zin 999 (by decide +kernel) (by decide +kernel)
theorem kvM_ofBand : Cond.selects RM yM_ofBand yM_ofBand ∈ zWS := zsel (y := yM_ofBand) 48 (by decide +kernel)
def rM_ofBand : Room := { frames := 2, cells := 0, slots := 0, locals := 53 }
abbrev cM_ofCorners : ByteArray := prog_8_method_49_code
def yM_ofCorners : MethodName := ⟨RM, "ofCorners", "(JJ)V"⟩
def mM_ofCorners : zMd := (yM_ofCorners, cM_ofCorners, 13, none)
set_option maxRecDepth 20000 in
theorem kM_ofCorners : zKn mM_ofCorners 2 := ⟨zin 1004 rfl rfl, zin 7 (by decide +kernel) (by decide +kernel), ⟨by decide +kernel, by decide +kernel⟩, by decide +kernel⟩
theorem kiM_ofCorners : Cond.instanceMethod yM_ofCorners ∈ zWS := zin 1003 (by decide +kernel) (by decide +kernel)
theorem kvM_ofCorners : Cond.selects RM yM_ofCorners yM_ofCorners ∈ zWS := zsel (y := yM_ofCorners) 49 (by decide +kernel)
def rM_ofCorners : Room := { frames := 2, cells := 0, slots := 0, locals := 36 }
abbrev cM_least : ByteArray := prog_8_method_50_code
def yM_least : MethodName := ⟨RM, "least", "(II)I"⟩
def mM_least : zMd := (yM_least, cM_least, 5, (some .int))
set_option maxRecDepth 20000 in
theorem kM_least : zKn mM_least 2 := ⟨zin 996 rfl rfl, zin 7 (by decide +kernel) (by decide +kernel), ⟨by decide +kernel, by decide +kernel⟩, by decide +kernel⟩
theorem kiM_least : Cond.instanceMethod yM_least ∈ zWS := zin 994 (by decide +kernel) (by decide +kernel)
theorem kvM_least : Cond.selects RM yM_least yM_least ∈ zWS := zin 995 (by decide +kernel) (by decide +kernel)
def rM_least : Room := { frames := 3, cells := 0, slots := 0, locals := 72 }
abbrev cM_value : ByteArray := prog_8_method_51_code
def yM_value : MethodName := ⟨RM, "value", "(I)J"⟩
def mM_value : zMd := (yM_value, cM_value, 2, (some .long))
set_option maxRecDepth 20000 in
theorem kM_value : zKn mM_value 1 := ⟨zin 1008 rfl rfl, zin 7 (by decide +kernel) (by decide +kernel), ⟨by decide +kernel, by decide +kernel⟩, by decide +kernel⟩
theorem kiM_value : Cond.instanceMethod yM_value ∈ zWS := zin 1006 (by decide +kernel) (by decide +kernel)
theorem kvM_value : Cond.selects RM yM_value yM_value ∈ zWS := zin 1007 (by decide +kernel) (by decide +kernel)
def rM_value : Room := { frames := 0, cells := 0, slots := 0, locals := 0 }
abbrev cD_init : ByteArray := prog_2_method_1_code
def yD_init : MethodName := ⟨RD, "<init>", "()V"⟩
def mD_init : zMd := (yD_init, cD_init, 1, none)
set_option maxRecDepth 20000 in
theorem kD_init : zKn mD_init 0 := ⟨zin 31 rfl rfl, zin 2 (by decide +kernel) (by decide +kernel), ⟨by decide +kernel, by decide +kernel⟩, by decide +kernel⟩
theorem kiD_init : Cond.instanceMethod yD_init ∈ zWS := zin 30 (by decide +kernel) (by decide +kernel)
def rD_init : Room := { frames := 2, cells := 0, slots := 0, locals := 26 }
abbrev cD_clear : ByteArray := prog_2_method_2_code
def yD_clear : MethodName := ⟨RD, "clear", "()V"⟩
def mD_clear : zMd := (yD_clear, cD_clear, 1, none)
set_option maxRecDepth 20000 in
theorem kD_clear : zKn mD_clear 0 := ⟨zin 387 rfl rfl, zin 2 (by decide +kernel) (by decide +kernel), ⟨by decide +kernel, by decide +kernel⟩, by decide +kernel⟩
theorem kiD_clear : Cond.instanceMethod yD_clear ∈ zWS := zin 385 (by decide +kernel) (by decide +kernel)
theorem kvD_clear : Cond.selects RD yD_clear yD_clear ∈ zWS := zin 386 (by decide +kernel) (by decide +kernel)
def rD_clear : Room := { frames := 0, cells := 0, slots := 0, locals := 0 }
abbrev cD_memberCount : ByteArray := prog_2_method_3_code
def yD_memberCount : MethodName := ⟨RD, "memberCount", "()I"⟩
def mD_memberCount : zMd := (yD_memberCount, cD_memberCount, 1, (some .int))
set_option maxRecDepth 20000 in
theorem kD_memberCount : zKn mD_memberCount 0 := ⟨zin 347 rfl rfl, zin 2 (by decide +kernel) (by decide +kernel), ⟨by decide +kernel, by decide +kernel⟩, by decide +kernel⟩
theorem kiD_memberCount : Cond.instanceMethod yD_memberCount ∈ zWS := zin 345 (by decide +kernel) (by decide +kernel)
theorem kvD_memberCount : Cond.selects RD yD_memberCount yD_memberCount ∈ zWS := zin 346 (by decide +kernel) (by decide +kernel)
def rD_memberCount : Room := { frames := 0, cells := 0, slots := 0, locals := 0 }
abbrev cD_x : ByteArray := prog_2_method_4_code
def yD_x : MethodName := ⟨RD, "x", "(I)J"⟩
def mD_x : zMd := (yD_x, cD_x, 2, (some .long))
set_option maxRecDepth 20000 in
theorem kD_x : zKn mD_x 1 := ⟨zin 355 rfl rfl, zin 2 (by decide +kernel) (by decide +kernel), ⟨by decide +kernel, by decide +kernel⟩, by decide +kernel⟩
theorem kiD_x : Cond.instanceMethod yD_x ∈ zWS := zin 353 (by decide +kernel) (by decide +kernel)
theorem kvD_x : Cond.selects RD yD_x yD_x ∈ zWS := zin 354 (by decide +kernel) (by decide +kernel)
def rD_x : Room := { frames := 0, cells := 0, slots := 0, locals := 0 }
abbrev cD_y : ByteArray := prog_2_method_5_code
def yD_y : MethodName := ⟨RD, "y", "(I)J"⟩
def mD_y : zMd := (yD_y, cD_y, 2, (some .long))
set_option maxRecDepth 20000 in
theorem kD_y : zKn mD_y 1 := ⟨zin 363 rfl rfl, zin 2 (by decide +kernel) (by decide +kernel), ⟨by decide +kernel, by decide +kernel⟩, by decide +kernel⟩
theorem kiD_y : Cond.instanceMethod yD_y ∈ zWS := zin 361 (by decide +kernel) (by decide +kernel)
theorem kvD_y : Cond.selects RD yD_y yD_y ∈ zWS := zin 362 (by decide +kernel) (by decide +kernel)
def rD_y : Room := { frames := 0, cells := 0, slots := 0, locals := 0 }
abbrev cD_bound : ByteArray := prog_2_method_6_code
def yD_bound : MethodName := ⟨RD, "bound", "(I)J"⟩
def mD_bound : zMd := (yD_bound, cD_bound, 2, (some .long))
set_option maxRecDepth 20000 in
theorem kD_bound : zKn mD_bound 1 := ⟨zin 371 rfl rfl, zin 2 (by decide +kernel) (by decide +kernel), ⟨by decide +kernel, by decide +kernel⟩, by decide +kernel⟩
theorem kiD_bound : Cond.instanceMethod yD_bound ∈ zWS := zin 369 (by decide +kernel) (by decide +kernel)
theorem kvD_bound : Cond.selects RD yD_bound yD_bound ∈ zWS := zin 370 (by decide +kernel) (by decide +kernel)
def rD_bound : Room := { frames := 0, cells := 0, slots := 0, locals := 0 }
abbrev cD_isStrict : ByteArray := prog_2_method_7_code
def yD_isStrict : MethodName := ⟨RD, "isStrict", "(I)Z"⟩
def mD_isStrict : zMd := (yD_isStrict, cD_isStrict, 2, (some .boolean))
set_option maxRecDepth 20000 in
theorem kD_isStrict : zKn mD_isStrict 1 := ⟨zin 379 rfl rfl, zin 2 (by decide +kernel) (by decide +kernel), ⟨by decide +kernel, by decide +kernel⟩, by decide +kernel⟩
theorem kiD_isStrict : Cond.instanceMethod yD_isStrict ∈ zWS := zin 377 (by decide +kernel) (by decide +kernel)
theorem kvD_isStrict : Cond.selects RD yD_isStrict yD_isStrict ∈ zWS := zin 378 (by decide +kernel) (by decide +kernel)
def rD_isStrict : Room := { frames := 0, cells := 0, slots := 0, locals := 0 }
abbrev cD_put : ByteArray := prog_2_method_8_code
def yD_put : MethodName := ⟨RD, "put", "(JJJZ)V"⟩
def mD_put : zMd := (yD_put, cD_put, 10, none)
set_option maxRecDepth 20000 in
theorem kD_put : zKn mD_put 4 := ⟨zin 266 rfl rfl, zin 2 (by decide +kernel) (by decide +kernel), ⟨by decide +kernel, by decide +kernel⟩, by decide +kernel⟩
theorem kiD_put : Cond.instanceMethod yD_put ∈ zWS := zin 264 (by decide +kernel) (by decide +kernel)
theorem kvD_put : Cond.selects RD yD_put yD_put ∈ zWS := zin 265 (by decide +kernel) (by decide +kernel)
def rD_put : Room := { frames := 2, cells := 0, slots := 0, locals := 37 }
abbrev cD_insert : ByteArray := prog_2_method_9_code
def yD_insert : MethodName := ⟨RD, "insert", "(JJJZ)V"⟩
def mD_insert : zMd := (yD_insert, cD_insert, 10, none)
set_option maxRecDepth 20000 in
theorem kD_insert : zKn mD_insert 4 := ⟨zin 276 rfl rfl, zin 2 (by decide +kernel) (by decide +kernel), ⟨by decide +kernel, by decide +kernel⟩, by decide +kernel⟩
theorem kiD_insert : Cond.instanceMethod yD_insert ∈ zWS := zin 275 (by decide +kernel) (by decide +kernel)
theorem kvD_insert : Cond.selects RD yD_insert yD_insert ∈ zWS := zsel (y := yD_insert) 1 (by decide +kernel)
def rD_insert : Room := { frames := 1, cells := 0, slots := 0, locals := 16 }
abbrev cD_strengthen : ByteArray := prog_2_method_10_code
def yD_strengthen : MethodName := ⟨RD, "strengthen", "(IJZ)V"⟩
def mD_strengthen : zMd := (yD_strengthen, cD_strengthen, 5, none)
set_option maxRecDepth 20000 in
theorem kD_strengthen : zKn mD_strengthen 3 := ⟨zin 280 rfl rfl, zin 2 (by decide +kernel) (by decide +kernel), ⟨by decide +kernel, by decide +kernel⟩, by decide +kernel⟩
theorem kiD_strengthen : Cond.instanceMethod yD_strengthen ∈ zWS := zin 279 (by decide +kernel) (by decide +kernel)
theorem kvD_strengthen : Cond.selects RD yD_strengthen yD_strengthen ∈ zWS := zsel (y := yD_strengthen) 2 (by decide +kernel)
def rD_strengthen : Room := { frames := 0, cells := 0, slots := 0, locals := 0 }
abbrev cD_move : ByteArray := prog_2_method_11_code
def yD_move : MethodName := ⟨RD, "move", "(II)V"⟩
def mD_move : zMd := (yD_move, cD_move, 3, none)
set_option maxRecDepth 20000 in
theorem kD_move : zKn mD_move 2 := ⟨zin 284 rfl rfl, zin 2 (by decide +kernel) (by decide +kernel), ⟨by decide +kernel, by decide +kernel⟩, by decide +kernel⟩
theorem kiD_move : Cond.instanceMethod yD_move ∈ zWS := zin 283 (by decide +kernel) (by decide +kernel)
theorem kvD_move : Cond.selects RD yD_move yD_move ∈ zWS := zsel (y := yD_move) 3 (by decide +kernel)
def rD_move : Room := { frames := 0, cells := 0, slots := 0, locals := 0 }
abbrev cD_remove : ByteArray := prog_2_method_12_code
def yD_remove : MethodName := ⟨RD, "remove", "(I)V"⟩
def mD_remove : zMd := (yD_remove, cD_remove, 3, none)
set_option maxRecDepth 20000 in
theorem kD_remove : zKn mD_remove 1 := ⟨zin 329 rfl rfl, zin 2 (by decide +kernel) (by decide +kernel), ⟨by decide +kernel, by decide +kernel⟩, by decide +kernel⟩
theorem kiD_remove : Cond.instanceMethod yD_remove ∈ zWS := zin 328 (by decide +kernel) (by decide +kernel)
theorem kvD_remove : Cond.selects RD yD_remove yD_remove ∈ zWS := zsel (y := yD_remove) 6 (by decide +kernel)
def rD_remove : Room := { frames := 1, cells := 0, slots := 0, locals := 14 }
abbrev cD_flip : ByteArray := prog_2_method_13_code
def yD_flip : MethodName := ⟨RD, "flip", "(I)V"⟩
def mD_flip : zMd := (yD_flip, cD_flip, 2, none)
set_option maxRecDepth 20000 in
theorem kD_flip : zKn mD_flip 1 := ⟨zin 324 rfl rfl, zin 2 (by decide +kernel) (by decide +kernel), ⟨by decide +kernel, by decide +kernel⟩, by decide +kernel⟩
theorem kiD_flip : Cond.instanceMethod yD_flip ∈ zWS := zin 323 (by decide +kernel) (by decide +kernel)
theorem kvD_flip : Cond.selects RD yD_flip yD_flip ∈ zWS := zsel (y := yD_flip) 5 (by decide +kernel)
def rD_flip : Room := { frames := 0, cells := 0, slots := 0, locals := 0 }
abbrev cD_hasPoints : ByteArray := prog_2_method_14_code
def yD_hasPoints : MethodName := ⟨RD, "hasPoints", "()Z"⟩
def mD_hasPoints : zMd := (yD_hasPoints, cD_hasPoints, 7, (some .boolean))
set_option maxRecDepth 20000 in
theorem kD_hasPoints : zKn mD_hasPoints 0 := ⟨zin 308 rfl rfl, zin 2 (by decide +kernel) (by decide +kernel), ⟨by decide +kernel, by decide +kernel⟩, by decide +kernel⟩
theorem kiD_hasPoints : Cond.instanceMethod yD_hasPoints ∈ zWS := zin 306 (by decide +kernel) (by decide +kernel)
theorem kvD_hasPoints : Cond.selects RD yD_hasPoints yD_hasPoints ∈ zWS := zin 307 (by decide +kernel) (by decide +kernel)
def rD_hasPoints : Room := { frames := 1, cells := 0, slots := 0, locals := 26 }
abbrev cD_dropImplied : ByteArray := prog_2_method_15_code
def yD_dropImplied : MethodName := ⟨RD, "dropImplied", "()V"⟩
def mD_dropImplied : zMd := (yD_dropImplied, cD_dropImplied, 5, none)
set_option maxRecDepth 20000 in
theorem kD_dropImplied : zKn mD_dropImplied 0 := ⟨zin 320 rfl rfl, zin 2 (by decide +kernel) (by decide +kernel), ⟨by decide +kernel, by decide +kernel⟩, by decide +kernel⟩
theorem kiD_dropImplied : Cond.instanceMethod yD_dropImplied ∈ zWS := zin 318 (by decide +kernel) (by decide +kernel)
theorem kvD_dropImplied : Cond.selects RD yD_dropImplied yD_dropImplied ∈ zWS := zin 319 (by decide +kernel) (by decide +kernel)
def rD_dropImplied : Room := { frames := 2, cells := 0, slots := 0, locals := 44 }
abbrev cD_keepsLimits : ByteArray := prog_2_method_16_code
def yD_keepsLimits : MethodName := ⟨RD, "keepsLimits", "()Z"⟩
def mD_keepsLimits : zMd := (yD_keepsLimits, cD_keepsLimits, 2, (some .boolean))
set_option maxRecDepth 20000 in
theorem kD_keepsLimits : zKn mD_keepsLimits 0 := ⟨zin 333 rfl rfl, zin 2 (by decide +kernel) (by decide +kernel), ⟨by decide +kernel, by decide +kernel⟩, by decide +kernel⟩
theorem kiD_keepsLimits : Cond.instanceMethod yD_keepsLimits ∈ zWS := zin 331 (by decide +kernel) (by decide +kernel)
theorem kvD_keepsLimits : Cond.selects RD yD_keepsLimits yD_keepsLimits ∈ zWS := zin 332 (by decide +kernel) (by decide +kernel)
def rD_keepsLimits : Room := { frames := 1, cells := 0, slots := 0, locals := 15 }
abbrev cI_init : ByteArray := prog_3_method_1_code
def yI_init : MethodName := ⟨RI, "<init>", "()V"⟩
def mI_init : zMd := (yI_init, cI_init, 1, none)
set_option maxRecDepth 20000 in
theorem kI_init : zKn mI_init 0 := ⟨zin 112 rfl rfl, zin 6 (by decide +kernel) (by decide +kernel), ⟨by decide +kernel, by decide +kernel⟩, by decide +kernel⟩
theorem kiI_init : Cond.instanceMethod yI_init ∈ zWS := zin 111 (by decide +kernel) (by decide +kernel)
def rI_init : Room := { frames := 1, cells := 0, slots := 0, locals := 12 }
abbrev cI_numerator : ByteArray := prog_3_method_2_code
def yI_numerator : MethodName := ⟨RI, "numerator", "()J"⟩
def mI_numerator : zMd := (yI_numerator, cI_numerator, 1, (some .long))
set_option maxRecDepth 20000 in
theorem kI_numerator : zKn mI_numerator 0 := ⟨zin 666 rfl rfl, zin 6 (by decide +kernel) (by decide +kernel), ⟨by decide +kernel, by decide +kernel⟩, by decide +kernel⟩
theorem kiI_numerator : Cond.instanceMethod yI_numerator ∈ zWS := zin 664 (by decide +kernel) (by decide +kernel)
theorem kvI_numerator : Cond.selects RI yI_numerator yI_numerator ∈ zWS := zin 665 (by decide +kernel) (by decide +kernel)
def rI_numerator : Room := { frames := 0, cells := 0, slots := 0, locals := 0 }
abbrev cI_denominator : ByteArray := prog_3_method_3_code
def yI_denominator : MethodName := ⟨RI, "denominator", "()J"⟩
def mI_denominator : zMd := (yI_denominator, cI_denominator, 1, (some .long))
set_option maxRecDepth 20000 in
theorem kI_denominator : zKn mI_denominator 0 := ⟨zin 670 rfl rfl, zin 6 (by decide +kernel) (by decide +kernel), ⟨by decide +kernel, by decide +kernel⟩, by decide +kernel⟩
theorem kiI_denominator : Cond.instanceMethod yI_denominator ∈ zWS := zin 668 (by decide +kernel) (by decide +kernel)
theorem kvI_denominator : Cond.selects RI yI_denominator yI_denominator ∈ zWS := zin 669 (by decide +kernel) (by decide +kernel)
def rI_denominator : Room := { frames := 0, cells := 0, slots := 0, locals := 0 }
abbrev cI_seek : ByteArray := prog_3_method_4_code
def yI_seek : MethodName := ⟨RI, "seek", "(LRegionDesk$Region;II)I"⟩
def mI_seek : zMd := (yI_seek, cI_seek, 5, (some .int))
set_option maxRecDepth 20000 in
theorem kI_seek : zKn mI_seek 3 := ⟨zin 616 rfl rfl, zin 6 (by decide +kernel) (by decide +kernel), ⟨by decide +kernel, by decide +kernel⟩, by decide +kernel⟩
theorem kiI_seek : Cond.instanceMethod yI_seek ∈ zWS := zin 614 (by decide +kernel) (by decide +kernel)
theorem kvI_seek : Cond.selects RI yI_seek yI_seek ∈ zWS := zin 615 (by decide +kernel) (by decide +kernel)
def rI_seek : Room := { frames := 3, cells := 0, slots := 0, locals := 71 }
abbrev cI_forget : ByteArray := prog_3_method_5_code
def yI_forget : MethodName := ⟨RI, "forget", "()V"⟩
def mI_forget : zMd := (yI_forget, cI_forget, 1, none)
set_option maxRecDepth 20000 in
theorem kI_forget : zKn mI_forget 0 := ⟨zin 620 rfl rfl, zin 6 (by decide +kernel) (by decide +kernel), ⟨by decide +kernel, by decide +kernel⟩, by decide +kernel⟩
theorem kiI_forget : Cond.instanceMethod yI_forget ∈ zWS := zin 619 (by decide +kernel) (by decide +kernel)
theorem kvI_forget : Cond.selects RI yI_forget yI_forget ∈ zWS := zsel (y := yI_forget) 15 (by decide +kernel)
def rI_forget : Room := { frames := 0, cells := 0, slots := 0, locals := 0 }
abbrev cI_lowerToRow : ByteArray := prog_3_method_6_code
def yI_lowerToRow : MethodName := ⟨RI, "lowerToRow", "()V"⟩
def mI_lowerToRow : zMd := (yI_lowerToRow, cI_lowerToRow, 5, none)
set_option maxRecDepth 20000 in
theorem kI_lowerToRow : zKn mI_lowerToRow 0 := ⟨zin 649 rfl rfl, zin 6 (by decide +kernel) (by decide +kernel), ⟨by decide +kernel, by decide +kernel⟩, by decide +kernel⟩
theorem kiI_lowerToRow : Cond.instanceMethod yI_lowerToRow ∈ zWS := zin 648 (by decide +kernel) (by decide +kernel)
theorem kvI_lowerToRow : Cond.selects RI yI_lowerToRow yI_lowerToRow ∈ zWS := zsel (y := yI_lowerToRow) 20 (by decide +kernel)
def rI_lowerToRow : Room := { frames := 0, cells := 0, slots := 0, locals := 0 }
abbrev cI_reduce : ByteArray := prog_3_method_7_code
def yI_reduce : MethodName := ⟨RI, "reduce", "()V"⟩
def mI_reduce : zMd := (yI_reduce, cI_reduce, 3, none)
set_option maxRecDepth 20000 in
theorem kI_reduce : zKn mI_reduce 0 := ⟨zin 653 rfl rfl, zin 6 (by decide +kernel) (by decide +kernel), ⟨by decide +kernel, by decide +kernel⟩, by decide +kernel⟩
theorem kiI_reduce : Cond.instanceMethod yI_reduce ∈ zWS := zin 652 (by decide +kernel) (by decide +kernel)
theorem kvI_reduce : Cond.selects RI yI_reduce yI_reduce ∈ zWS := zsel (y := yI_reduce) 21 (by decide +kernel)
def rI_reduce : Room := { frames := 2, cells := 0, slots := 0, locals := 35 }
abbrev cI_seekInRow : ByteArray := prog_3_method_8_code
def yI_seekInRow : MethodName := ⟨RI, "seekInRow", "(LRegionDesk$Region;III)V"⟩
def mI_seekInRow : zMd := (yI_seekInRow, cI_seekInRow, 8, none)
set_option maxRecDepth 20000 in
theorem kI_seekInRow : zKn mI_seekInRow 4 := ⟨zin 625 rfl rfl, zin 6 (by decide +kernel) (by decide +kernel), ⟨by decide +kernel, by decide +kernel⟩, by decide +kernel⟩
theorem kiI_seekInRow : Cond.instanceMethod yI_seekInRow ∈ zWS := zin 624 (by decide +kernel) (by decide +kernel)
theorem kvI_seekInRow : Cond.selects RI yI_seekInRow yI_seekInRow ∈ zWS := zsel (y := yI_seekInRow) 16 (by decide +kernel)
def rI_seekInRow : Room := { frames := 2, cells := 0, slots := 0, locals := 52 }
abbrev cI_side : ByteArray := prog_3_method_9_code
def yI_side : MethodName := ⟨RI, "side", "(LRegionDesk$Region;IIII)I"⟩
def mI_side : zMd := (yI_side, cI_side, 5, (some .int))
set_option maxRecDepth 20000 in
theorem kI_side : zKn mI_side 5 := ⟨zin 629 rfl rfl, zin 6 (by decide +kernel) (by decide +kernel), ⟨by decide +kernel, by decide +kernel⟩, by decide +kernel⟩
theorem ksI_side : Cond.static yI_side ∈ zWS := zin 628 (by decide +kernel) (by decide +kernel)
def rI_side : Room := { frames := 1, cells := 0, slots := 0, locals := 15 }
abbrev cI_boundByOne : ByteArray := prog_3_method_10_code
def yI_boundByOne : MethodName := ⟨RI, "boundByOne", "(LRegionDesk$Region;IIII)V"⟩
def mI_boundByOne : zMd := (yI_boundByOne, cI_boundByOne, 10, none)
set_option maxRecDepth 20000 in
theorem kI_boundByOne : zKn mI_boundByOne 5 := ⟨zin 635 rfl rfl, zin 6 (by decide +kernel) (by decide +kernel), ⟨by decide +kernel, by decide +kernel⟩, by decide +kernel⟩
theorem kiI_boundByOne : Cond.instanceMethod yI_boundByOne ∈ zWS := zin 634 (by decide +kernel) (by decide +kernel)
theorem kvI_boundByOne : Cond.selects RI yI_boundByOne yI_boundByOne ∈ zWS := zsel (y := yI_boundByOne) 17 (by decide +kernel)
def rI_boundByOne : Room := { frames := 1, cells := 0, slots := 0, locals := 21 }
abbrev cI_boundByTwo : ByteArray := prog_3_method_11_code
def yI_boundByTwo : MethodName := ⟨RI, "boundByTwo", "(LRegionDesk$Region;IIIII)V"⟩
def mI_boundByTwo : zMd := (yI_boundByTwo, cI_boundByTwo, 20, none)
set_option maxRecDepth 20000 in
theorem kI_boundByTwo : zKn mI_boundByTwo 6 := ⟨zin 645 rfl rfl, zin 6 (by decide +kernel) (by decide +kernel), ⟨by decide +kernel, by decide +kernel⟩, by decide +kernel⟩
theorem kiI_boundByTwo : Cond.instanceMethod yI_boundByTwo ∈ zWS := zin 644 (by decide +kernel) (by decide +kernel)
theorem kvI_boundByTwo : Cond.selects RI yI_boundByTwo yI_boundByTwo ∈ zWS := zsel (y := yI_boundByTwo) 19 (by decide +kernel)
def rI_boundByTwo : Room := { frames := 1, cells := 0, slots := 0, locals := 21 }
abbrev cI_raiseRow : ByteArray := prog_3_method_12_code
def yI_raiseRow : MethodName := ⟨RI, "raiseRow", "(JJZ)V"⟩
def mI_raiseRow : zMd := (yI_raiseRow, cI_raiseRow, 10, none)
set_option maxRecDepth 20000 in
theorem kI_raiseRow : zKn mI_raiseRow 3 := ⟨zin 641 rfl rfl, zin 6 (by decide +kernel) (by decide +kernel), ⟨by decide +kernel, by decide +kernel⟩, by decide +kernel⟩
theorem kiI_raiseRow : Cond.instanceMethod yI_raiseRow ∈ zWS := zin 640 (by decide +kernel) (by decide +kernel)
theorem kvI_raiseRow : Cond.selects RI yI_raiseRow yI_raiseRow ∈ zWS := zsel (y := yI_raiseRow) 18 (by decide +kernel)
def rI_raiseRow : Room := { frames := 0, cells := 0, slots := 0, locals := 0 }
abbrev cR_init : ByteArray := prog_4_method_1_code
def yR_init : MethodName := ⟨RR, "<init>", "()V"⟩
def mR_init : zMd := (yR_init, cR_init, 1, none)
set_option maxRecDepth 20000 in
theorem kR_init : zKn mR_init 0 := ⟨zin 82 rfl rfl, zin 5 (by decide +kernel) (by decide +kernel), ⟨by decide +kernel, by decide +kernel⟩, by decide +kernel⟩
theorem kiR_init : Cond.instanceMethod yR_init ∈ zWS := zin 81 (by decide +kernel) (by decide +kernel)
def rR_init : Room := { frames := 1, cells := 0, slots := 0, locals := 12 }
abbrev cR_clear : ByteArray := prog_4_method_2_code
def yR_clear : MethodName := ⟨RR, "clear", "()V"⟩
def mR_clear : zMd := (yR_clear, cR_clear, 1, none)
set_option maxRecDepth 20000 in
theorem kR_clear : zKn mR_clear 0 := ⟨zin 300 rfl rfl, zin 5 (by decide +kernel) (by decide +kernel), ⟨by decide +kernel, by decide +kernel⟩, by decide +kernel⟩
theorem kiR_clear : Cond.instanceMethod yR_clear ∈ zWS := zin 298 (by decide +kernel) (by decide +kernel)
theorem kvR_clear : Cond.selects RR yR_clear yR_clear ∈ zWS := zin 299 (by decide +kernel) (by decide +kernel)
def rR_clear : Room := { frames := 0, cells := 0, slots := 0, locals := 0 }
abbrev cR_copy : ByteArray := prog_4_method_3_code
def yR_copy : MethodName := ⟨RR, "copy", "(LRegionDesk$Region;)V"⟩
def mR_copy : zMd := (yR_copy, cR_copy, 3, none)
set_option maxRecDepth 20000 in
theorem kR_copy : zKn mR_copy 1 := ⟨zin 447 rfl rfl, zin 5 (by decide +kernel) (by decide +kernel), ⟨by decide +kernel, by decide +kernel⟩, by decide +kernel⟩
theorem kiR_copy : Cond.instanceMethod yR_copy ∈ zWS := zin 445 (by decide +kernel) (by decide +kernel)
theorem kvR_copy : Cond.selects RR yR_copy yR_copy ∈ zWS := zin 446 (by decide +kernel) (by decide +kernel)
def rR_copy : Room := { frames := 1, cells := 0, slots := 0, locals := 24 }
abbrev cR_rowCount : ByteArray := prog_4_method_4_code
def yR_rowCount : MethodName := ⟨RR, "rowCount", "()I"⟩
def mR_rowCount : zMd := (yR_rowCount, cR_rowCount, 1, (some .int))
set_option maxRecDepth 20000 in
theorem kR_rowCount : zKn mR_rowCount 0 := ⟨zin 409 rfl rfl, zin 5 (by decide +kernel) (by decide +kernel), ⟨by decide +kernel, by decide +kernel⟩, by decide +kernel⟩
theorem kiR_rowCount : Cond.instanceMethod yR_rowCount ∈ zWS := zin 407 (by decide +kernel) (by decide +kernel)
theorem kvR_rowCount : Cond.selects RR yR_rowCount yR_rowCount ∈ zWS := zin 408 (by decide +kernel) (by decide +kernel)
def rR_rowCount : Room := { frames := 0, cells := 0, slots := 0, locals := 0 }
abbrev cR_memberCount : ByteArray := prog_4_method_5_code
def yR_memberCount : MethodName := ⟨RR, "memberCount", "(I)I"⟩
def mR_memberCount : zMd := (yR_memberCount, cR_memberCount, 2, (some .int))
set_option maxRecDepth 20000 in
theorem kR_memberCount : zKn mR_memberCount 1 := ⟨zin 414 rfl rfl, zin 5 (by decide +kernel) (by decide +kernel), ⟨by decide +kernel, by decide +kernel⟩, by decide +kernel⟩
theorem kiR_memberCount : Cond.instanceMethod yR_memberCount ∈ zWS := zin 412 (by decide +kernel) (by decide +kernel)
theorem kvR_memberCount : Cond.selects RR yR_memberCount yR_memberCount ∈ zWS := zin 413 (by decide +kernel) (by decide +kernel)
def rR_memberCount : Room := { frames := 0, cells := 0, slots := 0, locals := 0 }
abbrev cR_x : ByteArray := prog_4_method_6_code
def yR_x : MethodName := ⟨RR, "x", "(II)I"⟩
def mR_x : zMd := (yR_x, cR_x, 3, (some .int))
set_option maxRecDepth 20000 in
theorem kR_x : zKn mR_x 2 := ⟨zin 351 rfl rfl, zin 5 (by decide +kernel) (by decide +kernel), ⟨by decide +kernel, by decide +kernel⟩, by decide +kernel⟩
theorem kiR_x : Cond.instanceMethod yR_x ∈ zWS := zin 349 (by decide +kernel) (by decide +kernel)
theorem kvR_x : Cond.selects RR yR_x yR_x ∈ zWS := zin 350 (by decide +kernel) (by decide +kernel)
def rR_x : Room := { frames := 0, cells := 0, slots := 0, locals := 0 }
abbrev cR_y : ByteArray := prog_4_method_7_code
def yR_y : MethodName := ⟨RR, "y", "(II)I"⟩
def mR_y : zMd := (yR_y, cR_y, 3, (some .int))
set_option maxRecDepth 20000 in
theorem kR_y : zKn mR_y 2 := ⟨zin 359 rfl rfl, zin 5 (by decide +kernel) (by decide +kernel), ⟨by decide +kernel, by decide +kernel⟩, by decide +kernel⟩
theorem kiR_y : Cond.instanceMethod yR_y ∈ zWS := zin 357 (by decide +kernel) (by decide +kernel)
theorem kvR_y : Cond.selects RR yR_y yR_y ∈ zWS := zin 358 (by decide +kernel) (by decide +kernel)
def rR_y : Room := { frames := 0, cells := 0, slots := 0, locals := 0 }
abbrev cR_bound : ByteArray := prog_4_method_8_code
def yR_bound : MethodName := ⟨RR, "bound", "(II)I"⟩
def mR_bound : zMd := (yR_bound, cR_bound, 3, (some .int))
set_option maxRecDepth 20000 in
theorem kR_bound : zKn mR_bound 2 := ⟨zin 367 rfl rfl, zin 5 (by decide +kernel) (by decide +kernel), ⟨by decide +kernel, by decide +kernel⟩, by decide +kernel⟩
theorem kiR_bound : Cond.instanceMethod yR_bound ∈ zWS := zin 365 (by decide +kernel) (by decide +kernel)
theorem kvR_bound : Cond.selects RR yR_bound yR_bound ∈ zWS := zin 366 (by decide +kernel) (by decide +kernel)
def rR_bound : Room := { frames := 0, cells := 0, slots := 0, locals := 0 }
abbrev cR_isStrict : ByteArray := prog_4_method_9_code
def yR_isStrict : MethodName := ⟨RR, "isStrict", "(II)Z"⟩
def mR_isStrict : zMd := (yR_isStrict, cR_isStrict, 3, (some .boolean))
set_option maxRecDepth 20000 in
theorem kR_isStrict : zKn mR_isStrict 2 := ⟨zin 375 rfl rfl, zin 5 (by decide +kernel) (by decide +kernel), ⟨by decide +kernel, by decide +kernel⟩, by decide +kernel⟩
theorem kiR_isStrict : Cond.instanceMethod yR_isStrict ∈ zWS := zin 373 (by decide +kernel) (by decide +kernel)
theorem kvR_isStrict : Cond.selects RR yR_isStrict yR_isStrict ∈ zWS := zin 374 (by decide +kernel) (by decide +kernel)
def rR_isStrict : Room := { frames := 0, cells := 0, slots := 0, locals := 0 }
abbrev cR_admit : ByteArray := prog_4_method_10_code
def yR_admit : MethodName := ⟨RR, "admit", "(LRegionDesk$Draft;)Z"⟩
def mR_admit : zMd := (yR_admit, cR_admit, 2, (some .boolean))
set_option maxRecDepth 20000 in
theorem kR_admit : zKn mR_admit 1 := ⟨zin 304 rfl rfl, zin 5 (by decide +kernel) (by decide +kernel), ⟨by decide +kernel, by decide +kernel⟩, by decide +kernel⟩
theorem kiR_admit : Cond.instanceMethod yR_admit ∈ zWS := zin 302 (by decide +kernel) (by decide +kernel)
theorem kvR_admit : Cond.selects RR yR_admit yR_admit ∈ zWS := zin 303 (by decide +kernel) (by decide +kernel)
def rR_admit : Room := { frames := 3, cells := 0, slots := 0, locals := 60 }
abbrev cR_contains : ByteArray := prog_4_method_11_code
def yR_contains : MethodName := ⟨RR, "contains", "(LRegionDesk$Draft;)Z"⟩
def mR_contains : zMd := (yR_contains, cR_contains, 3, (some .boolean))
set_option maxRecDepth 20000 in
theorem kR_contains : zKn mR_contains 1 := ⟨zin 339 rfl rfl, zin 5 (by decide +kernel) (by decide +kernel), ⟨by decide +kernel, by decide +kernel⟩, by decide +kernel⟩
theorem kiR_contains : Cond.instanceMethod yR_contains ∈ zWS := zin 338 (by decide +kernel) (by decide +kernel)
theorem kvR_contains : Cond.selects RR yR_contains yR_contains ∈ zWS := zsel (y := yR_contains) 7 (by decide +kernel)
def rR_contains : Room := { frames := 2, cells := 0, slots := 0, locals := 30 }
abbrev cR_isSame : ByteArray := prog_4_method_12_code
def yR_isSame : MethodName := ⟨RR, "isSame", "(ILRegionDesk$Draft;)Z"⟩
def mR_isSame : zMd := (yR_isSame, cR_isSame, 4, (some .boolean))
set_option maxRecDepth 20000 in
theorem kR_isSame : zKn mR_isSame 2 := ⟨zin 343 rfl rfl, zin 5 (by decide +kernel) (by decide +kernel), ⟨by decide +kernel, by decide +kernel⟩, by decide +kernel⟩
theorem kiR_isSame : Cond.instanceMethod yR_isSame ∈ zWS := zin 342 (by decide +kernel) (by decide +kernel)
theorem kvR_isSame : Cond.selects RR yR_isSame yR_isSame ∈ zWS := zsel (y := yR_isSame) 8 (by decide +kernel)
def rR_isSame : Room := { frames := 1, cells := 0, slots := 0, locals := 15 }
abbrev cR_append : ByteArray := prog_4_method_13_code
def yR_append : MethodName := ⟨RR, "append", "(LRegionDesk$Draft;)V"⟩
def mR_append : zMd := (yR_append, cR_append, 4, none)
set_option maxRecDepth 20000 in
theorem kR_append : zKn mR_append 1 := ⟨zin 383 rfl rfl, zin 5 (by decide +kernel) (by decide +kernel), ⟨by decide +kernel, by decide +kernel⟩, by decide +kernel⟩
theorem kiR_append : Cond.instanceMethod yR_append ∈ zWS := zin 382 (by decide +kernel) (by decide +kernel)
theorem kvR_append : Cond.selects RR yR_append yR_append ∈ zWS := zsel (y := yR_append) 9 (by decide +kernel)
def rR_append : Room := { frames := 1, cells := 0, slots := 0, locals := 15 }
abbrev cR_pour : ByteArray := prog_4_method_14_code
def yR_pour : MethodName := ⟨RR, "pour", "(IILRegionDesk$Draft;)V"⟩
def mR_pour : zMd := (yR_pour, cR_pour, 5, none)
set_option maxRecDepth 20000 in
theorem kR_pour : zKn mR_pour 3 := ⟨zin 418 rfl rfl, zin 5 (by decide +kernel) (by decide +kernel), ⟨by decide +kernel, by decide +kernel⟩, by decide +kernel⟩
theorem kiR_pour : Cond.instanceMethod yR_pour ∈ zWS := zin 416 (by decide +kernel) (by decide +kernel)
theorem kvR_pour : Cond.selects RR yR_pour yR_pour ∈ zWS := zin 417 (by decide +kernel) (by decide +kernel)
def rR_pour : Room := { frames := 3, cells := 0, slots := 0, locals := 58 }
abbrev cR_pourContrary : ByteArray := prog_4_method_15_code
def yR_pourContrary : MethodName := ⟨RR, "pourContrary", "(IILRegionDesk$Draft;)V"⟩
def mR_pourContrary : zMd := (yR_pourContrary, cR_pourContrary, 4, none)
set_option maxRecDepth 20000 in
theorem kR_pourContrary : zKn mR_pourContrary 3 := ⟨zin 481 rfl rfl, zin 5 (by decide +kernel) (by decide +kernel), ⟨by decide +kernel, by decide +kernel⟩, by decide +kernel⟩
theorem kiR_pourContrary : Cond.instanceMethod yR_pourContrary ∈ zWS := zin 479 (by decide +kernel) (by decide +kernel)
theorem kvR_pourContrary : Cond.selects RR yR_pourContrary yR_pourContrary ∈ zWS := zin 480 (by decide +kernel) (by decide +kernel)
def rR_pourContrary : Room := { frames := 3, cells := 0, slots := 0, locals := 58 }
abbrev cR_hasPoint : ByteArray := prog_4_method_16_code
def yR_hasPoint : MethodName := ⟨RR, "hasPoint", "(III)Z"⟩
def mR_hasPoint : zMd := (yR_hasPoint, cR_hasPoint, 5, (some .boolean))
set_option maxRecDepth 20000 in
theorem kR_hasPoint : zKn mR_hasPoint 3 := ⟨zin 591 rfl rfl, zin 5 (by decide +kernel) (by decide +kernel), ⟨by decide +kernel, by decide +kernel⟩, by decide +kernel⟩
theorem kiR_hasPoint : Cond.instanceMethod yR_hasPoint ∈ zWS := zin 589 (by decide +kernel) (by decide +kernel)
theorem kvR_hasPoint : Cond.selects RR yR_hasPoint yR_hasPoint ∈ zWS := zin 590 (by decide +kernel) (by decide +kernel)
def rR_hasPoint : Room := { frames := 2, cells := 0, slots := 0, locals := 34 }
abbrev cR_rowHasPoint : ByteArray := prog_4_method_17_code
def yR_rowHasPoint : MethodName := ⟨RR, "rowHasPoint", "(IIII)Z"⟩
def mR_rowHasPoint : zMd := (yR_rowHasPoint, cR_rowHasPoint, 8, (some .boolean))
set_option maxRecDepth 20000 in
theorem kR_rowHasPoint : zKn mR_rowHasPoint 4 := ⟨zin 595 rfl rfl, zin 5 (by decide +kernel) (by decide +kernel), ⟨by decide +kernel, by decide +kernel⟩, by decide +kernel⟩
theorem kiR_rowHasPoint : Cond.instanceMethod yR_rowHasPoint ∈ zWS := zin 594 (by decide +kernel) (by decide +kernel)
theorem kvR_rowHasPoint : Cond.selects RR yR_rowHasPoint yR_rowHasPoint ∈ zWS := zsel (y := yR_rowHasPoint) 14 (by decide +kernel)
def rR_rowHasPoint : Room := { frames := 1, cells := 0, slots := 0, locals := 15 }
abbrev cS_init : ByteArray := prog_5_method_1_code
def yS_init : MethodName := ⟨RS, "<init>", "()V"⟩
def mS_init : zMd := (yS_init, cS_init, 1, none)
set_option maxRecDepth 20000 in
theorem kS_init : zKn mS_init 0 := ⟨zin 37 rfl rfl, zin 3 (by decide +kernel) (by decide +kernel), ⟨by decide +kernel, by decide +kernel⟩, by decide +kernel⟩
theorem kiS_init : Cond.instanceMethod yS_init ∈ zWS := zin 36 (by decide +kernel) (by decide +kernel)
def rS_init : Room := { frames := 1, cells := 0, slots := 0, locals := 12 }
abbrev cS_reset : ByteArray := prog_5_method_2_code
def yS_reset : MethodName := ⟨RS, "reset", "()V"⟩
def mS_reset : zMd := (yS_reset, cS_reset, 1, none)
set_option maxRecDepth 20000 in
theorem kS_reset : zKn mS_reset 0 := ⟨zin 312 rfl rfl, zin 3 (by decide +kernel) (by decide +kernel), ⟨by decide +kernel, by decide +kernel⟩, by decide +kernel⟩
theorem kiS_reset : Cond.instanceMethod yS_reset ∈ zWS := zin 310 (by decide +kernel) (by decide +kernel)
theorem kvS_reset : Cond.selects RS yS_reset yS_reset ∈ zWS := zin 311 (by decide +kernel) (by decide +kernel)
def rS_reset : Room := { frames := 0, cells := 0, slots := 0, locals := 0 }
abbrev cS_narrow : ByteArray := prog_5_method_3_code
def yS_narrow : MethodName := ⟨RS, "narrow", "(JJZ)Z"⟩
def mS_narrow : zMd := (yS_narrow, cS_narrow, 15, (some .boolean))
set_option maxRecDepth 20000 in
theorem kS_narrow : zKn mS_narrow 3 := ⟨zin 316 rfl rfl, zin 3 (by decide +kernel) (by decide +kernel), ⟨by decide +kernel, by decide +kernel⟩, by decide +kernel⟩
theorem kiS_narrow : Cond.instanceMethod yS_narrow ∈ zWS := zin 314 (by decide +kernel) (by decide +kernel)
theorem kvS_narrow : Cond.selects RS yS_narrow yS_narrow ∈ zWS := zin 315 (by decide +kernel) (by decide +kernel)
def rS_narrow : Room := { frames := 0, cells := 0, slots := 0, locals := 0 }
abbrev cW_init : ByteArray := prog_6_method_1_code
def yW_init : MethodName := ⟨RW, "<init>", "()V"⟩
def mW_init : zMd := (yW_init, cW_init, 1, none)
set_option maxRecDepth 20000 in
theorem kW_init : zKn mW_init 0 := ⟨zin 74 rfl rfl, zin 4 (by decide +kernel) (by decide +kernel), ⟨by decide +kernel, by decide +kernel⟩, by decide +kernel⟩
theorem kiW_init : Cond.instanceMethod yW_init ∈ zWS := zin 73 (by decide +kernel) (by decide +kernel)
def rW_init : Room := { frames := 3, cells := 0, slots := 0, locals := 40 }
abbrev cW_result : ByteArray := prog_6_method_2_code
def yW_result : MethodName := ⟨RW, "result", "()LRegionDesk$Region;"⟩
def mW_result : zMd := (yW_result, cW_result, 1, (some (.object "RegionDesk$Region")))
set_option maxRecDepth 20000 in
theorem kW_result : zKn mW_result 0 := ⟨zin 443 rfl rfl, zin 4 (by decide +kernel) (by decide +kernel), ⟨by decide +kernel, by decide +kernel⟩, by decide +kernel⟩
theorem kiW_result : Cond.instanceMethod yW_result ∈ zWS := zin 441 (by decide +kernel) (by decide +kernel)
theorem kvW_result : Cond.selects RW yW_result yW_result ∈ zWS := zin 442 (by decide +kernel) (by decide +kernel)
def rW_result : Room := { frames := 0, cells := 0, slots := 0, locals := 0 }
abbrev cW_intersect : ByteArray := prog_6_method_3_code
def yW_intersect : MethodName := ⟨RW, "intersect", "(LRegionDesk$Region;LRegionDesk$Region;)Z"⟩
def mW_intersect : zMd := (yW_intersect, cW_intersect, 5, (some .boolean))
set_option maxRecDepth 20000 in
theorem kW_intersect : zKn mW_intersect 2 := ⟨zin 404 rfl rfl, zin 4 (by decide +kernel) (by decide +kernel), ⟨by decide +kernel, by decide +kernel⟩, by decide +kernel⟩
theorem kiW_intersect : Cond.instanceMethod yW_intersect ∈ zWS := zin 402 (by decide +kernel) (by decide +kernel)
theorem kvW_intersect : Cond.selects RW yW_intersect yW_intersect ∈ zWS := zin 403 (by decide +kernel) (by decide +kernel)
def rW_intersect : Room := { frames := 4, cells := 0, slots := 0, locals := 74 }
abbrev cW_unite : ByteArray := prog_6_method_4_code
def yW_unite : MethodName := ⟨RW, "unite", "(LRegionDesk$Region;LRegionDesk$Region;)Z"⟩
def mW_unite : zMd := (yW_unite, cW_unite, 4, (some .boolean))
set_option maxRecDepth 20000 in
theorem kW_unite : zKn mW_unite 2 := ⟨zin 461 rfl rfl, zin 4 (by decide +kernel) (by decide +kernel), ⟨by decide +kernel, by decide +kernel⟩, by decide +kernel⟩
theorem kiW_unite : Cond.instanceMethod yW_unite ∈ zWS := zin 459 (by decide +kernel) (by decide +kernel)
theorem kvW_unite : Cond.selects RW yW_unite yW_unite ∈ zWS := zin 460 (by decide +kernel) (by decide +kernel)
def rW_unite : Room := { frames := 4, cells := 0, slots := 0, locals := 74 }
abbrev cW_complement : ByteArray := prog_6_method_5_code
def yW_complement : MethodName := ⟨RW, "complement", "(LRegionDesk$Region;)Z"⟩
def mW_complement : zMd := (yW_complement, cW_complement, 3, (some .boolean))
set_option maxRecDepth 20000 in
theorem kW_complement : zKn mW_complement 1 := ⟨zin 473 rfl rfl, zin 4 (by decide +kernel) (by decide +kernel), ⟨by decide +kernel, by decide +kernel⟩, by decide +kernel⟩
theorem kiW_complement : Cond.instanceMethod yW_complement ∈ zWS := zin 471 (by decide +kernel) (by decide +kernel)
theorem kvW_complement : Cond.selects RW yW_complement yW_complement ∈ zWS := zin 472 (by decide +kernel) (by decide +kernel)
def rW_complement : Room := { frames := 5, cells := 0, slots := 0, locals := 90 }
abbrev cW_setAside : ByteArray := prog_6_method_6_code
def yW_setAside : MethodName := ⟨RW, "setAside", "()LRegionDesk$Region;"⟩
def mW_setAside : zMd := (yW_setAside, cW_setAside, 2, (some (.object "RegionDesk$Region")))
set_option maxRecDepth 20000 in
theorem kW_setAside : zKn mW_setAside 0 := ⟨zin 485 rfl rfl, zin 4 (by decide +kernel) (by decide +kernel), ⟨by decide +kernel, by decide +kernel⟩, by decide +kernel⟩
theorem kiW_setAside : Cond.instanceMethod yW_setAside ∈ zWS := zin 483 (by decide +kernel) (by decide +kernel)
theorem kvW_setAside : Cond.selects RW yW_setAside yW_setAside ∈ zWS := zin 484 (by decide +kernel) (by decide +kernel)
def rW_setAside : Room := { frames := 0, cells := 0, slots := 0, locals := 0 }
abbrev cW_cut : ByteArray := prog_6_method_7_code
def yW_cut : MethodName := ⟨RW, "cut", "(LRegionDesk$Region;I)V"⟩
def mW_cut : zMd := (yW_cut, cW_cut, 4, none)
set_option maxRecDepth 20000 in
theorem kW_cut : zKn mW_cut 2 := ⟨zin 477 rfl rfl, zin 4 (by decide +kernel) (by decide +kernel), ⟨by decide +kernel, by decide +kernel⟩, by decide +kernel⟩
theorem kiW_cut : Cond.instanceMethod yW_cut ∈ zWS := zin 476 (by decide +kernel) (by decide +kernel)
theorem kvW_cut : Cond.selects RW yW_cut yW_cut ∈ zWS := zsel (y := yW_cut) 11 (by decide +kernel)
def rW_cut : Room := { frames := 4, cells := 0, slots := 0, locals := 74 }
abbrev cW_project : ByteArray := prog_6_method_8_code
def yW_project : MethodName := ⟨RW, "project", "(LRegionDesk$Region;I)Z"⟩
def mW_project : zMd := (yW_project, cW_project, 5, (some .boolean))
set_option maxRecDepth 20000 in
theorem kW_project : zKn mW_project 2 := ⟨zin 498 rfl rfl, zin 4 (by decide +kernel) (by decide +kernel), ⟨by decide +kernel, by decide +kernel⟩, by decide +kernel⟩
theorem kiW_project : Cond.instanceMethod yW_project ∈ zWS := zin 496 (by decide +kernel) (by decide +kernel)
theorem kvW_project : Cond.selects RW yW_project yW_project ∈ zWS := zin 497 (by decide +kernel) (by decide +kernel)
def rW_project : Room := { frames := 4, cells := 0, slots := 0, locals := 79 }
abbrev cW_eliminate : ByteArray := prog_6_method_9_code
def yW_eliminate : MethodName := ⟨RW, "eliminate", "(LRegionDesk$Region;III)V"⟩
def mW_eliminate : zMd := (yW_eliminate, cW_eliminate, 10, none)
set_option maxRecDepth 20000 in
theorem kW_eliminate : zKn mW_eliminate 4 := ⟨zin 502 rfl rfl, zin 4 (by decide +kernel) (by decide +kernel), ⟨by decide +kernel, by decide +kernel⟩, by decide +kernel⟩
theorem kiW_eliminate : Cond.instanceMethod yW_eliminate ∈ zWS := zin 501 (by decide +kernel) (by decide +kernel)
theorem kvW_eliminate : Cond.selects RW yW_eliminate yW_eliminate ∈ zWS := zsel (y := yW_eliminate) 12 (by decide +kernel)
def rW_eliminate : Room := { frames := 3, cells := 0, slots := 0, locals := 58 }
abbrev cW_entry : ByteArray := prog_6_method_10_code
def yW_entry : MethodName := ⟨RW, "entry", "(LRegionDesk$Region;III)J"⟩
def mW_entry : zMd := (yW_entry, cW_entry, 4, (some .long))
set_option maxRecDepth 20000 in
theorem kW_entry : zKn mW_entry 4 := ⟨zin 505 rfl rfl, zin 4 (by decide +kernel) (by decide +kernel), ⟨by decide +kernel, by decide +kernel⟩, by decide +kernel⟩
theorem ksW_entry : Cond.static yW_entry ∈ zWS := zin 504 (by decide +kernel) (by decide +kernel)
def rW_entry : Room := { frames := 1, cells := 0, slots := 0, locals := 14 }
theorem jmK_42 : Cond.methodLink RK 42 yK_exceeds ∈ zWS := zin 174 (by decide +kernel) (by decide +kernel)
theorem jmK_64 : Cond.methodLink RK 64 yD_put ∈ zWS := zin 263 (by decide +kernel) (by decide +kernel)
theorem jmK_68 : Cond.methodLink RK 68 yK_requireRoom ∈ zWS := zin 292 (by decide +kernel) (by decide +kernel)
theorem jmK_74 : Cond.methodLink RK 74 yR_clear ∈ zWS := zin 297 (by decide +kernel) (by decide +kernel)
theorem jmK_77 : Cond.methodLink RK 77 yR_admit ∈ zWS := zin 301 (by decide +kernel) (by decide +kernel)
theorem jmK_81 : Cond.methodLink RK 81 yD_clear ∈ zWS := zin 384 (by decide +kernel) (by decide +kernel)
theorem jmK_82 : Cond.methodLink RK 82 yK_requireHeight ∈ zWS := zin 396 (by decide +kernel) (by decide +kernel)
theorem jmK_86 : Cond.methodLink RK 86 yW_intersect ∈ zWS := zin 401 (by decide +kernel) (by decide +kernel)
theorem jmK_90 : Cond.methodLink RK 90 yK_requireLimitsKept ∈ zWS := zin 421 (by decide +kernel) (by decide +kernel)
theorem jmK_94 : Cond.methodLink RK 94 yW_result ∈ zWS := zin 440 (by decide +kernel) (by decide +kernel)
theorem jmK_98 : Cond.methodLink RK 98 yR_copy ∈ zWS := zin 444 (by decide +kernel) (by decide +kernel)
theorem jmK_102 : Cond.methodLink RK 102 yW_unite ∈ zWS := zin 458 (by decide +kernel) (by decide +kernel)
theorem jmK_105 : Cond.methodLink RK 105 yW_complement ∈ zWS := zin 470 (by decide +kernel) (by decide +kernel)
theorem jmK_111 : Cond.methodLink RK 111 yW_project ∈ zWS := zin 495 (by decide +kernel) (by decide +kernel)
theorem jmK_115 : Cond.methodLink RK 115 yK_requireTable ∈ zWS := zin 518 (by decide +kernel) (by decide +kernel)
theorem jmK_118 : Cond.methodLink RK 118 yR_rowCount ∈ zWS := zin 536 (by decide +kernel) (by decide +kernel)
theorem jmK_122 : Cond.methodLink RK 122 yK_requireRow ∈ zWS := zin 545 (by decide +kernel) (by decide +kernel)
theorem jmK_125 : Cond.methodLink RK 125 yR_memberCount ∈ zWS := zin 565 (by decide +kernel) (by decide +kernel)
theorem jmK_134 : Cond.methodLink RK 134 yR_x ∈ zWS := zin 574 (by decide +kernel) (by decide +kernel)
theorem jmK_138 : Cond.methodLink RK 138 yR_y ∈ zWS := zin 575 (by decide +kernel) (by decide +kernel)
theorem jmK_141 : Cond.methodLink RK 141 yR_bound ∈ zWS := zin 576 (by decide +kernel) (by decide +kernel)
theorem jmK_144 : Cond.methodLink RK 144 yR_isStrict ∈ zWS := zin 577 (by decide +kernel) (by decide +kernel)
theorem jmK_154 : Cond.methodLink RK 154 yR_hasPoint ∈ zWS := zin 588 (by decide +kernel) (by decide +kernel)
theorem jmK_158 : Cond.methodLink RK 158 yW_setAside ∈ zWS := zin 603 (by decide +kernel) (by decide +kernel)
theorem jmK_165 : Cond.methodLink RK 165 yI_seek ∈ zWS := zin 613 (by decide +kernel) (by decide +kernel)
theorem jmK_171 : Cond.methodLink RK 171 yI_numerator ∈ zWS := zin 663 (by decide +kernel) (by decide +kernel)
theorem jmK_175 : Cond.methodLink RK 175 yI_denominator ∈ zWS := zin 667 (by decide +kernel) (by decide +kernel)
theorem jmD_40 : Cond.methodLink RD 40 yD_insert ∈ zWS := zin 273 (by decide +kernel) (by decide +kernel)
theorem jmD_44 : Cond.methodLink RD 44 yD_strengthen ∈ zWS := zin 277 (by decide +kernel) (by decide +kernel)
theorem jmD_48 : Cond.methodLink RD 48 yD_move ∈ zWS := zin 281 (by decide +kernel) (by decide +kernel)
theorem jmD_52 : Cond.methodLink RD 52 yS_reset ∈ zWS := zin 309 (by decide +kernel) (by decide +kernel)
theorem jmD_55 : Cond.methodLink RD 55 yS_narrow ∈ zWS := zin 313 (by decide +kernel) (by decide +kernel)
theorem jmD_59 : Cond.methodLink RD 59 yD_flip ∈ zWS := zin 321 (by decide +kernel) (by decide +kernel)
theorem jmD_63 : Cond.methodLink RD 63 yD_hasPoints ∈ zWS := zin 325 (by decide +kernel) (by decide +kernel)
theorem jmD_67 : Cond.methodLink RD 67 yD_remove ∈ zWS := zin 326 (by decide +kernel) (by decide +kernel)
theorem jmI_18 : Cond.methodLink RI 18 yI_forget ∈ zWS := zin 617 (by decide +kernel) (by decide +kernel)
theorem jmI_21 : Cond.methodLink RI 21 yR_rowCount ∈ zWS := zin 621 (by decide +kernel) (by decide +kernel)
theorem jmI_27 : Cond.methodLink RI 27 yI_seekInRow ∈ zWS := zin 622 (by decide +kernel) (by decide +kernel)
theorem jmI_34 : Cond.methodLink RI 34 yI_lowerToRow ∈ zWS := zin 646 (by decide +kernel) (by decide +kernel)
theorem jmI_37 : Cond.methodLink RI 37 yI_reduce ∈ zWS := zin 650 (by decide +kernel) (by decide +kernel)
theorem jmI_54 : Cond.methodLink RI 54 yR_memberCount ∈ zWS := zin 626 (by decide +kernel) (by decide +kernel)
theorem jmI_58 : Cond.methodLink RI 58 yI_side ∈ zWS := zin 627 (by decide +kernel) (by decide +kernel)
theorem jmI_62 : Cond.methodLink RI 62 yI_boundByOne ∈ zWS := zin 632 (by decide +kernel) (by decide +kernel)
theorem jmI_66 : Cond.methodLink RI 66 yI_boundByTwo ∈ zWS := zin 642 (by decide +kernel) (by decide +kernel)
theorem jmI_70 : Cond.methodLink RI 70 yR_y ∈ zWS := zin 630 (by decide +kernel) (by decide +kernel)
theorem jmI_74 : Cond.methodLink RI 74 yR_x ∈ zWS := zin 631 (by decide +kernel) (by decide +kernel)
theorem jmI_77 : Cond.methodLink RI 77 yR_bound ∈ zWS := zin 636 (by decide +kernel) (by decide +kernel)
theorem jmI_80 : Cond.methodLink RI 80 yR_isStrict ∈ zWS := zin 637 (by decide +kernel) (by decide +kernel)
theorem jmI_84 : Cond.methodLink RI 84 yI_raiseRow ∈ zWS := zin 638 (by decide +kernel) (by decide +kernel)
theorem jmR_28 : Cond.methodLink RR 28 yD_hasPoints ∈ zWS := zin 305 (by decide +kernel) (by decide +kernel)
theorem jmR_34 : Cond.methodLink RR 34 yD_dropImplied ∈ zWS := zin 317 (by decide +kernel) (by decide +kernel)
theorem jmR_37 : Cond.methodLink RR 37 yD_keepsLimits ∈ zWS := zin 330 (by decide +kernel) (by decide +kernel)
theorem jmR_40 : Cond.methodLink RR 40 yR_contains ∈ zWS := zin 336 (by decide +kernel) (by decide +kernel)
theorem jmR_44 : Cond.methodLink RR 44 yR_append ∈ zWS := zin 380 (by decide +kernel) (by decide +kernel)
theorem jmR_48 : Cond.methodLink RR 48 yR_isSame ∈ zWS := zin 340 (by decide +kernel) (by decide +kernel)
theorem jmR_52 : Cond.methodLink RR 52 yD_memberCount ∈ zWS := zin 344 (by decide +kernel) (by decide +kernel)
theorem jmR_56 : Cond.methodLink RR 56 yR_x ∈ zWS := zin 348 (by decide +kernel) (by decide +kernel)
theorem jmR_60 : Cond.methodLink RR 60 yD_x ∈ zWS := zin 352 (by decide +kernel) (by decide +kernel)
theorem jmR_63 : Cond.methodLink RR 63 yR_y ∈ zWS := zin 356 (by decide +kernel) (by decide +kernel)
theorem jmR_66 : Cond.methodLink RR 66 yD_y ∈ zWS := zin 360 (by decide +kernel) (by decide +kernel)
theorem jmR_68 : Cond.methodLink RR 68 yR_bound ∈ zWS := zin 364 (by decide +kernel) (by decide +kernel)
theorem jmR_71 : Cond.methodLink RR 71 yD_bound ∈ zWS := zin 368 (by decide +kernel) (by decide +kernel)
theorem jmR_73 : Cond.methodLink RR 73 yR_isStrict ∈ zWS := zin 372 (by decide +kernel) (by decide +kernel)
theorem jmR_77 : Cond.methodLink RR 77 yD_isStrict ∈ zWS := zin 376 (by decide +kernel) (by decide +kernel)
theorem jmR_80 : Cond.methodLink RR 80 yD_put ∈ zWS := zin 419 (by decide +kernel) (by decide +kernel)
theorem jmR_84 : Cond.methodLink RR 84 yR_rowHasPoint ∈ zWS := zin 592 (by decide +kernel) (by decide +kernel)
theorem jmW_29 : Cond.methodLink RW 29 yR_clear ∈ zWS := zin 405 (by decide +kernel) (by decide +kernel)
theorem jmW_32 : Cond.methodLink RW 32 yR_rowCount ∈ zWS := zin 406 (by decide +kernel) (by decide +kernel)
theorem jmW_36 : Cond.methodLink RW 36 yD_clear ∈ zWS := zin 410 (by decide +kernel) (by decide +kernel)
theorem jmW_37 : Cond.methodLink RW 37 yR_memberCount ∈ zWS := zin 411 (by decide +kernel) (by decide +kernel)
theorem jmW_41 : Cond.methodLink RW 41 yR_pour ∈ zWS := zin 415 (by decide +kernel) (by decide +kernel)
theorem jmW_45 : Cond.methodLink RW 45 yR_admit ∈ zWS := zin 420 (by decide +kernel) (by decide +kernel)
theorem jmW_49 : Cond.methodLink RW 49 yR_copy ∈ zWS := zin 462 (by decide +kernel) (by decide +kernel)
theorem jmW_53 : Cond.methodLink RW 53 yW_cut ∈ zWS := zin 474 (by decide +kernel) (by decide +kernel)
theorem jmW_57 : Cond.methodLink RW 57 yW_setAside ∈ zWS := zin 482 (by decide +kernel) (by decide +kernel)
theorem jmW_61 : Cond.methodLink RW 61 yW_intersect ∈ zWS := zin 486 (by decide +kernel) (by decide +kernel)
theorem jmW_65 : Cond.methodLink RW 65 yR_pourContrary ∈ zWS := zin 478 (by decide +kernel) (by decide +kernel)
theorem jmW_68 : Cond.methodLink RW 68 yW_eliminate ∈ zWS := zin 499 (by decide +kernel) (by decide +kernel)
theorem jmW_72 : Cond.methodLink RW 72 yW_entry ∈ zWS := zin 503 (by decide +kernel) (by decide +kernel)
theorem jmW_76 : Cond.methodLink RW 76 yR_x ∈ zWS := zin 506 (by decide +kernel) (by decide +kernel)
theorem jmW_80 : Cond.methodLink RW 80 yR_y ∈ zWS := zin 507 (by decide +kernel) (by decide +kernel)
theorem jmW_83 : Cond.methodLink RW 83 yR_bound ∈ zWS := zin 508 (by decide +kernel) (by decide +kernel)
theorem jmW_86 : Cond.methodLink RW 86 yR_isStrict ∈ zWS := zin 509 (by decide +kernel) (by decide +kernel)
theorem jmW_90 : Cond.methodLink RW 90 yD_put ∈ zWS := zin 510 (by decide +kernel) (by decide +kernel)
theorem jmM_76 : Cond.methodLink RM 76 yM_cross ∈ zWS := zin 870 (by decide +kernel) (by decide +kernel)
theorem jmM_98 : Cond.methodLink RM 98 yM_isBand ∈ zWS := zin 866 (by decide +kernel) (by decide +kernel)
theorem jmM_102 : Cond.methodLink RM 102 yM_band ∈ zWS := zin 874 (by decide +kernel) (by decide +kernel)
theorem jmM_105 : Cond.methodLink RM 105 yM_corner ∈ zWS := zin 881 (by decide +kernel) (by decide +kernel)
theorem jmM_109 : Cond.methodLink RM 109 yM_inCorner ∈ zWS := zin 886 (by decide +kernel) (by decide +kernel)
theorem jmM_113 : Cond.methodLink RM 113 yM_way ∈ zWS := zin 890 (by decide +kernel) (by decide +kernel)
theorem jmM_117 : Cond.methodLink RM 117 yM_inWay ∈ zWS := zin 894 (by decide +kernel) (by decide +kernel)
theorem jmM_120 : Cond.methodLink RM 120 yM_strictOnes ∈ zWS := zin 898 (by decide +kernel) (by decide +kernel)
theorem jmM_132 : Cond.methodLink RM 132 yM_compare ∈ zWS := zin 878 (by decide +kernel) (by decide +kernel)
theorem jmM_149 : Cond.methodLink RM 149 yM_place ∈ zWS := zin 910 (by decide +kernel) (by decide +kernel)
theorem jmM_153 : Cond.methodLink RM 153 yM_add ∈ zWS := zin 831 (by decide +kernel) (by decide +kernel)
theorem jmM_157 : Cond.methodLink RM 157 yM_swap ∈ zWS := zin 850 (by decide +kernel) (by decide +kernel)
theorem jmM_161 : Cond.methodLink RM 161 yM_divisor ∈ zWS := zin 843 (by decide +kernel) (by decide +kernel)
theorem jmM_165 : Cond.methodLink RM 165 yM_isBefore ∈ zWS := zin 846 (by decide +kernel) (by decide +kernel)
theorem jmM_168 : Cond.methodLink RM 168 yM_remove ∈ zWS := zin 854 (by decide +kernel) (by decide +kernel)
theorem jmM_172 : Cond.methodLink RM 172 yM_ask ∈ zWS := zin 858 (by decide +kernel) (by decide +kernel)
theorem jmM_175 : Cond.methodLink RM 175 yM_hasPoints ∈ zWS := zin 862 (by decide +kernel) (by decide +kernel)
theorem jmM_178 : Cond.methodLink RM 178 yM_thin ∈ zWS := zin 902 (by decide +kernel) (by decide +kernel)
theorem jmM_184 : Cond.methodLink RM 184 yM_normal ∈ zWS := zin 839 (by decide +kernel) (by decide +kernel)
theorem jmM_187 : Cond.methodLink RM 187 yM_isFar ∈ zWS := zin 818 (by decide +kernel) (by decide +kernel)
theorem jmM_191 : Cond.methodLink RM 191 yM_isRow ∈ zWS := zin 906 (by decide +kernel) (by decide +kernel)
theorem jmM_198 : Cond.methodLink RM 198 yM_begin ∈ zWS := zin 827 (by decide +kernel) (by decide +kernel)
theorem jmM_201 : Cond.methodLink RM 201 yM_addRow ∈ zWS := zin 921 (by decide +kernel) (by decide +kernel)
theorem jmM_205 : Cond.methodLink RM 205 yM_put ∈ zWS := zin 835 (by decide +kernel) (by decide +kernel)
theorem jmM_208 : Cond.methodLink RM 208 yM_parts ∈ zWS := zin 941 (by decide +kernel) (by decide +kernel)
theorem jmM_211 : Cond.methodLink RM 211 yM_both ∈ zWS := zin 917 (by decide +kernel) (by decide +kernel)
theorem jmM_214 : Cond.methodLink RM 214 yM_copy ∈ zWS := zin 925 (by decide +kernel) (by decide +kernel)
theorem jmM_223 : Cond.methodLink RM 223 yM_contrary ∈ zWS := zin 937 (by decide +kernel) (by decide +kernel)
theorem jmM_226 : Cond.methodLink RM 226 yM_freed ∈ zWS := zin 949 (by decide +kernel) (by decide +kernel)
theorem jmM_229 : Cond.methodLink RM 229 yM_isRowThere ∈ zWS := zin 977 (by decide +kernel) (by decide +kernel)
theorem jmM_251 : Cond.methodLink RM 251 yM_ofBand ∈ zWS := zin 997 (by decide +kernel) (by decide +kernel)
theorem jmM_255 : Cond.methodLink RM 255 yM_ofCorners ∈ zWS := zin 1001 (by decide +kernel) (by decide +kernel)
/-- links to private members of nest mates: no words of zWS (a warmer table keeps them by a law of their own) -/
def zNL : List (String × Nat × MethodName × String) := [(RK, 20, yD_init, "RegionDesk"), (RK, 27, yW_init, "RegionDesk"), (RK, 34, yI_init, "RegionDesk"), (RK, 39, yR_init, "RegionDesk"), (RD, 27, yS_init, "RegionDesk"), (RD, 36, yK_commonDivisor, "RegionDesk"), (RD, 72, yK_exceeds, "RegionDesk"), (RI, 50, yK_commonDivisor, "RegionDesk"), (RW, 9, yD_init, "RegionDesk"), (RW, 18, yR_init, "RegionDesk")]
def zNst (U : State) : Prop := ∀ q ∈ zNL, va_Nw (.methodLinkNest q.1 q.2.1 q.2.2.1 q.2.2.2) U
theorem zNL_tbl : ∀ q ∈ zNL, Cond.methodLinkNest q.1 q.2.1 q.2.2.1 q.2.2.2 ∈ tables_1 := by
  have h : ∀ k, k < 10 → ∀ q, zNL[k]? = some q → Cond.methodLinkNest q.1 q.2.1 q.2.2.1 q.2.2.2 ∈ tables_1 := by
    intro k hk
    match k, hk with
    | 0, _ => intro q hq; cases hq; exact List.mem_of_getElem? (i := 29) (by decide +kernel)
    | 1, _ => intro q hq; cases hq; exact List.mem_of_getElem? (i := 72) (by decide +kernel)
    | 2, _ => intro q hq; cases hq; exact List.mem_of_getElem? (i := 110) (by decide +kernel)
    | 3, _ => intro q hq; cases hq; exact List.mem_of_getElem? (i := 133) (by decide +kernel)
    | 4, _ => intro q hq; cases hq; exact List.mem_of_getElem? (i := 35) (by decide +kernel)
    | 5, _ => intro q hq; cases hq; exact List.mem_of_getElem? (i := 267) (by decide +kernel)
    | 6, _ => intro q hq; cases hq; exact List.mem_of_getElem? (i := 335) (by decide +kernel)
    | 7, _ => intro q hq; cases hq; exact List.mem_of_getElem? (i := 654) (by decide +kernel)
    | 8, _ => intro q hq; cases hq; exact List.mem_of_getElem? (i := 77) (by decide +kernel)
    | 9, _ => intro q hq; cases hq; exact List.mem_of_getElem? (i := 80) (by decide +kernel)
    | n + 10, h => omega
  intro q hq
  obtain ⟨k, hk⟩ := List.getElem?_of_mem hq
  exact h k (by have := (List.getElem?_eq_some_iff.mp hk).1; simpa [zNL] using this) q hk
theorem jlK_40 : Cond.constantLong RK 40 (10000 : Int64) ∈ zWS := zin 173 (by decide +kernel) (by decide +kernel)
theorem jlD_70 : Cond.constantLong RD 70 (10000 : Int64) ∈ zWS := zin 334 (by decide +kernel) (by decide +kernel)
theorem jlK_161 : Cond.constantLong RK 161 (100 : Int64) ∈ zWS := zin 611 (by decide +kernel) (by decide +kernel)
theorem jlM_194 : Cond.constantLong RM 194 (-10000 : Int64) ∈ zWS := zin 821 (by decide +kernel) (by decide +kernel)
theorem jlM_196 : Cond.constantLong RM 196 (10000 : Int64) ∈ zWS := zin 822 (by decide +kernel) (by decide +kernel)
theorem jlM_80 : Cond.constantLong RM 80 (-1 : Int64) ∈ zWS := zin 885 (by decide +kernel) (by decide +kernel)
end
section
/-! A memory of places: every object and array of class and reference has a place; the world of the kit is read off it. -/
abbrev zM : Type := (Nat → Nat → Int32) × (Nat → Nat → Int64) × (Nat → Nat → Nat)
def zI (M : zM) : Nat → Nat → Int32 := M.1
def zJ (M : zM) : Nat → Nat → Int64 := M.2.1
def zR (M : zM) : Nat → Nat → Nat := M.2.2
def zrI (M : zM) (k : Nat) (f : Nat → Int32) : zM := (fun a => if a = k then f else M.1 a, M.2.1, M.2.2)
def zrJ (M : zM) (k : Nat) (f : Nat → Int64) : zM := (M.1, fun a => if a = k then f else M.2.1 a, M.2.2)
def zrR (M : zM) (k : Nat) (f : Nat → Nat) : zM := (M.1, M.2.1, fun a => if a = k then f else M.2.2 a)
def zupR (f : Nat → Nat) (k x : Nat) : Nat → Nat := fun j => if j = k then x else f j
def zsI (M : zM) (k j : Nat) (v : Int32) : zM := zrI M k (upd (zI M k) j v)
def zsJ (M : zM) (k j : Nat) (v : Int64) : zM := zrJ M k (vp_updL (zJ M k) j v)
def zsR (M : zM) (k j v : Nat) : zM := zrR M k (zupR (zR M k) j v)
theorem zI_rI {M : zM} {k a : Nat} {f : Nat → Int32} : zI (zrI M k f) a = if a = k then f else zI M a := rfl
theorem zI_rJ {M : zM} {k : Nat} {f : Nat → Int64} : zI (zrJ M k f) = zI M := rfl
theorem zI_rR {M : zM} {k : Nat} {f : Nat → Nat} : zI (zrR M k f) = zI M := rfl
theorem zJ_rI {M : zM} {k : Nat} {f : Nat → Int32} : zJ (zrI M k f) = zJ M := rfl
theorem zJ_rJ {M : zM} {k a : Nat} {f : Nat → Int64} : zJ (zrJ M k f) a = if a = k then f else zJ M a := rfl
theorem zJ_rR {M : zM} {k : Nat} {f : Nat → Nat} : zJ (zrR M k f) = zJ M := rfl
theorem zR_rI {M : zM} {k : Nat} {f : Nat → Int32} : zR (zrI M k f) = zR M := rfl
theorem zR_rJ {M : zM} {k : Nat} {f : Nat → Int64} : zR (zrJ M k f) = zR M := rfl
theorem zR_rR {M : zM} {k a : Nat} {f : Nat → Nat} : zR (zrR M k f) a = if a = k then f else zR M a := rfl
theorem zI_sI {M : zM} {k j a b : Nat} {v : Int32} : zI (zsI M k j v) a b = if a = k then (if b = j then v else zI M k b) else zI M a b := by
  unfold zsI; rw [zI_rI]; by_cases h : a = k
  · rw [if_pos h, if_pos h]; rfl
  · rw [if_neg h, if_neg h]
theorem zJ_sJ {M : zM} {k j a b : Nat} {v : Int64} : zJ (zsJ M k j v) a b = if a = k then (if b = j then v else zJ M k b) else zJ M a b := by
  unfold zsJ; rw [zJ_rJ]; by_cases h : a = k
  · rw [if_pos h, if_pos h]; rfl
  · rw [if_neg h, if_neg h]
theorem zR_sR {M : zM} {k j a b : Nat} {v : Nat} : zR (zsR M k j v) a b = if a = k then (if b = j then v else zR M k b) else zR M a b := by
  unfold zsR; rw [zR_rR]; by_cases h : a = k
  · rw [if_pos h, if_pos h]; rfl
  · rw [if_neg h, if_neg h]
theorem zI_sJ {M : zM} {k j : Nat} {v : Int64} : zI (zsJ M k j v) = zI M := rfl
theorem zI_sR {M : zM} {k j v : Nat} : zI (zsR M k j v) = zI M := rfl
theorem zJ_sI {M : zM} {k j : Nat} {v : Int32} : zJ (zsI M k j v) = zJ M := rfl
theorem zJ_sR {M : zM} {k j v : Nat} : zJ (zsR M k j v) = zJ M := rfl
theorem zR_sI {M : zM} {k j : Nat} {v : Int32} : zR (zsI M k j v) = zR M := rfl
theorem zR_sJ {M : zM} {k j : Nat} {v : Int64} : zR (zsJ M k j v) = zR M := rfl
/-- a field's value, its references as places: kinds 0 int, 1 long, 2 a reference that may change, 3 + n: the place n further on -/
def zpv (M : zM) (k t j : Nat) : Value := match t with
  | 0 => .int (zI M k j)
  | 1 => .long (zJ M k j)
  | 2 => .ref (zR M k j)
  | t + 3 => .ref (k + t)
def zcv (ad : Nat → Nat) (v : Value) : Value := match v with
  | .ref k => .ref (ad k)
  | v => v
theorem zcv_cat (ad : Nat → Nat) (v : Value) : (zcv ad v).category = v.category := by cases v <;> rfl
def zfs (ad : Nat → Nat) (M : zM) (k : Nat) (ts : List Nat) : List Value := (List.range ts.length).map (fun j => zcv ad (zpv M k (ts.getD j 0) j))
theorem zfs_len {ad : Nat → Nat} {M : zM} {k : Nat} {ts : List Nat} : (zfs ad M k ts).length = ts.length := by simp [zfs]
theorem zfs_get {ad : Nat → Nat} {M : zM} {k j t : Nat} {ts : List Nat} (h : ts[j]? = some t) : (zfs ad M k ts)[j]? = some (zcv ad (zpv M k t j)) := by
  have hl : j < ts.length := (List.getElem?_eq_some_iff.mp h).1
  have hg : ts.getD j 0 = t := by rw [List.getD_eq_getElem?_getD, h]; rfl
  rw [zfs, List.getElem?_map, List.getElem?_range hl]
  show some (zcv ad (zpv M k (ts.getD j 0) j)) = _
  rw [hg]
theorem zfs_set {ad : Nat → Nat} {M M' : zM} {k j t : Nat} {v : Value} {ts : List Nat} (h : ts[j]? = some t) (hv : zcv ad (zpv M' k t j) = v) (ho : ∀ i t', i ≠ j → zpv M' k t' i = zpv M k t' i) : zfs ad M' k ts = (zfs ad M k ts).set j v := by
  apply List.ext_getElem?
  intro i
  by_cases hi : i = j
  · subst hi
    rw [List.getElem?_set_self (by rw [zfs_len]; exact (List.getElem?_eq_some_iff.mp h).1), zfs_get h, hv]
  · rw [List.getElem?_set_ne (Ne.symm hi)]
    cases h2 : ts[i]? with
    | none =>
      have h3 : ts.length ≤ i := List.getElem?_eq_none_iff.mp h2
      rw [List.getElem?_eq_none (by rw [zfs_len]; exact h3), List.getElem?_eq_none (by rw [zfs_len]; exact h3)]
    | some t' => rw [zfs_get h2, zfs_get h2, ho i t' hi]
abbrev zK4 : Type := ClassId × ClassId × ClassId × ClassId
def zent (ca : zK4) (ad : Nat → Nat) (M : zM) (k : Nat) : va_E := match zlay k with
  | (0, ci) => .inr (ci, zfs ad M k (ztyl ci))
  | (1, n) => .inl (ca.1, n, .inl (zI M k))
  | (2, n) => .inl (ca.2.1, n, .inr (.inl (zJ M k)))
  | (3, n) => .inl (ca.2.2.1, n, .inl (zI M k))
  | (_, n) => .inl (ca.2.2.2, n, .inr (.inr (.inr (.inr (fun j => some (ad (zel k j)))))))
theorem zent_0 {ca : zK4} {ad : Nat → Nat} {M : zM} {k ci : Nat} (h : zlay k = (0, ci)) : zent ca ad M k = .inr (ci, zfs ad M k (ztyl ci)) := by unfold zent; rw [h]; rfl
theorem zent_1 {ca : zK4} {ad : Nat → Nat} {M : zM} {k n : Nat} (h : zlay k = (1, n)) : zent ca ad M k = .inl (ca.1, n, .inl (zI M k)) := by unfold zent; rw [h]; rfl
theorem zent_2 {ca : zK4} {ad : Nat → Nat} {M : zM} {k n : Nat} (h : zlay k = (2, n)) : zent ca ad M k = .inl (ca.2.1, n, .inr (.inl (zJ M k))) := by unfold zent; rw [h]; rfl
theorem zent_3 {ca : zK4} {ad : Nat → Nat} {M : zM} {k n : Nat} (h : zlay k = (3, n)) : zent ca ad M k = .inl (ca.2.2.1, n, .inl (zI M k)) := by unfold zent; rw [h]; rfl
theorem zent_4 {ca : zK4} {ad : Nat → Nat} {M : zM} {k n : Nat} (h : zlay k = (4, n)) : zent ca ad M k = .inl (ca.2.2.2, n, .inr (.inr (.inr (.inr (fun j => some (ad (zel k j))))))) := by unfold zent; rw [h]; rfl
theorem zent_eq {ca : zK4} {ad : Nat → Nat} {M M' : zM} {k : Nat} (h1 : zI M' k = zI M k) (h2 : zJ M' k = zJ M k) (h3 : zR M' k = zR M k) : zent ca ad M' k = zent ca ad M k := by
  have hp : ∀ t j, zpv M' k t j = zpv M k t j := fun t j => by
    unfold zpv; rw [h1, h2, h3]
  have hf : ∀ ts, zfs ad M' k ts = zfs ad M k ts := fun ts => by
    unfold zfs
    exact List.map_congr_left (fun j _ => by rw [hp])
  unfold zent
  rw [h1, h2]
  simp only [hf]
def zwd (ca : zK4) (ad : Nat → Nat) (M : zM) : va_W := (List.range zNP).map (fun k => (ad k, zent ca ad M k))
theorem zwd_get {ca : zK4} {ad : Nat → Nat} {M : zM} {k : Nat} (h : k < zNP) : (zwd ca ad M)[k]? = some (ad k, zent ca ad M k) := by
  rw [zwd, List.getElem?_map, List.getElem?_range h]; rfl
theorem zwd_inv {ca : zK4} {ad : Nat → Nat} {M : zM} {k : Nat} {q : Nat × va_E} (h : (zwd ca ad M)[k]? = some q) : k < zNP ∧ q = (ad k, zent ca ad M k) := by
  have hl : k < (zwd ca ad M).length := (List.getElem?_eq_some_iff.mp h).1
  have hk : k < zNP := by simpa [zwd] using hl
  rw [zwd_get hk] at h
  exact ⟨hk, (Option.some.inj h).symm⟩
theorem zwd_len {ca : zK4} {ad : Nat → Nat} {M : zM} : (zwd ca ad M).length = zNP := by simp [zwd]
theorem zwd_set {ca : zK4} {ad : Nat → Nat} {M M' : zM} {k : Nat} {e : va_E} (hk : k < zNP) (he : zent ca ad M' k = e) (ho : ∀ i, i ≠ k → zent ca ad M' i = zent ca ad M i) : (zwd ca ad M).set k (ad k, e) = zwd ca ad M' := by
  apply List.ext_getElem?
  intro i
  by_cases hi : i = k
  · subst hi
    rw [List.getElem?_set_self (by rw [zwd_len]; exact hk), zwd_get hk, he]
  · rw [List.getElem?_set_ne (Ne.symm hi)]
    by_cases h2 : i < zNP
    · rw [zwd_get h2, zwd_get h2, ho i hi]
    · rw [List.getElem?_eq_none (by rw [zwd_len]; omega), List.getElem?_eq_none (by rw [zwd_len]; omega)]
def zInj (ad : Nat → Nat) : Prop := ∀ i j, i < zNP → j < zNP → ad i = ad j → i = j
def zA (ad : Nat → Nat) (sz : Nat) : Nat → Prop := fun q => (∃ k, k < zNP ∧ q = ad k) ∨ sz ≤ q
theorem zwd_D {ca : zK4} {ad : Nat → Nat} {M : zM} {sz : Nat} (hi : zInj ad) : va_D (zA ad sz) (zwd ca ad M) := by
  refine ⟨fun i j x y hx hy hxy => ?_, fun k q hq => ?_⟩
  · obtain ⟨h1, rfl⟩ := zwd_inv hx
    obtain ⟨h2, rfl⟩ := zwd_inv hy
    exact hi i j h1 h2 hxy
  · obtain ⟨h1, rfl⟩ := zwd_inv hq
    exact Or.inl ⟨k, h1, rfl⟩
/-- at a place lies an object of a class; an array of a kind (1 int, 2 long, 3 boolean, 4 Region) and a length -/
def zob (k ci : Nat) : Prop := k < zNP ∧ zlay k = (0, ci)
def zar (k t n : Nat) : Prop := k < zNP ∧ zlay k = (t, n)
def ztys (ca : zK4) : List (ClassId × FieldType) := [(ca.1, .int), (ca.2.1, .long), (ca.2.2.1, .boolean), (ca.2.2.2, .object zRegion)]
def zQc (D : va_G) (ca : zK4) (ad : Nat → Nat) (sz : Nat) (Q : Option Value → zM → Prop) : Array Value → State → Outcome → State → Prop := fun _ st oc t =>
  (∃ (r : Option Value) (M : zM), oc = .returned (r.map (zcv ad)) ∧ Q r M ∧ va_P D vwCl (zwd ca ad M) t.heap ∧ va_K D vwCl (ztys ca) t) ∧ va_F (zA ad sz) st t
/-- a method's contract: called with these arguments (references as places) at this memory it returns, and Q holds of what it answers and of the memory then -/
def zMet (l : Launch) (md : zMd) (rm : Room) (as : List Value) (M : zM) (Q : Option Value → zM → Prop) : Prop :=
  ∀ (D : va_G) (ca : zK4) (ad : Nat → Nat) (sz : Nat), Met l md.1 (zws md) rm (va_Pc (as.map (zcv ad)) (fun U => U.heap.size = sz ∧ va_P D vwCl (zwd ca ad M) U.heap ∧ va_K D vwCl (ztys ca) U ∧ zInj ad ∧ zNst U)) (zQc D ca ad sz Q) rm.cells rm.slots (zA ad sz)
abbrev zC := Program × Launch × Env × Room × State × MethodId × Array Value × List Frame × Method × Code × va_G × zK4 × (Nat → Nat)
abbrev zp (X : zC) : Program := X.1
abbrev zl (X : zC) : Launch := X.2.1
abbrev ze (X : zC) : Env := X.2.2.1
abbrev zRo (X : zC) : Room := X.2.2.2.1
abbrev zs (X : zC) : State := X.2.2.2.2.1
abbrev zm (X : zC) : MethodId := X.2.2.2.2.2.1
abbrev zas (X : zC) : Array Value := X.2.2.2.2.2.2.1
abbrev zbe (X : zC) : List Frame := X.2.2.2.2.2.2.2.1
abbrev zme (X : zC) : Method := X.2.2.2.2.2.2.2.2.1
abbrev zco (X : zC) : Code := X.2.2.2.2.2.2.2.2.2.1
abbrev zDD (X : zC) : va_G := X.2.2.2.2.2.2.2.2.2.2.1
abbrev zca (X : zC) : zK4 := X.2.2.2.2.2.2.2.2.2.2.2.1
abbrev zad (X : zC) : Nat → Nat := X.2.2.2.2.2.2.2.2.2.2.2.2
def zcl (ad : Nat → Nat) (L : List (Nat × Value)) : List (Nat × Value) := L.map (fun q => (q.1, zcv ad q.2))
/-- the machine, within a method, at pc, with these locals, this stack (references as places) and this memory, comes to an end of which Q holds -/
def zW (X : zC) (Q : Option Value → zM → Prop) (u : Nat × Nat) (pc : Nat) (L : List (Nat × Value)) (S : List Value) (M : zM) : Prop :=
  ∀ (ls : Array Slot) (H : Heap) (locs : List Loc), lv_has ls (zco X).maxLocals (zcl (zad X) L) → va_P (zDD X) vwCl (zwd (zca X) (zad X) M) H → va_S (zA (zad X) (zs X).heap.size) (zs X).heap H locs →
    W (zp X) (zl X) (ze X) (zRo X) (zs X) (zm X) (zas X) (zbe X) (zme X) (zco X) H locs u.1 u.2 (MQ (zbe X) (zQc (zDD X) (zca X) (zad X) (zs X).heap.size Q) (zas X) (zs X) (zRo X).cells (zRo X).slots (zA (zad X) (zs X).heap.size)) (F0 (zm X) pc ls (S.map (zcv (zad X))))
def zCx (X : zC) (l : Launch) (md : zMd) (rm : Room) : Prop :=
  (zp X).tables.exec = Jvm.exec ∧ (zco X).code = md.2.1 ∧ (zco X).maxLocals = md.2.2.1 ∧ (zs X).vm.findClass md.1.cls = some (zm X).cls ∧ (∀ w ∈ zws md, w.before (zas X) (zs X) = true) ∧ va_K (zDD X) vwCl (ztys (zca X)) (zs X) ∧ zInj (zad X) ∧ (zme X).sig.returnType = md.2.2.2 ∧ (zme X).locks = false ∧ zRo X = rm ∧ zl X = l ∧ zNst (zs X)
theorem zCx.w {X : zC} {l : Launch} {md : zMd} {rm : Room} (hc : zCx X l md rm) {w : Cond} (h : w ∈ zWS) : w.before (zas X) (zs X) = true := hc.2.2.2.2.1 w (List.mem_cons_of_mem _ h)
theorem lv_args_zcl (ad : Nat → Nat) (as : List Value) : ∀ i, lv_args i (as.map (zcv ad)) = zcl ad (lv_args i as) := by
  induction as with
  | nil => intro i; rfl
  | cons v t ih =>
    intro i
    show (i, zcv ad v) :: lv_args (if (zcv ad v).category = 2 then i + 2 else i + 1) (t.map (zcv ad)) = (i, zcv ad v) :: zcl ad (lv_args (if v.category = 2 then i + 2 else i + 1) t)
    rw [zcv_cat, ih]
theorem lg_sl_zcv (ad : Nat → Nat) (as : List Value) : (lg_sl (as.map (zcv ad))).length = (lg_sl as).length := by
  induction as with
  | nil => rfl
  | cons v t ih =>
    simp only [lg_sl, List.map_cons, List.flatMap_cons, List.length_append, zcv_cat] at ih ⊢
    rw [ih]
    split <;> rfl
theorem za_enter {l : Launch} {md : zMd} {rm : Room} {as : List Value} {M : zM} {Q : Option Value → zM → Prop} (hy : plainName md.1.cls = true) (hlen : (lg_sl as).length ≤ md.2.2.1)
    (body : ∀ X, zCx X l md rm → zW X Q (0, 0) 0 (lv_args 0 as) [] M) : zMet l md rm as M Q := by
  intro D ca ad sz
  refine Met.ofW (cc := md.2.1) (maxL := md.2.2.1) (ret := md.2.2.2) hy rfl ?_
  intro p e s m args below meth c s₁ B hml hv
  obtain ⟨rfl, hsz, hP, hK, hin, hnst⟩ := hv
  have hts := atoms_spec (ws := zws md) B.pre
  have hown : s.vm.findClass md.1.cls = some m.cls := findClass_of_methodNamed B.named
  subst hsz
  rw [lg_entry_eq]
  have hl := lv_entry (as.map (zcv ad)) (n := md.2.2.1) (by rw [lg_sl_zcv]; exact hlen)
  rw [lv_args_zcl] at hl
  exact body (p, l, e, rm, s, m, (as.map (zcv ad)).toArray, below, meth, c, D, ca, ad) ⟨B.exec, B.bytes, hml, hown, hts, hK, hin, B.returns, B.notSynchronized, rfl, rfl, hnst⟩ _ _ _ (by show lv_has _ c.maxLocals _; rw [hml]; exact hl) hP va_S.rf
end
section
section ZR
variable {X : zC} {l : Launch} {md : zMd} {rm : Room} {Q : Option Value → zM → Prop} {u : Nat × Nat} {pc : Nat} {L : List (Nat × Value)} {S : List Value} {M : zM}
def zget : List (Nat × Value) → Nat → Option Value
  | [], _ => none
  | q :: l, i => bif q.1 == i then some q.2 else zget l i
theorem zget_mem : ∀ {L : List (Nat × Value)} {i : Nat} {v : Value}, zget L i = some v → (i, v) ∈ L
  | [], _, _, h => by cases h
  | q :: l, i, v, h => by
    unfold zget at h
    by_cases hq : q.1 = i
    · rw [show (q.1 == i) = true from by simp [hq]] at h
      have h2 : q.2 = v := Option.some.inj h
      rw [← hq, ← h2]
      exact List.mem_cons_self
    · rw [show (q.1 == i) = false from by simp [hq]] at h
      exact List.mem_cons_of_mem _ (zget_mem h)
theorem zget_at {ls : Array Slot} {n : Nat} {ad : Nat → Nat} {L : List (Nat × Value)} {i : Nat} {v : Value} (hl : lv_has ls n (zcl ad L)) (h : zget L i = some v) : ls[i]? = some (.val (zcv ad v)) :=
  hl.2.2 (i, zcv ad v) (List.mem_map.mpr ⟨(i, v), zget_mem h, rfl⟩)
def zok1 (i : Nat) (q : Nat × Value) : Bool := !(q.1 == i) && !(q.1 + 1 == i && q.2.category == 2)
def zok2 (i : Nat) (q : Nat × Value) : Bool := !(q.1 == i) && (!(q.1 == i + 1) && !(q.1 + 1 == i && q.2.category == 2))
def zst (ok : Nat × Value → Bool) (i : Nat) (v : Value) : List (Nat × Value) → List (Nat × Value)
  | [] => [(i, v)]
  | q :: l => bif q.1 == i then (i, v) :: l.filter ok else bif ok q then q :: zst ok i v l else zst ok i v l
theorem zst_mem {ok : Nat × Value → Bool} {i : Nat} {v : Value} : ∀ {L : List (Nat × Value)} {q : Nat × Value}, q ∈ zst ok i v L → q = (i, v) ∨ (q ∈ L ∧ ok q = true)
  | [], q, h => Or.inl (List.mem_singleton.mp h)
  | a :: l, q, h => by
    unfold zst at h
    by_cases ha : a.1 = i
    · rw [show (a.1 == i) = true from by simp [ha], cond_true] at h
      rcases List.mem_cons.mp h with h | h
      · exact Or.inl h
      · exact Or.inr ⟨List.mem_cons_of_mem _ (List.mem_filter.mp h).1, (List.mem_filter.mp h).2⟩
    · rw [show (a.1 == i) = false from by simp [ha], cond_false] at h
      cases hk : ok a with
      | true =>
        rw [hk, cond_true] at h
        rcases List.mem_cons.mp h with h | h
        · exact Or.inr ⟨by rw [h]; exact List.mem_cons_self, by rw [h]; exact hk⟩
        · rcases zst_mem h with h | h
          · exact Or.inl h
          · exact Or.inr ⟨List.mem_cons_of_mem _ h.1, h.2⟩
      | false =>
        rw [hk, cond_false] at h
        rcases zst_mem h with h | h
        · exact Or.inl h
        · exact Or.inr ⟨List.mem_cons_of_mem _ h.1, h.2⟩
theorem lv_has_mono {ls : Array Slot} {n : Nat} {a b : List (Nat × Value)} (h : lv_has ls n a) (hs : ∀ q ∈ b, q ∈ a) : lv_has ls n b := ⟨h.1, h.2.1, fun q hq => h.2.2 q (hs q hq)⟩
theorem zst_1 {ad : Nat → Nat} {i : Nat} {v : Value} {L : List (Nat × Value)} : ∀ q ∈ zcl ad (zst (zok1 i) i v L), q ∈ (i, zcv ad v) :: (zcl ad L).filter (fun q => !(q.1 == i) && !(q.1 + 1 == i && q.2.category == 2)) := by
  intro q hq
  obtain ⟨q0, h0, rfl⟩ := List.mem_map.mp hq
  rcases zst_mem h0 with h | ⟨h1, h2⟩
  · subst h; exact List.mem_cons_self
  · refine List.mem_cons_of_mem _ (List.mem_filter.mpr ⟨List.mem_map.mpr ⟨q0, h1, rfl⟩, ?_⟩)
    show (!(q0.1 == i) && !(q0.1 + 1 == i && (zcv ad q0.2).category == 2)) = true
    rw [zcv_cat]; exact h2
theorem zst_2 {ad : Nat → Nat} {i : Nat} {v : Value} {L : List (Nat × Value)} : ∀ q ∈ zcl ad (zst (zok2 i) i v L), q ∈ (i, zcv ad v) :: (zcl ad L).filter (fun q => !(q.1 == i) && (!(q.1 == i + 1) && !(q.1 + 1 == i && q.2.category == 2))) := by
  intro q hq
  obtain ⟨q0, h0, rfl⟩ := List.mem_map.mp hq
  rcases zst_mem h0 with h | ⟨h1, h2⟩
  · subst h; exact List.mem_cons_self
  · refine List.mem_cons_of_mem _ (List.mem_filter.mpr ⟨List.mem_map.mpr ⟨q0, h1, rfl⟩, ?_⟩)
    show (!(q0.1 == i) && (!(q0.1 == i + 1) && !(q0.1 + 1 == i && (zcv ad q0.2).category == 2))) = true
    rw [zcv_cat]; exact h2
/-- fewer locals -/
theorem za_loc {L' : List (Nat × Value)} (h : ∀ q ∈ L', q ∈ L) (k : zW X Q u pc L' S M) : zW X Q u pc L S M := fun ls H locs hl hP hS =>
  k ls H locs (lv_has_mono hl (fun q hq => by
    obtain ⟨q0, h0, rfl⟩ := List.mem_map.mp hq
    exact List.mem_map.mpr ⟨q0, h q0 h0, rfl⟩)) hP hS
theorem za_take (n : Nat) (k : zW X Q u pc (L.take n) S M) : zW X Q u pc L S M := za_loc (fun q hq => List.mem_of_mem_take hq) k
theorem za_mono {Q' : Option Value → zM → Prop} (h : ∀ r M', Q' r M' → Q r M') (k : zW X Q' u pc L S M) : zW X Q u pc L S M := by
  intro ls H locs hl hP hS T hT Y
  obtain ⟨t, a, o, b1, b2, b3, b4⟩ := k ls H locs hl hP hS T hT Y
  obtain ⟨⟨r, M', c1, c2, c3⟩, c4⟩ := b3
  exact ⟨t, a, o, b1, b2, ⟨⟨r, M', c1, h r M' c2, c3⟩, c4⟩, b4⟩
theorem zMet_mono {l : Launch} {md : zMd} {rm : Room} {as : List Value} {M : zM} {Q Q' : Option Value → zM → Prop} (h : ∀ r M', Q' r M' → Q r M') (k : zMet l md rm as M Q') : zMet l md rm as M Q := by
  intro D ca ad sz p e ha hc hk s m args below hf happ hP hK
  obtain ⟨n, o, h1, h2, h3, b3, h5⟩ := k D ca ad sz p e ha hc hk s m args below hf happ hP hK
  obtain ⟨⟨r, M', c1, c2, c3⟩, c4⟩ := b3
  exact ⟨n, o, h1, h2, h3, ⟨⟨r, M', c1, h r M' c2, c3⟩, c4⟩, h5⟩
theorem za_iconst {n : Int} (hc : zCx X l md rm) (v : Int32) (hd : decode md.2.1 pc = .ok (.iconst n, 1)) (hv : Int32.ofInt n = v) (k : zW X Q u (pc + 1) L (.int v :: S) M) : zW X Q u pc L S M := fun ls H locs hl hP hS => lv_iconst hc.1 hc.2.1 hd hv (k ls H locs hl hP hS)
theorem za_bipush {n : Int} (hc : zCx X l md rm) (v : Int32) (hd : decode md.2.1 pc = .ok (.bipush n, 2)) (hv : (Int8.ofInt n).toInt32 = v) (k : zW X Q u (pc + 2) L (.int v :: S) M) : zW X Q u pc L S M := fun ls H locs hl hP hS => lv_bipush hc.1 hc.2.1 hd hv (k ls H locs hl hP hS)
theorem za_sipush {n : Int} (hc : zCx X l md rm) (v : Int32) (hd : decode md.2.1 pc = .ok (.sipush n, 3)) (hv : (Int16.ofInt n).toInt32 = v) (k : zW X Q u (pc + 3) L (.int v :: S) M) : zW X Q u pc L S M := fun ls H locs hl hP hS => lv_sipush hc.1 hc.2.1 hd hv (k ls H locs hl hP hS)
theorem za_lconst {n : Fin 2} (hc : zCx X l md rm) (v : Int64) (hd : decode md.2.1 pc = .ok (.lconst n, 1)) (hv : Int64.ofNat (n : Nat) = v) (k : zW X Q u (pc + 1) L (.long v :: S) M) : zW X Q u pc L S M := fun ls H locs hl hP hS => lv_lconst hc.1 hc.2.1 hd hv (k ls H locs hl hP hS)
theorem za_ldc {idx : Nat} (hc : zCx X l md rm) (v : Int32) (hd : decode md.2.1 pc = .ok (.ldc idx, 2)) (hw : Cond.constant md.1.cls idx v ∈ zWS) (k : zW X Q u (pc + 2) L (.int v :: S) M) : zW X Q u pc L S M := fun ls H locs hl hP hS => lv_ldc hc.1 hc.2.1 hc.2.2.2.1 (hc.w hw) hd (k ls H locs hl hP hS)
theorem za_ldc2 {idx : Nat} (hc : zCx X l md rm) (v : Int64) (hd : decode md.2.1 pc = .ok (.ldc2_w idx, 3)) (hw : Cond.constantLong md.1.cls idx v ∈ zWS) (k : zW X Q u (pc + 3) L (.long v :: S) M) : zW X Q u pc L S M := fun ls H locs hl hP hS => lv_ldc2 hc.1 hc.2.1 hc.2.2.2.1 (hc.w hw) hd (k ls H locs hl hP hS)
theorem za_iload {i : Nat} {x : Int32} (hc : zCx X l md rm) (hd : decode md.2.1 pc = .ok (.iload i, 2)) (hg : zget L i = some (.int x)) (k : zW X Q u (pc + 2) L (.int x :: S) M) : zW X Q u pc L S M := fun ls H locs hl hP hS => lv_iload hc.1 hc.2.1 hd (zget_at hl hg) (k ls H locs hl hP hS)
theorem za_iload_n {i : Fin 4} {x : Int32} (hc : zCx X l md rm) (hd : decode md.2.1 pc = .ok (.iload_n i, 1)) (hg : zget L i.val = some (.int x)) (k : zW X Q u (pc + 1) L (.int x :: S) M) : zW X Q u pc L S M := fun ls H locs hl hP hS => lv_iload_n hc.1 hc.2.1 hd rfl (zget_at hl hg) (k ls H locs hl hP hS)
theorem za_istore {i : Nat} {x : Int32} (hc : zCx X l md rm) (hd : decode md.2.1 pc = .ok (.istore i, 2)) (hn : i < md.2.2.1) (k : zW X Q u (pc + 2) (zst (zok1 i) i (.int x) L) S M) : zW X Q u pc L (.int x :: S) M := fun ls H locs hl hP hS => lv_istore hc.1 hc.2.1 hd hl (by rw [hc.2.2.1]; exact hn) rfl (fun ls' hl' => k ls' H locs (lv_has_mono hl' zst_1) hP hS)
theorem za_istore_n {i : Fin 4} {x : Int32} (hc : zCx X l md rm) (hd : decode md.2.1 pc = .ok (.istore_n i, 1)) (hn : i.val < md.2.2.1) (k : zW X Q u (pc + 1) (zst (zok1 i.val) i.val (.int x) L) S M) : zW X Q u pc L (.int x :: S) M := fun ls H locs hl hP hS => lv_istore_n hc.1 hc.2.1 hd rfl hl (by rw [hc.2.2.1]; exact hn) rfl (fun ls' hl' => k ls' H locs (lv_has_mono hl' zst_1) hP hS)
theorem za_lload {i : Nat} {x : Int64} (hc : zCx X l md rm) (hd : decode md.2.1 pc = .ok (.lload i, 2)) (hg : zget L i = some (.long x)) (k : zW X Q u (pc + 2) L (.long x :: S) M) : zW X Q u pc L S M := fun ls H locs hl hP hS => lv_lload hc.1 hc.2.1 hd (zget_at hl hg) (k ls H locs hl hP hS)
theorem za_lload_n {i : Fin 4} {x : Int64} (hc : zCx X l md rm) (hd : decode md.2.1 pc = .ok (.lload_n i, 1)) (hg : zget L i.val = some (.long x)) (k : zW X Q u (pc + 1) L (.long x :: S) M) : zW X Q u pc L S M := fun ls H locs hl hP hS => lv_lload_n hc.1 hc.2.1 hd rfl (zget_at hl hg) (k ls H locs hl hP hS)
theorem za_lstore {i : Nat} {x : Int64} (hc : zCx X l md rm) (hd : decode md.2.1 pc = .ok (.lstore i, 2)) (hn : i + 1 < md.2.2.1) (k : zW X Q u (pc + 2) (zst (zok2 i) i (.long x) L) S M) : zW X Q u pc L (.long x :: S) M := fun ls H locs hl hP hS => lv_lstore hc.1 hc.2.1 hd hl (by rw [hc.2.2.1]; exact hn) rfl (fun ls' hl' => k ls' H locs (lv_has_mono hl' zst_2) hP hS)
theorem za_lstore_n {i : Fin 4} {x : Int64} (hc : zCx X l md rm) (hd : decode md.2.1 pc = .ok (.lstore_n i, 1)) (hn : i.val + 1 < md.2.2.1) (k : zW X Q u (pc + 1) (zst (zok2 i.val) i.val (.long x) L) S M) : zW X Q u pc L (.long x :: S) M := fun ls H locs hl hP hS => lv_lstore_n hc.1 hc.2.1 hd rfl hl (by rw [hc.2.2.1]; exact hn) rfl (fun ls' hl' => k ls' H locs (lv_has_mono hl' zst_2) hP hS)
theorem za_aload {i : Nat} {x : Nat} (hc : zCx X l md rm) (hd : decode md.2.1 pc = .ok (.aload i, 2)) (hg : zget L i = some (.ref x)) (k : zW X Q u (pc + 2) L (.ref x :: S) M) : zW X Q u pc L S M := fun ls H locs hl hP hS => lv_aload hc.1 hc.2.1 hd (zget_at hl hg) (k ls H locs hl hP hS)
theorem za_aload_n {i : Fin 4} {x : Nat} (hc : zCx X l md rm) (hd : decode md.2.1 pc = .ok (.aload_n i, 1)) (hg : zget L i.val = some (.ref x)) (k : zW X Q u (pc + 1) L (.ref x :: S) M) : zW X Q u pc L S M := fun ls H locs hl hP hS => lv_aload_n hc.1 hc.2.1 hd rfl (zget_at hl hg) (k ls H locs hl hP hS)
theorem za_astore {i : Nat} {x : Nat} (hc : zCx X l md rm) (hd : decode md.2.1 pc = .ok (.astore i, 2)) (hn : i < md.2.2.1) (k : zW X Q u (pc + 2) (zst (zok1 i) i (.ref x) L) S M) : zW X Q u pc L (.ref x :: S) M := fun ls H locs hl hP hS => lv_astore hc.1 hc.2.1 hd hl (by rw [hc.2.2.1]; exact hn) rfl (fun ls' hl' => k ls' H locs (lv_has_mono hl' zst_1) hP hS)
theorem za_astore_n {i : Fin 4} {x : Nat} (hc : zCx X l md rm) (hd : decode md.2.1 pc = .ok (.astore_n i, 1)) (hn : i.val < md.2.2.1) (k : zW X Q u (pc + 1) (zst (zok1 i.val) i.val (.ref x) L) S M) : zW X Q u pc L (.ref x :: S) M := fun ls H locs hl hP hS => lv_astore_n hc.1 hc.2.1 hd rfl hl (by rw [hc.2.2.1]; exact hn) rfl (fun ls' hl' => k ls' H locs (lv_has_mono hl' zst_1) hP hS)
theorem za_iinc {i : Nat} {n : Int} {x : Int32} (hc : zCx X l md rm) (v : Int32) (hd : decode md.2.1 pc = .ok (.iinc i n, 3)) (hg : zget L i = some (.int x)) (hv : x + Int32.ofInt n = v) (hn : i < md.2.2.1) (k : zW X Q u (pc + 3) (zst (zok1 i) i (.int v) L) S M) : zW X Q u pc L S M := by
  intro ls H locs hl hP hS
  have hm : (i, Value.int x) ∈ zcl (zad X) L := List.mem_map.mpr ⟨(i, .int x), zget_mem hg, rfl⟩
  obtain ⟨j, hj⟩ := List.getElem?_of_mem hm
  exact lv_iinc hc.1 hc.2.1 hd hl hj hv (by rw [hc.2.2.1]; exact hn) rfl (fun ls' hl' => k ls' H locs (lv_has_mono hl' zst_1) hP hS)
theorem za_iadd {x y : Int32} (hc : zCx X l md rm) (hd : decode md.2.1 pc = .ok (.iadd, 1)) (k : zW X Q u (pc + 1) L (.int (x + y) :: S) M) : zW X Q u pc L (.int y :: .int x :: S) M := fun ls H locs hl hP hS => lv_iadd hc.1 hc.2.1 hd (k ls H locs hl hP hS)
theorem za_isub {x y : Int32} (hc : zCx X l md rm) (hd : decode md.2.1 pc = .ok (.isub, 1)) (k : zW X Q u (pc + 1) L (.int (x - y) :: S) M) : zW X Q u pc L (.int y :: .int x :: S) M := fun ls H locs hl hP hS => lv_isub hc.1 hc.2.1 hd (k ls H locs hl hP hS)
theorem za_imul {x y : Int32} (hc : zCx X l md rm) (hd : decode md.2.1 pc = .ok (.imul, 1)) (k : zW X Q u (pc + 1) L (.int (x * y) :: S) M) : zW X Q u pc L (.int y :: .int x :: S) M := fun ls H locs hl hP hS => lv_imul hc.1 hc.2.1 hd (k ls H locs hl hP hS)
theorem za_iand {x y : Int32} (hc : zCx X l md rm) (hd : decode md.2.1 pc = .ok (.iand, 1)) (k : zW X Q u (pc + 1) L (.int (x &&& y) :: S) M) : zW X Q u pc L (.int y :: .int x :: S) M := fun ls H locs hl hP hS => lv_iand hc.1 hc.2.1 hd (k ls H locs hl hP hS)
theorem za_ior {x y : Int32} (hc : zCx X l md rm) (hd : decode md.2.1 pc = .ok (.ior, 1)) (k : zW X Q u (pc + 1) L (.int (x ||| y) :: S) M) : zW X Q u pc L (.int y :: .int x :: S) M := fun ls H locs hl hP hS => lv_ior hc.1 hc.2.1 hd (k ls H locs hl hP hS)
theorem za_ixor {x y : Int32} (hc : zCx X l md rm) (hd : decode md.2.1 pc = .ok (.ixor, 1)) (k : zW X Q u (pc + 1) L (.int (x ^^^ y) :: S) M) : zW X Q u pc L (.int y :: .int x :: S) M := fun ls H locs hl hP hS => lv_ixor hc.1 hc.2.1 hd (k ls H locs hl hP hS)
theorem za_idiv {x y : Int32} (hc : zCx X l md rm) (hd : decode md.2.1 pc = .ok (.idiv, 1)) (hne : ¬ y = 0) (k : zW X Q u (pc + 1) L (.int (x / y) :: S) M) : zW X Q u pc L (.int y :: .int x :: S) M := fun ls H locs hl hP hS => lv_idiv hc.1 hc.2.1 hd hne (k ls H locs hl hP hS)
theorem za_irem {x y : Int32} (hc : zCx X l md rm) (hd : decode md.2.1 pc = .ok (.irem, 1)) (hne : ¬ y = 0) (k : zW X Q u (pc + 1) L (.int (x - x / y * y) :: S) M) : zW X Q u pc L (.int y :: .int x :: S) M := fun ls H locs hl hP hS => lv_irem hc.1 hc.2.1 hd hne (k ls H locs hl hP hS)
theorem za_ladd {x y : Int64} (hc : zCx X l md rm) (hd : decode md.2.1 pc = .ok (.ladd, 1)) (k : zW X Q u (pc + 1) L (.long (x + y) :: S) M) : zW X Q u pc L (.long y :: .long x :: S) M := fun ls H locs hl hP hS => lv_ladd hc.1 hc.2.1 hd (k ls H locs hl hP hS)
theorem za_lsub {x y : Int64} (hc : zCx X l md rm) (hd : decode md.2.1 pc = .ok (.lsub, 1)) (k : zW X Q u (pc + 1) L (.long (x - y) :: S) M) : zW X Q u pc L (.long y :: .long x :: S) M := fun ls H locs hl hP hS => lv_lsub hc.1 hc.2.1 hd (k ls H locs hl hP hS)
theorem za_lmul {x y : Int64} (hc : zCx X l md rm) (hd : decode md.2.1 pc = .ok (.lmul, 1)) (k : zW X Q u (pc + 1) L (.long (x * y) :: S) M) : zW X Q u pc L (.long y :: .long x :: S) M := fun ls H locs hl hP hS => lv_lmul hc.1 hc.2.1 hd (k ls H locs hl hP hS)
theorem za_land {x y : Int64} (hc : zCx X l md rm) (hd : decode md.2.1 pc = .ok (.land, 1)) (k : zW X Q u (pc + 1) L (.long (x &&& y) :: S) M) : zW X Q u pc L (.long y :: .long x :: S) M := fun ls H locs hl hP hS => lv_land hc.1 hc.2.1 hd (k ls H locs hl hP hS)
theorem za_lor {x y : Int64} (hc : zCx X l md rm) (hd : decode md.2.1 pc = .ok (.lor, 1)) (k : zW X Q u (pc + 1) L (.long (x ||| y) :: S) M) : zW X Q u pc L (.long y :: .long x :: S) M := fun ls H locs hl hP hS => lv_lor hc.1 hc.2.1 hd (k ls H locs hl hP hS)
theorem za_lxor {x y : Int64} (hc : zCx X l md rm) (hd : decode md.2.1 pc = .ok (.lxor, 1)) (k : zW X Q u (pc + 1) L (.long (x ^^^ y) :: S) M) : zW X Q u pc L (.long y :: .long x :: S) M := fun ls H locs hl hP hS => lv_lxor hc.1 hc.2.1 hd (k ls H locs hl hP hS)
theorem za_ldiv {x y : Int64} (hc : zCx X l md rm) (hd : decode md.2.1 pc = .ok (.ldiv, 1)) (hne : ¬ y = 0) (k : zW X Q u (pc + 1) L (.long (x / y) :: S) M) : zW X Q u pc L (.long y :: .long x :: S) M := fun ls H locs hl hP hS => lv_ldiv hc.1 hc.2.1 hd hne (k ls H locs hl hP hS)
theorem za_lrem {x y : Int64} (hc : zCx X l md rm) (hd : decode md.2.1 pc = .ok (.lrem, 1)) (hne : ¬ y = 0) (k : zW X Q u (pc + 1) L (.long (x - x / y * y) :: S) M) : zW X Q u pc L (.long y :: .long x :: S) M := fun ls H locs hl hP hS => lv_lrem hc.1 hc.2.1 hd hne (k ls H locs hl hP hS)
theorem za_ineg {x : Int32} (hc : zCx X l md rm) (hd : decode md.2.1 pc = .ok (.ineg, 1)) (k : zW X Q u (pc + 1) L (.int (-x) :: S) M) : zW X Q u pc L (.int x :: S) M := fun ls H locs hl hP hS => lv_ineg hc.1 hc.2.1 hd (k ls H locs hl hP hS)
theorem za_lneg {x : Int64} (hc : zCx X l md rm) (hd : decode md.2.1 pc = .ok (.lneg, 1)) (k : zW X Q u (pc + 1) L (.long (-x) :: S) M) : zW X Q u pc L (.long x :: S) M := fun ls H locs hl hP hS => lv_lneg hc.1 hc.2.1 hd (k ls H locs hl hP hS)
theorem za_i2l {x : Int32} (hc : zCx X l md rm) (hd : decode md.2.1 pc = .ok (.i2l, 1)) (k : zW X Q u (pc + 1) L (.long x.toInt64 :: S) M) : zW X Q u pc L (.int x :: S) M := fun ls H locs hl hP hS => lv_i2l hc.1 hc.2.1 hd rfl (k ls H locs hl hP hS)
theorem za_l2i {x : Int64} (hc : zCx X l md rm) (hd : decode md.2.1 pc = .ok (.l2i, 1)) (k : zW X Q u (pc + 1) L (.int x.toInt32 :: S) M) : zW X Q u pc L (.long x :: S) M := fun ls H locs hl hP hS => lv_l2i hc.1 hc.2.1 hd rfl (k ls H locs hl hP hS)
theorem za_lshl {x : Int64} {y : Int32} (hc : zCx X l md rm) (hd : decode md.2.1 pc = .ok (.lshl, 1)) (k : zW X Q u (pc + 1) L (.long (x <<< (y.toInt64 &&& 63)) :: S) M) : zW X Q u pc L (.int y :: .long x :: S) M := fun ls H locs hl hP hS => lv_lshl hc.1 hc.2.1 hd rfl (k ls H locs hl hP hS)
theorem za_dup {v : Value} (hc : zCx X l md rm) (hd : decode md.2.1 pc = .ok (.dup, 1)) (hv : v.category = 1) (k : zW X Q u (pc + 1) L (v :: v :: S) M) : zW X Q u pc L (v :: S) M := fun ls H locs hl hP hS => lv_dup hc.1 hc.2.1 hd (by rw [zcv_cat]; exact hv) (k ls H locs hl hP hS)
theorem za_pop {v : Value} (hc : zCx X l md rm) (hd : decode md.2.1 pc = .ok (.pop, 1)) (hv : v.category = 1) (k : zW X Q u (pc + 1) L S M) : zW X Q u pc L (v :: S) M := fun ls H locs hl hP hS => lv_pop hc.1 hc.2.1 hd (by rw [zcv_cat]; exact hv) (k ls H locs hl hP hS)
theorem za_dup_x1 {v w : Value} (hc : zCx X l md rm) (hd : decode md.2.1 pc = .ok (.dup_x1, 1)) (hv : v.category = 1) (hw : w.category = 1) (k : zW X Q u (pc + 1) L (v :: w :: v :: S) M) : zW X Q u pc L (v :: w :: S) M := fun ls H locs hl hP hS => lv_dup_x1 hc.1 hc.2.1 hd (by rw [zcv_cat]; exact hv) (by rw [zcv_cat]; exact hw) (k ls H locs hl hP hS)
theorem za_dup2 {v w : Value} (hc : zCx X l md rm) (hd : decode md.2.1 pc = .ok (.dup2, 1)) (hv : v.category = 1) (hw : w.category = 1) (k : zW X Q u (pc + 1) L (v :: w :: v :: w :: S) M) : zW X Q u pc L (v :: w :: S) M := fun ls H locs hl hP hS => lv_dup2_11 hc.1 hc.2.1 hd (by rw [zcv_cat]; exact hv) (by rw [zcv_cat]; exact hw) (k ls H locs hl hP hS)
theorem za_goto {off : Int} (tgt : Nat) (hc : zCx X l md rm) (hd : decode md.2.1 pc = .ok (.goto off, 3)) (ht : (pc : Int) + off = (tgt : Int)) (k : zW X Q u tgt L S M) : zW X Q u pc L S M := fun ls H locs hl hP hS => lv_goto hc.1 hc.2.1 hd ht (k ls H locs hl hP hS)
theorem za_if_eq {off : Int} {x : Int32} (tgt : Nat) (hc : zCx X l md rm) (hd : decode md.2.1 pc = .ok (.ifCond .eq off, 3)) (ht : (pc : Int) + off = (tgt : Int)) (kt : x = 0 → zW X Q u tgt L S M) (kf : ¬ x = 0 → zW X Q u (pc + 3) L S M) : zW X Q u pc L (.int x :: S) M := fun ls H locs hl hP hS => lv_if_eq hc.1 hc.2.1 hd ht (fun h => kt h ls H locs hl hP hS) (fun h => kf h ls H locs hl hP hS)
theorem za_icmp_eq {off : Int} {x y : Int32} (tgt : Nat) (hc : zCx X l md rm) (hd : decode md.2.1 pc = .ok (.if_icmp .eq off, 3)) (ht : (pc : Int) + off = (tgt : Int)) (kt : x = y → zW X Q u tgt L S M) (kf : ¬ x = y → zW X Q u (pc + 3) L S M) : zW X Q u pc L (.int y :: .int x :: S) M := fun ls H locs hl hP hS => lv_icmp_eq hc.1 hc.2.1 hd ht (fun h => kt h ls H locs hl hP hS) (fun h => kf h ls H locs hl hP hS)
theorem za_lcmp_eq {off : Int} {x y : Int64} (tgt : Nat) (hc : zCx X l md rm) (hd : decode md.2.1 pc = .ok (.lcmp, 1)) (hd2 : decode md.2.1 (pc + 1) = .ok (.ifCond .eq off, 3)) (ht : ((pc + 1 : Nat) : Int) + off = (tgt : Int)) (kt : x = y → zW X Q u tgt L S M) (kf : ¬ x = y → zW X Q u (pc + 1 + 3) L S M) : zW X Q u pc L (.long y :: .long x :: S) M := fun ls H locs hl hP hS => W.lcmp hc.1 hc.2.1 hd (lv_if_eq hc.1 hc.2.1 hd2 ht (fun h => kt ((lg_cmp_eq x y).mp h) ls H locs hl hP hS) (fun h => kf (fun z => h ((lg_cmp_eq x y).mpr z)) ls H locs hl hP hS))
theorem za_if_ne {off : Int} {x : Int32} (tgt : Nat) (hc : zCx X l md rm) (hd : decode md.2.1 pc = .ok (.ifCond .ne off, 3)) (ht : (pc : Int) + off = (tgt : Int)) (kt : ¬ x = 0 → zW X Q u tgt L S M) (kf : x = 0 → zW X Q u (pc + 3) L S M) : zW X Q u pc L (.int x :: S) M := fun ls H locs hl hP hS => lv_if_ne hc.1 hc.2.1 hd ht (fun h => kt h ls H locs hl hP hS) (fun h => kf h ls H locs hl hP hS)
theorem za_icmp_ne {off : Int} {x y : Int32} (tgt : Nat) (hc : zCx X l md rm) (hd : decode md.2.1 pc = .ok (.if_icmp .ne off, 3)) (ht : (pc : Int) + off = (tgt : Int)) (kt : ¬ x = y → zW X Q u tgt L S M) (kf : x = y → zW X Q u (pc + 3) L S M) : zW X Q u pc L (.int y :: .int x :: S) M := fun ls H locs hl hP hS => lv_icmp_ne hc.1 hc.2.1 hd ht (fun h => kt h ls H locs hl hP hS) (fun h => kf h ls H locs hl hP hS)
theorem za_lcmp_ne {off : Int} {x y : Int64} (tgt : Nat) (hc : zCx X l md rm) (hd : decode md.2.1 pc = .ok (.lcmp, 1)) (hd2 : decode md.2.1 (pc + 1) = .ok (.ifCond .ne off, 3)) (ht : ((pc + 1 : Nat) : Int) + off = (tgt : Int)) (kt : ¬ x = y → zW X Q u tgt L S M) (kf : x = y → zW X Q u (pc + 1 + 3) L S M) : zW X Q u pc L (.long y :: .long x :: S) M := fun ls H locs hl hP hS => W.lcmp hc.1 hc.2.1 hd (lv_if_ne hc.1 hc.2.1 hd2 ht (fun h => kt (fun z => h ((lg_cmp_eq x y).mpr z)) ls H locs hl hP hS) (fun h => kf ((lg_cmp_eq x y).mp h) ls H locs hl hP hS))
theorem za_if_lt {off : Int} {x : Int32} (tgt : Nat) (hc : zCx X l md rm) (hd : decode md.2.1 pc = .ok (.ifCond .lt off, 3)) (ht : (pc : Int) + off = (tgt : Int)) (kt : x < 0 → zW X Q u tgt L S M) (kf : ¬ x < 0 → zW X Q u (pc + 3) L S M) : zW X Q u pc L (.int x :: S) M := fun ls H locs hl hP hS => lv_if_lt hc.1 hc.2.1 hd ht (fun h => kt h ls H locs hl hP hS) (fun h => kf h ls H locs hl hP hS)
theorem za_icmp_lt {off : Int} {x y : Int32} (tgt : Nat) (hc : zCx X l md rm) (hd : decode md.2.1 pc = .ok (.if_icmp .lt off, 3)) (ht : (pc : Int) + off = (tgt : Int)) (kt : x < y → zW X Q u tgt L S M) (kf : ¬ x < y → zW X Q u (pc + 3) L S M) : zW X Q u pc L (.int y :: .int x :: S) M := fun ls H locs hl hP hS => lv_icmp_lt hc.1 hc.2.1 hd ht (fun h => kt h ls H locs hl hP hS) (fun h => kf h ls H locs hl hP hS)
theorem za_lcmp_lt {off : Int} {x y : Int64} (tgt : Nat) (hc : zCx X l md rm) (hd : decode md.2.1 pc = .ok (.lcmp, 1)) (hd2 : decode md.2.1 (pc + 1) = .ok (.ifCond .lt off, 3)) (ht : ((pc + 1 : Nat) : Int) + off = (tgt : Int)) (kt : x < y → zW X Q u tgt L S M) (kf : ¬ x < y → zW X Q u (pc + 1 + 3) L S M) : zW X Q u pc L (.long y :: .long x :: S) M := fun ls H locs hl hP hS => W.lcmp hc.1 hc.2.1 hd (lv_if_lt hc.1 hc.2.1 hd2 ht (fun h => kt ((lg_cmp_lt x y).mp h) ls H locs hl hP hS) (fun h => kf (fun z => h ((lg_cmp_lt x y).mpr z)) ls H locs hl hP hS))
theorem za_if_ge {off : Int} {x : Int32} (tgt : Nat) (hc : zCx X l md rm) (hd : decode md.2.1 pc = .ok (.ifCond .ge off, 3)) (ht : (pc : Int) + off = (tgt : Int)) (kt : 0 ≤ x → zW X Q u tgt L S M) (kf : ¬ 0 ≤ x → zW X Q u (pc + 3) L S M) : zW X Q u pc L (.int x :: S) M := fun ls H locs hl hP hS => lv_if_ge hc.1 hc.2.1 hd ht (fun h => kt h ls H locs hl hP hS) (fun h => kf h ls H locs hl hP hS)
theorem za_icmp_ge {off : Int} {x y : Int32} (tgt : Nat) (hc : zCx X l md rm) (hd : decode md.2.1 pc = .ok (.if_icmp .ge off, 3)) (ht : (pc : Int) + off = (tgt : Int)) (kt : y ≤ x → zW X Q u tgt L S M) (kf : ¬ y ≤ x → zW X Q u (pc + 3) L S M) : zW X Q u pc L (.int y :: .int x :: S) M := fun ls H locs hl hP hS => lv_icmp_ge hc.1 hc.2.1 hd ht (fun h => kt h ls H locs hl hP hS) (fun h => kf h ls H locs hl hP hS)
theorem za_lcmp_ge {off : Int} {x y : Int64} (tgt : Nat) (hc : zCx X l md rm) (hd : decode md.2.1 pc = .ok (.lcmp, 1)) (hd2 : decode md.2.1 (pc + 1) = .ok (.ifCond .ge off, 3)) (ht : ((pc + 1 : Nat) : Int) + off = (tgt : Int)) (kt : y ≤ x → zW X Q u tgt L S M) (kf : ¬ y ≤ x → zW X Q u (pc + 1 + 3) L S M) : zW X Q u pc L (.long y :: .long x :: S) M := fun ls H locs hl hP hS => W.lcmp hc.1 hc.2.1 hd (lv_if_ge hc.1 hc.2.1 hd2 ht (fun h => kt ((lg_cmp_ge x y).mp h) ls H locs hl hP hS) (fun h => kf (fun z => h ((lg_cmp_ge x y).mpr z)) ls H locs hl hP hS))
theorem za_if_gt {off : Int} {x : Int32} (tgt : Nat) (hc : zCx X l md rm) (hd : decode md.2.1 pc = .ok (.ifCond .gt off, 3)) (ht : (pc : Int) + off = (tgt : Int)) (kt : 0 < x → zW X Q u tgt L S M) (kf : ¬ 0 < x → zW X Q u (pc + 3) L S M) : zW X Q u pc L (.int x :: S) M := fun ls H locs hl hP hS => lv_if_gt hc.1 hc.2.1 hd ht (fun h => kt h ls H locs hl hP hS) (fun h => kf h ls H locs hl hP hS)
theorem za_icmp_gt {off : Int} {x y : Int32} (tgt : Nat) (hc : zCx X l md rm) (hd : decode md.2.1 pc = .ok (.if_icmp .gt off, 3)) (ht : (pc : Int) + off = (tgt : Int)) (kt : y < x → zW X Q u tgt L S M) (kf : ¬ y < x → zW X Q u (pc + 3) L S M) : zW X Q u pc L (.int y :: .int x :: S) M := fun ls H locs hl hP hS => lv_icmp_gt hc.1 hc.2.1 hd ht (fun h => kt h ls H locs hl hP hS) (fun h => kf h ls H locs hl hP hS)
theorem za_lcmp_gt {off : Int} {x y : Int64} (tgt : Nat) (hc : zCx X l md rm) (hd : decode md.2.1 pc = .ok (.lcmp, 1)) (hd2 : decode md.2.1 (pc + 1) = .ok (.ifCond .gt off, 3)) (ht : ((pc + 1 : Nat) : Int) + off = (tgt : Int)) (kt : y < x → zW X Q u tgt L S M) (kf : ¬ y < x → zW X Q u (pc + 1 + 3) L S M) : zW X Q u pc L (.long y :: .long x :: S) M := fun ls H locs hl hP hS => W.lcmp hc.1 hc.2.1 hd (lv_if_gt hc.1 hc.2.1 hd2 ht (fun h => kt ((lg_cmp_gt x y).mp h) ls H locs hl hP hS) (fun h => kf (fun z => h ((lg_cmp_gt x y).mpr z)) ls H locs hl hP hS))
theorem za_if_le {off : Int} {x : Int32} (tgt : Nat) (hc : zCx X l md rm) (hd : decode md.2.1 pc = .ok (.ifCond .le off, 3)) (ht : (pc : Int) + off = (tgt : Int)) (kt : x ≤ 0 → zW X Q u tgt L S M) (kf : ¬ x ≤ 0 → zW X Q u (pc + 3) L S M) : zW X Q u pc L (.int x :: S) M := fun ls H locs hl hP hS => lv_if_le hc.1 hc.2.1 hd ht (fun h => kt h ls H locs hl hP hS) (fun h => kf h ls H locs hl hP hS)
theorem za_icmp_le {off : Int} {x y : Int32} (tgt : Nat) (hc : zCx X l md rm) (hd : decode md.2.1 pc = .ok (.if_icmp .le off, 3)) (ht : (pc : Int) + off = (tgt : Int)) (kt : x ≤ y → zW X Q u tgt L S M) (kf : ¬ x ≤ y → zW X Q u (pc + 3) L S M) : zW X Q u pc L (.int y :: .int x :: S) M := fun ls H locs hl hP hS => lv_icmp_le hc.1 hc.2.1 hd ht (fun h => kt h ls H locs hl hP hS) (fun h => kf h ls H locs hl hP hS)
theorem za_lcmp_le {off : Int} {x y : Int64} (tgt : Nat) (hc : zCx X l md rm) (hd : decode md.2.1 pc = .ok (.lcmp, 1)) (hd2 : decode md.2.1 (pc + 1) = .ok (.ifCond .le off, 3)) (ht : ((pc + 1 : Nat) : Int) + off = (tgt : Int)) (kt : x ≤ y → zW X Q u tgt L S M) (kf : ¬ x ≤ y → zW X Q u (pc + 1 + 3) L S M) : zW X Q u pc L (.long y :: .long x :: S) M := fun ls H locs hl hP hS => W.lcmp hc.1 hc.2.1 hd (lv_if_le hc.1 hc.2.1 hd2 ht (fun h => kt ((lg_cmp_le x y).mp h) ls H locs hl hP hS) (fun h => kf (fun z => h ((lg_cmp_le x y).mpr z)) ls H locs hl hP hS))
theorem za_iret {v : Int32} (hc : zCx X l md rm) (hr : md.2.2.2 = (some .int)) (hd : decode md.2.1 pc = .ok (.ireturn, 1)) (hu : u.1 ≤ rm.cells ∧ u.2 ≤ rm.slots) (hq : Q (some (.int v)) M) : zW X Q u pc L [.int v] M := by
  intro ls H locs hl hP hS
  have hR := hc.2.2.2.2.2.2.2.2.2.1
  refine W.widen (k := (zRo X).cells) (n := (zRo X).slots) (by rw [hR]; exact hu.1) (by rw [hR]; exact hu.2) ?_
  exact W.iret hc.1 hc.2.1 (hc.2.2.2.2.2.2.2.1.trans hr) (fun t ht hW => ⟨⟨some (.int v), M, rfl, hq, by rw [ht]; exact hP, va_K.moved hW.alike hc.2.2.2.2.2.1⟩, hS.F ht⟩) hS.2.2 hd hc.2.2.2.2.2.2.2.2.1
theorem za_lret {v : Int64} (hc : zCx X l md rm) (hr : md.2.2.2 = (some .long)) (hd : decode md.2.1 pc = .ok (.lreturn, 1)) (hu : u.1 ≤ rm.cells ∧ u.2 ≤ rm.slots) (hq : Q (some (.long v)) M) : zW X Q u pc L [.long v] M := by
  intro ls H locs hl hP hS
  have hR := hc.2.2.2.2.2.2.2.2.2.1
  refine W.widen (k := (zRo X).cells) (n := (zRo X).slots) (by rw [hR]; exact hu.1) (by rw [hR]; exact hu.2) ?_
  exact W.lret hc.1 hc.2.1 (hc.2.2.2.2.2.2.2.1.trans hr) (fun t ht hW => ⟨⟨some (.long v), M, rfl, hq, by rw [ht]; exact hP, va_K.moved hW.alike hc.2.2.2.2.2.1⟩, hS.F ht⟩) hS.2.2 hd hc.2.2.2.2.2.2.2.2.1
theorem za_zret {v : Int32} {ty : FieldType} (hc : zCx X l md rm) (hr : md.2.2.2 = some ty) (hn : narrow ty (.int v) = .int v) (hd : decode md.2.1 pc = .ok (.ireturn, 1)) (hu : u.1 ≤ rm.cells ∧ u.2 ≤ rm.slots) (hq : Q (some (.int v)) M) : zW X Q u pc L [.int v] M := by
  intro ls H locs hl hP hS
  have hR := hc.2.2.2.2.2.2.2.2.2.1
  refine W.widen (k := (zRo X).cells) (n := (zRo X).slots) (by rw [hR]; exact hu.1) (by rw [hR]; exact hu.2) ?_
  exact W.zret hc.1 hc.2.1 (hc.2.2.2.2.2.2.2.1.trans hr) hn (fun t ht hW => ⟨⟨some (.int v), M, rfl, hq, by rw [ht]; exact hP, va_K.moved hW.alike hc.2.2.2.2.2.1⟩, hS.F ht⟩) hS.2.2 hd hc.2.2.2.2.2.2.2.2.1
theorem za_aret {v : Nat} {C : String} (hc : zCx X l md rm) (hr : md.2.2.2 = some (.object C)) (hd : decode md.2.1 pc = .ok (.areturn, 1)) (hu : u.1 ≤ rm.cells ∧ u.2 ≤ rm.slots) (hq : Q (some (.ref v)) M) : zW X Q u pc L [.ref v] M := by
  intro ls H locs hl hP hS
  have hR := hc.2.2.2.2.2.2.2.2.2.1
  refine W.widen (k := (zRo X).cells) (n := (zRo X).slots) (by rw [hR]; exact hu.1) (by rw [hR]; exact hu.2) ?_
  exact W.aret (v := .ref (zad X v)) hc.1 hc.2.1 (hc.2.2.2.2.2.2.2.1.trans hr) (Or.inl ⟨_, rfl⟩) (Or.inr ⟨_, rfl⟩) (fun t ht hW => ⟨⟨some (.ref v), M, rfl, hq, by rw [ht]; exact hP, va_K.moved hW.alike hc.2.2.2.2.2.1⟩, hS.F ht⟩) hS.2.2 hd hc.2.2.2.2.2.2.2.2.1
theorem za_vret (hc : zCx X l md rm) (hr : md.2.2.2 = none) (hd : decode md.2.1 pc = .ok (.return_, 1)) (hu : u.1 ≤ rm.cells ∧ u.2 ≤ rm.slots) (hq : Q none M) : zW X Q u pc L [] M := by
  intro ls H locs hl hP hS
  have hR := hc.2.2.2.2.2.2.2.2.2.1
  refine W.widen (k := (zRo X).cells) (n := (zRo X).slots) (by rw [hR]; exact hu.1) (by rw [hR]; exact hu.2) ?_
  exact W.vret hc.1 hc.2.1 (hc.2.2.2.2.2.2.2.1.trans hr) (fun t ht hW => ⟨⟨none, M, rfl, hq, by rw [ht]; exact hP, va_K.moved hW.alike hc.2.2.2.2.2.1⟩, hS.F ht⟩) hS.2.2 hd hc.2.2.2.2.2.2.2.2.1
theorem za_iald {k n : Nat} {i : Int32} (hc : zCx X l md rm) (ha : zar k 1 n) (hd : decode md.2.1 pc = .ok (.iaload, 1)) (hin : vp_in i n) (kk : zW X Q u (pc + 1) L (.int (zI M k i.toNatClampNeg) :: S) M) : zW X Q u pc L (.int i :: .ref k :: S) M := fun ls H locs hl hP hS => va_iald hc.1 hc.2.1 hc.2.2.2.2.2.1 hP k 0 (by rw [zwd_get ha.1, zent_1 ha.2]) rfl hin hd (kk ls H locs hl hP hS)
theorem za_lald {k n : Nat} {i : Int32} (hc : zCx X l md rm) (ha : zar k 2 n) (hd : decode md.2.1 pc = .ok (.laload, 1)) (hin : vp_in i n) (kk : zW X Q u (pc + 1) L (.long (zJ M k i.toNatClampNeg) :: S) M) : zW X Q u pc L (.int i :: .ref k :: S) M := fun ls H locs hl hP hS => va_lald hc.1 hc.2.1 hc.2.2.2.2.2.1 hP k 1 (by rw [zwd_get ha.1, zent_2 ha.2]) rfl hin hd (kk ls H locs hl hP hS)
theorem za_zald {k n : Nat} {i : Int32} (hc : zCx X l md rm) (ha : zar k 3 n) (hd : decode md.2.1 pc = .ok (.baload, 1)) (hin : vp_in i n) (kk : zW X Q u (pc + 1) L (.int (zI M k i.toNatClampNeg) :: S) M) : zW X Q u pc L (.int i :: .ref k :: S) M := fun ls H locs hl hP hS => va_zald hc.1 hc.2.1 hc.2.2.2.2.2.1 hP k 2 (by rw [zwd_get ha.1, zent_3 ha.2]) rfl hin hd (kk ls H locs hl hP hS)
theorem za_aald {k n : Nat} {i : Int32} (hc : zCx X l md rm) (ha : zar k 4 n) (hd : decode md.2.1 pc = .ok (.aaload, 1)) (hin : vp_in i n) (kk : zW X Q u (pc + 1) L (.ref (zel k i.toNatClampNeg) :: S) M) : zW X Q u pc L (.int i :: .ref k :: S) M := fun ls H locs hl hP hS => va_aldq (f := fun j => some (zad X (zel k j))) hc.1 hc.2.1 hc.2.2.2.2.2.1 hP k 3 (by rw [zwd_get ha.1, zent_4 ha.2]) rfl hin hd (kk ls H locs hl hP hS)
theorem zent_rI {ca : zK4} {ad : Nat → Nat} {M : zM} {k i : Nat} {f : Nat → Int32} (h : i ≠ k) : zent ca ad (zrI M k f) i = zent ca ad M i := zent_eq (by rw [zI_rI, if_neg h]) rfl rfl
theorem zent_rJ {ca : zK4} {ad : Nat → Nat} {M : zM} {k i : Nat} {f : Nat → Int64} (h : i ≠ k) : zent ca ad (zrJ M k f) i = zent ca ad M i := zent_eq rfl (by rw [zJ_rJ, if_neg h]) rfl
theorem zent_rR {ca : zK4} {ad : Nat → Nat} {M : zM} {k i : Nat} {f : Nat → Nat} (h : i ≠ k) : zent ca ad (zrR M k f) i = zent ca ad M i := zent_eq rfl rfl (by rw [zR_rR, if_neg h])
theorem za_iast {k n : Nat} {i : Int32} {x : Int32} (hc : zCx X l md rm) (ha : zar k 1 n) (hd : decode md.2.1 pc = .ok (.iastore, 1)) (hin : vp_in i n) (kk : zW X Q u (pc + 1) L S (zsI M k i.toNatClampNeg x)) : zW X Q u pc L (.int x :: .int i :: .ref k :: S) M := by
  intro ls H locs hl hP hS
  refine va_iast hc.1 hc.2.1 hc.2.2.2.2.2.1 hP (zwd_D hc.2.2.2.2.2.2.1) hS k 0 (by rw [zwd_get ha.1, zent_1 ha.2]) rfl hin hd (fun H1 locs1 hP1 _ hS1 => kk ls H1 locs1 hl ?_ hS1)
  have e : zI (zsI M k i.toNatClampNeg x) k = upd (zI M k) i.toNatClampNeg x := by unfold zsI; rw [zI_rI, if_pos rfl]
  rw [← zwd_set (M := M) (M' := zsI M k i.toNatClampNeg x) ha.1 (zent_1 ha.2) (fun i h => zent_rI h), e]
  exact hP1
theorem za_last {k n : Nat} {i : Int32} {x : Int64} (hc : zCx X l md rm) (ha : zar k 2 n) (hd : decode md.2.1 pc = .ok (.lastore, 1)) (hin : vp_in i n) (kk : zW X Q u (pc + 1) L S (zsJ M k i.toNatClampNeg x)) : zW X Q u pc L (.long x :: .int i :: .ref k :: S) M := by
  intro ls H locs hl hP hS
  refine va_last hc.1 hc.2.1 hc.2.2.2.2.2.1 hP (zwd_D hc.2.2.2.2.2.2.1) hS k 1 (by rw [zwd_get ha.1, zent_2 ha.2]) rfl hin hd (fun H1 locs1 hP1 _ hS1 => kk ls H1 locs1 hl ?_ hS1)
  have e : zJ (zsJ M k i.toNatClampNeg x) k = vp_updL (zJ M k) i.toNatClampNeg x := by unfold zsJ; rw [zJ_rJ, if_pos rfl]
  rw [← zwd_set (M := M) (M' := zsJ M k i.toNatClampNeg x) ha.1 (zent_2 ha.2) (fun i h => zent_rJ h), e]
  exact hP1
theorem za_zast {k n : Nat} {i : Int32} {x : Int32} (hc : zCx X l md rm) (ha : zar k 3 n) (hd : decode md.2.1 pc = .ok (.bastore, 1)) (hin : vp_in i n) (kk : zW X Q u (pc + 1) L S (zsI M k i.toNatClampNeg (vp_nar .boolean x))) : zW X Q u pc L (.int x :: .int i :: .ref k :: S) M := by
  intro ls H locs hl hP hS
  refine va_zast hc.1 hc.2.1 hc.2.2.2.2.2.1 hP (zwd_D hc.2.2.2.2.2.2.1) hS k 2 (by rw [zwd_get ha.1, zent_3 ha.2]) rfl hin hd (fun H1 locs1 hP1 _ hS1 => kk ls H1 locs1 hl ?_ hS1)
  have e : zI (zsI M k i.toNatClampNeg (vp_nar .boolean x)) k = upd (zI M k) i.toNatClampNeg (vp_nar .boolean x) := by unfold zsI; rw [zI_rI, if_pos rfl]
  rw [← zwd_set (M := M) (M' := zsI M k i.toNatClampNeg (vp_nar .boolean x)) ha.1 (zent_3 ha.2) (fun i h => zent_rI h), e]
  exact hP1
/-- a field of class number ci, its slot j, of kind t, as entry idx of own's pool names it -/
def zFld (own : String) (idx : Nat) (ci j t : Nat) : Prop := ∃ (C : String) (T : u_T) (N : Nat), vwCl[ci]? = some (C, T, N) ∧ j < N ∧ (ztyl ci)[j]? = some t ∧ (∀ w ∈ u_ws C T N, w ∈ zWS) ∧ Cond.fieldLink own idx C (T j).2.1 (T j).2.2.1 ∈ zWS ∧ (T j).1 = C
/-- .. one that may be written: of this type -/
def zPut (own : String) (idx : Nat) (ci j t : Nat) (ty : FieldType) : Prop := ∃ (C : String) (T : u_T) (N : Nat) (ty0 : Nat → FieldType), vwCl[ci]? = some (C, T, N) ∧ j < N ∧ (ztyl ci)[j]? = some t ∧ (∀ w ∈ u_ws C T N, w ∈ zWS) ∧ Cond.fieldLink own idx C (T j).2.1 (T j).2.2.1 ∈ zWS ∧ (T j).1 = C ∧
  (∀ k, k < N → parseFieldDescriptor (T k).2.2.1 = some (ty0 k)) ∧ (∀ a, a < N → ∀ b, b < N → a ≠ b → (T a).2.1 ≠ (T b).2.1) ∧ (T j).2.2.2 = false ∧ parseFieldDescriptor (T j).2.2.1 = some ty
theorem za_get {k ci j t idx : Nat} (hc : zCx X l md rm) (hf : zFld md.1.cls idx ci j t) (ho : zob k ci) (hd : decode md.2.1 pc = .ok (.getfield idx, 3)) (kk : zW X Q u (pc + 3) L (zpv M k t j :: S) M) : zW X Q u pc L (.ref k :: S) M := by
  intro ls H locs hl hP hS
  obtain ⟨C, T, N, h1, h2, h3, h4, h5, h6⟩ := hf
  exact va_get hc.1 hc.2.1 hc.2.2.2.2.1 (fun w h => List.mem_cons_of_mem _ (h4 w h)) hc.2.2.2.1 hc.2.2.2.2.2.1 hP k (by rw [zwd_get ho.1, zent_0 ho.2]) h1 j h2 (hc.w h5) (fun x hx => by rw [h6] at hx; exact hx) (zfs_get h3) hd (kk ls H locs hl hP hS)
theorem za_put0 {k ci j t idx : Nat} {v : Value} {ty : FieldType} {M' : zM} (hc : zCx X l md rm) (hf : zPut md.1.cls idx ci j t ty) (ho : zob k ci) (hd : decode md.2.1 pc = .ok (.putfield idx, 3)) (hn : ∀ ad, narrow ty (zcv ad v) = zcv ad v) (hft : ∀ ad, fits ty (zcv ad v) = true) (hv : zpv M' k t j = v) (hi : ∀ i t', i ≠ j → zpv M' k t' i = zpv M k t' i) (hx : ∀ ca ad i, i ≠ k → zent ca ad M' i = zent ca ad M i)
    (kk : zW X Q u (pc + 3) L S M') : zW X Q u pc L (v :: .ref k :: S) M := by
  intro ls H locs hl hP hS
  obtain ⟨C, T, N, ty0, h1, h2, h3, h4, h5, h6, h7, h8, h9, h10⟩ := hf
  refine va_put hc.1 hc.2.1 hc.2.2.2.2.1 (fun w h => List.mem_cons_of_mem _ (h4 w h)) ty0 h7 h8 hc.2.2.2.1 hc.2.2.2.2.2.1 hP (zwd_D hc.2.2.2.2.2.2.1) hS k (by rw [zwd_get ho.1, zent_0 ho.2]) h1 j h2 (hc.w h5) (fun x hx => by rw [h6] at hx; exact hx) h9 h10 (hn _) (hft _) (by rw [zfs_len]; exact (List.getElem?_eq_some_iff.mp h3).1) hd (fun H1 locs1 hP1 _ hS1 => kk ls H1 locs1 hl ?_ hS1)
  rw [← zwd_set (M := M) ho.1 (zent_0 ho.2) (fun i h => hx _ _ i h), zfs_set (M := M) h3 (by rw [hv]) hi]
  exact hP1
theorem zpv_sI {M : zM} {k j i t : Nat} {v : Int32} (h : i ≠ j) : zpv (zsI M k j v) k t i = zpv M k t i := by
  unfold zpv
  rw [zI_sI, if_pos rfl, if_neg h, zJ_sI, zR_sI]
theorem zpv_sJ {M : zM} {k j i t : Nat} {v : Int64} (h : i ≠ j) : zpv (zsJ M k j v) k t i = zpv M k t i := by
  unfold zpv
  rw [zJ_sJ, if_pos rfl, if_neg h, zI_sJ, zR_sJ]
theorem zpv_sR {M : zM} {k j i t : Nat} {v : Nat} (h : i ≠ j) : zpv (zsR M k j v) k t i = zpv M k t i := by
  unfold zpv
  rw [zR_sR, if_pos rfl, if_neg h, zI_sR, zJ_sR]
theorem za_putI {k ci j idx : Nat} {v : Int32} (hc : zCx X l md rm) (hf : zPut md.1.cls idx ci j 0 .int) (ho : zob k ci) (hd : decode md.2.1 pc = .ok (.putfield idx, 3)) (kk : zW X Q u (pc + 3) L S (zsI M k j v)) : zW X Q u pc L (.int v :: .ref k :: S) M :=
  za_put0 (v := .int v) hc hf ho hd (fun _ => rfl) (fun _ => rfl) (by show Value.int _ = _; rw [zI_sI, if_pos rfl, if_pos rfl]) (fun i t' h => zpv_sI h) (fun ca ad i h => zent_rI h) kk
theorem za_putZ {k ci j idx : Nat} {v : Int32} (hc : zCx X l md rm) (hf : zPut md.1.cls idx ci j 0 .boolean) (ho : zob k ci) (hv : narrow .boolean (.int v) = .int v ∧ fits .boolean (.int v) = true) (hd : decode md.2.1 pc = .ok (.putfield idx, 3)) (kk : zW X Q u (pc + 3) L S (zsI M k j v)) : zW X Q u pc L (.int v :: .ref k :: S) M :=
  za_put0 (v := .int v) hc hf ho hd (fun _ => hv.1) (fun _ => hv.2) (by show Value.int _ = _; rw [zI_sI, if_pos rfl, if_pos rfl]) (fun i t' h => zpv_sI h) (fun ca ad i h => zent_rI h) kk
theorem za_putJ {k ci j idx : Nat} {v : Int64} (hc : zCx X l md rm) (hf : zPut md.1.cls idx ci j 1 .long) (ho : zob k ci) (hd : decode md.2.1 pc = .ok (.putfield idx, 3)) (kk : zW X Q u (pc + 3) L S (zsJ M k j v)) : zW X Q u pc L (.long v :: .ref k :: S) M :=
  za_put0 (v := .long v) hc hf ho hd (fun _ => rfl) (fun _ => rfl) (by show Value.long _ = _; rw [zJ_sJ, if_pos rfl, if_pos rfl]) (fun i t' h => zpv_sJ h) (fun ca ad i h => zent_rJ h) kk
theorem za_putR {k ci j idx v : Nat} {C : String} (hc : zCx X l md rm) (hf : zPut md.1.cls idx ci j 2 (.object C)) (ho : zob k ci) (hd : decode md.2.1 pc = .ok (.putfield idx, 3)) (kk : zW X Q u (pc + 3) L S (zsR M k j v)) : zW X Q u pc L (.ref v :: .ref k :: S) M :=
  za_put0 (v := .ref v) hc hf ho hd (fun _ => rfl) (fun _ => rfl) (by show Value.ref _ = _; rw [zR_sR, if_pos rfl, if_pos rfl]) (fun i t' h => zpv_sR h) (fun ca ad i h => zent_rR h) kk
end ZR
end
section
section ZCA
variable {X : zC} {l : Launch} {md : zMd} {rm : Room} {Q : Option Value → zM → Prop} {u : Nat × Nat} {pc : Nat} {L : List (Nat × Value)} {S : List Value} {M : zM}
abbrev zPc (X : zC) (as : List Value) (M : zM) (sz : Nat) : Array Value → State → Prop := va_Pc (as.map (zcv (zad X))) (fun U => U.heap.size = sz ∧ va_P (zDD X) vwCl (zwd (zca X) (zad X) M) U.heap ∧ va_K (zDD X) vwCl (ztys (zca X)) U ∧ zInj (zad X) ∧ zNst U)
theorem zback {n sz W : Nat} {md' : zMd} {rm' : Room} {as : List Value} {Q' : Option Value → zM → Prop} (hc : zCx X l md rm) (hs : zKn md' n) (hM : zMet l md' rm' as M Q') (hd : rm'.frames + 1 ≤ rm.frames ∧ W + (md'.2.2.1 + 11) + rm'.locals ≤ rm.locals) :
    Back (zl X) (zRo X) (zp X) (ze X) (zbe X) (zs X) (zas X) md'.1 3 W (PreOf (zRo X) rm'.cells rm'.slots (zPc X as M sz)) (PostOf (zQc (zDD X) (zca X) (zad X) sz Q') rm'.cells rm'.slots (zA (zad X) sz)) := by
  obtain ⟨hco, hini, -, -⟩ := hs
  have hMM := hM (zDD X) (zca X) (zad X) sz
  rw [← hc.2.2.2.2.2.2.2.2.2.2.1] at hMM
  have hR := hc.2.2.2.2.2.2.2.2.2.1
  exact back_of (bytes := md'.2.1) (maxL := md'.2.2.1) (ret := md'.2.2.2) hMM (fun a U g mk q => by
      obtain ⟨q0, q1, qP, qK, qI, qN⟩ := q
      exact ⟨q0, q1, qP, va_K.moved (u := U) (U := U.calling g mk a) (Vm.Alike.refl U.vm) qK, qI, fun w hw => va_Nw.same rfl (u := U) (U := U.calling g mk a) rfl (qN w hw)⟩) rfl rfl (by rw [hR]; exact hd.1) (by rw [hR]; exact hd.2) (pay_in hc.2.2.2.2.1 (zgood hco)) List.mem_cons_self
    (fun a' U hW => word_at hW (Or.inl (by first | rfl | simp [Cond.onTables, Cond.keeps, Cond.steady])) (hc.w hini))
theorem zmap_out (f : Value → Value) (r : Option Value) (S : List Value) : (r.toList ++ S).map f = (r.map f).toList ++ S.map f := by cases r <;> rfl
theorem zmon {m : MethodId} {pc : Nat} {ls : Array Slot} {st : List Value} {f : Value → Value} (hf : ∀ v, (f v).category = v.category) {S : List Value} {W : Nat} (h : (S.map fun v => v.category).sum ≤ W) : 2 * (F0 m pc ls st).monitorRoom + ((S.map f).map fun v => v.category).sum ≤ W := by
  have e : ((S.map f).map fun v => v.category) = S.map fun v => v.category := by
    rw [List.map_map]
    exact List.map_congr_left (fun v _ => hf v)
  rw [e]
  show 2 * 0 + _ ≤ W
  omega
/-- what a call leaves: the walk goes on behind it -/
theorem zgoes {mc' ms' : Nat} {ls : Array Slot} {H : Heap} {locs L2 : List Loc} {st0 : List Value} {T U' : State} {v : Option Value} {Q' : Option Value → zM → Prop} {as : Array Value} {s0 t : State} (hS : va_S (zA (zad X) (zs X).heap.size) (zs X).heap H locs) (hl : lv_has ls (zco X).maxLocals (zcl (zad X) L)) (hs0 : s0.heap = H)
    (X' : Stand (zp X) (zl X) (ze X) (zRo X) (zs X) (zm X) (zas X) (zbe X) (zme X) (zco X) U' (locs ++ L2) (u.1 + mc') (u.2 + ms')) (hL : ∀ q ∈ L2, zA (zad X) H.size q.base) (e1 : U'.heap = t.heap)
    (hq : zQc (zDD X) (zca X) (zad X) H.size Q' as s0 (.returned v) t) (st : ∀ target, Steps (zp X).tables (ze X) (zbe X) (U'.setTop { (F0 (zm X) pc ls st0) with pc := pc + 3, stack := v.toList ++ S.map (zcv (zad X)) }) target → Steps (zp X).tables (ze X) (zbe X) (T.setTop (F0 (zm X) pc ls st0)) target)
    (kk : ∀ r M', Q' r M' → zW X Q (u.1 + mc', u.2 + ms') (pc + 3) L (r.toList ++ S) M') :
    ∃ t, Steps (zp X).tables (ze X) (zbe X) (T.setTop (F0 (zm X) pc ls st0)) t ∧ MQ (zbe X) (zQc (zDD X) (zca X) (zad X) (zs X).heap.size Q) (zas X) (zs X) (zRo X).cells (zRo X).slots (zA (zad X) (zs X).heap.size) t := by
  obtain ⟨⟨r, M', hv, hQ, hP1, -⟩, hz, hk⟩ := hq
  have hv : v = r.map (zcv (zad X)) := Outcome.returned.inj hv
  subst hv
  rw [hs0] at hz hk
  have hA : ∀ q, zA (zad X) H.size q → zA (zad X) (zs X).heap.size q := fun q h => h.elim Or.inl (fun h => Or.inr (Nat.le_trans hS.1 h))
  have hS' : va_S (zA (zad X) (zs X).heap.size) (zs X).heap U'.heap (locs ++ L2) :=
    ⟨Nat.le_trans hS.1 (by rw [e1]; exact hz), fun q h1 h2 => by rw [e1, hk q (Nat.lt_of_lt_of_le h1 hS.1) (fun z => h2 (hA q z))]; exact hS.2.1 q h1 h2, fun q hq => by
      rcases List.mem_append.mp hq with h | h
      · exact hS.2.2 q h
      · exact hA _ (hL q h)⟩
  obtain ⟨t2, a1, b1⟩ := kk r M' hQ ls U'.heap (locs ++ L2) hl (by rw [e1]; exact hP1) hS' U' rfl X'
  refine ⟨t2, st t2 ?_, b1⟩
  rw [zmap_out] at a1
  exact a1
theorem zpreV {mc' ms' : Nat} {As : List Value} {H : Heap} {T : State} {locs : List Loc} (hc : zCx X l md rm) (hu : u.1 + mc' ≤ rm.cells ∧ u.2 + ms' ≤ rm.slots) (hT : T.heap = H) (hP : va_P (zDD X) vwCl (zwd (zca X) (zad X) M) H) (vm₁ : Vm) (hW : (zs X).WarmedH vm₁) :
    PreOf (zRo X) mc' ms' (zPc X As M H.size) ⟨T.setVm vm₁, locs, u.1, u.2⟩ (As.map (zcv (zad X))).toArray := by
  have hR := hc.2.2.2.2.2.2.2.2.2.1
  refine ⟨by rw [hR]; exact hu.1, by rw [hR]; exact hu.2, rfl, ?_, ?_, ?_, hc.2.2.2.2.2.2.1, fun w hw => va_Nw.warmM (s := zs X) (U := T.setVm vm₁) hW (hc.2.2.2.2.2.2.2.2.2.2.2 w hw)⟩
  · show T.heap.size = H.size
    rw [hT]
  · show va_P _ _ _ T.heap
    rw [hT]; exact hP
  · exact va_K.moved (u := zs X) (U := T.setVm vm₁) hW.alike hc.2.2.2.2.2.1
theorem za_callV {ci idx n k : Nat} {md' : zMd} {rm' : Room} {As : List Value} {Q' : Option Value → zM → Prop} (hc : zCx X l md rm) (hs : zKn md' n) (hV : Cond.methodLink md.1.cls idx md'.1 ∈ zWS ∧ Cond.instanceMethod md'.1 ∈ zWS ∧ Cond.selects md'.1.cls md'.1 md'.1 ∈ zWS) (ho : zob k ci) (hC : (vwCl[ci]?).map (fun q => q.1) = some md'.1.cls) (hM : zMet l md' rm' (.ref k :: As) M Q') (hdd : rm'.frames + 1 ≤ rm.frames ∧ (S.map fun v => v.category).sum + (md'.2.2.1 + 11) + rm'.locals ≤ rm.locals) (hn : As.length = n) (hu : u.1 + rm'.cells ≤ rm.cells ∧ u.2 + rm'.slots ≤ rm.slots) (hd : decode md.2.1 pc = .ok (.invokevirtual idx, 3)) (kk : ∀ r M', Q' r M' → zW X Q (u.1 + rm'.cells, u.2 + rm'.slots) (pc + 3) L (r.toList ++ S) M') : zW X Q u pc L (As.reverse ++ .ref k :: S) M := by
  intro ls H locs hl hP hS T hT Y
  have hK := zback (sz := H.size) hc hs hM hdd
  obtain ⟨hco, hini, hy, hpar⟩ := hs
  cases hcl : vwCl[ci]? with
  | none => rw [hcl] at hC; cases hC
  | some q =>
  rw [hcl] at hC
  have hC : q.1 = md'.1.cls := Option.some.inj hC
  obtain ⟨cell, g1, g2, g3⟩ := va_recv hc.2.2.2.2.2.1 hP hcl (q0 := k) (by rw [zwd_get ho.1, zent_0 ho.2])
  rw [hC] at g3
  obtain ⟨v, vm₁, ⟨U', l2, c2, s2⟩, hW₁, X', ⟨g', mk, t, L2, e1, e2, hq, h1, hL, h2, h3⟩, st⟩ := callV Y hc.1 (C := md'.1.cls) (bytes := md'.2.1) (maxL := md'.2.2.1) (ret := md'.2.2.2) hc.2.2.2.1 (hc.w hV.1) (hc.w hV.2.1) (hc.w hV.2.2) (hc.w hco) hy hK (by rw [hT]; exact g1) g2 g3 (g := F0 (zm X) pc ls ((As.reverse ++ .ref k :: S).map (zcv (zad X)))) rfl hl.1 (argsL := As.map (zcv (zad X))) (rest := S.map (zcv (zad X))) (fun sig h => by
      rw [h] at hpar
      rw [List.length_map, hn]
      exact (Option.some.inj hpar).symm) (by
      show (As.reverse ++ .ref k :: S).map (zcv (zad X)) = _
      rw [List.map_append, List.map_reverse]; rfl) (zmon (zcv_cat _) (Nat.le_refl _)) (by rw [hc.2.1]; exact hd) (fun vm₁ hW₁ => zpreV (As := .ref k :: As) hc hu hT hP vm₁ hW₁)
  dsimp only [Pt.U, Pt.locs, Pt.cells, Pt.slots] at X' e1 e2 h1 h2 h3 st
  subst h1; subst h2; subst h3
  exact zgoes (as := #[]) hS hl hT X' hL e1 hq st kk
theorem za_callVN {ci idx n k : Nat} {host : String} {md' : zMd} {rm' : Room} {As : List Value} {Q' : Option Value → zM → Prop} (hc : zCx X l md rm) (hs : zKn md' n) (hV : (md.1.cls, idx, md'.1, host) ∈ zNL ∧ Cond.instanceMethod md'.1 ∈ zWS ∧ Cond.selects md'.1.cls md'.1 md'.1 ∈ zWS) (ho : zob k ci) (hC : (vwCl[ci]?).map (fun q => q.1) = some md'.1.cls) (hM : zMet l md' rm' (.ref k :: As) M Q') (hdd : rm'.frames + 1 ≤ rm.frames ∧ (S.map fun v => v.category).sum + (md'.2.2.1 + 11) + rm'.locals ≤ rm.locals) (hn : As.length = n) (hu : u.1 + rm'.cells ≤ rm.cells ∧ u.2 + rm'.slots ≤ rm.slots) (hd : decode md.2.1 pc = .ok (.invokevirtual idx, 3)) (kk : ∀ r M', Q' r M' → zW X Q (u.1 + rm'.cells, u.2 + rm'.slots) (pc + 3) L (r.toList ++ S) M') : zW X Q u pc L (As.reverse ++ .ref k :: S) M := by
  intro ls H locs hl hP hS T hT Y
  have hK := zback (sz := H.size) hc hs hM hdd
  obtain ⟨hco, hini, hy, hpar⟩ := hs
  cases hcl : vwCl[ci]? with
  | none => rw [hcl] at hC; cases hC
  | some q =>
  rw [hcl] at hC
  have hC : q.1 = md'.1.cls := Option.some.inj hC
  obtain ⟨cell, g1, g2, g3⟩ := va_recv hc.2.2.2.2.2.1 hP hcl (q0 := k) (by rw [zwd_get ho.1, zent_0 ho.2])
  rw [hC] at g3
  obtain ⟨v, vm₁, ⟨U', l2, c2, s2⟩, hW₁, X', ⟨g', mk, t, L2, e1, e2, hq, h1, hL, h2, h3⟩, st⟩ := va_callVN Y hc.1 (C := md'.1.cls) (host := host) (bytes := md'.2.1) (maxL := md'.2.2.1) (ret := md'.2.2.2) hc.2.2.2.1 (va_Nw.use rfl (hc.2.2.2.2.2.2.2.2.2.2.2 _ hV.1)) (hc.w hV.2.1) (hc.w hV.2.2) (hc.w hco) hy hK (by rw [hT]; exact g1) g2 g3 (g := F0 (zm X) pc ls ((As.reverse ++ .ref k :: S).map (zcv (zad X)))) rfl hl.1 (argsL := As.map (zcv (zad X))) (rest := S.map (zcv (zad X))) (fun sig h => by
      rw [h] at hpar
      rw [List.length_map, hn]
      exact (Option.some.inj hpar).symm) (by
      show (As.reverse ++ .ref k :: S).map (zcv (zad X)) = _
      rw [List.map_append, List.map_reverse]; rfl) (zmon (zcv_cat _) (Nat.le_refl _)) (by rw [hc.2.1]; exact hd) (fun vm₁ hW₁ => zpreV (As := .ref k :: As) hc hu hT hP vm₁ hW₁)
  dsimp only [Pt.U, Pt.locs, Pt.cells, Pt.slots] at X' e1 e2 h1 h2 h3 st
  subst h1; subst h2; subst h3
  exact zgoes (as := #[]) hS hl hT X' hL e1 hq st kk
theorem za_callS {idx n : Nat} {md' : zMd} {rm' : Room} {As : List Value} {Q' : Option Value → zM → Prop} (hc : zCx X l md rm) (hs : zKn md' n) (hV : Cond.methodLink md.1.cls idx md'.1 ∈ zWS ∧ Cond.static md'.1 ∈ zWS) (hM : zMet l md' rm' As M Q') (hdd : rm'.frames + 1 ≤ rm.frames ∧ (S.map fun v => v.category).sum + (md'.2.2.1 + 11) + rm'.locals ≤ rm.locals) (hn : As.length = n) (hu : u.1 + rm'.cells ≤ rm.cells ∧ u.2 + rm'.slots ≤ rm.slots) (hd : decode md.2.1 pc = .ok (.invokestatic idx, 3)) (kk : ∀ r M', Q' r M' → zW X Q (u.1 + rm'.cells, u.2 + rm'.slots) (pc + 3) L (r.toList ++ S) M') : zW X Q u pc L (As.reverse ++ S) M := by
  intro ls H locs hl hP hS T hT Y
  have hK := zback (sz := H.size) hc hs hM hdd
  obtain ⟨hco, hini, hy, hpar⟩ := hs
  obtain ⟨v, vm₁, ⟨U', l2, c2, s2⟩, hW₁, X', ⟨g', mk, t, L2, e1, e2, hq, h1, hL, h2, h3⟩, st⟩ := callS Y hc.1 (bytes := md'.2.1) (maxL := md'.2.2.1) (ret := md'.2.2.2) hc.2.2.2.1 (hc.w hV.1) (hc.w hV.2) (hc.w hini) (hc.w hco) hy hK (g := F0 (zm X) pc ls ((As.reverse ++ S).map (zcv (zad X)))) rfl hl.1 (argsL := As.map (zcv (zad X))) (rest := S.map (zcv (zad X))) (fun sig h => by
      rw [h] at hpar
      rw [List.length_map, hn]
      exact (Option.some.inj hpar).symm) (by
      show (As.reverse ++ S).map (zcv (zad X)) = _
      rw [List.map_append, List.map_reverse]) (zmon (zcv_cat _) (Nat.le_refl _)) (by rw [hc.2.1]; exact hd) (fun vm₁ hW₁ => zpreV (As := As) hc hu hT hP vm₁ hW₁)
  dsimp only [Pt.U, Pt.locs, Pt.cells, Pt.slots] at X' e1 e2 h1 h2 h3 st
  subst h1; subst h2; subst h3
  exact zgoes (as := #[]) hS hl hT X' hL e1 hq st kk
theorem za_callSN {idx n : Nat} {host : String} {md' : zMd} {rm' : Room} {As : List Value} {Q' : Option Value → zM → Prop} (hc : zCx X l md rm) (hs : zKn md' n) (hV : (md.1.cls, idx, md'.1, host) ∈ zNL ∧ Cond.static md'.1 ∈ zWS) (hM : zMet l md' rm' As M Q') (hdd : rm'.frames + 1 ≤ rm.frames ∧ (S.map fun v => v.category).sum + (md'.2.2.1 + 11) + rm'.locals ≤ rm.locals) (hn : As.length = n) (hu : u.1 + rm'.cells ≤ rm.cells ∧ u.2 + rm'.slots ≤ rm.slots) (hd : decode md.2.1 pc = .ok (.invokestatic idx, 3)) (kk : ∀ r M', Q' r M' → zW X Q (u.1 + rm'.cells, u.2 + rm'.slots) (pc + 3) L (r.toList ++ S) M') : zW X Q u pc L (As.reverse ++ S) M := by
  intro ls H locs hl hP hS T hT Y
  have hK := zback (sz := H.size) hc hs hM hdd
  obtain ⟨hco, hini, hy, hpar⟩ := hs
  obtain ⟨v, vm₁, ⟨U', l2, c2, s2⟩, hW₁, X', ⟨g', mk, t, L2, e1, e2, hq, h1, hL, h2, h3⟩, st⟩ := va_callSN Y hc.1 (host := host) (bytes := md'.2.1) (maxL := md'.2.2.1) (ret := md'.2.2.2) hc.2.2.2.1 (va_Nw.use rfl (hc.2.2.2.2.2.2.2.2.2.2.2 _ hV.1)) (hc.w hV.2) (hc.w hini) (hc.w hco) hy hK (g := F0 (zm X) pc ls ((As.reverse ++ S).map (zcv (zad X)))) rfl hl.1 (argsL := As.map (zcv (zad X))) (rest := S.map (zcv (zad X))) (fun sig h => by
      rw [h] at hpar
      rw [List.length_map, hn]
      exact (Option.some.inj hpar).symm) (by
      show (As.reverse ++ S).map (zcv (zad X)) = _
      rw [List.map_append, List.map_reverse]) (zmon (zcv_cat _) (Nat.le_refl _)) (by rw [hc.2.1]; exact hd) (fun vm₁ hW₁ => zpreV (As := As) hc hu hT hP vm₁ hW₁)
  dsimp only [Pt.U, Pt.locs, Pt.cells, Pt.slots] at X' e1 e2 h1 h2 h3 st
  subst h1; subst h2; subst h3
  exact zgoes (as := #[]) hS hl hT X' hL e1 hq st kk
end ZCA
end
section
section ZCB
variable {X : zC} {l : Launch} {md : zMd} {rm : Room} {Q : Option Value → zM → Prop} {u : Nat × Nat} {pc : Nat} {L : List (Nat × Value)} {S : List Value} {M : zM}
/-- what a method answers: nothing, an int, a long, a place -/
def zqv (P : zM → Prop) : Option Value → zM → Prop := fun r M => r = none ∧ P M
def zqi (P : Int32 → zM → Prop) : Option Value → zM → Prop := fun r M => ∃ x, r = some (.int x) ∧ P x M
def zql (P : Int64 → zM → Prop) : Option Value → zM → Prop := fun r M => ∃ x, r = some (.long x) ∧ P x M
def zqr (P : Nat → zM → Prop) : Option Value → zM → Prop := fun r M => ∃ x, r = some (.ref x) ∧ P x M
/-- a call's site: what the tables say of the callee and of the pool's entry -/
def zSV (own : String) (idx : Nat) (md' : zMd) (n ci : Nat) : Prop := zKn md' n ∧ (Cond.methodLink own idx md'.1 ∈ zWS ∧ Cond.instanceMethod md'.1 ∈ zWS ∧ Cond.selects md'.1.cls md'.1 md'.1 ∈ zWS) ∧ (vwCl[ci]?).map (fun q => q.1) = some md'.1.cls
def zSS (own : String) (idx : Nat) (md' : zMd) (n : Nat) : Prop := zKn md' n ∧ Cond.methodLink own idx md'.1 ∈ zWS ∧ Cond.static md'.1 ∈ zWS
def zSSN (own : String) (idx : Nat) (md' : zMd) (n : Nat) : Prop := zKn md' n ∧ ∃ host, (own, idx, md'.1, host) ∈ zNL ∧ Cond.static md'.1 ∈ zWS
theorem za_cV0v {k ci idx : Nat} {md' : zMd} {rm' : Room} {P : zM → Prop} (hc : zCx X l md rm) (hs : zSV md.1.cls idx md' 0 ci) (ho : zob k ci) (hM : zMet l md' rm' [.ref k] M (zqv P)) (hr : rm'.cells = 0 ∧ rm'.slots = 0) (hdd : rm'.frames + 1 ≤ rm.frames ∧ (S.map fun v => v.category).sum + (md'.2.2.1 + 11) + rm'.locals ≤ rm.locals) (hu : u.1 ≤ rm.cells ∧ u.2 ≤ rm.slots) (hd : decode md.2.1 pc = .ok (.invokevirtual idx, 3)) (kk : ∀ M', P M' → zW X Q u (pc + 3) L S M') : zW X Q u pc L (.ref k :: S) M := za_callV (As := []) hc hs.1 hs.2.1 ho hs.2.2 hM hdd rfl (by rw [hr.1, hr.2]; exact hu) hd (by rw [hr.1, hr.2]; exact (fun r M' h => by obtain ⟨rfl, h⟩ := h; exact kk M' h))
theorem za_cV0i {k ci idx : Nat} {md' : zMd} {rm' : Room} {P : Int32 → zM → Prop} (hc : zCx X l md rm) (hs : zSV md.1.cls idx md' 0 ci) (ho : zob k ci) (hM : zMet l md' rm' [.ref k] M (zqi P)) (hr : rm'.cells = 0 ∧ rm'.slots = 0) (hdd : rm'.frames + 1 ≤ rm.frames ∧ (S.map fun v => v.category).sum + (md'.2.2.1 + 11) + rm'.locals ≤ rm.locals) (hu : u.1 ≤ rm.cells ∧ u.2 ≤ rm.slots) (hd : decode md.2.1 pc = .ok (.invokevirtual idx, 3)) (kk : ∀ x M', P x M' → zW X Q u (pc + 3) L (.int x :: S) M') : zW X Q u pc L (.ref k :: S) M := za_callV (As := []) hc hs.1 hs.2.1 ho hs.2.2 hM hdd rfl (by rw [hr.1, hr.2]; exact hu) hd (by rw [hr.1, hr.2]; exact (fun r M' h => by obtain ⟨x, rfl, h⟩ := h; exact kk x M' h))
theorem za_cV0l {k ci idx : Nat} {md' : zMd} {rm' : Room} {P : Int64 → zM → Prop} (hc : zCx X l md rm) (hs : zSV md.1.cls idx md' 0 ci) (ho : zob k ci) (hM : zMet l md' rm' [.ref k] M (zql P)) (hr : rm'.cells = 0 ∧ rm'.slots = 0) (hdd : rm'.frames + 1 ≤ rm.frames ∧ (S.map fun v => v.category).sum + (md'.2.2.1 + 11) + rm'.locals ≤ rm.locals) (hu : u.1 ≤ rm.cells ∧ u.2 ≤ rm.slots) (hd : decode md.2.1 pc = .ok (.invokevirtual idx, 3)) (kk : ∀ x M', P x M' → zW X Q u (pc + 3) L (.long x :: S) M') : zW X Q u pc L (.ref k :: S) M := za_callV (As := []) hc hs.1 hs.2.1 ho hs.2.2 hM hdd rfl (by rw [hr.1, hr.2]; exact hu) hd (by rw [hr.1, hr.2]; exact (fun r M' h => by obtain ⟨x, rfl, h⟩ := h; exact kk x M' h))
theorem za_cV0r {k ci idx : Nat} {md' : zMd} {rm' : Room} {P : Nat → zM → Prop} (hc : zCx X l md rm) (hs : zSV md.1.cls idx md' 0 ci) (ho : zob k ci) (hM : zMet l md' rm' [.ref k] M (zqr P)) (hr : rm'.cells = 0 ∧ rm'.slots = 0) (hdd : rm'.frames + 1 ≤ rm.frames ∧ (S.map fun v => v.category).sum + (md'.2.2.1 + 11) + rm'.locals ≤ rm.locals) (hu : u.1 ≤ rm.cells ∧ u.2 ≤ rm.slots) (hd : decode md.2.1 pc = .ok (.invokevirtual idx, 3)) (kk : ∀ x M', P x M' → zW X Q u (pc + 3) L (.ref x :: S) M') : zW X Q u pc L (.ref k :: S) M := za_callV (As := []) hc hs.1 hs.2.1 ho hs.2.2 hM hdd rfl (by rw [hr.1, hr.2]; exact hu) hd (by rw [hr.1, hr.2]; exact (fun r M' h => by obtain ⟨x, rfl, h⟩ := h; exact kk x M' h))
theorem za_cV1v {k ci idx : Nat} {md' : zMd} {rm' : Room} {a1 : Value} {P : zM → Prop} (hc : zCx X l md rm) (hs : zSV md.1.cls idx md' 1 ci) (ho : zob k ci) (hM : zMet l md' rm' [.ref k, a1] M (zqv P)) (hr : rm'.cells = 0 ∧ rm'.slots = 0) (hdd : rm'.frames + 1 ≤ rm.frames ∧ (S.map fun v => v.category).sum + (md'.2.2.1 + 11) + rm'.locals ≤ rm.locals) (hu : u.1 ≤ rm.cells ∧ u.2 ≤ rm.slots) (hd : decode md.2.1 pc = .ok (.invokevirtual idx, 3)) (kk : ∀ M', P M' → zW X Q u (pc + 3) L S M') : zW X Q u pc L (a1 :: .ref k :: S) M := za_callV (As := [a1]) hc hs.1 hs.2.1 ho hs.2.2 hM hdd rfl (by rw [hr.1, hr.2]; exact hu) hd (by rw [hr.1, hr.2]; exact (fun r M' h => by obtain ⟨rfl, h⟩ := h; exact kk M' h))
theorem za_cV1i {k ci idx : Nat} {md' : zMd} {rm' : Room} {a1 : Value} {P : Int32 → zM → Prop} (hc : zCx X l md rm) (hs : zSV md.1.cls idx md' 1 ci) (ho : zob k ci) (hM : zMet l md' rm' [.ref k, a1] M (zqi P)) (hr : rm'.cells = 0 ∧ rm'.slots = 0) (hdd : rm'.frames + 1 ≤ rm.frames ∧ (S.map fun v => v.category).sum + (md'.2.2.1 + 11) + rm'.locals ≤ rm.locals) (hu : u.1 ≤ rm.cells ∧ u.2 ≤ rm.slots) (hd : decode md.2.1 pc = .ok (.invokevirtual idx, 3)) (kk : ∀ x M', P x M' → zW X Q u (pc + 3) L (.int x :: S) M') : zW X Q u pc L (a1 :: .ref k :: S) M := za_callV (As := [a1]) hc hs.1 hs.2.1 ho hs.2.2 hM hdd rfl (by rw [hr.1, hr.2]; exact hu) hd (by rw [hr.1, hr.2]; exact (fun r M' h => by obtain ⟨x, rfl, h⟩ := h; exact kk x M' h))
theorem za_cV1l {k ci idx : Nat} {md' : zMd} {rm' : Room} {a1 : Value} {P : Int64 → zM → Prop} (hc : zCx X l md rm) (hs : zSV md.1.cls idx md' 1 ci) (ho : zob k ci) (hM : zMet l md' rm' [.ref k, a1] M (zql P)) (hr : rm'.cells = 0 ∧ rm'.slots = 0) (hdd : rm'.frames + 1 ≤ rm.frames ∧ (S.map fun v => v.category).sum + (md'.2.2.1 + 11) + rm'.locals ≤ rm.locals) (hu : u.1 ≤ rm.cells ∧ u.2 ≤ rm.slots) (hd : decode md.2.1 pc = .ok (.invokevirtual idx, 3)) (kk : ∀ x M', P x M' → zW X Q u (pc + 3) L (.long x :: S) M') : zW X Q u pc L (a1 :: .ref k :: S) M := za_callV (As := [a1]) hc hs.1 hs.2.1 ho hs.2.2 hM hdd rfl (by rw [hr.1, hr.2]; exact hu) hd (by rw [hr.1, hr.2]; exact (fun r M' h => by obtain ⟨x, rfl, h⟩ := h; exact kk x M' h))
theorem za_cV1r {k ci idx : Nat} {md' : zMd} {rm' : Room} {a1 : Value} {P : Nat → zM → Prop} (hc : zCx X l md rm) (hs : zSV md.1.cls idx md' 1 ci) (ho : zob k ci) (hM : zMet l md' rm' [.ref k, a1] M (zqr P)) (hr : rm'.cells = 0 ∧ rm'.slots = 0) (hdd : rm'.frames + 1 ≤ rm.frames ∧ (S.map fun v => v.category).sum + (md'.2.2.1 + 11) + rm'.locals ≤ rm.locals) (hu : u.1 ≤ rm.cells ∧ u.2 ≤ rm.slots) (hd : decode md.2.1 pc = .ok (.invokevirtual idx, 3)) (kk : ∀ x M', P x M' → zW X Q u (pc + 3) L (.ref x :: S) M') : zW X Q u pc L (a1 :: .ref k :: S) M := za_callV (As := [a1]) hc hs.1 hs.2.1 ho hs.2.2 hM hdd rfl (by rw [hr.1, hr.2]; exact hu) hd (by rw [hr.1, hr.2]; exact (fun r M' h => by obtain ⟨x, rfl, h⟩ := h; exact kk x M' h))
theorem za_cV2v {k ci idx : Nat} {md' : zMd} {rm' : Room} {a1 a2 : Value} {P : zM → Prop} (hc : zCx X l md rm) (hs : zSV md.1.cls idx md' 2 ci) (ho : zob k ci) (hM : zMet l md' rm' [.ref k, a1, a2] M (zqv P)) (hr : rm'.cells = 0 ∧ rm'.slots = 0) (hdd : rm'.frames + 1 ≤ rm.frames ∧ (S.map fun v => v.category).sum + (md'.2.2.1 + 11) + rm'.locals ≤ rm.locals) (hu : u.1 ≤ rm.cells ∧ u.2 ≤ rm.slots) (hd : decode md.2.1 pc = .ok (.invokevirtual idx, 3)) (kk : ∀ M', P M' → zW X Q u (pc + 3) L S M') : zW X Q u pc L (a2 :: a1 :: .ref k :: S) M := za_callV (As := [a1, a2]) hc hs.1 hs.2.1 ho hs.2.2 hM hdd rfl (by rw [hr.1, hr.2]; exact hu) hd (by rw [hr.1, hr.2]; exact (fun r M' h => by obtain ⟨rfl, h⟩ := h; exact kk M' h))
theorem za_cV2i {k ci idx : Nat} {md' : zMd} {rm' : Room} {a1 a2 : Value} {P : Int32 → zM → Prop} (hc : zCx X l md rm) (hs : zSV md.1.cls idx md' 2 ci) (ho : zob k ci) (hM : zMet l md' rm' [.ref k, a1, a2] M (zqi P)) (hr : rm'.cells = 0 ∧ rm'.slots = 0) (hdd : rm'.frames + 1 ≤ rm.frames ∧ (S.map fun v => v.category).sum + (md'.2.2.1 + 11) + rm'.locals ≤ rm.locals) (hu : u.1 ≤ rm.cells ∧ u.2 ≤ rm.slots) (hd : decode md.2.1 pc = .ok (.invokevirtual idx, 3)) (kk : ∀ x M', P x M' → zW X Q u (pc + 3) L (.int x :: S) M') : zW X Q u pc L (a2 :: a1 :: .ref k :: S) M := za_callV (As := [a1, a2]) hc hs.1 hs.2.1 ho hs.2.2 hM hdd rfl (by rw [hr.1, hr.2]; exact hu) hd (by rw [hr.1, hr.2]; exact (fun r M' h => by obtain ⟨x, rfl, h⟩ := h; exact kk x M' h))
theorem za_cV2l {k ci idx : Nat} {md' : zMd} {rm' : Room} {a1 a2 : Value} {P : Int64 → zM → Prop} (hc : zCx X l md rm) (hs : zSV md.1.cls idx md' 2 ci) (ho : zob k ci) (hM : zMet l md' rm' [.ref k, a1, a2] M (zql P)) (hr : rm'.cells = 0 ∧ rm'.slots = 0) (hdd : rm'.frames + 1 ≤ rm.frames ∧ (S.map fun v => v.category).sum + (md'.2.2.1 + 11) + rm'.locals ≤ rm.locals) (hu : u.1 ≤ rm.cells ∧ u.2 ≤ rm.slots) (hd : decode md.2.1 pc = .ok (.invokevirtual idx, 3)) (kk : ∀ x M', P x M' → zW X Q u (pc + 3) L (.long x :: S) M') : zW X Q u pc L (a2 :: a1 :: .ref k :: S) M := za_callV (As := [a1, a2]) hc hs.1 hs.2.1 ho hs.2.2 hM hdd rfl (by rw [hr.1, hr.2]; exact hu) hd (by rw [hr.1, hr.2]; exact (fun r M' h => by obtain ⟨x, rfl, h⟩ := h; exact kk x M' h))
theorem za_cV2r {k ci idx : Nat} {md' : zMd} {rm' : Room} {a1 a2 : Value} {P : Nat → zM → Prop} (hc : zCx X l md rm) (hs : zSV md.1.cls idx md' 2 ci) (ho : zob k ci) (hM : zMet l md' rm' [.ref k, a1, a2] M (zqr P)) (hr : rm'.cells = 0 ∧ rm'.slots = 0) (hdd : rm'.frames + 1 ≤ rm.frames ∧ (S.map fun v => v.category).sum + (md'.2.2.1 + 11) + rm'.locals ≤ rm.locals) (hu : u.1 ≤ rm.cells ∧ u.2 ≤ rm.slots) (hd : decode md.2.1 pc = .ok (.invokevirtual idx, 3)) (kk : ∀ x M', P x M' → zW X Q u (pc + 3) L (.ref x :: S) M') : zW X Q u pc L (a2 :: a1 :: .ref k :: S) M := za_callV (As := [a1, a2]) hc hs.1 hs.2.1 ho hs.2.2 hM hdd rfl (by rw [hr.1, hr.2]; exact hu) hd (by rw [hr.1, hr.2]; exact (fun r M' h => by obtain ⟨x, rfl, h⟩ := h; exact kk x M' h))
theorem za_cV3v {k ci idx : Nat} {md' : zMd} {rm' : Room} {a1 a2 a3 : Value} {P : zM → Prop} (hc : zCx X l md rm) (hs : zSV md.1.cls idx md' 3 ci) (ho : zob k ci) (hM : zMet l md' rm' [.ref k, a1, a2, a3] M (zqv P)) (hr : rm'.cells = 0 ∧ rm'.slots = 0) (hdd : rm'.frames + 1 ≤ rm.frames ∧ (S.map fun v => v.category).sum + (md'.2.2.1 + 11) + rm'.locals ≤ rm.locals) (hu : u.1 ≤ rm.cells ∧ u.2 ≤ rm.slots) (hd : decode md.2.1 pc = .ok (.invokevirtual idx, 3)) (kk : ∀ M', P M' → zW X Q u (pc + 3) L S M') : zW X Q u pc L (a3 :: a2 :: a1 :: .ref k :: S) M := za_callV (As := [a1, a2, a3]) hc hs.1 hs.2.1 ho hs.2.2 hM hdd rfl (by rw [hr.1, hr.2]; exact hu) hd (by rw [hr.1, hr.2]; exact (fun r M' h => by obtain ⟨rfl, h⟩ := h; exact kk M' h))
theorem za_cV3i {k ci idx : Nat} {md' : zMd} {rm' : Room} {a1 a2 a3 : Value} {P : Int32 → zM → Prop} (hc : zCx X l md rm) (hs : zSV md.1.cls idx md' 3 ci) (ho : zob k ci) (hM : zMet l md' rm' [.ref k, a1, a2, a3] M (zqi P)) (hr : rm'.cells = 0 ∧ rm'.slots = 0) (hdd : rm'.frames + 1 ≤ rm.frames ∧ (S.map fun v => v.category).sum + (md'.2.2.1 + 11) + rm'.locals ≤ rm.locals) (hu : u.1 ≤ rm.cells ∧ u.2 ≤ rm.slots) (hd : decode md.2.1 pc = .ok (.invokevirtual idx, 3)) (kk : ∀ x M', P x M' → zW X Q u (pc + 3) L (.int x :: S) M') : zW X Q u pc L (a3 :: a2 :: a1 :: .ref k :: S) M := za_callV (As := [a1, a2, a3]) hc hs.1 hs.2.1 ho hs.2.2 hM hdd rfl (by rw [hr.1, hr.2]; exact hu) hd (by rw [hr.1, hr.2]; exact (fun r M' h => by obtain ⟨x, rfl, h⟩ := h; exact kk x M' h))
theorem za_cV3l {k ci idx : Nat} {md' : zMd} {rm' : Room} {a1 a2 a3 : Value} {P : Int64 → zM → Prop} (hc : zCx X l md rm) (hs : zSV md.1.cls idx md' 3 ci) (ho : zob k ci) (hM : zMet l md' rm' [.ref k, a1, a2, a3] M (zql P)) (hr : rm'.cells = 0 ∧ rm'.slots = 0) (hdd : rm'.frames + 1 ≤ rm.frames ∧ (S.map fun v => v.category).sum + (md'.2.2.1 + 11) + rm'.locals ≤ rm.locals) (hu : u.1 ≤ rm.cells ∧ u.2 ≤ rm.slots) (hd : decode md.2.1 pc = .ok (.invokevirtual idx, 3)) (kk : ∀ x M', P x M' → zW X Q u (pc + 3) L (.long x :: S) M') : zW X Q u pc L (a3 :: a2 :: a1 :: .ref k :: S) M := za_callV (As := [a1, a2, a3]) hc hs.1 hs.2.1 ho hs.2.2 hM hdd rfl (by rw [hr.1, hr.2]; exact hu) hd (by rw [hr.1, hr.2]; exact (fun r M' h => by obtain ⟨x, rfl, h⟩ := h; exact kk x M' h))
theorem za_cV3r {k ci idx : Nat} {md' : zMd} {rm' : Room} {a1 a2 a3 : Value} {P : Nat → zM → Prop} (hc : zCx X l md rm) (hs : zSV md.1.cls idx md' 3 ci) (ho : zob k ci) (hM : zMet l md' rm' [.ref k, a1, a2, a3] M (zqr P)) (hr : rm'.cells = 0 ∧ rm'.slots = 0) (hdd : rm'.frames + 1 ≤ rm.frames ∧ (S.map fun v => v.category).sum + (md'.2.2.1 + 11) + rm'.locals ≤ rm.locals) (hu : u.1 ≤ rm.cells ∧ u.2 ≤ rm.slots) (hd : decode md.2.1 pc = .ok (.invokevirtual idx, 3)) (kk : ∀ x M', P x M' → zW X Q u (pc + 3) L (.ref x :: S) M') : zW X Q u pc L (a3 :: a2 :: a1 :: .ref k :: S) M := za_callV (As := [a1, a2, a3]) hc hs.1 hs.2.1 ho hs.2.2 hM hdd rfl (by rw [hr.1, hr.2]; exact hu) hd (by rw [hr.1, hr.2]; exact (fun r M' h => by obtain ⟨x, rfl, h⟩ := h; exact kk x M' h))
theorem za_cV4v {k ci idx : Nat} {md' : zMd} {rm' : Room} {a1 a2 a3 a4 : Value} {P : zM → Prop} (hc : zCx X l md rm) (hs : zSV md.1.cls idx md' 4 ci) (ho : zob k ci) (hM : zMet l md' rm' [.ref k, a1, a2, a3, a4] M (zqv P)) (hr : rm'.cells = 0 ∧ rm'.slots = 0) (hdd : rm'.frames + 1 ≤ rm.frames ∧ (S.map fun v => v.category).sum + (md'.2.2.1 + 11) + rm'.locals ≤ rm.locals) (hu : u.1 ≤ rm.cells ∧ u.2 ≤ rm.slots) (hd : decode md.2.1 pc = .ok (.invokevirtual idx, 3)) (kk : ∀ M', P M' → zW X Q u (pc + 3) L S M') : zW X Q u pc L (a4 :: a3 :: a2 :: a1 :: .ref k :: S) M := za_callV (As := [a1, a2, a3, a4]) hc hs.1 hs.2.1 ho hs.2.2 hM hdd rfl (by rw [hr.1, hr.2]; exact hu) hd (by rw [hr.1, hr.2]; exact (fun r M' h => by obtain ⟨rfl, h⟩ := h; exact kk M' h))
theorem za_cV4i {k ci idx : Nat} {md' : zMd} {rm' : Room} {a1 a2 a3 a4 : Value} {P : Int32 → zM → Prop} (hc : zCx X l md rm) (hs : zSV md.1.cls idx md' 4 ci) (ho : zob k ci) (hM : zMet l md' rm' [.ref k, a1, a2, a3, a4] M (zqi P)) (hr : rm'.cells = 0 ∧ rm'.slots = 0) (hdd : rm'.frames + 1 ≤ rm.frames ∧ (S.map fun v => v.category).sum + (md'.2.2.1 + 11) + rm'.locals ≤ rm.locals) (hu : u.1 ≤ rm.cells ∧ u.2 ≤ rm.slots) (hd : decode md.2.1 pc = .ok (.invokevirtual idx, 3)) (kk : ∀ x M', P x M' → zW X Q u (pc + 3) L (.int x :: S) M') : zW X Q u pc L (a4 :: a3 :: a2 :: a1 :: .ref k :: S) M := za_callV (As := [a1, a2, a3, a4]) hc hs.1 hs.2.1 ho hs.2.2 hM hdd rfl (by rw [hr.1, hr.2]; exact hu) hd (by rw [hr.1, hr.2]; exact (fun r M' h => by obtain ⟨x, rfl, h⟩ := h; exact kk x M' h))
theorem za_cV4l {k ci idx : Nat} {md' : zMd} {rm' : Room} {a1 a2 a3 a4 : Value} {P : Int64 → zM → Prop} (hc : zCx X l md rm) (hs : zSV md.1.cls idx md' 4 ci) (ho : zob k ci) (hM : zMet l md' rm' [.ref k, a1, a2, a3, a4] M (zql P)) (hr : rm'.cells = 0 ∧ rm'.slots = 0) (hdd : rm'.frames + 1 ≤ rm.frames ∧ (S.map fun v => v.category).sum + (md'.2.2.1 + 11) + rm'.locals ≤ rm.locals) (hu : u.1 ≤ rm.cells ∧ u.2 ≤ rm.slots) (hd : decode md.2.1 pc = .ok (.invokevirtual idx, 3)) (kk : ∀ x M', P x M' → zW X Q u (pc + 3) L (.long x :: S) M') : zW X Q u pc L (a4 :: a3 :: a2 :: a1 :: .ref k :: S) M := za_callV (As := [a1, a2, a3, a4]) hc hs.1 hs.2.1 ho hs.2.2 hM hdd rfl (by rw [hr.1, hr.2]; exact hu) hd (by rw [hr.1, hr.2]; exact (fun r M' h => by obtain ⟨x, rfl, h⟩ := h; exact kk x M' h))
theorem za_cV4r {k ci idx : Nat} {md' : zMd} {rm' : Room} {a1 a2 a3 a4 : Value} {P : Nat → zM → Prop} (hc : zCx X l md rm) (hs : zSV md.1.cls idx md' 4 ci) (ho : zob k ci) (hM : zMet l md' rm' [.ref k, a1, a2, a3, a4] M (zqr P)) (hr : rm'.cells = 0 ∧ rm'.slots = 0) (hdd : rm'.frames + 1 ≤ rm.frames ∧ (S.map fun v => v.category).sum + (md'.2.2.1 + 11) + rm'.locals ≤ rm.locals) (hu : u.1 ≤ rm.cells ∧ u.2 ≤ rm.slots) (hd : decode md.2.1 pc = .ok (.invokevirtual idx, 3)) (kk : ∀ x M', P x M' → zW X Q u (pc + 3) L (.ref x :: S) M') : zW X Q u pc L (a4 :: a3 :: a2 :: a1 :: .ref k :: S) M := za_callV (As := [a1, a2, a3, a4]) hc hs.1 hs.2.1 ho hs.2.2 hM hdd rfl (by rw [hr.1, hr.2]; exact hu) hd (by rw [hr.1, hr.2]; exact (fun r M' h => by obtain ⟨x, rfl, h⟩ := h; exact kk x M' h))
theorem za_cV5v {k ci idx : Nat} {md' : zMd} {rm' : Room} {a1 a2 a3 a4 a5 : Value} {P : zM → Prop} (hc : zCx X l md rm) (hs : zSV md.1.cls idx md' 5 ci) (ho : zob k ci) (hM : zMet l md' rm' [.ref k, a1, a2, a3, a4, a5] M (zqv P)) (hr : rm'.cells = 0 ∧ rm'.slots = 0) (hdd : rm'.frames + 1 ≤ rm.frames ∧ (S.map fun v => v.category).sum + (md'.2.2.1 + 11) + rm'.locals ≤ rm.locals) (hu : u.1 ≤ rm.cells ∧ u.2 ≤ rm.slots) (hd : decode md.2.1 pc = .ok (.invokevirtual idx, 3)) (kk : ∀ M', P M' → zW X Q u (pc + 3) L S M') : zW X Q u pc L (a5 :: a4 :: a3 :: a2 :: a1 :: .ref k :: S) M := za_callV (As := [a1, a2, a3, a4, a5]) hc hs.1 hs.2.1 ho hs.2.2 hM hdd rfl (by rw [hr.1, hr.2]; exact hu) hd (by rw [hr.1, hr.2]; exact (fun r M' h => by obtain ⟨rfl, h⟩ := h; exact kk M' h))
theorem za_cV5i {k ci idx : Nat} {md' : zMd} {rm' : Room} {a1 a2 a3 a4 a5 : Value} {P : Int32 → zM → Prop} (hc : zCx X l md rm) (hs : zSV md.1.cls idx md' 5 ci) (ho : zob k ci) (hM : zMet l md' rm' [.ref k, a1, a2, a3, a4, a5] M (zqi P)) (hr : rm'.cells = 0 ∧ rm'.slots = 0) (hdd : rm'.frames + 1 ≤ rm.frames ∧ (S.map fun v => v.category).sum + (md'.2.2.1 + 11) + rm'.locals ≤ rm.locals) (hu : u.1 ≤ rm.cells ∧ u.2 ≤ rm.slots) (hd : decode md.2.1 pc = .ok (.invokevirtual idx, 3)) (kk : ∀ x M', P x M' → zW X Q u (pc + 3) L (.int x :: S) M') : zW X Q u pc L (a5 :: a4 :: a3 :: a2 :: a1 :: .ref k :: S) M := za_callV (As := [a1, a2, a3, a4, a5]) hc hs.1 hs.2.1 ho hs.2.2 hM hdd rfl (by rw [hr.1, hr.2]; exact hu) hd (by rw [hr.1, hr.2]; exact (fun r M' h => by obtain ⟨x, rfl, h⟩ := h; exact kk x M' h))
theorem za_cV5l {k ci idx : Nat} {md' : zMd} {rm' : Room} {a1 a2 a3 a4 a5 : Value} {P : Int64 → zM → Prop} (hc : zCx X l md rm) (hs : zSV md.1.cls idx md' 5 ci) (ho : zob k ci) (hM : zMet l md' rm' [.ref k, a1, a2, a3, a4, a5] M (zql P)) (hr : rm'.cells = 0 ∧ rm'.slots = 0) (hdd : rm'.frames + 1 ≤ rm.frames ∧ (S.map fun v => v.category).sum + (md'.2.2.1 + 11) + rm'.locals ≤ rm.locals) (hu : u.1 ≤ rm.cells ∧ u.2 ≤ rm.slots) (hd : decode md.2.1 pc = .ok (.invokevirtual idx, 3)) (kk : ∀ x M', P x M' → zW X Q u (pc + 3) L (.long x :: S) M') : zW X Q u pc L (a5 :: a4 :: a3 :: a2 :: a1 :: .ref k :: S) M := za_callV (As := [a1, a2, a3, a4, a5]) hc hs.1 hs.2.1 ho hs.2.2 hM hdd rfl (by rw [hr.1, hr.2]; exact hu) hd (by rw [hr.1, hr.2]; exact (fun r M' h => by obtain ⟨x, rfl, h⟩ := h; exact kk x M' h))
theorem za_cV5r {k ci idx : Nat} {md' : zMd} {rm' : Room} {a1 a2 a3 a4 a5 : Value} {P : Nat → zM → Prop} (hc : zCx X l md rm) (hs : zSV md.1.cls idx md' 5 ci) (ho : zob k ci) (hM : zMet l md' rm' [.ref k, a1, a2, a3, a4, a5] M (zqr P)) (hr : rm'.cells = 0 ∧ rm'.slots = 0) (hdd : rm'.frames + 1 ≤ rm.frames ∧ (S.map fun v => v.category).sum + (md'.2.2.1 + 11) + rm'.locals ≤ rm.locals) (hu : u.1 ≤ rm.cells ∧ u.2 ≤ rm.slots) (hd : decode md.2.1 pc = .ok (.invokevirtual idx, 3)) (kk : ∀ x M', P x M' → zW X Q u (pc + 3) L (.ref x :: S) M') : zW X Q u pc L (a5 :: a4 :: a3 :: a2 :: a1 :: .ref k :: S) M := za_callV (As := [a1, a2, a3, a4, a5]) hc hs.1 hs.2.1 ho hs.2.2 hM hdd rfl (by rw [hr.1, hr.2]; exact hu) hd (by rw [hr.1, hr.2]; exact (fun r M' h => by obtain ⟨x, rfl, h⟩ := h; exact kk x M' h))
theorem za_cV6v {k ci idx : Nat} {md' : zMd} {rm' : Room} {a1 a2 a3 a4 a5 a6 : Value} {P : zM → Prop} (hc : zCx X l md rm) (hs : zSV md.1.cls idx md' 6 ci) (ho : zob k ci) (hM : zMet l md' rm' [.ref k, a1, a2, a3, a4, a5, a6] M (zqv P)) (hr : rm'.cells = 0 ∧ rm'.slots = 0) (hdd : rm'.frames + 1 ≤ rm.frames ∧ (S.map fun v => v.category).sum + (md'.2.2.1 + 11) + rm'.locals ≤ rm.locals) (hu : u.1 ≤ rm.cells ∧ u.2 ≤ rm.slots) (hd : decode md.2.1 pc = .ok (.invokevirtual idx, 3)) (kk : ∀ M', P M' → zW X Q u (pc + 3) L S M') : zW X Q u pc L (a6 :: a5 :: a4 :: a3 :: a2 :: a1 :: .ref k :: S) M := za_callV (As := [a1, a2, a3, a4, a5, a6]) hc hs.1 hs.2.1 ho hs.2.2 hM hdd rfl (by rw [hr.1, hr.2]; exact hu) hd (by rw [hr.1, hr.2]; exact (fun r M' h => by obtain ⟨rfl, h⟩ := h; exact kk M' h))
theorem za_cV6i {k ci idx : Nat} {md' : zMd} {rm' : Room} {a1 a2 a3 a4 a5 a6 : Value} {P : Int32 → zM → Prop} (hc : zCx X l md rm) (hs : zSV md.1.cls idx md' 6 ci) (ho : zob k ci) (hM : zMet l md' rm' [.ref k, a1, a2, a3, a4, a5, a6] M (zqi P)) (hr : rm'.cells = 0 ∧ rm'.slots = 0) (hdd : rm'.frames + 1 ≤ rm.frames ∧ (S.map fun v => v.category).sum + (md'.2.2.1 + 11) + rm'.locals ≤ rm.locals) (hu : u.1 ≤ rm.cells ∧ u.2 ≤ rm.slots) (hd : decode md.2.1 pc = .ok (.invokevirtual idx, 3)) (kk : ∀ x M', P x M' → zW X Q u (pc + 3) L (.int x :: S) M') : zW X Q u pc L (a6 :: a5 :: a4 :: a3 :: a2 :: a1 :: .ref k :: S) M := za_callV (As := [a1, a2, a3, a4, a5, a6]) hc hs.1 hs.2.1 ho hs.2.2 hM hdd rfl (by rw [hr.1, hr.2]; exact hu) hd (by rw [hr.1, hr.2]; exact (fun r M' h => by obtain ⟨x, rfl, h⟩ := h; exact kk x M' h))
theorem za_cV6l {k ci idx : Nat} {md' : zMd} {rm' : Room} {a1 a2 a3 a4 a5 a6 : Value} {P : Int64 → zM → Prop} (hc : zCx X l md rm) (hs : zSV md.1.cls idx md' 6 ci) (ho : zob k ci) (hM : zMet l md' rm' [.ref k, a1, a2, a3, a4, a5, a6] M (zql P)) (hr : rm'.cells = 0 ∧ rm'.slots = 0) (hdd : rm'.frames + 1 ≤ rm.frames ∧ (S.map fun v => v.category).sum + (md'.2.2.1 + 11) + rm'.locals ≤ rm.locals) (hu : u.1 ≤ rm.cells ∧ u.2 ≤ rm.slots) (hd : decode md.2.1 pc = .ok (.invokevirtual idx, 3)) (kk : ∀ x M', P x M' → zW X Q u (pc + 3) L (.long x :: S) M') : zW X Q u pc L (a6 :: a5 :: a4 :: a3 :: a2 :: a1 :: .ref k :: S) M := za_callV (As := [a1, a2, a3, a4, a5, a6]) hc hs.1 hs.2.1 ho hs.2.2 hM hdd rfl (by rw [hr.1, hr.2]; exact hu) hd (by rw [hr.1, hr.2]; exact (fun r M' h => by obtain ⟨x, rfl, h⟩ := h; exact kk x M' h))
theorem za_cV6r {k ci idx : Nat} {md' : zMd} {rm' : Room} {a1 a2 a3 a4 a5 a6 : Value} {P : Nat → zM → Prop} (hc : zCx X l md rm) (hs : zSV md.1.cls idx md' 6 ci) (ho : zob k ci) (hM : zMet l md' rm' [.ref k, a1, a2, a3, a4, a5, a6] M (zqr P)) (hr : rm'.cells = 0 ∧ rm'.slots = 0) (hdd : rm'.frames + 1 ≤ rm.frames ∧ (S.map fun v => v.category).sum + (md'.2.2.1 + 11) + rm'.locals ≤ rm.locals) (hu : u.1 ≤ rm.cells ∧ u.2 ≤ rm.slots) (hd : decode md.2.1 pc = .ok (.invokevirtual idx, 3)) (kk : ∀ x M', P x M' → zW X Q u (pc + 3) L (.ref x :: S) M') : zW X Q u pc L (a6 :: a5 :: a4 :: a3 :: a2 :: a1 :: .ref k :: S) M := za_callV (As := [a1, a2, a3, a4, a5, a6]) hc hs.1 hs.2.1 ho hs.2.2 hM hdd rfl (by rw [hr.1, hr.2]; exact hu) hd (by rw [hr.1, hr.2]; exact (fun r M' h => by obtain ⟨x, rfl, h⟩ := h; exact kk x M' h))
theorem za_cS0v {idx : Nat} {md' : zMd} {rm' : Room} {P : zM → Prop} (hc : zCx X l md rm) (hs : zSS md.1.cls idx md' 0) (hM : zMet l md' rm' [] M (zqv P)) (hr : rm'.cells = 0 ∧ rm'.slots = 0) (hdd : rm'.frames + 1 ≤ rm.frames ∧ (S.map fun v => v.category).sum + (md'.2.2.1 + 11) + rm'.locals ≤ rm.locals) (hu : u.1 ≤ rm.cells ∧ u.2 ≤ rm.slots) (hd : decode md.2.1 pc = .ok (.invokestatic idx, 3)) (kk : ∀ M', P M' → zW X Q u (pc + 3) L S M') : zW X Q u pc L (S) M := za_callS (As := []) hc hs.1 hs.2 hM hdd rfl (by rw [hr.1, hr.2]; exact hu) hd (by rw [hr.1, hr.2]; exact (fun r M' h => by obtain ⟨rfl, h⟩ := h; exact kk M' h))
theorem za_cS0i {idx : Nat} {md' : zMd} {rm' : Room} {P : Int32 → zM → Prop} (hc : zCx X l md rm) (hs : zSS md.1.cls idx md' 0) (hM : zMet l md' rm' [] M (zqi P)) (hr : rm'.cells = 0 ∧ rm'.slots = 0) (hdd : rm'.frames + 1 ≤ rm.frames ∧ (S.map fun v => v.category).sum + (md'.2.2.1 + 11) + rm'.locals ≤ rm.locals) (hu : u.1 ≤ rm.cells ∧ u.2 ≤ rm.slots) (hd : decode md.2.1 pc = .ok (.invokestatic idx, 3)) (kk : ∀ x M', P x M' → zW X Q u (pc + 3) L (.int x :: S) M') : zW X Q u pc L (S) M := za_callS (As := []) hc hs.1 hs.2 hM hdd rfl (by rw [hr.1, hr.2]; exact hu) hd (by rw [hr.1, hr.2]; exact (fun r M' h => by obtain ⟨x, rfl, h⟩ := h; exact kk x M' h))
theorem za_cS0l {idx : Nat} {md' : zMd} {rm' : Room} {P : Int64 → zM → Prop} (hc : zCx X l md rm) (hs : zSS md.1.cls idx md' 0) (hM : zMet l md' rm' [] M (zql P)) (hr : rm'.cells = 0 ∧ rm'.slots = 0) (hdd : rm'.frames + 1 ≤ rm.frames ∧ (S.map fun v => v.category).sum + (md'.2.2.1 + 11) + rm'.locals ≤ rm.locals) (hu : u.1 ≤ rm.cells ∧ u.2 ≤ rm.slots) (hd : decode md.2.1 pc = .ok (.invokestatic idx, 3)) (kk : ∀ x M', P x M' → zW X Q u (pc + 3) L (.long x :: S) M') : zW X Q u pc L (S) M := za_callS (As := []) hc hs.1 hs.2 hM hdd rfl (by rw [hr.1, hr.2]; exact hu) hd (by rw [hr.1, hr.2]; exact (fun r M' h => by obtain ⟨x, rfl, h⟩ := h; exact kk x M' h))
theorem za_cS0r {idx : Nat} {md' : zMd} {rm' : Room} {P : Nat → zM → Prop} (hc : zCx X l md rm) (hs : zSS md.1.cls idx md' 0) (hM : zMet l md' rm' [] M (zqr P)) (hr : rm'.cells = 0 ∧ rm'.slots = 0) (hdd : rm'.frames + 1 ≤ rm.frames ∧ (S.map fun v => v.category).sum + (md'.2.2.1 + 11) + rm'.locals ≤ rm.locals) (hu : u.1 ≤ rm.cells ∧ u.2 ≤ rm.slots) (hd : decode md.2.1 pc = .ok (.invokestatic idx, 3)) (kk : ∀ x M', P x M' → zW X Q u (pc + 3) L (.ref x :: S) M') : zW X Q u pc L (S) M := za_callS (As := []) hc hs.1 hs.2 hM hdd rfl (by rw [hr.1, hr.2]; exact hu) hd (by rw [hr.1, hr.2]; exact (fun r M' h => by obtain ⟨x, rfl, h⟩ := h; exact kk x M' h))
theorem za_cS1v {idx : Nat} {md' : zMd} {rm' : Room} {a1 : Value} {P : zM → Prop} (hc : zCx X l md rm) (hs : zSS md.1.cls idx md' 1) (hM : zMet l md' rm' [a1] M (zqv P)) (hr : rm'.cells = 0 ∧ rm'.slots = 0) (hdd : rm'.frames + 1 ≤ rm.frames ∧ (S.map fun v => v.category).sum + (md'.2.2.1 + 11) + rm'.locals ≤ rm.locals) (hu : u.1 ≤ rm.cells ∧ u.2 ≤ rm.slots) (hd : decode md.2.1 pc = .ok (.invokestatic idx, 3)) (kk : ∀ M', P M' → zW X Q u (pc + 3) L S M') : zW X Q u pc L (a1 :: S) M := za_callS (As := [a1]) hc hs.1 hs.2 hM hdd rfl (by rw [hr.1, hr.2]; exact hu) hd (by rw [hr.1, hr.2]; exact (fun r M' h => by obtain ⟨rfl, h⟩ := h; exact kk M' h))
theorem za_cS1i {idx : Nat} {md' : zMd} {rm' : Room} {a1 : Value} {P : Int32 → zM → Prop} (hc : zCx X l md rm) (hs : zSS md.1.cls idx md' 1) (hM : zMet l md' rm' [a1] M (zqi P)) (hr : rm'.cells = 0 ∧ rm'.slots = 0) (hdd : rm'.frames + 1 ≤ rm.frames ∧ (S.map fun v => v.category).sum + (md'.2.2.1 + 11) + rm'.locals ≤ rm.locals) (hu : u.1 ≤ rm.cells ∧ u.2 ≤ rm.slots) (hd : decode md.2.1 pc = .ok (.invokestatic idx, 3)) (kk : ∀ x M', P x M' → zW X Q u (pc + 3) L (.int x :: S) M') : zW X Q u pc L (a1 :: S) M := za_callS (As := [a1]) hc hs.1 hs.2 hM hdd rfl (by rw [hr.1, hr.2]; exact hu) hd (by rw [hr.1, hr.2]; exact (fun r M' h => by obtain ⟨x, rfl, h⟩ := h; exact kk x M' h))
theorem za_cS1l {idx : Nat} {md' : zMd} {rm' : Room} {a1 : Value} {P : Int64 → zM → Prop} (hc : zCx X l md rm) (hs : zSS md.1.cls idx md' 1) (hM : zMet l md' rm' [a1] M (zql P)) (hr : rm'.cells = 0 ∧ rm'.slots = 0) (hdd : rm'.frames + 1 ≤ rm.frames ∧ (S.map fun v => v.category).sum + (md'.2.2.1 + 11) + rm'.locals ≤ rm.locals) (hu : u.1 ≤ rm.cells ∧ u.2 ≤ rm.slots) (hd : decode md.2.1 pc = .ok (.invokestatic idx, 3)) (kk : ∀ x M', P x M' → zW X Q u (pc + 3) L (.long x :: S) M') : zW X Q u pc L (a1 :: S) M := za_callS (As := [a1]) hc hs.1 hs.2 hM hdd rfl (by rw [hr.1, hr.2]; exact hu) hd (by rw [hr.1, hr.2]; exact (fun r M' h => by obtain ⟨x, rfl, h⟩ := h; exact kk x M' h))
theorem za_cS1r {idx : Nat} {md' : zMd} {rm' : Room} {a1 : Value} {P : Nat → zM → Prop} (hc : zCx X l md rm) (hs : zSS md.1.cls idx md' 1) (hM : zMet l md' rm' [a1] M (zqr P)) (hr : rm'.cells = 0 ∧ rm'.slots = 0) (hdd : rm'.frames + 1 ≤ rm.frames ∧ (S.map fun v => v.category).sum + (md'.2.2.1 + 11) + rm'.locals ≤ rm.locals) (hu : u.1 ≤ rm.cells ∧ u.2 ≤ rm.slots) (hd : decode md.2.1 pc = .ok (.invokestatic idx, 3)) (kk : ∀ x M', P x M' → zW X Q u (pc + 3) L (.ref x :: S) M') : zW X Q u pc L (a1 :: S) M := za_callS (As := [a1]) hc hs.1 hs.2 hM hdd rfl (by rw [hr.1, hr.2]; exact hu) hd (by rw [hr.1, hr.2]; exact (fun r M' h => by obtain ⟨x, rfl, h⟩ := h; exact kk x M' h))
theorem za_cS2v {idx : Nat} {md' : zMd} {rm' : Room} {a1 a2 : Value} {P : zM → Prop} (hc : zCx X l md rm) (hs : zSS md.1.cls idx md' 2) (hM : zMet l md' rm' [a1, a2] M (zqv P)) (hr : rm'.cells = 0 ∧ rm'.slots = 0) (hdd : rm'.frames + 1 ≤ rm.frames ∧ (S.map fun v => v.category).sum + (md'.2.2.1 + 11) + rm'.locals ≤ rm.locals) (hu : u.1 ≤ rm.cells ∧ u.2 ≤ rm.slots) (hd : decode md.2.1 pc = .ok (.invokestatic idx, 3)) (kk : ∀ M', P M' → zW X Q u (pc + 3) L S M') : zW X Q u pc L (a2 :: a1 :: S) M := za_callS (As := [a1, a2]) hc hs.1 hs.2 hM hdd rfl (by rw [hr.1, hr.2]; exact hu) hd (by rw [hr.1, hr.2]; exact (fun r M' h => by obtain ⟨rfl, h⟩ := h; exact kk M' h))
theorem za_cS2i {idx : Nat} {md' : zMd} {rm' : Room} {a1 a2 : Value} {P : Int32 → zM → Prop} (hc : zCx X l md rm) (hs : zSS md.1.cls idx md' 2) (hM : zMet l md' rm' [a1, a2] M (zqi P)) (hr : rm'.cells = 0 ∧ rm'.slots = 0) (hdd : rm'.frames + 1 ≤ rm.frames ∧ (S.map fun v => v.category).sum + (md'.2.2.1 + 11) + rm'.locals ≤ rm.locals) (hu : u.1 ≤ rm.cells ∧ u.2 ≤ rm.slots) (hd : decode md.2.1 pc = .ok (.invokestatic idx, 3)) (kk : ∀ x M', P x M' → zW X Q u (pc + 3) L (.int x :: S) M') : zW X Q u pc L (a2 :: a1 :: S) M := za_callS (As := [a1, a2]) hc hs.1 hs.2 hM hdd rfl (by rw [hr.1, hr.2]; exact hu) hd (by rw [hr.1, hr.2]; exact (fun r M' h => by obtain ⟨x, rfl, h⟩ := h; exact kk x M' h))
theorem za_cS2l {idx : Nat} {md' : zMd} {rm' : Room} {a1 a2 : Value} {P : Int64 → zM → Prop} (hc : zCx X l md rm) (hs : zSS md.1.cls idx md' 2) (hM : zMet l md' rm' [a1, a2] M (zql P)) (hr : rm'.cells = 0 ∧ rm'.slots = 0) (hdd : rm'.frames + 1 ≤ rm.frames ∧ (S.map fun v => v.category).sum + (md'.2.2.1 + 11) + rm'.locals ≤ rm.locals) (hu : u.1 ≤ rm.cells ∧ u.2 ≤ rm.slots) (hd : decode md.2.1 pc = .ok (.invokestatic idx, 3)) (kk : ∀ x M', P x M' → zW X Q u (pc + 3) L (.long x :: S) M') : zW X Q u pc L (a2 :: a1 :: S) M := za_callS (As := [a1, a2]) hc hs.1 hs.2 hM hdd rfl (by rw [hr.1, hr.2]; exact hu) hd (by rw [hr.1, hr.2]; exact (fun r M' h => by obtain ⟨x, rfl, h⟩ := h; exact kk x M' h))
theorem za_cS2r {idx : Nat} {md' : zMd} {rm' : Room} {a1 a2 : Value} {P : Nat → zM → Prop} (hc : zCx X l md rm) (hs : zSS md.1.cls idx md' 2) (hM : zMet l md' rm' [a1, a2] M (zqr P)) (hr : rm'.cells = 0 ∧ rm'.slots = 0) (hdd : rm'.frames + 1 ≤ rm.frames ∧ (S.map fun v => v.category).sum + (md'.2.2.1 + 11) + rm'.locals ≤ rm.locals) (hu : u.1 ≤ rm.cells ∧ u.2 ≤ rm.slots) (hd : decode md.2.1 pc = .ok (.invokestatic idx, 3)) (kk : ∀ x M', P x M' → zW X Q u (pc + 3) L (.ref x :: S) M') : zW X Q u pc L (a2 :: a1 :: S) M := za_callS (As := [a1, a2]) hc hs.1 hs.2 hM hdd rfl (by rw [hr.1, hr.2]; exact hu) hd (by rw [hr.1, hr.2]; exact (fun r M' h => by obtain ⟨x, rfl, h⟩ := h; exact kk x M' h))
theorem za_cS3v {idx : Nat} {md' : zMd} {rm' : Room} {a1 a2 a3 : Value} {P : zM → Prop} (hc : zCx X l md rm) (hs : zSS md.1.cls idx md' 3) (hM : zMet l md' rm' [a1, a2, a3] M (zqv P)) (hr : rm'.cells = 0 ∧ rm'.slots = 0) (hdd : rm'.frames + 1 ≤ rm.frames ∧ (S.map fun v => v.category).sum + (md'.2.2.1 + 11) + rm'.locals ≤ rm.locals) (hu : u.1 ≤ rm.cells ∧ u.2 ≤ rm.slots) (hd : decode md.2.1 pc = .ok (.invokestatic idx, 3)) (kk : ∀ M', P M' → zW X Q u (pc + 3) L S M') : zW X Q u pc L (a3 :: a2 :: a1 :: S) M := za_callS (As := [a1, a2, a3]) hc hs.1 hs.2 hM hdd rfl (by rw [hr.1, hr.2]; exact hu) hd (by rw [hr.1, hr.2]; exact (fun r M' h => by obtain ⟨rfl, h⟩ := h; exact kk M' h))
theorem za_cS3i {idx : Nat} {md' : zMd} {rm' : Room} {a1 a2 a3 : Value} {P : Int32 → zM → Prop} (hc : zCx X l md rm) (hs : zSS md.1.cls idx md' 3) (hM : zMet l md' rm' [a1, a2, a3] M (zqi P)) (hr : rm'.cells = 0 ∧ rm'.slots = 0) (hdd : rm'.frames + 1 ≤ rm.frames ∧ (S.map fun v => v.category).sum + (md'.2.2.1 + 11) + rm'.locals ≤ rm.locals) (hu : u.1 ≤ rm.cells ∧ u.2 ≤ rm.slots) (hd : decode md.2.1 pc = .ok (.invokestatic idx, 3)) (kk : ∀ x M', P x M' → zW X Q u (pc + 3) L (.int x :: S) M') : zW X Q u pc L (a3 :: a2 :: a1 :: S) M := za_callS (As := [a1, a2, a3]) hc hs.1 hs.2 hM hdd rfl (by rw [hr.1, hr.2]; exact hu) hd (by rw [hr.1, hr.2]; exact (fun r M' h => by obtain ⟨x, rfl, h⟩ := h; exact kk x M' h))
theorem za_cS3l {idx : Nat} {md' : zMd} {rm' : Room} {a1 a2 a3 : Value} {P : Int64 → zM → Prop} (hc : zCx X l md rm) (hs : zSS md.1.cls idx md' 3) (hM : zMet l md' rm' [a1, a2, a3] M (zql P)) (hr : rm'.cells = 0 ∧ rm'.slots = 0) (hdd : rm'.frames + 1 ≤ rm.frames ∧ (S.map fun v => v.category).sum + (md'.2.2.1 + 11) + rm'.locals ≤ rm.locals) (hu : u.1 ≤ rm.cells ∧ u.2 ≤ rm.slots) (hd : decode md.2.1 pc = .ok (.invokestatic idx, 3)) (kk : ∀ x M', P x M' → zW X Q u (pc + 3) L (.long x :: S) M') : zW X Q u pc L (a3 :: a2 :: a1 :: S) M := za_callS (As := [a1, a2, a3]) hc hs.1 hs.2 hM hdd rfl (by rw [hr.1, hr.2]; exact hu) hd (by rw [hr.1, hr.2]; exact (fun r M' h => by obtain ⟨x, rfl, h⟩ := h; exact kk x M' h))
theorem za_cS3r {idx : Nat} {md' : zMd} {rm' : Room} {a1 a2 a3 : Value} {P : Nat → zM → Prop} (hc : zCx X l md rm) (hs : zSS md.1.cls idx md' 3) (hM : zMet l md' rm' [a1, a2, a3] M (zqr P)) (hr : rm'.cells = 0 ∧ rm'.slots = 0) (hdd : rm'.frames + 1 ≤ rm.frames ∧ (S.map fun v => v.category).sum + (md'.2.2.1 + 11) + rm'.locals ≤ rm.locals) (hu : u.1 ≤ rm.cells ∧ u.2 ≤ rm.slots) (hd : decode md.2.1 pc = .ok (.invokestatic idx, 3)) (kk : ∀ x M', P x M' → zW X Q u (pc + 3) L (.ref x :: S) M') : zW X Q u pc L (a3 :: a2 :: a1 :: S) M := za_callS (As := [a1, a2, a3]) hc hs.1 hs.2 hM hdd rfl (by rw [hr.1, hr.2]; exact hu) hd (by rw [hr.1, hr.2]; exact (fun r M' h => by obtain ⟨x, rfl, h⟩ := h; exact kk x M' h))
theorem za_cS4v {idx : Nat} {md' : zMd} {rm' : Room} {a1 a2 a3 a4 : Value} {P : zM → Prop} (hc : zCx X l md rm) (hs : zSS md.1.cls idx md' 4) (hM : zMet l md' rm' [a1, a2, a3, a4] M (zqv P)) (hr : rm'.cells = 0 ∧ rm'.slots = 0) (hdd : rm'.frames + 1 ≤ rm.frames ∧ (S.map fun v => v.category).sum + (md'.2.2.1 + 11) + rm'.locals ≤ rm.locals) (hu : u.1 ≤ rm.cells ∧ u.2 ≤ rm.slots) (hd : decode md.2.1 pc = .ok (.invokestatic idx, 3)) (kk : ∀ M', P M' → zW X Q u (pc + 3) L S M') : zW X Q u pc L (a4 :: a3 :: a2 :: a1 :: S) M := za_callS (As := [a1, a2, a3, a4]) hc hs.1 hs.2 hM hdd rfl (by rw [hr.1, hr.2]; exact hu) hd (by rw [hr.1, hr.2]; exact (fun r M' h => by obtain ⟨rfl, h⟩ := h; exact kk M' h))
theorem za_cS4i {idx : Nat} {md' : zMd} {rm' : Room} {a1 a2 a3 a4 : Value} {P : Int32 → zM → Prop} (hc : zCx X l md rm) (hs : zSS md.1.cls idx md' 4) (hM : zMet l md' rm' [a1, a2, a3, a4] M (zqi P)) (hr : rm'.cells = 0 ∧ rm'.slots = 0) (hdd : rm'.frames + 1 ≤ rm.frames ∧ (S.map fun v => v.category).sum + (md'.2.2.1 + 11) + rm'.locals ≤ rm.locals) (hu : u.1 ≤ rm.cells ∧ u.2 ≤ rm.slots) (hd : decode md.2.1 pc = .ok (.invokestatic idx, 3)) (kk : ∀ x M', P x M' → zW X Q u (pc + 3) L (.int x :: S) M') : zW X Q u pc L (a4 :: a3 :: a2 :: a1 :: S) M := za_callS (As := [a1, a2, a3, a4]) hc hs.1 hs.2 hM hdd rfl (by rw [hr.1, hr.2]; exact hu) hd (by rw [hr.1, hr.2]; exact (fun r M' h => by obtain ⟨x, rfl, h⟩ := h; exact kk x M' h))
theorem za_cS4l {idx : Nat} {md' : zMd} {rm' : Room} {a1 a2 a3 a4 : Value} {P : Int64 → zM → Prop} (hc : zCx X l md rm) (hs : zSS md.1.cls idx md' 4) (hM : zMet l md' rm' [a1, a2, a3, a4] M (zql P)) (hr : rm'.cells = 0 ∧ rm'.slots = 0) (hdd : rm'.frames + 1 ≤ rm.frames ∧ (S.map fun v => v.category).sum + (md'.2.2.1 + 11) + rm'.locals ≤ rm.locals) (hu : u.1 ≤ rm.cells ∧ u.2 ≤ rm.slots) (hd : decode md.2.1 pc = .ok (.invokestatic idx, 3)) (kk : ∀ x M', P x M' → zW X Q u (pc + 3) L (.long x :: S) M') : zW X Q u pc L (a4 :: a3 :: a2 :: a1 :: S) M := za_callS (As := [a1, a2, a3, a4]) hc hs.1 hs.2 hM hdd rfl (by rw [hr.1, hr.2]; exact hu) hd (by rw [hr.1, hr.2]; exact (fun r M' h => by obtain ⟨x, rfl, h⟩ := h; exact kk x M' h))
theorem za_cS4r {idx : Nat} {md' : zMd} {rm' : Room} {a1 a2 a3 a4 : Value} {P : Nat → zM → Prop} (hc : zCx X l md rm) (hs : zSS md.1.cls idx md' 4) (hM : zMet l md' rm' [a1, a2, a3, a4] M (zqr P)) (hr : rm'.cells = 0 ∧ rm'.slots = 0) (hdd : rm'.frames + 1 ≤ rm.frames ∧ (S.map fun v => v.category).sum + (md'.2.2.1 + 11) + rm'.locals ≤ rm.locals) (hu : u.1 ≤ rm.cells ∧ u.2 ≤ rm.slots) (hd : decode md.2.1 pc = .ok (.invokestatic idx, 3)) (kk : ∀ x M', P x M' → zW X Q u (pc + 3) L (.ref x :: S) M') : zW X Q u pc L (a4 :: a3 :: a2 :: a1 :: S) M := za_callS (As := [a1, a2, a3, a4]) hc hs.1 hs.2 hM hdd rfl (by rw [hr.1, hr.2]; exact hu) hd (by rw [hr.1, hr.2]; exact (fun r M' h => by obtain ⟨x, rfl, h⟩ := h; exact kk x M' h))
theorem za_cS5v {idx : Nat} {md' : zMd} {rm' : Room} {a1 a2 a3 a4 a5 : Value} {P : zM → Prop} (hc : zCx X l md rm) (hs : zSS md.1.cls idx md' 5) (hM : zMet l md' rm' [a1, a2, a3, a4, a5] M (zqv P)) (hr : rm'.cells = 0 ∧ rm'.slots = 0) (hdd : rm'.frames + 1 ≤ rm.frames ∧ (S.map fun v => v.category).sum + (md'.2.2.1 + 11) + rm'.locals ≤ rm.locals) (hu : u.1 ≤ rm.cells ∧ u.2 ≤ rm.slots) (hd : decode md.2.1 pc = .ok (.invokestatic idx, 3)) (kk : ∀ M', P M' → zW X Q u (pc + 3) L S M') : zW X Q u pc L (a5 :: a4 :: a3 :: a2 :: a1 :: S) M := za_callS (As := [a1, a2, a3, a4, a5]) hc hs.1 hs.2 hM hdd rfl (by rw [hr.1, hr.2]; exact hu) hd (by rw [hr.1, hr.2]; exact (fun r M' h => by obtain ⟨rfl, h⟩ := h; exact kk M' h))
theorem za_cS5i {idx : Nat} {md' : zMd} {rm' : Room} {a1 a2 a3 a4 a5 : Value} {P : Int32 → zM → Prop} (hc : zCx X l md rm) (hs : zSS md.1.cls idx md' 5) (hM : zMet l md' rm' [a1, a2, a3, a4, a5] M (zqi P)) (hr : rm'.cells = 0 ∧ rm'.slots = 0) (hdd : rm'.frames + 1 ≤ rm.frames ∧ (S.map fun v => v.category).sum + (md'.2.2.1 + 11) + rm'.locals ≤ rm.locals) (hu : u.1 ≤ rm.cells ∧ u.2 ≤ rm.slots) (hd : decode md.2.1 pc = .ok (.invokestatic idx, 3)) (kk : ∀ x M', P x M' → zW X Q u (pc + 3) L (.int x :: S) M') : zW X Q u pc L (a5 :: a4 :: a3 :: a2 :: a1 :: S) M := za_callS (As := [a1, a2, a3, a4, a5]) hc hs.1 hs.2 hM hdd rfl (by rw [hr.1, hr.2]; exact hu) hd (by rw [hr.1, hr.2]; exact (fun r M' h => by obtain ⟨x, rfl, h⟩ := h; exact kk x M' h))
theorem za_cS5l {idx : Nat} {md' : zMd} {rm' : Room} {a1 a2 a3 a4 a5 : Value} {P : Int64 → zM → Prop} (hc : zCx X l md rm) (hs : zSS md.1.cls idx md' 5) (hM : zMet l md' rm' [a1, a2, a3, a4, a5] M (zql P)) (hr : rm'.cells = 0 ∧ rm'.slots = 0) (hdd : rm'.frames + 1 ≤ rm.frames ∧ (S.map fun v => v.category).sum + (md'.2.2.1 + 11) + rm'.locals ≤ rm.locals) (hu : u.1 ≤ rm.cells ∧ u.2 ≤ rm.slots) (hd : decode md.2.1 pc = .ok (.invokestatic idx, 3)) (kk : ∀ x M', P x M' → zW X Q u (pc + 3) L (.long x :: S) M') : zW X Q u pc L (a5 :: a4 :: a3 :: a2 :: a1 :: S) M := za_callS (As := [a1, a2, a3, a4, a5]) hc hs.1 hs.2 hM hdd rfl (by rw [hr.1, hr.2]; exact hu) hd (by rw [hr.1, hr.2]; exact (fun r M' h => by obtain ⟨x, rfl, h⟩ := h; exact kk x M' h))
theorem za_cS5r {idx : Nat} {md' : zMd} {rm' : Room} {a1 a2 a3 a4 a5 : Value} {P : Nat → zM → Prop} (hc : zCx X l md rm) (hs : zSS md.1.cls idx md' 5) (hM : zMet l md' rm' [a1, a2, a3, a4, a5] M (zqr P)) (hr : rm'.cells = 0 ∧ rm'.slots = 0) (hdd : rm'.frames + 1 ≤ rm.frames ∧ (S.map fun v => v.category).sum + (md'.2.2.1 + 11) + rm'.locals ≤ rm.locals) (hu : u.1 ≤ rm.cells ∧ u.2 ≤ rm.slots) (hd : decode md.2.1 pc = .ok (.invokestatic idx, 3)) (kk : ∀ x M', P x M' → zW X Q u (pc + 3) L (.ref x :: S) M') : zW X Q u pc L (a5 :: a4 :: a3 :: a2 :: a1 :: S) M := za_callS (As := [a1, a2, a3, a4, a5]) hc hs.1 hs.2 hM hdd rfl (by rw [hr.1, hr.2]; exact hu) hd (by rw [hr.1, hr.2]; exact (fun r M' h => by obtain ⟨x, rfl, h⟩ := h; exact kk x M' h))
theorem za_cS6v {idx : Nat} {md' : zMd} {rm' : Room} {a1 a2 a3 a4 a5 a6 : Value} {P : zM → Prop} (hc : zCx X l md rm) (hs : zSS md.1.cls idx md' 6) (hM : zMet l md' rm' [a1, a2, a3, a4, a5, a6] M (zqv P)) (hr : rm'.cells = 0 ∧ rm'.slots = 0) (hdd : rm'.frames + 1 ≤ rm.frames ∧ (S.map fun v => v.category).sum + (md'.2.2.1 + 11) + rm'.locals ≤ rm.locals) (hu : u.1 ≤ rm.cells ∧ u.2 ≤ rm.slots) (hd : decode md.2.1 pc = .ok (.invokestatic idx, 3)) (kk : ∀ M', P M' → zW X Q u (pc + 3) L S M') : zW X Q u pc L (a6 :: a5 :: a4 :: a3 :: a2 :: a1 :: S) M := za_callS (As := [a1, a2, a3, a4, a5, a6]) hc hs.1 hs.2 hM hdd rfl (by rw [hr.1, hr.2]; exact hu) hd (by rw [hr.1, hr.2]; exact (fun r M' h => by obtain ⟨rfl, h⟩ := h; exact kk M' h))
theorem za_cS6i {idx : Nat} {md' : zMd} {rm' : Room} {a1 a2 a3 a4 a5 a6 : Value} {P : Int32 → zM → Prop} (hc : zCx X l md rm) (hs : zSS md.1.cls idx md' 6) (hM : zMet l md' rm' [a1, a2, a3, a4, a5, a6] M (zqi P)) (hr : rm'.cells = 0 ∧ rm'.slots = 0) (hdd : rm'.frames + 1 ≤ rm.frames ∧ (S.map fun v => v.category).sum + (md'.2.2.1 + 11) + rm'.locals ≤ rm.locals) (hu : u.1 ≤ rm.cells ∧ u.2 ≤ rm.slots) (hd : decode md.2.1 pc = .ok (.invokestatic idx, 3)) (kk : ∀ x M', P x M' → zW X Q u (pc + 3) L (.int x :: S) M') : zW X Q u pc L (a6 :: a5 :: a4 :: a3 :: a2 :: a1 :: S) M := za_callS (As := [a1, a2, a3, a4, a5, a6]) hc hs.1 hs.2 hM hdd rfl (by rw [hr.1, hr.2]; exact hu) hd (by rw [hr.1, hr.2]; exact (fun r M' h => by obtain ⟨x, rfl, h⟩ := h; exact kk x M' h))
theorem za_cS6l {idx : Nat} {md' : zMd} {rm' : Room} {a1 a2 a3 a4 a5 a6 : Value} {P : Int64 → zM → Prop} (hc : zCx X l md rm) (hs : zSS md.1.cls idx md' 6) (hM : zMet l md' rm' [a1, a2, a3, a4, a5, a6] M (zql P)) (hr : rm'.cells = 0 ∧ rm'.slots = 0) (hdd : rm'.frames + 1 ≤ rm.frames ∧ (S.map fun v => v.category).sum + (md'.2.2.1 + 11) + rm'.locals ≤ rm.locals) (hu : u.1 ≤ rm.cells ∧ u.2 ≤ rm.slots) (hd : decode md.2.1 pc = .ok (.invokestatic idx, 3)) (kk : ∀ x M', P x M' → zW X Q u (pc + 3) L (.long x :: S) M') : zW X Q u pc L (a6 :: a5 :: a4 :: a3 :: a2 :: a1 :: S) M := za_callS (As := [a1, a2, a3, a4, a5, a6]) hc hs.1 hs.2 hM hdd rfl (by rw [hr.1, hr.2]; exact hu) hd (by rw [hr.1, hr.2]; exact (fun r M' h => by obtain ⟨x, rfl, h⟩ := h; exact kk x M' h))
theorem za_cS6r {idx : Nat} {md' : zMd} {rm' : Room} {a1 a2 a3 a4 a5 a6 : Value} {P : Nat → zM → Prop} (hc : zCx X l md rm) (hs : zSS md.1.cls idx md' 6) (hM : zMet l md' rm' [a1, a2, a3, a4, a5, a6] M (zqr P)) (hr : rm'.cells = 0 ∧ rm'.slots = 0) (hdd : rm'.frames + 1 ≤ rm.frames ∧ (S.map fun v => v.category).sum + (md'.2.2.1 + 11) + rm'.locals ≤ rm.locals) (hu : u.1 ≤ rm.cells ∧ u.2 ≤ rm.slots) (hd : decode md.2.1 pc = .ok (.invokestatic idx, 3)) (kk : ∀ x M', P x M' → zW X Q u (pc + 3) L (.ref x :: S) M') : zW X Q u pc L (a6 :: a5 :: a4 :: a3 :: a2 :: a1 :: S) M := za_callS (As := [a1, a2, a3, a4, a5, a6]) hc hs.1 hs.2 hM hdd rfl (by rw [hr.1, hr.2]; exact hu) hd (by rw [hr.1, hr.2]; exact (fun r M' h => by obtain ⟨x, rfl, h⟩ := h; exact kk x M' h))
theorem za_cSN0v {idx : Nat} {md' : zMd} {rm' : Room} {P : zM → Prop} (hc : zCx X l md rm) (hs : zSSN md.1.cls idx md' 0) (hM : zMet l md' rm' [] M (zqv P)) (hr : rm'.cells = 0 ∧ rm'.slots = 0) (hdd : rm'.frames + 1 ≤ rm.frames ∧ (S.map fun v => v.category).sum + (md'.2.2.1 + 11) + rm'.locals ≤ rm.locals) (hu : u.1 ≤ rm.cells ∧ u.2 ≤ rm.slots) (hd : decode md.2.1 pc = .ok (.invokestatic idx, 3)) (kk : ∀ M', P M' → zW X Q u (pc + 3) L S M') : zW X Q u pc L (S) M := za_callSN (As := []) hc hs.1 hs.2.choose_spec hM hdd rfl (by rw [hr.1, hr.2]; exact hu) hd (by rw [hr.1, hr.2]; exact (fun r M' h => by obtain ⟨rfl, h⟩ := h; exact kk M' h))
theorem za_cSN0i {idx : Nat} {md' : zMd} {rm' : Room} {P : Int32 → zM → Prop} (hc : zCx X l md rm) (hs : zSSN md.1.cls idx md' 0) (hM : zMet l md' rm' [] M (zqi P)) (hr : rm'.cells = 0 ∧ rm'.slots = 0) (hdd : rm'.frames + 1 ≤ rm.frames ∧ (S.map fun v => v.category).sum + (md'.2.2.1 + 11) + rm'.locals ≤ rm.locals) (hu : u.1 ≤ rm.cells ∧ u.2 ≤ rm.slots) (hd : decode md.2.1 pc = .ok (.invokestatic idx, 3)) (kk : ∀ x M', P x M' → zW X Q u (pc + 3) L (.int x :: S) M') : zW X Q u pc L (S) M := za_callSN (As := []) hc hs.1 hs.2.choose_spec hM hdd rfl (by rw [hr.1, hr.2]; exact hu) hd (by rw [hr.1, hr.2]; exact (fun r M' h => by obtain ⟨x, rfl, h⟩ := h; exact kk x M' h))
theorem za_cSN0l {idx : Nat} {md' : zMd} {rm' : Room} {P : Int64 → zM → Prop} (hc : zCx X l md rm) (hs : zSSN md.1.cls idx md' 0) (hM : zMet l md' rm' [] M (zql P)) (hr : rm'.cells = 0 ∧ rm'.slots = 0) (hdd : rm'.frames + 1 ≤ rm.frames ∧ (S.map fun v => v.category).sum + (md'.2.2.1 + 11) + rm'.locals ≤ rm.locals) (hu : u.1 ≤ rm.cells ∧ u.2 ≤ rm.slots) (hd : decode md.2.1 pc = .ok (.invokestatic idx, 3)) (kk : ∀ x M', P x M' → zW X Q u (pc + 3) L (.long x :: S) M') : zW X Q u pc L (S) M := za_callSN (As := []) hc hs.1 hs.2.choose_spec hM hdd rfl (by rw [hr.1, hr.2]; exact hu) hd (by rw [hr.1, hr.2]; exact (fun r M' h => by obtain ⟨x, rfl, h⟩ := h; exact kk x M' h))
theorem za_cSN0r {idx : Nat} {md' : zMd} {rm' : Room} {P : Nat → zM → Prop} (hc : zCx X l md rm) (hs : zSSN md.1.cls idx md' 0) (hM : zMet l md' rm' [] M (zqr P)) (hr : rm'.cells = 0 ∧ rm'.slots = 0) (hdd : rm'.frames + 1 ≤ rm.frames ∧ (S.map fun v => v.category).sum + (md'.2.2.1 + 11) + rm'.locals ≤ rm.locals) (hu : u.1 ≤ rm.cells ∧ u.2 ≤ rm.slots) (hd : decode md.2.1 pc = .ok (.invokestatic idx, 3)) (kk : ∀ x M', P x M' → zW X Q u (pc + 3) L (.ref x :: S) M') : zW X Q u pc L (S) M := za_callSN (As := []) hc hs.1 hs.2.choose_spec hM hdd rfl (by rw [hr.1, hr.2]; exact hu) hd (by rw [hr.1, hr.2]; exact (fun r M' h => by obtain ⟨x, rfl, h⟩ := h; exact kk x M' h))
theorem za_cSN1v {idx : Nat} {md' : zMd} {rm' : Room} {a1 : Value} {P : zM → Prop} (hc : zCx X l md rm) (hs : zSSN md.1.cls idx md' 1) (hM : zMet l md' rm' [a1] M (zqv P)) (hr : rm'.cells = 0 ∧ rm'.slots = 0) (hdd : rm'.frames + 1 ≤ rm.frames ∧ (S.map fun v => v.category).sum + (md'.2.2.1 + 11) + rm'.locals ≤ rm.locals) (hu : u.1 ≤ rm.cells ∧ u.2 ≤ rm.slots) (hd : decode md.2.1 pc = .ok (.invokestatic idx, 3)) (kk : ∀ M', P M' → zW X Q u (pc + 3) L S M') : zW X Q u pc L (a1 :: S) M := za_callSN (As := [a1]) hc hs.1 hs.2.choose_spec hM hdd rfl (by rw [hr.1, hr.2]; exact hu) hd (by rw [hr.1, hr.2]; exact (fun r M' h => by obtain ⟨rfl, h⟩ := h; exact kk M' h))
theorem za_cSN1i {idx : Nat} {md' : zMd} {rm' : Room} {a1 : Value} {P : Int32 → zM → Prop} (hc : zCx X l md rm) (hs : zSSN md.1.cls idx md' 1) (hM : zMet l md' rm' [a1] M (zqi P)) (hr : rm'.cells = 0 ∧ rm'.slots = 0) (hdd : rm'.frames + 1 ≤ rm.frames ∧ (S.map fun v => v.category).sum + (md'.2.2.1 + 11) + rm'.locals ≤ rm.locals) (hu : u.1 ≤ rm.cells ∧ u.2 ≤ rm.slots) (hd : decode md.2.1 pc = .ok (.invokestatic idx, 3)) (kk : ∀ x M', P x M' → zW X Q u (pc + 3) L (.int x :: S) M') : zW X Q u pc L (a1 :: S) M := za_callSN (As := [a1]) hc hs.1 hs.2.choose_spec hM hdd rfl (by rw [hr.1, hr.2]; exact hu) hd (by rw [hr.1, hr.2]; exact (fun r M' h => by obtain ⟨x, rfl, h⟩ := h; exact kk x M' h))
theorem za_cSN1l {idx : Nat} {md' : zMd} {rm' : Room} {a1 : Value} {P : Int64 → zM → Prop} (hc : zCx X l md rm) (hs : zSSN md.1.cls idx md' 1) (hM : zMet l md' rm' [a1] M (zql P)) (hr : rm'.cells = 0 ∧ rm'.slots = 0) (hdd : rm'.frames + 1 ≤ rm.frames ∧ (S.map fun v => v.category).sum + (md'.2.2.1 + 11) + rm'.locals ≤ rm.locals) (hu : u.1 ≤ rm.cells ∧ u.2 ≤ rm.slots) (hd : decode md.2.1 pc = .ok (.invokestatic idx, 3)) (kk : ∀ x M', P x M' → zW X Q u (pc + 3) L (.long x :: S) M') : zW X Q u pc L (a1 :: S) M := za_callSN (As := [a1]) hc hs.1 hs.2.choose_spec hM hdd rfl (by rw [hr.1, hr.2]; exact hu) hd (by rw [hr.1, hr.2]; exact (fun r M' h => by obtain ⟨x, rfl, h⟩ := h; exact kk x M' h))
theorem za_cSN1r {idx : Nat} {md' : zMd} {rm' : Room} {a1 : Value} {P : Nat → zM → Prop} (hc : zCx X l md rm) (hs : zSSN md.1.cls idx md' 1) (hM : zMet l md' rm' [a1] M (zqr P)) (hr : rm'.cells = 0 ∧ rm'.slots = 0) (hdd : rm'.frames + 1 ≤ rm.frames ∧ (S.map fun v => v.category).sum + (md'.2.2.1 + 11) + rm'.locals ≤ rm.locals) (hu : u.1 ≤ rm.cells ∧ u.2 ≤ rm.slots) (hd : decode md.2.1 pc = .ok (.invokestatic idx, 3)) (kk : ∀ x M', P x M' → zW X Q u (pc + 3) L (.ref x :: S) M') : zW X Q u pc L (a1 :: S) M := za_callSN (As := [a1]) hc hs.1 hs.2.choose_spec hM hdd rfl (by rw [hr.1, hr.2]; exact hu) hd (by rw [hr.1, hr.2]; exact (fun r M' h => by obtain ⟨x, rfl, h⟩ := h; exact kk x M' h))
theorem za_cSN2v {idx : Nat} {md' : zMd} {rm' : Room} {a1 a2 : Value} {P : zM → Prop} (hc : zCx X l md rm) (hs : zSSN md.1.cls idx md' 2) (hM : zMet l md' rm' [a1, a2] M (zqv P)) (hr : rm'.cells = 0 ∧ rm'.slots = 0) (hdd : rm'.frames + 1 ≤ rm.frames ∧ (S.map fun v => v.category).sum + (md'.2.2.1 + 11) + rm'.locals ≤ rm.locals) (hu : u.1 ≤ rm.cells ∧ u.2 ≤ rm.slots) (hd : decode md.2.1 pc = .ok (.invokestatic idx, 3)) (kk : ∀ M', P M' → zW X Q u (pc + 3) L S M') : zW X Q u pc L (a2 :: a1 :: S) M := za_callSN (As := [a1, a2]) hc hs.1 hs.2.choose_spec hM hdd rfl (by rw [hr.1, hr.2]; exact hu) hd (by rw [hr.1, hr.2]; exact (fun r M' h => by obtain ⟨rfl, h⟩ := h; exact kk M' h))
theorem za_cSN2i {idx : Nat} {md' : zMd} {rm' : Room} {a1 a2 : Value} {P : Int32 → zM → Prop} (hc : zCx X l md rm) (hs : zSSN md.1.cls idx md' 2) (hM : zMet l md' rm' [a1, a2] M (zqi P)) (hr : rm'.cells = 0 ∧ rm'.slots = 0) (hdd : rm'.frames + 1 ≤ rm.frames ∧ (S.map fun v => v.category).sum + (md'.2.2.1 + 11) + rm'.locals ≤ rm.locals) (hu : u.1 ≤ rm.cells ∧ u.2 ≤ rm.slots) (hd : decode md.2.1 pc = .ok (.invokestatic idx, 3)) (kk : ∀ x M', P x M' → zW X Q u (pc + 3) L (.int x :: S) M') : zW X Q u pc L (a2 :: a1 :: S) M := za_callSN (As := [a1, a2]) hc hs.1 hs.2.choose_spec hM hdd rfl (by rw [hr.1, hr.2]; exact hu) hd (by rw [hr.1, hr.2]; exact (fun r M' h => by obtain ⟨x, rfl, h⟩ := h; exact kk x M' h))
theorem za_cSN2l {idx : Nat} {md' : zMd} {rm' : Room} {a1 a2 : Value} {P : Int64 → zM → Prop} (hc : zCx X l md rm) (hs : zSSN md.1.cls idx md' 2) (hM : zMet l md' rm' [a1, a2] M (zql P)) (hr : rm'.cells = 0 ∧ rm'.slots = 0) (hdd : rm'.frames + 1 ≤ rm.frames ∧ (S.map fun v => v.category).sum + (md'.2.2.1 + 11) + rm'.locals ≤ rm.locals) (hu : u.1 ≤ rm.cells ∧ u.2 ≤ rm.slots) (hd : decode md.2.1 pc = .ok (.invokestatic idx, 3)) (kk : ∀ x M', P x M' → zW X Q u (pc + 3) L (.long x :: S) M') : zW X Q u pc L (a2 :: a1 :: S) M := za_callSN (As := [a1, a2]) hc hs.1 hs.2.choose_spec hM hdd rfl (by rw [hr.1, hr.2]; exact hu) hd (by rw [hr.1, hr.2]; exact (fun r M' h => by obtain ⟨x, rfl, h⟩ := h; exact kk x M' h))
theorem za_cSN2r {idx : Nat} {md' : zMd} {rm' : Room} {a1 a2 : Value} {P : Nat → zM → Prop} (hc : zCx X l md rm) (hs : zSSN md.1.cls idx md' 2) (hM : zMet l md' rm' [a1, a2] M (zqr P)) (hr : rm'.cells = 0 ∧ rm'.slots = 0) (hdd : rm'.frames + 1 ≤ rm.frames ∧ (S.map fun v => v.category).sum + (md'.2.2.1 + 11) + rm'.locals ≤ rm.locals) (hu : u.1 ≤ rm.cells ∧ u.2 ≤ rm.slots) (hd : decode md.2.1 pc = .ok (.invokestatic idx, 3)) (kk : ∀ x M', P x M' → zW X Q u (pc + 3) L (.ref x :: S) M') : zW X Q u pc L (a2 :: a1 :: S) M := za_callSN (As := [a1, a2]) hc hs.1 hs.2.choose_spec hM hdd rfl (by rw [hr.1, hr.2]; exact hu) hd (by rw [hr.1, hr.2]; exact (fun r M' h => by obtain ⟨x, rfl, h⟩ := h; exact kk x M' h))
theorem za_cSN3v {idx : Nat} {md' : zMd} {rm' : Room} {a1 a2 a3 : Value} {P : zM → Prop} (hc : zCx X l md rm) (hs : zSSN md.1.cls idx md' 3) (hM : zMet l md' rm' [a1, a2, a3] M (zqv P)) (hr : rm'.cells = 0 ∧ rm'.slots = 0) (hdd : rm'.frames + 1 ≤ rm.frames ∧ (S.map fun v => v.category).sum + (md'.2.2.1 + 11) + rm'.locals ≤ rm.locals) (hu : u.1 ≤ rm.cells ∧ u.2 ≤ rm.slots) (hd : decode md.2.1 pc = .ok (.invokestatic idx, 3)) (kk : ∀ M', P M' → zW X Q u (pc + 3) L S M') : zW X Q u pc L (a3 :: a2 :: a1 :: S) M := za_callSN (As := [a1, a2, a3]) hc hs.1 hs.2.choose_spec hM hdd rfl (by rw [hr.1, hr.2]; exact hu) hd (by rw [hr.1, hr.2]; exact (fun r M' h => by obtain ⟨rfl, h⟩ := h; exact kk M' h))
theorem za_cSN3i {idx : Nat} {md' : zMd} {rm' : Room} {a1 a2 a3 : Value} {P : Int32 → zM → Prop} (hc : zCx X l md rm) (hs : zSSN md.1.cls idx md' 3) (hM : zMet l md' rm' [a1, a2, a3] M (zqi P)) (hr : rm'.cells = 0 ∧ rm'.slots = 0) (hdd : rm'.frames + 1 ≤ rm.frames ∧ (S.map fun v => v.category).sum + (md'.2.2.1 + 11) + rm'.locals ≤ rm.locals) (hu : u.1 ≤ rm.cells ∧ u.2 ≤ rm.slots) (hd : decode md.2.1 pc = .ok (.invokestatic idx, 3)) (kk : ∀ x M', P x M' → zW X Q u (pc + 3) L (.int x :: S) M') : zW X Q u pc L (a3 :: a2 :: a1 :: S) M := za_callSN (As := [a1, a2, a3]) hc hs.1 hs.2.choose_spec hM hdd rfl (by rw [hr.1, hr.2]; exact hu) hd (by rw [hr.1, hr.2]; exact (fun r M' h => by obtain ⟨x, rfl, h⟩ := h; exact kk x M' h))
theorem za_cSN3l {idx : Nat} {md' : zMd} {rm' : Room} {a1 a2 a3 : Value} {P : Int64 → zM → Prop} (hc : zCx X l md rm) (hs : zSSN md.1.cls idx md' 3) (hM : zMet l md' rm' [a1, a2, a3] M (zql P)) (hr : rm'.cells = 0 ∧ rm'.slots = 0) (hdd : rm'.frames + 1 ≤ rm.frames ∧ (S.map fun v => v.category).sum + (md'.2.2.1 + 11) + rm'.locals ≤ rm.locals) (hu : u.1 ≤ rm.cells ∧ u.2 ≤ rm.slots) (hd : decode md.2.1 pc = .ok (.invokestatic idx, 3)) (kk : ∀ x M', P x M' → zW X Q u (pc + 3) L (.long x :: S) M') : zW X Q u pc L (a3 :: a2 :: a1 :: S) M := za_callSN (As := [a1, a2, a3]) hc hs.1 hs.2.choose_spec hM hdd rfl (by rw [hr.1, hr.2]; exact hu) hd (by rw [hr.1, hr.2]; exact (fun r M' h => by obtain ⟨x, rfl, h⟩ := h; exact kk x M' h))
theorem za_cSN3r {idx : Nat} {md' : zMd} {rm' : Room} {a1 a2 a3 : Value} {P : Nat → zM → Prop} (hc : zCx X l md rm) (hs : zSSN md.1.cls idx md' 3) (hM : zMet l md' rm' [a1, a2, a3] M (zqr P)) (hr : rm'.cells = 0 ∧ rm'.slots = 0) (hdd : rm'.frames + 1 ≤ rm.frames ∧ (S.map fun v => v.category).sum + (md'.2.2.1 + 11) + rm'.locals ≤ rm.locals) (hu : u.1 ≤ rm.cells ∧ u.2 ≤ rm.slots) (hd : decode md.2.1 pc = .ok (.invokestatic idx, 3)) (kk : ∀ x M', P x M' → zW X Q u (pc + 3) L (.ref x :: S) M') : zW X Q u pc L (a3 :: a2 :: a1 :: S) M := za_callSN (As := [a1, a2, a3]) hc hs.1 hs.2.choose_spec hM hdd rfl (by rw [hr.1, hr.2]; exact hu) hd (by rw [hr.1, hr.2]; exact (fun r M' h => by obtain ⟨x, rfl, h⟩ := h; exact kk x M' h))
theorem za_cSN4v {idx : Nat} {md' : zMd} {rm' : Room} {a1 a2 a3 a4 : Value} {P : zM → Prop} (hc : zCx X l md rm) (hs : zSSN md.1.cls idx md' 4) (hM : zMet l md' rm' [a1, a2, a3, a4] M (zqv P)) (hr : rm'.cells = 0 ∧ rm'.slots = 0) (hdd : rm'.frames + 1 ≤ rm.frames ∧ (S.map fun v => v.category).sum + (md'.2.2.1 + 11) + rm'.locals ≤ rm.locals) (hu : u.1 ≤ rm.cells ∧ u.2 ≤ rm.slots) (hd : decode md.2.1 pc = .ok (.invokestatic idx, 3)) (kk : ∀ M', P M' → zW X Q u (pc + 3) L S M') : zW X Q u pc L (a4 :: a3 :: a2 :: a1 :: S) M := za_callSN (As := [a1, a2, a3, a4]) hc hs.1 hs.2.choose_spec hM hdd rfl (by rw [hr.1, hr.2]; exact hu) hd (by rw [hr.1, hr.2]; exact (fun r M' h => by obtain ⟨rfl, h⟩ := h; exact kk M' h))
theorem za_cSN4i {idx : Nat} {md' : zMd} {rm' : Room} {a1 a2 a3 a4 : Value} {P : Int32 → zM → Prop} (hc : zCx X l md rm) (hs : zSSN md.1.cls idx md' 4) (hM : zMet l md' rm' [a1, a2, a3, a4] M (zqi P)) (hr : rm'.cells = 0 ∧ rm'.slots = 0) (hdd : rm'.frames + 1 ≤ rm.frames ∧ (S.map fun v => v.category).sum + (md'.2.2.1 + 11) + rm'.locals ≤ rm.locals) (hu : u.1 ≤ rm.cells ∧ u.2 ≤ rm.slots) (hd : decode md.2.1 pc = .ok (.invokestatic idx, 3)) (kk : ∀ x M', P x M' → zW X Q u (pc + 3) L (.int x :: S) M') : zW X Q u pc L (a4 :: a3 :: a2 :: a1 :: S) M := za_callSN (As := [a1, a2, a3, a4]) hc hs.1 hs.2.choose_spec hM hdd rfl (by rw [hr.1, hr.2]; exact hu) hd (by rw [hr.1, hr.2]; exact (fun r M' h => by obtain ⟨x, rfl, h⟩ := h; exact kk x M' h))
theorem za_cSN4l {idx : Nat} {md' : zMd} {rm' : Room} {a1 a2 a3 a4 : Value} {P : Int64 → zM → Prop} (hc : zCx X l md rm) (hs : zSSN md.1.cls idx md' 4) (hM : zMet l md' rm' [a1, a2, a3, a4] M (zql P)) (hr : rm'.cells = 0 ∧ rm'.slots = 0) (hdd : rm'.frames + 1 ≤ rm.frames ∧ (S.map fun v => v.category).sum + (md'.2.2.1 + 11) + rm'.locals ≤ rm.locals) (hu : u.1 ≤ rm.cells ∧ u.2 ≤ rm.slots) (hd : decode md.2.1 pc = .ok (.invokestatic idx, 3)) (kk : ∀ x M', P x M' → zW X Q u (pc + 3) L (.long x :: S) M') : zW X Q u pc L (a4 :: a3 :: a2 :: a1 :: S) M := za_callSN (As := [a1, a2, a3, a4]) hc hs.1 hs.2.choose_spec hM hdd rfl (by rw [hr.1, hr.2]; exact hu) hd (by rw [hr.1, hr.2]; exact (fun r M' h => by obtain ⟨x, rfl, h⟩ := h; exact kk x M' h))
theorem za_cSN4r {idx : Nat} {md' : zMd} {rm' : Room} {a1 a2 a3 a4 : Value} {P : Nat → zM → Prop} (hc : zCx X l md rm) (hs : zSSN md.1.cls idx md' 4) (hM : zMet l md' rm' [a1, a2, a3, a4] M (zqr P)) (hr : rm'.cells = 0 ∧ rm'.slots = 0) (hdd : rm'.frames + 1 ≤ rm.frames ∧ (S.map fun v => v.category).sum + (md'.2.2.1 + 11) + rm'.locals ≤ rm.locals) (hu : u.1 ≤ rm.cells ∧ u.2 ≤ rm.slots) (hd : decode md.2.1 pc = .ok (.invokestatic idx, 3)) (kk : ∀ x M', P x M' → zW X Q u (pc + 3) L (.ref x :: S) M') : zW X Q u pc L (a4 :: a3 :: a2 :: a1 :: S) M := za_callSN (As := [a1, a2, a3, a4]) hc hs.1 hs.2.choose_spec hM hdd rfl (by rw [hr.1, hr.2]; exact hu) hd (by rw [hr.1, hr.2]; exact (fun r M' h => by obtain ⟨x, rfl, h⟩ := h; exact kk x M' h))
theorem za_cSN5v {idx : Nat} {md' : zMd} {rm' : Room} {a1 a2 a3 a4 a5 : Value} {P : zM → Prop} (hc : zCx X l md rm) (hs : zSSN md.1.cls idx md' 5) (hM : zMet l md' rm' [a1, a2, a3, a4, a5] M (zqv P)) (hr : rm'.cells = 0 ∧ rm'.slots = 0) (hdd : rm'.frames + 1 ≤ rm.frames ∧ (S.map fun v => v.category).sum + (md'.2.2.1 + 11) + rm'.locals ≤ rm.locals) (hu : u.1 ≤ rm.cells ∧ u.2 ≤ rm.slots) (hd : decode md.2.1 pc = .ok (.invokestatic idx, 3)) (kk : ∀ M', P M' → zW X Q u (pc + 3) L S M') : zW X Q u pc L (a5 :: a4 :: a3 :: a2 :: a1 :: S) M := za_callSN (As := [a1, a2, a3, a4, a5]) hc hs.1 hs.2.choose_spec hM hdd rfl (by rw [hr.1, hr.2]; exact hu) hd (by rw [hr.1, hr.2]; exact (fun r M' h => by obtain ⟨rfl, h⟩ := h; exact kk M' h))
theorem za_cSN5i {idx : Nat} {md' : zMd} {rm' : Room} {a1 a2 a3 a4 a5 : Value} {P : Int32 → zM → Prop} (hc : zCx X l md rm) (hs : zSSN md.1.cls idx md' 5) (hM : zMet l md' rm' [a1, a2, a3, a4, a5] M (zqi P)) (hr : rm'.cells = 0 ∧ rm'.slots = 0) (hdd : rm'.frames + 1 ≤ rm.frames ∧ (S.map fun v => v.category).sum + (md'.2.2.1 + 11) + rm'.locals ≤ rm.locals) (hu : u.1 ≤ rm.cells ∧ u.2 ≤ rm.slots) (hd : decode md.2.1 pc = .ok (.invokestatic idx, 3)) (kk : ∀ x M', P x M' → zW X Q u (pc + 3) L (.int x :: S) M') : zW X Q u pc L (a5 :: a4 :: a3 :: a2 :: a1 :: S) M := za_callSN (As := [a1, a2, a3, a4, a5]) hc hs.1 hs.2.choose_spec hM hdd rfl (by rw [hr.1, hr.2]; exact hu) hd (by rw [hr.1, hr.2]; exact (fun r M' h => by obtain ⟨x, rfl, h⟩ := h; exact kk x M' h))
theorem za_cSN5l {idx : Nat} {md' : zMd} {rm' : Room} {a1 a2 a3 a4 a5 : Value} {P : Int64 → zM → Prop} (hc : zCx X l md rm) (hs : zSSN md.1.cls idx md' 5) (hM : zMet l md' rm' [a1, a2, a3, a4, a5] M (zql P)) (hr : rm'.cells = 0 ∧ rm'.slots = 0) (hdd : rm'.frames + 1 ≤ rm.frames ∧ (S.map fun v => v.category).sum + (md'.2.2.1 + 11) + rm'.locals ≤ rm.locals) (hu : u.1 ≤ rm.cells ∧ u.2 ≤ rm.slots) (hd : decode md.2.1 pc = .ok (.invokestatic idx, 3)) (kk : ∀ x M', P x M' → zW X Q u (pc + 3) L (.long x :: S) M') : zW X Q u pc L (a5 :: a4 :: a3 :: a2 :: a1 :: S) M := za_callSN (As := [a1, a2, a3, a4, a5]) hc hs.1 hs.2.choose_spec hM hdd rfl (by rw [hr.1, hr.2]; exact hu) hd (by rw [hr.1, hr.2]; exact (fun r M' h => by obtain ⟨x, rfl, h⟩ := h; exact kk x M' h))
theorem za_cSN5r {idx : Nat} {md' : zMd} {rm' : Room} {a1 a2 a3 a4 a5 : Value} {P : Nat → zM → Prop} (hc : zCx X l md rm) (hs : zSSN md.1.cls idx md' 5) (hM : zMet l md' rm' [a1, a2, a3, a4, a5] M (zqr P)) (hr : rm'.cells = 0 ∧ rm'.slots = 0) (hdd : rm'.frames + 1 ≤ rm.frames ∧ (S.map fun v => v.category).sum + (md'.2.2.1 + 11) + rm'.locals ≤ rm.locals) (hu : u.1 ≤ rm.cells ∧ u.2 ≤ rm.slots) (hd : decode md.2.1 pc = .ok (.invokestatic idx, 3)) (kk : ∀ x M', P x M' → zW X Q u (pc + 3) L (.ref x :: S) M') : zW X Q u pc L (a5 :: a4 :: a3 :: a2 :: a1 :: S) M := za_callSN (As := [a1, a2, a3, a4, a5]) hc hs.1 hs.2.choose_spec hM hdd rfl (by rw [hr.1, hr.2]; exact hu) hd (by rw [hr.1, hr.2]; exact (fun r M' h => by obtain ⟨x, rfl, h⟩ := h; exact kk x M' h))
theorem za_cSN6v {idx : Nat} {md' : zMd} {rm' : Room} {a1 a2 a3 a4 a5 a6 : Value} {P : zM → Prop} (hc : zCx X l md rm) (hs : zSSN md.1.cls idx md' 6) (hM : zMet l md' rm' [a1, a2, a3, a4, a5, a6] M (zqv P)) (hr : rm'.cells = 0 ∧ rm'.slots = 0) (hdd : rm'.frames + 1 ≤ rm.frames ∧ (S.map fun v => v.category).sum + (md'.2.2.1 + 11) + rm'.locals ≤ rm.locals) (hu : u.1 ≤ rm.cells ∧ u.2 ≤ rm.slots) (hd : decode md.2.1 pc = .ok (.invokestatic idx, 3)) (kk : ∀ M', P M' → zW X Q u (pc + 3) L S M') : zW X Q u pc L (a6 :: a5 :: a4 :: a3 :: a2 :: a1 :: S) M := za_callSN (As := [a1, a2, a3, a4, a5, a6]) hc hs.1 hs.2.choose_spec hM hdd rfl (by rw [hr.1, hr.2]; exact hu) hd (by rw [hr.1, hr.2]; exact (fun r M' h => by obtain ⟨rfl, h⟩ := h; exact kk M' h))
theorem za_cSN6i {idx : Nat} {md' : zMd} {rm' : Room} {a1 a2 a3 a4 a5 a6 : Value} {P : Int32 → zM → Prop} (hc : zCx X l md rm) (hs : zSSN md.1.cls idx md' 6) (hM : zMet l md' rm' [a1, a2, a3, a4, a5, a6] M (zqi P)) (hr : rm'.cells = 0 ∧ rm'.slots = 0) (hdd : rm'.frames + 1 ≤ rm.frames ∧ (S.map fun v => v.category).sum + (md'.2.2.1 + 11) + rm'.locals ≤ rm.locals) (hu : u.1 ≤ rm.cells ∧ u.2 ≤ rm.slots) (hd : decode md.2.1 pc = .ok (.invokestatic idx, 3)) (kk : ∀ x M', P x M' → zW X Q u (pc + 3) L (.int x :: S) M') : zW X Q u pc L (a6 :: a5 :: a4 :: a3 :: a2 :: a1 :: S) M := za_callSN (As := [a1, a2, a3, a4, a5, a6]) hc hs.1 hs.2.choose_spec hM hdd rfl (by rw [hr.1, hr.2]; exact hu) hd (by rw [hr.1, hr.2]; exact (fun r M' h => by obtain ⟨x, rfl, h⟩ := h; exact kk x M' h))
theorem za_cSN6l {idx : Nat} {md' : zMd} {rm' : Room} {a1 a2 a3 a4 a5 a6 : Value} {P : Int64 → zM → Prop} (hc : zCx X l md rm) (hs : zSSN md.1.cls idx md' 6) (hM : zMet l md' rm' [a1, a2, a3, a4, a5, a6] M (zql P)) (hr : rm'.cells = 0 ∧ rm'.slots = 0) (hdd : rm'.frames + 1 ≤ rm.frames ∧ (S.map fun v => v.category).sum + (md'.2.2.1 + 11) + rm'.locals ≤ rm.locals) (hu : u.1 ≤ rm.cells ∧ u.2 ≤ rm.slots) (hd : decode md.2.1 pc = .ok (.invokestatic idx, 3)) (kk : ∀ x M', P x M' → zW X Q u (pc + 3) L (.long x :: S) M') : zW X Q u pc L (a6 :: a5 :: a4 :: a3 :: a2 :: a1 :: S) M := za_callSN (As := [a1, a2, a3, a4, a5, a6]) hc hs.1 hs.2.choose_spec hM hdd rfl (by rw [hr.1, hr.2]; exact hu) hd (by rw [hr.1, hr.2]; exact (fun r M' h => by obtain ⟨x, rfl, h⟩ := h; exact kk x M' h))
theorem za_cSN6r {idx : Nat} {md' : zMd} {rm' : Room} {a1 a2 a3 a4 a5 a6 : Value} {P : Nat → zM → Prop} (hc : zCx X l md rm) (hs : zSSN md.1.cls idx md' 6) (hM : zMet l md' rm' [a1, a2, a3, a4, a5, a6] M (zqr P)) (hr : rm'.cells = 0 ∧ rm'.slots = 0) (hdd : rm'.frames + 1 ≤ rm.frames ∧ (S.map fun v => v.category).sum + (md'.2.2.1 + 11) + rm'.locals ≤ rm.locals) (hu : u.1 ≤ rm.cells ∧ u.2 ≤ rm.slots) (hd : decode md.2.1 pc = .ok (.invokestatic idx, 3)) (kk : ∀ x M', P x M' → zW X Q u (pc + 3) L (.ref x :: S) M') : zW X Q u pc L (a6 :: a5 :: a4 :: a3 :: a2 :: a1 :: S) M := za_callSN (As := [a1, a2, a3, a4, a5, a6]) hc hs.1 hs.2.choose_spec hM hdd rfl (by rw [hr.1, hr.2]; exact hu) hd (by rw [hr.1, hr.2]; exact (fun r M' h => by obtain ⟨x, rfl, h⟩ := h; exact kk x M' h))
theorem za_getI {k ci j idx : Nat} (hc : zCx X l md rm) (hf : zFld md.1.cls idx ci j 0) (ho : zob k ci) (hd : decode md.2.1 pc = .ok (.getfield idx, 3)) (kk : zW X Q u (pc + 3) L (.int (zI M k j) :: S) M) : zW X Q u pc L (.ref k :: S) M := za_get hc hf ho hd kk
theorem za_getJ {k ci j idx : Nat} (hc : zCx X l md rm) (hf : zFld md.1.cls idx ci j 1) (ho : zob k ci) (hd : decode md.2.1 pc = .ok (.getfield idx, 3)) (kk : zW X Q u (pc + 3) L (.long (zJ M k j) :: S) M) : zW X Q u pc L (.ref k :: S) M := za_get hc hf ho hd kk
theorem za_getR {k ci j idx : Nat} (hc : zCx X l md rm) (hf : zFld md.1.cls idx ci j 2) (ho : zob k ci) (hd : decode md.2.1 pc = .ok (.getfield idx, 3)) (kk : zW X Q u (pc + 3) L (.ref (zR M k j) :: S) M) : zW X Q u pc L (.ref k :: S) M := za_get hc hf ho hd kk
theorem za_getS {k ci j idx t : Nat} (hc : zCx X l md rm) (hf : zFld md.1.cls idx ci j (t + 3)) (ho : zob k ci) (hd : decode md.2.1 pc = .ok (.getfield idx, 3)) (kk : zW X Q u (pc + 3) L (.ref (k + t) :: S) M) : zW X Q u pc L (.ref k :: S) M := za_get hc hf ho hd kk
end ZCB
end
section
theorem dD_init_0 : decode cD_init 0 = .ok (.aload_n 0, 1) := by decide +kernel
theorem dD_init_1 : decode cD_init 1 = .ok (.invokespecial 3, 3) := by decide +kernel
theorem dD_init_4 : decode cD_init 4 = .ok (.aload_n 0, 1) := by decide +kernel
theorem dD_init_5 : decode cD_init 5 = .ok (.bipush 36, 2) := by decide +kernel
theorem dD_init_7 : decode cD_init 7 = .ok (.newarray .long, 2) := by decide +kernel
theorem dD_init_9 : decode cD_init 9 = .ok (.putfield 11, 3) := by decide +kernel
theorem dD_init_12 : decode cD_init 12 = .ok (.aload_n 0, 1) := by decide +kernel
theorem dD_init_13 : decode cD_init 13 = .ok (.bipush 36, 2) := by decide +kernel
theorem dD_init_15 : decode cD_init 15 = .ok (.newarray .long, 2) := by decide +kernel
theorem dD_init_17 : decode cD_init 17 = .ok (.putfield 15, 3) := by decide +kernel
theorem dD_init_20 : decode cD_init 20 = .ok (.aload_n 0, 1) := by decide +kernel
theorem dD_init_21 : decode cD_init 21 = .ok (.bipush 36, 2) := by decide +kernel
theorem dD_init_23 : decode cD_init 23 = .ok (.newarray .long, 2) := by decide +kernel
theorem dD_init_25 : decode cD_init 25 = .ok (.putfield 18, 3) := by decide +kernel
theorem dD_init_28 : decode cD_init 28 = .ok (.aload_n 0, 1) := by decide +kernel
theorem dD_init_29 : decode cD_init 29 = .ok (.bipush 36, 2) := by decide +kernel
theorem dD_init_31 : decode cD_init 31 = .ok (.newarray .boolean, 2) := by decide +kernel
theorem dD_init_33 : decode cD_init 33 = .ok (.putfield 21, 3) := by decide +kernel
theorem dD_init_36 : decode cD_init 36 = .ok (.aload_n 0, 1) := by decide +kernel
theorem dD_init_37 : decode cD_init 37 = .ok (.new 25, 3) := by decide +kernel
theorem dD_init_40 : decode cD_init 40 = .ok (.dup, 1) := by decide +kernel
theorem dD_init_41 : decode cD_init 41 = .ok (.invokespecial 27, 3) := by decide +kernel
theorem dD_init_44 : decode cD_init 44 = .ok (.putfield 28, 3) := by decide +kernel
theorem dD_init_47 : decode cD_init 47 = .ok (.return_, 1) := by decide +kernel
theorem dD_clear_0 : decode cD_clear 0 = .ok (.aload_n 0, 1) := by decide +kernel
theorem dD_clear_1 : decode cD_clear 1 = .ok (.iconst 0, 1) := by decide +kernel
theorem dD_clear_2 : decode cD_clear 2 = .ok (.putfield 32, 3) := by decide +kernel
theorem dD_clear_5 : decode cD_clear 5 = .ok (.return_, 1) := by decide +kernel
theorem dD_memberCount_0 : decode cD_memberCount 0 = .ok (.aload_n 0, 1) := by decide +kernel
theorem dD_memberCount_1 : decode cD_memberCount 1 = .ok (.getfield 32, 3) := by decide +kernel
theorem dD_memberCount_4 : decode cD_memberCount 4 = .ok (.ireturn, 1) := by decide +kernel
theorem dD_x_0 : decode cD_x 0 = .ok (.aload_n 0, 1) := by decide +kernel
theorem dD_x_1 : decode cD_x 1 = .ok (.getfield 11, 3) := by decide +kernel
theorem dD_x_4 : decode cD_x 4 = .ok (.iload_n 1, 1) := by decide +kernel
theorem dD_x_5 : decode cD_x 5 = .ok (.laload, 1) := by decide +kernel
theorem dD_x_6 : decode cD_x 6 = .ok (.lreturn, 1) := by decide +kernel
theorem dD_y_0 : decode cD_y 0 = .ok (.aload_n 0, 1) := by decide +kernel
theorem dD_y_1 : decode cD_y 1 = .ok (.getfield 15, 3) := by decide +kernel
theorem dD_y_4 : decode cD_y 4 = .ok (.iload_n 1, 1) := by decide +kernel
theorem dD_y_5 : decode cD_y 5 = .ok (.laload, 1) := by decide +kernel
theorem dD_y_6 : decode cD_y 6 = .ok (.lreturn, 1) := by decide +kernel
theorem dD_bound_0 : decode cD_bound 0 = .ok (.aload_n 0, 1) := by decide +kernel
theorem dD_bound_1 : decode cD_bound 1 = .ok (.getfield 18, 3) := by decide +kernel
theorem dD_bound_4 : decode cD_bound 4 = .ok (.iload_n 1, 1) := by decide +kernel
theorem dD_bound_5 : decode cD_bound 5 = .ok (.laload, 1) := by decide +kernel
theorem dD_bound_6 : decode cD_bound 6 = .ok (.lreturn, 1) := by decide +kernel
theorem dD_isStrict_0 : decode cD_isStrict 0 = .ok (.aload_n 0, 1) := by decide +kernel
theorem dD_isStrict_1 : decode cD_isStrict 1 = .ok (.getfield 21, 3) := by decide +kernel
theorem dD_isStrict_4 : decode cD_isStrict 4 = .ok (.iload_n 1, 1) := by decide +kernel
theorem dD_isStrict_5 : decode cD_isStrict 5 = .ok (.baload, 1) := by decide +kernel
theorem dD_isStrict_6 : decode cD_isStrict 6 = .ok (.ireturn, 1) := by decide +kernel
theorem dD_put_0 : decode cD_put 0 = .ok (.lload_n 1, 1) := by decide +kernel
theorem dD_put_1 : decode cD_put 1 = .ok (.lconst 0, 1) := by decide +kernel
theorem dD_put_2 : decode cD_put 2 = .ok (.lcmp, 1) := by decide +kernel
theorem dD_put_3 : decode cD_put 3 = .ok (.ifCond .ne 10, 3) := by decide +kernel
theorem dD_put_6 : decode cD_put 6 = .ok (.lload_n 3, 1) := by decide +kernel
theorem dD_put_7 : decode cD_put 7 = .ok (.lconst 0, 1) := by decide +kernel
theorem dD_put_8 : decode cD_put 8 = .ok (.lcmp, 1) := by decide +kernel
theorem dD_put_9 : decode cD_put 9 = .ok (.ifCond .ne 4, 3) := by decide +kernel
theorem dD_put_12 : decode cD_put 12 = .ok (.return_, 1) := by decide +kernel
theorem dD_put_13 : decode cD_put 13 = .ok (.lload_n 1, 1) := by decide +kernel
theorem dD_put_14 : decode cD_put 14 = .ok (.lload_n 3, 1) := by decide +kernel
theorem dD_put_15 : decode cD_put 15 = .ok (.invokestatic 36, 3) := by decide +kernel
theorem dD_put_18 : decode cD_put 18 = .ok (.lload 5, 2) := by decide +kernel
theorem dD_put_20 : decode cD_put 20 = .ok (.invokestatic 36, 3) := by decide +kernel
theorem dD_put_23 : decode cD_put 23 = .ok (.lstore 8, 2) := by decide +kernel
theorem dD_put_25 : decode cD_put 25 = .ok (.lload 8, 2) := by decide +kernel
theorem dD_put_27 : decode cD_put 27 = .ok (.lconst 1, 1) := by decide +kernel
theorem dD_put_28 : decode cD_put 28 = .ok (.lcmp, 1) := by decide +kernel
theorem dD_put_29 : decode cD_put 29 = .ok (.ifCond .le 25, 3) := by decide +kernel
theorem dD_put_32 : decode cD_put 32 = .ok (.aload_n 0, 1) := by decide +kernel
theorem dD_put_33 : decode cD_put 33 = .ok (.lload_n 1, 1) := by decide +kernel
theorem dD_put_34 : decode cD_put 34 = .ok (.lload 8, 2) := by decide +kernel
theorem dD_put_36 : decode cD_put 36 = .ok (.ldiv, 1) := by decide +kernel
theorem dD_put_37 : decode cD_put 37 = .ok (.lload_n 3, 1) := by decide +kernel
theorem dD_put_38 : decode cD_put 38 = .ok (.lload 8, 2) := by decide +kernel
theorem dD_put_40 : decode cD_put 40 = .ok (.ldiv, 1) := by decide +kernel
theorem dD_put_41 : decode cD_put 41 = .ok (.lload 5, 2) := by decide +kernel
theorem dD_put_43 : decode cD_put 43 = .ok (.lload 8, 2) := by decide +kernel
theorem dD_put_45 : decode cD_put 45 = .ok (.ldiv, 1) := by decide +kernel
theorem dD_put_46 : decode cD_put 46 = .ok (.iload 7, 2) := by decide +kernel
theorem dD_put_48 : decode cD_put 48 = .ok (.invokevirtual 40, 3) := by decide +kernel
theorem dD_put_51 : decode cD_put 51 = .ok (.goto 13, 3) := by decide +kernel
theorem dD_put_54 : decode cD_put 54 = .ok (.aload_n 0, 1) := by decide +kernel
theorem dD_put_55 : decode cD_put 55 = .ok (.lload_n 1, 1) := by decide +kernel
theorem dD_put_56 : decode cD_put 56 = .ok (.lload_n 3, 1) := by decide +kernel
theorem dD_put_57 : decode cD_put 57 = .ok (.lload 5, 2) := by decide +kernel
theorem dD_put_59 : decode cD_put 59 = .ok (.iload 7, 2) := by decide +kernel
theorem dD_put_61 : decode cD_put 61 = .ok (.invokevirtual 40, 3) := by decide +kernel
theorem dD_put_64 : decode cD_put 64 = .ok (.return_, 1) := by decide +kernel
theorem dD_insert_0 : decode cD_insert 0 = .ok (.iconst 0, 1) := by decide +kernel
theorem dD_insert_1 : decode cD_insert 1 = .ok (.istore 8, 2) := by decide +kernel
theorem dD_insert_3 : decode cD_insert 3 = .ok (.iload 8, 2) := by decide +kernel
theorem dD_insert_5 : decode cD_insert 5 = .ok (.aload_n 0, 1) := by decide +kernel
theorem dD_insert_6 : decode cD_insert 6 = .ok (.getfield 32, 3) := by decide +kernel
theorem dD_insert_9 : decode cD_insert 9 = .ok (.if_icmp .ge 45, 3) := by decide +kernel
theorem dD_insert_12 : decode cD_insert 12 = .ok (.aload_n 0, 1) := by decide +kernel
theorem dD_insert_13 : decode cD_insert 13 = .ok (.getfield 11, 3) := by decide +kernel
theorem dD_insert_16 : decode cD_insert 16 = .ok (.iload 8, 2) := by decide +kernel
theorem dD_insert_18 : decode cD_insert 18 = .ok (.laload, 1) := by decide +kernel
theorem dD_insert_19 : decode cD_insert 19 = .ok (.lload_n 1, 1) := by decide +kernel
theorem dD_insert_20 : decode cD_insert 20 = .ok (.lcmp, 1) := by decide +kernel
theorem dD_insert_21 : decode cD_insert 21 = .ok (.ifCond .lt 27, 3) := by decide +kernel
theorem dD_insert_24 : decode cD_insert 24 = .ok (.aload_n 0, 1) := by decide +kernel
theorem dD_insert_25 : decode cD_insert 25 = .ok (.getfield 11, 3) := by decide +kernel
theorem dD_insert_28 : decode cD_insert 28 = .ok (.iload 8, 2) := by decide +kernel
theorem dD_insert_30 : decode cD_insert 30 = .ok (.laload, 1) := by decide +kernel
theorem dD_insert_31 : decode cD_insert 31 = .ok (.lload_n 1, 1) := by decide +kernel
theorem dD_insert_32 : decode cD_insert 32 = .ok (.lcmp, 1) := by decide +kernel
theorem dD_insert_33 : decode cD_insert 33 = .ok (.ifCond .ne 21, 3) := by decide +kernel
theorem dD_insert_36 : decode cD_insert 36 = .ok (.aload_n 0, 1) := by decide +kernel
theorem dD_insert_37 : decode cD_insert 37 = .ok (.getfield 15, 3) := by decide +kernel
theorem dD_insert_40 : decode cD_insert 40 = .ok (.iload 8, 2) := by decide +kernel
theorem dD_insert_42 : decode cD_insert 42 = .ok (.laload, 1) := by decide +kernel
theorem dD_insert_43 : decode cD_insert 43 = .ok (.lload_n 3, 1) := by decide +kernel
theorem dD_insert_44 : decode cD_insert 44 = .ok (.lcmp, 1) := by decide +kernel
theorem dD_insert_45 : decode cD_insert 45 = .ok (.ifCond .ge 9, 3) := by decide +kernel
theorem dD_insert_48 : decode cD_insert 48 = .ok (.iinc 8 1, 3) := by decide +kernel
theorem dD_insert_51 : decode cD_insert 51 = .ok (.goto (-48), 3) := by decide +kernel
theorem dD_insert_54 : decode cD_insert 54 = .ok (.iload 8, 2) := by decide +kernel
theorem dD_insert_56 : decode cD_insert 56 = .ok (.aload_n 0, 1) := by decide +kernel
theorem dD_insert_57 : decode cD_insert 57 = .ok (.getfield 32, 3) := by decide +kernel
theorem dD_insert_60 : decode cD_insert 60 = .ok (.if_icmp .ge 38, 3) := by decide +kernel
theorem dD_insert_63 : decode cD_insert 63 = .ok (.aload_n 0, 1) := by decide +kernel
theorem dD_insert_64 : decode cD_insert 64 = .ok (.getfield 11, 3) := by decide +kernel
theorem dD_insert_67 : decode cD_insert 67 = .ok (.iload 8, 2) := by decide +kernel
theorem dD_insert_69 : decode cD_insert 69 = .ok (.laload, 1) := by decide +kernel
theorem dD_insert_70 : decode cD_insert 70 = .ok (.lload_n 1, 1) := by decide +kernel
theorem dD_insert_71 : decode cD_insert 71 = .ok (.lcmp, 1) := by decide +kernel
theorem dD_insert_72 : decode cD_insert 72 = .ok (.ifCond .ne 26, 3) := by decide +kernel
theorem dD_insert_75 : decode cD_insert 75 = .ok (.aload_n 0, 1) := by decide +kernel
theorem dD_insert_76 : decode cD_insert 76 = .ok (.getfield 15, 3) := by decide +kernel
theorem dD_insert_79 : decode cD_insert 79 = .ok (.iload 8, 2) := by decide +kernel
theorem dD_insert_81 : decode cD_insert 81 = .ok (.laload, 1) := by decide +kernel
theorem dD_insert_82 : decode cD_insert 82 = .ok (.lload_n 3, 1) := by decide +kernel
theorem dD_insert_83 : decode cD_insert 83 = .ok (.lcmp, 1) := by decide +kernel
theorem dD_insert_84 : decode cD_insert 84 = .ok (.ifCond .ne 14, 3) := by decide +kernel
theorem dD_insert_87 : decode cD_insert 87 = .ok (.aload_n 0, 1) := by decide +kernel
theorem dD_insert_88 : decode cD_insert 88 = .ok (.iload 8, 2) := by decide +kernel
theorem dD_insert_90 : decode cD_insert 90 = .ok (.lload 5, 2) := by decide +kernel
theorem dD_insert_92 : decode cD_insert 92 = .ok (.iload 7, 2) := by decide +kernel
theorem dD_insert_94 : decode cD_insert 94 = .ok (.invokevirtual 44, 3) := by decide +kernel
theorem dD_insert_97 : decode cD_insert 97 = .ok (.return_, 1) := by decide +kernel
theorem dD_insert_98 : decode cD_insert 98 = .ok (.aload_n 0, 1) := by decide +kernel
theorem dD_insert_99 : decode cD_insert 99 = .ok (.getfield 32, 3) := by decide +kernel
theorem dD_insert_102 : decode cD_insert 102 = .ok (.bipush 36, 2) := by decide +kernel
theorem dD_insert_104 : decode cD_insert 104 = .ok (.if_icmp .lt 4, 3) := by decide +kernel
theorem dD_insert_107 : decode cD_insert 107 = .ok (.return_, 1) := by decide +kernel
theorem dD_insert_108 : decode cD_insert 108 = .ok (.aload_n 0, 1) := by decide +kernel
theorem dD_insert_109 : decode cD_insert 109 = .ok (.getfield 32, 3) := by decide +kernel
theorem dD_insert_112 : decode cD_insert 112 = .ok (.istore 9, 2) := by decide +kernel
theorem dD_insert_114 : decode cD_insert 114 = .ok (.iload 9, 2) := by decide +kernel
theorem dD_insert_116 : decode cD_insert 116 = .ok (.iload 8, 2) := by decide +kernel
theorem dD_insert_118 : decode cD_insert 118 = .ok (.if_icmp .le 19, 3) := by decide +kernel
theorem dD_insert_121 : decode cD_insert 121 = .ok (.aload_n 0, 1) := by decide +kernel
theorem dD_insert_122 : decode cD_insert 122 = .ok (.iload 9, 2) := by decide +kernel
theorem dD_insert_124 : decode cD_insert 124 = .ok (.iconst 1, 1) := by decide +kernel
theorem dD_insert_125 : decode cD_insert 125 = .ok (.isub, 1) := by decide +kernel
theorem dD_insert_126 : decode cD_insert 126 = .ok (.iload 9, 2) := by decide +kernel
theorem dD_insert_128 : decode cD_insert 128 = .ok (.invokevirtual 48, 3) := by decide +kernel
theorem dD_insert_131 : decode cD_insert 131 = .ok (.iinc 9 (-1), 3) := by decide +kernel
theorem dD_insert_134 : decode cD_insert 134 = .ok (.goto (-20), 3) := by decide +kernel
theorem dD_insert_137 : decode cD_insert 137 = .ok (.aload_n 0, 1) := by decide +kernel
theorem dD_insert_138 : decode cD_insert 138 = .ok (.dup, 1) := by decide +kernel
theorem dD_insert_139 : decode cD_insert 139 = .ok (.getfield 32, 3) := by decide +kernel
theorem dD_insert_142 : decode cD_insert 142 = .ok (.iconst 1, 1) := by decide +kernel
theorem dD_insert_143 : decode cD_insert 143 = .ok (.iadd, 1) := by decide +kernel
theorem dD_insert_144 : decode cD_insert 144 = .ok (.putfield 32, 3) := by decide +kernel
theorem dD_insert_147 : decode cD_insert 147 = .ok (.aload_n 0, 1) := by decide +kernel
theorem dD_insert_148 : decode cD_insert 148 = .ok (.getfield 11, 3) := by decide +kernel
theorem dD_insert_151 : decode cD_insert 151 = .ok (.iload 8, 2) := by decide +kernel
theorem dD_insert_153 : decode cD_insert 153 = .ok (.lload_n 1, 1) := by decide +kernel
theorem dD_insert_154 : decode cD_insert 154 = .ok (.lastore, 1) := by decide +kernel
theorem dD_insert_155 : decode cD_insert 155 = .ok (.aload_n 0, 1) := by decide +kernel
theorem dD_insert_156 : decode cD_insert 156 = .ok (.getfield 15, 3) := by decide +kernel
theorem dD_insert_159 : decode cD_insert 159 = .ok (.iload 8, 2) := by decide +kernel
theorem dD_insert_161 : decode cD_insert 161 = .ok (.lload_n 3, 1) := by decide +kernel
theorem dD_insert_162 : decode cD_insert 162 = .ok (.lastore, 1) := by decide +kernel
theorem dD_insert_163 : decode cD_insert 163 = .ok (.aload_n 0, 1) := by decide +kernel
theorem dD_insert_164 : decode cD_insert 164 = .ok (.getfield 18, 3) := by decide +kernel
theorem dD_insert_167 : decode cD_insert 167 = .ok (.iload 8, 2) := by decide +kernel
theorem dD_insert_169 : decode cD_insert 169 = .ok (.lload 5, 2) := by decide +kernel
theorem dD_insert_171 : decode cD_insert 171 = .ok (.lastore, 1) := by decide +kernel
theorem dD_insert_172 : decode cD_insert 172 = .ok (.aload_n 0, 1) := by decide +kernel
theorem dD_insert_173 : decode cD_insert 173 = .ok (.getfield 21, 3) := by decide +kernel
theorem dD_insert_176 : decode cD_insert 176 = .ok (.iload 8, 2) := by decide +kernel
theorem dD_insert_178 : decode cD_insert 178 = .ok (.iload 7, 2) := by decide +kernel
theorem dD_insert_180 : decode cD_insert 180 = .ok (.bastore, 1) := by decide +kernel
theorem dD_insert_181 : decode cD_insert 181 = .ok (.return_, 1) := by decide +kernel
theorem dD_strengthen_0 : decode cD_strengthen 0 = .ok (.lload_n 2, 1) := by decide +kernel
theorem dD_strengthen_1 : decode cD_strengthen 1 = .ok (.aload_n 0, 1) := by decide +kernel
theorem dD_strengthen_2 : decode cD_strengthen 2 = .ok (.getfield 18, 3) := by decide +kernel
theorem dD_strengthen_5 : decode cD_strengthen 5 = .ok (.iload_n 1, 1) := by decide +kernel
theorem dD_strengthen_6 : decode cD_strengthen 6 = .ok (.laload, 1) := by decide +kernel
theorem dD_strengthen_7 : decode cD_strengthen 7 = .ok (.lcmp, 1) := by decide +kernel
theorem dD_strengthen_8 : decode cD_strengthen 8 = .ok (.ifCond .ge 21, 3) := by decide +kernel
theorem dD_strengthen_11 : decode cD_strengthen 11 = .ok (.aload_n 0, 1) := by decide +kernel
theorem dD_strengthen_12 : decode cD_strengthen 12 = .ok (.getfield 18, 3) := by decide +kernel
theorem dD_strengthen_15 : decode cD_strengthen 15 = .ok (.iload_n 1, 1) := by decide +kernel
theorem dD_strengthen_16 : decode cD_strengthen 16 = .ok (.lload_n 2, 1) := by decide +kernel
theorem dD_strengthen_17 : decode cD_strengthen 17 = .ok (.lastore, 1) := by decide +kernel
theorem dD_strengthen_18 : decode cD_strengthen 18 = .ok (.aload_n 0, 1) := by decide +kernel
theorem dD_strengthen_19 : decode cD_strengthen 19 = .ok (.getfield 21, 3) := by decide +kernel
theorem dD_strengthen_22 : decode cD_strengthen 22 = .ok (.iload_n 1, 1) := by decide +kernel
theorem dD_strengthen_23 : decode cD_strengthen 23 = .ok (.iload 4, 2) := by decide +kernel
theorem dD_strengthen_25 : decode cD_strengthen 25 = .ok (.bastore, 1) := by decide +kernel
theorem dD_strengthen_26 : decode cD_strengthen 26 = .ok (.goto 26, 3) := by decide +kernel
theorem dD_strengthen_29 : decode cD_strengthen 29 = .ok (.lload_n 2, 1) := by decide +kernel
theorem dD_strengthen_30 : decode cD_strengthen 30 = .ok (.aload_n 0, 1) := by decide +kernel
theorem dD_strengthen_31 : decode cD_strengthen 31 = .ok (.getfield 18, 3) := by decide +kernel
theorem dD_strengthen_34 : decode cD_strengthen 34 = .ok (.iload_n 1, 1) := by decide +kernel
theorem dD_strengthen_35 : decode cD_strengthen 35 = .ok (.laload, 1) := by decide +kernel
theorem dD_strengthen_36 : decode cD_strengthen 36 = .ok (.lcmp, 1) := by decide +kernel
theorem dD_strengthen_37 : decode cD_strengthen 37 = .ok (.ifCond .ne 15, 3) := by decide +kernel
theorem dD_strengthen_40 : decode cD_strengthen 40 = .ok (.iload 4, 2) := by decide +kernel
theorem dD_strengthen_42 : decode cD_strengthen 42 = .ok (.ifCond .eq 10, 3) := by decide +kernel
theorem dD_strengthen_45 : decode cD_strengthen 45 = .ok (.aload_n 0, 1) := by decide +kernel
theorem dD_strengthen_46 : decode cD_strengthen 46 = .ok (.getfield 21, 3) := by decide +kernel
theorem dD_strengthen_49 : decode cD_strengthen 49 = .ok (.iload_n 1, 1) := by decide +kernel
theorem dD_strengthen_50 : decode cD_strengthen 50 = .ok (.iconst 1, 1) := by decide +kernel
theorem dD_strengthen_51 : decode cD_strengthen 51 = .ok (.bastore, 1) := by decide +kernel
theorem dD_strengthen_52 : decode cD_strengthen 52 = .ok (.return_, 1) := by decide +kernel
theorem dD_move_0 : decode cD_move 0 = .ok (.aload_n 0, 1) := by decide +kernel
theorem dD_move_1 : decode cD_move 1 = .ok (.getfield 11, 3) := by decide +kernel
theorem dD_move_4 : decode cD_move 4 = .ok (.iload_n 2, 1) := by decide +kernel
theorem dD_move_5 : decode cD_move 5 = .ok (.aload_n 0, 1) := by decide +kernel
theorem dD_move_6 : decode cD_move 6 = .ok (.getfield 11, 3) := by decide +kernel
theorem dD_move_9 : decode cD_move 9 = .ok (.iload_n 1, 1) := by decide +kernel
theorem dD_move_10 : decode cD_move 10 = .ok (.laload, 1) := by decide +kernel
theorem dD_move_11 : decode cD_move 11 = .ok (.lastore, 1) := by decide +kernel
theorem dD_move_12 : decode cD_move 12 = .ok (.aload_n 0, 1) := by decide +kernel
theorem dD_move_13 : decode cD_move 13 = .ok (.getfield 15, 3) := by decide +kernel
theorem dD_move_16 : decode cD_move 16 = .ok (.iload_n 2, 1) := by decide +kernel
theorem dD_move_17 : decode cD_move 17 = .ok (.aload_n 0, 1) := by decide +kernel
theorem dD_move_18 : decode cD_move 18 = .ok (.getfield 15, 3) := by decide +kernel
theorem dD_move_21 : decode cD_move 21 = .ok (.iload_n 1, 1) := by decide +kernel
theorem dD_move_22 : decode cD_move 22 = .ok (.laload, 1) := by decide +kernel
theorem dD_move_23 : decode cD_move 23 = .ok (.lastore, 1) := by decide +kernel
theorem dD_move_24 : decode cD_move 24 = .ok (.aload_n 0, 1) := by decide +kernel
theorem dD_move_25 : decode cD_move 25 = .ok (.getfield 18, 3) := by decide +kernel
theorem dD_move_28 : decode cD_move 28 = .ok (.iload_n 2, 1) := by decide +kernel
theorem dD_move_29 : decode cD_move 29 = .ok (.aload_n 0, 1) := by decide +kernel
theorem dD_move_30 : decode cD_move 30 = .ok (.getfield 18, 3) := by decide +kernel
theorem dD_move_33 : decode cD_move 33 = .ok (.iload_n 1, 1) := by decide +kernel
theorem dD_move_34 : decode cD_move 34 = .ok (.laload, 1) := by decide +kernel
theorem dD_move_35 : decode cD_move 35 = .ok (.lastore, 1) := by decide +kernel
theorem dD_move_36 : decode cD_move 36 = .ok (.aload_n 0, 1) := by decide +kernel
theorem dD_move_37 : decode cD_move 37 = .ok (.getfield 21, 3) := by decide +kernel
theorem dD_move_40 : decode cD_move 40 = .ok (.iload_n 2, 1) := by decide +kernel
theorem dD_move_41 : decode cD_move 41 = .ok (.aload_n 0, 1) := by decide +kernel
theorem dD_move_42 : decode cD_move 42 = .ok (.getfield 21, 3) := by decide +kernel
theorem dD_move_45 : decode cD_move 45 = .ok (.iload_n 1, 1) := by decide +kernel
theorem dD_move_46 : decode cD_move 46 = .ok (.baload, 1) := by decide +kernel
theorem dD_move_47 : decode cD_move 47 = .ok (.bastore, 1) := by decide +kernel
theorem dD_move_48 : decode cD_move 48 = .ok (.return_, 1) := by decide +kernel
theorem dD_remove_0 : decode cD_remove 0 = .ok (.aload_n 0, 1) := by decide +kernel
theorem dD_remove_1 : decode cD_remove 1 = .ok (.dup, 1) := by decide +kernel
theorem dD_remove_2 : decode cD_remove 2 = .ok (.getfield 32, 3) := by decide +kernel
theorem dD_remove_5 : decode cD_remove 5 = .ok (.iconst 1, 1) := by decide +kernel
theorem dD_remove_6 : decode cD_remove 6 = .ok (.isub, 1) := by decide +kernel
theorem dD_remove_7 : decode cD_remove 7 = .ok (.putfield 32, 3) := by decide +kernel
theorem dD_remove_10 : decode cD_remove 10 = .ok (.iload_n 1, 1) := by decide +kernel
theorem dD_remove_11 : decode cD_remove 11 = .ok (.istore_n 2, 1) := by decide +kernel
theorem dD_remove_12 : decode cD_remove 12 = .ok (.iload_n 2, 1) := by decide +kernel
theorem dD_remove_13 : decode cD_remove 13 = .ok (.aload_n 0, 1) := by decide +kernel
theorem dD_remove_14 : decode cD_remove 14 = .ok (.getfield 32, 3) := by decide +kernel
theorem dD_remove_17 : decode cD_remove 17 = .ok (.if_icmp .ge 17, 3) := by decide +kernel
theorem dD_remove_20 : decode cD_remove 20 = .ok (.aload_n 0, 1) := by decide +kernel
theorem dD_remove_21 : decode cD_remove 21 = .ok (.iload_n 2, 1) := by decide +kernel
theorem dD_remove_22 : decode cD_remove 22 = .ok (.iconst 1, 1) := by decide +kernel
theorem dD_remove_23 : decode cD_remove 23 = .ok (.iadd, 1) := by decide +kernel
theorem dD_remove_24 : decode cD_remove 24 = .ok (.iload_n 2, 1) := by decide +kernel
theorem dD_remove_25 : decode cD_remove 25 = .ok (.invokevirtual 48, 3) := by decide +kernel
theorem dD_remove_28 : decode cD_remove 28 = .ok (.iinc 2 1, 3) := by decide +kernel
theorem dD_remove_31 : decode cD_remove 31 = .ok (.goto (-19), 3) := by decide +kernel
theorem dD_remove_34 : decode cD_remove 34 = .ok (.return_, 1) := by decide +kernel
theorem dD_flip_0 : decode cD_flip 0 = .ok (.aload_n 0, 1) := by decide +kernel
theorem dD_flip_1 : decode cD_flip 1 = .ok (.getfield 11, 3) := by decide +kernel
theorem dD_flip_4 : decode cD_flip 4 = .ok (.iload_n 1, 1) := by decide +kernel
theorem dD_flip_5 : decode cD_flip 5 = .ok (.aload_n 0, 1) := by decide +kernel
theorem dD_flip_6 : decode cD_flip 6 = .ok (.getfield 11, 3) := by decide +kernel
theorem dD_flip_9 : decode cD_flip 9 = .ok (.iload_n 1, 1) := by decide +kernel
theorem dD_flip_10 : decode cD_flip 10 = .ok (.laload, 1) := by decide +kernel
theorem dD_flip_11 : decode cD_flip 11 = .ok (.lneg, 1) := by decide +kernel
theorem dD_flip_12 : decode cD_flip 12 = .ok (.lastore, 1) := by decide +kernel
theorem dD_flip_13 : decode cD_flip 13 = .ok (.aload_n 0, 1) := by decide +kernel
theorem dD_flip_14 : decode cD_flip 14 = .ok (.getfield 15, 3) := by decide +kernel
theorem dD_flip_17 : decode cD_flip 17 = .ok (.iload_n 1, 1) := by decide +kernel
theorem dD_flip_18 : decode cD_flip 18 = .ok (.aload_n 0, 1) := by decide +kernel
theorem dD_flip_19 : decode cD_flip 19 = .ok (.getfield 15, 3) := by decide +kernel
theorem dD_flip_22 : decode cD_flip 22 = .ok (.iload_n 1, 1) := by decide +kernel
theorem dD_flip_23 : decode cD_flip 23 = .ok (.laload, 1) := by decide +kernel
theorem dD_flip_24 : decode cD_flip 24 = .ok (.lneg, 1) := by decide +kernel
theorem dD_flip_25 : decode cD_flip 25 = .ok (.lastore, 1) := by decide +kernel
theorem dD_flip_26 : decode cD_flip 26 = .ok (.aload_n 0, 1) := by decide +kernel
theorem dD_flip_27 : decode cD_flip 27 = .ok (.getfield 18, 3) := by decide +kernel
theorem dD_flip_30 : decode cD_flip 30 = .ok (.iload_n 1, 1) := by decide +kernel
theorem dD_flip_31 : decode cD_flip 31 = .ok (.aload_n 0, 1) := by decide +kernel
theorem dD_flip_32 : decode cD_flip 32 = .ok (.getfield 18, 3) := by decide +kernel
theorem dD_flip_35 : decode cD_flip 35 = .ok (.iload_n 1, 1) := by decide +kernel
theorem dD_flip_36 : decode cD_flip 36 = .ok (.laload, 1) := by decide +kernel
theorem dD_flip_37 : decode cD_flip 37 = .ok (.lneg, 1) := by decide +kernel
theorem dD_flip_38 : decode cD_flip 38 = .ok (.lastore, 1) := by decide +kernel
theorem dD_flip_39 : decode cD_flip 39 = .ok (.aload_n 0, 1) := by decide +kernel
theorem dD_flip_40 : decode cD_flip 40 = .ok (.getfield 21, 3) := by decide +kernel
theorem dD_flip_43 : decode cD_flip 43 = .ok (.iload_n 1, 1) := by decide +kernel
theorem dD_flip_44 : decode cD_flip 44 = .ok (.aload_n 0, 1) := by decide +kernel
theorem dD_flip_45 : decode cD_flip 45 = .ok (.getfield 21, 3) := by decide +kernel
theorem dD_flip_48 : decode cD_flip 48 = .ok (.iload_n 1, 1) := by decide +kernel
theorem dD_flip_49 : decode cD_flip 49 = .ok (.baload, 1) := by decide +kernel
theorem dD_flip_50 : decode cD_flip 50 = .ok (.ifCond .ne 7, 3) := by decide +kernel
theorem dD_flip_53 : decode cD_flip 53 = .ok (.iconst 1, 1) := by decide +kernel
theorem dD_flip_54 : decode cD_flip 54 = .ok (.goto 4, 3) := by decide +kernel
theorem dD_flip_57 : decode cD_flip 57 = .ok (.iconst 0, 1) := by decide +kernel
theorem dD_flip_58 : decode cD_flip 58 = .ok (.bastore, 1) := by decide +kernel
theorem dD_flip_59 : decode cD_flip 59 = .ok (.return_, 1) := by decide +kernel
theorem dD_hasPoints_0 : decode cD_hasPoints 0 = .ok (.aload_n 0, 1) := by decide +kernel
theorem dD_hasPoints_1 : decode cD_hasPoints 1 = .ok (.getfield 28, 3) := by decide +kernel
theorem dD_hasPoints_4 : decode cD_hasPoints 4 = .ok (.invokevirtual 52, 3) := by decide +kernel
theorem dD_hasPoints_7 : decode cD_hasPoints 7 = .ok (.iconst 0, 1) := by decide +kernel
theorem dD_hasPoints_8 : decode cD_hasPoints 8 = .ok (.istore_n 1, 1) := by decide +kernel
theorem dD_hasPoints_9 : decode cD_hasPoints 9 = .ok (.iload_n 1, 1) := by decide +kernel
theorem dD_hasPoints_10 : decode cD_hasPoints 10 = .ok (.aload_n 0, 1) := by decide +kernel
theorem dD_hasPoints_11 : decode cD_hasPoints 11 = .ok (.getfield 32, 3) := by decide +kernel
theorem dD_hasPoints_14 : decode cD_hasPoints 14 = .ok (.if_icmp .ge 167, 3) := by decide +kernel
theorem dD_hasPoints_17 : decode cD_hasPoints 17 = .ok (.aload_n 0, 1) := by decide +kernel
theorem dD_hasPoints_18 : decode cD_hasPoints 18 = .ok (.getfield 15, 3) := by decide +kernel
theorem dD_hasPoints_21 : decode cD_hasPoints 21 = .ok (.iload_n 1, 1) := by decide +kernel
theorem dD_hasPoints_22 : decode cD_hasPoints 22 = .ok (.laload, 1) := by decide +kernel
theorem dD_hasPoints_23 : decode cD_hasPoints 23 = .ok (.lstore_n 2, 1) := by decide +kernel
theorem dD_hasPoints_24 : decode cD_hasPoints 24 = .ok (.lload_n 2, 1) := by decide +kernel
theorem dD_hasPoints_25 : decode cD_hasPoints 25 = .ok (.lconst 0, 1) := by decide +kernel
theorem dD_hasPoints_26 : decode cD_hasPoints 26 = .ok (.lcmp, 1) := by decide +kernel
theorem dD_hasPoints_27 : decode cD_hasPoints 27 = .ok (.ifCond .ne 33, 3) := by decide +kernel
theorem dD_hasPoints_30 : decode cD_hasPoints 30 = .ok (.aload_n 0, 1) := by decide +kernel
theorem dD_hasPoints_31 : decode cD_hasPoints 31 = .ok (.getfield 28, 3) := by decide +kernel
theorem dD_hasPoints_34 : decode cD_hasPoints 34 = .ok (.aload_n 0, 1) := by decide +kernel
theorem dD_hasPoints_35 : decode cD_hasPoints 35 = .ok (.getfield 11, 3) := by decide +kernel
theorem dD_hasPoints_38 : decode cD_hasPoints 38 = .ok (.iload_n 1, 1) := by decide +kernel
theorem dD_hasPoints_39 : decode cD_hasPoints 39 = .ok (.laload, 1) := by decide +kernel
theorem dD_hasPoints_40 : decode cD_hasPoints 40 = .ok (.aload_n 0, 1) := by decide +kernel
theorem dD_hasPoints_41 : decode cD_hasPoints 41 = .ok (.getfield 18, 3) := by decide +kernel
theorem dD_hasPoints_44 : decode cD_hasPoints 44 = .ok (.iload_n 1, 1) := by decide +kernel
theorem dD_hasPoints_45 : decode cD_hasPoints 45 = .ok (.laload, 1) := by decide +kernel
theorem dD_hasPoints_46 : decode cD_hasPoints 46 = .ok (.aload_n 0, 1) := by decide +kernel
theorem dD_hasPoints_47 : decode cD_hasPoints 47 = .ok (.getfield 21, 3) := by decide +kernel
theorem dD_hasPoints_50 : decode cD_hasPoints 50 = .ok (.iload_n 1, 1) := by decide +kernel
theorem dD_hasPoints_51 : decode cD_hasPoints 51 = .ok (.baload, 1) := by decide +kernel
theorem dD_hasPoints_52 : decode cD_hasPoints 52 = .ok (.invokevirtual 55, 3) := by decide +kernel
theorem dD_hasPoints_55 : decode cD_hasPoints 55 = .ok (.ifCond .ne 5, 3) := by decide +kernel
theorem dD_hasPoints_58 : decode cD_hasPoints 58 = .ok (.iconst 0, 1) := by decide +kernel
theorem dD_hasPoints_59 : decode cD_hasPoints 59 = .ok (.ireturn, 1) := by decide +kernel
theorem dD_hasPoints_60 : decode cD_hasPoints 60 = .ok (.iconst 0, 1) := by decide +kernel
theorem dD_hasPoints_61 : decode cD_hasPoints 61 = .ok (.istore 4, 2) := by decide +kernel
theorem dD_hasPoints_63 : decode cD_hasPoints 63 = .ok (.lload_n 2, 1) := by decide +kernel
theorem dD_hasPoints_64 : decode cD_hasPoints 64 = .ok (.lconst 0, 1) := by decide +kernel
theorem dD_hasPoints_65 : decode cD_hasPoints 65 = .ok (.lcmp, 1) := by decide +kernel
theorem dD_hasPoints_66 : decode cD_hasPoints 66 = .ok (.ifCond .le 109, 3) := by decide +kernel
theorem dD_hasPoints_69 : decode cD_hasPoints 69 = .ok (.iload 4, 2) := by decide +kernel
theorem dD_hasPoints_71 : decode cD_hasPoints 71 = .ok (.aload_n 0, 1) := by decide +kernel
theorem dD_hasPoints_72 : decode cD_hasPoints 72 = .ok (.getfield 32, 3) := by decide +kernel
theorem dD_hasPoints_75 : decode cD_hasPoints 75 = .ok (.if_icmp .ge 100, 3) := by decide +kernel
theorem dD_hasPoints_78 : decode cD_hasPoints 78 = .ok (.aload_n 0, 1) := by decide +kernel
theorem dD_hasPoints_79 : decode cD_hasPoints 79 = .ok (.getfield 15, 3) := by decide +kernel
theorem dD_hasPoints_82 : decode cD_hasPoints 82 = .ok (.iload 4, 2) := by decide +kernel
theorem dD_hasPoints_84 : decode cD_hasPoints 84 = .ok (.laload, 1) := by decide +kernel
theorem dD_hasPoints_85 : decode cD_hasPoints 85 = .ok (.lneg, 1) := by decide +kernel
theorem dD_hasPoints_86 : decode cD_hasPoints 86 = .ok (.lstore 5, 2) := by decide +kernel
theorem dD_hasPoints_88 : decode cD_hasPoints 88 = .ok (.lload 5, 2) := by decide +kernel
theorem dD_hasPoints_90 : decode cD_hasPoints 90 = .ok (.lconst 0, 1) := by decide +kernel
theorem dD_hasPoints_91 : decode cD_hasPoints 91 = .ok (.lcmp, 1) := by decide +kernel
theorem dD_hasPoints_92 : decode cD_hasPoints 92 = .ok (.ifCond .le 77, 3) := by decide +kernel
theorem dD_hasPoints_95 : decode cD_hasPoints 95 = .ok (.aload_n 0, 1) := by decide +kernel
theorem dD_hasPoints_96 : decode cD_hasPoints 96 = .ok (.getfield 28, 3) := by decide +kernel
theorem dD_hasPoints_99 : decode cD_hasPoints 99 = .ok (.lload 5, 2) := by decide +kernel
theorem dD_hasPoints_101 : decode cD_hasPoints 101 = .ok (.aload_n 0, 1) := by decide +kernel
theorem dD_hasPoints_102 : decode cD_hasPoints 102 = .ok (.getfield 11, 3) := by decide +kernel
theorem dD_hasPoints_105 : decode cD_hasPoints 105 = .ok (.iload_n 1, 1) := by decide +kernel
theorem dD_hasPoints_106 : decode cD_hasPoints 106 = .ok (.laload, 1) := by decide +kernel
theorem dD_hasPoints_107 : decode cD_hasPoints 107 = .ok (.lmul, 1) := by decide +kernel
theorem dD_hasPoints_108 : decode cD_hasPoints 108 = .ok (.lload_n 2, 1) := by decide +kernel
theorem dD_hasPoints_109 : decode cD_hasPoints 109 = .ok (.aload_n 0, 1) := by decide +kernel
theorem dD_hasPoints_110 : decode cD_hasPoints 110 = .ok (.getfield 11, 3) := by decide +kernel
theorem dD_hasPoints_113 : decode cD_hasPoints 113 = .ok (.iload 4, 2) := by decide +kernel
theorem dD_hasPoints_115 : decode cD_hasPoints 115 = .ok (.laload, 1) := by decide +kernel
theorem dD_hasPoints_116 : decode cD_hasPoints 116 = .ok (.lmul, 1) := by decide +kernel
theorem dD_hasPoints_117 : decode cD_hasPoints 117 = .ok (.ladd, 1) := by decide +kernel
theorem dD_hasPoints_118 : decode cD_hasPoints 118 = .ok (.lload 5, 2) := by decide +kernel
theorem dD_hasPoints_120 : decode cD_hasPoints 120 = .ok (.aload_n 0, 1) := by decide +kernel
theorem dD_hasPoints_121 : decode cD_hasPoints 121 = .ok (.getfield 18, 3) := by decide +kernel
theorem dD_hasPoints_124 : decode cD_hasPoints 124 = .ok (.iload_n 1, 1) := by decide +kernel
theorem dD_hasPoints_125 : decode cD_hasPoints 125 = .ok (.laload, 1) := by decide +kernel
theorem dD_hasPoints_126 : decode cD_hasPoints 126 = .ok (.lmul, 1) := by decide +kernel
theorem dD_hasPoints_127 : decode cD_hasPoints 127 = .ok (.lload_n 2, 1) := by decide +kernel
theorem dD_hasPoints_128 : decode cD_hasPoints 128 = .ok (.aload_n 0, 1) := by decide +kernel
theorem dD_hasPoints_129 : decode cD_hasPoints 129 = .ok (.getfield 18, 3) := by decide +kernel
theorem dD_hasPoints_132 : decode cD_hasPoints 132 = .ok (.iload 4, 2) := by decide +kernel
theorem dD_hasPoints_134 : decode cD_hasPoints 134 = .ok (.laload, 1) := by decide +kernel
theorem dD_hasPoints_135 : decode cD_hasPoints 135 = .ok (.lmul, 1) := by decide +kernel
theorem dD_hasPoints_136 : decode cD_hasPoints 136 = .ok (.ladd, 1) := by decide +kernel
theorem dD_hasPoints_137 : decode cD_hasPoints 137 = .ok (.aload_n 0, 1) := by decide +kernel
theorem dD_hasPoints_138 : decode cD_hasPoints 138 = .ok (.getfield 21, 3) := by decide +kernel
theorem dD_hasPoints_141 : decode cD_hasPoints 141 = .ok (.iload_n 1, 1) := by decide +kernel
theorem dD_hasPoints_142 : decode cD_hasPoints 142 = .ok (.baload, 1) := by decide +kernel
theorem dD_hasPoints_143 : decode cD_hasPoints 143 = .ok (.ifCond .ne 13, 3) := by decide +kernel
theorem dD_hasPoints_146 : decode cD_hasPoints 146 = .ok (.aload_n 0, 1) := by decide +kernel
theorem dD_hasPoints_147 : decode cD_hasPoints 147 = .ok (.getfield 21, 3) := by decide +kernel
theorem dD_hasPoints_150 : decode cD_hasPoints 150 = .ok (.iload 4, 2) := by decide +kernel
theorem dD_hasPoints_152 : decode cD_hasPoints 152 = .ok (.baload, 1) := by decide +kernel
theorem dD_hasPoints_153 : decode cD_hasPoints 153 = .ok (.ifCond .eq 7, 3) := by decide +kernel
theorem dD_hasPoints_156 : decode cD_hasPoints 156 = .ok (.iconst 1, 1) := by decide +kernel
theorem dD_hasPoints_157 : decode cD_hasPoints 157 = .ok (.goto 4, 3) := by decide +kernel
theorem dD_hasPoints_160 : decode cD_hasPoints 160 = .ok (.iconst 0, 1) := by decide +kernel
theorem dD_hasPoints_161 : decode cD_hasPoints 161 = .ok (.invokevirtual 55, 3) := by decide +kernel
theorem dD_hasPoints_164 : decode cD_hasPoints 164 = .ok (.ifCond .ne 5, 3) := by decide +kernel
theorem dD_hasPoints_167 : decode cD_hasPoints 167 = .ok (.iconst 0, 1) := by decide +kernel
theorem dD_hasPoints_168 : decode cD_hasPoints 168 = .ok (.ireturn, 1) := by decide +kernel
theorem dD_hasPoints_169 : decode cD_hasPoints 169 = .ok (.iinc 4 1, 3) := by decide +kernel
theorem dD_hasPoints_172 : decode cD_hasPoints 172 = .ok (.goto (-109), 3) := by decide +kernel
theorem dD_hasPoints_175 : decode cD_hasPoints 175 = .ok (.iinc 1 1, 3) := by decide +kernel
theorem dD_hasPoints_178 : decode cD_hasPoints 178 = .ok (.goto (-169), 3) := by decide +kernel
theorem dD_hasPoints_181 : decode cD_hasPoints 181 = .ok (.iconst 1, 1) := by decide +kernel
theorem dD_hasPoints_182 : decode cD_hasPoints 182 = .ok (.ireturn, 1) := by decide +kernel
theorem dD_dropImplied_0 : decode cD_dropImplied 0 = .ok (.iconst 0, 1) := by decide +kernel
theorem dD_dropImplied_1 : decode cD_dropImplied 1 = .ok (.istore_n 1, 1) := by decide +kernel
theorem dD_dropImplied_2 : decode cD_dropImplied 2 = .ok (.aload_n 0, 1) := by decide +kernel
theorem dD_dropImplied_3 : decode cD_dropImplied 3 = .ok (.getfield 32, 3) := by decide +kernel
theorem dD_dropImplied_6 : decode cD_dropImplied 6 = .ok (.istore_n 2, 1) := by decide +kernel
theorem dD_dropImplied_7 : decode cD_dropImplied 7 = .ok (.iconst 0, 1) := by decide +kernel
theorem dD_dropImplied_8 : decode cD_dropImplied 8 = .ok (.istore_n 3, 1) := by decide +kernel
theorem dD_dropImplied_9 : decode cD_dropImplied 9 = .ok (.iload_n 3, 1) := by decide +kernel
theorem dD_dropImplied_10 : decode cD_dropImplied 10 = .ok (.iload_n 2, 1) := by decide +kernel
theorem dD_dropImplied_11 : decode cD_dropImplied 11 = .ok (.if_icmp .ge 41, 3) := by decide +kernel
theorem dD_dropImplied_14 : decode cD_dropImplied 14 = .ok (.aload_n 0, 1) := by decide +kernel
theorem dD_dropImplied_15 : decode cD_dropImplied 15 = .ok (.iload_n 1, 1) := by decide +kernel
theorem dD_dropImplied_16 : decode cD_dropImplied 16 = .ok (.invokevirtual 59, 3) := by decide +kernel
theorem dD_dropImplied_19 : decode cD_dropImplied 19 = .ok (.aload_n 0, 1) := by decide +kernel
theorem dD_dropImplied_20 : decode cD_dropImplied 20 = .ok (.invokevirtual 63, 3) := by decide +kernel
theorem dD_dropImplied_23 : decode cD_dropImplied 23 = .ok (.istore 4, 2) := by decide +kernel
theorem dD_dropImplied_25 : decode cD_dropImplied 25 = .ok (.aload_n 0, 1) := by decide +kernel
theorem dD_dropImplied_26 : decode cD_dropImplied 26 = .ok (.iload_n 1, 1) := by decide +kernel
theorem dD_dropImplied_27 : decode cD_dropImplied 27 = .ok (.invokevirtual 59, 3) := by decide +kernel
theorem dD_dropImplied_30 : decode cD_dropImplied 30 = .ok (.iload 4, 2) := by decide +kernel
theorem dD_dropImplied_32 : decode cD_dropImplied 32 = .ok (.ifCond .eq 9, 3) := by decide +kernel
theorem dD_dropImplied_35 : decode cD_dropImplied 35 = .ok (.iinc 1 1, 3) := by decide +kernel
theorem dD_dropImplied_38 : decode cD_dropImplied 38 = .ok (.goto 8, 3) := by decide +kernel
theorem dD_dropImplied_41 : decode cD_dropImplied 41 = .ok (.aload_n 0, 1) := by decide +kernel
theorem dD_dropImplied_42 : decode cD_dropImplied 42 = .ok (.iload_n 1, 1) := by decide +kernel
theorem dD_dropImplied_43 : decode cD_dropImplied 43 = .ok (.invokevirtual 67, 3) := by decide +kernel
theorem dD_dropImplied_46 : decode cD_dropImplied 46 = .ok (.iinc 3 1, 3) := by decide +kernel
theorem dD_dropImplied_49 : decode cD_dropImplied 49 = .ok (.goto (-40), 3) := by decide +kernel
theorem dD_dropImplied_52 : decode cD_dropImplied 52 = .ok (.return_, 1) := by decide +kernel
theorem dD_keepsLimits_0 : decode cD_keepsLimits 0 = .ok (.iconst 0, 1) := by decide +kernel
theorem dD_keepsLimits_1 : decode cD_keepsLimits 1 = .ok (.istore_n 1, 1) := by decide +kernel
theorem dD_keepsLimits_2 : decode cD_keepsLimits 2 = .ok (.iload_n 1, 1) := by decide +kernel
theorem dD_keepsLimits_3 : decode cD_keepsLimits 3 = .ok (.aload_n 0, 1) := by decide +kernel
theorem dD_keepsLimits_4 : decode cD_keepsLimits 4 = .ok (.getfield 32, 3) := by decide +kernel
theorem dD_keepsLimits_7 : decode cD_keepsLimits 7 = .ok (.if_icmp .ge 56, 3) := by decide +kernel
theorem dD_keepsLimits_10 : decode cD_keepsLimits 10 = .ok (.aload_n 0, 1) := by decide +kernel
theorem dD_keepsLimits_11 : decode cD_keepsLimits 11 = .ok (.getfield 11, 3) := by decide +kernel
theorem dD_keepsLimits_14 : decode cD_keepsLimits 14 = .ok (.iload_n 1, 1) := by decide +kernel
theorem dD_keepsLimits_15 : decode cD_keepsLimits 15 = .ok (.laload, 1) := by decide +kernel
theorem dD_keepsLimits_16 : decode cD_keepsLimits 16 = .ok (.ldc2_w 70, 3) := by decide +kernel
theorem dD_keepsLimits_19 : decode cD_keepsLimits 19 = .ok (.invokestatic 72, 3) := by decide +kernel
theorem dD_keepsLimits_22 : decode cD_keepsLimits 22 = .ok (.ifCond .ne 33, 3) := by decide +kernel
theorem dD_keepsLimits_25 : decode cD_keepsLimits 25 = .ok (.aload_n 0, 1) := by decide +kernel
theorem dD_keepsLimits_26 : decode cD_keepsLimits 26 = .ok (.getfield 15, 3) := by decide +kernel
theorem dD_keepsLimits_29 : decode cD_keepsLimits 29 = .ok (.iload_n 1, 1) := by decide +kernel
theorem dD_keepsLimits_30 : decode cD_keepsLimits 30 = .ok (.laload, 1) := by decide +kernel
theorem dD_keepsLimits_31 : decode cD_keepsLimits 31 = .ok (.ldc2_w 70, 3) := by decide +kernel
theorem dD_keepsLimits_34 : decode cD_keepsLimits 34 = .ok (.invokestatic 72, 3) := by decide +kernel
theorem dD_keepsLimits_37 : decode cD_keepsLimits 37 = .ok (.ifCond .ne 18, 3) := by decide +kernel
theorem dD_keepsLimits_40 : decode cD_keepsLimits 40 = .ok (.aload_n 0, 1) := by decide +kernel
theorem dD_keepsLimits_41 : decode cD_keepsLimits 41 = .ok (.getfield 18, 3) := by decide +kernel
theorem dD_keepsLimits_44 : decode cD_keepsLimits 44 = .ok (.iload_n 1, 1) := by decide +kernel
theorem dD_keepsLimits_45 : decode cD_keepsLimits 45 = .ok (.laload, 1) := by decide +kernel
theorem dD_keepsLimits_46 : decode cD_keepsLimits 46 = .ok (.ldc2_w 70, 3) := by decide +kernel
theorem dD_keepsLimits_49 : decode cD_keepsLimits 49 = .ok (.invokestatic 72, 3) := by decide +kernel
theorem dD_keepsLimits_52 : decode cD_keepsLimits 52 = .ok (.ifCond .eq 5, 3) := by decide +kernel
theorem dD_keepsLimits_55 : decode cD_keepsLimits 55 = .ok (.iconst 0, 1) := by decide +kernel
theorem dD_keepsLimits_56 : decode cD_keepsLimits 56 = .ok (.ireturn, 1) := by decide +kernel
theorem dD_keepsLimits_57 : decode cD_keepsLimits 57 = .ok (.iinc 1 1, 3) := by decide +kernel
theorem dD_keepsLimits_60 : decode cD_keepsLimits 60 = .ok (.goto (-58), 3) := by decide +kernel
theorem dD_keepsLimits_63 : decode cD_keepsLimits 63 = .ok (.aload_n 0, 1) := by decide +kernel
theorem dD_keepsLimits_64 : decode cD_keepsLimits 64 = .ok (.getfield 32, 3) := by decide +kernel
theorem dD_keepsLimits_67 : decode cD_keepsLimits 67 = .ok (.bipush 12, 2) := by decide +kernel
theorem dD_keepsLimits_69 : decode cD_keepsLimits 69 = .ok (.if_icmp .gt 7, 3) := by decide +kernel
theorem dD_keepsLimits_72 : decode cD_keepsLimits 72 = .ok (.iconst 1, 1) := by decide +kernel
theorem dD_keepsLimits_73 : decode cD_keepsLimits 73 = .ok (.goto 4, 3) := by decide +kernel
theorem dD_keepsLimits_76 : decode cD_keepsLimits 76 = .ok (.iconst 0, 1) := by decide +kernel
theorem dD_keepsLimits_77 : decode cD_keepsLimits 77 = .ok (.ireturn, 1) := by decide +kernel
end
section
theorem dI_init_0 : decode cI_init 0 = .ok (.aload_n 0, 1) := by decide +kernel
theorem dI_init_1 : decode cI_init 1 = .ok (.invokespecial 3, 3) := by decide +kernel
theorem dI_init_4 : decode cI_init 4 = .ok (.return_, 1) := by decide +kernel
theorem dI_numerator_0 : decode cI_numerator 0 = .ok (.aload_n 0, 1) := by decide +kernel
theorem dI_numerator_1 : decode cI_numerator 1 = .ok (.getfield 9, 3) := by decide +kernel
theorem dI_numerator_4 : decode cI_numerator 4 = .ok (.lreturn, 1) := by decide +kernel
theorem dI_denominator_0 : decode cI_denominator 0 = .ok (.aload_n 0, 1) := by decide +kernel
theorem dI_denominator_1 : decode cI_denominator 1 = .ok (.getfield 15, 3) := by decide +kernel
theorem dI_denominator_4 : decode cI_denominator 4 = .ok (.lreturn, 1) := by decide +kernel
theorem dI_seek_0 : decode cI_seek 0 = .ok (.aload_n 0, 1) := by decide +kernel
theorem dI_seek_1 : decode cI_seek 1 = .ok (.invokevirtual 18, 3) := by decide +kernel
theorem dI_seek_4 : decode cI_seek 4 = .ok (.aload_n 1, 1) := by decide +kernel
theorem dI_seek_5 : decode cI_seek 5 = .ok (.invokevirtual 21, 3) := by decide +kernel
theorem dI_seek_8 : decode cI_seek 8 = .ok (.ifCond .ne 5, 3) := by decide +kernel
theorem dI_seek_11 : decode cI_seek 11 = .ok (.iconst 3, 1) := by decide +kernel
theorem dI_seek_12 : decode cI_seek 12 = .ok (.ireturn, 1) := by decide +kernel
theorem dI_seek_13 : decode cI_seek 13 = .ok (.iload_n 2, 1) := by decide +kernel
theorem dI_seek_14 : decode cI_seek 14 = .ok (.ifCond .ne 14, 3) := by decide +kernel
theorem dI_seek_17 : decode cI_seek 17 = .ok (.iload_n 3, 1) := by decide +kernel
theorem dI_seek_18 : decode cI_seek 18 = .ok (.ifCond .ne 10, 3) := by decide +kernel
theorem dI_seek_21 : decode cI_seek 21 = .ok (.aload_n 0, 1) := by decide +kernel
theorem dI_seek_22 : decode cI_seek 22 = .ok (.lconst 1, 1) := by decide +kernel
theorem dI_seek_23 : decode cI_seek 23 = .ok (.putfield 15, 3) := by decide +kernel
theorem dI_seek_26 : decode cI_seek 26 = .ok (.iconst 0, 1) := by decide +kernel
theorem dI_seek_27 : decode cI_seek 27 = .ok (.ireturn, 1) := by decide +kernel
theorem dI_seek_28 : decode cI_seek 28 = .ok (.iconst 0, 1) := by decide +kernel
theorem dI_seek_29 : decode cI_seek 29 = .ok (.istore 4, 2) := by decide +kernel
theorem dI_seek_31 : decode cI_seek 31 = .ok (.iload 4, 2) := by decide +kernel
theorem dI_seek_33 : decode cI_seek 33 = .ok (.aload_n 1, 1) := by decide +kernel
theorem dI_seek_34 : decode cI_seek 34 = .ok (.invokevirtual 21, 3) := by decide +kernel
theorem dI_seek_37 : decode cI_seek 37 = .ok (.if_icmp .ge 37, 3) := by decide +kernel
theorem dI_seek_40 : decode cI_seek 40 = .ok (.aload_n 0, 1) := by decide +kernel
theorem dI_seek_41 : decode cI_seek 41 = .ok (.aload_n 1, 1) := by decide +kernel
theorem dI_seek_42 : decode cI_seek 42 = .ok (.iload 4, 2) := by decide +kernel
theorem dI_seek_44 : decode cI_seek 44 = .ok (.iload_n 2, 1) := by decide +kernel
theorem dI_seek_45 : decode cI_seek 45 = .ok (.iload_n 3, 1) := by decide +kernel
theorem dI_seek_46 : decode cI_seek 46 = .ok (.invokevirtual 27, 3) := by decide +kernel
theorem dI_seek_49 : decode cI_seek 49 = .ok (.aload_n 0, 1) := by decide +kernel
theorem dI_seek_50 : decode cI_seek 50 = .ok (.getfield 31, 3) := by decide +kernel
theorem dI_seek_53 : decode cI_seek 53 = .ok (.lconst 0, 1) := by decide +kernel
theorem dI_seek_54 : decode cI_seek 54 = .ok (.lcmp, 1) := by decide +kernel
theorem dI_seek_55 : decode cI_seek 55 = .ok (.ifCond .ne 9, 3) := by decide +kernel
theorem dI_seek_58 : decode cI_seek 58 = .ok (.aload_n 0, 1) := by decide +kernel
theorem dI_seek_59 : decode cI_seek 59 = .ok (.invokevirtual 18, 3) := by decide +kernel
theorem dI_seek_62 : decode cI_seek 62 = .ok (.iconst 2, 1) := by decide +kernel
theorem dI_seek_63 : decode cI_seek 63 = .ok (.ireturn, 1) := by decide +kernel
theorem dI_seek_64 : decode cI_seek 64 = .ok (.aload_n 0, 1) := by decide +kernel
theorem dI_seek_65 : decode cI_seek 65 = .ok (.invokevirtual 34, 3) := by decide +kernel
theorem dI_seek_68 : decode cI_seek 68 = .ok (.iinc 4 1, 3) := by decide +kernel
theorem dI_seek_71 : decode cI_seek 71 = .ok (.goto (-40), 3) := by decide +kernel
theorem dI_seek_74 : decode cI_seek 74 = .ok (.aload_n 0, 1) := by decide +kernel
theorem dI_seek_75 : decode cI_seek 75 = .ok (.invokevirtual 37, 3) := by decide +kernel
theorem dI_seek_78 : decode cI_seek 78 = .ok (.aload_n 0, 1) := by decide +kernel
theorem dI_seek_79 : decode cI_seek 79 = .ok (.getfield 40, 3) := by decide +kernel
theorem dI_seek_82 : decode cI_seek 82 = .ok (.ifCond .eq 7, 3) := by decide +kernel
theorem dI_seek_85 : decode cI_seek 85 = .ok (.iconst 0, 1) := by decide +kernel
theorem dI_seek_86 : decode cI_seek 86 = .ok (.goto 4, 3) := by decide +kernel
theorem dI_seek_89 : decode cI_seek 89 = .ok (.iconst 1, 1) := by decide +kernel
theorem dI_seek_90 : decode cI_seek 90 = .ok (.ireturn, 1) := by decide +kernel
theorem dI_forget_0 : decode cI_forget 0 = .ok (.aload_n 0, 1) := by decide +kernel
theorem dI_forget_1 : decode cI_forget 1 = .ok (.lconst 0, 1) := by decide +kernel
theorem dI_forget_2 : decode cI_forget 2 = .ok (.putfield 9, 3) := by decide +kernel
theorem dI_forget_5 : decode cI_forget 5 = .ok (.aload_n 0, 1) := by decide +kernel
theorem dI_forget_6 : decode cI_forget 6 = .ok (.lconst 0, 1) := by decide +kernel
theorem dI_forget_7 : decode cI_forget 7 = .ok (.putfield 15, 3) := by decide +kernel
theorem dI_forget_10 : decode cI_forget 10 = .ok (.return_, 1) := by decide +kernel
theorem dI_lowerToRow_0 : decode cI_lowerToRow 0 = .ok (.aload_n 0, 1) := by decide +kernel
theorem dI_lowerToRow_1 : decode cI_lowerToRow 1 = .ok (.getfield 44, 3) := by decide +kernel
theorem dI_lowerToRow_4 : decode cI_lowerToRow 4 = .ok (.aload_n 0, 1) := by decide +kernel
theorem dI_lowerToRow_5 : decode cI_lowerToRow 5 = .ok (.getfield 15, 3) := by decide +kernel
theorem dI_lowerToRow_8 : decode cI_lowerToRow 8 = .ok (.lmul, 1) := by decide +kernel
theorem dI_lowerToRow_9 : decode cI_lowerToRow 9 = .ok (.lstore_n 1, 1) := by decide +kernel
theorem dI_lowerToRow_10 : decode cI_lowerToRow 10 = .ok (.aload_n 0, 1) := by decide +kernel
theorem dI_lowerToRow_11 : decode cI_lowerToRow 11 = .ok (.getfield 9, 3) := by decide +kernel
theorem dI_lowerToRow_14 : decode cI_lowerToRow 14 = .ok (.aload_n 0, 1) := by decide +kernel
theorem dI_lowerToRow_15 : decode cI_lowerToRow 15 = .ok (.getfield 31, 3) := by decide +kernel
theorem dI_lowerToRow_18 : decode cI_lowerToRow 18 = .ok (.lmul, 1) := by decide +kernel
theorem dI_lowerToRow_19 : decode cI_lowerToRow 19 = .ok (.lstore_n 3, 1) := by decide +kernel
theorem dI_lowerToRow_20 : decode cI_lowerToRow 20 = .ok (.aload_n 0, 1) := by decide +kernel
theorem dI_lowerToRow_21 : decode cI_lowerToRow 21 = .ok (.getfield 15, 3) := by decide +kernel
theorem dI_lowerToRow_24 : decode cI_lowerToRow 24 = .ok (.lconst 0, 1) := by decide +kernel
theorem dI_lowerToRow_25 : decode cI_lowerToRow 25 = .ok (.lcmp, 1) := by decide +kernel
theorem dI_lowerToRow_26 : decode cI_lowerToRow 26 = .ok (.ifCond .eq 9, 3) := by decide +kernel
theorem dI_lowerToRow_29 : decode cI_lowerToRow 29 = .ok (.lload_n 1, 1) := by decide +kernel
theorem dI_lowerToRow_30 : decode cI_lowerToRow 30 = .ok (.lload_n 3, 1) := by decide +kernel
theorem dI_lowerToRow_31 : decode cI_lowerToRow 31 = .ok (.lcmp, 1) := by decide +kernel
theorem dI_lowerToRow_32 : decode cI_lowerToRow 32 = .ok (.ifCond .ge 30, 3) := by decide +kernel
theorem dI_lowerToRow_35 : decode cI_lowerToRow 35 = .ok (.aload_n 0, 1) := by decide +kernel
theorem dI_lowerToRow_36 : decode cI_lowerToRow 36 = .ok (.aload_n 0, 1) := by decide +kernel
theorem dI_lowerToRow_37 : decode cI_lowerToRow 37 = .ok (.getfield 44, 3) := by decide +kernel
theorem dI_lowerToRow_40 : decode cI_lowerToRow 40 = .ok (.putfield 9, 3) := by decide +kernel
theorem dI_lowerToRow_43 : decode cI_lowerToRow 43 = .ok (.aload_n 0, 1) := by decide +kernel
theorem dI_lowerToRow_44 : decode cI_lowerToRow 44 = .ok (.aload_n 0, 1) := by decide +kernel
theorem dI_lowerToRow_45 : decode cI_lowerToRow 45 = .ok (.getfield 31, 3) := by decide +kernel
theorem dI_lowerToRow_48 : decode cI_lowerToRow 48 = .ok (.putfield 15, 3) := by decide +kernel
theorem dI_lowerToRow_51 : decode cI_lowerToRow 51 = .ok (.aload_n 0, 1) := by decide +kernel
theorem dI_lowerToRow_52 : decode cI_lowerToRow 52 = .ok (.aload_n 0, 1) := by decide +kernel
theorem dI_lowerToRow_53 : decode cI_lowerToRow 53 = .ok (.getfield 47, 3) := by decide +kernel
theorem dI_lowerToRow_56 : decode cI_lowerToRow 56 = .ok (.putfield 40, 3) := by decide +kernel
theorem dI_lowerToRow_59 : decode cI_lowerToRow 59 = .ok (.goto 21, 3) := by decide +kernel
theorem dI_lowerToRow_62 : decode cI_lowerToRow 62 = .ok (.lload_n 1, 1) := by decide +kernel
theorem dI_lowerToRow_63 : decode cI_lowerToRow 63 = .ok (.lload_n 3, 1) := by decide +kernel
theorem dI_lowerToRow_64 : decode cI_lowerToRow 64 = .ok (.lcmp, 1) := by decide +kernel
theorem dI_lowerToRow_65 : decode cI_lowerToRow 65 = .ok (.ifCond .ne 15, 3) := by decide +kernel
theorem dI_lowerToRow_68 : decode cI_lowerToRow 68 = .ok (.aload_n 0, 1) := by decide +kernel
theorem dI_lowerToRow_69 : decode cI_lowerToRow 69 = .ok (.getfield 47, 3) := by decide +kernel
theorem dI_lowerToRow_72 : decode cI_lowerToRow 72 = .ok (.ifCond .eq 8, 3) := by decide +kernel
theorem dI_lowerToRow_75 : decode cI_lowerToRow 75 = .ok (.aload_n 0, 1) := by decide +kernel
theorem dI_lowerToRow_76 : decode cI_lowerToRow 76 = .ok (.iconst 1, 1) := by decide +kernel
theorem dI_lowerToRow_77 : decode cI_lowerToRow 77 = .ok (.putfield 40, 3) := by decide +kernel
theorem dI_lowerToRow_80 : decode cI_lowerToRow 80 = .ok (.return_, 1) := by decide +kernel
theorem dI_reduce_0 : decode cI_reduce 0 = .ok (.aload_n 0, 1) := by decide +kernel
theorem dI_reduce_1 : decode cI_reduce 1 = .ok (.getfield 9, 3) := by decide +kernel
theorem dI_reduce_4 : decode cI_reduce 4 = .ok (.aload_n 0, 1) := by decide +kernel
theorem dI_reduce_5 : decode cI_reduce 5 = .ok (.getfield 15, 3) := by decide +kernel
theorem dI_reduce_8 : decode cI_reduce 8 = .ok (.invokestatic 50, 3) := by decide +kernel
theorem dI_reduce_11 : decode cI_reduce 11 = .ok (.lstore_n 1, 1) := by decide +kernel
theorem dI_reduce_12 : decode cI_reduce 12 = .ok (.lload_n 1, 1) := by decide +kernel
theorem dI_reduce_13 : decode cI_reduce 13 = .ok (.lconst 1, 1) := by decide +kernel
theorem dI_reduce_14 : decode cI_reduce 14 = .ok (.lcmp, 1) := by decide +kernel
theorem dI_reduce_15 : decode cI_reduce 15 = .ok (.ifCond .le 23, 3) := by decide +kernel
theorem dI_reduce_18 : decode cI_reduce 18 = .ok (.aload_n 0, 1) := by decide +kernel
theorem dI_reduce_19 : decode cI_reduce 19 = .ok (.dup, 1) := by decide +kernel
theorem dI_reduce_20 : decode cI_reduce 20 = .ok (.getfield 9, 3) := by decide +kernel
theorem dI_reduce_23 : decode cI_reduce 23 = .ok (.lload_n 1, 1) := by decide +kernel
theorem dI_reduce_24 : decode cI_reduce 24 = .ok (.ldiv, 1) := by decide +kernel
theorem dI_reduce_25 : decode cI_reduce 25 = .ok (.putfield 9, 3) := by decide +kernel
theorem dI_reduce_28 : decode cI_reduce 28 = .ok (.aload_n 0, 1) := by decide +kernel
theorem dI_reduce_29 : decode cI_reduce 29 = .ok (.dup, 1) := by decide +kernel
theorem dI_reduce_30 : decode cI_reduce 30 = .ok (.getfield 15, 3) := by decide +kernel
theorem dI_reduce_33 : decode cI_reduce 33 = .ok (.lload_n 1, 1) := by decide +kernel
theorem dI_reduce_34 : decode cI_reduce 34 = .ok (.ldiv, 1) := by decide +kernel
theorem dI_reduce_35 : decode cI_reduce 35 = .ok (.putfield 15, 3) := by decide +kernel
theorem dI_reduce_38 : decode cI_reduce 38 = .ok (.return_, 1) := by decide +kernel
theorem dI_seekInRow_0 : decode cI_seekInRow 0 = .ok (.aload_n 0, 1) := by decide +kernel
theorem dI_seekInRow_1 : decode cI_seekInRow 1 = .ok (.lconst 0, 1) := by decide +kernel
theorem dI_seekInRow_2 : decode cI_seekInRow 2 = .ok (.putfield 44, 3) := by decide +kernel
theorem dI_seekInRow_5 : decode cI_seekInRow 5 = .ok (.aload_n 0, 1) := by decide +kernel
theorem dI_seekInRow_6 : decode cI_seekInRow 6 = .ok (.lconst 0, 1) := by decide +kernel
theorem dI_seekInRow_7 : decode cI_seekInRow 7 = .ok (.putfield 31, 3) := by decide +kernel
theorem dI_seekInRow_10 : decode cI_seekInRow 10 = .ok (.iconst 0, 1) := by decide +kernel
theorem dI_seekInRow_11 : decode cI_seekInRow 11 = .ok (.istore 5, 2) := by decide +kernel
theorem dI_seekInRow_13 : decode cI_seekInRow 13 = .ok (.iload 5, 2) := by decide +kernel
theorem dI_seekInRow_15 : decode cI_seekInRow 15 = .ok (.aload_n 1, 1) := by decide +kernel
theorem dI_seekInRow_16 : decode cI_seekInRow 16 = .ok (.iload_n 2, 1) := by decide +kernel
theorem dI_seekInRow_17 : decode cI_seekInRow 17 = .ok (.invokevirtual 54, 3) := by decide +kernel
theorem dI_seekInRow_20 : decode cI_seekInRow 20 = .ok (.if_icmp .ge 87, 3) := by decide +kernel
theorem dI_seekInRow_23 : decode cI_seekInRow 23 = .ok (.aload_n 1, 1) := by decide +kernel
theorem dI_seekInRow_24 : decode cI_seekInRow 24 = .ok (.iload_n 2, 1) := by decide +kernel
theorem dI_seekInRow_25 : decode cI_seekInRow 25 = .ok (.iload 5, 2) := by decide +kernel
theorem dI_seekInRow_27 : decode cI_seekInRow 27 = .ok (.iload_n 3, 1) := by decide +kernel
theorem dI_seekInRow_28 : decode cI_seekInRow 28 = .ok (.iload 4, 2) := by decide +kernel
theorem dI_seekInRow_30 : decode cI_seekInRow 30 = .ok (.invokestatic 58, 3) := by decide +kernel
theorem dI_seekInRow_33 : decode cI_seekInRow 33 = .ok (.istore 6, 2) := by decide +kernel
theorem dI_seekInRow_35 : decode cI_seekInRow 35 = .ok (.iload 6, 2) := by decide +kernel
theorem dI_seekInRow_37 : decode cI_seekInRow 37 = .ok (.ifCond .ne 14, 3) := by decide +kernel
theorem dI_seekInRow_40 : decode cI_seekInRow 40 = .ok (.aload_n 0, 1) := by decide +kernel
theorem dI_seekInRow_41 : decode cI_seekInRow 41 = .ok (.aload_n 1, 1) := by decide +kernel
theorem dI_seekInRow_42 : decode cI_seekInRow 42 = .ok (.iload_n 2, 1) := by decide +kernel
theorem dI_seekInRow_43 : decode cI_seekInRow 43 = .ok (.iload 5, 2) := by decide +kernel
theorem dI_seekInRow_45 : decode cI_seekInRow 45 = .ok (.iload_n 3, 1) := by decide +kernel
theorem dI_seekInRow_46 : decode cI_seekInRow 46 = .ok (.iload 4, 2) := by decide +kernel
theorem dI_seekInRow_48 : decode cI_seekInRow 48 = .ok (.invokevirtual 62, 3) := by decide +kernel
theorem dI_seekInRow_51 : decode cI_seekInRow 51 = .ok (.iconst 0, 1) := by decide +kernel
theorem dI_seekInRow_52 : decode cI_seekInRow 52 = .ok (.istore 7, 2) := by decide +kernel
theorem dI_seekInRow_54 : decode cI_seekInRow 54 = .ok (.iload 6, 2) := by decide +kernel
theorem dI_seekInRow_56 : decode cI_seekInRow 56 = .ok (.ifCond .le 45, 3) := by decide +kernel
theorem dI_seekInRow_59 : decode cI_seekInRow 59 = .ok (.iload 7, 2) := by decide +kernel
theorem dI_seekInRow_61 : decode cI_seekInRow 61 = .ok (.aload_n 1, 1) := by decide +kernel
theorem dI_seekInRow_62 : decode cI_seekInRow 62 = .ok (.iload_n 2, 1) := by decide +kernel
theorem dI_seekInRow_63 : decode cI_seekInRow 63 = .ok (.invokevirtual 54, 3) := by decide +kernel
theorem dI_seekInRow_66 : decode cI_seekInRow 66 = .ok (.if_icmp .ge 35, 3) := by decide +kernel
theorem dI_seekInRow_69 : decode cI_seekInRow 69 = .ok (.aload_n 1, 1) := by decide +kernel
theorem dI_seekInRow_70 : decode cI_seekInRow 70 = .ok (.iload_n 2, 1) := by decide +kernel
theorem dI_seekInRow_71 : decode cI_seekInRow 71 = .ok (.iload 7, 2) := by decide +kernel
theorem dI_seekInRow_73 : decode cI_seekInRow 73 = .ok (.iload_n 3, 1) := by decide +kernel
theorem dI_seekInRow_74 : decode cI_seekInRow 74 = .ok (.iload 4, 2) := by decide +kernel
theorem dI_seekInRow_76 : decode cI_seekInRow 76 = .ok (.invokestatic 58, 3) := by decide +kernel
theorem dI_seekInRow_79 : decode cI_seekInRow 79 = .ok (.ifCond .ge 16, 3) := by decide +kernel
theorem dI_seekInRow_82 : decode cI_seekInRow 82 = .ok (.aload_n 0, 1) := by decide +kernel
theorem dI_seekInRow_83 : decode cI_seekInRow 83 = .ok (.aload_n 1, 1) := by decide +kernel
theorem dI_seekInRow_84 : decode cI_seekInRow 84 = .ok (.iload_n 2, 1) := by decide +kernel
theorem dI_seekInRow_85 : decode cI_seekInRow 85 = .ok (.iload 5, 2) := by decide +kernel
theorem dI_seekInRow_87 : decode cI_seekInRow 87 = .ok (.iload 7, 2) := by decide +kernel
theorem dI_seekInRow_89 : decode cI_seekInRow 89 = .ok (.iload_n 3, 1) := by decide +kernel
theorem dI_seekInRow_90 : decode cI_seekInRow 90 = .ok (.iload 4, 2) := by decide +kernel
theorem dI_seekInRow_92 : decode cI_seekInRow 92 = .ok (.invokevirtual 66, 3) := by decide +kernel
theorem dI_seekInRow_95 : decode cI_seekInRow 95 = .ok (.iinc 7 1, 3) := by decide +kernel
theorem dI_seekInRow_98 : decode cI_seekInRow 98 = .ok (.goto (-44), 3) := by decide +kernel
theorem dI_seekInRow_101 : decode cI_seekInRow 101 = .ok (.iinc 5 1, 3) := by decide +kernel
theorem dI_seekInRow_104 : decode cI_seekInRow 104 = .ok (.goto (-91), 3) := by decide +kernel
theorem dI_seekInRow_107 : decode cI_seekInRow 107 = .ok (.return_, 1) := by decide +kernel
theorem dI_side_0 : decode cI_side 0 = .ok (.aload_n 0, 1) := by decide +kernel
theorem dI_side_1 : decode cI_side 1 = .ok (.iload_n 1, 1) := by decide +kernel
theorem dI_side_2 : decode cI_side 2 = .ok (.iload_n 2, 1) := by decide +kernel
theorem dI_side_3 : decode cI_side 3 = .ok (.invokevirtual 70, 3) := by decide +kernel
theorem dI_side_6 : decode cI_side 6 = .ok (.iload_n 3, 1) := by decide +kernel
theorem dI_side_7 : decode cI_side 7 = .ok (.imul, 1) := by decide +kernel
theorem dI_side_8 : decode cI_side 8 = .ok (.aload_n 0, 1) := by decide +kernel
theorem dI_side_9 : decode cI_side 9 = .ok (.iload_n 1, 1) := by decide +kernel
theorem dI_side_10 : decode cI_side 10 = .ok (.iload_n 2, 1) := by decide +kernel
theorem dI_side_11 : decode cI_side 11 = .ok (.invokevirtual 74, 3) := by decide +kernel
theorem dI_side_14 : decode cI_side 14 = .ok (.iload 4, 2) := by decide +kernel
theorem dI_side_16 : decode cI_side 16 = .ok (.imul, 1) := by decide +kernel
theorem dI_side_17 : decode cI_side 17 = .ok (.isub, 1) := by decide +kernel
theorem dI_side_18 : decode cI_side 18 = .ok (.ireturn, 1) := by decide +kernel
theorem dI_boundByOne_0 : decode cI_boundByOne 0 = .ok (.aload_n 1, 1) := by decide +kernel
theorem dI_boundByOne_1 : decode cI_boundByOne 1 = .ok (.iload_n 2, 1) := by decide +kernel
theorem dI_boundByOne_2 : decode cI_boundByOne 2 = .ok (.iload_n 3, 1) := by decide +kernel
theorem dI_boundByOne_3 : decode cI_boundByOne 3 = .ok (.invokevirtual 74, 3) := by decide +kernel
theorem dI_boundByOne_6 : decode cI_boundByOne 6 = .ok (.i2l, 1) := by decide +kernel
theorem dI_boundByOne_7 : decode cI_boundByOne 7 = .ok (.iload 4, 2) := by decide +kernel
theorem dI_boundByOne_9 : decode cI_boundByOne 9 = .ok (.i2l, 1) := by decide +kernel
theorem dI_boundByOne_10 : decode cI_boundByOne 10 = .ok (.lmul, 1) := by decide +kernel
theorem dI_boundByOne_11 : decode cI_boundByOne 11 = .ok (.aload_n 1, 1) := by decide +kernel
theorem dI_boundByOne_12 : decode cI_boundByOne 12 = .ok (.iload_n 2, 1) := by decide +kernel
theorem dI_boundByOne_13 : decode cI_boundByOne 13 = .ok (.iload_n 3, 1) := by decide +kernel
theorem dI_boundByOne_14 : decode cI_boundByOne 14 = .ok (.invokevirtual 70, 3) := by decide +kernel
theorem dI_boundByOne_17 : decode cI_boundByOne 17 = .ok (.i2l, 1) := by decide +kernel
theorem dI_boundByOne_18 : decode cI_boundByOne 18 = .ok (.iload 5, 2) := by decide +kernel
theorem dI_boundByOne_20 : decode cI_boundByOne 20 = .ok (.i2l, 1) := by decide +kernel
theorem dI_boundByOne_21 : decode cI_boundByOne 21 = .ok (.lmul, 1) := by decide +kernel
theorem dI_boundByOne_22 : decode cI_boundByOne 22 = .ok (.ladd, 1) := by decide +kernel
theorem dI_boundByOne_23 : decode cI_boundByOne 23 = .ok (.lstore 6, 2) := by decide +kernel
theorem dI_boundByOne_25 : decode cI_boundByOne 25 = .ok (.lload 6, 2) := by decide +kernel
theorem dI_boundByOne_27 : decode cI_boundByOne 27 = .ok (.lconst 0, 1) := by decide +kernel
theorem dI_boundByOne_28 : decode cI_boundByOne 28 = .ok (.lcmp, 1) := by decide +kernel
theorem dI_boundByOne_29 : decode cI_boundByOne 29 = .ok (.ifCond .ge 52, 3) := by decide +kernel
theorem dI_boundByOne_32 : decode cI_boundByOne 32 = .ok (.iload 4, 2) := by decide +kernel
theorem dI_boundByOne_34 : decode cI_boundByOne 34 = .ok (.i2l, 1) := by decide +kernel
theorem dI_boundByOne_35 : decode cI_boundByOne 35 = .ok (.iload 4, 2) := by decide +kernel
theorem dI_boundByOne_37 : decode cI_boundByOne 37 = .ok (.i2l, 1) := by decide +kernel
theorem dI_boundByOne_38 : decode cI_boundByOne 38 = .ok (.lmul, 1) := by decide +kernel
theorem dI_boundByOne_39 : decode cI_boundByOne 39 = .ok (.iload 5, 2) := by decide +kernel
theorem dI_boundByOne_41 : decode cI_boundByOne 41 = .ok (.i2l, 1) := by decide +kernel
theorem dI_boundByOne_42 : decode cI_boundByOne 42 = .ok (.iload 5, 2) := by decide +kernel
theorem dI_boundByOne_44 : decode cI_boundByOne 44 = .ok (.i2l, 1) := by decide +kernel
theorem dI_boundByOne_45 : decode cI_boundByOne 45 = .ok (.lmul, 1) := by decide +kernel
theorem dI_boundByOne_46 : decode cI_boundByOne 46 = .ok (.ladd, 1) := by decide +kernel
theorem dI_boundByOne_47 : decode cI_boundByOne 47 = .ok (.lstore 8, 2) := by decide +kernel
theorem dI_boundByOne_49 : decode cI_boundByOne 49 = .ok (.aload_n 0, 1) := by decide +kernel
theorem dI_boundByOne_50 : decode cI_boundByOne 50 = .ok (.aload_n 1, 1) := by decide +kernel
theorem dI_boundByOne_51 : decode cI_boundByOne 51 = .ok (.iload_n 2, 1) := by decide +kernel
theorem dI_boundByOne_52 : decode cI_boundByOne 52 = .ok (.iload_n 3, 1) := by decide +kernel
theorem dI_boundByOne_53 : decode cI_boundByOne 53 = .ok (.invokevirtual 77, 3) := by decide +kernel
theorem dI_boundByOne_56 : decode cI_boundByOne 56 = .ok (.ineg, 1) := by decide +kernel
theorem dI_boundByOne_57 : decode cI_boundByOne 57 = .ok (.i2l, 1) := by decide +kernel
theorem dI_boundByOne_58 : decode cI_boundByOne 58 = .ok (.lload 8, 2) := by decide +kernel
theorem dI_boundByOne_60 : decode cI_boundByOne 60 = .ok (.lmul, 1) := by decide +kernel
theorem dI_boundByOne_61 : decode cI_boundByOne 61 = .ok (.lload 6, 2) := by decide +kernel
theorem dI_boundByOne_63 : decode cI_boundByOne 63 = .ok (.lneg, 1) := by decide +kernel
theorem dI_boundByOne_64 : decode cI_boundByOne 64 = .ok (.aload_n 1, 1) := by decide +kernel
theorem dI_boundByOne_65 : decode cI_boundByOne 65 = .ok (.iload_n 2, 1) := by decide +kernel
theorem dI_boundByOne_66 : decode cI_boundByOne 66 = .ok (.iload_n 3, 1) := by decide +kernel
theorem dI_boundByOne_67 : decode cI_boundByOne 67 = .ok (.invokevirtual 80, 3) := by decide +kernel
theorem dI_boundByOne_70 : decode cI_boundByOne 70 = .ok (.ifCond .ne 7, 3) := by decide +kernel
theorem dI_boundByOne_73 : decode cI_boundByOne 73 = .ok (.iconst 1, 1) := by decide +kernel
theorem dI_boundByOne_74 : decode cI_boundByOne 74 = .ok (.goto 4, 3) := by decide +kernel
theorem dI_boundByOne_77 : decode cI_boundByOne 77 = .ok (.iconst 0, 1) := by decide +kernel
theorem dI_boundByOne_78 : decode cI_boundByOne 78 = .ok (.invokevirtual 84, 3) := by decide +kernel
theorem dI_boundByOne_81 : decode cI_boundByOne 81 = .ok (.return_, 1) := by decide +kernel
theorem dI_boundByTwo_0 : decode cI_boundByTwo 0 = .ok (.aload_n 1, 1) := by decide +kernel
theorem dI_boundByTwo_1 : decode cI_boundByTwo 1 = .ok (.iload_n 2, 1) := by decide +kernel
theorem dI_boundByTwo_2 : decode cI_boundByTwo 2 = .ok (.iload_n 3, 1) := by decide +kernel
theorem dI_boundByTwo_3 : decode cI_boundByTwo 3 = .ok (.invokevirtual 74, 3) := by decide +kernel
theorem dI_boundByTwo_6 : decode cI_boundByTwo 6 = .ok (.i2l, 1) := by decide +kernel
theorem dI_boundByTwo_7 : decode cI_boundByTwo 7 = .ok (.lstore 7, 2) := by decide +kernel
theorem dI_boundByTwo_9 : decode cI_boundByTwo 9 = .ok (.aload_n 1, 1) := by decide +kernel
theorem dI_boundByTwo_10 : decode cI_boundByTwo 10 = .ok (.iload_n 2, 1) := by decide +kernel
theorem dI_boundByTwo_11 : decode cI_boundByTwo 11 = .ok (.iload_n 3, 1) := by decide +kernel
theorem dI_boundByTwo_12 : decode cI_boundByTwo 12 = .ok (.invokevirtual 70, 3) := by decide +kernel
theorem dI_boundByTwo_15 : decode cI_boundByTwo 15 = .ok (.i2l, 1) := by decide +kernel
theorem dI_boundByTwo_16 : decode cI_boundByTwo 16 = .ok (.lstore 9, 2) := by decide +kernel
theorem dI_boundByTwo_18 : decode cI_boundByTwo 18 = .ok (.aload_n 1, 1) := by decide +kernel
theorem dI_boundByTwo_19 : decode cI_boundByTwo 19 = .ok (.iload_n 2, 1) := by decide +kernel
theorem dI_boundByTwo_20 : decode cI_boundByTwo 20 = .ok (.iload_n 3, 1) := by decide +kernel
theorem dI_boundByTwo_21 : decode cI_boundByTwo 21 = .ok (.invokevirtual 77, 3) := by decide +kernel
theorem dI_boundByTwo_24 : decode cI_boundByTwo 24 = .ok (.i2l, 1) := by decide +kernel
theorem dI_boundByTwo_25 : decode cI_boundByTwo 25 = .ok (.lstore 11, 2) := by decide +kernel
theorem dI_boundByTwo_27 : decode cI_boundByTwo 27 = .ok (.lload 7, 2) := by decide +kernel
theorem dI_boundByTwo_29 : decode cI_boundByTwo 29 = .ok (.aload_n 1, 1) := by decide +kernel
theorem dI_boundByTwo_30 : decode cI_boundByTwo 30 = .ok (.iload_n 2, 1) := by decide +kernel
theorem dI_boundByTwo_31 : decode cI_boundByTwo 31 = .ok (.iload 4, 2) := by decide +kernel
theorem dI_boundByTwo_33 : decode cI_boundByTwo 33 = .ok (.invokevirtual 70, 3) := by decide +kernel
theorem dI_boundByTwo_36 : decode cI_boundByTwo 36 = .ok (.i2l, 1) := by decide +kernel
theorem dI_boundByTwo_37 : decode cI_boundByTwo 37 = .ok (.lmul, 1) := by decide +kernel
theorem dI_boundByTwo_38 : decode cI_boundByTwo 38 = .ok (.lload 9, 2) := by decide +kernel
theorem dI_boundByTwo_40 : decode cI_boundByTwo 40 = .ok (.aload_n 1, 1) := by decide +kernel
theorem dI_boundByTwo_41 : decode cI_boundByTwo 41 = .ok (.iload_n 2, 1) := by decide +kernel
theorem dI_boundByTwo_42 : decode cI_boundByTwo 42 = .ok (.iload 4, 2) := by decide +kernel
theorem dI_boundByTwo_44 : decode cI_boundByTwo 44 = .ok (.invokevirtual 74, 3) := by decide +kernel
theorem dI_boundByTwo_47 : decode cI_boundByTwo 47 = .ok (.i2l, 1) := by decide +kernel
theorem dI_boundByTwo_48 : decode cI_boundByTwo 48 = .ok (.lmul, 1) := by decide +kernel
theorem dI_boundByTwo_49 : decode cI_boundByTwo 49 = .ok (.lsub, 1) := by decide +kernel
theorem dI_boundByTwo_50 : decode cI_boundByTwo 50 = .ok (.lstore 13, 2) := by decide +kernel
theorem dI_boundByTwo_52 : decode cI_boundByTwo 52 = .ok (.lload 13, 2) := by decide +kernel
theorem dI_boundByTwo_54 : decode cI_boundByTwo 54 = .ok (.lconst 0, 1) := by decide +kernel
theorem dI_boundByTwo_55 : decode cI_boundByTwo 55 = .ok (.lcmp, 1) := by decide +kernel
theorem dI_boundByTwo_56 : decode cI_boundByTwo 56 = .ok (.ifCond .le 100, 3) := by decide +kernel
theorem dI_boundByTwo_59 : decode cI_boundByTwo 59 = .ok (.lload 11, 2) := by decide +kernel
theorem dI_boundByTwo_61 : decode cI_boundByTwo 61 = .ok (.aload_n 1, 1) := by decide +kernel
theorem dI_boundByTwo_62 : decode cI_boundByTwo 62 = .ok (.iload_n 2, 1) := by decide +kernel
theorem dI_boundByTwo_63 : decode cI_boundByTwo 63 = .ok (.iload 4, 2) := by decide +kernel
theorem dI_boundByTwo_65 : decode cI_boundByTwo 65 = .ok (.invokevirtual 70, 3) := by decide +kernel
theorem dI_boundByTwo_68 : decode cI_boundByTwo 68 = .ok (.i2l, 1) := by decide +kernel
theorem dI_boundByTwo_69 : decode cI_boundByTwo 69 = .ok (.lmul, 1) := by decide +kernel
theorem dI_boundByTwo_70 : decode cI_boundByTwo 70 = .ok (.lload 9, 2) := by decide +kernel
theorem dI_boundByTwo_72 : decode cI_boundByTwo 72 = .ok (.aload_n 1, 1) := by decide +kernel
theorem dI_boundByTwo_73 : decode cI_boundByTwo 73 = .ok (.iload_n 2, 1) := by decide +kernel
theorem dI_boundByTwo_74 : decode cI_boundByTwo 74 = .ok (.iload 4, 2) := by decide +kernel
theorem dI_boundByTwo_76 : decode cI_boundByTwo 76 = .ok (.invokevirtual 77, 3) := by decide +kernel
theorem dI_boundByTwo_79 : decode cI_boundByTwo 79 = .ok (.i2l, 1) := by decide +kernel
theorem dI_boundByTwo_80 : decode cI_boundByTwo 80 = .ok (.lmul, 1) := by decide +kernel
theorem dI_boundByTwo_81 : decode cI_boundByTwo 81 = .ok (.lsub, 1) := by decide +kernel
theorem dI_boundByTwo_82 : decode cI_boundByTwo 82 = .ok (.lstore 15, 2) := by decide +kernel
theorem dI_boundByTwo_84 : decode cI_boundByTwo 84 = .ok (.lload 7, 2) := by decide +kernel
theorem dI_boundByTwo_86 : decode cI_boundByTwo 86 = .ok (.aload_n 1, 1) := by decide +kernel
theorem dI_boundByTwo_87 : decode cI_boundByTwo 87 = .ok (.iload_n 2, 1) := by decide +kernel
theorem dI_boundByTwo_88 : decode cI_boundByTwo 88 = .ok (.iload 4, 2) := by decide +kernel
theorem dI_boundByTwo_90 : decode cI_boundByTwo 90 = .ok (.invokevirtual 77, 3) := by decide +kernel
theorem dI_boundByTwo_93 : decode cI_boundByTwo 93 = .ok (.i2l, 1) := by decide +kernel
theorem dI_boundByTwo_94 : decode cI_boundByTwo 94 = .ok (.lmul, 1) := by decide +kernel
theorem dI_boundByTwo_95 : decode cI_boundByTwo 95 = .ok (.lload 11, 2) := by decide +kernel
theorem dI_boundByTwo_97 : decode cI_boundByTwo 97 = .ok (.aload_n 1, 1) := by decide +kernel
theorem dI_boundByTwo_98 : decode cI_boundByTwo 98 = .ok (.iload_n 2, 1) := by decide +kernel
theorem dI_boundByTwo_99 : decode cI_boundByTwo 99 = .ok (.iload 4, 2) := by decide +kernel
theorem dI_boundByTwo_101 : decode cI_boundByTwo 101 = .ok (.invokevirtual 74, 3) := by decide +kernel
theorem dI_boundByTwo_104 : decode cI_boundByTwo 104 = .ok (.i2l, 1) := by decide +kernel
theorem dI_boundByTwo_105 : decode cI_boundByTwo 105 = .ok (.lmul, 1) := by decide +kernel
theorem dI_boundByTwo_106 : decode cI_boundByTwo 106 = .ok (.lsub, 1) := by decide +kernel
theorem dI_boundByTwo_107 : decode cI_boundByTwo 107 = .ok (.lstore 17, 2) := by decide +kernel
theorem dI_boundByTwo_109 : decode cI_boundByTwo 109 = .ok (.aload_n 1, 1) := by decide +kernel
theorem dI_boundByTwo_110 : decode cI_boundByTwo 110 = .ok (.iload_n 2, 1) := by decide +kernel
theorem dI_boundByTwo_111 : decode cI_boundByTwo 111 = .ok (.iload_n 3, 1) := by decide +kernel
theorem dI_boundByTwo_112 : decode cI_boundByTwo 112 = .ok (.invokevirtual 80, 3) := by decide +kernel
theorem dI_boundByTwo_115 : decode cI_boundByTwo 115 = .ok (.ifCond .ne 17, 3) := by decide +kernel
theorem dI_boundByTwo_118 : decode cI_boundByTwo 118 = .ok (.aload_n 1, 1) := by decide +kernel
theorem dI_boundByTwo_119 : decode cI_boundByTwo 119 = .ok (.iload_n 2, 1) := by decide +kernel
theorem dI_boundByTwo_120 : decode cI_boundByTwo 120 = .ok (.iload 4, 2) := by decide +kernel
theorem dI_boundByTwo_122 : decode cI_boundByTwo 122 = .ok (.invokevirtual 80, 3) := by decide +kernel
theorem dI_boundByTwo_125 : decode cI_boundByTwo 125 = .ok (.ifCond .ne 7, 3) := by decide +kernel
theorem dI_boundByTwo_128 : decode cI_boundByTwo 128 = .ok (.iconst 1, 1) := by decide +kernel
theorem dI_boundByTwo_129 : decode cI_boundByTwo 129 = .ok (.goto 4, 3) := by decide +kernel
theorem dI_boundByTwo_132 : decode cI_boundByTwo 132 = .ok (.iconst 0, 1) := by decide +kernel
theorem dI_boundByTwo_133 : decode cI_boundByTwo 133 = .ok (.istore 19, 2) := by decide +kernel
theorem dI_boundByTwo_135 : decode cI_boundByTwo 135 = .ok (.aload_n 0, 1) := by decide +kernel
theorem dI_boundByTwo_136 : decode cI_boundByTwo 136 = .ok (.iload 5, 2) := by decide +kernel
theorem dI_boundByTwo_138 : decode cI_boundByTwo 138 = .ok (.i2l, 1) := by decide +kernel
theorem dI_boundByTwo_139 : decode cI_boundByTwo 139 = .ok (.lload 15, 2) := by decide +kernel
theorem dI_boundByTwo_141 : decode cI_boundByTwo 141 = .ok (.lmul, 1) := by decide +kernel
theorem dI_boundByTwo_142 : decode cI_boundByTwo 142 = .ok (.iload 6, 2) := by decide +kernel
theorem dI_boundByTwo_144 : decode cI_boundByTwo 144 = .ok (.i2l, 1) := by decide +kernel
theorem dI_boundByTwo_145 : decode cI_boundByTwo 145 = .ok (.lload 17, 2) := by decide +kernel
theorem dI_boundByTwo_147 : decode cI_boundByTwo 147 = .ok (.lmul, 1) := by decide +kernel
theorem dI_boundByTwo_148 : decode cI_boundByTwo 148 = .ok (.ladd, 1) := by decide +kernel
theorem dI_boundByTwo_149 : decode cI_boundByTwo 149 = .ok (.lload 13, 2) := by decide +kernel
theorem dI_boundByTwo_151 : decode cI_boundByTwo 151 = .ok (.iload 19, 2) := by decide +kernel
theorem dI_boundByTwo_153 : decode cI_boundByTwo 153 = .ok (.invokevirtual 84, 3) := by decide +kernel
theorem dI_boundByTwo_156 : decode cI_boundByTwo 156 = .ok (.return_, 1) := by decide +kernel
theorem dI_raiseRow_0 : decode cI_raiseRow 0 = .ok (.lload_n 1, 1) := by decide +kernel
theorem dI_raiseRow_1 : decode cI_raiseRow 1 = .ok (.aload_n 0, 1) := by decide +kernel
theorem dI_raiseRow_2 : decode cI_raiseRow 2 = .ok (.getfield 31, 3) := by decide +kernel
theorem dI_raiseRow_5 : decode cI_raiseRow 5 = .ok (.lmul, 1) := by decide +kernel
theorem dI_raiseRow_6 : decode cI_raiseRow 6 = .ok (.lstore 6, 2) := by decide +kernel
theorem dI_raiseRow_8 : decode cI_raiseRow 8 = .ok (.aload_n 0, 1) := by decide +kernel
theorem dI_raiseRow_9 : decode cI_raiseRow 9 = .ok (.getfield 44, 3) := by decide +kernel
theorem dI_raiseRow_12 : decode cI_raiseRow 12 = .ok (.lload_n 3, 1) := by decide +kernel
theorem dI_raiseRow_13 : decode cI_raiseRow 13 = .ok (.lmul, 1) := by decide +kernel
theorem dI_raiseRow_14 : decode cI_raiseRow 14 = .ok (.lstore 8, 2) := by decide +kernel
theorem dI_raiseRow_16 : decode cI_raiseRow 16 = .ok (.aload_n 0, 1) := by decide +kernel
theorem dI_raiseRow_17 : decode cI_raiseRow 17 = .ok (.getfield 31, 3) := by decide +kernel
theorem dI_raiseRow_20 : decode cI_raiseRow 20 = .ok (.lconst 0, 1) := by decide +kernel
theorem dI_raiseRow_21 : decode cI_raiseRow 21 = .ok (.lcmp, 1) := by decide +kernel
theorem dI_raiseRow_22 : decode cI_raiseRow 22 = .ok (.ifCond .eq 11, 3) := by decide +kernel
theorem dI_raiseRow_25 : decode cI_raiseRow 25 = .ok (.lload 6, 2) := by decide +kernel
theorem dI_raiseRow_27 : decode cI_raiseRow 27 = .ok (.lload 8, 2) := by decide +kernel
theorem dI_raiseRow_29 : decode cI_raiseRow 29 = .ok (.lcmp, 1) := by decide +kernel
theorem dI_raiseRow_30 : decode cI_raiseRow 30 = .ok (.ifCond .le 22, 3) := by decide +kernel
theorem dI_raiseRow_33 : decode cI_raiseRow 33 = .ok (.aload_n 0, 1) := by decide +kernel
theorem dI_raiseRow_34 : decode cI_raiseRow 34 = .ok (.lload_n 1, 1) := by decide +kernel
theorem dI_raiseRow_35 : decode cI_raiseRow 35 = .ok (.putfield 44, 3) := by decide +kernel
theorem dI_raiseRow_38 : decode cI_raiseRow 38 = .ok (.aload_n 0, 1) := by decide +kernel
theorem dI_raiseRow_39 : decode cI_raiseRow 39 = .ok (.lload_n 3, 1) := by decide +kernel
theorem dI_raiseRow_40 : decode cI_raiseRow 40 = .ok (.putfield 31, 3) := by decide +kernel
theorem dI_raiseRow_43 : decode cI_raiseRow 43 = .ok (.aload_n 0, 1) := by decide +kernel
theorem dI_raiseRow_44 : decode cI_raiseRow 44 = .ok (.iload 5, 2) := by decide +kernel
theorem dI_raiseRow_46 : decode cI_raiseRow 46 = .ok (.putfield 47, 3) := by decide +kernel
theorem dI_raiseRow_49 : decode cI_raiseRow 49 = .ok (.goto 21, 3) := by decide +kernel
theorem dI_raiseRow_52 : decode cI_raiseRow 52 = .ok (.lload 6, 2) := by decide +kernel
theorem dI_raiseRow_54 : decode cI_raiseRow 54 = .ok (.lload 8, 2) := by decide +kernel
theorem dI_raiseRow_56 : decode cI_raiseRow 56 = .ok (.lcmp, 1) := by decide +kernel
theorem dI_raiseRow_57 : decode cI_raiseRow 57 = .ok (.ifCond .ne 13, 3) := by decide +kernel
theorem dI_raiseRow_60 : decode cI_raiseRow 60 = .ok (.iload 5, 2) := by decide +kernel
theorem dI_raiseRow_62 : decode cI_raiseRow 62 = .ok (.ifCond .ne 8, 3) := by decide +kernel
theorem dI_raiseRow_65 : decode cI_raiseRow 65 = .ok (.aload_n 0, 1) := by decide +kernel
theorem dI_raiseRow_66 : decode cI_raiseRow 66 = .ok (.iconst 0, 1) := by decide +kernel
theorem dI_raiseRow_67 : decode cI_raiseRow 67 = .ok (.putfield 47, 3) := by decide +kernel
theorem dI_raiseRow_70 : decode cI_raiseRow 70 = .ok (.return_, 1) := by decide +kernel
end
section
theorem dK_init_0 : decode cK_init 0 = .ok (.aload_n 0, 1) := by decide +kernel
theorem dK_init_1 : decode cK_init 1 = .ok (.invokespecial 1, 3) := by decide +kernel
theorem dK_init_4 : decode cK_init 4 = .ok (.aload_n 0, 1) := by decide +kernel
theorem dK_init_5 : decode cK_init 5 = .ok (.bipush 6, 2) := by decide +kernel
theorem dK_init_7 : decode cK_init 7 = .ok (.anewarray 9, 3) := by decide +kernel
theorem dK_init_10 : decode cK_init 10 = .ok (.putfield 11, 3) := by decide +kernel
theorem dK_init_13 : decode cK_init 13 = .ok (.aload_n 0, 1) := by decide +kernel
theorem dK_init_14 : decode cK_init 14 = .ok (.iconst 4, 1) := by decide +kernel
theorem dK_init_15 : decode cK_init 15 = .ok (.anewarray 9, 3) := by decide +kernel
theorem dK_init_18 : decode cK_init 18 = .ok (.putfield 15, 3) := by decide +kernel
theorem dK_init_21 : decode cK_init 21 = .ok (.aload_n 0, 1) := by decide +kernel
theorem dK_init_22 : decode cK_init 22 = .ok (.new 18, 3) := by decide +kernel
theorem dK_init_25 : decode cK_init 25 = .ok (.dup, 1) := by decide +kernel
theorem dK_init_26 : decode cK_init 26 = .ok (.invokespecial 20, 3) := by decide +kernel
theorem dK_init_29 : decode cK_init 29 = .ok (.putfield 21, 3) := by decide +kernel
theorem dK_init_32 : decode cK_init 32 = .ok (.aload_n 0, 1) := by decide +kernel
theorem dK_init_33 : decode cK_init 33 = .ok (.new 25, 3) := by decide +kernel
theorem dK_init_36 : decode cK_init 36 = .ok (.dup, 1) := by decide +kernel
theorem dK_init_37 : decode cK_init 37 = .ok (.invokespecial 27, 3) := by decide +kernel
theorem dK_init_40 : decode cK_init 40 = .ok (.putfield 28, 3) := by decide +kernel
theorem dK_init_43 : decode cK_init 43 = .ok (.aload_n 0, 1) := by decide +kernel
theorem dK_init_44 : decode cK_init 44 = .ok (.new 32, 3) := by decide +kernel
theorem dK_init_47 : decode cK_init 47 = .ok (.dup, 1) := by decide +kernel
theorem dK_init_48 : decode cK_init 48 = .ok (.invokespecial 34, 3) := by decide +kernel
theorem dK_init_51 : decode cK_init 51 = .ok (.putfield 35, 3) := by decide +kernel
theorem dK_init_54 : decode cK_init 54 = .ok (.iconst 0, 1) := by decide +kernel
theorem dK_init_55 : decode cK_init 55 = .ok (.istore_n 1, 1) := by decide +kernel
theorem dK_init_56 : decode cK_init 56 = .ok (.iload_n 1, 1) := by decide +kernel
theorem dK_init_57 : decode cK_init 57 = .ok (.bipush 6, 2) := by decide +kernel
theorem dK_init_59 : decode cK_init 59 = .ok (.if_icmp .ge 22, 3) := by decide +kernel
theorem dK_init_62 : decode cK_init 62 = .ok (.aload_n 0, 1) := by decide +kernel
theorem dK_init_63 : decode cK_init 63 = .ok (.getfield 11, 3) := by decide +kernel
theorem dK_init_66 : decode cK_init 66 = .ok (.iload_n 1, 1) := by decide +kernel
theorem dK_init_67 : decode cK_init 67 = .ok (.new 9, 3) := by decide +kernel
theorem dK_init_70 : decode cK_init 70 = .ok (.dup, 1) := by decide +kernel
theorem dK_init_71 : decode cK_init 71 = .ok (.invokespecial 39, 3) := by decide +kernel
theorem dK_init_74 : decode cK_init 74 = .ok (.aastore, 1) := by decide +kernel
theorem dK_init_75 : decode cK_init 75 = .ok (.iinc 1 1, 3) := by decide +kernel
theorem dK_init_78 : decode cK_init 78 = .ok (.goto (-22), 3) := by decide +kernel
theorem dK_init_81 : decode cK_init 81 = .ok (.iconst 0, 1) := by decide +kernel
theorem dK_init_82 : decode cK_init 82 = .ok (.istore_n 1, 1) := by decide +kernel
theorem dK_init_83 : decode cK_init 83 = .ok (.iload_n 1, 1) := by decide +kernel
theorem dK_init_84 : decode cK_init 84 = .ok (.iconst 4, 1) := by decide +kernel
theorem dK_init_85 : decode cK_init 85 = .ok (.if_icmp .ge 22, 3) := by decide +kernel
theorem dK_init_88 : decode cK_init 88 = .ok (.aload_n 0, 1) := by decide +kernel
theorem dK_init_89 : decode cK_init 89 = .ok (.getfield 15, 3) := by decide +kernel
theorem dK_init_92 : decode cK_init 92 = .ok (.iload_n 1, 1) := by decide +kernel
theorem dK_init_93 : decode cK_init 93 = .ok (.new 9, 3) := by decide +kernel
theorem dK_init_96 : decode cK_init 96 = .ok (.dup, 1) := by decide +kernel
theorem dK_init_97 : decode cK_init 97 = .ok (.invokespecial 39, 3) := by decide +kernel
theorem dK_init_100 : decode cK_init 100 = .ok (.aastore, 1) := by decide +kernel
theorem dK_init_101 : decode cK_init 101 = .ok (.iinc 1 1, 3) := by decide +kernel
theorem dK_init_104 : decode cK_init 104 = .ok (.goto (-21), 3) := by decide +kernel
theorem dK_init_107 : decode cK_init 107 = .ok (.return_, 1) := by decide +kernel
theorem dK_member_0 : decode cK_member 0 = .ok (.iload_n 1, 1) := by decide +kernel
theorem dK_member_1 : decode cK_member 1 = .ok (.i2l, 1) := by decide +kernel
theorem dK_member_2 : decode cK_member 2 = .ok (.ldc2_w 40, 3) := by decide +kernel
theorem dK_member_5 : decode cK_member 5 = .ok (.invokestatic 42, 3) := by decide +kernel
theorem dK_member_8 : decode cK_member 8 = .ok (.ifCond .ne 25, 3) := by decide +kernel
theorem dK_member_11 : decode cK_member 11 = .ok (.iload_n 2, 1) := by decide +kernel
theorem dK_member_12 : decode cK_member 12 = .ok (.i2l, 1) := by decide +kernel
theorem dK_member_13 : decode cK_member 13 = .ok (.ldc2_w 40, 3) := by decide +kernel
theorem dK_member_16 : decode cK_member 16 = .ok (.invokestatic 42, 3) := by decide +kernel
theorem dK_member_19 : decode cK_member 19 = .ok (.ifCond .ne 14, 3) := by decide +kernel
theorem dK_member_22 : decode cK_member 22 = .ok (.iload_n 3, 1) := by decide +kernel
theorem dK_member_23 : decode cK_member 23 = .ok (.i2l, 1) := by decide +kernel
theorem dK_member_24 : decode cK_member 24 = .ok (.ldc2_w 40, 3) := by decide +kernel
theorem dK_member_27 : decode cK_member 27 = .ok (.invokestatic 42, 3) := by decide +kernel
theorem dK_member_30 : decode cK_member 30 = .ok (.ifCond .eq 13, 3) := by decide +kernel
theorem dK_member_33 : decode cK_member 33 = .ok (.new 46, 3) := by decide +kernel
theorem dK_member_36 : decode cK_member 36 = .ok (.dup, 1) := by decide +kernel
theorem dK_member_37 : decode cK_member 37 = .ok (.ldc 48, 2) := by decide +kernel
theorem dK_member_39 : decode cK_member 39 = .ok (.invokespecial 50, 3) := by decide +kernel
theorem dK_member_42 : decode cK_member 42 = .ok (.athrow, 1) := by decide +kernel
theorem dK_member_43 : decode cK_member 43 = .ok (.iload_n 1, 1) := by decide +kernel
theorem dK_member_44 : decode cK_member 44 = .ok (.ifCond .ne 17, 3) := by decide +kernel
theorem dK_member_47 : decode cK_member 47 = .ok (.iload_n 2, 1) := by decide +kernel
theorem dK_member_48 : decode cK_member 48 = .ok (.ifCond .ne 13, 3) := by decide +kernel
theorem dK_member_51 : decode cK_member 51 = .ok (.new 46, 3) := by decide +kernel
theorem dK_member_54 : decode cK_member 54 = .ok (.dup, 1) := by decide +kernel
theorem dK_member_55 : decode cK_member 55 = .ok (.ldc 53, 2) := by decide +kernel
theorem dK_member_57 : decode cK_member 57 = .ok (.invokespecial 50, 3) := by decide +kernel
theorem dK_member_60 : decode cK_member 60 = .ok (.athrow, 1) := by decide +kernel
theorem dK_member_61 : decode cK_member 61 = .ok (.aload_n 0, 1) := by decide +kernel
theorem dK_member_62 : decode cK_member 62 = .ok (.getfield 55, 3) := by decide +kernel
theorem dK_member_65 : decode cK_member 65 = .ok (.bipush 12, 2) := by decide +kernel
theorem dK_member_67 : decode cK_member 67 = .ok (.if_icmp .lt 13, 3) := by decide +kernel
theorem dK_member_70 : decode cK_member 70 = .ok (.new 59, 3) := by decide +kernel
theorem dK_member_73 : decode cK_member 73 = .ok (.dup, 1) := by decide +kernel
theorem dK_member_74 : decode cK_member 74 = .ok (.ldc 61, 2) := by decide +kernel
theorem dK_member_76 : decode cK_member 76 = .ok (.invokespecial 63, 3) := by decide +kernel
theorem dK_member_79 : decode cK_member 79 = .ok (.athrow, 1) := by decide +kernel
theorem dK_member_80 : decode cK_member 80 = .ok (.aload_n 0, 1) := by decide +kernel
theorem dK_member_81 : decode cK_member 81 = .ok (.getfield 21, 3) := by decide +kernel
theorem dK_member_84 : decode cK_member 84 = .ok (.iload_n 1, 1) := by decide +kernel
theorem dK_member_85 : decode cK_member 85 = .ok (.i2l, 1) := by decide +kernel
theorem dK_member_86 : decode cK_member 86 = .ok (.iload_n 2, 1) := by decide +kernel
theorem dK_member_87 : decode cK_member 87 = .ok (.i2l, 1) := by decide +kernel
theorem dK_member_88 : decode cK_member 88 = .ok (.iload_n 3, 1) := by decide +kernel
theorem dK_member_89 : decode cK_member 89 = .ok (.i2l, 1) := by decide +kernel
theorem dK_member_90 : decode cK_member 90 = .ok (.iload 4, 2) := by decide +kernel
theorem dK_member_92 : decode cK_member 92 = .ok (.invokevirtual 64, 3) := by decide +kernel
theorem dK_member_95 : decode cK_member 95 = .ok (.aload_n 0, 1) := by decide +kernel
theorem dK_member_96 : decode cK_member 96 = .ok (.dup, 1) := by decide +kernel
theorem dK_member_97 : decode cK_member 97 = .ok (.getfield 55, 3) := by decide +kernel
theorem dK_member_100 : decode cK_member 100 = .ok (.iconst 1, 1) := by decide +kernel
theorem dK_member_101 : decode cK_member 101 = .ok (.iadd, 1) := by decide +kernel
theorem dK_member_102 : decode cK_member 102 = .ok (.putfield 55, 3) := by decide +kernel
theorem dK_member_105 : decode cK_member 105 = .ok (.aload_n 0, 1) := by decide +kernel
theorem dK_member_106 : decode cK_member 106 = .ok (.getfield 55, 3) := by decide +kernel
theorem dK_member_109 : decode cK_member 109 = .ok (.ireturn, 1) := by decide +kernel
theorem dK_row_0 : decode cK_row 0 = .ok (.aload_n 0, 1) := by decide +kernel
theorem dK_row_1 : decode cK_row 1 = .ok (.invokevirtual 68, 3) := by decide +kernel
theorem dK_row_4 : decode cK_row 4 = .ok (.aload_n 0, 1) := by decide +kernel
theorem dK_row_5 : decode cK_row 5 = .ok (.getfield 11, 3) := by decide +kernel
theorem dK_row_8 : decode cK_row 8 = .ok (.aload_n 0, 1) := by decide +kernel
theorem dK_row_9 : decode cK_row 9 = .ok (.getfield 71, 3) := by decide +kernel
theorem dK_row_12 : decode cK_row 12 = .ok (.aaload, 1) := by decide +kernel
theorem dK_row_13 : decode cK_row 13 = .ok (.astore_n 1, 1) := by decide +kernel
theorem dK_row_14 : decode cK_row 14 = .ok (.aload_n 1, 1) := by decide +kernel
theorem dK_row_15 : decode cK_row 15 = .ok (.invokevirtual 74, 3) := by decide +kernel
theorem dK_row_18 : decode cK_row 18 = .ok (.aload_n 1, 1) := by decide +kernel
theorem dK_row_19 : decode cK_row 19 = .ok (.aload_n 0, 1) := by decide +kernel
theorem dK_row_20 : decode cK_row 20 = .ok (.getfield 21, 3) := by decide +kernel
theorem dK_row_23 : decode cK_row 23 = .ok (.invokevirtual 77, 3) := by decide +kernel
theorem dK_row_26 : decode cK_row 26 = .ok (.pop, 1) := by decide +kernel
theorem dK_row_27 : decode cK_row 27 = .ok (.aload_n 0, 1) := by decide +kernel
theorem dK_row_28 : decode cK_row 28 = .ok (.getfield 21, 3) := by decide +kernel
theorem dK_row_31 : decode cK_row 31 = .ok (.invokevirtual 81, 3) := by decide +kernel
theorem dK_row_34 : decode cK_row 34 = .ok (.aload_n 0, 1) := by decide +kernel
theorem dK_row_35 : decode cK_row 35 = .ok (.iconst 0, 1) := by decide +kernel
theorem dK_row_36 : decode cK_row 36 = .ok (.putfield 55, 3) := by decide +kernel
theorem dK_row_39 : decode cK_row 39 = .ok (.aload_n 0, 1) := by decide +kernel
theorem dK_row_40 : decode cK_row 40 = .ok (.dup, 1) := by decide +kernel
theorem dK_row_41 : decode cK_row 41 = .ok (.getfield 71, 3) := by decide +kernel
theorem dK_row_44 : decode cK_row 44 = .ok (.iconst 1, 1) := by decide +kernel
theorem dK_row_45 : decode cK_row 45 = .ok (.iadd, 1) := by decide +kernel
theorem dK_row_46 : decode cK_row 46 = .ok (.putfield 71, 3) := by decide +kernel
theorem dK_row_49 : decode cK_row 49 = .ok (.aload_n 0, 1) := by decide +kernel
theorem dK_row_50 : decode cK_row 50 = .ok (.getfield 71, 3) := by decide +kernel
theorem dK_row_53 : decode cK_row 53 = .ok (.ireturn, 1) := by decide +kernel
theorem dK_and_0 : decode cK_and 0 = .ok (.aload_n 0, 1) := by decide +kernel
theorem dK_and_1 : decode cK_and 1 = .ok (.iconst 2, 1) := by decide +kernel
theorem dK_and_2 : decode cK_and 2 = .ok (.invokevirtual 82, 3) := by decide +kernel
theorem dK_and_5 : decode cK_and 5 = .ok (.aload_n 0, 1) := by decide +kernel
theorem dK_and_6 : decode cK_and 6 = .ok (.getfield 28, 3) := by decide +kernel
theorem dK_and_9 : decode cK_and 9 = .ok (.aload_n 0, 1) := by decide +kernel
theorem dK_and_10 : decode cK_and 10 = .ok (.getfield 11, 3) := by decide +kernel
theorem dK_and_13 : decode cK_and 13 = .ok (.aload_n 0, 1) := by decide +kernel
theorem dK_and_14 : decode cK_and 14 = .ok (.getfield 71, 3) := by decide +kernel
theorem dK_and_17 : decode cK_and 17 = .ok (.iconst 2, 1) := by decide +kernel
theorem dK_and_18 : decode cK_and 18 = .ok (.isub, 1) := by decide +kernel
theorem dK_and_19 : decode cK_and 19 = .ok (.aaload, 1) := by decide +kernel
theorem dK_and_20 : decode cK_and 20 = .ok (.aload_n 0, 1) := by decide +kernel
theorem dK_and_21 : decode cK_and 21 = .ok (.getfield 11, 3) := by decide +kernel
theorem dK_and_24 : decode cK_and 24 = .ok (.aload_n 0, 1) := by decide +kernel
theorem dK_and_25 : decode cK_and 25 = .ok (.getfield 71, 3) := by decide +kernel
theorem dK_and_28 : decode cK_and 28 = .ok (.iconst 1, 1) := by decide +kernel
theorem dK_and_29 : decode cK_and 29 = .ok (.isub, 1) := by decide +kernel
theorem dK_and_30 : decode cK_and 30 = .ok (.aaload, 1) := by decide +kernel
theorem dK_and_31 : decode cK_and 31 = .ok (.invokevirtual 86, 3) := by decide +kernel
theorem dK_and_34 : decode cK_and 34 = .ok (.invokestatic 90, 3) := by decide +kernel
theorem dK_and_37 : decode cK_and 37 = .ok (.aload_n 0, 1) := by decide +kernel
theorem dK_and_38 : decode cK_and 38 = .ok (.dup, 1) := by decide +kernel
theorem dK_and_39 : decode cK_and 39 = .ok (.getfield 71, 3) := by decide +kernel
theorem dK_and_42 : decode cK_and 42 = .ok (.iconst 1, 1) := by decide +kernel
theorem dK_and_43 : decode cK_and 43 = .ok (.isub, 1) := by decide +kernel
theorem dK_and_44 : decode cK_and 44 = .ok (.putfield 71, 3) := by decide +kernel
theorem dK_and_47 : decode cK_and 47 = .ok (.aload_n 0, 1) := by decide +kernel
theorem dK_and_48 : decode cK_and 48 = .ok (.getfield 11, 3) := by decide +kernel
theorem dK_and_51 : decode cK_and 51 = .ok (.aload_n 0, 1) := by decide +kernel
theorem dK_and_52 : decode cK_and 52 = .ok (.getfield 71, 3) := by decide +kernel
theorem dK_and_55 : decode cK_and 55 = .ok (.iconst 1, 1) := by decide +kernel
theorem dK_and_56 : decode cK_and 56 = .ok (.isub, 1) := by decide +kernel
theorem dK_and_57 : decode cK_and 57 = .ok (.aaload, 1) := by decide +kernel
theorem dK_and_58 : decode cK_and 58 = .ok (.aload_n 0, 1) := by decide +kernel
theorem dK_and_59 : decode cK_and 59 = .ok (.getfield 28, 3) := by decide +kernel
theorem dK_and_62 : decode cK_and 62 = .ok (.invokevirtual 94, 3) := by decide +kernel
theorem dK_and_65 : decode cK_and 65 = .ok (.invokevirtual 98, 3) := by decide +kernel
theorem dK_and_68 : decode cK_and 68 = .ok (.return_, 1) := by decide +kernel
theorem dK_or_0 : decode cK_or 0 = .ok (.aload_n 0, 1) := by decide +kernel
theorem dK_or_1 : decode cK_or 1 = .ok (.iconst 2, 1) := by decide +kernel
theorem dK_or_2 : decode cK_or 2 = .ok (.invokevirtual 82, 3) := by decide +kernel
theorem dK_or_5 : decode cK_or 5 = .ok (.aload_n 0, 1) := by decide +kernel
theorem dK_or_6 : decode cK_or 6 = .ok (.getfield 28, 3) := by decide +kernel
theorem dK_or_9 : decode cK_or 9 = .ok (.aload_n 0, 1) := by decide +kernel
theorem dK_or_10 : decode cK_or 10 = .ok (.getfield 11, 3) := by decide +kernel
theorem dK_or_13 : decode cK_or 13 = .ok (.aload_n 0, 1) := by decide +kernel
theorem dK_or_14 : decode cK_or 14 = .ok (.getfield 71, 3) := by decide +kernel
theorem dK_or_17 : decode cK_or 17 = .ok (.iconst 2, 1) := by decide +kernel
theorem dK_or_18 : decode cK_or 18 = .ok (.isub, 1) := by decide +kernel
theorem dK_or_19 : decode cK_or 19 = .ok (.aaload, 1) := by decide +kernel
theorem dK_or_20 : decode cK_or 20 = .ok (.aload_n 0, 1) := by decide +kernel
theorem dK_or_21 : decode cK_or 21 = .ok (.getfield 11, 3) := by decide +kernel
theorem dK_or_24 : decode cK_or 24 = .ok (.aload_n 0, 1) := by decide +kernel
theorem dK_or_25 : decode cK_or 25 = .ok (.getfield 71, 3) := by decide +kernel
theorem dK_or_28 : decode cK_or 28 = .ok (.iconst 1, 1) := by decide +kernel
theorem dK_or_29 : decode cK_or 29 = .ok (.isub, 1) := by decide +kernel
theorem dK_or_30 : decode cK_or 30 = .ok (.aaload, 1) := by decide +kernel
theorem dK_or_31 : decode cK_or 31 = .ok (.invokevirtual 102, 3) := by decide +kernel
theorem dK_or_34 : decode cK_or 34 = .ok (.invokestatic 90, 3) := by decide +kernel
theorem dK_or_37 : decode cK_or 37 = .ok (.aload_n 0, 1) := by decide +kernel
theorem dK_or_38 : decode cK_or 38 = .ok (.dup, 1) := by decide +kernel
theorem dK_or_39 : decode cK_or 39 = .ok (.getfield 71, 3) := by decide +kernel
theorem dK_or_42 : decode cK_or 42 = .ok (.iconst 1, 1) := by decide +kernel
theorem dK_or_43 : decode cK_or 43 = .ok (.isub, 1) := by decide +kernel
theorem dK_or_44 : decode cK_or 44 = .ok (.putfield 71, 3) := by decide +kernel
theorem dK_or_47 : decode cK_or 47 = .ok (.aload_n 0, 1) := by decide +kernel
theorem dK_or_48 : decode cK_or 48 = .ok (.getfield 11, 3) := by decide +kernel
theorem dK_or_51 : decode cK_or 51 = .ok (.aload_n 0, 1) := by decide +kernel
theorem dK_or_52 : decode cK_or 52 = .ok (.getfield 71, 3) := by decide +kernel
theorem dK_or_55 : decode cK_or 55 = .ok (.iconst 1, 1) := by decide +kernel
theorem dK_or_56 : decode cK_or 56 = .ok (.isub, 1) := by decide +kernel
theorem dK_or_57 : decode cK_or 57 = .ok (.aaload, 1) := by decide +kernel
theorem dK_or_58 : decode cK_or 58 = .ok (.aload_n 0, 1) := by decide +kernel
theorem dK_or_59 : decode cK_or 59 = .ok (.getfield 28, 3) := by decide +kernel
theorem dK_or_62 : decode cK_or 62 = .ok (.invokevirtual 94, 3) := by decide +kernel
theorem dK_or_65 : decode cK_or 65 = .ok (.invokevirtual 98, 3) := by decide +kernel
theorem dK_or_68 : decode cK_or 68 = .ok (.return_, 1) := by decide +kernel
theorem dK_not_0 : decode cK_not 0 = .ok (.aload_n 0, 1) := by decide +kernel
theorem dK_not_1 : decode cK_not 1 = .ok (.iconst 1, 1) := by decide +kernel
theorem dK_not_2 : decode cK_not 2 = .ok (.invokevirtual 82, 3) := by decide +kernel
theorem dK_not_5 : decode cK_not 5 = .ok (.aload_n 0, 1) := by decide +kernel
theorem dK_not_6 : decode cK_not 6 = .ok (.getfield 28, 3) := by decide +kernel
theorem dK_not_9 : decode cK_not 9 = .ok (.aload_n 0, 1) := by decide +kernel
theorem dK_not_10 : decode cK_not 10 = .ok (.getfield 11, 3) := by decide +kernel
theorem dK_not_13 : decode cK_not 13 = .ok (.aload_n 0, 1) := by decide +kernel
theorem dK_not_14 : decode cK_not 14 = .ok (.getfield 71, 3) := by decide +kernel
theorem dK_not_17 : decode cK_not 17 = .ok (.iconst 1, 1) := by decide +kernel
theorem dK_not_18 : decode cK_not 18 = .ok (.isub, 1) := by decide +kernel
theorem dK_not_19 : decode cK_not 19 = .ok (.aaload, 1) := by decide +kernel
theorem dK_not_20 : decode cK_not 20 = .ok (.invokevirtual 105, 3) := by decide +kernel
theorem dK_not_23 : decode cK_not 23 = .ok (.invokestatic 90, 3) := by decide +kernel
theorem dK_not_26 : decode cK_not 26 = .ok (.aload_n 0, 1) := by decide +kernel
theorem dK_not_27 : decode cK_not 27 = .ok (.getfield 11, 3) := by decide +kernel
theorem dK_not_30 : decode cK_not 30 = .ok (.aload_n 0, 1) := by decide +kernel
theorem dK_not_31 : decode cK_not 31 = .ok (.getfield 71, 3) := by decide +kernel
theorem dK_not_34 : decode cK_not 34 = .ok (.iconst 1, 1) := by decide +kernel
theorem dK_not_35 : decode cK_not 35 = .ok (.isub, 1) := by decide +kernel
theorem dK_not_36 : decode cK_not 36 = .ok (.aaload, 1) := by decide +kernel
theorem dK_not_37 : decode cK_not 37 = .ok (.aload_n 0, 1) := by decide +kernel
theorem dK_not_38 : decode cK_not 38 = .ok (.getfield 28, 3) := by decide +kernel
theorem dK_not_41 : decode cK_not 41 = .ok (.invokevirtual 94, 3) := by decide +kernel
theorem dK_not_44 : decode cK_not 44 = .ok (.invokevirtual 98, 3) := by decide +kernel
theorem dK_not_47 : decode cK_not 47 = .ok (.return_, 1) := by decide +kernel
theorem dK_free_0 : decode cK_free 0 = .ok (.iload_n 1, 1) := by decide +kernel
theorem dK_free_1 : decode cK_free 1 = .ok (.ifCond .lt 8, 3) := by decide +kernel
theorem dK_free_4 : decode cK_free 4 = .ok (.iload_n 1, 1) := by decide +kernel
theorem dK_free_5 : decode cK_free 5 = .ok (.iconst 2, 1) := by decide +kernel
theorem dK_free_6 : decode cK_free 6 = .ok (.if_icmp .lt 13, 3) := by decide +kernel
theorem dK_free_9 : decode cK_free 9 = .ok (.new 46, 3) := by decide +kernel
theorem dK_free_12 : decode cK_free 12 = .ok (.dup, 1) := by decide +kernel
theorem dK_free_13 : decode cK_free 13 = .ok (.ldc 109, 2) := by decide +kernel
theorem dK_free_15 : decode cK_free 15 = .ok (.invokespecial 50, 3) := by decide +kernel
theorem dK_free_18 : decode cK_free 18 = .ok (.athrow, 1) := by decide +kernel
theorem dK_free_19 : decode cK_free 19 = .ok (.aload_n 0, 1) := by decide +kernel
theorem dK_free_20 : decode cK_free 20 = .ok (.iconst 1, 1) := by decide +kernel
theorem dK_free_21 : decode cK_free 21 = .ok (.invokevirtual 82, 3) := by decide +kernel
theorem dK_free_24 : decode cK_free 24 = .ok (.aload_n 0, 1) := by decide +kernel
theorem dK_free_25 : decode cK_free 25 = .ok (.getfield 28, 3) := by decide +kernel
theorem dK_free_28 : decode cK_free 28 = .ok (.aload_n 0, 1) := by decide +kernel
theorem dK_free_29 : decode cK_free 29 = .ok (.getfield 11, 3) := by decide +kernel
theorem dK_free_32 : decode cK_free 32 = .ok (.aload_n 0, 1) := by decide +kernel
theorem dK_free_33 : decode cK_free 33 = .ok (.getfield 71, 3) := by decide +kernel
theorem dK_free_36 : decode cK_free 36 = .ok (.iconst 1, 1) := by decide +kernel
theorem dK_free_37 : decode cK_free 37 = .ok (.isub, 1) := by decide +kernel
theorem dK_free_38 : decode cK_free 38 = .ok (.aaload, 1) := by decide +kernel
theorem dK_free_39 : decode cK_free 39 = .ok (.iload_n 1, 1) := by decide +kernel
theorem dK_free_40 : decode cK_free 40 = .ok (.invokevirtual 111, 3) := by decide +kernel
theorem dK_free_43 : decode cK_free 43 = .ok (.invokestatic 90, 3) := by decide +kernel
theorem dK_free_46 : decode cK_free 46 = .ok (.aload_n 0, 1) := by decide +kernel
theorem dK_free_47 : decode cK_free 47 = .ok (.getfield 11, 3) := by decide +kernel
theorem dK_free_50 : decode cK_free 50 = .ok (.aload_n 0, 1) := by decide +kernel
theorem dK_free_51 : decode cK_free 51 = .ok (.getfield 71, 3) := by decide +kernel
theorem dK_free_54 : decode cK_free 54 = .ok (.iconst 1, 1) := by decide +kernel
theorem dK_free_55 : decode cK_free 55 = .ok (.isub, 1) := by decide +kernel
theorem dK_free_56 : decode cK_free 56 = .ok (.aaload, 1) := by decide +kernel
theorem dK_free_57 : decode cK_free 57 = .ok (.aload_n 0, 1) := by decide +kernel
theorem dK_free_58 : decode cK_free 58 = .ok (.getfield 28, 3) := by decide +kernel
theorem dK_free_61 : decode cK_free 61 = .ok (.invokevirtual 94, 3) := by decide +kernel
theorem dK_free_64 : decode cK_free 64 = .ok (.invokevirtual 98, 3) := by decide +kernel
theorem dK_free_67 : decode cK_free 67 = .ok (.return_, 1) := by decide +kernel
theorem dK_keep_0 : decode cK_keep 0 = .ok (.iload_n 1, 1) := by decide +kernel
theorem dK_keep_1 : decode cK_keep 1 = .ok (.invokestatic 115, 3) := by decide +kernel
theorem dK_keep_4 : decode cK_keep 4 = .ok (.aload_n 0, 1) := by decide +kernel
theorem dK_keep_5 : decode cK_keep 5 = .ok (.iconst 1, 1) := by decide +kernel
theorem dK_keep_6 : decode cK_keep 6 = .ok (.invokevirtual 82, 3) := by decide +kernel
theorem dK_keep_9 : decode cK_keep 9 = .ok (.aload_n 0, 1) := by decide +kernel
theorem dK_keep_10 : decode cK_keep 10 = .ok (.dup, 1) := by decide +kernel
theorem dK_keep_11 : decode cK_keep 11 = .ok (.getfield 71, 3) := by decide +kernel
theorem dK_keep_14 : decode cK_keep 14 = .ok (.iconst 1, 1) := by decide +kernel
theorem dK_keep_15 : decode cK_keep 15 = .ok (.isub, 1) := by decide +kernel
theorem dK_keep_16 : decode cK_keep 16 = .ok (.putfield 71, 3) := by decide +kernel
theorem dK_keep_19 : decode cK_keep 19 = .ok (.aload_n 0, 1) := by decide +kernel
theorem dK_keep_20 : decode cK_keep 20 = .ok (.getfield 15, 3) := by decide +kernel
theorem dK_keep_23 : decode cK_keep 23 = .ok (.iload_n 1, 1) := by decide +kernel
theorem dK_keep_24 : decode cK_keep 24 = .ok (.aaload, 1) := by decide +kernel
theorem dK_keep_25 : decode cK_keep 25 = .ok (.aload_n 0, 1) := by decide +kernel
theorem dK_keep_26 : decode cK_keep 26 = .ok (.getfield 11, 3) := by decide +kernel
theorem dK_keep_29 : decode cK_keep 29 = .ok (.aload_n 0, 1) := by decide +kernel
theorem dK_keep_30 : decode cK_keep 30 = .ok (.getfield 71, 3) := by decide +kernel
theorem dK_keep_33 : decode cK_keep 33 = .ok (.aaload, 1) := by decide +kernel
theorem dK_keep_34 : decode cK_keep 34 = .ok (.invokevirtual 98, 3) := by decide +kernel
theorem dK_keep_37 : decode cK_keep 37 = .ok (.return_, 1) := by decide +kernel
theorem dK_load_0 : decode cK_load 0 = .ok (.iload_n 1, 1) := by decide +kernel
theorem dK_load_1 : decode cK_load 1 = .ok (.invokestatic 115, 3) := by decide +kernel
theorem dK_load_4 : decode cK_load 4 = .ok (.aload_n 0, 1) := by decide +kernel
theorem dK_load_5 : decode cK_load 5 = .ok (.invokevirtual 68, 3) := by decide +kernel
theorem dK_load_8 : decode cK_load 8 = .ok (.aload_n 0, 1) := by decide +kernel
theorem dK_load_9 : decode cK_load 9 = .ok (.getfield 11, 3) := by decide +kernel
theorem dK_load_12 : decode cK_load 12 = .ok (.aload_n 0, 1) := by decide +kernel
theorem dK_load_13 : decode cK_load 13 = .ok (.getfield 71, 3) := by decide +kernel
theorem dK_load_16 : decode cK_load 16 = .ok (.aaload, 1) := by decide +kernel
theorem dK_load_17 : decode cK_load 17 = .ok (.aload_n 0, 1) := by decide +kernel
theorem dK_load_18 : decode cK_load 18 = .ok (.getfield 15, 3) := by decide +kernel
theorem dK_load_21 : decode cK_load 21 = .ok (.iload_n 1, 1) := by decide +kernel
theorem dK_load_22 : decode cK_load 22 = .ok (.aaload, 1) := by decide +kernel
theorem dK_load_23 : decode cK_load 23 = .ok (.invokevirtual 98, 3) := by decide +kernel
theorem dK_load_26 : decode cK_load 26 = .ok (.aload_n 0, 1) := by decide +kernel
theorem dK_load_27 : decode cK_load 27 = .ok (.dup, 1) := by decide +kernel
theorem dK_load_28 : decode cK_load 28 = .ok (.getfield 71, 3) := by decide +kernel
theorem dK_load_31 : decode cK_load 31 = .ok (.iconst 1, 1) := by decide +kernel
theorem dK_load_32 : decode cK_load 32 = .ok (.iadd, 1) := by decide +kernel
theorem dK_load_33 : decode cK_load 33 = .ok (.putfield 71, 3) := by decide +kernel
theorem dK_load_36 : decode cK_load 36 = .ok (.aload_n 0, 1) := by decide +kernel
theorem dK_load_37 : decode cK_load 37 = .ok (.getfield 71, 3) := by decide +kernel
theorem dK_load_40 : decode cK_load 40 = .ok (.ireturn, 1) := by decide +kernel
theorem dK_drop_0 : decode cK_drop 0 = .ok (.aload_n 0, 1) := by decide +kernel
theorem dK_drop_1 : decode cK_drop 1 = .ok (.getfield 71, 3) := by decide +kernel
theorem dK_drop_4 : decode cK_drop 4 = .ok (.ifCond .ne 5, 3) := by decide +kernel
theorem dK_drop_7 : decode cK_drop 7 = .ok (.iconst 0, 1) := by decide +kernel
theorem dK_drop_8 : decode cK_drop 8 = .ok (.ireturn, 1) := by decide +kernel
theorem dK_drop_9 : decode cK_drop 9 = .ok (.aload_n 0, 1) := by decide +kernel
theorem dK_drop_10 : decode cK_drop 10 = .ok (.dup, 1) := by decide +kernel
theorem dK_drop_11 : decode cK_drop 11 = .ok (.getfield 71, 3) := by decide +kernel
theorem dK_drop_14 : decode cK_drop 14 = .ok (.iconst 1, 1) := by decide +kernel
theorem dK_drop_15 : decode cK_drop 15 = .ok (.isub, 1) := by decide +kernel
theorem dK_drop_16 : decode cK_drop 16 = .ok (.putfield 71, 3) := by decide +kernel
theorem dK_drop_19 : decode cK_drop 19 = .ok (.iconst 1, 1) := by decide +kernel
theorem dK_drop_20 : decode cK_drop 20 = .ok (.ireturn, 1) := by decide +kernel
theorem dK_pile_0 : decode cK_pile 0 = .ok (.aload_n 0, 1) := by decide +kernel
theorem dK_pile_1 : decode cK_pile 1 = .ok (.getfield 71, 3) := by decide +kernel
theorem dK_pile_4 : decode cK_pile 4 = .ok (.ireturn, 1) := by decide +kernel
theorem dK_rows_0 : decode cK_rows 0 = .ok (.aload_n 0, 1) := by decide +kernel
theorem dK_rows_1 : decode cK_rows 1 = .ok (.iconst 1, 1) := by decide +kernel
theorem dK_rows_2 : decode cK_rows 2 = .ok (.invokevirtual 82, 3) := by decide +kernel
theorem dK_rows_5 : decode cK_rows 5 = .ok (.aload_n 0, 1) := by decide +kernel
theorem dK_rows_6 : decode cK_rows 6 = .ok (.getfield 11, 3) := by decide +kernel
theorem dK_rows_9 : decode cK_rows 9 = .ok (.aload_n 0, 1) := by decide +kernel
theorem dK_rows_10 : decode cK_rows 10 = .ok (.getfield 71, 3) := by decide +kernel
theorem dK_rows_13 : decode cK_rows 13 = .ok (.iconst 1, 1) := by decide +kernel
theorem dK_rows_14 : decode cK_rows 14 = .ok (.isub, 1) := by decide +kernel
theorem dK_rows_15 : decode cK_rows 15 = .ok (.aaload, 1) := by decide +kernel
theorem dK_rows_16 : decode cK_rows 16 = .ok (.invokevirtual 118, 3) := by decide +kernel
theorem dK_rows_19 : decode cK_rows 19 = .ok (.ireturn, 1) := by decide +kernel
theorem dK_members_0 : decode cK_members 0 = .ok (.aload_n 0, 1) := by decide +kernel
theorem dK_members_1 : decode cK_members 1 = .ok (.iconst 1, 1) := by decide +kernel
theorem dK_members_2 : decode cK_members 2 = .ok (.invokevirtual 82, 3) := by decide +kernel
theorem dK_members_5 : decode cK_members 5 = .ok (.aload_n 0, 1) := by decide +kernel
theorem dK_members_6 : decode cK_members 6 = .ok (.iload_n 1, 1) := by decide +kernel
theorem dK_members_7 : decode cK_members 7 = .ok (.invokevirtual 122, 3) := by decide +kernel
theorem dK_members_10 : decode cK_members 10 = .ok (.aload_n 0, 1) := by decide +kernel
theorem dK_members_11 : decode cK_members 11 = .ok (.getfield 11, 3) := by decide +kernel
theorem dK_members_14 : decode cK_members 14 = .ok (.aload_n 0, 1) := by decide +kernel
theorem dK_members_15 : decode cK_members 15 = .ok (.getfield 71, 3) := by decide +kernel
theorem dK_members_18 : decode cK_members 18 = .ok (.iconst 1, 1) := by decide +kernel
theorem dK_members_19 : decode cK_members 19 = .ok (.isub, 1) := by decide +kernel
theorem dK_members_20 : decode cK_members 20 = .ok (.aaload, 1) := by decide +kernel
theorem dK_members_21 : decode cK_members 21 = .ok (.iload_n 1, 1) := by decide +kernel
theorem dK_members_22 : decode cK_members 22 = .ok (.invokevirtual 125, 3) := by decide +kernel
theorem dK_members_25 : decode cK_members 25 = .ok (.ireturn, 1) := by decide +kernel
theorem dK_part_0 : decode cK_part 0 = .ok (.aload_n 0, 1) := by decide +kernel
theorem dK_part_1 : decode cK_part 1 = .ok (.iconst 1, 1) := by decide +kernel
theorem dK_part_2 : decode cK_part 2 = .ok (.invokevirtual 82, 3) := by decide +kernel
theorem dK_part_5 : decode cK_part 5 = .ok (.aload_n 0, 1) := by decide +kernel
theorem dK_part_6 : decode cK_part 6 = .ok (.iload_n 1, 1) := by decide +kernel
theorem dK_part_7 : decode cK_part 7 = .ok (.invokevirtual 122, 3) := by decide +kernel
theorem dK_part_10 : decode cK_part 10 = .ok (.aload_n 0, 1) := by decide +kernel
theorem dK_part_11 : decode cK_part 11 = .ok (.getfield 11, 3) := by decide +kernel
theorem dK_part_14 : decode cK_part 14 = .ok (.aload_n 0, 1) := by decide +kernel
theorem dK_part_15 : decode cK_part 15 = .ok (.getfield 71, 3) := by decide +kernel
theorem dK_part_18 : decode cK_part 18 = .ok (.iconst 1, 1) := by decide +kernel
theorem dK_part_19 : decode cK_part 19 = .ok (.isub, 1) := by decide +kernel
theorem dK_part_20 : decode cK_part 20 = .ok (.aaload, 1) := by decide +kernel
theorem dK_part_21 : decode cK_part 21 = .ok (.astore 4, 2) := by decide +kernel
theorem dK_part_23 : decode cK_part 23 = .ok (.iload_n 2, 1) := by decide +kernel
theorem dK_part_24 : decode cK_part 24 = .ok (.ifCond .lt 13, 3) := by decide +kernel
theorem dK_part_27 : decode cK_part 27 = .ok (.iload_n 2, 1) := by decide +kernel
theorem dK_part_28 : decode cK_part 28 = .ok (.aload 4, 2) := by decide +kernel
theorem dK_part_30 : decode cK_part 30 = .ok (.iload_n 1, 1) := by decide +kernel
theorem dK_part_31 : decode cK_part 31 = .ok (.invokevirtual 125, 3) := by decide +kernel
theorem dK_part_34 : decode cK_part 34 = .ok (.if_icmp .lt 13, 3) := by decide +kernel
theorem dK_part_37 : decode cK_part 37 = .ok (.new 129, 3) := by decide +kernel
theorem dK_part_40 : decode cK_part 40 = .ok (.dup, 1) := by decide +kernel
theorem dK_part_41 : decode cK_part 41 = .ok (.ldc 131, 2) := by decide +kernel
theorem dK_part_43 : decode cK_part 43 = .ok (.invokespecial 133, 3) := by decide +kernel
theorem dK_part_46 : decode cK_part 46 = .ok (.athrow, 1) := by decide +kernel
theorem dK_part_47 : decode cK_part 47 = .ok (.iload_n 3, 1) := by decide +kernel
theorem dK_part_80 : decode cK_part 80 = .ok (.aload 4, 2) := by decide +kernel
theorem dK_part_82 : decode cK_part 82 = .ok (.iload_n 1, 1) := by decide +kernel
theorem dK_part_83 : decode cK_part 83 = .ok (.iload_n 2, 1) := by decide +kernel
theorem dK_part_84 : decode cK_part 84 = .ok (.invokevirtual 134, 3) := by decide +kernel
theorem dK_part_87 : decode cK_part 87 = .ok (.ireturn, 1) := by decide +kernel
theorem dK_part_88 : decode cK_part 88 = .ok (.aload 4, 2) := by decide +kernel
theorem dK_part_90 : decode cK_part 90 = .ok (.iload_n 1, 1) := by decide +kernel
theorem dK_part_91 : decode cK_part 91 = .ok (.iload_n 2, 1) := by decide +kernel
theorem dK_part_92 : decode cK_part 92 = .ok (.invokevirtual 138, 3) := by decide +kernel
theorem dK_part_95 : decode cK_part 95 = .ok (.ireturn, 1) := by decide +kernel
theorem dK_part_96 : decode cK_part 96 = .ok (.aload 4, 2) := by decide +kernel
theorem dK_part_98 : decode cK_part 98 = .ok (.iload_n 1, 1) := by decide +kernel
theorem dK_part_99 : decode cK_part 99 = .ok (.iload_n 2, 1) := by decide +kernel
theorem dK_part_100 : decode cK_part 100 = .ok (.invokevirtual 141, 3) := by decide +kernel
theorem dK_part_103 : decode cK_part 103 = .ok (.ireturn, 1) := by decide +kernel
theorem dK_part_104 : decode cK_part 104 = .ok (.aload 4, 2) := by decide +kernel
theorem dK_part_106 : decode cK_part 106 = .ok (.iload_n 1, 1) := by decide +kernel
theorem dK_part_107 : decode cK_part 107 = .ok (.iload_n 2, 1) := by decide +kernel
theorem dK_part_108 : decode cK_part 108 = .ok (.invokevirtual 144, 3) := by decide +kernel
theorem dK_part_111 : decode cK_part 111 = .ok (.ifCond .eq 7, 3) := by decide +kernel
theorem dK_part_114 : decode cK_part 114 = .ok (.iconst 1, 1) := by decide +kernel
theorem dK_part_115 : decode cK_part 115 = .ok (.goto 4, 3) := by decide +kernel
theorem dK_part_118 : decode cK_part 118 = .ok (.iconst 0, 1) := by decide +kernel
theorem dK_part_119 : decode cK_part 119 = .ok (.ireturn, 1) := by decide +kernel
theorem dK_part_120 : decode cK_part 120 = .ok (.new 46, 3) := by decide +kernel
theorem dK_part_123 : decode cK_part 123 = .ok (.dup, 1) := by decide +kernel
theorem dK_part_124 : decode cK_part 124 = .ok (.ldc 148, 2) := by decide +kernel
theorem dK_part_126 : decode cK_part 126 = .ok (.invokespecial 50, 3) := by decide +kernel
theorem dK_part_129 : decode cK_part 129 = .ok (.athrow, 1) := by decide +kernel
theorem dK_holds_0 : decode cK_holds 0 = .ok (.aload_n 0, 1) := by decide +kernel
theorem dK_holds_1 : decode cK_holds 1 = .ok (.iconst 1, 1) := by decide +kernel
theorem dK_holds_2 : decode cK_holds 2 = .ok (.invokevirtual 82, 3) := by decide +kernel
theorem dK_holds_5 : decode cK_holds 5 = .ok (.iload_n 1, 1) := by decide +kernel
theorem dK_holds_6 : decode cK_holds 6 = .ok (.i2l, 1) := by decide +kernel
theorem dK_holds_7 : decode cK_holds 7 = .ok (.ldc2_w 40, 3) := by decide +kernel
theorem dK_holds_10 : decode cK_holds 10 = .ok (.invokestatic 42, 3) := by decide +kernel
theorem dK_holds_13 : decode cK_holds 13 = .ok (.ifCond .ne 14, 3) := by decide +kernel
theorem dK_holds_16 : decode cK_holds 16 = .ok (.iload_n 2, 1) := by decide +kernel
theorem dK_holds_17 : decode cK_holds 17 = .ok (.i2l, 1) := by decide +kernel
theorem dK_holds_18 : decode cK_holds 18 = .ok (.ldc2_w 40, 3) := by decide +kernel
theorem dK_holds_21 : decode cK_holds 21 = .ok (.invokestatic 42, 3) := by decide +kernel
theorem dK_holds_24 : decode cK_holds 24 = .ok (.ifCond .eq 13, 3) := by decide +kernel
theorem dK_holds_27 : decode cK_holds 27 = .ok (.new 46, 3) := by decide +kernel
theorem dK_holds_30 : decode cK_holds 30 = .ok (.dup, 1) := by decide +kernel
theorem dK_holds_31 : decode cK_holds 31 = .ok (.ldc 150, 2) := by decide +kernel
theorem dK_holds_33 : decode cK_holds 33 = .ok (.invokespecial 50, 3) := by decide +kernel
theorem dK_holds_36 : decode cK_holds 36 = .ok (.athrow, 1) := by decide +kernel
theorem dK_holds_37 : decode cK_holds 37 = .ok (.iload_n 3, 1) := by decide +kernel
theorem dK_holds_38 : decode cK_holds 38 = .ok (.iconst 1, 1) := by decide +kernel
theorem dK_holds_39 : decode cK_holds 39 = .ok (.if_icmp .lt 10, 3) := by decide +kernel
theorem dK_holds_42 : decode cK_holds 42 = .ok (.iload_n 3, 1) := by decide +kernel
theorem dK_holds_43 : decode cK_holds 43 = .ok (.sipush 1000, 3) := by decide +kernel
theorem dK_holds_46 : decode cK_holds 46 = .ok (.if_icmp .le 13, 3) := by decide +kernel
theorem dK_holds_49 : decode cK_holds 49 = .ok (.new 46, 3) := by decide +kernel
theorem dK_holds_52 : decode cK_holds 52 = .ok (.dup, 1) := by decide +kernel
theorem dK_holds_53 : decode cK_holds 53 = .ok (.ldc 152, 2) := by decide +kernel
theorem dK_holds_55 : decode cK_holds 55 = .ok (.invokespecial 50, 3) := by decide +kernel
theorem dK_holds_58 : decode cK_holds 58 = .ok (.athrow, 1) := by decide +kernel
theorem dK_holds_59 : decode cK_holds 59 = .ok (.aload_n 0, 1) := by decide +kernel
theorem dK_holds_60 : decode cK_holds 60 = .ok (.getfield 11, 3) := by decide +kernel
theorem dK_holds_63 : decode cK_holds 63 = .ok (.aload_n 0, 1) := by decide +kernel
theorem dK_holds_64 : decode cK_holds 64 = .ok (.getfield 71, 3) := by decide +kernel
theorem dK_holds_67 : decode cK_holds 67 = .ok (.iconst 1, 1) := by decide +kernel
theorem dK_holds_68 : decode cK_holds 68 = .ok (.isub, 1) := by decide +kernel
theorem dK_holds_69 : decode cK_holds 69 = .ok (.aaload, 1) := by decide +kernel
theorem dK_holds_70 : decode cK_holds 70 = .ok (.iload_n 1, 1) := by decide +kernel
theorem dK_holds_71 : decode cK_holds 71 = .ok (.iload_n 2, 1) := by decide +kernel
theorem dK_holds_72 : decode cK_holds 72 = .ok (.iload_n 3, 1) := by decide +kernel
theorem dK_holds_73 : decode cK_holds 73 = .ok (.invokevirtual 154, 3) := by decide +kernel
theorem dK_holds_76 : decode cK_holds 76 = .ok (.ireturn, 1) := by decide +kernel
theorem dK_within_0 : decode cK_within 0 = .ok (.aload_n 0, 1) := by decide +kernel
theorem dK_within_1 : decode cK_within 1 = .ok (.iconst 2, 1) := by decide +kernel
theorem dK_within_2 : decode cK_within 2 = .ok (.invokevirtual 82, 3) := by decide +kernel
theorem dK_within_5 : decode cK_within 5 = .ok (.aload_n 0, 1) := by decide +kernel
theorem dK_within_6 : decode cK_within 6 = .ok (.getfield 28, 3) := by decide +kernel
theorem dK_within_9 : decode cK_within 9 = .ok (.aload_n 0, 1) := by decide +kernel
theorem dK_within_10 : decode cK_within 10 = .ok (.getfield 11, 3) := by decide +kernel
theorem dK_within_13 : decode cK_within 13 = .ok (.aload_n 0, 1) := by decide +kernel
theorem dK_within_14 : decode cK_within 14 = .ok (.getfield 71, 3) := by decide +kernel
theorem dK_within_17 : decode cK_within 17 = .ok (.iconst 2, 1) := by decide +kernel
theorem dK_within_18 : decode cK_within 18 = .ok (.isub, 1) := by decide +kernel
theorem dK_within_19 : decode cK_within 19 = .ok (.aaload, 1) := by decide +kernel
theorem dK_within_20 : decode cK_within 20 = .ok (.invokevirtual 105, 3) := by decide +kernel
theorem dK_within_23 : decode cK_within 23 = .ok (.invokestatic 90, 3) := by decide +kernel
theorem dK_within_26 : decode cK_within 26 = .ok (.aload_n 0, 1) := by decide +kernel
theorem dK_within_27 : decode cK_within 27 = .ok (.getfield 28, 3) := by decide +kernel
theorem dK_within_30 : decode cK_within 30 = .ok (.aload_n 0, 1) := by decide +kernel
theorem dK_within_31 : decode cK_within 31 = .ok (.getfield 11, 3) := by decide +kernel
theorem dK_within_34 : decode cK_within 34 = .ok (.aload_n 0, 1) := by decide +kernel
theorem dK_within_35 : decode cK_within 35 = .ok (.getfield 71, 3) := by decide +kernel
theorem dK_within_38 : decode cK_within 38 = .ok (.iconst 1, 1) := by decide +kernel
theorem dK_within_39 : decode cK_within 39 = .ok (.isub, 1) := by decide +kernel
theorem dK_within_40 : decode cK_within 40 = .ok (.aaload, 1) := by decide +kernel
theorem dK_within_41 : decode cK_within 41 = .ok (.aload_n 0, 1) := by decide +kernel
theorem dK_within_42 : decode cK_within 42 = .ok (.getfield 28, 3) := by decide +kernel
theorem dK_within_45 : decode cK_within 45 = .ok (.invokevirtual 158, 3) := by decide +kernel
theorem dK_within_48 : decode cK_within 48 = .ok (.invokevirtual 86, 3) := by decide +kernel
theorem dK_within_51 : decode cK_within 51 = .ok (.invokestatic 90, 3) := by decide +kernel
theorem dK_within_54 : decode cK_within 54 = .ok (.aload_n 0, 1) := by decide +kernel
theorem dK_within_55 : decode cK_within 55 = .ok (.getfield 28, 3) := by decide +kernel
theorem dK_within_58 : decode cK_within 58 = .ok (.invokevirtual 94, 3) := by decide +kernel
theorem dK_within_61 : decode cK_within 61 = .ok (.invokevirtual 118, 3) := by decide +kernel
theorem dK_within_64 : decode cK_within 64 = .ok (.ifCond .ne 7, 3) := by decide +kernel
theorem dK_within_67 : decode cK_within 67 = .ok (.iconst 1, 1) := by decide +kernel
theorem dK_within_68 : decode cK_within 68 = .ok (.goto 4, 3) := by decide +kernel
theorem dK_within_71 : decode cK_within 71 = .ok (.iconst 0, 1) := by decide +kernel
theorem dK_within_72 : decode cK_within 72 = .ok (.ireturn, 1) := by decide +kernel
theorem dK_least_0 : decode cK_least 0 = .ok (.aload_n 0, 1) := by decide +kernel
theorem dK_least_1 : decode cK_least 1 = .ok (.iconst 1, 1) := by decide +kernel
theorem dK_least_2 : decode cK_least 2 = .ok (.invokevirtual 82, 3) := by decide +kernel
theorem dK_least_5 : decode cK_least 5 = .ok (.iload_n 1, 1) := by decide +kernel
theorem dK_least_6 : decode cK_least 6 = .ok (.i2l, 1) := by decide +kernel
theorem dK_least_7 : decode cK_least 7 = .ok (.ldc2_w 161, 3) := by decide +kernel
theorem dK_least_10 : decode cK_least 10 = .ok (.invokestatic 42, 3) := by decide +kernel
theorem dK_least_13 : decode cK_least 13 = .ok (.ifCond .ne 14, 3) := by decide +kernel
theorem dK_least_16 : decode cK_least 16 = .ok (.iload_n 2, 1) := by decide +kernel
theorem dK_least_17 : decode cK_least 17 = .ok (.i2l, 1) := by decide +kernel
theorem dK_least_18 : decode cK_least 18 = .ok (.ldc2_w 161, 3) := by decide +kernel
theorem dK_least_21 : decode cK_least 21 = .ok (.invokestatic 42, 3) := by decide +kernel
theorem dK_least_24 : decode cK_least 24 = .ok (.ifCond .eq 13, 3) := by decide +kernel
theorem dK_least_27 : decode cK_least 27 = .ok (.new 46, 3) := by decide +kernel
theorem dK_least_30 : decode cK_least 30 = .ok (.dup, 1) := by decide +kernel
theorem dK_least_31 : decode cK_least 31 = .ok (.ldc 163, 2) := by decide +kernel
theorem dK_least_33 : decode cK_least 33 = .ok (.invokespecial 50, 3) := by decide +kernel
theorem dK_least_36 : decode cK_least 36 = .ok (.athrow, 1) := by decide +kernel
theorem dK_least_37 : decode cK_least 37 = .ok (.aload_n 0, 1) := by decide +kernel
theorem dK_least_38 : decode cK_least 38 = .ok (.getfield 35, 3) := by decide +kernel
theorem dK_least_41 : decode cK_least 41 = .ok (.aload_n 0, 1) := by decide +kernel
theorem dK_least_42 : decode cK_least 42 = .ok (.getfield 11, 3) := by decide +kernel
theorem dK_least_45 : decode cK_least 45 = .ok (.aload_n 0, 1) := by decide +kernel
theorem dK_least_46 : decode cK_least 46 = .ok (.getfield 71, 3) := by decide +kernel
theorem dK_least_49 : decode cK_least 49 = .ok (.iconst 1, 1) := by decide +kernel
theorem dK_least_50 : decode cK_least 50 = .ok (.isub, 1) := by decide +kernel
theorem dK_least_51 : decode cK_least 51 = .ok (.aaload, 1) := by decide +kernel
theorem dK_least_52 : decode cK_least 52 = .ok (.iload_n 1, 1) := by decide +kernel
theorem dK_least_53 : decode cK_least 53 = .ok (.iload_n 2, 1) := by decide +kernel
theorem dK_least_54 : decode cK_least 54 = .ok (.invokevirtual 165, 3) := by decide +kernel
theorem dK_least_57 : decode cK_least 57 = .ok (.ireturn, 1) := by decide +kernel
theorem dK_value_0 : decode cK_value 0 = .ok (.iload_n 1, 1) := by decide +kernel
theorem dK_value_1 : decode cK_value 1 = .ok (.ifCond .eq 18, 3) := by decide +kernel
theorem dK_value_4 : decode cK_value 4 = .ok (.iload_n 1, 1) := by decide +kernel
theorem dK_value_5 : decode cK_value 5 = .ok (.iconst 1, 1) := by decide +kernel
theorem dK_value_6 : decode cK_value 6 = .ok (.if_icmp .eq 13, 3) := by decide +kernel
theorem dK_value_9 : decode cK_value 9 = .ok (.new 46, 3) := by decide +kernel
theorem dK_value_12 : decode cK_value 12 = .ok (.dup, 1) := by decide +kernel
theorem dK_value_13 : decode cK_value 13 = .ok (.ldc 169, 2) := by decide +kernel
theorem dK_value_15 : decode cK_value 15 = .ok (.invokespecial 50, 3) := by decide +kernel
theorem dK_value_18 : decode cK_value 18 = .ok (.athrow, 1) := by decide +kernel
theorem dK_value_19 : decode cK_value 19 = .ok (.iload_n 1, 1) := by decide +kernel
theorem dK_value_20 : decode cK_value 20 = .ok (.ifCond .ne 13, 3) := by decide +kernel
theorem dK_value_23 : decode cK_value 23 = .ok (.aload_n 0, 1) := by decide +kernel
theorem dK_value_24 : decode cK_value 24 = .ok (.getfield 35, 3) := by decide +kernel
theorem dK_value_27 : decode cK_value 27 = .ok (.invokevirtual 171, 3) := by decide +kernel
theorem dK_value_30 : decode cK_value 30 = .ok (.goto 10, 3) := by decide +kernel
theorem dK_value_33 : decode cK_value 33 = .ok (.aload_n 0, 1) := by decide +kernel
theorem dK_value_34 : decode cK_value 34 = .ok (.getfield 35, 3) := by decide +kernel
theorem dK_value_37 : decode cK_value 37 = .ok (.invokevirtual 175, 3) := by decide +kernel
theorem dK_value_40 : decode cK_value 40 = .ok (.lreturn, 1) := by decide +kernel
theorem dK_requireRoom_0 : decode cK_requireRoom 0 = .ok (.aload_n 0, 1) := by decide +kernel
theorem dK_requireRoom_1 : decode cK_requireRoom 1 = .ok (.getfield 71, 3) := by decide +kernel
theorem dK_requireRoom_4 : decode cK_requireRoom 4 = .ok (.bipush 6, 2) := by decide +kernel
theorem dK_requireRoom_6 : decode cK_requireRoom 6 = .ok (.if_icmp .lt 13, 3) := by decide +kernel
theorem dK_requireRoom_9 : decode cK_requireRoom 9 = .ok (.new 59, 3) := by decide +kernel
theorem dK_requireRoom_12 : decode cK_requireRoom 12 = .ok (.dup, 1) := by decide +kernel
theorem dK_requireRoom_13 : decode cK_requireRoom 13 = .ok (.ldc 178, 2) := by decide +kernel
theorem dK_requireRoom_15 : decode cK_requireRoom 15 = .ok (.invokespecial 63, 3) := by decide +kernel
theorem dK_requireRoom_18 : decode cK_requireRoom 18 = .ok (.athrow, 1) := by decide +kernel
theorem dK_requireRoom_19 : decode cK_requireRoom 19 = .ok (.return_, 1) := by decide +kernel
theorem dK_requireHeight_0 : decode cK_requireHeight 0 = .ok (.aload_n 0, 1) := by decide +kernel
theorem dK_requireHeight_1 : decode cK_requireHeight 1 = .ok (.getfield 71, 3) := by decide +kernel
theorem dK_requireHeight_4 : decode cK_requireHeight 4 = .ok (.iload_n 1, 1) := by decide +kernel
theorem dK_requireHeight_5 : decode cK_requireHeight 5 = .ok (.if_icmp .ge 13, 3) := by decide +kernel
theorem dK_requireHeight_8 : decode cK_requireHeight 8 = .ok (.new 59, 3) := by decide +kernel
theorem dK_requireHeight_11 : decode cK_requireHeight 11 = .ok (.dup, 1) := by decide +kernel
theorem dK_requireHeight_12 : decode cK_requireHeight 12 = .ok (.ldc 180, 2) := by decide +kernel
theorem dK_requireHeight_14 : decode cK_requireHeight 14 = .ok (.invokespecial 63, 3) := by decide +kernel
theorem dK_requireHeight_17 : decode cK_requireHeight 17 = .ok (.athrow, 1) := by decide +kernel
theorem dK_requireHeight_18 : decode cK_requireHeight 18 = .ok (.return_, 1) := by decide +kernel
theorem dK_requireRow_0 : decode cK_requireRow 0 = .ok (.iload_n 1, 1) := by decide +kernel
theorem dK_requireRow_1 : decode cK_requireRow 1 = .ok (.ifCond .lt 21, 3) := by decide +kernel
theorem dK_requireRow_4 : decode cK_requireRow 4 = .ok (.iload_n 1, 1) := by decide +kernel
theorem dK_requireRow_5 : decode cK_requireRow 5 = .ok (.aload_n 0, 1) := by decide +kernel
theorem dK_requireRow_6 : decode cK_requireRow 6 = .ok (.getfield 11, 3) := by decide +kernel
theorem dK_requireRow_9 : decode cK_requireRow 9 = .ok (.aload_n 0, 1) := by decide +kernel
theorem dK_requireRow_10 : decode cK_requireRow 10 = .ok (.getfield 71, 3) := by decide +kernel
theorem dK_requireRow_13 : decode cK_requireRow 13 = .ok (.iconst 1, 1) := by decide +kernel
theorem dK_requireRow_14 : decode cK_requireRow 14 = .ok (.isub, 1) := by decide +kernel
theorem dK_requireRow_15 : decode cK_requireRow 15 = .ok (.aaload, 1) := by decide +kernel
theorem dK_requireRow_16 : decode cK_requireRow 16 = .ok (.invokevirtual 118, 3) := by decide +kernel
theorem dK_requireRow_19 : decode cK_requireRow 19 = .ok (.if_icmp .lt 13, 3) := by decide +kernel
theorem dK_requireRow_22 : decode cK_requireRow 22 = .ok (.new 129, 3) := by decide +kernel
theorem dK_requireRow_25 : decode cK_requireRow 25 = .ok (.dup, 1) := by decide +kernel
theorem dK_requireRow_26 : decode cK_requireRow 26 = .ok (.ldc 182, 2) := by decide +kernel
theorem dK_requireRow_28 : decode cK_requireRow 28 = .ok (.invokespecial 133, 3) := by decide +kernel
theorem dK_requireRow_31 : decode cK_requireRow 31 = .ok (.athrow, 1) := by decide +kernel
theorem dK_requireRow_32 : decode cK_requireRow 32 = .ok (.return_, 1) := by decide +kernel
theorem dK_requireTable_0 : decode cK_requireTable 0 = .ok (.iload_n 0, 1) := by decide +kernel
theorem dK_requireTable_1 : decode cK_requireTable 1 = .ok (.ifCond .lt 8, 3) := by decide +kernel
theorem dK_requireTable_4 : decode cK_requireTable 4 = .ok (.iload_n 0, 1) := by decide +kernel
theorem dK_requireTable_5 : decode cK_requireTable 5 = .ok (.iconst 4, 1) := by decide +kernel
theorem dK_requireTable_6 : decode cK_requireTable 6 = .ok (.if_icmp .lt 13, 3) := by decide +kernel
theorem dK_requireTable_9 : decode cK_requireTable 9 = .ok (.new 46, 3) := by decide +kernel
theorem dK_requireTable_12 : decode cK_requireTable 12 = .ok (.dup, 1) := by decide +kernel
theorem dK_requireTable_13 : decode cK_requireTable 13 = .ok (.ldc 184, 2) := by decide +kernel
theorem dK_requireTable_15 : decode cK_requireTable 15 = .ok (.invokespecial 50, 3) := by decide +kernel
theorem dK_requireTable_18 : decode cK_requireTable 18 = .ok (.athrow, 1) := by decide +kernel
theorem dK_requireTable_19 : decode cK_requireTable 19 = .ok (.return_, 1) := by decide +kernel
theorem dK_requireLimitsKept_0 : decode cK_requireLimitsKept 0 = .ok (.iload_n 0, 1) := by decide +kernel
theorem dK_requireLimitsKept_1 : decode cK_requireLimitsKept 1 = .ok (.ifCond .ne 13, 3) := by decide +kernel
theorem dK_requireLimitsKept_4 : decode cK_requireLimitsKept 4 = .ok (.new 186, 3) := by decide +kernel
theorem dK_requireLimitsKept_7 : decode cK_requireLimitsKept 7 = .ok (.dup, 1) := by decide +kernel
theorem dK_requireLimitsKept_8 : decode cK_requireLimitsKept 8 = .ok (.ldc 188, 2) := by decide +kernel
theorem dK_requireLimitsKept_10 : decode cK_requireLimitsKept 10 = .ok (.invokespecial 190, 3) := by decide +kernel
theorem dK_requireLimitsKept_13 : decode cK_requireLimitsKept 13 = .ok (.athrow, 1) := by decide +kernel
theorem dK_requireLimitsKept_14 : decode cK_requireLimitsKept 14 = .ok (.return_, 1) := by decide +kernel
theorem dK_exceeds_0 : decode cK_exceeds 0 = .ok (.lload_n 0, 1) := by decide +kernel
theorem dK_exceeds_1 : decode cK_exceeds 1 = .ok (.lload_n 2, 1) := by decide +kernel
theorem dK_exceeds_2 : decode cK_exceeds 2 = .ok (.lneg, 1) := by decide +kernel
theorem dK_exceeds_3 : decode cK_exceeds 3 = .ok (.lcmp, 1) := by decide +kernel
theorem dK_exceeds_4 : decode cK_exceeds 4 = .ok (.ifCond .lt 9, 3) := by decide +kernel
theorem dK_exceeds_7 : decode cK_exceeds 7 = .ok (.lload_n 0, 1) := by decide +kernel
theorem dK_exceeds_8 : decode cK_exceeds 8 = .ok (.lload_n 2, 1) := by decide +kernel
theorem dK_exceeds_9 : decode cK_exceeds 9 = .ok (.lcmp, 1) := by decide +kernel
theorem dK_exceeds_10 : decode cK_exceeds 10 = .ok (.ifCond .le 7, 3) := by decide +kernel
theorem dK_exceeds_13 : decode cK_exceeds 13 = .ok (.iconst 1, 1) := by decide +kernel
theorem dK_exceeds_14 : decode cK_exceeds 14 = .ok (.goto 4, 3) := by decide +kernel
theorem dK_exceeds_17 : decode cK_exceeds 17 = .ok (.iconst 0, 1) := by decide +kernel
theorem dK_exceeds_18 : decode cK_exceeds 18 = .ok (.ireturn, 1) := by decide +kernel
theorem dK_commonDivisor_0 : decode cK_commonDivisor 0 = .ok (.lload_n 0, 1) := by decide +kernel
theorem dK_commonDivisor_1 : decode cK_commonDivisor 1 = .ok (.invokestatic 191, 3) := by decide +kernel
theorem dK_commonDivisor_4 : decode cK_commonDivisor 4 = .ok (.lstore 4, 2) := by decide +kernel
theorem dK_commonDivisor_6 : decode cK_commonDivisor 6 = .ok (.lload_n 2, 1) := by decide +kernel
theorem dK_commonDivisor_7 : decode cK_commonDivisor 7 = .ok (.invokestatic 191, 3) := by decide +kernel
theorem dK_commonDivisor_10 : decode cK_commonDivisor 10 = .ok (.lstore 6, 2) := by decide +kernel
theorem dK_commonDivisor_12 : decode cK_commonDivisor 12 = .ok (.iconst 0, 1) := by decide +kernel
theorem dK_commonDivisor_13 : decode cK_commonDivisor 13 = .ok (.istore 8, 2) := by decide +kernel
theorem dK_commonDivisor_15 : decode cK_commonDivisor 15 = .ok (.iload 8, 2) := by decide +kernel
theorem dK_commonDivisor_17 : decode cK_commonDivisor 17 = .ok (.bipush 100, 2) := by decide +kernel
theorem dK_commonDivisor_19 : decode cK_commonDivisor 19 = .ok (.if_icmp .ge 31, 3) := by decide +kernel
theorem dK_commonDivisor_22 : decode cK_commonDivisor 22 = .ok (.lload 6, 2) := by decide +kernel
theorem dK_commonDivisor_24 : decode cK_commonDivisor 24 = .ok (.lconst 0, 1) := by decide +kernel
theorem dK_commonDivisor_25 : decode cK_commonDivisor 25 = .ok (.lcmp, 1) := by decide +kernel
theorem dK_commonDivisor_26 : decode cK_commonDivisor 26 = .ok (.ifCond .eq 24, 3) := by decide +kernel
theorem dK_commonDivisor_29 : decode cK_commonDivisor 29 = .ok (.lload 4, 2) := by decide +kernel
theorem dK_commonDivisor_31 : decode cK_commonDivisor 31 = .ok (.lload 6, 2) := by decide +kernel
theorem dK_commonDivisor_33 : decode cK_commonDivisor 33 = .ok (.lrem, 1) := by decide +kernel
theorem dK_commonDivisor_34 : decode cK_commonDivisor 34 = .ok (.lstore 9, 2) := by decide +kernel
theorem dK_commonDivisor_36 : decode cK_commonDivisor 36 = .ok (.lload 6, 2) := by decide +kernel
theorem dK_commonDivisor_38 : decode cK_commonDivisor 38 = .ok (.lstore 4, 2) := by decide +kernel
theorem dK_commonDivisor_40 : decode cK_commonDivisor 40 = .ok (.lload 9, 2) := by decide +kernel
theorem dK_commonDivisor_42 : decode cK_commonDivisor 42 = .ok (.lstore 6, 2) := by decide +kernel
theorem dK_commonDivisor_44 : decode cK_commonDivisor 44 = .ok (.iinc 8 1, 3) := by decide +kernel
theorem dK_commonDivisor_47 : decode cK_commonDivisor 47 = .ok (.goto (-32), 3) := by decide +kernel
theorem dK_commonDivisor_50 : decode cK_commonDivisor 50 = .ok (.lload 4, 2) := by decide +kernel
theorem dK_commonDivisor_52 : decode cK_commonDivisor 52 = .ok (.lreturn, 1) := by decide +kernel
end
section
theorem dR_init_0 : decode cR_init 0 = .ok (.aload_n 0, 1) := by decide +kernel
theorem dR_init_1 : decode cR_init 1 = .ok (.invokespecial 5, 3) := by decide +kernel
theorem dR_init_4 : decode cR_init 4 = .ok (.aload_n 0, 1) := by decide +kernel
theorem dR_init_5 : decode cR_init 5 = .ok (.bipush 12, 2) := by decide +kernel
theorem dR_init_7 : decode cR_init 7 = .ok (.newarray .int, 2) := by decide +kernel
theorem dR_init_9 : decode cR_init 9 = .ok (.putfield 11, 3) := by decide +kernel
theorem dR_init_12 : decode cR_init 12 = .ok (.aload_n 0, 1) := by decide +kernel
theorem dR_init_13 : decode cR_init 13 = .ok (.sipush 576, 3) := by decide +kernel
theorem dR_init_16 : decode cR_init 16 = .ok (.newarray .int, 2) := by decide +kernel
theorem dR_init_18 : decode cR_init 18 = .ok (.putfield 15, 3) := by decide +kernel
theorem dR_init_21 : decode cR_init 21 = .ok (.return_, 1) := by decide +kernel
theorem dR_clear_0 : decode cR_clear 0 = .ok (.aload_n 0, 1) := by decide +kernel
theorem dR_clear_1 : decode cR_clear 1 = .ok (.iconst 0, 1) := by decide +kernel
theorem dR_clear_2 : decode cR_clear 2 = .ok (.putfield 18, 3) := by decide +kernel
theorem dR_clear_5 : decode cR_clear 5 = .ok (.return_, 1) := by decide +kernel
theorem dR_copy_0 : decode cR_copy 0 = .ok (.aload_n 0, 1) := by decide +kernel
theorem dR_copy_1 : decode cR_copy 1 = .ok (.aload_n 1, 1) := by decide +kernel
theorem dR_copy_2 : decode cR_copy 2 = .ok (.getfield 18, 3) := by decide +kernel
theorem dR_copy_5 : decode cR_copy 5 = .ok (.putfield 18, 3) := by decide +kernel
theorem dR_copy_8 : decode cR_copy 8 = .ok (.iconst 0, 1) := by decide +kernel
theorem dR_copy_9 : decode cR_copy 9 = .ok (.istore_n 2, 1) := by decide +kernel
theorem dR_copy_10 : decode cR_copy 10 = .ok (.iload_n 2, 1) := by decide +kernel
theorem dR_copy_11 : decode cR_copy 11 = .ok (.aload_n 0, 1) := by decide +kernel
theorem dR_copy_12 : decode cR_copy 12 = .ok (.getfield 18, 3) := by decide +kernel
theorem dR_copy_15 : decode cR_copy 15 = .ok (.if_icmp .ge 48, 3) := by decide +kernel
theorem dR_copy_18 : decode cR_copy 18 = .ok (.aload_n 0, 1) := by decide +kernel
theorem dR_copy_19 : decode cR_copy 19 = .ok (.getfield 11, 3) := by decide +kernel
theorem dR_copy_22 : decode cR_copy 22 = .ok (.iload_n 2, 1) := by decide +kernel
theorem dR_copy_23 : decode cR_copy 23 = .ok (.aload_n 1, 1) := by decide +kernel
theorem dR_copy_24 : decode cR_copy 24 = .ok (.getfield 11, 3) := by decide +kernel
theorem dR_copy_27 : decode cR_copy 27 = .ok (.iload_n 2, 1) := by decide +kernel
theorem dR_copy_28 : decode cR_copy 28 = .ok (.iaload, 1) := by decide +kernel
theorem dR_copy_29 : decode cR_copy 29 = .ok (.iastore, 1) := by decide +kernel
theorem dR_copy_30 : decode cR_copy 30 = .ok (.aload_n 1, 1) := by decide +kernel
theorem dR_copy_31 : decode cR_copy 31 = .ok (.getfield 15, 3) := by decide +kernel
theorem dR_copy_34 : decode cR_copy 34 = .ok (.iload_n 2, 1) := by decide +kernel
theorem dR_copy_35 : decode cR_copy 35 = .ok (.bipush 48, 2) := by decide +kernel
theorem dR_copy_37 : decode cR_copy 37 = .ok (.imul, 1) := by decide +kernel
theorem dR_copy_38 : decode cR_copy 38 = .ok (.aload_n 0, 1) := by decide +kernel
theorem dR_copy_39 : decode cR_copy 39 = .ok (.getfield 15, 3) := by decide +kernel
theorem dR_copy_42 : decode cR_copy 42 = .ok (.iload_n 2, 1) := by decide +kernel
theorem dR_copy_43 : decode cR_copy 43 = .ok (.bipush 48, 2) := by decide +kernel
theorem dR_copy_45 : decode cR_copy 45 = .ok (.imul, 1) := by decide +kernel
theorem dR_copy_46 : decode cR_copy 46 = .ok (.aload_n 0, 1) := by decide +kernel
theorem dR_copy_47 : decode cR_copy 47 = .ok (.getfield 11, 3) := by decide +kernel
theorem dR_copy_50 : decode cR_copy 50 = .ok (.iload_n 2, 1) := by decide +kernel
theorem dR_copy_51 : decode cR_copy 51 = .ok (.iaload, 1) := by decide +kernel
theorem dR_copy_52 : decode cR_copy 52 = .ok (.iconst 4, 1) := by decide +kernel
theorem dR_copy_53 : decode cR_copy 53 = .ok (.imul, 1) := by decide +kernel
theorem dR_copy_54 : decode cR_copy 54 = .ok (.invokestatic 22, 3) := by decide +kernel
theorem dR_copy_57 : decode cR_copy 57 = .ok (.iinc 2 1, 3) := by decide +kernel
theorem dR_copy_60 : decode cR_copy 60 = .ok (.goto (-50), 3) := by decide +kernel
theorem dR_copy_63 : decode cR_copy 63 = .ok (.return_, 1) := by decide +kernel
theorem dR_rowCount_0 : decode cR_rowCount 0 = .ok (.aload_n 0, 1) := by decide +kernel
theorem dR_rowCount_1 : decode cR_rowCount 1 = .ok (.getfield 18, 3) := by decide +kernel
theorem dR_rowCount_4 : decode cR_rowCount 4 = .ok (.ireturn, 1) := by decide +kernel
theorem dR_memberCount_0 : decode cR_memberCount 0 = .ok (.aload_n 0, 1) := by decide +kernel
theorem dR_memberCount_1 : decode cR_memberCount 1 = .ok (.getfield 11, 3) := by decide +kernel
theorem dR_memberCount_4 : decode cR_memberCount 4 = .ok (.iload_n 1, 1) := by decide +kernel
theorem dR_memberCount_5 : decode cR_memberCount 5 = .ok (.iaload, 1) := by decide +kernel
theorem dR_memberCount_6 : decode cR_memberCount 6 = .ok (.ireturn, 1) := by decide +kernel
theorem dR_x_0 : decode cR_x 0 = .ok (.aload_n 0, 1) := by decide +kernel
theorem dR_x_1 : decode cR_x 1 = .ok (.getfield 15, 3) := by decide +kernel
theorem dR_x_4 : decode cR_x 4 = .ok (.iload_n 1, 1) := by decide +kernel
theorem dR_x_5 : decode cR_x 5 = .ok (.bipush 48, 2) := by decide +kernel
theorem dR_x_7 : decode cR_x 7 = .ok (.imul, 1) := by decide +kernel
theorem dR_x_8 : decode cR_x 8 = .ok (.iload_n 2, 1) := by decide +kernel
theorem dR_x_9 : decode cR_x 9 = .ok (.iconst 4, 1) := by decide +kernel
theorem dR_x_10 : decode cR_x 10 = .ok (.imul, 1) := by decide +kernel
theorem dR_x_11 : decode cR_x 11 = .ok (.iadd, 1) := by decide +kernel
theorem dR_x_12 : decode cR_x 12 = .ok (.iaload, 1) := by decide +kernel
theorem dR_x_13 : decode cR_x 13 = .ok (.ireturn, 1) := by decide +kernel
theorem dR_y_0 : decode cR_y 0 = .ok (.aload_n 0, 1) := by decide +kernel
theorem dR_y_1 : decode cR_y 1 = .ok (.getfield 15, 3) := by decide +kernel
theorem dR_y_4 : decode cR_y 4 = .ok (.iload_n 1, 1) := by decide +kernel
theorem dR_y_5 : decode cR_y 5 = .ok (.bipush 48, 2) := by decide +kernel
theorem dR_y_7 : decode cR_y 7 = .ok (.imul, 1) := by decide +kernel
theorem dR_y_8 : decode cR_y 8 = .ok (.iload_n 2, 1) := by decide +kernel
theorem dR_y_9 : decode cR_y 9 = .ok (.iconst 4, 1) := by decide +kernel
theorem dR_y_10 : decode cR_y 10 = .ok (.imul, 1) := by decide +kernel
theorem dR_y_11 : decode cR_y 11 = .ok (.iadd, 1) := by decide +kernel
theorem dR_y_12 : decode cR_y 12 = .ok (.iconst 1, 1) := by decide +kernel
theorem dR_y_13 : decode cR_y 13 = .ok (.iadd, 1) := by decide +kernel
theorem dR_y_14 : decode cR_y 14 = .ok (.iaload, 1) := by decide +kernel
theorem dR_y_15 : decode cR_y 15 = .ok (.ireturn, 1) := by decide +kernel
theorem dR_bound_0 : decode cR_bound 0 = .ok (.aload_n 0, 1) := by decide +kernel
theorem dR_bound_1 : decode cR_bound 1 = .ok (.getfield 15, 3) := by decide +kernel
theorem dR_bound_4 : decode cR_bound 4 = .ok (.iload_n 1, 1) := by decide +kernel
theorem dR_bound_5 : decode cR_bound 5 = .ok (.bipush 48, 2) := by decide +kernel
theorem dR_bound_7 : decode cR_bound 7 = .ok (.imul, 1) := by decide +kernel
theorem dR_bound_8 : decode cR_bound 8 = .ok (.iload_n 2, 1) := by decide +kernel
theorem dR_bound_9 : decode cR_bound 9 = .ok (.iconst 4, 1) := by decide +kernel
theorem dR_bound_10 : decode cR_bound 10 = .ok (.imul, 1) := by decide +kernel
theorem dR_bound_11 : decode cR_bound 11 = .ok (.iadd, 1) := by decide +kernel
theorem dR_bound_12 : decode cR_bound 12 = .ok (.iconst 2, 1) := by decide +kernel
theorem dR_bound_13 : decode cR_bound 13 = .ok (.iadd, 1) := by decide +kernel
theorem dR_bound_14 : decode cR_bound 14 = .ok (.iaload, 1) := by decide +kernel
theorem dR_bound_15 : decode cR_bound 15 = .ok (.ireturn, 1) := by decide +kernel
theorem dR_isStrict_0 : decode cR_isStrict 0 = .ok (.aload_n 0, 1) := by decide +kernel
theorem dR_isStrict_1 : decode cR_isStrict 1 = .ok (.getfield 15, 3) := by decide +kernel
theorem dR_isStrict_4 : decode cR_isStrict 4 = .ok (.iload_n 1, 1) := by decide +kernel
theorem dR_isStrict_5 : decode cR_isStrict 5 = .ok (.bipush 48, 2) := by decide +kernel
theorem dR_isStrict_7 : decode cR_isStrict 7 = .ok (.imul, 1) := by decide +kernel
theorem dR_isStrict_8 : decode cR_isStrict 8 = .ok (.iload_n 2, 1) := by decide +kernel
theorem dR_isStrict_9 : decode cR_isStrict 9 = .ok (.iconst 4, 1) := by decide +kernel
theorem dR_isStrict_10 : decode cR_isStrict 10 = .ok (.imul, 1) := by decide +kernel
theorem dR_isStrict_11 : decode cR_isStrict 11 = .ok (.iadd, 1) := by decide +kernel
theorem dR_isStrict_12 : decode cR_isStrict 12 = .ok (.iconst 3, 1) := by decide +kernel
theorem dR_isStrict_13 : decode cR_isStrict 13 = .ok (.iadd, 1) := by decide +kernel
theorem dR_isStrict_14 : decode cR_isStrict 14 = .ok (.iaload, 1) := by decide +kernel
theorem dR_isStrict_15 : decode cR_isStrict 15 = .ok (.iconst 1, 1) := by decide +kernel
theorem dR_isStrict_16 : decode cR_isStrict 16 = .ok (.if_icmp .ne 7, 3) := by decide +kernel
theorem dR_isStrict_19 : decode cR_isStrict 19 = .ok (.iconst 1, 1) := by decide +kernel
theorem dR_isStrict_20 : decode cR_isStrict 20 = .ok (.goto 4, 3) := by decide +kernel
theorem dR_isStrict_23 : decode cR_isStrict 23 = .ok (.iconst 0, 1) := by decide +kernel
theorem dR_isStrict_24 : decode cR_isStrict 24 = .ok (.ireturn, 1) := by decide +kernel
theorem dR_admit_0 : decode cR_admit 0 = .ok (.aload_n 1, 1) := by decide +kernel
theorem dR_admit_1 : decode cR_admit 1 = .ok (.invokevirtual 28, 3) := by decide +kernel
theorem dR_admit_4 : decode cR_admit 4 = .ok (.ifCond .ne 5, 3) := by decide +kernel
theorem dR_admit_7 : decode cR_admit 7 = .ok (.iconst 1, 1) := by decide +kernel
theorem dR_admit_8 : decode cR_admit 8 = .ok (.ireturn, 1) := by decide +kernel
theorem dR_admit_9 : decode cR_admit 9 = .ok (.aload_n 1, 1) := by decide +kernel
theorem dR_admit_10 : decode cR_admit 10 = .ok (.invokevirtual 34, 3) := by decide +kernel
theorem dR_admit_13 : decode cR_admit 13 = .ok (.aload_n 1, 1) := by decide +kernel
theorem dR_admit_14 : decode cR_admit 14 = .ok (.invokevirtual 37, 3) := by decide +kernel
theorem dR_admit_17 : decode cR_admit 17 = .ok (.ifCond .ne 5, 3) := by decide +kernel
theorem dR_admit_20 : decode cR_admit 20 = .ok (.iconst 0, 1) := by decide +kernel
theorem dR_admit_21 : decode cR_admit 21 = .ok (.ireturn, 1) := by decide +kernel
theorem dR_admit_22 : decode cR_admit 22 = .ok (.aload_n 0, 1) := by decide +kernel
theorem dR_admit_23 : decode cR_admit 23 = .ok (.aload_n 1, 1) := by decide +kernel
theorem dR_admit_24 : decode cR_admit 24 = .ok (.invokevirtual 40, 3) := by decide +kernel
theorem dR_admit_27 : decode cR_admit 27 = .ok (.ifCond .eq 5, 3) := by decide +kernel
theorem dR_admit_30 : decode cR_admit 30 = .ok (.iconst 1, 1) := by decide +kernel
theorem dR_admit_31 : decode cR_admit 31 = .ok (.ireturn, 1) := by decide +kernel
theorem dR_admit_32 : decode cR_admit 32 = .ok (.aload_n 0, 1) := by decide +kernel
theorem dR_admit_33 : decode cR_admit 33 = .ok (.getfield 18, 3) := by decide +kernel
theorem dR_admit_36 : decode cR_admit 36 = .ok (.bipush 12, 2) := by decide +kernel
theorem dR_admit_38 : decode cR_admit 38 = .ok (.if_icmp .lt 5, 3) := by decide +kernel
theorem dR_admit_41 : decode cR_admit 41 = .ok (.iconst 0, 1) := by decide +kernel
theorem dR_admit_42 : decode cR_admit 42 = .ok (.ireturn, 1) := by decide +kernel
theorem dR_admit_43 : decode cR_admit 43 = .ok (.aload_n 0, 1) := by decide +kernel
theorem dR_admit_44 : decode cR_admit 44 = .ok (.aload_n 1, 1) := by decide +kernel
theorem dR_admit_45 : decode cR_admit 45 = .ok (.invokevirtual 44, 3) := by decide +kernel
theorem dR_admit_48 : decode cR_admit 48 = .ok (.iconst 1, 1) := by decide +kernel
theorem dR_admit_49 : decode cR_admit 49 = .ok (.ireturn, 1) := by decide +kernel
theorem dR_contains_0 : decode cR_contains 0 = .ok (.iconst 0, 1) := by decide +kernel
theorem dR_contains_1 : decode cR_contains 1 = .ok (.istore_n 2, 1) := by decide +kernel
theorem dR_contains_2 : decode cR_contains 2 = .ok (.iload_n 2, 1) := by decide +kernel
theorem dR_contains_3 : decode cR_contains 3 = .ok (.aload_n 0, 1) := by decide +kernel
theorem dR_contains_4 : decode cR_contains 4 = .ok (.getfield 18, 3) := by decide +kernel
theorem dR_contains_7 : decode cR_contains 7 = .ok (.if_icmp .ge 20, 3) := by decide +kernel
theorem dR_contains_10 : decode cR_contains 10 = .ok (.aload_n 0, 1) := by decide +kernel
theorem dR_contains_11 : decode cR_contains 11 = .ok (.iload_n 2, 1) := by decide +kernel
theorem dR_contains_12 : decode cR_contains 12 = .ok (.aload_n 1, 1) := by decide +kernel
theorem dR_contains_13 : decode cR_contains 13 = .ok (.invokevirtual 48, 3) := by decide +kernel
theorem dR_contains_16 : decode cR_contains 16 = .ok (.ifCond .eq 5, 3) := by decide +kernel
theorem dR_contains_19 : decode cR_contains 19 = .ok (.iconst 1, 1) := by decide +kernel
theorem dR_contains_20 : decode cR_contains 20 = .ok (.ireturn, 1) := by decide +kernel
theorem dR_contains_21 : decode cR_contains 21 = .ok (.iinc 2 1, 3) := by decide +kernel
theorem dR_contains_24 : decode cR_contains 24 = .ok (.goto (-22), 3) := by decide +kernel
theorem dR_contains_27 : decode cR_contains 27 = .ok (.iconst 0, 1) := by decide +kernel
theorem dR_contains_28 : decode cR_contains 28 = .ok (.ireturn, 1) := by decide +kernel
theorem dR_isSame_0 : decode cR_isSame 0 = .ok (.aload_n 0, 1) := by decide +kernel
theorem dR_isSame_1 : decode cR_isSame 1 = .ok (.getfield 11, 3) := by decide +kernel
theorem dR_isSame_4 : decode cR_isSame 4 = .ok (.iload_n 1, 1) := by decide +kernel
theorem dR_isSame_5 : decode cR_isSame 5 = .ok (.iaload, 1) := by decide +kernel
theorem dR_isSame_6 : decode cR_isSame 6 = .ok (.aload_n 2, 1) := by decide +kernel
theorem dR_isSame_7 : decode cR_isSame 7 = .ok (.invokevirtual 52, 3) := by decide +kernel
theorem dR_isSame_10 : decode cR_isSame 10 = .ok (.if_icmp .eq 5, 3) := by decide +kernel
theorem dR_isSame_13 : decode cR_isSame 13 = .ok (.iconst 0, 1) := by decide +kernel
theorem dR_isSame_14 : decode cR_isSame 14 = .ok (.ireturn, 1) := by decide +kernel
theorem dR_isSame_15 : decode cR_isSame 15 = .ok (.iconst 0, 1) := by decide +kernel
theorem dR_isSame_16 : decode cR_isSame 16 = .ok (.istore_n 3, 1) := by decide +kernel
theorem dR_isSame_17 : decode cR_isSame 17 = .ok (.iload_n 3, 1) := by decide +kernel
theorem dR_isSame_18 : decode cR_isSame 18 = .ok (.aload_n 0, 1) := by decide +kernel
theorem dR_isSame_19 : decode cR_isSame 19 = .ok (.getfield 11, 3) := by decide +kernel
theorem dR_isSame_22 : decode cR_isSame 22 = .ok (.iload_n 1, 1) := by decide +kernel
theorem dR_isSame_23 : decode cR_isSame 23 = .ok (.iaload, 1) := by decide +kernel
theorem dR_isSame_24 : decode cR_isSame 24 = .ok (.if_icmp .ge 73, 3) := by decide +kernel
theorem dR_isSame_27 : decode cR_isSame 27 = .ok (.aload_n 0, 1) := by decide +kernel
theorem dR_isSame_28 : decode cR_isSame 28 = .ok (.iload_n 1, 1) := by decide +kernel
theorem dR_isSame_29 : decode cR_isSame 29 = .ok (.iload_n 3, 1) := by decide +kernel
theorem dR_isSame_30 : decode cR_isSame 30 = .ok (.invokevirtual 56, 3) := by decide +kernel
theorem dR_isSame_33 : decode cR_isSame 33 = .ok (.i2l, 1) := by decide +kernel
theorem dR_isSame_34 : decode cR_isSame 34 = .ok (.aload_n 2, 1) := by decide +kernel
theorem dR_isSame_35 : decode cR_isSame 35 = .ok (.iload_n 3, 1) := by decide +kernel
theorem dR_isSame_36 : decode cR_isSame 36 = .ok (.invokevirtual 60, 3) := by decide +kernel
theorem dR_isSame_39 : decode cR_isSame 39 = .ok (.lcmp, 1) := by decide +kernel
theorem dR_isSame_40 : decode cR_isSame 40 = .ok (.ifCond .ne 49, 3) := by decide +kernel
theorem dR_isSame_43 : decode cR_isSame 43 = .ok (.aload_n 0, 1) := by decide +kernel
theorem dR_isSame_44 : decode cR_isSame 44 = .ok (.iload_n 1, 1) := by decide +kernel
theorem dR_isSame_45 : decode cR_isSame 45 = .ok (.iload_n 3, 1) := by decide +kernel
theorem dR_isSame_46 : decode cR_isSame 46 = .ok (.invokevirtual 63, 3) := by decide +kernel
theorem dR_isSame_49 : decode cR_isSame 49 = .ok (.i2l, 1) := by decide +kernel
theorem dR_isSame_50 : decode cR_isSame 50 = .ok (.aload_n 2, 1) := by decide +kernel
theorem dR_isSame_51 : decode cR_isSame 51 = .ok (.iload_n 3, 1) := by decide +kernel
theorem dR_isSame_52 : decode cR_isSame 52 = .ok (.invokevirtual 66, 3) := by decide +kernel
theorem dR_isSame_55 : decode cR_isSame 55 = .ok (.lcmp, 1) := by decide +kernel
theorem dR_isSame_56 : decode cR_isSame 56 = .ok (.ifCond .ne 33, 3) := by decide +kernel
theorem dR_isSame_59 : decode cR_isSame 59 = .ok (.aload_n 0, 1) := by decide +kernel
theorem dR_isSame_60 : decode cR_isSame 60 = .ok (.iload_n 1, 1) := by decide +kernel
theorem dR_isSame_61 : decode cR_isSame 61 = .ok (.iload_n 3, 1) := by decide +kernel
theorem dR_isSame_62 : decode cR_isSame 62 = .ok (.invokevirtual 68, 3) := by decide +kernel
theorem dR_isSame_65 : decode cR_isSame 65 = .ok (.i2l, 1) := by decide +kernel
theorem dR_isSame_66 : decode cR_isSame 66 = .ok (.aload_n 2, 1) := by decide +kernel
theorem dR_isSame_67 : decode cR_isSame 67 = .ok (.iload_n 3, 1) := by decide +kernel
theorem dR_isSame_68 : decode cR_isSame 68 = .ok (.invokevirtual 71, 3) := by decide +kernel
theorem dR_isSame_71 : decode cR_isSame 71 = .ok (.lcmp, 1) := by decide +kernel
theorem dR_isSame_72 : decode cR_isSame 72 = .ok (.ifCond .ne 17, 3) := by decide +kernel
theorem dR_isSame_75 : decode cR_isSame 75 = .ok (.aload_n 0, 1) := by decide +kernel
theorem dR_isSame_76 : decode cR_isSame 76 = .ok (.iload_n 1, 1) := by decide +kernel
theorem dR_isSame_77 : decode cR_isSame 77 = .ok (.iload_n 3, 1) := by decide +kernel
theorem dR_isSame_78 : decode cR_isSame 78 = .ok (.invokevirtual 73, 3) := by decide +kernel
theorem dR_isSame_81 : decode cR_isSame 81 = .ok (.aload_n 2, 1) := by decide +kernel
theorem dR_isSame_82 : decode cR_isSame 82 = .ok (.iload_n 3, 1) := by decide +kernel
theorem dR_isSame_83 : decode cR_isSame 83 = .ok (.invokevirtual 77, 3) := by decide +kernel
theorem dR_isSame_86 : decode cR_isSame 86 = .ok (.if_icmp .eq 5, 3) := by decide +kernel
theorem dR_isSame_89 : decode cR_isSame 89 = .ok (.iconst 0, 1) := by decide +kernel
theorem dR_isSame_90 : decode cR_isSame 90 = .ok (.ireturn, 1) := by decide +kernel
theorem dR_isSame_91 : decode cR_isSame 91 = .ok (.iinc 3 1, 3) := by decide +kernel
theorem dR_isSame_94 : decode cR_isSame 94 = .ok (.goto (-77), 3) := by decide +kernel
theorem dR_isSame_97 : decode cR_isSame 97 = .ok (.iconst 1, 1) := by decide +kernel
theorem dR_isSame_98 : decode cR_isSame 98 = .ok (.ireturn, 1) := by decide +kernel
theorem dR_append_0 : decode cR_append 0 = .ok (.aload_n 0, 1) := by decide +kernel
theorem dR_append_1 : decode cR_append 1 = .ok (.getfield 11, 3) := by decide +kernel
theorem dR_append_4 : decode cR_append 4 = .ok (.aload_n 0, 1) := by decide +kernel
theorem dR_append_5 : decode cR_append 5 = .ok (.getfield 18, 3) := by decide +kernel
theorem dR_append_8 : decode cR_append 8 = .ok (.aload_n 1, 1) := by decide +kernel
theorem dR_append_9 : decode cR_append 9 = .ok (.invokevirtual 52, 3) := by decide +kernel
theorem dR_append_12 : decode cR_append 12 = .ok (.iastore, 1) := by decide +kernel
theorem dR_append_13 : decode cR_append 13 = .ok (.iconst 0, 1) := by decide +kernel
theorem dR_append_14 : decode cR_append 14 = .ok (.istore_n 2, 1) := by decide +kernel
theorem dR_append_15 : decode cR_append 15 = .ok (.iload_n 2, 1) := by decide +kernel
theorem dR_append_16 : decode cR_append 16 = .ok (.aload_n 0, 1) := by decide +kernel
theorem dR_append_17 : decode cR_append 17 = .ok (.getfield 11, 3) := by decide +kernel
theorem dR_append_20 : decode cR_append 20 = .ok (.aload_n 0, 1) := by decide +kernel
theorem dR_append_21 : decode cR_append 21 = .ok (.getfield 18, 3) := by decide +kernel
theorem dR_append_24 : decode cR_append 24 = .ok (.iaload, 1) := by decide +kernel
theorem dR_append_25 : decode cR_append 25 = .ok (.if_icmp .ge 82, 3) := by decide +kernel
theorem dR_append_28 : decode cR_append 28 = .ok (.aload_n 0, 1) := by decide +kernel
theorem dR_append_29 : decode cR_append 29 = .ok (.getfield 18, 3) := by decide +kernel
theorem dR_append_32 : decode cR_append 32 = .ok (.bipush 48, 2) := by decide +kernel
theorem dR_append_34 : decode cR_append 34 = .ok (.imul, 1) := by decide +kernel
theorem dR_append_35 : decode cR_append 35 = .ok (.iload_n 2, 1) := by decide +kernel
theorem dR_append_36 : decode cR_append 36 = .ok (.iconst 4, 1) := by decide +kernel
theorem dR_append_37 : decode cR_append 37 = .ok (.imul, 1) := by decide +kernel
theorem dR_append_38 : decode cR_append 38 = .ok (.iadd, 1) := by decide +kernel
theorem dR_append_39 : decode cR_append 39 = .ok (.istore_n 3, 1) := by decide +kernel
theorem dR_append_40 : decode cR_append 40 = .ok (.aload_n 0, 1) := by decide +kernel
theorem dR_append_41 : decode cR_append 41 = .ok (.getfield 15, 3) := by decide +kernel
theorem dR_append_44 : decode cR_append 44 = .ok (.iload_n 3, 1) := by decide +kernel
theorem dR_append_45 : decode cR_append 45 = .ok (.aload_n 1, 1) := by decide +kernel
theorem dR_append_46 : decode cR_append 46 = .ok (.iload_n 2, 1) := by decide +kernel
theorem dR_append_47 : decode cR_append 47 = .ok (.invokevirtual 60, 3) := by decide +kernel
theorem dR_append_50 : decode cR_append 50 = .ok (.l2i, 1) := by decide +kernel
theorem dR_append_51 : decode cR_append 51 = .ok (.iastore, 1) := by decide +kernel
theorem dR_append_52 : decode cR_append 52 = .ok (.aload_n 0, 1) := by decide +kernel
theorem dR_append_53 : decode cR_append 53 = .ok (.getfield 15, 3) := by decide +kernel
theorem dR_append_56 : decode cR_append 56 = .ok (.iload_n 3, 1) := by decide +kernel
theorem dR_append_57 : decode cR_append 57 = .ok (.iconst 1, 1) := by decide +kernel
theorem dR_append_58 : decode cR_append 58 = .ok (.iadd, 1) := by decide +kernel
theorem dR_append_59 : decode cR_append 59 = .ok (.aload_n 1, 1) := by decide +kernel
theorem dR_append_60 : decode cR_append 60 = .ok (.iload_n 2, 1) := by decide +kernel
theorem dR_append_61 : decode cR_append 61 = .ok (.invokevirtual 66, 3) := by decide +kernel
theorem dR_append_64 : decode cR_append 64 = .ok (.l2i, 1) := by decide +kernel
theorem dR_append_65 : decode cR_append 65 = .ok (.iastore, 1) := by decide +kernel
theorem dR_append_66 : decode cR_append 66 = .ok (.aload_n 0, 1) := by decide +kernel
theorem dR_append_67 : decode cR_append 67 = .ok (.getfield 15, 3) := by decide +kernel
theorem dR_append_70 : decode cR_append 70 = .ok (.iload_n 3, 1) := by decide +kernel
theorem dR_append_71 : decode cR_append 71 = .ok (.iconst 2, 1) := by decide +kernel
theorem dR_append_72 : decode cR_append 72 = .ok (.iadd, 1) := by decide +kernel
theorem dR_append_73 : decode cR_append 73 = .ok (.aload_n 1, 1) := by decide +kernel
theorem dR_append_74 : decode cR_append 74 = .ok (.iload_n 2, 1) := by decide +kernel
theorem dR_append_75 : decode cR_append 75 = .ok (.invokevirtual 71, 3) := by decide +kernel
theorem dR_append_78 : decode cR_append 78 = .ok (.l2i, 1) := by decide +kernel
theorem dR_append_79 : decode cR_append 79 = .ok (.iastore, 1) := by decide +kernel
theorem dR_append_80 : decode cR_append 80 = .ok (.aload_n 0, 1) := by decide +kernel
theorem dR_append_81 : decode cR_append 81 = .ok (.getfield 15, 3) := by decide +kernel
theorem dR_append_84 : decode cR_append 84 = .ok (.iload_n 3, 1) := by decide +kernel
theorem dR_append_85 : decode cR_append 85 = .ok (.iconst 3, 1) := by decide +kernel
theorem dR_append_86 : decode cR_append 86 = .ok (.iadd, 1) := by decide +kernel
theorem dR_append_87 : decode cR_append 87 = .ok (.aload_n 1, 1) := by decide +kernel
theorem dR_append_88 : decode cR_append 88 = .ok (.iload_n 2, 1) := by decide +kernel
theorem dR_append_89 : decode cR_append 89 = .ok (.invokevirtual 77, 3) := by decide +kernel
theorem dR_append_92 : decode cR_append 92 = .ok (.ifCond .eq 7, 3) := by decide +kernel
theorem dR_append_95 : decode cR_append 95 = .ok (.iconst 1, 1) := by decide +kernel
theorem dR_append_96 : decode cR_append 96 = .ok (.goto 4, 3) := by decide +kernel
theorem dR_append_99 : decode cR_append 99 = .ok (.iconst 0, 1) := by decide +kernel
theorem dR_append_100 : decode cR_append 100 = .ok (.iastore, 1) := by decide +kernel
theorem dR_append_101 : decode cR_append 101 = .ok (.iinc 2 1, 3) := by decide +kernel
theorem dR_append_104 : decode cR_append 104 = .ok (.goto (-89), 3) := by decide +kernel
theorem dR_append_107 : decode cR_append 107 = .ok (.aload_n 0, 1) := by decide +kernel
theorem dR_append_108 : decode cR_append 108 = .ok (.dup, 1) := by decide +kernel
theorem dR_append_109 : decode cR_append 109 = .ok (.getfield 18, 3) := by decide +kernel
theorem dR_append_112 : decode cR_append 112 = .ok (.iconst 1, 1) := by decide +kernel
theorem dR_append_113 : decode cR_append 113 = .ok (.iadd, 1) := by decide +kernel
theorem dR_append_114 : decode cR_append 114 = .ok (.putfield 18, 3) := by decide +kernel
theorem dR_append_117 : decode cR_append 117 = .ok (.return_, 1) := by decide +kernel
theorem dR_pour_0 : decode cR_pour 0 = .ok (.iconst 0, 1) := by decide +kernel
theorem dR_pour_1 : decode cR_pour 1 = .ok (.istore 4, 2) := by decide +kernel
theorem dR_pour_3 : decode cR_pour 3 = .ok (.iload 4, 2) := by decide +kernel
theorem dR_pour_5 : decode cR_pour 5 = .ok (.iload_n 2, 1) := by decide +kernel
theorem dR_pour_6 : decode cR_pour 6 = .ok (.if_icmp .ge 44, 3) := by decide +kernel
theorem dR_pour_9 : decode cR_pour 9 = .ok (.aload_n 3, 1) := by decide +kernel
theorem dR_pour_10 : decode cR_pour 10 = .ok (.aload_n 0, 1) := by decide +kernel
theorem dR_pour_11 : decode cR_pour 11 = .ok (.iload_n 1, 1) := by decide +kernel
theorem dR_pour_12 : decode cR_pour 12 = .ok (.iload 4, 2) := by decide +kernel
theorem dR_pour_14 : decode cR_pour 14 = .ok (.invokevirtual 56, 3) := by decide +kernel
theorem dR_pour_17 : decode cR_pour 17 = .ok (.i2l, 1) := by decide +kernel
theorem dR_pour_18 : decode cR_pour 18 = .ok (.aload_n 0, 1) := by decide +kernel
theorem dR_pour_19 : decode cR_pour 19 = .ok (.iload_n 1, 1) := by decide +kernel
theorem dR_pour_20 : decode cR_pour 20 = .ok (.iload 4, 2) := by decide +kernel
theorem dR_pour_22 : decode cR_pour 22 = .ok (.invokevirtual 63, 3) := by decide +kernel
theorem dR_pour_25 : decode cR_pour 25 = .ok (.i2l, 1) := by decide +kernel
theorem dR_pour_26 : decode cR_pour 26 = .ok (.aload_n 0, 1) := by decide +kernel
theorem dR_pour_27 : decode cR_pour 27 = .ok (.iload_n 1, 1) := by decide +kernel
theorem dR_pour_28 : decode cR_pour 28 = .ok (.iload 4, 2) := by decide +kernel
theorem dR_pour_30 : decode cR_pour 30 = .ok (.invokevirtual 68, 3) := by decide +kernel
theorem dR_pour_33 : decode cR_pour 33 = .ok (.i2l, 1) := by decide +kernel
theorem dR_pour_34 : decode cR_pour 34 = .ok (.aload_n 0, 1) := by decide +kernel
theorem dR_pour_35 : decode cR_pour 35 = .ok (.iload_n 1, 1) := by decide +kernel
theorem dR_pour_36 : decode cR_pour 36 = .ok (.iload 4, 2) := by decide +kernel
theorem dR_pour_38 : decode cR_pour 38 = .ok (.invokevirtual 73, 3) := by decide +kernel
theorem dR_pour_41 : decode cR_pour 41 = .ok (.invokevirtual 80, 3) := by decide +kernel
theorem dR_pour_44 : decode cR_pour 44 = .ok (.iinc 4 1, 3) := by decide +kernel
theorem dR_pour_47 : decode cR_pour 47 = .ok (.goto (-44), 3) := by decide +kernel
theorem dR_pour_50 : decode cR_pour 50 = .ok (.return_, 1) := by decide +kernel
theorem dR_pourContrary_0 : decode cR_pourContrary 0 = .ok (.aload_n 3, 1) := by decide +kernel
theorem dR_pourContrary_1 : decode cR_pourContrary 1 = .ok (.aload_n 0, 1) := by decide +kernel
theorem dR_pourContrary_2 : decode cR_pourContrary 2 = .ok (.iload_n 1, 1) := by decide +kernel
theorem dR_pourContrary_3 : decode cR_pourContrary 3 = .ok (.iload_n 2, 1) := by decide +kernel
theorem dR_pourContrary_4 : decode cR_pourContrary 4 = .ok (.invokevirtual 56, 3) := by decide +kernel
theorem dR_pourContrary_7 : decode cR_pourContrary 7 = .ok (.ineg, 1) := by decide +kernel
theorem dR_pourContrary_8 : decode cR_pourContrary 8 = .ok (.i2l, 1) := by decide +kernel
theorem dR_pourContrary_9 : decode cR_pourContrary 9 = .ok (.aload_n 0, 1) := by decide +kernel
theorem dR_pourContrary_10 : decode cR_pourContrary 10 = .ok (.iload_n 1, 1) := by decide +kernel
theorem dR_pourContrary_11 : decode cR_pourContrary 11 = .ok (.iload_n 2, 1) := by decide +kernel
theorem dR_pourContrary_12 : decode cR_pourContrary 12 = .ok (.invokevirtual 63, 3) := by decide +kernel
theorem dR_pourContrary_15 : decode cR_pourContrary 15 = .ok (.ineg, 1) := by decide +kernel
theorem dR_pourContrary_16 : decode cR_pourContrary 16 = .ok (.i2l, 1) := by decide +kernel
theorem dR_pourContrary_17 : decode cR_pourContrary 17 = .ok (.aload_n 0, 1) := by decide +kernel
theorem dR_pourContrary_18 : decode cR_pourContrary 18 = .ok (.iload_n 1, 1) := by decide +kernel
theorem dR_pourContrary_19 : decode cR_pourContrary 19 = .ok (.iload_n 2, 1) := by decide +kernel
theorem dR_pourContrary_20 : decode cR_pourContrary 20 = .ok (.invokevirtual 68, 3) := by decide +kernel
theorem dR_pourContrary_23 : decode cR_pourContrary 23 = .ok (.ineg, 1) := by decide +kernel
theorem dR_pourContrary_24 : decode cR_pourContrary 24 = .ok (.i2l, 1) := by decide +kernel
theorem dR_pourContrary_25 : decode cR_pourContrary 25 = .ok (.aload_n 0, 1) := by decide +kernel
theorem dR_pourContrary_26 : decode cR_pourContrary 26 = .ok (.iload_n 1, 1) := by decide +kernel
theorem dR_pourContrary_27 : decode cR_pourContrary 27 = .ok (.iload_n 2, 1) := by decide +kernel
theorem dR_pourContrary_28 : decode cR_pourContrary 28 = .ok (.invokevirtual 73, 3) := by decide +kernel
theorem dR_pourContrary_31 : decode cR_pourContrary 31 = .ok (.ifCond .ne 7, 3) := by decide +kernel
theorem dR_pourContrary_34 : decode cR_pourContrary 34 = .ok (.iconst 1, 1) := by decide +kernel
theorem dR_pourContrary_35 : decode cR_pourContrary 35 = .ok (.goto 4, 3) := by decide +kernel
theorem dR_pourContrary_38 : decode cR_pourContrary 38 = .ok (.iconst 0, 1) := by decide +kernel
theorem dR_pourContrary_39 : decode cR_pourContrary 39 = .ok (.invokevirtual 80, 3) := by decide +kernel
theorem dR_pourContrary_42 : decode cR_pourContrary 42 = .ok (.return_, 1) := by decide +kernel
theorem dR_hasPoint_0 : decode cR_hasPoint 0 = .ok (.iconst 0, 1) := by decide +kernel
theorem dR_hasPoint_1 : decode cR_hasPoint 1 = .ok (.istore 4, 2) := by decide +kernel
theorem dR_hasPoint_3 : decode cR_hasPoint 3 = .ok (.iload 4, 2) := by decide +kernel
theorem dR_hasPoint_5 : decode cR_hasPoint 5 = .ok (.aload_n 0, 1) := by decide +kernel
theorem dR_hasPoint_6 : decode cR_hasPoint 6 = .ok (.getfield 18, 3) := by decide +kernel
theorem dR_hasPoint_9 : decode cR_hasPoint 9 = .ok (.if_icmp .ge 23, 3) := by decide +kernel
theorem dR_hasPoint_12 : decode cR_hasPoint 12 = .ok (.aload_n 0, 1) := by decide +kernel
theorem dR_hasPoint_13 : decode cR_hasPoint 13 = .ok (.iload 4, 2) := by decide +kernel
theorem dR_hasPoint_15 : decode cR_hasPoint 15 = .ok (.iload_n 1, 1) := by decide +kernel
theorem dR_hasPoint_16 : decode cR_hasPoint 16 = .ok (.iload_n 2, 1) := by decide +kernel
theorem dR_hasPoint_17 : decode cR_hasPoint 17 = .ok (.iload_n 3, 1) := by decide +kernel
theorem dR_hasPoint_18 : decode cR_hasPoint 18 = .ok (.invokevirtual 84, 3) := by decide +kernel
theorem dR_hasPoint_21 : decode cR_hasPoint 21 = .ok (.ifCond .eq 5, 3) := by decide +kernel
theorem dR_hasPoint_24 : decode cR_hasPoint 24 = .ok (.iconst 1, 1) := by decide +kernel
theorem dR_hasPoint_25 : decode cR_hasPoint 25 = .ok (.ireturn, 1) := by decide +kernel
theorem dR_hasPoint_26 : decode cR_hasPoint 26 = .ok (.iinc 4 1, 3) := by decide +kernel
theorem dR_hasPoint_29 : decode cR_hasPoint 29 = .ok (.goto (-26), 3) := by decide +kernel
theorem dR_hasPoint_32 : decode cR_hasPoint 32 = .ok (.iconst 0, 1) := by decide +kernel
theorem dR_hasPoint_33 : decode cR_hasPoint 33 = .ok (.ireturn, 1) := by decide +kernel
theorem dR_rowHasPoint_0 : decode cR_rowHasPoint 0 = .ok (.iconst 0, 1) := by decide +kernel
theorem dR_rowHasPoint_1 : decode cR_rowHasPoint 1 = .ok (.istore 5, 2) := by decide +kernel
theorem dR_rowHasPoint_3 : decode cR_rowHasPoint 3 = .ok (.iload 5, 2) := by decide +kernel
theorem dR_rowHasPoint_5 : decode cR_rowHasPoint 5 = .ok (.aload_n 0, 1) := by decide +kernel
theorem dR_rowHasPoint_6 : decode cR_rowHasPoint 6 = .ok (.getfield 11, 3) := by decide +kernel
theorem dR_rowHasPoint_9 : decode cR_rowHasPoint 9 = .ok (.iload_n 1, 1) := by decide +kernel
theorem dR_rowHasPoint_10 : decode cR_rowHasPoint 10 = .ok (.iaload, 1) := by decide +kernel
theorem dR_rowHasPoint_11 : decode cR_rowHasPoint 11 = .ok (.if_icmp .ge 68, 3) := by decide +kernel
theorem dR_rowHasPoint_14 : decode cR_rowHasPoint 14 = .ok (.aload_n 0, 1) := by decide +kernel
theorem dR_rowHasPoint_15 : decode cR_rowHasPoint 15 = .ok (.iload_n 1, 1) := by decide +kernel
theorem dR_rowHasPoint_16 : decode cR_rowHasPoint 16 = .ok (.iload 5, 2) := by decide +kernel
theorem dR_rowHasPoint_18 : decode cR_rowHasPoint 18 = .ok (.invokevirtual 56, 3) := by decide +kernel
theorem dR_rowHasPoint_21 : decode cR_rowHasPoint 21 = .ok (.iload_n 2, 1) := by decide +kernel
theorem dR_rowHasPoint_22 : decode cR_rowHasPoint 22 = .ok (.imul, 1) := by decide +kernel
theorem dR_rowHasPoint_23 : decode cR_rowHasPoint 23 = .ok (.aload_n 0, 1) := by decide +kernel
theorem dR_rowHasPoint_24 : decode cR_rowHasPoint 24 = .ok (.iload_n 1, 1) := by decide +kernel
theorem dR_rowHasPoint_25 : decode cR_rowHasPoint 25 = .ok (.iload 5, 2) := by decide +kernel
theorem dR_rowHasPoint_27 : decode cR_rowHasPoint 27 = .ok (.invokevirtual 63, 3) := by decide +kernel
theorem dR_rowHasPoint_30 : decode cR_rowHasPoint 30 = .ok (.iload_n 3, 1) := by decide +kernel
theorem dR_rowHasPoint_31 : decode cR_rowHasPoint 31 = .ok (.imul, 1) := by decide +kernel
theorem dR_rowHasPoint_32 : decode cR_rowHasPoint 32 = .ok (.iadd, 1) := by decide +kernel
theorem dR_rowHasPoint_33 : decode cR_rowHasPoint 33 = .ok (.istore 6, 2) := by decide +kernel
theorem dR_rowHasPoint_35 : decode cR_rowHasPoint 35 = .ok (.aload_n 0, 1) := by decide +kernel
theorem dR_rowHasPoint_36 : decode cR_rowHasPoint 36 = .ok (.iload_n 1, 1) := by decide +kernel
theorem dR_rowHasPoint_37 : decode cR_rowHasPoint 37 = .ok (.iload 5, 2) := by decide +kernel
theorem dR_rowHasPoint_39 : decode cR_rowHasPoint 39 = .ok (.invokevirtual 68, 3) := by decide +kernel
theorem dR_rowHasPoint_42 : decode cR_rowHasPoint 42 = .ok (.iload 4, 2) := by decide +kernel
theorem dR_rowHasPoint_44 : decode cR_rowHasPoint 44 = .ok (.imul, 1) := by decide +kernel
theorem dR_rowHasPoint_45 : decode cR_rowHasPoint 45 = .ok (.istore 7, 2) := by decide +kernel
theorem dR_rowHasPoint_47 : decode cR_rowHasPoint 47 = .ok (.iload 6, 2) := by decide +kernel
theorem dR_rowHasPoint_49 : decode cR_rowHasPoint 49 = .ok (.iload 7, 2) := by decide +kernel
theorem dR_rowHasPoint_51 : decode cR_rowHasPoint 51 = .ok (.if_icmp .gt 20, 3) := by decide +kernel
theorem dR_rowHasPoint_54 : decode cR_rowHasPoint 54 = .ok (.iload 6, 2) := by decide +kernel
theorem dR_rowHasPoint_56 : decode cR_rowHasPoint 56 = .ok (.iload 7, 2) := by decide +kernel
theorem dR_rowHasPoint_58 : decode cR_rowHasPoint 58 = .ok (.if_icmp .ne 15, 3) := by decide +kernel
theorem dR_rowHasPoint_61 : decode cR_rowHasPoint 61 = .ok (.aload_n 0, 1) := by decide +kernel
theorem dR_rowHasPoint_62 : decode cR_rowHasPoint 62 = .ok (.iload_n 1, 1) := by decide +kernel
theorem dR_rowHasPoint_63 : decode cR_rowHasPoint 63 = .ok (.iload 5, 2) := by decide +kernel
theorem dR_rowHasPoint_65 : decode cR_rowHasPoint 65 = .ok (.invokevirtual 73, 3) := by decide +kernel
theorem dR_rowHasPoint_68 : decode cR_rowHasPoint 68 = .ok (.ifCond .eq 5, 3) := by decide +kernel
theorem dR_rowHasPoint_71 : decode cR_rowHasPoint 71 = .ok (.iconst 0, 1) := by decide +kernel
theorem dR_rowHasPoint_72 : decode cR_rowHasPoint 72 = .ok (.ireturn, 1) := by decide +kernel
theorem dR_rowHasPoint_73 : decode cR_rowHasPoint 73 = .ok (.iinc 5 1, 3) := by decide +kernel
theorem dR_rowHasPoint_76 : decode cR_rowHasPoint 76 = .ok (.goto (-73), 3) := by decide +kernel
theorem dR_rowHasPoint_79 : decode cR_rowHasPoint 79 = .ok (.iconst 1, 1) := by decide +kernel
theorem dR_rowHasPoint_80 : decode cR_rowHasPoint 80 = .ok (.ireturn, 1) := by decide +kernel
end
section
theorem dS_init_0 : decode cS_init 0 = .ok (.aload_n 0, 1) := by decide +kernel
theorem dS_init_1 : decode cS_init 1 = .ok (.invokespecial 1, 3) := by decide +kernel
theorem dS_init_4 : decode cS_init 4 = .ok (.aload_n 0, 1) := by decide +kernel
theorem dS_init_5 : decode cS_init 5 = .ok (.iconst 2, 1) := by decide +kernel
theorem dS_init_6 : decode cS_init 6 = .ok (.newarray .long, 2) := by decide +kernel
theorem dS_init_8 : decode cS_init 8 = .ok (.putfield 7, 3) := by decide +kernel
theorem dS_init_11 : decode cS_init 11 = .ok (.aload_n 0, 1) := by decide +kernel
theorem dS_init_12 : decode cS_init 12 = .ok (.iconst 2, 1) := by decide +kernel
theorem dS_init_13 : decode cS_init 13 = .ok (.newarray .long, 2) := by decide +kernel
theorem dS_init_15 : decode cS_init 15 = .ok (.putfield 13, 3) := by decide +kernel
theorem dS_init_18 : decode cS_init 18 = .ok (.aload_n 0, 1) := by decide +kernel
theorem dS_init_19 : decode cS_init 19 = .ok (.iconst 2, 1) := by decide +kernel
theorem dS_init_20 : decode cS_init 20 = .ok (.newarray .boolean, 2) := by decide +kernel
theorem dS_init_22 : decode cS_init 22 = .ok (.putfield 16, 3) := by decide +kernel
theorem dS_init_25 : decode cS_init 25 = .ok (.return_, 1) := by decide +kernel
theorem dS_reset_0 : decode cS_reset 0 = .ok (.aload_n 0, 1) := by decide +kernel
theorem dS_reset_1 : decode cS_reset 1 = .ok (.getfield 13, 3) := by decide +kernel
theorem dS_reset_4 : decode cS_reset 4 = .ok (.iconst 0, 1) := by decide +kernel
theorem dS_reset_5 : decode cS_reset 5 = .ok (.lconst 0, 1) := by decide +kernel
theorem dS_reset_6 : decode cS_reset 6 = .ok (.lastore, 1) := by decide +kernel
theorem dS_reset_7 : decode cS_reset 7 = .ok (.aload_n 0, 1) := by decide +kernel
theorem dS_reset_8 : decode cS_reset 8 = .ok (.getfield 13, 3) := by decide +kernel
theorem dS_reset_11 : decode cS_reset 11 = .ok (.iconst 1, 1) := by decide +kernel
theorem dS_reset_12 : decode cS_reset 12 = .ok (.lconst 0, 1) := by decide +kernel
theorem dS_reset_13 : decode cS_reset 13 = .ok (.lastore, 1) := by decide +kernel
theorem dS_reset_14 : decode cS_reset 14 = .ok (.return_, 1) := by decide +kernel
theorem dS_narrow_0 : decode cS_narrow 0 = .ok (.lload_n 1, 1) := by decide +kernel
theorem dS_narrow_1 : decode cS_narrow 1 = .ok (.lconst 0, 1) := by decide +kernel
theorem dS_narrow_2 : decode cS_narrow 2 = .ok (.lcmp, 1) := by decide +kernel
theorem dS_narrow_3 : decode cS_narrow 3 = .ok (.ifCond .ne 26, 3) := by decide +kernel
theorem dS_narrow_6 : decode cS_narrow 6 = .ok (.lload_n 3, 1) := by decide +kernel
theorem dS_narrow_7 : decode cS_narrow 7 = .ok (.lconst 0, 1) := by decide +kernel
theorem dS_narrow_8 : decode cS_narrow 8 = .ok (.lcmp, 1) := by decide +kernel
theorem dS_narrow_9 : decode cS_narrow 9 = .ok (.ifCond .gt 14, 3) := by decide +kernel
theorem dS_narrow_12 : decode cS_narrow 12 = .ok (.lload_n 3, 1) := by decide +kernel
theorem dS_narrow_13 : decode cS_narrow 13 = .ok (.lconst 0, 1) := by decide +kernel
theorem dS_narrow_14 : decode cS_narrow 14 = .ok (.lcmp, 1) := by decide +kernel
theorem dS_narrow_15 : decode cS_narrow 15 = .ok (.ifCond .ne 12, 3) := by decide +kernel
theorem dS_narrow_18 : decode cS_narrow 18 = .ok (.iload 5, 2) := by decide +kernel
theorem dS_narrow_20 : decode cS_narrow 20 = .ok (.ifCond .ne 7, 3) := by decide +kernel
theorem dS_narrow_23 : decode cS_narrow 23 = .ok (.iconst 1, 1) := by decide +kernel
theorem dS_narrow_24 : decode cS_narrow 24 = .ok (.goto 4, 3) := by decide +kernel
theorem dS_narrow_27 : decode cS_narrow 27 = .ok (.iconst 0, 1) := by decide +kernel
theorem dS_narrow_28 : decode cS_narrow 28 = .ok (.ireturn, 1) := by decide +kernel
theorem dS_narrow_29 : decode cS_narrow 29 = .ok (.lload_n 1, 1) := by decide +kernel
theorem dS_narrow_30 : decode cS_narrow 30 = .ok (.lconst 0, 1) := by decide +kernel
theorem dS_narrow_31 : decode cS_narrow 31 = .ok (.lcmp, 1) := by decide +kernel
theorem dS_narrow_32 : decode cS_narrow 32 = .ok (.ifCond .le 7, 3) := by decide +kernel
theorem dS_narrow_35 : decode cS_narrow 35 = .ok (.iconst 0, 1) := by decide +kernel
theorem dS_narrow_36 : decode cS_narrow 36 = .ok (.goto 4, 3) := by decide +kernel
theorem dS_narrow_39 : decode cS_narrow 39 = .ok (.iconst 1, 1) := by decide +kernel
theorem dS_narrow_40 : decode cS_narrow 40 = .ok (.istore 6, 2) := by decide +kernel
theorem dS_narrow_42 : decode cS_narrow 42 = .ok (.lload_n 1, 1) := by decide +kernel
theorem dS_narrow_43 : decode cS_narrow 43 = .ok (.lconst 0, 1) := by decide +kernel
theorem dS_narrow_44 : decode cS_narrow 44 = .ok (.lcmp, 1) := by decide +kernel
theorem dS_narrow_45 : decode cS_narrow 45 = .ok (.ifCond .le 7, 3) := by decide +kernel
theorem dS_narrow_48 : decode cS_narrow 48 = .ok (.lload_n 1, 1) := by decide +kernel
theorem dS_narrow_49 : decode cS_narrow 49 = .ok (.goto 5, 3) := by decide +kernel
theorem dS_narrow_52 : decode cS_narrow 52 = .ok (.lload_n 1, 1) := by decide +kernel
theorem dS_narrow_53 : decode cS_narrow 53 = .ok (.lneg, 1) := by decide +kernel
theorem dS_narrow_54 : decode cS_narrow 54 = .ok (.lstore 7, 2) := by decide +kernel
theorem dS_narrow_56 : decode cS_narrow 56 = .ok (.lload_n 3, 1) := by decide +kernel
theorem dS_narrow_57 : decode cS_narrow 57 = .ok (.aload_n 0, 1) := by decide +kernel
theorem dS_narrow_58 : decode cS_narrow 58 = .ok (.getfield 13, 3) := by decide +kernel
theorem dS_narrow_61 : decode cS_narrow 61 = .ok (.iload 6, 2) := by decide +kernel
theorem dS_narrow_63 : decode cS_narrow 63 = .ok (.laload, 1) := by decide +kernel
theorem dS_narrow_64 : decode cS_narrow 64 = .ok (.lmul, 1) := by decide +kernel
theorem dS_narrow_65 : decode cS_narrow 65 = .ok (.lstore 9, 2) := by decide +kernel
theorem dS_narrow_67 : decode cS_narrow 67 = .ok (.aload_n 0, 1) := by decide +kernel
theorem dS_narrow_68 : decode cS_narrow 68 = .ok (.getfield 7, 3) := by decide +kernel
theorem dS_narrow_71 : decode cS_narrow 71 = .ok (.iload 6, 2) := by decide +kernel
theorem dS_narrow_73 : decode cS_narrow 73 = .ok (.laload, 1) := by decide +kernel
theorem dS_narrow_74 : decode cS_narrow 74 = .ok (.lload 7, 2) := by decide +kernel
theorem dS_narrow_76 : decode cS_narrow 76 = .ok (.lmul, 1) := by decide +kernel
theorem dS_narrow_77 : decode cS_narrow 77 = .ok (.lstore 11, 2) := by decide +kernel
theorem dS_narrow_79 : decode cS_narrow 79 = .ok (.aload_n 0, 1) := by decide +kernel
theorem dS_narrow_80 : decode cS_narrow 80 = .ok (.getfield 13, 3) := by decide +kernel
theorem dS_narrow_83 : decode cS_narrow 83 = .ok (.iload 6, 2) := by decide +kernel
theorem dS_narrow_85 : decode cS_narrow 85 = .ok (.laload, 1) := by decide +kernel
theorem dS_narrow_86 : decode cS_narrow 86 = .ok (.lconst 0, 1) := by decide +kernel
theorem dS_narrow_87 : decode cS_narrow 87 = .ok (.lcmp, 1) := by decide +kernel
theorem dS_narrow_88 : decode cS_narrow 88 = .ok (.ifCond .eq 24, 3) := by decide +kernel
theorem dS_narrow_91 : decode cS_narrow 91 = .ok (.lload 9, 2) := by decide +kernel
theorem dS_narrow_93 : decode cS_narrow 93 = .ok (.lload 11, 2) := by decide +kernel
theorem dS_narrow_95 : decode cS_narrow 95 = .ok (.lcmp, 1) := by decide +kernel
theorem dS_narrow_96 : decode cS_narrow 96 = .ok (.ifCond .lt 16, 3) := by decide +kernel
theorem dS_narrow_99 : decode cS_narrow 99 = .ok (.lload 9, 2) := by decide +kernel
theorem dS_narrow_101 : decode cS_narrow 101 = .ok (.lload 11, 2) := by decide +kernel
theorem dS_narrow_103 : decode cS_narrow 103 = .ok (.lcmp, 1) := by decide +kernel
theorem dS_narrow_104 : decode cS_narrow 104 = .ok (.ifCond .ne 34, 3) := by decide +kernel
theorem dS_narrow_107 : decode cS_narrow 107 = .ok (.iload 5, 2) := by decide +kernel
theorem dS_narrow_109 : decode cS_narrow 109 = .ok (.ifCond .eq 29, 3) := by decide +kernel
theorem dS_narrow_112 : decode cS_narrow 112 = .ok (.aload_n 0, 1) := by decide +kernel
theorem dS_narrow_113 : decode cS_narrow 113 = .ok (.getfield 7, 3) := by decide +kernel
theorem dS_narrow_116 : decode cS_narrow 116 = .ok (.iload 6, 2) := by decide +kernel
theorem dS_narrow_118 : decode cS_narrow 118 = .ok (.lload_n 3, 1) := by decide +kernel
theorem dS_narrow_119 : decode cS_narrow 119 = .ok (.lastore, 1) := by decide +kernel
theorem dS_narrow_120 : decode cS_narrow 120 = .ok (.aload_n 0, 1) := by decide +kernel
theorem dS_narrow_121 : decode cS_narrow 121 = .ok (.getfield 13, 3) := by decide +kernel
theorem dS_narrow_124 : decode cS_narrow 124 = .ok (.iload 6, 2) := by decide +kernel
theorem dS_narrow_126 : decode cS_narrow 126 = .ok (.lload 7, 2) := by decide +kernel
theorem dS_narrow_128 : decode cS_narrow 128 = .ok (.lastore, 1) := by decide +kernel
theorem dS_narrow_129 : decode cS_narrow 129 = .ok (.aload_n 0, 1) := by decide +kernel
theorem dS_narrow_130 : decode cS_narrow 130 = .ok (.getfield 16, 3) := by decide +kernel
theorem dS_narrow_133 : decode cS_narrow 133 = .ok (.iload 6, 2) := by decide +kernel
theorem dS_narrow_135 : decode cS_narrow 135 = .ok (.iload 5, 2) := by decide +kernel
theorem dS_narrow_137 : decode cS_narrow 137 = .ok (.bastore, 1) := by decide +kernel
theorem dS_narrow_138 : decode cS_narrow 138 = .ok (.aload_n 0, 1) := by decide +kernel
theorem dS_narrow_139 : decode cS_narrow 139 = .ok (.getfield 13, 3) := by decide +kernel
theorem dS_narrow_142 : decode cS_narrow 142 = .ok (.iconst 0, 1) := by decide +kernel
theorem dS_narrow_143 : decode cS_narrow 143 = .ok (.laload, 1) := by decide +kernel
theorem dS_narrow_144 : decode cS_narrow 144 = .ok (.lconst 0, 1) := by decide +kernel
theorem dS_narrow_145 : decode cS_narrow 145 = .ok (.lcmp, 1) := by decide +kernel
theorem dS_narrow_146 : decode cS_narrow 146 = .ok (.ifCond .eq 14, 3) := by decide +kernel
theorem dS_narrow_149 : decode cS_narrow 149 = .ok (.aload_n 0, 1) := by decide +kernel
theorem dS_narrow_150 : decode cS_narrow 150 = .ok (.getfield 13, 3) := by decide +kernel
theorem dS_narrow_153 : decode cS_narrow 153 = .ok (.iconst 1, 1) := by decide +kernel
theorem dS_narrow_154 : decode cS_narrow 154 = .ok (.laload, 1) := by decide +kernel
theorem dS_narrow_155 : decode cS_narrow 155 = .ok (.lconst 0, 1) := by decide +kernel
theorem dS_narrow_156 : decode cS_narrow 156 = .ok (.lcmp, 1) := by decide +kernel
theorem dS_narrow_157 : decode cS_narrow 157 = .ok (.ifCond .ne 5, 3) := by decide +kernel
theorem dS_narrow_160 : decode cS_narrow 160 = .ok (.iconst 1, 1) := by decide +kernel
theorem dS_narrow_161 : decode cS_narrow 161 = .ok (.ireturn, 1) := by decide +kernel
theorem dS_narrow_162 : decode cS_narrow 162 = .ok (.aload_n 0, 1) := by decide +kernel
theorem dS_narrow_163 : decode cS_narrow 163 = .ok (.getfield 7, 3) := by decide +kernel
theorem dS_narrow_166 : decode cS_narrow 166 = .ok (.iconst 0, 1) := by decide +kernel
theorem dS_narrow_167 : decode cS_narrow 167 = .ok (.laload, 1) := by decide +kernel
theorem dS_narrow_168 : decode cS_narrow 168 = .ok (.aload_n 0, 1) := by decide +kernel
theorem dS_narrow_169 : decode cS_narrow 169 = .ok (.getfield 13, 3) := by decide +kernel
theorem dS_narrow_172 : decode cS_narrow 172 = .ok (.iconst 1, 1) := by decide +kernel
theorem dS_narrow_173 : decode cS_narrow 173 = .ok (.laload, 1) := by decide +kernel
theorem dS_narrow_174 : decode cS_narrow 174 = .ok (.lmul, 1) := by decide +kernel
theorem dS_narrow_175 : decode cS_narrow 175 = .ok (.aload_n 0, 1) := by decide +kernel
theorem dS_narrow_176 : decode cS_narrow 176 = .ok (.getfield 7, 3) := by decide +kernel
theorem dS_narrow_179 : decode cS_narrow 179 = .ok (.iconst 1, 1) := by decide +kernel
theorem dS_narrow_180 : decode cS_narrow 180 = .ok (.laload, 1) := by decide +kernel
theorem dS_narrow_181 : decode cS_narrow 181 = .ok (.aload_n 0, 1) := by decide +kernel
theorem dS_narrow_182 : decode cS_narrow 182 = .ok (.getfield 13, 3) := by decide +kernel
theorem dS_narrow_185 : decode cS_narrow 185 = .ok (.iconst 0, 1) := by decide +kernel
theorem dS_narrow_186 : decode cS_narrow 186 = .ok (.laload, 1) := by decide +kernel
theorem dS_narrow_187 : decode cS_narrow 187 = .ok (.lmul, 1) := by decide +kernel
theorem dS_narrow_188 : decode cS_narrow 188 = .ok (.ladd, 1) := by decide +kernel
theorem dS_narrow_189 : decode cS_narrow 189 = .ok (.lstore 13, 2) := by decide +kernel
theorem dS_narrow_191 : decode cS_narrow 191 = .ok (.lload 13, 2) := by decide +kernel
theorem dS_narrow_193 : decode cS_narrow 193 = .ok (.lconst 0, 1) := by decide +kernel
theorem dS_narrow_194 : decode cS_narrow 194 = .ok (.lcmp, 1) := by decide +kernel
theorem dS_narrow_195 : decode cS_narrow 195 = .ok (.ifCond .gt 28, 3) := by decide +kernel
theorem dS_narrow_198 : decode cS_narrow 198 = .ok (.lload 13, 2) := by decide +kernel
theorem dS_narrow_200 : decode cS_narrow 200 = .ok (.lconst 0, 1) := by decide +kernel
theorem dS_narrow_201 : decode cS_narrow 201 = .ok (.lcmp, 1) := by decide +kernel
theorem dS_narrow_202 : decode cS_narrow 202 = .ok (.ifCond .ne 25, 3) := by decide +kernel
theorem dS_narrow_205 : decode cS_narrow 205 = .ok (.aload_n 0, 1) := by decide +kernel
theorem dS_narrow_206 : decode cS_narrow 206 = .ok (.getfield 16, 3) := by decide +kernel
theorem dS_narrow_209 : decode cS_narrow 209 = .ok (.iconst 0, 1) := by decide +kernel
theorem dS_narrow_210 : decode cS_narrow 210 = .ok (.baload, 1) := by decide +kernel
theorem dS_narrow_211 : decode cS_narrow 211 = .ok (.ifCond .ne 16, 3) := by decide +kernel
theorem dS_narrow_214 : decode cS_narrow 214 = .ok (.aload_n 0, 1) := by decide +kernel
theorem dS_narrow_215 : decode cS_narrow 215 = .ok (.getfield 16, 3) := by decide +kernel
theorem dS_narrow_218 : decode cS_narrow 218 = .ok (.iconst 1, 1) := by decide +kernel
theorem dS_narrow_219 : decode cS_narrow 219 = .ok (.baload, 1) := by decide +kernel
theorem dS_narrow_220 : decode cS_narrow 220 = .ok (.ifCond .ne 7, 3) := by decide +kernel
theorem dS_narrow_223 : decode cS_narrow 223 = .ok (.iconst 1, 1) := by decide +kernel
theorem dS_narrow_224 : decode cS_narrow 224 = .ok (.goto 4, 3) := by decide +kernel
theorem dS_narrow_227 : decode cS_narrow 227 = .ok (.iconst 0, 1) := by decide +kernel
theorem dS_narrow_228 : decode cS_narrow 228 = .ok (.ireturn, 1) := by decide +kernel
end
section
theorem dW_init_0 : decode cW_init 0 = .ok (.aload_n 0, 1) := by decide +kernel
theorem dW_init_1 : decode cW_init 1 = .ok (.invokespecial 1, 3) := by decide +kernel
theorem dW_init_4 : decode cW_init 4 = .ok (.aload_n 0, 1) := by decide +kernel
theorem dW_init_5 : decode cW_init 5 = .ok (.new 7, 3) := by decide +kernel
theorem dW_init_8 : decode cW_init 8 = .ok (.dup, 1) := by decide +kernel
theorem dW_init_9 : decode cW_init 9 = .ok (.invokespecial 9, 3) := by decide +kernel
theorem dW_init_12 : decode cW_init 12 = .ok (.putfield 10, 3) := by decide +kernel
theorem dW_init_15 : decode cW_init 15 = .ok (.aload_n 0, 1) := by decide +kernel
theorem dW_init_16 : decode cW_init 16 = .ok (.new 16, 3) := by decide +kernel
theorem dW_init_19 : decode cW_init 19 = .ok (.dup, 1) := by decide +kernel
theorem dW_init_20 : decode cW_init 20 = .ok (.invokespecial 18, 3) := by decide +kernel
theorem dW_init_23 : decode cW_init 23 = .ok (.putfield 19, 3) := by decide +kernel
theorem dW_init_26 : decode cW_init 26 = .ok (.aload_n 0, 1) := by decide +kernel
theorem dW_init_27 : decode cW_init 27 = .ok (.new 16, 3) := by decide +kernel
theorem dW_init_30 : decode cW_init 30 = .ok (.dup, 1) := by decide +kernel
theorem dW_init_31 : decode cW_init 31 = .ok (.invokespecial 18, 3) := by decide +kernel
theorem dW_init_34 : decode cW_init 34 = .ok (.putfield 23, 3) := by decide +kernel
theorem dW_init_37 : decode cW_init 37 = .ok (.aload_n 0, 1) := by decide +kernel
theorem dW_init_38 : decode cW_init 38 = .ok (.new 16, 3) := by decide +kernel
theorem dW_init_41 : decode cW_init 41 = .ok (.dup, 1) := by decide +kernel
theorem dW_init_42 : decode cW_init 42 = .ok (.invokespecial 18, 3) := by decide +kernel
theorem dW_init_45 : decode cW_init 45 = .ok (.putfield 26, 3) := by decide +kernel
theorem dW_init_48 : decode cW_init 48 = .ok (.return_, 1) := by decide +kernel
theorem dW_result_0 : decode cW_result 0 = .ok (.aload_n 0, 1) := by decide +kernel
theorem dW_result_1 : decode cW_result 1 = .ok (.getfield 23, 3) := by decide +kernel
theorem dW_result_4 : decode cW_result 4 = .ok (.areturn, 1) := by decide +kernel
theorem dW_intersect_0 : decode cW_intersect 0 = .ok (.aload_n 0, 1) := by decide +kernel
theorem dW_intersect_1 : decode cW_intersect 1 = .ok (.getfield 23, 3) := by decide +kernel
theorem dW_intersect_4 : decode cW_intersect 4 = .ok (.invokevirtual 29, 3) := by decide +kernel
theorem dW_intersect_7 : decode cW_intersect 7 = .ok (.iconst 0, 1) := by decide +kernel
theorem dW_intersect_8 : decode cW_intersect 8 = .ok (.istore_n 3, 1) := by decide +kernel
theorem dW_intersect_9 : decode cW_intersect 9 = .ok (.iload_n 3, 1) := by decide +kernel
theorem dW_intersect_10 : decode cW_intersect 10 = .ok (.aload_n 1, 1) := by decide +kernel
theorem dW_intersect_11 : decode cW_intersect 11 = .ok (.invokevirtual 32, 3) := by decide +kernel
theorem dW_intersect_14 : decode cW_intersect 14 = .ok (.if_icmp .ge 80, 3) := by decide +kernel
theorem dW_intersect_17 : decode cW_intersect 17 = .ok (.iconst 0, 1) := by decide +kernel
theorem dW_intersect_18 : decode cW_intersect 18 = .ok (.istore 4, 2) := by decide +kernel
theorem dW_intersect_20 : decode cW_intersect 20 = .ok (.iload 4, 2) := by decide +kernel
theorem dW_intersect_22 : decode cW_intersect 22 = .ok (.aload_n 2, 1) := by decide +kernel
theorem dW_intersect_23 : decode cW_intersect 23 = .ok (.invokevirtual 32, 3) := by decide +kernel
theorem dW_intersect_26 : decode cW_intersect 26 = .ok (.if_icmp .ge 62, 3) := by decide +kernel
theorem dW_intersect_29 : decode cW_intersect 29 = .ok (.aload_n 0, 1) := by decide +kernel
theorem dW_intersect_30 : decode cW_intersect 30 = .ok (.getfield 10, 3) := by decide +kernel
theorem dW_intersect_33 : decode cW_intersect 33 = .ok (.invokevirtual 36, 3) := by decide +kernel
theorem dW_intersect_36 : decode cW_intersect 36 = .ok (.aload_n 1, 1) := by decide +kernel
theorem dW_intersect_37 : decode cW_intersect 37 = .ok (.iload_n 3, 1) := by decide +kernel
theorem dW_intersect_38 : decode cW_intersect 38 = .ok (.aload_n 1, 1) := by decide +kernel
theorem dW_intersect_39 : decode cW_intersect 39 = .ok (.iload_n 3, 1) := by decide +kernel
theorem dW_intersect_40 : decode cW_intersect 40 = .ok (.invokevirtual 37, 3) := by decide +kernel
theorem dW_intersect_43 : decode cW_intersect 43 = .ok (.aload_n 0, 1) := by decide +kernel
theorem dW_intersect_44 : decode cW_intersect 44 = .ok (.getfield 10, 3) := by decide +kernel
theorem dW_intersect_47 : decode cW_intersect 47 = .ok (.invokevirtual 41, 3) := by decide +kernel
theorem dW_intersect_50 : decode cW_intersect 50 = .ok (.aload_n 2, 1) := by decide +kernel
theorem dW_intersect_51 : decode cW_intersect 51 = .ok (.iload 4, 2) := by decide +kernel
theorem dW_intersect_53 : decode cW_intersect 53 = .ok (.aload_n 2, 1) := by decide +kernel
theorem dW_intersect_54 : decode cW_intersect 54 = .ok (.iload 4, 2) := by decide +kernel
theorem dW_intersect_56 : decode cW_intersect 56 = .ok (.invokevirtual 37, 3) := by decide +kernel
theorem dW_intersect_59 : decode cW_intersect 59 = .ok (.aload_n 0, 1) := by decide +kernel
theorem dW_intersect_60 : decode cW_intersect 60 = .ok (.getfield 10, 3) := by decide +kernel
theorem dW_intersect_63 : decode cW_intersect 63 = .ok (.invokevirtual 41, 3) := by decide +kernel
theorem dW_intersect_66 : decode cW_intersect 66 = .ok (.aload_n 0, 1) := by decide +kernel
theorem dW_intersect_67 : decode cW_intersect 67 = .ok (.getfield 23, 3) := by decide +kernel
theorem dW_intersect_70 : decode cW_intersect 70 = .ok (.aload_n 0, 1) := by decide +kernel
theorem dW_intersect_71 : decode cW_intersect 71 = .ok (.getfield 10, 3) := by decide +kernel
theorem dW_intersect_74 : decode cW_intersect 74 = .ok (.invokevirtual 45, 3) := by decide +kernel
theorem dW_intersect_77 : decode cW_intersect 77 = .ok (.ifCond .ne 5, 3) := by decide +kernel
theorem dW_intersect_80 : decode cW_intersect 80 = .ok (.iconst 0, 1) := by decide +kernel
theorem dW_intersect_81 : decode cW_intersect 81 = .ok (.ireturn, 1) := by decide +kernel
theorem dW_intersect_82 : decode cW_intersect 82 = .ok (.iinc 4 1, 3) := by decide +kernel
theorem dW_intersect_85 : decode cW_intersect 85 = .ok (.goto (-65), 3) := by decide +kernel
theorem dW_intersect_88 : decode cW_intersect 88 = .ok (.iinc 3 1, 3) := by decide +kernel
theorem dW_intersect_91 : decode cW_intersect 91 = .ok (.goto (-82), 3) := by decide +kernel
theorem dW_intersect_94 : decode cW_intersect 94 = .ok (.iconst 1, 1) := by decide +kernel
theorem dW_intersect_95 : decode cW_intersect 95 = .ok (.ireturn, 1) := by decide +kernel
theorem dW_unite_0 : decode cW_unite 0 = .ok (.aload_n 0, 1) := by decide +kernel
theorem dW_unite_1 : decode cW_unite 1 = .ok (.getfield 23, 3) := by decide +kernel
theorem dW_unite_4 : decode cW_unite 4 = .ok (.aload_n 1, 1) := by decide +kernel
theorem dW_unite_5 : decode cW_unite 5 = .ok (.invokevirtual 49, 3) := by decide +kernel
theorem dW_unite_8 : decode cW_unite 8 = .ok (.iconst 0, 1) := by decide +kernel
theorem dW_unite_9 : decode cW_unite 9 = .ok (.istore_n 3, 1) := by decide +kernel
theorem dW_unite_10 : decode cW_unite 10 = .ok (.iload_n 3, 1) := by decide +kernel
theorem dW_unite_11 : decode cW_unite 11 = .ok (.aload_n 2, 1) := by decide +kernel
theorem dW_unite_12 : decode cW_unite 12 = .ok (.invokevirtual 32, 3) := by decide +kernel
theorem dW_unite_15 : decode cW_unite 15 = .ok (.if_icmp .ge 46, 3) := by decide +kernel
theorem dW_unite_18 : decode cW_unite 18 = .ok (.aload_n 0, 1) := by decide +kernel
theorem dW_unite_19 : decode cW_unite 19 = .ok (.getfield 10, 3) := by decide +kernel
theorem dW_unite_22 : decode cW_unite 22 = .ok (.invokevirtual 36, 3) := by decide +kernel
theorem dW_unite_25 : decode cW_unite 25 = .ok (.aload_n 2, 1) := by decide +kernel
theorem dW_unite_26 : decode cW_unite 26 = .ok (.iload_n 3, 1) := by decide +kernel
theorem dW_unite_27 : decode cW_unite 27 = .ok (.aload_n 2, 1) := by decide +kernel
theorem dW_unite_28 : decode cW_unite 28 = .ok (.iload_n 3, 1) := by decide +kernel
theorem dW_unite_29 : decode cW_unite 29 = .ok (.invokevirtual 37, 3) := by decide +kernel
theorem dW_unite_32 : decode cW_unite 32 = .ok (.aload_n 0, 1) := by decide +kernel
theorem dW_unite_33 : decode cW_unite 33 = .ok (.getfield 10, 3) := by decide +kernel
theorem dW_unite_36 : decode cW_unite 36 = .ok (.invokevirtual 41, 3) := by decide +kernel
theorem dW_unite_39 : decode cW_unite 39 = .ok (.aload_n 0, 1) := by decide +kernel
theorem dW_unite_40 : decode cW_unite 40 = .ok (.getfield 23, 3) := by decide +kernel
theorem dW_unite_43 : decode cW_unite 43 = .ok (.aload_n 0, 1) := by decide +kernel
theorem dW_unite_44 : decode cW_unite 44 = .ok (.getfield 10, 3) := by decide +kernel
theorem dW_unite_47 : decode cW_unite 47 = .ok (.invokevirtual 45, 3) := by decide +kernel
theorem dW_unite_50 : decode cW_unite 50 = .ok (.ifCond .ne 5, 3) := by decide +kernel
theorem dW_unite_53 : decode cW_unite 53 = .ok (.iconst 0, 1) := by decide +kernel
theorem dW_unite_54 : decode cW_unite 54 = .ok (.ireturn, 1) := by decide +kernel
theorem dW_unite_55 : decode cW_unite 55 = .ok (.iinc 3 1, 3) := by decide +kernel
theorem dW_unite_58 : decode cW_unite 58 = .ok (.goto (-48), 3) := by decide +kernel
theorem dW_unite_61 : decode cW_unite 61 = .ok (.iconst 1, 1) := by decide +kernel
theorem dW_unite_62 : decode cW_unite 62 = .ok (.ireturn, 1) := by decide +kernel
theorem dW_complement_0 : decode cW_complement 0 = .ok (.aload_n 0, 1) := by decide +kernel
theorem dW_complement_1 : decode cW_complement 1 = .ok (.getfield 23, 3) := by decide +kernel
theorem dW_complement_4 : decode cW_complement 4 = .ok (.invokevirtual 29, 3) := by decide +kernel
theorem dW_complement_7 : decode cW_complement 7 = .ok (.aload_n 0, 1) := by decide +kernel
theorem dW_complement_8 : decode cW_complement 8 = .ok (.getfield 10, 3) := by decide +kernel
theorem dW_complement_11 : decode cW_complement 11 = .ok (.invokevirtual 36, 3) := by decide +kernel
theorem dW_complement_14 : decode cW_complement 14 = .ok (.aload_n 0, 1) := by decide +kernel
theorem dW_complement_15 : decode cW_complement 15 = .ok (.getfield 23, 3) := by decide +kernel
theorem dW_complement_18 : decode cW_complement 18 = .ok (.aload_n 0, 1) := by decide +kernel
theorem dW_complement_19 : decode cW_complement 19 = .ok (.getfield 10, 3) := by decide +kernel
theorem dW_complement_22 : decode cW_complement 22 = .ok (.invokevirtual 45, 3) := by decide +kernel
theorem dW_complement_25 : decode cW_complement 25 = .ok (.pop, 1) := by decide +kernel
theorem dW_complement_26 : decode cW_complement 26 = .ok (.iconst 0, 1) := by decide +kernel
theorem dW_complement_27 : decode cW_complement 27 = .ok (.istore_n 2, 1) := by decide +kernel
theorem dW_complement_28 : decode cW_complement 28 = .ok (.iload_n 2, 1) := by decide +kernel
theorem dW_complement_29 : decode cW_complement 29 = .ok (.aload_n 1, 1) := by decide +kernel
theorem dW_complement_30 : decode cW_complement 30 = .ok (.invokevirtual 32, 3) := by decide +kernel
theorem dW_complement_33 : decode cW_complement 33 = .ok (.if_icmp .ge 32, 3) := by decide +kernel
theorem dW_complement_36 : decode cW_complement 36 = .ok (.aload_n 0, 1) := by decide +kernel
theorem dW_complement_37 : decode cW_complement 37 = .ok (.aload_n 1, 1) := by decide +kernel
theorem dW_complement_38 : decode cW_complement 38 = .ok (.iload_n 2, 1) := by decide +kernel
theorem dW_complement_39 : decode cW_complement 39 = .ok (.invokevirtual 53, 3) := by decide +kernel
theorem dW_complement_42 : decode cW_complement 42 = .ok (.aload_n 0, 1) := by decide +kernel
theorem dW_complement_43 : decode cW_complement 43 = .ok (.aload_n 0, 1) := by decide +kernel
theorem dW_complement_44 : decode cW_complement 44 = .ok (.invokevirtual 57, 3) := by decide +kernel
theorem dW_complement_47 : decode cW_complement 47 = .ok (.aload_n 0, 1) := by decide +kernel
theorem dW_complement_48 : decode cW_complement 48 = .ok (.getfield 19, 3) := by decide +kernel
theorem dW_complement_51 : decode cW_complement 51 = .ok (.invokevirtual 61, 3) := by decide +kernel
theorem dW_complement_54 : decode cW_complement 54 = .ok (.ifCond .ne 5, 3) := by decide +kernel
theorem dW_complement_57 : decode cW_complement 57 = .ok (.iconst 0, 1) := by decide +kernel
theorem dW_complement_58 : decode cW_complement 58 = .ok (.ireturn, 1) := by decide +kernel
theorem dW_complement_59 : decode cW_complement 59 = .ok (.iinc 2 1, 3) := by decide +kernel
theorem dW_complement_62 : decode cW_complement 62 = .ok (.goto (-34), 3) := by decide +kernel
theorem dW_complement_65 : decode cW_complement 65 = .ok (.iconst 1, 1) := by decide +kernel
theorem dW_complement_66 : decode cW_complement 66 = .ok (.ireturn, 1) := by decide +kernel
theorem dW_setAside_0 : decode cW_setAside 0 = .ok (.aload_n 0, 1) := by decide +kernel
theorem dW_setAside_1 : decode cW_setAside 1 = .ok (.getfield 26, 3) := by decide +kernel
theorem dW_setAside_4 : decode cW_setAside 4 = .ok (.astore_n 1, 1) := by decide +kernel
theorem dW_setAside_5 : decode cW_setAside 5 = .ok (.aload_n 0, 1) := by decide +kernel
theorem dW_setAside_6 : decode cW_setAside 6 = .ok (.aload_n 0, 1) := by decide +kernel
theorem dW_setAside_7 : decode cW_setAside 7 = .ok (.getfield 23, 3) := by decide +kernel
theorem dW_setAside_10 : decode cW_setAside 10 = .ok (.putfield 26, 3) := by decide +kernel
theorem dW_setAside_13 : decode cW_setAside 13 = .ok (.aload_n 0, 1) := by decide +kernel
theorem dW_setAside_14 : decode cW_setAside 14 = .ok (.aload_n 1, 1) := by decide +kernel
theorem dW_setAside_15 : decode cW_setAside 15 = .ok (.putfield 23, 3) := by decide +kernel
theorem dW_setAside_18 : decode cW_setAside 18 = .ok (.aload_n 0, 1) := by decide +kernel
theorem dW_setAside_19 : decode cW_setAside 19 = .ok (.getfield 26, 3) := by decide +kernel
theorem dW_setAside_22 : decode cW_setAside 22 = .ok (.areturn, 1) := by decide +kernel
theorem dW_cut_0 : decode cW_cut 0 = .ok (.aload_n 0, 1) := by decide +kernel
theorem dW_cut_1 : decode cW_cut 1 = .ok (.getfield 19, 3) := by decide +kernel
theorem dW_cut_4 : decode cW_cut 4 = .ok (.invokevirtual 29, 3) := by decide +kernel
theorem dW_cut_7 : decode cW_cut 7 = .ok (.iconst 0, 1) := by decide +kernel
theorem dW_cut_8 : decode cW_cut 8 = .ok (.istore_n 3, 1) := by decide +kernel
theorem dW_cut_9 : decode cW_cut 9 = .ok (.iload_n 3, 1) := by decide +kernel
theorem dW_cut_10 : decode cW_cut 10 = .ok (.aload_n 1, 1) := by decide +kernel
theorem dW_cut_11 : decode cW_cut 11 = .ok (.iload_n 2, 1) := by decide +kernel
theorem dW_cut_12 : decode cW_cut 12 = .ok (.invokevirtual 37, 3) := by decide +kernel
theorem dW_cut_15 : decode cW_cut 15 = .ok (.if_icmp .ge 48, 3) := by decide +kernel
theorem dW_cut_18 : decode cW_cut 18 = .ok (.aload_n 0, 1) := by decide +kernel
theorem dW_cut_19 : decode cW_cut 19 = .ok (.getfield 10, 3) := by decide +kernel
theorem dW_cut_22 : decode cW_cut 22 = .ok (.invokevirtual 36, 3) := by decide +kernel
theorem dW_cut_25 : decode cW_cut 25 = .ok (.aload_n 1, 1) := by decide +kernel
theorem dW_cut_26 : decode cW_cut 26 = .ok (.iload_n 2, 1) := by decide +kernel
theorem dW_cut_27 : decode cW_cut 27 = .ok (.iload_n 3, 1) := by decide +kernel
theorem dW_cut_28 : decode cW_cut 28 = .ok (.aload_n 0, 1) := by decide +kernel
theorem dW_cut_29 : decode cW_cut 29 = .ok (.getfield 10, 3) := by decide +kernel
theorem dW_cut_32 : decode cW_cut 32 = .ok (.invokevirtual 65, 3) := by decide +kernel
theorem dW_cut_35 : decode cW_cut 35 = .ok (.aload_n 1, 1) := by decide +kernel
theorem dW_cut_36 : decode cW_cut 36 = .ok (.iload_n 2, 1) := by decide +kernel
theorem dW_cut_37 : decode cW_cut 37 = .ok (.iload_n 3, 1) := by decide +kernel
theorem dW_cut_38 : decode cW_cut 38 = .ok (.aload_n 0, 1) := by decide +kernel
theorem dW_cut_39 : decode cW_cut 39 = .ok (.getfield 10, 3) := by decide +kernel
theorem dW_cut_42 : decode cW_cut 42 = .ok (.invokevirtual 41, 3) := by decide +kernel
theorem dW_cut_45 : decode cW_cut 45 = .ok (.aload_n 0, 1) := by decide +kernel
theorem dW_cut_46 : decode cW_cut 46 = .ok (.getfield 19, 3) := by decide +kernel
theorem dW_cut_49 : decode cW_cut 49 = .ok (.aload_n 0, 1) := by decide +kernel
theorem dW_cut_50 : decode cW_cut 50 = .ok (.getfield 10, 3) := by decide +kernel
theorem dW_cut_53 : decode cW_cut 53 = .ok (.invokevirtual 45, 3) := by decide +kernel
theorem dW_cut_56 : decode cW_cut 56 = .ok (.pop, 1) := by decide +kernel
theorem dW_cut_57 : decode cW_cut 57 = .ok (.iinc 3 1, 3) := by decide +kernel
theorem dW_cut_60 : decode cW_cut 60 = .ok (.goto (-51), 3) := by decide +kernel
theorem dW_cut_63 : decode cW_cut 63 = .ok (.return_, 1) := by decide +kernel
theorem dW_project_0 : decode cW_project 0 = .ok (.aload_n 0, 1) := by decide +kernel
theorem dW_project_1 : decode cW_project 1 = .ok (.getfield 23, 3) := by decide +kernel
theorem dW_project_4 : decode cW_project 4 = .ok (.invokevirtual 29, 3) := by decide +kernel
theorem dW_project_7 : decode cW_project 7 = .ok (.iconst 0, 1) := by decide +kernel
theorem dW_project_8 : decode cW_project 8 = .ok (.istore_n 3, 1) := by decide +kernel
theorem dW_project_9 : decode cW_project 9 = .ok (.iload_n 3, 1) := by decide +kernel
theorem dW_project_10 : decode cW_project 10 = .ok (.aload_n 1, 1) := by decide +kernel
theorem dW_project_11 : decode cW_project 11 = .ok (.invokevirtual 32, 3) := by decide +kernel
theorem dW_project_14 : decode cW_project 14 = .ok (.if_icmp .ge 60, 3) := by decide +kernel
theorem dW_project_17 : decode cW_project 17 = .ok (.aload_n 0, 1) := by decide +kernel
theorem dW_project_18 : decode cW_project 18 = .ok (.getfield 10, 3) := by decide +kernel
theorem dW_project_21 : decode cW_project 21 = .ok (.invokevirtual 36, 3) := by decide +kernel
theorem dW_project_24 : decode cW_project 24 = .ok (.iconst 0, 1) := by decide +kernel
theorem dW_project_25 : decode cW_project 25 = .ok (.istore 4, 2) := by decide +kernel
theorem dW_project_27 : decode cW_project 27 = .ok (.iload 4, 2) := by decide +kernel
theorem dW_project_29 : decode cW_project 29 = .ok (.aload_n 1, 1) := by decide +kernel
theorem dW_project_30 : decode cW_project 30 = .ok (.iload_n 3, 1) := by decide +kernel
theorem dW_project_31 : decode cW_project 31 = .ok (.invokevirtual 37, 3) := by decide +kernel
theorem dW_project_34 : decode cW_project 34 = .ok (.if_icmp .ge 18, 3) := by decide +kernel
theorem dW_project_37 : decode cW_project 37 = .ok (.aload_n 0, 1) := by decide +kernel
theorem dW_project_38 : decode cW_project 38 = .ok (.aload_n 1, 1) := by decide +kernel
theorem dW_project_39 : decode cW_project 39 = .ok (.iload_n 3, 1) := by decide +kernel
theorem dW_project_40 : decode cW_project 40 = .ok (.iload 4, 2) := by decide +kernel
theorem dW_project_42 : decode cW_project 42 = .ok (.iload_n 2, 1) := by decide +kernel
theorem dW_project_43 : decode cW_project 43 = .ok (.invokevirtual 68, 3) := by decide +kernel
theorem dW_project_46 : decode cW_project 46 = .ok (.iinc 4 1, 3) := by decide +kernel
theorem dW_project_49 : decode cW_project 49 = .ok (.goto (-22), 3) := by decide +kernel
theorem dW_project_52 : decode cW_project 52 = .ok (.aload_n 0, 1) := by decide +kernel
theorem dW_project_53 : decode cW_project 53 = .ok (.getfield 23, 3) := by decide +kernel
theorem dW_project_56 : decode cW_project 56 = .ok (.aload_n 0, 1) := by decide +kernel
theorem dW_project_57 : decode cW_project 57 = .ok (.getfield 10, 3) := by decide +kernel
theorem dW_project_60 : decode cW_project 60 = .ok (.invokevirtual 45, 3) := by decide +kernel
theorem dW_project_63 : decode cW_project 63 = .ok (.ifCond .ne 5, 3) := by decide +kernel
theorem dW_project_66 : decode cW_project 66 = .ok (.iconst 0, 1) := by decide +kernel
theorem dW_project_67 : decode cW_project 67 = .ok (.ireturn, 1) := by decide +kernel
theorem dW_project_68 : decode cW_project 68 = .ok (.iinc 3 1, 3) := by decide +kernel
theorem dW_project_71 : decode cW_project 71 = .ok (.goto (-62), 3) := by decide +kernel
theorem dW_project_74 : decode cW_project 74 = .ok (.iconst 1, 1) := by decide +kernel
theorem dW_project_75 : decode cW_project 75 = .ok (.ireturn, 1) := by decide +kernel
theorem dW_eliminate_0 : decode cW_eliminate 0 = .ok (.aload_n 1, 1) := by decide +kernel
theorem dW_eliminate_1 : decode cW_eliminate 1 = .ok (.iload_n 2, 1) := by decide +kernel
theorem dW_eliminate_2 : decode cW_eliminate 2 = .ok (.iload_n 3, 1) := by decide +kernel
theorem dW_eliminate_3 : decode cW_eliminate 3 = .ok (.iload 4, 2) := by decide +kernel
theorem dW_eliminate_5 : decode cW_eliminate 5 = .ok (.invokestatic 72, 3) := by decide +kernel
theorem dW_eliminate_8 : decode cW_eliminate 8 = .ok (.lstore 5, 2) := by decide +kernel
theorem dW_eliminate_10 : decode cW_eliminate 10 = .ok (.lload 5, 2) := by decide +kernel
theorem dW_eliminate_12 : decode cW_eliminate 12 = .ok (.lconst 0, 1) := by decide +kernel
theorem dW_eliminate_13 : decode cW_eliminate 13 = .ok (.lcmp, 1) := by decide +kernel
theorem dW_eliminate_14 : decode cW_eliminate 14 = .ok (.ifCond .ne 37, 3) := by decide +kernel
theorem dW_eliminate_17 : decode cW_eliminate 17 = .ok (.aload_n 0, 1) := by decide +kernel
theorem dW_eliminate_18 : decode cW_eliminate 18 = .ok (.getfield 10, 3) := by decide +kernel
theorem dW_eliminate_21 : decode cW_eliminate 21 = .ok (.aload_n 1, 1) := by decide +kernel
theorem dW_eliminate_22 : decode cW_eliminate 22 = .ok (.iload_n 2, 1) := by decide +kernel
theorem dW_eliminate_23 : decode cW_eliminate 23 = .ok (.iload_n 3, 1) := by decide +kernel
theorem dW_eliminate_24 : decode cW_eliminate 24 = .ok (.invokevirtual 76, 3) := by decide +kernel
theorem dW_eliminate_27 : decode cW_eliminate 27 = .ok (.i2l, 1) := by decide +kernel
theorem dW_eliminate_28 : decode cW_eliminate 28 = .ok (.aload_n 1, 1) := by decide +kernel
theorem dW_eliminate_29 : decode cW_eliminate 29 = .ok (.iload_n 2, 1) := by decide +kernel
theorem dW_eliminate_30 : decode cW_eliminate 30 = .ok (.iload_n 3, 1) := by decide +kernel
theorem dW_eliminate_31 : decode cW_eliminate 31 = .ok (.invokevirtual 80, 3) := by decide +kernel
theorem dW_eliminate_34 : decode cW_eliminate 34 = .ok (.i2l, 1) := by decide +kernel
theorem dW_eliminate_35 : decode cW_eliminate 35 = .ok (.aload_n 1, 1) := by decide +kernel
theorem dW_eliminate_36 : decode cW_eliminate 36 = .ok (.iload_n 2, 1) := by decide +kernel
theorem dW_eliminate_37 : decode cW_eliminate 37 = .ok (.iload_n 3, 1) := by decide +kernel
theorem dW_eliminate_38 : decode cW_eliminate 38 = .ok (.invokevirtual 83, 3) := by decide +kernel
theorem dW_eliminate_41 : decode cW_eliminate 41 = .ok (.i2l, 1) := by decide +kernel
theorem dW_eliminate_42 : decode cW_eliminate 42 = .ok (.aload_n 1, 1) := by decide +kernel
theorem dW_eliminate_43 : decode cW_eliminate 43 = .ok (.iload_n 2, 1) := by decide +kernel
theorem dW_eliminate_44 : decode cW_eliminate 44 = .ok (.iload_n 3, 1) := by decide +kernel
theorem dW_eliminate_45 : decode cW_eliminate 45 = .ok (.invokevirtual 86, 3) := by decide +kernel
theorem dW_eliminate_48 : decode cW_eliminate 48 = .ok (.invokevirtual 90, 3) := by decide +kernel
theorem dW_eliminate_51 : decode cW_eliminate 51 = .ok (.lload 5, 2) := by decide +kernel
theorem dW_eliminate_53 : decode cW_eliminate 53 = .ok (.lconst 0, 1) := by decide +kernel
theorem dW_eliminate_54 : decode cW_eliminate 54 = .ok (.lcmp, 1) := by decide +kernel
theorem dW_eliminate_55 : decode cW_eliminate 55 = .ok (.ifCond .gt 4, 3) := by decide +kernel
theorem dW_eliminate_58 : decode cW_eliminate 58 = .ok (.return_, 1) := by decide +kernel
theorem dW_eliminate_59 : decode cW_eliminate 59 = .ok (.iconst 0, 1) := by decide +kernel
theorem dW_eliminate_60 : decode cW_eliminate 60 = .ok (.istore 7, 2) := by decide +kernel
theorem dW_eliminate_62 : decode cW_eliminate 62 = .ok (.iload 7, 2) := by decide +kernel
theorem dW_eliminate_64 : decode cW_eliminate 64 = .ok (.aload_n 1, 1) := by decide +kernel
theorem dW_eliminate_65 : decode cW_eliminate 65 = .ok (.iload_n 2, 1) := by decide +kernel
theorem dW_eliminate_66 : decode cW_eliminate 66 = .ok (.invokevirtual 37, 3) := by decide +kernel
theorem dW_eliminate_69 : decode cW_eliminate 69 = .ok (.if_icmp .ge 125, 3) := by decide +kernel
theorem dW_eliminate_72 : decode cW_eliminate 72 = .ok (.aload_n 1, 1) := by decide +kernel
theorem dW_eliminate_73 : decode cW_eliminate 73 = .ok (.iload_n 2, 1) := by decide +kernel
theorem dW_eliminate_74 : decode cW_eliminate 74 = .ok (.iload 7, 2) := by decide +kernel
theorem dW_eliminate_76 : decode cW_eliminate 76 = .ok (.iload 4, 2) := by decide +kernel
theorem dW_eliminate_78 : decode cW_eliminate 78 = .ok (.invokestatic 72, 3) := by decide +kernel
theorem dW_eliminate_81 : decode cW_eliminate 81 = .ok (.lneg, 1) := by decide +kernel
theorem dW_eliminate_82 : decode cW_eliminate 82 = .ok (.lstore 8, 2) := by decide +kernel
theorem dW_eliminate_84 : decode cW_eliminate 84 = .ok (.lload 8, 2) := by decide +kernel
theorem dW_eliminate_86 : decode cW_eliminate 86 = .ok (.lconst 0, 1) := by decide +kernel
theorem dW_eliminate_87 : decode cW_eliminate 87 = .ok (.lcmp, 1) := by decide +kernel
theorem dW_eliminate_88 : decode cW_eliminate 88 = .ok (.ifCond .le 100, 3) := by decide +kernel
theorem dW_eliminate_91 : decode cW_eliminate 91 = .ok (.aload_n 0, 1) := by decide +kernel
theorem dW_eliminate_92 : decode cW_eliminate 92 = .ok (.getfield 10, 3) := by decide +kernel
theorem dW_eliminate_95 : decode cW_eliminate 95 = .ok (.lload 8, 2) := by decide +kernel
theorem dW_eliminate_97 : decode cW_eliminate 97 = .ok (.aload_n 1, 1) := by decide +kernel
theorem dW_eliminate_98 : decode cW_eliminate 98 = .ok (.iload_n 2, 1) := by decide +kernel
theorem dW_eliminate_99 : decode cW_eliminate 99 = .ok (.iload_n 3, 1) := by decide +kernel
theorem dW_eliminate_100 : decode cW_eliminate 100 = .ok (.invokevirtual 76, 3) := by decide +kernel
theorem dW_eliminate_103 : decode cW_eliminate 103 = .ok (.i2l, 1) := by decide +kernel
theorem dW_eliminate_104 : decode cW_eliminate 104 = .ok (.lmul, 1) := by decide +kernel
theorem dW_eliminate_105 : decode cW_eliminate 105 = .ok (.lload 5, 2) := by decide +kernel
theorem dW_eliminate_107 : decode cW_eliminate 107 = .ok (.aload_n 1, 1) := by decide +kernel
theorem dW_eliminate_108 : decode cW_eliminate 108 = .ok (.iload_n 2, 1) := by decide +kernel
theorem dW_eliminate_109 : decode cW_eliminate 109 = .ok (.iload 7, 2) := by decide +kernel
theorem dW_eliminate_111 : decode cW_eliminate 111 = .ok (.invokevirtual 76, 3) := by decide +kernel
theorem dW_eliminate_114 : decode cW_eliminate 114 = .ok (.i2l, 1) := by decide +kernel
theorem dW_eliminate_115 : decode cW_eliminate 115 = .ok (.lmul, 1) := by decide +kernel
theorem dW_eliminate_116 : decode cW_eliminate 116 = .ok (.ladd, 1) := by decide +kernel
theorem dW_eliminate_117 : decode cW_eliminate 117 = .ok (.lload 8, 2) := by decide +kernel
theorem dW_eliminate_119 : decode cW_eliminate 119 = .ok (.aload_n 1, 1) := by decide +kernel
theorem dW_eliminate_120 : decode cW_eliminate 120 = .ok (.iload_n 2, 1) := by decide +kernel
theorem dW_eliminate_121 : decode cW_eliminate 121 = .ok (.iload_n 3, 1) := by decide +kernel
theorem dW_eliminate_122 : decode cW_eliminate 122 = .ok (.invokevirtual 80, 3) := by decide +kernel
theorem dW_eliminate_125 : decode cW_eliminate 125 = .ok (.i2l, 1) := by decide +kernel
theorem dW_eliminate_126 : decode cW_eliminate 126 = .ok (.lmul, 1) := by decide +kernel
theorem dW_eliminate_127 : decode cW_eliminate 127 = .ok (.lload 5, 2) := by decide +kernel
theorem dW_eliminate_129 : decode cW_eliminate 129 = .ok (.aload_n 1, 1) := by decide +kernel
theorem dW_eliminate_130 : decode cW_eliminate 130 = .ok (.iload_n 2, 1) := by decide +kernel
theorem dW_eliminate_131 : decode cW_eliminate 131 = .ok (.iload 7, 2) := by decide +kernel
theorem dW_eliminate_133 : decode cW_eliminate 133 = .ok (.invokevirtual 80, 3) := by decide +kernel
theorem dW_eliminate_136 : decode cW_eliminate 136 = .ok (.i2l, 1) := by decide +kernel
theorem dW_eliminate_137 : decode cW_eliminate 137 = .ok (.lmul, 1) := by decide +kernel
theorem dW_eliminate_138 : decode cW_eliminate 138 = .ok (.ladd, 1) := by decide +kernel
theorem dW_eliminate_139 : decode cW_eliminate 139 = .ok (.lload 8, 2) := by decide +kernel
theorem dW_eliminate_141 : decode cW_eliminate 141 = .ok (.aload_n 1, 1) := by decide +kernel
theorem dW_eliminate_142 : decode cW_eliminate 142 = .ok (.iload_n 2, 1) := by decide +kernel
theorem dW_eliminate_143 : decode cW_eliminate 143 = .ok (.iload_n 3, 1) := by decide +kernel
theorem dW_eliminate_144 : decode cW_eliminate 144 = .ok (.invokevirtual 83, 3) := by decide +kernel
theorem dW_eliminate_147 : decode cW_eliminate 147 = .ok (.i2l, 1) := by decide +kernel
theorem dW_eliminate_148 : decode cW_eliminate 148 = .ok (.lmul, 1) := by decide +kernel
theorem dW_eliminate_149 : decode cW_eliminate 149 = .ok (.lload 5, 2) := by decide +kernel
theorem dW_eliminate_151 : decode cW_eliminate 151 = .ok (.aload_n 1, 1) := by decide +kernel
theorem dW_eliminate_152 : decode cW_eliminate 152 = .ok (.iload_n 2, 1) := by decide +kernel
theorem dW_eliminate_153 : decode cW_eliminate 153 = .ok (.iload 7, 2) := by decide +kernel
theorem dW_eliminate_155 : decode cW_eliminate 155 = .ok (.invokevirtual 83, 3) := by decide +kernel
theorem dW_eliminate_158 : decode cW_eliminate 158 = .ok (.i2l, 1) := by decide +kernel
theorem dW_eliminate_159 : decode cW_eliminate 159 = .ok (.lmul, 1) := by decide +kernel
theorem dW_eliminate_160 : decode cW_eliminate 160 = .ok (.ladd, 1) := by decide +kernel
theorem dW_eliminate_161 : decode cW_eliminate 161 = .ok (.aload_n 1, 1) := by decide +kernel
theorem dW_eliminate_162 : decode cW_eliminate 162 = .ok (.iload_n 2, 1) := by decide +kernel
theorem dW_eliminate_163 : decode cW_eliminate 163 = .ok (.iload_n 3, 1) := by decide +kernel
theorem dW_eliminate_164 : decode cW_eliminate 164 = .ok (.invokevirtual 86, 3) := by decide +kernel
theorem dW_eliminate_167 : decode cW_eliminate 167 = .ok (.ifCond .ne 13, 3) := by decide +kernel
theorem dW_eliminate_170 : decode cW_eliminate 170 = .ok (.aload_n 1, 1) := by decide +kernel
theorem dW_eliminate_171 : decode cW_eliminate 171 = .ok (.iload_n 2, 1) := by decide +kernel
theorem dW_eliminate_172 : decode cW_eliminate 172 = .ok (.iload 7, 2) := by decide +kernel
theorem dW_eliminate_174 : decode cW_eliminate 174 = .ok (.invokevirtual 86, 3) := by decide +kernel
theorem dW_eliminate_177 : decode cW_eliminate 177 = .ok (.ifCond .eq 7, 3) := by decide +kernel
theorem dW_eliminate_180 : decode cW_eliminate 180 = .ok (.iconst 1, 1) := by decide +kernel
theorem dW_eliminate_181 : decode cW_eliminate 181 = .ok (.goto 4, 3) := by decide +kernel
theorem dW_eliminate_184 : decode cW_eliminate 184 = .ok (.iconst 0, 1) := by decide +kernel
theorem dW_eliminate_185 : decode cW_eliminate 185 = .ok (.invokevirtual 90, 3) := by decide +kernel
theorem dW_eliminate_188 : decode cW_eliminate 188 = .ok (.iinc 7 1, 3) := by decide +kernel
theorem dW_eliminate_191 : decode cW_eliminate 191 = .ok (.goto (-129), 3) := by decide +kernel
theorem dW_eliminate_194 : decode cW_eliminate 194 = .ok (.return_, 1) := by decide +kernel
theorem dW_entry_0 : decode cW_entry 0 = .ok (.iload_n 3, 1) := by decide +kernel
theorem dW_entry_1 : decode cW_entry 1 = .ok (.ifCond .ne 13, 3) := by decide +kernel
theorem dW_entry_4 : decode cW_entry 4 = .ok (.aload_n 0, 1) := by decide +kernel
theorem dW_entry_5 : decode cW_entry 5 = .ok (.iload_n 1, 1) := by decide +kernel
theorem dW_entry_6 : decode cW_entry 6 = .ok (.iload_n 2, 1) := by decide +kernel
theorem dW_entry_7 : decode cW_entry 7 = .ok (.invokevirtual 76, 3) := by decide +kernel
theorem dW_entry_10 : decode cW_entry 10 = .ok (.i2l, 1) := by decide +kernel
theorem dW_entry_11 : decode cW_entry 11 = .ok (.goto 10, 3) := by decide +kernel
theorem dW_entry_14 : decode cW_entry 14 = .ok (.aload_n 0, 1) := by decide +kernel
theorem dW_entry_15 : decode cW_entry 15 = .ok (.iload_n 1, 1) := by decide +kernel
theorem dW_entry_16 : decode cW_entry 16 = .ok (.iload_n 2, 1) := by decide +kernel
theorem dW_entry_17 : decode cW_entry 17 = .ok (.invokevirtual 80, 3) := by decide +kernel
theorem dW_entry_20 : decode cW_entry 20 = .ok (.i2l, 1) := by decide +kernel
theorem dW_entry_21 : decode cW_entry 21 = .ok (.lreturn, 1) := by decide +kernel
end
section
theorem gfK_11 : zFld RK 11 5 0 4 := ⟨RK, TK, 7, rfl, by decide, rfl, inK, jfK_11, rfl⟩
theorem gfK_15 : zFld RK 15 5 1 5 := ⟨RK, TK, 7, rfl, by decide, rfl, inK, jfK_15, rfl⟩
theorem gfK_21 : zFld RK 21 5 2 6 := ⟨RK, TK, 7, rfl, by decide, rfl, inK, jfK_21, rfl⟩
theorem gfK_28 : zFld RK 28 5 3 15 := ⟨RK, TK, 7, rfl, by decide, rfl, inK, jfK_28, rfl⟩
theorem gfK_35 : zFld RK 35 5 4 34 := ⟨RK, TK, 7, rfl, by decide, rfl, inK, jfK_35, rfl⟩
theorem gfK_55 : zFld RK 55 5 6 0 := ⟨RK, TK, 7, rfl, by decide, rfl, inK, jfK_55, rfl⟩
theorem gpK_55 : zPut RK 55 5 6 0 .int := ⟨RK, TK, 7, tyK, rfl, by decide, rfl, inK, jfK_55, rfl, okK, nmK, rfl, by decide +kernel⟩
theorem gfK_71 : zFld RK 71 5 5 0 := ⟨RK, TK, 7, rfl, by decide, rfl, inK, jfK_71, rfl⟩
theorem gpK_71 : zPut RK 71 5 5 0 .int := ⟨RK, TK, 7, tyK, rfl, by decide, rfl, inK, jfK_71, rfl, okK, nmK, rfl, by decide +kernel⟩
theorem gfD_11 : zFld RD 11 0 0 4 := ⟨RD, TD, 6, rfl, by decide, rfl, inD, jfD_11, rfl⟩
theorem gfD_15 : zFld RD 15 0 1 5 := ⟨RD, TD, 6, rfl, by decide, rfl, inD, jfD_15, rfl⟩
theorem gfD_18 : zFld RD 18 0 2 6 := ⟨RD, TD, 6, rfl, by decide, rfl, inD, jfD_18, rfl⟩
theorem gfD_21 : zFld RD 21 0 3 7 := ⟨RD, TD, 6, rfl, by decide, rfl, inD, jfD_21, rfl⟩
theorem gfD_28 : zFld RD 28 0 4 8 := ⟨RD, TD, 6, rfl, by decide, rfl, inD, jfD_28, rfl⟩
theorem gfD_32 : zFld RD 32 0 5 0 := ⟨RD, TD, 6, rfl, by decide, rfl, inD, jfD_32, rfl⟩
theorem gpD_32 : zPut RD 32 0 5 0 .int := ⟨RD, TD, 6, tyD, rfl, by decide, rfl, inD, jfD_32, rfl, okD, nmD, rfl, by decide +kernel⟩
theorem gfI_9 : zFld RI 9 1 0 1 := ⟨RI, TI, 6, rfl, by decide, rfl, inI, jfI_9, rfl⟩
theorem gpI_9 : zPut RI 9 1 0 1 .long := ⟨RI, TI, 6, tyI, rfl, by decide, rfl, inI, jfI_9, rfl, okI, nmI, rfl, by decide +kernel⟩
theorem gfI_15 : zFld RI 15 1 1 1 := ⟨RI, TI, 6, rfl, by decide, rfl, inI, jfI_15, rfl⟩
theorem gpI_15 : zPut RI 15 1 1 1 .long := ⟨RI, TI, 6, tyI, rfl, by decide, rfl, inI, jfI_15, rfl, okI, nmI, rfl, by decide +kernel⟩
theorem gfI_31 : zFld RI 31 1 4 1 := ⟨RI, TI, 6, rfl, by decide, rfl, inI, jfI_31, rfl⟩
theorem gpI_31 : zPut RI 31 1 4 1 .long := ⟨RI, TI, 6, tyI, rfl, by decide, rfl, inI, jfI_31, rfl, okI, nmI, rfl, by decide +kernel⟩
theorem gfI_40 : zFld RI 40 1 2 0 := ⟨RI, TI, 6, rfl, by decide, rfl, inI, jfI_40, rfl⟩
theorem gpI_40 : zPut RI 40 1 2 0 .boolean := ⟨RI, TI, 6, tyI, rfl, by decide, rfl, inI, jfI_40, rfl, okI, nmI, rfl, by decide +kernel⟩
theorem gfI_44 : zFld RI 44 1 3 1 := ⟨RI, TI, 6, rfl, by decide, rfl, inI, jfI_44, rfl⟩
theorem gpI_44 : zPut RI 44 1 3 1 .long := ⟨RI, TI, 6, tyI, rfl, by decide, rfl, inI, jfI_44, rfl, okI, nmI, rfl, by decide +kernel⟩
theorem gfI_47 : zFld RI 47 1 5 0 := ⟨RI, TI, 6, rfl, by decide, rfl, inI, jfI_47, rfl⟩
theorem gpI_47 : zPut RI 47 1 5 0 .boolean := ⟨RI, TI, 6, tyI, rfl, by decide, rfl, inI, jfI_47, rfl, okI, nmI, rfl, by decide +kernel⟩
theorem gfR_11 : zFld RR 11 2 0 4 := ⟨RR, TR, 3, rfl, by decide, rfl, inR, jfR_11, rfl⟩
theorem gfR_15 : zFld RR 15 2 1 5 := ⟨RR, TR, 3, rfl, by decide, rfl, inR, jfR_15, rfl⟩
theorem gfR_18 : zFld RR 18 2 2 0 := ⟨RR, TR, 3, rfl, by decide, rfl, inR, jfR_18, rfl⟩
theorem gpR_18 : zPut RR 18 2 2 0 .int := ⟨RR, TR, 3, tyR, rfl, by decide, rfl, inR, jfR_18, rfl, okR, nmR, rfl, by decide +kernel⟩
theorem gfS_7 : zFld RS 7 3 0 4 := ⟨RS, TS, 3, rfl, by decide, rfl, inS, jfS_7, rfl⟩
theorem gfS_13 : zFld RS 13 3 1 5 := ⟨RS, TS, 3, rfl, by decide, rfl, inS, jfS_13, rfl⟩
theorem gfS_16 : zFld RS 16 3 2 6 := ⟨RS, TS, 3, rfl, by decide, rfl, inS, jfS_16, rfl⟩
theorem gfW_10 : zFld RW 10 4 0 4 := ⟨RW, TW, 4, rfl, by decide, rfl, inW, jfW_10, rfl⟩
theorem gfW_19 : zFld RW 19 4 1 13 := ⟨RW, TW, 4, rfl, by decide, rfl, inW, jfW_19, rfl⟩
theorem gfW_23 : zFld RW 23 4 2 2 := ⟨RW, TW, 4, rfl, by decide, rfl, inW, jfW_23, rfl⟩
theorem gpW_23 : zPut RW 23 4 2 2 (.object "RegionDesk$Region") := ⟨RW, TW, 4, tyW, rfl, by decide, rfl, inW, jfW_23, rfl, okW, nmW, rfl, by decide +kernel⟩
theorem gfW_26 : zFld RW 26 4 3 2 := ⟨RW, TW, 4, rfl, by decide, rfl, inW, jfW_26, rfl⟩
theorem gpW_26 : zPut RW 26 4 3 2 (.object "RegionDesk$Region") := ⟨RW, TW, 4, tyW, rfl, by decide, rfl, inW, jfW_26, rfl, okW, nmW, rfl, by decide +kernel⟩
theorem gfM_7 : zFld RM 7 6 1 4 := ⟨RM, TM, 44, rfl, by decide, rfl, inM, jfM_7, rfl⟩
theorem gfM_13 : zFld RM 13 6 2 5 := ⟨RM, TM, 44, rfl, by decide, rfl, inM, jfM_13, rfl⟩
theorem gfM_16 : zFld RM 16 6 3 6 := ⟨RM, TM, 44, rfl, by decide, rfl, inM, jfM_16, rfl⟩
theorem gfM_19 : zFld RM 19 6 4 7 := ⟨RM, TM, 44, rfl, by decide, rfl, inM, jfM_19, rfl⟩
theorem gfM_22 : zFld RM 22 6 5 8 := ⟨RM, TM, 44, rfl, by decide, rfl, inM, jfM_22, rfl⟩
theorem gfM_25 : zFld RM 25 6 6 9 := ⟨RM, TM, 44, rfl, by decide, rfl, inM, jfM_25, rfl⟩
theorem gfM_29 : zFld RM 29 6 9 10 := ⟨RM, TM, 44, rfl, by decide, rfl, inM, jfM_29, rfl⟩
theorem gfM_32 : zFld RM 32 6 10 11 := ⟨RM, TM, 44, rfl, by decide, rfl, inM, jfM_32, rfl⟩
theorem gfM_35 : zFld RM 35 6 11 12 := ⟨RM, TM, 44, rfl, by decide, rfl, inM, jfM_35, rfl⟩
theorem gfM_38 : zFld RM 38 6 12 13 := ⟨RM, TM, 44, rfl, by decide, rfl, inM, jfM_38, rfl⟩
theorem gfM_41 : zFld RM 41 6 15 14 := ⟨RM, TM, 44, rfl, by decide, rfl, inM, jfM_41, rfl⟩
theorem gfM_45 : zFld RM 45 6 16 15 := ⟨RM, TM, 44, rfl, by decide, rfl, inM, jfM_45, rfl⟩
theorem gfM_48 : zFld RM 48 6 17 16 := ⟨RM, TM, 44, rfl, by decide, rfl, inM, jfM_48, rfl⟩
theorem gfM_51 : zFld RM 51 6 18 17 := ⟨RM, TM, 44, rfl, by decide, rfl, inM, jfM_51, rfl⟩
theorem gfM_54 : zFld RM 54 6 20 18 := ⟨RM, TM, 44, rfl, by decide, rfl, inM, jfM_54, rfl⟩
theorem gfM_57 : zFld RM 57 6 21 19 := ⟨RM, TM, 44, rfl, by decide, rfl, inM, jfM_57, rfl⟩
theorem gfM_60 : zFld RM 60 6 22 20 := ⟨RM, TM, 44, rfl, by decide, rfl, inM, jfM_60, rfl⟩
theorem gfM_63 : zFld RM 63 6 23 21 := ⟨RM, TM, 44, rfl, by decide, rfl, inM, jfM_63, rfl⟩
theorem gfM_66 : zFld RM 66 6 0 0 := ⟨RM, TM, 44, rfl, by decide, rfl, inM, jfM_66, rfl⟩
theorem gpM_66 : zPut RM 66 6 0 0 .int := ⟨RM, TM, 44, tyM, rfl, by decide, rfl, inM, jfM_66, rfl, okM, nmM, rfl, by decide +kernel⟩
theorem gfM_70 : zFld RM 70 6 13 0 := ⟨RM, TM, 44, rfl, by decide, rfl, inM, jfM_70, rfl⟩
theorem gpM_70 : zPut RM 70 6 13 0 .int := ⟨RM, TM, 44, tyM, rfl, by decide, rfl, inM, jfM_70, rfl, okM, nmM, rfl, by decide +kernel⟩
theorem gfM_73 : zFld RM 73 6 19 0 := ⟨RM, TM, 44, rfl, by decide, rfl, inM, jfM_73, rfl⟩
theorem gpM_73 : zPut RM 73 6 19 0 .int := ⟨RM, TM, 44, tyM, rfl, by decide, rfl, inM, jfM_73, rfl, okM, nmM, rfl, by decide +kernel⟩
theorem gfM_82 : zFld RM 82 6 31 1 := ⟨RM, TM, 44, rfl, by decide, rfl, inM, jfM_82, rfl⟩
theorem gpM_82 : zPut RM 82 6 31 1 .long := ⟨RM, TM, 44, tyM, rfl, by decide, rfl, inM, jfM_82, rfl, okM, nmM, rfl, by decide +kernel⟩
theorem gfM_86 : zFld RM 86 6 29 1 := ⟨RM, TM, 44, rfl, by decide, rfl, inM, jfM_86, rfl⟩
theorem gpM_86 : zPut RM 86 6 29 1 .long := ⟨RM, TM, 44, tyM, rfl, by decide, rfl, inM, jfM_86, rfl, okM, nmM, rfl, by decide +kernel⟩
theorem gfM_89 : zFld RM 89 6 30 1 := ⟨RM, TM, 44, rfl, by decide, rfl, inM, jfM_89, rfl⟩
theorem gpM_89 : zPut RM 89 6 30 1 .long := ⟨RM, TM, 44, tyM, rfl, by decide, rfl, inM, jfM_89, rfl, okM, nmM, rfl, by decide +kernel⟩
theorem gfM_92 : zFld RM 92 6 32 1 := ⟨RM, TM, 44, rfl, by decide, rfl, inM, jfM_92, rfl⟩
theorem gpM_92 : zPut RM 92 6 32 1 .long := ⟨RM, TM, 44, tyM, rfl, by decide, rfl, inM, jfM_92, rfl, okM, nmM, rfl, by decide +kernel⟩
theorem gfM_95 : zFld RM 95 6 33 1 := ⟨RM, TM, 44, rfl, by decide, rfl, inM, jfM_95, rfl⟩
theorem gpM_95 : zPut RM 95 6 33 1 .long := ⟨RM, TM, 44, tyM, rfl, by decide, rfl, inM, jfM_95, rfl, okM, nmM, rfl, by decide +kernel⟩
theorem gfM_123 : zFld RM 123 6 35 1 := ⟨RM, TM, 44, rfl, by decide, rfl, inM, jfM_123, rfl⟩
theorem gpM_123 : zPut RM 123 6 35 1 .long := ⟨RM, TM, 44, tyM, rfl, by decide, rfl, inM, jfM_123, rfl, okM, nmM, rfl, by decide +kernel⟩
theorem gfM_126 : zFld RM 126 6 38 1 := ⟨RM, TM, 44, rfl, by decide, rfl, inM, jfM_126, rfl⟩
theorem gpM_126 : zPut RM 126 6 38 1 .long := ⟨RM, TM, 44, tyM, rfl, by decide, rfl, inM, jfM_126, rfl, okM, nmM, rfl, by decide +kernel⟩
theorem gfM_129 : zFld RM 129 6 37 1 := ⟨RM, TM, 44, rfl, by decide, rfl, inM, jfM_129, rfl⟩
theorem gpM_129 : zPut RM 129 6 37 1 .long := ⟨RM, TM, 44, tyM, rfl, by decide, rfl, inM, jfM_129, rfl, okM, nmM, rfl, by decide +kernel⟩
theorem gfM_136 : zFld RM 136 6 39 0 := ⟨RM, TM, 44, rfl, by decide, rfl, inM, jfM_136, rfl⟩
theorem gpM_136 : zPut RM 136 6 39 0 .boolean := ⟨RM, TM, 44, tyM, rfl, by decide, rfl, inM, jfM_136, rfl, okM, nmM, rfl, by decide +kernel⟩
theorem gfM_140 : zFld RM 140 6 34 1 := ⟨RM, TM, 44, rfl, by decide, rfl, inM, jfM_140, rfl⟩
theorem gpM_140 : zPut RM 140 6 34 1 .long := ⟨RM, TM, 44, tyM, rfl, by decide, rfl, inM, jfM_140, rfl, okM, nmM, rfl, by decide +kernel⟩
theorem gfM_143 : zFld RM 143 6 36 0 := ⟨RM, TM, 44, rfl, by decide, rfl, inM, jfM_143, rfl⟩
theorem gpM_143 : zPut RM 143 6 36 0 .boolean := ⟨RM, TM, 44, tyM, rfl, by decide, rfl, inM, jfM_143, rfl, okM, nmM, rfl, by decide +kernel⟩
theorem gfM_146 : zFld RM 146 6 14 0 := ⟨RM, TM, 44, rfl, by decide, rfl, inM, jfM_146, rfl⟩
theorem gpM_146 : zPut RM 146 6 14 0 .boolean := ⟨RM, TM, 44, tyM, rfl, by decide, rfl, inM, jfM_146, rfl, okM, nmM, rfl, by decide +kernel⟩
theorem gfM_181 : zFld RM 181 6 24 0 := ⟨RM, TM, 44, rfl, by decide, rfl, inM, jfM_181, rfl⟩
theorem gpM_181 : zPut RM 181 6 24 0 .boolean := ⟨RM, TM, 44, tyM, rfl, by decide, rfl, inM, jfM_181, rfl, okM, nmM, rfl, by decide +kernel⟩
theorem gfM_217 : zFld RM 217 6 8 0 := ⟨RM, TM, 44, rfl, by decide, rfl, inM, jfM_217, rfl⟩
theorem gpM_217 : zPut RM 217 6 8 0 .int := ⟨RM, TM, 44, tyM, rfl, by decide, rfl, inM, jfM_217, rfl, okM, nmM, rfl, by decide +kernel⟩
theorem gfM_220 : zFld RM 220 6 7 0 := ⟨RM, TM, 44, rfl, by decide, rfl, inM, jfM_220, rfl⟩
theorem gpM_220 : zPut RM 220 6 7 0 .int := ⟨RM, TM, 44, tyM, rfl, by decide, rfl, inM, jfM_220, rfl, okM, nmM, rfl, by decide +kernel⟩
theorem gfM_233 : zFld RM 233 6 40 0 := ⟨RM, TM, 44, rfl, by decide, rfl, inM, jfM_233, rfl⟩
theorem gpM_233 : zPut RM 233 6 40 0 .boolean := ⟨RM, TM, 44, tyM, rfl, by decide, rfl, inM, jfM_233, rfl, okM, nmM, rfl, by decide +kernel⟩
theorem gfM_236 : zFld RM 236 6 41 0 := ⟨RM, TM, 44, rfl, by decide, rfl, inM, jfM_236, rfl⟩
theorem gpM_236 : zPut RM 236 6 41 0 .boolean := ⟨RM, TM, 44, tyM, rfl, by decide, rfl, inM, jfM_236, rfl, okM, nmM, rfl, by decide +kernel⟩
theorem gfM_239 : zFld RM 239 6 42 1 := ⟨RM, TM, 44, rfl, by decide, rfl, inM, jfM_239, rfl⟩
theorem gpM_239 : zPut RM 239 6 42 1 .long := ⟨RM, TM, 44, tyM, rfl, by decide, rfl, inM, jfM_239, rfl, okM, nmM, rfl, by decide +kernel⟩
theorem gfM_242 : zFld RM 242 6 43 1 := ⟨RM, TM, 44, rfl, by decide, rfl, inM, jfM_242, rfl⟩
theorem gpM_242 : zPut RM 242 6 43 1 .long := ⟨RM, TM, 44, tyM, rfl, by decide, rfl, inM, jfM_242, rfl, okM, nmM, rfl, by decide +kernel⟩
theorem gfM_245 : zFld RM 245 6 25 0 := ⟨RM, TM, 44, rfl, by decide, rfl, inM, jfM_245, rfl⟩
theorem gpM_245 : zPut RM 245 6 25 0 .int := ⟨RM, TM, 44, tyM, rfl, by decide, rfl, inM, jfM_245, rfl, okM, nmM, rfl, by decide +kernel⟩
theorem gfM_248 : zFld RM 248 6 28 0 := ⟨RM, TM, 44, rfl, by decide, rfl, inM, jfM_248, rfl⟩
theorem gpM_248 : zPut RM 248 6 28 0 .boolean := ⟨RM, TM, 44, tyM, rfl, by decide, rfl, inM, jfM_248, rfl, okM, nmM, rfl, by decide +kernel⟩
theorem gfM_258 : zFld RM 258 6 26 1 := ⟨RM, TM, 44, rfl, by decide, rfl, inM, jfM_258, rfl⟩
theorem gpM_258 : zPut RM 258 6 26 1 .long := ⟨RM, TM, 44, tyM, rfl, by decide, rfl, inM, jfM_258, rfl, okM, nmM, rfl, by decide +kernel⟩
theorem gfM_261 : zFld RM 261 6 27 1 := ⟨RM, TM, 44, rfl, by decide, rfl, inM, jfM_261, rfl⟩
theorem gpM_261 : zPut RM 261 6 27 1 .long := ⟨RM, TM, 44, tyM, rfl, by decide, rfl, inM, jfM_261, rfl, okM, nmM, rfl, by decide +kernel⟩
theorem gsK_42 : zSS RK 42 mK_exceeds 2 := ⟨kK_exceeds, jmK_42, ksK_exceeds⟩
theorem gsK_64 : zSV RK 64 mD_put 4 0 := ⟨kD_put, ⟨jmK_64, kiD_put, kvD_put⟩, rfl⟩
theorem gsK_68 : zSV RK 68 mK_requireRoom 0 5 := ⟨kK_requireRoom, ⟨jmK_68, kiK_requireRoom, kvK_requireRoom⟩, rfl⟩
theorem gsK_74 : zSV RK 74 mR_clear 0 2 := ⟨kR_clear, ⟨jmK_74, kiR_clear, kvR_clear⟩, rfl⟩
theorem gsK_77 : zSV RK 77 mR_admit 1 2 := ⟨kR_admit, ⟨jmK_77, kiR_admit, kvR_admit⟩, rfl⟩
theorem gsK_81 : zSV RK 81 mD_clear 0 0 := ⟨kD_clear, ⟨jmK_81, kiD_clear, kvD_clear⟩, rfl⟩
theorem gsK_82 : zSV RK 82 mK_requireHeight 1 5 := ⟨kK_requireHeight, ⟨jmK_82, kiK_requireHeight, kvK_requireHeight⟩, rfl⟩
theorem gsK_86 : zSV RK 86 mW_intersect 2 4 := ⟨kW_intersect, ⟨jmK_86, kiW_intersect, kvW_intersect⟩, rfl⟩
theorem gsK_90 : zSS RK 90 mK_requireLimitsKept 1 := ⟨kK_requireLimitsKept, jmK_90, ksK_requireLimitsKept⟩
theorem gsK_94 : zSV RK 94 mW_result 0 4 := ⟨kW_result, ⟨jmK_94, kiW_result, kvW_result⟩, rfl⟩
theorem gsK_98 : zSV RK 98 mR_copy 1 2 := ⟨kR_copy, ⟨jmK_98, kiR_copy, kvR_copy⟩, rfl⟩
theorem gsK_102 : zSV RK 102 mW_unite 2 4 := ⟨kW_unite, ⟨jmK_102, kiW_unite, kvW_unite⟩, rfl⟩
theorem gsK_105 : zSV RK 105 mW_complement 1 4 := ⟨kW_complement, ⟨jmK_105, kiW_complement, kvW_complement⟩, rfl⟩
theorem gsK_111 : zSV RK 111 mW_project 2 4 := ⟨kW_project, ⟨jmK_111, kiW_project, kvW_project⟩, rfl⟩
theorem gsK_115 : zSS RK 115 mK_requireTable 1 := ⟨kK_requireTable, jmK_115, ksK_requireTable⟩
theorem gsK_118 : zSV RK 118 mR_rowCount 0 2 := ⟨kR_rowCount, ⟨jmK_118, kiR_rowCount, kvR_rowCount⟩, rfl⟩
theorem gsK_122 : zSV RK 122 mK_requireRow 1 5 := ⟨kK_requireRow, ⟨jmK_122, kiK_requireRow, kvK_requireRow⟩, rfl⟩
theorem gsK_125 : zSV RK 125 mR_memberCount 1 2 := ⟨kR_memberCount, ⟨jmK_125, kiR_memberCount, kvR_memberCount⟩, rfl⟩
theorem gsK_134 : zSV RK 134 mR_x 2 2 := ⟨kR_x, ⟨jmK_134, kiR_x, kvR_x⟩, rfl⟩
theorem gsK_138 : zSV RK 138 mR_y 2 2 := ⟨kR_y, ⟨jmK_138, kiR_y, kvR_y⟩, rfl⟩
theorem gsK_141 : zSV RK 141 mR_bound 2 2 := ⟨kR_bound, ⟨jmK_141, kiR_bound, kvR_bound⟩, rfl⟩
theorem gsK_144 : zSV RK 144 mR_isStrict 2 2 := ⟨kR_isStrict, ⟨jmK_144, kiR_isStrict, kvR_isStrict⟩, rfl⟩
theorem gsK_154 : zSV RK 154 mR_hasPoint 3 2 := ⟨kR_hasPoint, ⟨jmK_154, kiR_hasPoint, kvR_hasPoint⟩, rfl⟩
theorem gsK_158 : zSV RK 158 mW_setAside 0 4 := ⟨kW_setAside, ⟨jmK_158, kiW_setAside, kvW_setAside⟩, rfl⟩
theorem gsK_165 : zSV RK 165 mI_seek 3 1 := ⟨kI_seek, ⟨jmK_165, kiI_seek, kvI_seek⟩, rfl⟩
theorem gsK_171 : zSV RK 171 mI_numerator 0 1 := ⟨kI_numerator, ⟨jmK_171, kiI_numerator, kvI_numerator⟩, rfl⟩
theorem gsK_175 : zSV RK 175 mI_denominator 0 1 := ⟨kI_denominator, ⟨jmK_175, kiI_denominator, kvI_denominator⟩, rfl⟩
theorem gsD_40 : zSV RD 40 mD_insert 4 0 := ⟨kD_insert, ⟨jmD_40, kiD_insert, kvD_insert⟩, rfl⟩
theorem gsD_44 : zSV RD 44 mD_strengthen 3 0 := ⟨kD_strengthen, ⟨jmD_44, kiD_strengthen, kvD_strengthen⟩, rfl⟩
theorem gsD_48 : zSV RD 48 mD_move 2 0 := ⟨kD_move, ⟨jmD_48, kiD_move, kvD_move⟩, rfl⟩
theorem gsD_52 : zSV RD 52 mS_reset 0 3 := ⟨kS_reset, ⟨jmD_52, kiS_reset, kvS_reset⟩, rfl⟩
theorem gsD_55 : zSV RD 55 mS_narrow 3 3 := ⟨kS_narrow, ⟨jmD_55, kiS_narrow, kvS_narrow⟩, rfl⟩
theorem gsD_59 : zSV RD 59 mD_flip 1 0 := ⟨kD_flip, ⟨jmD_59, kiD_flip, kvD_flip⟩, rfl⟩
theorem gsD_63 : zSV RD 63 mD_hasPoints 0 0 := ⟨kD_hasPoints, ⟨jmD_63, kiD_hasPoints, kvD_hasPoints⟩, rfl⟩
theorem gsD_67 : zSV RD 67 mD_remove 1 0 := ⟨kD_remove, ⟨jmD_67, kiD_remove, kvD_remove⟩, rfl⟩
theorem gsI_18 : zSV RI 18 mI_forget 0 1 := ⟨kI_forget, ⟨jmI_18, kiI_forget, kvI_forget⟩, rfl⟩
theorem gsI_21 : zSV RI 21 mR_rowCount 0 2 := ⟨kR_rowCount, ⟨jmI_21, kiR_rowCount, kvR_rowCount⟩, rfl⟩
theorem gsI_27 : zSV RI 27 mI_seekInRow 4 1 := ⟨kI_seekInRow, ⟨jmI_27, kiI_seekInRow, kvI_seekInRow⟩, rfl⟩
theorem gsI_34 : zSV RI 34 mI_lowerToRow 0 1 := ⟨kI_lowerToRow, ⟨jmI_34, kiI_lowerToRow, kvI_lowerToRow⟩, rfl⟩
theorem gsI_37 : zSV RI 37 mI_reduce 0 1 := ⟨kI_reduce, ⟨jmI_37, kiI_reduce, kvI_reduce⟩, rfl⟩
theorem gsI_54 : zSV RI 54 mR_memberCount 1 2 := ⟨kR_memberCount, ⟨jmI_54, kiR_memberCount, kvR_memberCount⟩, rfl⟩
theorem gsI_58 : zSS RI 58 mI_side 5 := ⟨kI_side, jmI_58, ksI_side⟩
theorem gsI_62 : zSV RI 62 mI_boundByOne 5 1 := ⟨kI_boundByOne, ⟨jmI_62, kiI_boundByOne, kvI_boundByOne⟩, rfl⟩
theorem gsI_66 : zSV RI 66 mI_boundByTwo 6 1 := ⟨kI_boundByTwo, ⟨jmI_66, kiI_boundByTwo, kvI_boundByTwo⟩, rfl⟩
theorem gsI_70 : zSV RI 70 mR_y 2 2 := ⟨kR_y, ⟨jmI_70, kiR_y, kvR_y⟩, rfl⟩
theorem gsI_74 : zSV RI 74 mR_x 2 2 := ⟨kR_x, ⟨jmI_74, kiR_x, kvR_x⟩, rfl⟩
theorem gsI_77 : zSV RI 77 mR_bound 2 2 := ⟨kR_bound, ⟨jmI_77, kiR_bound, kvR_bound⟩, rfl⟩
theorem gsI_80 : zSV RI 80 mR_isStrict 2 2 := ⟨kR_isStrict, ⟨jmI_80, kiR_isStrict, kvR_isStrict⟩, rfl⟩
theorem gsI_84 : zSV RI 84 mI_raiseRow 3 1 := ⟨kI_raiseRow, ⟨jmI_84, kiI_raiseRow, kvI_raiseRow⟩, rfl⟩
theorem gsR_28 : zSV RR 28 mD_hasPoints 0 0 := ⟨kD_hasPoints, ⟨jmR_28, kiD_hasPoints, kvD_hasPoints⟩, rfl⟩
theorem gsR_34 : zSV RR 34 mD_dropImplied 0 0 := ⟨kD_dropImplied, ⟨jmR_34, kiD_dropImplied, kvD_dropImplied⟩, rfl⟩
theorem gsR_37 : zSV RR 37 mD_keepsLimits 0 0 := ⟨kD_keepsLimits, ⟨jmR_37, kiD_keepsLimits, kvD_keepsLimits⟩, rfl⟩
theorem gsR_40 : zSV RR 40 mR_contains 1 2 := ⟨kR_contains, ⟨jmR_40, kiR_contains, kvR_contains⟩, rfl⟩
theorem gsR_44 : zSV RR 44 mR_append 1 2 := ⟨kR_append, ⟨jmR_44, kiR_append, kvR_append⟩, rfl⟩
theorem gsR_48 : zSV RR 48 mR_isSame 2 2 := ⟨kR_isSame, ⟨jmR_48, kiR_isSame, kvR_isSame⟩, rfl⟩
theorem gsR_52 : zSV RR 52 mD_memberCount 0 0 := ⟨kD_memberCount, ⟨jmR_52, kiD_memberCount, kvD_memberCount⟩, rfl⟩
theorem gsR_56 : zSV RR 56 mR_x 2 2 := ⟨kR_x, ⟨jmR_56, kiR_x, kvR_x⟩, rfl⟩
theorem gsR_60 : zSV RR 60 mD_x 1 0 := ⟨kD_x, ⟨jmR_60, kiD_x, kvD_x⟩, rfl⟩
theorem gsR_63 : zSV RR 63 mR_y 2 2 := ⟨kR_y, ⟨jmR_63, kiR_y, kvR_y⟩, rfl⟩
theorem gsR_66 : zSV RR 66 mD_y 1 0 := ⟨kD_y, ⟨jmR_66, kiD_y, kvD_y⟩, rfl⟩
theorem gsR_68 : zSV RR 68 mR_bound 2 2 := ⟨kR_bound, ⟨jmR_68, kiR_bound, kvR_bound⟩, rfl⟩
theorem gsR_71 : zSV RR 71 mD_bound 1 0 := ⟨kD_bound, ⟨jmR_71, kiD_bound, kvD_bound⟩, rfl⟩
theorem gsR_73 : zSV RR 73 mR_isStrict 2 2 := ⟨kR_isStrict, ⟨jmR_73, kiR_isStrict, kvR_isStrict⟩, rfl⟩
theorem gsR_77 : zSV RR 77 mD_isStrict 1 0 := ⟨kD_isStrict, ⟨jmR_77, kiD_isStrict, kvD_isStrict⟩, rfl⟩
theorem gsR_80 : zSV RR 80 mD_put 4 0 := ⟨kD_put, ⟨jmR_80, kiD_put, kvD_put⟩, rfl⟩
theorem gsR_84 : zSV RR 84 mR_rowHasPoint 4 2 := ⟨kR_rowHasPoint, ⟨jmR_84, kiR_rowHasPoint, kvR_rowHasPoint⟩, rfl⟩
theorem gsW_29 : zSV RW 29 mR_clear 0 2 := ⟨kR_clear, ⟨jmW_29, kiR_clear, kvR_clear⟩, rfl⟩
theorem gsW_32 : zSV RW 32 mR_rowCount 0 2 := ⟨kR_rowCount, ⟨jmW_32, kiR_rowCount, kvR_rowCount⟩, rfl⟩
theorem gsW_36 : zSV RW 36 mD_clear 0 0 := ⟨kD_clear, ⟨jmW_36, kiD_clear, kvD_clear⟩, rfl⟩
theorem gsW_37 : zSV RW 37 mR_memberCount 1 2 := ⟨kR_memberCount, ⟨jmW_37, kiR_memberCount, kvR_memberCount⟩, rfl⟩
theorem gsW_41 : zSV RW 41 mR_pour 3 2 := ⟨kR_pour, ⟨jmW_41, kiR_pour, kvR_pour⟩, rfl⟩
theorem gsW_45 : zSV RW 45 mR_admit 1 2 := ⟨kR_admit, ⟨jmW_45, kiR_admit, kvR_admit⟩, rfl⟩
theorem gsW_49 : zSV RW 49 mR_copy 1 2 := ⟨kR_copy, ⟨jmW_49, kiR_copy, kvR_copy⟩, rfl⟩
theorem gsW_53 : zSV RW 53 mW_cut 2 4 := ⟨kW_cut, ⟨jmW_53, kiW_cut, kvW_cut⟩, rfl⟩
theorem gsW_57 : zSV RW 57 mW_setAside 0 4 := ⟨kW_setAside, ⟨jmW_57, kiW_setAside, kvW_setAside⟩, rfl⟩
theorem gsW_61 : zSV RW 61 mW_intersect 2 4 := ⟨kW_intersect, ⟨jmW_61, kiW_intersect, kvW_intersect⟩, rfl⟩
theorem gsW_65 : zSV RW 65 mR_pourContrary 3 2 := ⟨kR_pourContrary, ⟨jmW_65, kiR_pourContrary, kvR_pourContrary⟩, rfl⟩
theorem gsW_68 : zSV RW 68 mW_eliminate 4 4 := ⟨kW_eliminate, ⟨jmW_68, kiW_eliminate, kvW_eliminate⟩, rfl⟩
theorem gsW_72 : zSS RW 72 mW_entry 4 := ⟨kW_entry, jmW_72, ksW_entry⟩
theorem gsW_76 : zSV RW 76 mR_x 2 2 := ⟨kR_x, ⟨jmW_76, kiR_x, kvR_x⟩, rfl⟩
theorem gsW_80 : zSV RW 80 mR_y 2 2 := ⟨kR_y, ⟨jmW_80, kiR_y, kvR_y⟩, rfl⟩
theorem gsW_83 : zSV RW 83 mR_bound 2 2 := ⟨kR_bound, ⟨jmW_83, kiR_bound, kvR_bound⟩, rfl⟩
theorem gsW_86 : zSV RW 86 mR_isStrict 2 2 := ⟨kR_isStrict, ⟨jmW_86, kiR_isStrict, kvR_isStrict⟩, rfl⟩
theorem gsW_90 : zSV RW 90 mD_put 4 0 := ⟨kD_put, ⟨jmW_90, kiD_put, kvD_put⟩, rfl⟩
theorem gsM_76 : zSV RM 76 mM_cross 2 6 := ⟨kM_cross, ⟨jmM_76, kiM_cross, kvM_cross⟩, rfl⟩
theorem gsM_98 : zSV RM 98 mM_isBand 0 6 := ⟨kM_isBand, ⟨jmM_98, kiM_isBand, kvM_isBand⟩, rfl⟩
theorem gsM_102 : zSV RM 102 mM_band 0 6 := ⟨kM_band, ⟨jmM_102, kiM_band, kvM_band⟩, rfl⟩
theorem gsM_105 : zSV RM 105 mM_corner 2 6 := ⟨kM_corner, ⟨jmM_105, kiM_corner, kvM_corner⟩, rfl⟩
theorem gsM_109 : zSV RM 109 mM_inCorner 0 6 := ⟨kM_inCorner, ⟨jmM_109, kiM_inCorner, kvM_inCorner⟩, rfl⟩
theorem gsM_113 : zSV RM 113 mM_way 2 6 := ⟨kM_way, ⟨jmM_113, kiM_way, kvM_way⟩, rfl⟩
theorem gsM_117 : zSV RM 117 mM_inWay 0 6 := ⟨kM_inWay, ⟨jmM_117, kiM_inWay, kvM_inWay⟩, rfl⟩
theorem gsM_120 : zSV RM 120 mM_strictOnes 0 6 := ⟨kM_strictOnes, ⟨jmM_120, kiM_strictOnes, kvM_strictOnes⟩, rfl⟩
theorem gsM_132 : zSS RM 132 mM_compare 4 := ⟨kM_compare, jmM_132, ksM_compare⟩
theorem gsM_149 : zSS RM 149 mM_place 3 := ⟨kM_place, jmM_149, ksM_place⟩
theorem gsM_153 : zSV RM 153 mM_add 4 6 := ⟨kM_add, ⟨jmM_153, kiM_add, kvM_add⟩, rfl⟩
theorem gsM_157 : zSV RM 157 mM_swap 2 6 := ⟨kM_swap, ⟨jmM_157, kiM_swap, kvM_swap⟩, rfl⟩
theorem gsM_161 : zSS RM 161 mM_divisor 2 := ⟨kM_divisor, jmM_161, ksM_divisor⟩
theorem gsM_165 : zSV RM 165 mM_isBefore 2 6 := ⟨kM_isBefore, ⟨jmM_165, kiM_isBefore, kvM_isBefore⟩, rfl⟩
theorem gsM_168 : zSV RM 168 mM_remove 1 6 := ⟨kM_remove, ⟨jmM_168, kiM_remove, kvM_remove⟩, rfl⟩
theorem gsM_172 : zSV RM 172 mM_ask 0 6 := ⟨kM_ask, ⟨jmM_172, kiM_ask, kvM_ask⟩, rfl⟩
theorem gsM_175 : zSV RM 175 mM_hasPoints 0 6 := ⟨kM_hasPoints, ⟨jmM_175, kiM_hasPoints, kvM_hasPoints⟩, rfl⟩
theorem gsM_178 : zSV RM 178 mM_thin 0 6 := ⟨kM_thin, ⟨jmM_178, kiM_thin, kvM_thin⟩, rfl⟩
theorem gsM_184 : zSV RM 184 mM_normal 0 6 := ⟨kM_normal, ⟨jmM_184, kiM_normal, kvM_normal⟩, rfl⟩
theorem gsM_187 : zSS RM 187 mM_isFar 1 := ⟨kM_isFar, jmM_187, ksM_isFar⟩
theorem gsM_191 : zSV RM 191 mM_isRow 2 6 := ⟨kM_isRow, ⟨jmM_191, kiM_isRow, kvM_isRow⟩, rfl⟩
theorem gsM_198 : zSV RM 198 mM_begin 0 6 := ⟨kM_begin, ⟨jmM_198, kiM_begin, kvM_begin⟩, rfl⟩
theorem gsM_201 : zSV RM 201 mM_addRow 3 6 := ⟨kM_addRow, ⟨jmM_201, kiM_addRow, kvM_addRow⟩, rfl⟩
theorem gsM_205 : zSV RM 205 mM_put 1 6 := ⟨kM_put, ⟨jmM_205, kiM_put, kvM_put⟩, rfl⟩
theorem gsM_208 : zSV RM 208 mM_parts 3 6 := ⟨kM_parts, ⟨jmM_208, kiM_parts, kvM_parts⟩, rfl⟩
theorem gsM_211 : zSV RM 211 mM_both 3 6 := ⟨kM_both, ⟨jmM_211, kiM_both, kvM_both⟩, rfl⟩
theorem gsM_214 : zSV RM 214 mM_copy 2 6 := ⟨kM_copy, ⟨jmM_214, kiM_copy, kvM_copy⟩, rfl⟩
theorem gsM_223 : zSV RM 223 mM_contrary 1 6 := ⟨kM_contrary, ⟨jmM_223, kiM_contrary, kvM_contrary⟩, rfl⟩
theorem gsM_226 : zSV RM 226 mM_freed 3 6 := ⟨kM_freed, ⟨jmM_226, kiM_freed, kvM_freed⟩, rfl⟩
theorem gsM_229 : zSV RM 229 mM_isRowThere 1 6 := ⟨kM_isRowThere, ⟨jmM_229, kiM_isRowThere, kvM_isRowThere⟩, rfl⟩
theorem gsM_251 : zSV RM 251 mM_ofBand 2 6 := ⟨kM_ofBand, ⟨jmM_251, kiM_ofBand, kvM_ofBand⟩, rfl⟩
theorem gsM_255 : zSV RM 255 mM_ofCorners 2 6 := ⟨kM_ofCorners, ⟨jmM_255, kiM_ofCorners, kvM_ofCorners⟩, rfl⟩
theorem gsD_36 : zSSN RD 36 mK_commonDivisor 2 := ⟨kK_commonDivisor, "RegionDesk", List.mem_of_getElem? (i := 5) rfl, ksK_commonDivisor⟩
theorem gsD_72 : zSSN RD 72 mK_exceeds 2 := ⟨kK_exceeds, "RegionDesk", List.mem_of_getElem? (i := 6) rfl, ksK_exceeds⟩
theorem gsI_50 : zSSN RI 50 mK_commonDivisor 2 := ⟨kK_commonDivisor, "RegionDesk", List.mem_of_getElem? (i := 7) rfl, ksK_commonDivisor⟩
end
section
/-! Math.abs of a long, System.arraycopy of ints. -/
theorem jmK_191 : Cond.methodLink RK 191 Lib.MathLoose.abs_long.x ∈ zWS := zin 270 (by decide +kernel) (by decide +kernel)
theorem ksAbs : Cond.static Lib.MathLoose.abs_long.x ∈ zWS := zin 271 (by decide +kernel) (by decide +kernel)
theorem kiAbs : Cond.initialized "java/lang/Math" ∈ zWS := zin 13 (by decide +kernel) (by decide +kernel)
theorem kcAbs : Cond.code Lib.MathLoose.abs_long.x Lib.MathLoose.abs_long.code 2 (some .long) ∈ zWS := zin 272 rfl rfl
theorem jmR_22 : Cond.methodLink RR 22 arraycopyName ∈ zWS := zin 448 (by decide +kernel) (by decide +kernel)
theorem ksCpy : Cond.static arraycopyName ∈ zWS := zin 449 (by decide +kernel) (by decide +kernel)
theorem knCpy : Cond.native arraycopyName ∈ zWS := zin 450 (by decide +kernel) (by decide +kernel)
theorem kiCpy : Cond.initialized "java/lang/System" ∈ zWS := zin 15 (by decide +kernel) (by decide +kernel)
section ZJD
variable {X : zC} {l : Launch} {md : zMd} {rm : Room} {Q : Option Value → zM → Prop} {u : Nat × Nat} {pc : Nat} {L : List (Nat × Value)} {S : List Value} {M : zM}
theorem zcat (ad : Nat → Nat) (S : List Value) : ((S.map (zcv ad)).map fun v => v.category).sum = (S.map fun v => v.category).sum := by
  rw [List.map_map]
  congr 1
  exact List.map_congr_left (fun v _ => zcv_cat ad v)
theorem za_absl {idx : Nat} {x : Int64} (hc : zCx X l md rm) (hl : Cond.methodLink md.1.cls idx Lib.MathLoose.abs_long.x ∈ zWS) (hrm : 1 ≤ rm.frames ∧ (S.map fun v => v.category).sum + 13 ≤ rm.locals) (hu : u.1 ≤ rm.cells ∧ u.2 ≤ rm.slots) (hd : decode md.2.1 pc = .ok (.invokestatic idx, 3)) (kk : zW X Q u (pc + 3) L (.long (if 0 < x then x else -x) :: S) M) : zW X Q u pc L (.long x :: S) M := by
  intro ls H locs hls hP hS
  have hR := hc.2.2.2.2.2.2.2.2.2.1
  exact va_mabs_long (rest := S.map (zcv (zad X))) hc.1 hc.2.1 hls.1.symm hc.2.2.2.1 (hc.w hl) (hc.w ksAbs) (hc.w kiAbs) (hc.w kcAbs) (by rw [hR]; exact hrm.1) (by rw [hR, zcat]; exact hrm.2) (by rw [hR]; exact hu.1) (by rw [hR]; exact hu.2) hd (kk ls H locs hls hP hS)
theorem za_copyi {idx k k' n n' : Nat} {sp dp c : Int32} (hc : zCx X l md rm) (hl : Cond.methodLink md.1.cls idx arraycopyName ∈ zWS) (ha : zar k 1 n) (ha' : zar k' 1 n') (h1 : ¬ sp < 0) (h2 : ¬ dp < 0) (h3 : ¬ c < 0) (h4 : sp.toNatClampNeg + c.toNatClampNeg ≤ n) (h5 : dp.toNatClampNeg + c.toNatClampNeg ≤ n') (hrm : 1 ≤ rm.frames ∧ (S.map fun v => v.category).sum + (nativeFrameWords "java/lang/System" "arraycopy" 5 + 11) ≤ rm.locals) (hd : decode md.2.1 pc = .ok (.invokestatic idx, 3)) (kk : zW X Q u (pc + 3) L S (zrI M k' (va_cpy (zI M k) (zI M k') sp.toNatClampNeg dp.toNatClampNeg c.toNatClampNeg))) : zW X Q u pc L (.int c :: .int dp :: .ref k' :: .int sp :: .ref k :: S) M := by
  intro ls H locs hls hP hS
  have hR := hc.2.2.2.2.2.2.2.2.2.1
  refine va_copyi (rest := S.map (zcv (zad X))) hc.1 hc.2.1 hls.1.symm hc.2.2.2.1 (hc.w hl) (hc.w knCpy) (hc.w ksCpy) (hc.w kiCpy) hc.2.2.2.2.2.1 hP (zwd_D hc.2.2.2.2.2.2.1) hS k k' 0 0 (ty := .int) (by rw [zwd_get ha.1, zent_1 ha.2]) (by rw [zwd_get ha'.1, zent_1 ha'.2]) rfl rfl rfl h1 h2 h3 h4 h5 (fun i _ => rfl) (by rw [hR]; exact hrm.1) (by rw [hR, zcat]; exact hrm.2) hd (fun H1 locs1 hP1 _ hS1 => kk ls H1 locs1 hls ?_ hS1)
  have e : zI (zrI M k' (va_cpy (zI M k) (zI M k') sp.toNatClampNeg dp.toNatClampNeg c.toNatClampNeg)) k' = va_cpy (zI M k) (zI M k') sp.toNatClampNeg dp.toNatClampNeg c.toNatClampNeg := by rw [zI_rI, if_pos rfl]
  rw [← zwd_set (M := M) (M' := zrI M k' (va_cpy (zI M k) (zI M k') sp.toNatClampNeg dp.toNatClampNeg c.toNatClampNeg)) ha'.1 (zent_1 ha'.2) (fun i h => zent_rI h), e]
  exact hP1
end ZJD
end
section
/-! The plane over the rationals: members a x + b y <= c (or <), points, corners, ways. No word of the machine here. -/
abbrev gC : Type := Int × Int × Int × Bool
def gv (q : gC) (x y : Rat) : Rat := (q.1 : Rat) * x + (q.2.1 : Rat) * y
def gk (q : gC) : Rat := (q.2.2.1 : Rat)
/-- the member holds at a point, its strictness left aside; with it -/
def gcl (q : gC) (x y : Rat) : Prop := gv q x y ≤ gk q
def gst (q : gC) (x y : Rat) : Prop := if q.2.2.2 = true then gv q x y < gk q else gv q x y ≤ gk q
def gSat (l : List gC) : Prop := ∃ x y : Rat, ∀ q ∈ l, gst q x y
def gcr (p q : gC) : Int := p.1 * q.2.1 - q.1 * p.2.1
theorem gst_cl {q : gC} {x y : Rat} (h : gst q x y) : gcl q x y := by
  unfold gst at h; unfold gcl; split at h
  · exact Rat.le_of_lt h
  · exact h
theorem gv_move (q : gC) (x y t dx dy : Rat) : gv q (x + t * dx) (y + t * dy) = gv q x y + t * gv q dx dy := by unfold gv; grind
theorem gv_neg (q : gC) (dx dy : Rat) : gv q (-dx) (-dy) = -gv q dx dy := by unfold gv; grind
theorem g_mulpos {a b : Rat} (ha : 0 ≤ a) (h : 0 < a * b) : 0 < b := by
  apply Rat.not_le.mp
  intro hb
  have h1 : 0 ≤ a * (-b) := Rat.mul_nonneg ha (by grind)
  have h2 : a * (-b) = -(a * b) := by grind
  grind
/-- one step of the way: how far one may go from a point in a direction, where something stops it -/
theorem g_ratio (x y dx dy : Rat) : ∀ (l : List gC), (∀ q ∈ l, gcl q x y) → (∃ q ∈ l, 0 < gv q dx dy) → ∃ t : Rat, 0 ≤ t ∧ (∃ k ∈ l, 0 < gv k dx dy ∧ gv k x y + t * gv k dx dy = gk k) ∧ ∀ q ∈ l, gv q x y + t * gv q dx dy ≤ gk q := by
  intro l
  induction l with
  | nil => intro _ h; obtain ⟨q, hq, _⟩ := h; cases hq
  | cons a l ih =>
    intro hf hex
    have hfl : ∀ q ∈ l, gv q x y ≤ gk q := fun q hq => hf q (List.mem_cons_of_mem _ hq)
    have ha : gv a x y ≤ gk a := hf a List.mem_cons_self
    have stop : 0 < gv a dx dy → (∀ t : Rat, 0 ≤ t → gv a x y + t * gv a dx dy ≤ gk a → ∀ q ∈ l, gv q x y + t * gv q dx dy ≤ gk q) → ∃ t : Rat, 0 ≤ t ∧ (∃ k ∈ a :: l, 0 < gv k dx dy ∧ gv k x y + t * gv k dx dy = gk k) ∧ ∀ q ∈ a :: l, gv q x y + t * gv q dx dy ≤ gk q := by
      intro hpos hrest
      have hne : gv a dx dy ≠ 0 := Rat.ne_of_gt hpos
      have ht : (gk a - gv a x y) / gv a dx dy * gv a dx dy = gk a - gv a x y := Rat.div_mul_cancel hne
      have ht0 : 0 ≤ (gk a - gv a x y) / gv a dx dy := by
        apply Rat.not_lt.mp
        intro h
        have := (Rat.div_lt_iff hpos).mp h
        grind
      have he : gv a x y + (gk a - gv a x y) / gv a dx dy * gv a dx dy = gk a := by rw [ht]; grind
      refine ⟨_, ht0, ⟨a, List.mem_cons_self, hpos, he⟩, fun q hq => ?_⟩
      rcases List.mem_cons.mp hq with h | h
      · subst h; rw [he]; exact Rat.le_refl
      · exact hrest _ ht0 (by rw [he]; exact Rat.le_refl) q h
    by_cases hl : ∃ q ∈ l, 0 < gv q dx dy
    · obtain ⟨t, ht, ⟨k, hk, hk1, hk2⟩, hall⟩ := ih hfl hl
      by_cases hat : gv a x y + t * gv a dx dy ≤ gk a
      · refine ⟨t, ht, ⟨k, List.mem_cons_of_mem _ hk, hk1, hk2⟩, fun q hq => ?_⟩
        rcases List.mem_cons.mp hq with h | h
        · subst h; exact hat
        · exact hall q h
      · have hat := Rat.not_le.mp hat
        have hpos : 0 < gv a dx dy := g_mulpos ht (by grind)
        refine stop hpos (fun t' h0 h1 q hq => ?_)
        have hq0 := hfl q hq
        have hq1 := hall q hq
        by_cases hg : gv q dx dy ≤ 0
        · have : 0 ≤ t' * (-gv q dx dy) := Rat.mul_nonneg h0 (by grind)
          have h2 : t' * (-gv q dx dy) = -(t' * gv q dx dy) := by grind
          grind
        · have hg := Rat.not_le.mp hg
          have hlt : t' < t := by
            apply Rat.not_le.mp
            intro hle
            have := Rat.mul_le_mul_of_nonneg_right hle (Rat.le_of_lt hpos)
            grind
          have := Rat.mul_le_mul_of_nonneg_right (Rat.le_of_lt hlt) (Rat.le_of_lt hg)
          grind
    · have hl0 : ∀ q ∈ l, gv q dx dy ≤ 0 := fun q hq => Rat.not_lt.mp (fun h => hl ⟨q, hq, h⟩)
      have hpos : 0 < gv a dx dy := by
        obtain ⟨q, hq, h⟩ := hex
        rcases List.mem_cons.mp hq with e | e
        · subst e; exact h
        · exact absurd ⟨q, e, h⟩ hl
      refine stop hpos (fun t' h0 _ q hq => ?_)
      have hq0 := hfl q hq
      have : 0 ≤ t' * (-gv q dx dy) := Rat.mul_nonneg h0 (by have := hl0 q hq; grind)
      have h2 : t' * (-gv q dx dy) = -(t' * gv q dx dy) := by grind
      grind
/-- a form is less, or the same and the second one not greater -/
def gle (p1 q1 p2 q2 x y x' y' : Rat) : Prop := p1 * x + q1 * y < p1 * x' + q1 * y' ∨ (p1 * x + q1 * y = p1 * x' + q1 * y' ∧ p2 * x + q2 * y ≤ p2 * x' + q2 * y')
def gng (p1 q1 p2 q2 dx dy : Rat) : Prop := p1 * dx + q1 * dy < 0 ∨ (p1 * dx + q1 * dy = 0 ∧ p2 * dx + q2 * dy < 0)
theorem gle_refl {p1 q1 p2 q2 x y : Rat} : gle p1 q1 p2 q2 x y x y := Or.inr ⟨rfl, Rat.le_refl⟩
theorem gle_trans {p1 q1 p2 q2 x y x' y' x'' y'' : Rat} (h : gle p1 q1 p2 q2 x y x' y') (h' : gle p1 q1 p2 q2 x' y' x'' y'') : gle p1 q1 p2 q2 x y x'' y'' := by
  unfold gle at *; grind
theorem gle_move {p1 q1 p2 q2 x y dx dy t : Rat} (ht : 0 ≤ t) (h : gng p1 q1 p2 q2 dx dy ∨ (p1 * dx + q1 * dy = 0 ∧ p2 * dx + q2 * dy = 0)) : gle p1 q1 p2 q2 (x + t * dx) (y + t * dy) x y := by
  have e1 : p1 * (x + t * dx) + q1 * (y + t * dy) = p1 * x + q1 * y + t * (p1 * dx + q1 * dy) := by grind
  have e2 : p2 * (x + t * dx) + q2 * (y + t * dy) = p2 * x + q2 * y + t * (p2 * dx + q2 * dy) := by grind
  unfold gle
  rw [e1, e2]
  rcases h with (h | ⟨h, h'⟩) | ⟨h, h'⟩
  · by_cases h0 : t = 0
    · subst h0; right; constructor <;> grind
    · left
      have ht' : 0 < t := Rat.lt_of_le_of_ne ht (Ne.symm h0)
      have := Rat.mul_pos ht' (show 0 < -(p1 * dx + q1 * dy) by grind)
      grind
  · right
    rw [h]
    have := Rat.mul_nonneg ht (show 0 ≤ -(p2 * dx + q2 * dy) by grind)
    constructor <;> grind
  · right
    rw [h, h']
    constructor <;> grind
/-- a member's line, one way or the other -/
def gway (i : gC) (dx dy : Rat) : Prop := (dx = (i.2.1 : Rat) ∧ dy = -(i.1 : Rat)) ∨ (dx = -(i.2.1 : Rat) ∧ dy = (i.1 : Rat))
theorem gway_v {i q : gC} {dx dy : Rat} (h : gway i dx dy) : gv q dx dy = ((gcr q i : Int) : Rat) ∨ gv q dx dy = -((gcr q i : Int) : Rat) := by
  unfold gv gcr
  rcases h with ⟨rfl, rfl⟩ | ⟨rfl, rfl⟩
  · left; push_cast; grind
  · right; push_cast; grind
/-- along a member's line to where the next member stops it, no form greater there; or the line is a way on which the form falls without end; (not all members are parallel to it) -/
theorem g_along (l : List gC) (i : gC) (hnb : ∃ j ∈ l, gcr j i ≠ 0) (x y : Rat) (hf : ∀ q ∈ l, gcl q x y) (p1 q1 p2 q2 : Rat) :
    (∃ (x' y' : Rat), (∀ q ∈ l, gcl q x' y') ∧ gv i x' y' = gv i x y ∧ (∃ k ∈ l, gcr k i ≠ 0 ∧ gv k x' y' = gk k) ∧ gle p1 q1 p2 q2 x' y' x y) ∨ (∃ dx dy : Rat, gway i dx dy ∧ (∀ q ∈ l, gv q dx dy ≤ 0) ∧ gng p1 q1 p2 q2 dx dy) := by
  have go : ∀ dx dy : Rat, gway i dx dy → (gng p1 q1 p2 q2 dx dy ∨ (p1 * dx + q1 * dy = 0 ∧ p2 * dx + q2 * dy = 0)) → (∃ q ∈ l, 0 < gv q dx dy) → ∃ (x' y' : Rat), (∀ q ∈ l, gcl q x' y') ∧ gv i x' y' = gv i x y ∧ (∃ k ∈ l, gcr k i ≠ 0 ∧ gv k x' y' = gk k) ∧ gle p1 q1 p2 q2 x' y' x y := by
    intro dx dy hw hn hs
    obtain ⟨t, ht, ⟨k, hk, hk1, hk2⟩, hall⟩ := g_ratio x y dx dy l hf hs
    refine ⟨x + t * dx, y + t * dy, fun q hq => ?_, ?_, ⟨k, hk, fun h0 => ?_, ?_⟩, gle_move ht hn⟩
    · unfold gcl; rw [gv_move]; exact hall q hq
    · rw [gv_move]
      have : gv i dx dy = 0 := by
        rcases gway_v (q := i) hw with h | h <;> rw [h] <;> simp [gcr, Int.mul_comm]
      rw [this]; grind
    · rcases gway_v (q := k) hw with h | h <;> rw [h, h0] at hk1 <;> exact absurd hk1 (by decide)
    · rw [gv_move]; exact hk2
  by_cases h1 : gng p1 q1 p2 q2 (i.2.1 : Rat) (-(i.1 : Rat))
  · by_cases hs : ∃ q ∈ l, 0 < gv q (i.2.1 : Rat) (-(i.1 : Rat))
    · exact Or.inl (go _ _ (Or.inl ⟨rfl, rfl⟩) (Or.inl h1) hs)
    · exact Or.inr ⟨_, _, Or.inl ⟨rfl, rfl⟩, fun q hq => Rat.not_lt.mp (fun h => hs ⟨q, hq, h⟩), h1⟩
  · by_cases h2 : gng p1 q1 p2 q2 (-(i.2.1 : Rat)) (i.1 : Rat)
    · by_cases hs : ∃ q ∈ l, 0 < gv q (-(i.2.1 : Rat)) (i.1 : Rat)
      · exact Or.inl (go _ _ (Or.inr ⟨rfl, rfl⟩) (Or.inl h2) hs)
      · exact Or.inr ⟨_, _, Or.inr ⟨rfl, rfl⟩, fun q hq => Rat.not_lt.mp (fun h => hs ⟨q, hq, h⟩), h2⟩
    · left
      have hz : p1 * (i.2.1 : Rat) + q1 * (-(i.1 : Rat)) = 0 ∧ p2 * (i.2.1 : Rat) + q2 * (-(i.1 : Rat)) = 0 := by
        unfold gng at h1 h2; grind
      obtain ⟨j, hj, hne⟩ := hnb
      have hw1 : gway i (i.2.1 : Rat) (-(i.1 : Rat)) := Or.inl ⟨rfl, rfl⟩
      have hw2 : gway i (-(i.2.1 : Rat)) (i.1 : Rat) := Or.inr ⟨rfl, rfl⟩
      have hv : gv j (i.2.1 : Rat) (-(i.1 : Rat)) = ((gcr j i : Int) : Rat) := by
        unfold gv gcr; push_cast; grind
      by_cases hp : 0 < gcr j i
      · exact go _ _ hw1 (Or.inr hz) ⟨j, hj, by rw [hv]; exact Rat.intCast_pos.mpr hp⟩
      · refine go _ _ hw2 (Or.inr ⟨by grind, by grind⟩) ⟨j, hj, ?_⟩
        have h3 : gv j (-(i.2.1 : Rat)) (i.1 : Rat) = ((-gcr j i : Int) : Rat) := by
          unfold gv gcr; push_cast; grind
        rw [h3]; exact Rat.intCast_pos.mpr (by omega)
/-- from any point to a corner where no form is greater, or a way on which it falls -/
theorem g_lp (l : List gC) (i0 : gC) (hi0 : i0 ∈ l) (hz : ∀ q ∈ l, ∃ j ∈ l, gcr j q ≠ 0) (x y : Rat) (hf : ∀ q ∈ l, gcl q x y) (p1 q1 p2 q2 : Rat) :
    (∃ i ∈ l, ∃ j ∈ l, gcr i j ≠ 0 ∧ ∃ (x' y' : Rat), (∀ q ∈ l, gcl q x' y') ∧ gv i x' y' = gk i ∧ gv j x' y' = gk j ∧ gle p1 q1 p2 q2 x' y' x y) ∨ (∃ i ∈ l, ∃ dx dy : Rat, gway i dx dy ∧ (∀ q ∈ l, gv q dx dy ≤ 0) ∧ gng p1 q1 p2 q2 dx dy) := by
  rcases g_along l i0 (hz i0 hi0) x y hf p1 q1 p2 q2 with ⟨x1, y1, hf1, -, ⟨k, hk, -, hk2⟩, hle1⟩ | ⟨dx, dy, hw, hr, hn⟩
  · rcases g_along l k (hz k hk) x1 y1 hf1 p1 q1 p2 q2 with ⟨x2, y2, hf2, hs, ⟨j, hj, hne, hj2⟩, hle2⟩ | ⟨dx, dy, hw, hr, hn⟩
    · exact Or.inl ⟨j, hj, k, hk, hne, x2, y2, hf2, hj2, by rw [hs]; exact hk2, gle_trans hle2 hle1⟩
    · exact Or.inr ⟨k, hk, dx, dy, hw, hr, hn⟩
  · exact Or.inr ⟨i0, hi0, dx, dy, hw, hr, hn⟩
end
section
/-! One column gone: what is left is exact. -/
def gdm (n m : Rat) (s : Bool) (t : Rat) : Prop := if s = true then n * t < m else n * t ≤ m
/-- bounds from above and from below: the tightest one -/
theorem g_tight : ∀ (U : List (Rat × Bool)), U ≠ [] → ∃ u ∈ U, ∀ u' ∈ U, u.1 < u'.1 ∨ (u.1 = u'.1 ∧ (u'.2 = true → u.2 = true)) := by
  intro U
  induction U with
  | nil => intro h; exact absurd rfl h
  | cons a l ih =>
    intro _
    by_cases hl : l = []
    · subst hl
      refine ⟨a, List.mem_cons_self, fun u' hu => ?_⟩
      rcases List.mem_cons.mp hu with h | h
      · subst h; exact Or.inr ⟨rfl, id⟩
      · cases h
    · obtain ⟨u, hu, hall⟩ := ih hl
      by_cases hc : u.1 < a.1 ∨ (u.1 = a.1 ∧ (a.2 = true → u.2 = true))
      · refine ⟨u, List.mem_cons_of_mem _ hu, fun u' hu' => ?_⟩
        rcases List.mem_cons.mp hu' with h | h
        · subst h; exact hc
        · exact hall u' h
      · have ha : a.1 < u.1 ∨ (a.1 = u.1 ∧ (u.2 = true → a.2 = true)) := by
          rcases Rat.le_total (a := a.1) (b := u.1) with h | h
          · by_cases he : a.1 = u.1
            · right; refine ⟨he, fun _ => ?_⟩
              cases h2 : a.2 with
              | true => rfl
              | false => exact absurd (Or.inr ⟨he.symm, fun z => by rw [h2] at z; cases z⟩) hc
            · exact Or.inl (Rat.lt_of_le_of_ne h he)
          · by_cases he : u.1 = a.1
            · right; refine ⟨he.symm, fun _ => ?_⟩
              cases h2 : a.2 with
              | true => rfl
              | false => exact absurd (Or.inr ⟨he, fun z => by rw [h2] at z; cases z⟩) hc
            · exact absurd (Or.inl (Rat.lt_of_le_of_ne h he)) hc
        refine ⟨a, List.mem_cons_self, fun u' hu' => ?_⟩
        rcases List.mem_cons.mp hu' with h | h
        · subst h; exact Or.inr ⟨rfl, id⟩
        · rcases ha with h1 | ⟨h1, h2⟩ <;> rcases hall u' h with h3 | ⟨h3, h4⟩
          · left; grind
          · left; grind
          · left; grind
          · right; exact ⟨h1.trans h3, fun z => h2 (h4 z)⟩
def gub (u : Rat × Bool) (y : Rat) : Prop := if u.2 = true then y < u.1 else y ≤ u.1
def glb (w : Rat × Bool) (y : Rat) : Prop := if w.2 = true then w.1 < y else w.1 ≤ y
theorem gub_of {u u' : Rat × Bool} {y : Rat} (h : u.1 < u'.1 ∨ (u.1 = u'.1 ∧ (u'.2 = true → u.2 = true))) (hy : gub u y) : gub u' y := by
  unfold gub at *
  cases h1 : u.2 <;> cases h2 : u'.2 <;> simp only [h1, h2, if_true, if_false, Bool.false_eq_true, reduceIte] at * <;> grind
theorem glb_of {w w' : Rat × Bool} {y : Rat} (h : -w.1 < -w'.1 ∨ (-w.1 = -w'.1 ∧ (w'.2 = true → w.2 = true))) (hy : glb w y) : glb w' y := by
  unfold glb at *
  cases h1 : w.2 <;> cases h2 : w'.2 <;> simp only [h1, h2, if_true, if_false, Bool.false_eq_true, reduceIte] at * <;> grind
theorem g_tightL (V : List (Rat × Bool)) (h : V ≠ []) : ∃ w ∈ V, ∀ w' ∈ V, -w.1 < -w'.1 ∨ (-w.1 = -w'.1 ∧ (w'.2 = true → w.2 = true)) := by
  obtain ⟨u, hu, hall⟩ := g_tight (V.map (fun w => (-w.1, w.2))) (fun e => h (List.map_eq_nil_iff.mp e))
  obtain ⟨w, hw, rfl⟩ := List.mem_map.mp hu
  exact ⟨w, hw, fun w' hw' => hall (-w'.1, w'.2) (List.mem_map.mpr ⟨w', hw', rfl⟩)⟩
theorem g_between (U V : List (Rat × Bool)) (h : ∀ u ∈ U, ∀ w ∈ V, if (u.2 || w.2) = true then w.1 < u.1 else w.1 ≤ u.1) : ∃ y : Rat, (∀ u ∈ U, gub u y) ∧ ∀ w ∈ V, glb w y := by
  by_cases hU : U = []
  · by_cases hV : V = []
    · subst hU hV
      exact ⟨0, fun u hu => (by cases hu), fun w hw => (by cases hw)⟩
    · obtain ⟨w, hw, hall⟩ := g_tightL V hV
      subst hU
      refine ⟨w.1 + 1, fun u hu => (by cases hu), fun w' hw' => glb_of (hall w' hw') ?_⟩
      unfold glb; split <;> grind
  · obtain ⟨u, hu, hallU⟩ := g_tight U hU
    by_cases hV : V = []
    · subst hV
      refine ⟨u.1 - 1, fun u' hu' => gub_of (hallU u' hu') ?_, fun w hw => (by cases hw)⟩
      unfold gub; split <;> grind
    · obtain ⟨w, hw, hallV⟩ := g_tightL V hV
      have huw := h u hu w hw
      by_cases hs : (u.2 || w.2) = true
      · rw [if_pos hs] at huw
        refine ⟨(u.1 + w.1) / 2, fun u' hu' => gub_of (hallU u' hu') ?_, fun w' hw' => glb_of (hallV w' hw') ?_⟩
        · unfold gub; split <;> grind
        · unfold glb; split <;> grind
      · rw [if_neg hs] at huw
        have hs' : u.2 = false ∧ w.2 = false := by simpa using hs
        refine ⟨u.1, fun u' hu' => gub_of (hallU u' hu') ?_, fun w' hw' => glb_of (hallV w' hw') ?_⟩
        · unfold gub; rw [hs'.1]; simp
        · unfold glb; rw [hs'.2]; simpa using huw
/-- members in two unknowns s, t: p s + q t <= c. The unknown s goes. -/
abbrev gT : Type := Rat × Rat × Rat × Bool
def gts (m : gT) (s t : Rat) : Prop := if m.2.2.2 = true then m.1 * s + m.2.1 * t < m.2.2.1 else m.1 * s + m.2.1 * t ≤ m.2.2.1
theorem g_elim (l : List gT) (t : Rat) : (∃ s, ∀ m ∈ l, gts m s t) ↔ (∀ m ∈ l, m.1 = 0 → gdm m.2.1 m.2.2.1 m.2.2.2 t) ∧ ∀ i ∈ l, ∀ j ∈ l, 0 < i.1 → j.1 < 0 → gdm (-j.1 * i.2.1 + i.1 * j.2.1) (-j.1 * i.2.2.1 + i.1 * j.2.2.1) (i.2.2.2 || j.2.2.2) t := by
  constructor
  · rintro ⟨s, hs⟩
    refine ⟨fun m hm h0 => ?_, fun i hi j hj hp hn => ?_⟩
    · have := hs m hm
      unfold gts at this; unfold gdm
      rw [h0] at this
      split <;> rename_i hb
      · rw [if_pos hb] at this; grind
      · rw [if_neg hb] at this; grind
    · have h1 := hs i hi
      have h2 := hs j hj
      unfold gts at h1 h2; unfold gdm
      have hn' : 0 < -j.1 := by grind
      have e : (-j.1 * i.2.1 + i.1 * j.2.1) * t = -j.1 * (i.1 * s + i.2.1 * t) + i.1 * (j.1 * s + j.2.1 * t) := by grind
      rw [e]
      cases hb1 : i.2.2.2 <;> cases hb2 : j.2.2.2 <;> simp only [hb1, hb2, Bool.or_self, Bool.or_true, Bool.true_or, Bool.or_false, Bool.false_or, if_true, Bool.false_eq_true, if_false, reduceIte] at h1 h2 ⊢
      · have a1 := Rat.mul_le_mul_of_nonneg_left h1 (Rat.le_of_lt hn')
        have a2 := Rat.mul_le_mul_of_nonneg_left h2 (Rat.le_of_lt hp)
        grind
      · have a1 := Rat.mul_le_mul_of_nonneg_left h1 (Rat.le_of_lt hn')
        have a2 := Rat.mul_lt_mul_of_pos_left h2 hp
        grind
      · have a1 := Rat.mul_lt_mul_of_pos_left h1 hn'
        have a2 := Rat.mul_le_mul_of_nonneg_left h2 (Rat.le_of_lt hp)
        grind
      · have a1 := Rat.mul_lt_mul_of_pos_left h1 hn'
        have a2 := Rat.mul_lt_mul_of_pos_left h2 hp
        grind
  · rintro ⟨h0, hpn⟩
    have key := g_between ((l.filter (fun m => decide (0 < m.1))).map (fun m => ((m.2.2.1 - m.2.1 * t) / m.1, m.2.2.2))) ((l.filter (fun m => decide (m.1 < 0))).map (fun m => ((m.2.2.1 - m.2.1 * t) / m.1, m.2.2.2))) (by
      intro u hu w hw
      obtain ⟨i, hi, rfl⟩ := List.mem_map.mp hu
      obtain ⟨j, hj, rfl⟩ := List.mem_map.mp hw
      obtain ⟨hi, hp⟩ := List.mem_filter.mp hi
      obtain ⟨hj, hn⟩ := List.mem_filter.mp hj
      have hp : 0 < i.1 := by simpa using hp
      have hn : j.1 < 0 := by simpa using hn
      have hn' : 0 < -j.1 := by grind
      have h1 := hpn i hi j hj hp hn
      unfold gdm at h1
      have ei : (i.2.2.1 - i.2.1 * t) / i.1 * i.1 = i.2.2.1 - i.2.1 * t := Rat.div_mul_cancel (Rat.ne_of_gt hp)
      have ej : (j.2.2.1 - j.2.1 * t) / j.1 * j.1 = j.2.2.1 - j.2.1 * t := Rat.div_mul_cancel (Rat.ne_of_lt hn)
      generalize (i.2.2.1 - i.2.1 * t) / i.1 = a at ei
      generalize (j.2.2.1 - j.2.1 * t) / j.1 = b at ej
      have hm : 0 < -j.1 * i.1 := Rat.mul_pos hn' hp
      have e1 : -j.1 * i.1 * a = -j.1 * (i.2.2.1 - i.2.1 * t) := by rw [← ei]; grind
      have e2 : -j.1 * i.1 * b = -i.1 * (j.2.2.1 - j.2.1 * t) := by rw [← ej]; grind
      show if (i.2.2.2 || j.2.2.2) = true then b < a else b ≤ a
      split <;> rename_i hb
      · rw [if_pos hb] at h1
        exact (Rat.mul_lt_mul_left hm).mp (by rw [e1, e2]; grind)
      · rw [if_neg hb] at h1
        exact Rat.le_of_mul_le_mul_left (by rw [e1, e2]; grind) hm)
    obtain ⟨s, hU, hV⟩ := key
    refine ⟨s, fun m hm => ?_⟩
    rcases Rat.le_total (a := m.1) (b := 0) with h | h
    · by_cases he : m.1 = 0
      · have := h0 m hm he
        unfold gdm at this; unfold gts
        rw [he]
        split <;> rename_i hb
        · rw [if_pos hb] at this; grind
        · rw [if_neg hb] at this; grind
      · have hn : m.1 < 0 := Rat.lt_of_le_of_ne h he
        have h1 := hV _ (List.mem_map.mpr ⟨m, List.mem_filter.mpr ⟨hm, by simpa using hn⟩, rfl⟩)
        have e : (m.2.2.1 - m.2.1 * t) / m.1 * m.1 = m.2.2.1 - m.2.1 * t := Rat.div_mul_cancel (Rat.ne_of_lt hn)
        unfold glb at h1; unfold gts
        generalize (m.2.2.1 - m.2.1 * t) / m.1 = b at e h1
        have hn' : 0 < -m.1 := by grind
        split <;> rename_i hb
        · rw [if_pos hb] at h1
          have := Rat.mul_lt_mul_of_pos_left h1 hn'
          grind
        · rw [if_neg hb] at h1
          have := Rat.mul_le_mul_of_nonneg_left h1 (Rat.le_of_lt hn')
          grind
    · by_cases he : m.1 = 0
      · have := h0 m hm he
        unfold gdm at this; unfold gts
        rw [he]
        split <;> rename_i hb
        · rw [if_pos hb] at this; grind
        · rw [if_neg hb] at this; grind
      · have hp : 0 < m.1 := Rat.lt_of_le_of_ne h (Ne.symm he)
        have h1 := hU _ (List.mem_map.mpr ⟨m, List.mem_filter.mpr ⟨hm, by simpa using hp⟩, rfl⟩)
        have e : (m.2.2.1 - m.2.1 * t) / m.1 * m.1 = m.2.2.1 - m.2.1 * t := Rat.div_mul_cancel (Rat.ne_of_gt hp)
        unfold gub at h1; unfold gts
        generalize (m.2.2.1 - m.2.1 * t) / m.1 = b at e h1
        split <;> rename_i hb
        · rw [if_pos hb] at h1
          have := Rat.mul_lt_mul_of_pos_left h1 hp
          grind
        · rw [if_neg hb] at h1
          have := Rat.mul_le_mul_of_nonneg_left h1 (Rat.le_of_lt hp)
          grind
end
section
/-! Points out of corners and ways, at one value of a form. -/
theorem gcl_mid {q : gC} {x y x' y' : Rat} (h : gcl q x y) (h' : gcl q x' y') : gcl q ((x + x') / 2) ((y + y') / 2) := by
  unfold gcl at *
  have e : gv q ((x + x') / 2) ((y + y') / 2) = (gv q x y + gv q x' y') / 2 := by unfold gv; grind
  rw [e]; grind
theorem gv_mid (q : gC) (x y x' y' : Rat) : gv q ((x + x') / 2) ((y + y') / 2) = (gv q x y + gv q x' y') / 2 := by unfold gv; grind
theorem gv_add (q : gC) (x y dx dy : Rat) : gv q (x + dx) (y + dy) = gv q x y + gv q dx dy := by unfold gv; grind
theorem g_mix (p q v : Rat) (l : List gC) : ∀ (K : List gC), (∀ k ∈ K, k ∈ l) → (∃ x y : Rat, (∀ m ∈ l, gcl m x y) ∧ p * x + q * y = v) →
    (∀ k ∈ K, (∃ x y : Rat, (∀ m ∈ l, gcl m x y) ∧ p * x + q * y = v ∧ gv k x y < gk k) ∨ (∃ dx dy : Rat, (∀ m ∈ l, gv m dx dy ≤ 0) ∧ p * dx + q * dy = 0 ∧ gv k dx dy < 0)) →
    ∃ x y : Rat, (∀ m ∈ l, gcl m x y) ∧ p * x + q * y = v ∧ ∀ k ∈ K, gv k x y < gk k := by
  intro K
  induction K with
  | nil =>
    intro _ h0 _
    obtain ⟨x, y, h1, h2⟩ := h0
    exact ⟨x, y, h1, h2, fun k hk => (by cases hk)⟩
  | cons k K ih =>
    intro hK h0 hw
    obtain ⟨x, y, hf, hv, hs⟩ := ih (fun a ha => hK a (List.mem_cons_of_mem _ ha)) h0 (fun a ha => hw a (List.mem_cons_of_mem _ ha))
    have hkl := hK k List.mem_cons_self
    rcases hw k List.mem_cons_self with ⟨x', y', hf', hv', hk'⟩ | ⟨dx, dy, hr, hz, hk'⟩
    · refine ⟨(x + x') / 2, (y + y') / 2, fun m hm => gcl_mid (hf m hm) (hf' m hm), by grind, fun a ha => ?_⟩
      rw [gv_mid]
      rcases List.mem_cons.mp ha with e | e
      · subst e
        have := hf _ hkl
        unfold gcl at this; grind
      · have h1 := hs a e
        have h2 := hf' a (hK a ha)
        unfold gcl at h2; grind
    · refine ⟨x + dx, y + dy, fun m hm => ?_, by grind, fun a ha => ?_⟩
      · unfold gcl; rw [gv_add]
        have h1 := hf m hm
        have h2 := hr m hm
        unfold gcl at h1; grind
      · rw [gv_add]
        rcases List.mem_cons.mp ha with e | e
        · subst e
          have := hf _ hkl
          unfold gcl at this; grind
        · have h1 := hs a e
          have h2 := hr a (hK a ha)
          grind
/-- a corner: where two members that aren't parallel meet, and all hold but for strictness; a way: along a member's line, none is left -/
def gCor (l : List gC) (x y : Rat) : Prop := (∃ i ∈ l, ∃ j ∈ l, gcr i j ≠ 0 ∧ gv i x y = gk i ∧ gv j x y = gk j) ∧ ∀ m ∈ l, gcl m x y
def gWay (l : List gC) (dx dy : Rat) : Prop := (∃ i ∈ l, gway i dx dy) ∧ ∀ m ∈ l, gv m dx dy ≤ 0
def gNb (l : List gC) : Prop := l ≠ [] ∧ ∀ q ∈ l, ∃ j ∈ l, gcr j q ≠ 0
theorem g_lp2 {l : List gC} (hn : gNb l) {x y : Rat} (hf : ∀ m ∈ l, gcl m x y) (p1 q1 p2 q2 : Rat) : (∃ x' y' : Rat, gCor l x' y' ∧ gle p1 q1 p2 q2 x' y' x y) ∨ ∃ dx dy : Rat, gWay l dx dy ∧ gng p1 q1 p2 q2 dx dy := by
  obtain ⟨hne, hz⟩ := hn
  obtain ⟨i0, hi0⟩ := List.exists_mem_of_ne_nil l hne
  rcases g_lp l i0 hi0 hz x y hf p1 q1 p2 q2 with ⟨i, hi, j, hj, hne, x', y', h1, h2, h3, h4⟩ | ⟨i, hi, dx, dy, h1, h2, h3⟩
  · exact Or.inl ⟨x', y', ⟨⟨i, hi, j, hj, hne, h2, h3⟩, h1⟩, h4⟩
  · exact Or.inr ⟨dx, dy, ⟨⟨i, hi, h1⟩, h2⟩, h3⟩
theorem gst_iff {q : gC} {x y : Rat} : gst q x y ↔ gcl q x y ∧ (q.2.2.2 = true → gv q x y < gk q) := by
  unfold gst gcl
  constructor
  · intro h
    split at h <;> rename_i hb
    · exact ⟨Rat.le_of_lt h, fun _ => h⟩
    · exact ⟨h, fun z => absurd z hb⟩
  · rintro ⟨h1, h2⟩
    split <;> rename_i hb
    · exact h2 hb
    · exact h1
/-- points where a form has a value: told by the corners and ways of that value -/
theorem g_at {l : List gC} (hn : gNb l) (p q v : Rat) (hlow : ∀ x y : Rat, gCor l x y → v ≤ p * x + q * y) (hway : ∀ dx dy : Rat, gWay l dx dy → 0 ≤ p * dx + q * dy) :
    (∃ x y : Rat, (∀ m ∈ l, gst m x y) ∧ p * x + q * y = v) ↔ (∃ x y : Rat, gCor l x y ∧ p * x + q * y = v) ∧ ∀ k ∈ l, k.2.2.2 = true → (∃ x y : Rat, gCor l x y ∧ p * x + q * y = v ∧ gv k x y < gk k) ∨ ∃ dx dy : Rat, gWay l dx dy ∧ p * dx + q * dy = 0 ∧ gv k dx dy < 0 := by
  constructor
  · rintro ⟨x, y, hs, hv⟩
    have hf : ∀ m ∈ l, gcl m x y := fun m hm => gst_cl (hs m hm)
    refine ⟨?_, fun k hk hb => ?_⟩
    · rcases g_lp2 hn hf p q 0 0 with ⟨x', y', h1, h2⟩ | ⟨dx, dy, h1, h2⟩
      · refine ⟨x', y', h1, ?_⟩
        have := hlow x' y' h1
        unfold gle at h2; grind
      · have := hway dx dy h1
        unfold gng at h2; grind
    · have hk1 := (gst_iff.mp (hs k hk)).2 hb
      rcases g_lp2 hn hf p q (k.1 : Rat) (k.2.1 : Rat) with ⟨x', y', h1, h2⟩ | ⟨dx, dy, h1, h2⟩
      · refine Or.inl ⟨x', y', h1, ?_⟩
        have := hlow x' y' h1
        unfold gle at h2; unfold gv at hk1 ⊢
        constructor <;> grind
      · refine Or.inr ⟨dx, dy, h1, ?_⟩
        have := hway dx dy h1
        unfold gng at h2; unfold gv
        constructor <;> grind
  · rintro ⟨⟨x0, y0, h0, hv0⟩, hk⟩
    obtain ⟨x, y, h1, h2, h3⟩ := g_mix p q v l (l.filter (fun k => k.2.2.2)) (fun k h => (List.mem_filter.mp h).1) ⟨x0, y0, h0.2, hv0⟩ (fun k h => by
      obtain ⟨ha, hb⟩ := List.mem_filter.mp h
      rcases hk k ha hb with ⟨x, y, c1, c2, c3⟩ | ⟨dx, dy, c1, c2, c3⟩
      · exact Or.inl ⟨x, y, c1.2, c2, c3⟩
      · exact Or.inr ⟨dx, dy, c1.2, c2, c3⟩)
    exact ⟨x, y, fun m hm => gst_iff.mpr ⟨h1 m hm, fun hb => h3 m (List.mem_filter.mpr ⟨hm, hb⟩)⟩, h2⟩
/-- whether there are points, by corners and ways -/
theorem g_sat_corners {l : List gC} (hn : gNb l) : gSat l ↔ (∃ x y : Rat, gCor l x y) ∧ ∀ k ∈ l, k.2.2.2 = true → (∃ x y : Rat, gCor l x y ∧ gv k x y < gk k) ∨ ∃ dx dy : Rat, gWay l dx dy ∧ gv k dx dy < 0 := by
  have h := g_at hn 0 0 0 (fun x y _ => by grind) (fun x y _ => by grind)
  constructor
  · rintro ⟨x, y, hs⟩
    obtain ⟨⟨x0, y0, h0, -⟩, hk⟩ := h.mp ⟨x, y, hs, by grind⟩
    refine ⟨⟨x0, y0, h0⟩, fun k hk1 hb => ?_⟩
    rcases hk k hk1 hb with ⟨x, y, c1, -, c3⟩ | ⟨dx, dy, c1, -, c3⟩
    · exact Or.inl ⟨x, y, c1, c3⟩
    · exact Or.inr ⟨dx, dy, c1, c3⟩
  · rintro ⟨⟨x0, y0, h0⟩, hk⟩
    obtain ⟨x, y, hs, -⟩ := h.mpr ⟨⟨x0, y0, h0, by grind⟩, fun k hk1 hb => by
      rcases hk k hk1 hb with ⟨x, y, c1, c3⟩ | ⟨dx, dy, c1, c3⟩
      · exact Or.inl ⟨x, y, c1, by grind, c3⟩
      · exact Or.inr ⟨dx, dy, c1, by grind, c3⟩⟩
    exact ⟨x, y, hs⟩
end
section
/-! The ends of what one unknown may be, as the class holds them: top / base, base 0: none. -/
abbrev gE : Type := Int × Int × Bool
def gEs (e : gE) (t : Rat) : Prop := e.2.1 ≠ 0 → gdm (e.2.1 : Rat) (e.1 : Rat) e.2.2 t
def gEup (e : gE) (m b : Int) (s : Bool) : gE := if e.2.1 = 0 ∨ m * e.2.1 < e.1 * b ∨ (m * e.2.1 = e.1 * b ∧ s = true) then (m, b, s) else e
theorem gdm_lt {b m b' m' : Rat} {s s' : Bool} {t : Rat} (hb : 0 < b) (hb' : 0 < b') (h : m * b' < m' * b) (hd : gdm b m s t) : gdm b' m' s' t := by
  have h1 : b * t ≤ m := by unfold gdm at hd; split at hd; exact Rat.le_of_lt hd; exact hd
  have h2 : b' * t < m' := by
    have a1 := Rat.mul_le_mul_of_nonneg_left h1 (Rat.le_of_lt hb')
    have a2 : b * (b' * t) < b * m' := by grind
    exact (Rat.mul_lt_mul_left hb).mp a2
  unfold gdm; split; exact h2; exact Rat.le_of_lt h2
theorem gdm_eq {b m b' m' : Rat} {s s' : Bool} {t : Rat} (hb : 0 < b) (hb' : 0 < b') (h : m * b' = m' * b) (hs : s' = true → s = true) (hd : gdm b m s t) : gdm b' m' s' t := by
  unfold gdm at *
  cases h1 : s' with
  | true =>
    rw [hs h1] at hd
    simp only [if_true] at *
    have a1 := Rat.mul_lt_mul_of_pos_left hd hb'
    exact (Rat.mul_lt_mul_left hb).mp (by grind)
  | false =>
    simp only [Bool.false_eq_true, if_false]
    have h3 : b * t ≤ m := by split at hd; exact Rat.le_of_lt hd; exact hd
    have a1 := Rat.mul_le_mul_of_nonneg_left h3 (Rat.le_of_lt hb')
    exact Rat.le_of_mul_le_mul_left (show b * (b' * t) ≤ b * m' by grind) hb
theorem gEup_s {e : gE} {m b : Int} {s : Bool} {t : Rat} (he : 0 ≤ e.2.1) (hb : 0 < b) : gEs (gEup e m b s) t ↔ gEs e t ∧ gdm (b : Rat) (m : Rat) s t := by
  have hbR : (0 : Rat) < (b : Rat) := Rat.intCast_pos.mpr hb
  unfold gEup
  by_cases h0 : e.2.1 = 0
  · rw [if_pos (Or.inl h0)]
    constructor
    · intro h; exact ⟨fun z => absurd h0 z, h (by show b ≠ 0; omega)⟩
    · rintro ⟨-, h⟩ -; exact h
  · have hep : 0 < e.2.1 := by omega
    have heR : (0 : Rat) < (e.2.1 : Rat) := Rat.intCast_pos.mpr hep
    by_cases h1 : m * e.2.1 < e.1 * b
    · rw [if_pos (Or.inr (Or.inl h1))]
      have h1R : (m : Rat) * (e.2.1 : Rat) < (e.1 : Rat) * (b : Rat) := by
        have := Rat.intCast_lt_intCast.mpr h1
        simpa [Rat.intCast_mul] using this
      constructor
      · intro h
        have h := h (by show b ≠ 0; omega)
        exact ⟨fun _ => gdm_lt hbR heR h1R h, h⟩
      · rintro ⟨-, h⟩ -; exact h
    · by_cases h2 : m * e.2.1 = e.1 * b
      · have h2R : (m : Rat) * (e.2.1 : Rat) = (e.1 : Rat) * (b : Rat) := by
          have := congrArg (fun z : Int => (z : Rat)) h2
          simpa [Rat.intCast_mul] using this
        cases hs : s with
        | true =>
          rw [if_pos (Or.inr (Or.inr ⟨h2, rfl⟩))]
          constructor
          · intro h
            have h := h (by show b ≠ 0; omega)
            exact ⟨fun _ => gdm_eq hbR heR h2R (fun _ => rfl) h, h⟩
          · rintro ⟨-, h⟩ -; exact h
        | false =>
          rw [if_neg (by rintro (h | h | h); exact h0 h; exact h1 h; exact absurd h.2 (by decide))]
          constructor
          · intro h
            exact ⟨h, gdm_eq heR hbR h2R.symm (fun z => by cases z) (h h0)⟩
          · exact fun h => h.1
      · rw [if_neg (by rintro (h | h | h); exact h0 h; exact h1 h; exact h2 h.1)]
        have h3 : e.1 * b < m * e.2.1 := by omega
        have h3R : (e.1 : Rat) * (b : Rat) < (m : Rat) * (e.2.1 : Rat) := by
          have := Rat.intCast_lt_intCast.mpr h3
          simpa [Rat.intCast_mul] using this
        constructor
        · intro h
          exact ⟨h, gdm_lt heR hbR h3R (h h0)⟩
        · exact fun h => h.1
/-- between an end above and an end below (of -t) something is left -/
def gGap (e f : gE) : Prop := e.2.1 = 0 ∨ f.2.1 = 0 ∨ 0 < e.1 * f.2.1 + f.1 * e.2.1 ∨ (e.1 * f.2.1 + f.1 * e.2.1 = 0 ∧ e.2.2 = false ∧ f.2.2 = false)
theorem gGap_iff {e f : gE} (he : 0 ≤ e.2.1) (hf : 0 ≤ f.2.1) : gGap e f ↔ ∃ t : Rat, gEs e t ∧ gEs f (-t) := by
  have toI : ∀ a b c d : Int, (a : Rat) * b + (c : Rat) * d = ((a * b + c * d : Int) : Rat) := fun a b c d => by
    rw [Rat.intCast_add, Rat.intCast_mul, Rat.intCast_mul]
  constructor
  · intro h
    by_cases e0 : e.2.1 = 0
    · by_cases f0 : f.2.1 = 0
      · exact ⟨0, fun z => absurd e0 z, fun z => absurd f0 z⟩
      · have hfR : (0 : Rat) < (f.2.1 : Rat) := Rat.intCast_pos.mpr (by omega)
        refine ⟨-((f.1 : Rat) / (f.2.1 : Rat) - 1), fun z => absurd e0 z, fun _ => ?_⟩
        have hd : (f.1 : Rat) / (f.2.1 : Rat) * (f.2.1 : Rat) = (f.1 : Rat) := Rat.div_mul_cancel (Rat.ne_of_gt hfR)
        unfold gdm; split <;> grind
    · have heR : (0 : Rat) < (e.2.1 : Rat) := Rat.intCast_pos.mpr (by omega)
      have hd : (e.1 : Rat) / (e.2.1 : Rat) * (e.2.1 : Rat) = (e.1 : Rat) := Rat.div_mul_cancel (Rat.ne_of_gt heR)
      by_cases f0 : f.2.1 = 0
      · refine ⟨(e.1 : Rat) / (e.2.1 : Rat) - 1, fun _ => ?_, fun z => absurd f0 z⟩
        unfold gdm; split <;> grind
      · have hfR : (0 : Rat) < (f.2.1 : Rat) := Rat.intCast_pos.mpr (by omega)
        have hd2 : (f.1 : Rat) / (f.2.1 : Rat) * (f.2.1 : Rat) = (f.1 : Rat) := Rat.div_mul_cancel (Rat.ne_of_gt hfR)
        have hm := Rat.mul_pos heR hfR
        rcases h with h | h | h | ⟨h, h1, h2⟩
        · exact absurd h e0
        · exact absurd h f0
        · have hR : (0 : Rat) < (e.1 : Rat) * (f.2.1 : Rat) + (f.1 : Rat) * (e.2.1 : Rat) := by rw [toI]; exact Rat.intCast_pos.mpr h
          generalize (e.1 : Rat) / (e.2.1 : Rat) = a at hd
          generalize (f.1 : Rat) / (f.2.1 : Rat) = b at hd2
          have hab : 0 < a + b := by
            apply g_mulpos (a := (e.2.1 : Rat) * (f.2.1 : Rat)) (Rat.le_of_lt hm)
            rw [← hd, ← hd2] at hR; grind
          have h4 := Rat.mul_pos heR hab
          have h5 := Rat.mul_pos hfR hab
          refine ⟨(a - b) / 2, fun _ => ?_, fun _ => ?_⟩
          · unfold gdm; split <;> grind
          · unfold gdm; split <;> grind
        · have hR : (e.1 : Rat) * (f.2.1 : Rat) + (f.1 : Rat) * (e.2.1 : Rat) = 0 := by rw [toI, h]; rfl
          generalize (e.1 : Rat) / (e.2.1 : Rat) = a at hd
          generalize (f.1 : Rat) / (f.2.1 : Rat) = b at hd2
          have hab : a + b = 0 := by
            have h6 : (e.2.1 : Rat) * (f.2.1 : Rat) * (a + b) = 0 := by rw [← hd, ← hd2] at hR; grind
            rcases Rat.mul_eq_zero.mp h6 with h7 | h7
            · exact absurd h7 (Rat.ne_of_gt hm)
            · exact h7
          refine ⟨a, fun _ => ?_, fun _ => ?_⟩
          · unfold gdm; rw [h1]; simp only [Bool.false_eq_true, if_false]; grind
          · unfold gdm; rw [h2]; simp only [Bool.false_eq_true, if_false]
            have : -a = b := by grind
            rw [this]; grind
  · rintro ⟨t, h1, h2⟩
    unfold gGap
    by_cases e0 : e.2.1 = 0
    · exact Or.inl e0
    · by_cases f0 : f.2.1 = 0
      · exact Or.inr (Or.inl f0)
      · have heR : (0 : Rat) < (e.2.1 : Rat) := Rat.intCast_pos.mpr (by omega)
        have hfR : (0 : Rat) < (f.2.1 : Rat) := Rat.intCast_pos.mpr (by omega)
        have h1 := h1 e0
        have h2 := h2 f0
        right; right
        unfold gdm at h1 h2
        have key : ∀ z : Int, ((e.1 * f.2.1 + f.1 * e.2.1 : Int) : Rat) = (z : Rat) → e.1 * f.2.1 + f.1 * e.2.1 = z := fun z h => Rat.intCast_inj.mp h
        have c1 : (e.2.1 : Rat) * t ≤ (e.1 : Rat) := by split at h1; exact Rat.le_of_lt h1; exact h1
        have c2 : (f.2.1 : Rat) * (-t) ≤ (f.1 : Rat) := by split at h2; exact Rat.le_of_lt h2; exact h2
        have a1 := Rat.mul_le_mul_of_nonneg_left c1 (Rat.le_of_lt hfR)
        have a2 := Rat.mul_le_mul_of_nonneg_left c2 (Rat.le_of_lt heR)
        have hnn : (0 : Rat) ≤ ((e.1 * f.2.1 + f.1 * e.2.1 : Int) : Rat) := by rw [← toI]; grind
        have hnn : 0 ≤ e.1 * f.2.1 + f.1 * e.2.1 := Rat.intCast_nonneg.mp hnn
        by_cases hz : e.1 * f.2.1 + f.1 * e.2.1 = 0
        · right
          have hzR : (e.1 : Rat) * (f.2.1 : Rat) + (f.1 : Rat) * (e.2.1 : Rat) = 0 := by rw [toI, hz]; rfl
          refine ⟨hz, ?_, ?_⟩
          · cases hs : e.2.2 with
            | false => rfl
            | true =>
              rw [hs] at h1
              simp only [if_true] at h1
              have := Rat.mul_lt_mul_of_pos_left h1 hfR
              exfalso; grind
          · cases hs : f.2.2 with
            | false => rfl
            | true =>
              rw [hs] at h2
              simp only [if_true] at h2
              have := Rat.mul_lt_mul_of_pos_left h2 heR
              exfalso; grind
        · left; omega
end
section
/-! Rows of members: their order, the one that says most, the normal form. -/
def gklt (p q : gC) : Prop := p.1 < q.1 ∨ (p.1 = q.1 ∧ p.2.1 < q.2.1)
def gkeq (p q : gC) : Prop := p.1 = q.1 ∧ p.2.1 = q.2.1
theorem gk_tri (p q : gC) : gklt p q ∨ gkeq p q ∨ gklt q p := by unfold gklt gkeq; omega
theorem gklt_asym {p q : gC} (h : gklt p q) : ¬ gklt q p := by unfold gklt at *; omega
theorem gklt_irr {p : gC} : ¬ gklt p p := by unfold gklt; omega
theorem gklt_trans {p q r : gC} (h : gklt p q) (h' : gklt q r) : gklt p r := by unfold gklt at *; omega
theorem gklt_ne {p q : gC} (h : gklt p q) : ¬ gkeq p q := by unfold gklt gkeq at *; omega
theorem g_uniq : ∀ (l l' : List gC), l.Pairwise gklt → l'.Pairwise gklt → (∀ q, q ∈ l ↔ q ∈ l') → l = l' := by
  intro l
  induction l with
  | nil =>
    intro l' _ _ h
    cases l' with
    | nil => rfl
    | cons b t => exact absurd ((h b).mpr List.mem_cons_self) List.not_mem_nil
  | cons a t ih =>
    intro l' hp hp' h
    cases l' with
    | nil => exact absurd ((h a).mp List.mem_cons_self) List.not_mem_nil
    | cons b t' =>
      obtain ⟨h1, h2⟩ := List.pairwise_cons.mp hp
      obtain ⟨h3, h4⟩ := List.pairwise_cons.mp hp'
      have hab : a = b := by
        rcases List.mem_cons.mp ((h a).mp List.mem_cons_self) with e | e
        · exact e
        · rcases List.mem_cons.mp ((h b).mpr List.mem_cons_self) with e' | e'
          · exact e'.symm
          · exact absurd (h3 a e) (gklt_asym (h1 b e'))
      subst hab
      have : t = t' := ih t' h2 h4 (fun q => by
        constructor
        · intro hq
          rcases List.mem_cons.mp ((h q).mp (List.mem_cons_of_mem _ hq)) with e | e
          · subst e; exact absurd (h1 q hq) gklt_irr
          · exact e
        · intro hq
          rcases List.mem_cons.mp ((h q).mpr (List.mem_cons_of_mem _ hq)) with e | e
          · subst e; exact absurd (h3 q hq) gklt_irr
          · exact e)
      rw [this]
/-- of those with its a and b it says most -/
def gBest (ms : List gC) (q : gC) : Prop := (∃ m ∈ ms, gkeq m q ∧ m.2.2.1 = q.2.2.1) ∧ (∀ m ∈ ms, gkeq m q → q.2.2.1 ≤ m.2.2.1) ∧ (q.2.2.2 = true ↔ ∃ m ∈ ms, gkeq m q ∧ m.2.2.1 = q.2.2.1 ∧ m.2.2.2 = true)
/-- a normal form's list for some members: in order, each the best of its kind -/
def gCan (ms l : List gC) : Prop := l.Pairwise gklt ∧ ∀ q, q ∈ l ↔ gBest ms q
theorem gCan_uniq {ms l l' : List gC} (h : gCan ms l) (h' : gCan ms l') : l = l' := g_uniq l l' h.1 h'.1 (fun q => (h.2 q).trans (h'.2 q).symm)
theorem gCan_perm {ms ms' l : List gC} (hm : ∀ q, q ∈ ms ↔ q ∈ ms') (h : gCan ms l) : gCan ms' l := by
  refine ⟨h.1, fun q => (h.2 q).trans ?_⟩
  unfold gBest
  simp only [hm]
theorem gCan_nil : gCan [] [] := ⟨List.Pairwise.nil, fun q => ⟨fun h => (by cases h), fun h => (by obtain ⟨⟨m, hm, _⟩, _⟩ := h; cases hm)⟩⟩
theorem gCan_key {ms l : List gC} (h : gCan ms l) {m : gC} (hm : m ∈ ms) : ∃ q ∈ l, gkeq m q := by
  -- the best one of m's kind
  have key : ∀ (n : Nat) (m : gC), m ∈ ms → (∀ k : gC, k ∈ ms → gkeq k m → m.2.2.1 - n ≤ k.2.2.1) → ∃ q, gBest ms q ∧ gkeq m q := by
    intro n
    induction n with
    | zero =>
      intro m hm hlow
      by_cases hs : ∃ k ∈ ms, gkeq k m ∧ k.2.2.1 = m.2.2.1 ∧ k.2.2.2 = true
      · refine ⟨(m.1, m.2.1, m.2.2.1, true), ⟨⟨m, hm, ⟨rfl, rfl⟩, rfl⟩, fun k hk hkm => ?_, ?_⟩, rfl, rfl⟩
        · have := hlow k hk hkm; show m.2.2.1 ≤ _; omega
        · exact ⟨fun _ => hs, fun _ => rfl⟩
      · refine ⟨(m.1, m.2.1, m.2.2.1, false), ⟨⟨m, hm, ⟨rfl, rfl⟩, rfl⟩, fun k hk hkm => ?_, ?_⟩, rfl, rfl⟩
        · have := hlow k hk hkm; show m.2.2.1 ≤ _; omega
        · exact ⟨fun z => (by cases z), fun z => absurd z hs⟩
    | succ n ih =>
      intro m hm hlow
      by_cases hx : ∃ k ∈ ms, gkeq k m ∧ k.2.2.1 < m.2.2.1
      · obtain ⟨k, hk, hkm, hlt⟩ := hx
        obtain ⟨q, hq, hqk⟩ := ih k hk (fun k' hk' hkk => by
          have := hlow k' hk' ⟨hkk.1.trans hkm.1, hkk.2.trans hkm.2⟩
          omega)
        exact ⟨q, hq, hkm.1.symm.trans hqk.1, hkm.2.symm.trans hqk.2⟩
      · exact ih m hm (fun k hk hkm => by
          have : ¬ k.2.2.1 < m.2.2.1 := fun z => hx ⟨k, hk, hkm, z⟩
          omega)
  have hbound : ∃ n : Nat, ∀ k : gC, k ∈ ms → gkeq k m → m.2.2.1 - n ≤ k.2.2.1 := by
    clear key h hm
    induction ms with
    | nil => exact ⟨0, fun k hk => by cases hk⟩
    | cons a t ih =>
      obtain ⟨n, hn⟩ := ih
      refine ⟨n + (m.2.2.1 - a.2.2.1).toNat, fun k hk hkm => ?_⟩
      rcases List.mem_cons.mp hk with e | e
      · subst e; omega
      · have := hn k e hkm; omega
  obtain ⟨n, hn⟩ := hbound
  obtain ⟨q, hq, hmq⟩ := key n m hm hn
  exact ⟨q, (h.2 q).mpr hq, hmq⟩
/-- one member more, as the class lays it in -/
def gstr (q m : gC) : gC := if m.2.2.1 < q.2.2.1 then (q.1, q.2.1, m.2.2.1, m.2.2.2) else if m.2.2.1 = q.2.2.1 ∧ m.2.2.2 = true then (q.1, q.2.1, q.2.2.1, true) else q
def gins : List gC → gC → List gC
  | [], m => [m]
  | q :: l, m => if q.1 < m.1 ∨ (q.1 = m.1 ∧ q.2.1 < m.2.1) then q :: gins l m else if q.1 = m.1 ∧ q.2.1 = m.2.1 then gstr q m :: l else m :: q :: l
theorem gstr_key (q m : gC) : (gstr q m).1 = q.1 ∧ (gstr q m).2.1 = q.2.1 := by unfold gstr; split; exact ⟨rfl, rfl⟩; split; exact ⟨rfl, rfl⟩; exact ⟨rfl, rfl⟩
theorem gins_mem {m : gC} : ∀ {l : List gC}, l.Pairwise gklt → ∀ q, q ∈ gins l m ↔ (q ∈ l ∧ ¬ gkeq q m) ∨ (∃ p ∈ l, gkeq p m ∧ q = gstr p m) ∨ ((∀ p ∈ l, ¬ gkeq p m) ∧ q = m) := by
  intro l
  induction l with
  | nil =>
    intro _ q
    constructor
    · intro h; exact Or.inr (Or.inr ⟨fun p hp => (by cases hp), List.mem_singleton.mp h⟩)
    · rintro (⟨h, _⟩ | ⟨p, hp, _⟩ | ⟨_, h⟩)
      · cases h
      · cases hp
      · exact List.mem_singleton.mpr h
  | cons a t ih =>
    intro hp q
    obtain ⟨h1, h2⟩ := List.pairwise_cons.mp hp
    have ih := ih h2 q
    show q ∈ (if a.1 < m.1 ∨ (a.1 = m.1 ∧ a.2.1 < m.2.1) then a :: gins t m else if a.1 = m.1 ∧ a.2.1 = m.2.1 then gstr a m :: t else m :: a :: t) ↔ _
    by_cases c1 : gklt a m
    · rw [if_pos (show a.1 < m.1 ∨ (a.1 = m.1 ∧ a.2.1 < m.2.1) from c1)]
      have hna : ¬ gkeq a m := gklt_ne c1
      constructor
      · intro h
        rcases List.mem_cons.mp h with e | e
        · exact Or.inl ⟨by rw [e]; exact List.mem_cons_self, by rw [e]; exact hna⟩
        · rcases ih.mp e with ⟨e1, e2⟩ | ⟨p, e1, e2, e3⟩ | ⟨e1, e2⟩
          · exact Or.inl ⟨List.mem_cons_of_mem _ e1, e2⟩
          · exact Or.inr (Or.inl ⟨p, List.mem_cons_of_mem _ e1, e2, e3⟩)
          · refine Or.inr (Or.inr ⟨fun p hp => ?_, e2⟩)
            rcases List.mem_cons.mp hp with z | z
            · rw [z]; exact hna
            · exact e1 p z
      · rintro (⟨e1, e2⟩ | ⟨p, e1, e2, e3⟩ | ⟨e1, e2⟩)
        · rcases List.mem_cons.mp e1 with z | z
          · rw [z]; exact List.mem_cons_self
          · exact List.mem_cons_of_mem _ (ih.mpr (Or.inl ⟨z, e2⟩))
        · rcases List.mem_cons.mp e1 with z | z
          · rw [z] at e2; exact absurd e2 hna
          · exact List.mem_cons_of_mem _ (ih.mpr (Or.inr (Or.inl ⟨p, z, e2, e3⟩)))
        · exact List.mem_cons_of_mem _ (ih.mpr (Or.inr (Or.inr ⟨fun p hp => e1 p (List.mem_cons_of_mem _ hp), e2⟩)))
    · rw [if_neg (show ¬ (a.1 < m.1 ∨ (a.1 = m.1 ∧ a.2.1 < m.2.1)) from c1)]
      by_cases c2 : gkeq a m
      · rw [if_pos (show a.1 = m.1 ∧ a.2.1 = m.2.1 from c2)]
        have hnt : ∀ p ∈ t, ¬ gkeq p m := fun p hp h => by
          have := h1 p hp
          unfold gklt at this; unfold gkeq at h c2; omega
        constructor
        · intro h
          rcases List.mem_cons.mp h with e | e
          · exact Or.inr (Or.inl ⟨a, List.mem_cons_self, c2, e⟩)
          · exact Or.inl ⟨List.mem_cons_of_mem _ e, hnt q e⟩
        · rintro (⟨e1, e2⟩ | ⟨p, e1, e2, e3⟩ | ⟨e1, e2⟩)
          · rcases List.mem_cons.mp e1 with z | z
            · rw [z] at e2; exact absurd c2 e2
            · exact List.mem_cons_of_mem _ z
          · rcases List.mem_cons.mp e1 with z | z
            · rw [e3, z]; exact List.mem_cons_self
            · exact absurd e2 (hnt p z)
          · exact absurd c2 (e1 a List.mem_cons_self)
      · rw [if_neg (show ¬ (a.1 = m.1 ∧ a.2.1 = m.2.1) from c2)]
        have c3 : gklt m a := by rcases gk_tri a m with h | h | h; exact absurd h c1; exact absurd h c2; exact h
        have hn : ∀ p ∈ a :: t, ¬ gkeq p m := fun p hp h => by
          rcases List.mem_cons.mp hp with z | z
          · rw [z] at h; exact c2 h
          · have := gklt_trans c3 (h1 p z)
            unfold gklt at this; unfold gkeq at h; omega
        constructor
        · intro h
          rcases List.mem_cons.mp h with e | e
          · exact Or.inr (Or.inr ⟨hn, e⟩)
          · exact Or.inl ⟨e, hn q e⟩
        · rintro (⟨e1, e2⟩ | ⟨p, e1, e2, e3⟩ | ⟨e1, e2⟩)
          · exact List.mem_cons_of_mem _ e1
          · exact absurd e2 (hn p e1)
          · rw [e2]; exact List.mem_cons_self
theorem gins_key {m : gC} : ∀ {l : List gC} {q : gC}, q ∈ gins l m → gkeq q m ∨ q ∈ l := by
  intro l
  induction l with
  | nil => intro q h; rw [List.mem_singleton.mp h]; exact Or.inl ⟨rfl, rfl⟩
  | cons a t ih =>
    intro q h
    unfold gins at h
    split at h
    · rcases List.mem_cons.mp h with e | e
      · exact Or.inr (by rw [e]; exact List.mem_cons_self)
      · rcases ih e with z | z
        · exact Or.inl z
        · exact Or.inr (List.mem_cons_of_mem _ z)
    · split at h
      · rename_i h2
        rcases List.mem_cons.mp h with e | e
        · have := gstr_key a m
          exact Or.inl (by rw [e]; exact ⟨this.1.trans h2.1, this.2.trans h2.2⟩)
        · exact Or.inr (List.mem_cons_of_mem _ e)
      · rcases List.mem_cons.mp h with e | e
        · exact Or.inl (by rw [e]; exact ⟨rfl, rfl⟩)
        · exact Or.inr e
theorem gins_sorted {m : gC} : ∀ {l : List gC}, l.Pairwise gklt → (gins l m).Pairwise gklt := by
  intro l
  induction l with
  | nil => intro _; exact List.pairwise_singleton _ _
  | cons a t ih =>
    intro hp
    obtain ⟨h1, h2⟩ := List.pairwise_cons.mp hp
    unfold gins
    split
    · rename_i c
      refine List.pairwise_cons.mpr ⟨fun q hq => ?_, ih h2⟩
      rcases gins_key hq with z | z
      · unfold gklt; unfold gkeq at z; omega
      · exact h1 q z
    · rename_i c
      split
      · rename_i c2
        have hk := gstr_key a m
        refine List.pairwise_cons.mpr ⟨fun q hq => ?_, h2⟩
        have := h1 q hq
        unfold gklt at *; omega
      · rename_i c2
        refine List.pairwise_cons.mpr ⟨fun q hq => ?_, hp⟩
        rcases List.mem_cons.mp hq with z | z
        · rw [z]; unfold gklt; omega
        · have := h1 q z
          unfold gklt at *; omega
theorem gBest_uniq {ms : List gC} {q q' : gC} (h : gBest ms q) (h' : gBest ms q') (hk : gkeq q q') : q = q' := by
  obtain ⟨⟨m, hm, hmq, hmc⟩, hle, hs⟩ := h
  obtain ⟨⟨m', hm', hmq', hmc'⟩, hle', hs'⟩ := h'
  have c1 := hle m' hm' ⟨hmq'.1.trans hk.1.symm, hmq'.2.trans hk.2.symm⟩
  have c2 := hle' m hm ⟨hmq.1.trans hk.1, hmq.2.trans hk.2⟩
  have hc : q.2.2.1 = q'.2.2.1 := by omega
  have hb : q.2.2.2 = true ↔ q'.2.2.2 = true := by
    rw [hs, hs']
    constructor
    · rintro ⟨k, hk1, hk2, hk3, hk4⟩
      exact ⟨k, hk1, ⟨hk2.1.trans hk.1, hk2.2.trans hk.2⟩, hk3.trans hc, hk4⟩
    · rintro ⟨k, hk1, hk2, hk3, hk4⟩
      exact ⟨k, hk1, ⟨hk2.1.trans hk.1.symm, hk2.2.trans hk.2.symm⟩, hk3.trans hc.symm, hk4⟩
  have hb : q.2.2.2 = q'.2.2.2 := Bool.eq_iff_iff.mpr hb
  obtain ⟨a, b, c, s⟩ := q
  obtain ⟨a', b', c', s'⟩ := q'
  obtain ⟨e1, e2⟩ := hk
  simp only at e1 e2 hc hb
  rw [e1, e2, hc, hb]
theorem gBest_other {ms : List gC} {m q : gC} (hn : ¬ gkeq q m) : gBest (m :: ms) q ↔ gBest ms q := by
  have hn' : ¬ gkeq m q := fun h => hn ⟨h.1.symm, h.2.symm⟩
  unfold gBest
  constructor
  · rintro ⟨⟨k, hk, hkq, hkc⟩, hle, hs⟩
    refine ⟨⟨k, ?_, hkq, hkc⟩, fun k hk => hle k (List.mem_cons_of_mem _ hk), hs.trans ⟨?_, ?_⟩⟩
    · rcases List.mem_cons.mp hk with e | e
      · rw [e] at hkq; exact absurd hkq hn'
      · exact e
    · rintro ⟨k, hk, hkq, h⟩
      rcases List.mem_cons.mp hk with e | e
      · rw [e] at hkq; exact absurd hkq hn'
      · exact ⟨k, e, hkq, h⟩
    · rintro ⟨k, hk, h⟩; exact ⟨k, List.mem_cons_of_mem _ hk, h⟩
  · rintro ⟨⟨k, hk, hkq, hkc⟩, hle, hs⟩
    refine ⟨⟨k, List.mem_cons_of_mem _ hk, hkq, hkc⟩, fun k hk hkq => ?_, hs.trans ⟨?_, ?_⟩⟩
    · rcases List.mem_cons.mp hk with e | e
      · rw [e] at hkq; exact absurd hkq hn'
      · exact hle k e hkq
    · rintro ⟨k, hk, h⟩; exact ⟨k, List.mem_cons_of_mem _ hk, h⟩
    · rintro ⟨k, hk, hkq, h⟩
      rcases List.mem_cons.mp hk with e | e
      · rw [e] at hkq; exact absurd hkq hn'
      · exact ⟨k, e, hkq, h⟩
theorem gBest_gstr {ms : List gC} {p m : gC} (h : gBest ms p) (hk : gkeq p m) : gBest (m :: ms) (gstr p m) := by
  obtain ⟨⟨k, hk1, hk2, hk3⟩, hle, hs⟩ := h
  unfold gkeq at hk hk2
  unfold gstr
  split
  · rename_i c
    refine ⟨⟨m, List.mem_cons_self, ⟨hk.1.symm, hk.2.symm⟩, rfl⟩, fun k' hk' hkk => ?_, ?_⟩
    · rcases List.mem_cons.mp hk' with e | e
      · rw [e]; exact Int.le_refl _
      · have := hle k' e hkk; show m.2.2.1 ≤ _; omega
    · constructor
      · intro hb; exact ⟨m, List.mem_cons_self, ⟨hk.1.symm, hk.2.symm⟩, rfl, hb⟩
      · rintro ⟨k', hk', hkk, hkc, hb⟩
        rcases List.mem_cons.mp hk' with e | e
        · rw [e] at hb; exact hb
        · have := hle k' e hkk
          have hkc : k'.2.2.1 = m.2.2.1 := hkc
          omega
  · rename_i c
    split
    · rename_i c2
      refine ⟨⟨m, List.mem_cons_self, ⟨hk.1.symm, hk.2.symm⟩, c2.1⟩, fun k' hk' hkk => ?_, ?_⟩
      · rcases List.mem_cons.mp hk' with e | e
        · rw [e]; show p.2.2.1 ≤ _; omega
        · exact hle k' e hkk
      · exact ⟨fun _ => ⟨m, List.mem_cons_self, ⟨hk.1.symm, hk.2.symm⟩, c2.1, c2.2⟩, fun _ => rfl⟩
    · rename_i c2
      refine ⟨⟨k, List.mem_cons_of_mem _ hk1, hk2, hk3⟩, fun k' hk' hkk => ?_, hs.trans ⟨?_, ?_⟩⟩
      · rcases List.mem_cons.mp hk' with e | e
        · rw [e]; omega
        · exact hle k' e hkk
      · rintro ⟨k', hk', h⟩; exact ⟨k', List.mem_cons_of_mem _ hk', h⟩
      · rintro ⟨k', hk', hkk, hkc, hb⟩
        rcases List.mem_cons.mp hk' with e | e
        · rw [e] at hkc hb; exact absurd ⟨hkc, hb⟩ c2
        · exact ⟨k', e, hkk, hkc, hb⟩
theorem gCan_ins {ms l : List gC} {m : gC} (h : gCan ms l) : gCan (m :: ms) (gins l m) := by
  refine ⟨gins_sorted h.1, fun q => ?_⟩
  rw [gins_mem h.1]
  by_cases hq : gkeq q m
  · constructor
    · rintro (⟨_, e⟩ | ⟨p, e1, e2, e3⟩ | ⟨e1, e2⟩)
      · exact absurd hq e
      · rw [e3]; exact gBest_gstr ((h.2 p).mp e1) e2
      · subst e2
        have hno : ∀ k ∈ ms, ¬ gkeq k q := fun k hk hkq => by
          obtain ⟨p, hp, hkp⟩ := gCan_key h hk
          exact e1 p hp ⟨hkp.1.symm.trans hkq.1, hkp.2.symm.trans hkq.2⟩
        refine ⟨⟨q, List.mem_cons_self, ⟨rfl, rfl⟩, rfl⟩, fun k hk hkq => ?_, ⟨fun hb => ⟨q, List.mem_cons_self, ⟨rfl, rfl⟩, rfl, hb⟩, ?_⟩⟩
        · rcases List.mem_cons.mp hk with e | e
          · rw [e]; exact Int.le_refl _
          · exact absurd hkq (hno k e)
        · rintro ⟨k, hk, hkq, _, hb⟩
          rcases List.mem_cons.mp hk with e | e
          · rw [e] at hb; exact hb
          · exact absurd hkq (hno k e)
    · intro hb
      by_cases hx : ∃ p ∈ l, gkeq p m
      · obtain ⟨p, hp, hpm⟩ := hx
        refine Or.inr (Or.inl ⟨p, hp, hpm, gBest_uniq hb (gBest_gstr ((h.2 p).mp hp) hpm) ?_⟩)
        have := gstr_key p m
        exact ⟨hq.1.trans (hpm.1.symm.trans this.1.symm), hq.2.trans (hpm.2.symm.trans this.2.symm)⟩
      · have e1 : ∀ p ∈ l, ¬ gkeq p m := fun p hp h => hx ⟨p, hp, h⟩
        refine Or.inr (Or.inr ⟨e1, ?_⟩)
        have hno : ∀ k ∈ ms, ¬ gkeq k m := fun k hk hkq => by
          obtain ⟨p, hp, hkp⟩ := gCan_key h hk
          exact e1 p hp ⟨hkp.1.symm.trans hkq.1, hkp.2.symm.trans hkq.2⟩
        have hm : gBest (m :: ms) m := by
          refine ⟨⟨m, List.mem_cons_self, ⟨rfl, rfl⟩, rfl⟩, fun k hk hkq => ?_, ⟨fun hb => ⟨m, List.mem_cons_self, ⟨rfl, rfl⟩, rfl, hb⟩, ?_⟩⟩
          · rcases List.mem_cons.mp hk with e | e
            · rw [e]; exact Int.le_refl _
            · exact absurd hkq (hno k e)
          · rintro ⟨k, hk, hkq, _, hb⟩
            rcases List.mem_cons.mp hk with e | e
            · rw [e] at hb; exact hb
            · exact absurd hkq (hno k e)
        exact gBest_uniq hb hm hq
  · rw [gBest_other hq, ← h.2 q]
    constructor
    · rintro (⟨e, _⟩ | ⟨p, e1, e2, e3⟩ | ⟨_, e2⟩)
      · exact e
      · have := gstr_key p m
        exact absurd (show gkeq q m from by rw [e3]; exact ⟨this.1.trans e2.1, this.2.trans e2.2⟩) hq
      · exact absurd (show gkeq q m from by rw [e2]; exact ⟨rfl, rfl⟩) hq
    · intro e; exact Or.inl ⟨e, hq⟩
end
section
/-! Longs and ints as whole numbers. -/
theorem l_bm {v : Int} (h1 : -9223372036854775808 ≤ v) (h2 : v < 9223372036854775808) : v.bmod (2 ^ 64) = v := by
  rw [Int.bmod_eq_of_le] <;> omega
theorem i_bm {v : Int} (h1 : -2147483648 ≤ v) (h2 : v < 2147483648) : v.bmod (2 ^ 32) = v := by
  rw [Int.bmod_eq_of_le] <;> omega
theorem l_add {x y : Int64} (h1 : -9223372036854775808 ≤ x.toInt + y.toInt) (h2 : x.toInt + y.toInt < 9223372036854775808) : (x + y).toInt = x.toInt + y.toInt := by rw [Int64.toInt_add, l_bm h1 h2]
theorem l_sub {x y : Int64} (h1 : -9223372036854775808 ≤ x.toInt - y.toInt) (h2 : x.toInt - y.toInt < 9223372036854775808) : (x - y).toInt = x.toInt - y.toInt := by rw [Int64.toInt_sub, l_bm h1 h2]
theorem l_mul {x y : Int64} (h1 : -9223372036854775808 ≤ x.toInt * y.toInt) (h2 : x.toInt * y.toInt < 9223372036854775808) : (x * y).toInt = x.toInt * y.toInt := by rw [Int64.toInt_mul, l_bm h1 h2]
theorem l_neg {x : Int64} (h : -9223372036854775808 < x.toInt) : (-x).toInt = -x.toInt := by
  have := Int64.toInt_lt x
  rw [Int64.toInt_neg, l_bm (by omega) (by omega)]
theorem i_add {x y : Int32} (h1 : -2147483648 ≤ x.toInt + y.toInt) (h2 : x.toInt + y.toInt < 2147483648) : (x + y).toInt = x.toInt + y.toInt := by rw [Int32.toInt_add, i_bm h1 h2]
theorem i_sub {x y : Int32} (h1 : -2147483648 ≤ x.toInt - y.toInt) (h2 : x.toInt - y.toInt < 2147483648) : (x - y).toInt = x.toInt - y.toInt := by rw [Int32.toInt_sub, i_bm h1 h2]
theorem i_mul {x y : Int32} (h1 : -2147483648 ≤ x.toInt * y.toInt) (h2 : x.toInt * y.toInt < 2147483648) : (x * y).toInt = x.toInt * y.toInt := by rw [Int32.toInt_mul, i_bm h1 h2]
theorem i_neg {x : Int32} (h : -2147483648 < x.toInt) : (-x).toInt = -x.toInt := by
  have := Int32.toInt_lt x
  rw [Int32.toInt_neg, i_bm (by omega) (by omega)]
/-- products within a bound -/
theorem g_mulb {a b A B : Int} (ha : -A ≤ a ∧ a ≤ A) (hb : -B ≤ b ∧ b ≤ B) : -(A * B) ≤ a * b ∧ a * b ≤ A * B := by
  have hA : 0 ≤ A := by omega
  have hB : 0 ≤ B := by omega
  have h1 := Int.mul_nonneg (show 0 ≤ A - a by omega) (show 0 ≤ B - b by omega)
  have h2 := Int.mul_nonneg (show 0 ≤ A - a by omega) (show 0 ≤ B + b by omega)
  have h3 := Int.mul_nonneg (show 0 ≤ A + a by omega) (show 0 ≤ B - b by omega)
  have h4 := Int.mul_nonneg (show 0 ≤ A + a by omega) (show 0 ≤ B + b by omega)
  grind
theorem l_abs {x : Int64} (h : -9223372036854775808 < x.toInt) : (if 0 < x then x else -x) = lN x.toInt.natAbs := by
  have hb := Int64.toInt_lt x
  apply Int64.toInt_inj.mp
  rw [pk_lT (by omega)]
  by_cases h0 : 0 < x
  · rw [if_pos h0]
    have : (0 : Int64).toInt < x.toInt := Int64.lt_iff_toInt_lt.mp h0
    have h00 : (0 : Int64).toInt = 0 := by decide
    omega
  · rw [if_neg h0, l_neg h]
    have : ¬ (0 : Int64).toInt < x.toInt := fun z => h0 (Int64.lt_iff_toInt_lt.mpr z)
    have h00 : (0 : Int64).toInt = 0 := by decide
    omega
/-- Euclid's steps -/
theorem g_euclid {a b : Nat} (hb : 0 < b) (hab : b < a) : b * (a % b) * 2 ≤ a * b := by
  have h1 := Nat.mod_lt a hb
  have h2 := Nat.div_add_mod a b
  have h3 : 1 ≤ a / b := (Nat.one_le_div_iff hb).mpr (by omega)
  have h4 : b * 1 ≤ b * (a / b) := Nat.mul_le_mul_left b h3
  have h5 : 2 * (a % b) ≤ a := by omega
  have h6 := Nat.mul_le_mul_left b h5
  grind
end
section
/-! Infima of a form over a row: what its members bound from below. -/
/-- a bound from below: base t >= top, or > -/
def gLb (T B : Rat) (k : Bool) (t : Rat) : Prop := if k = true then T ≤ B * t else T < B * t
/-- an end below, as the class holds it; base 0: none -/
def gLo (e : gE) (t : Rat) : Prop := e.2.1 ≠ 0 → gLb (e.1 : Rat) (e.2.1 : Rat) e.2.2 t
def gRs (e : gE) (T B : Int) (k : Bool) : gE := if e.2.1 = 0 ∨ e.1 * B < T * e.2.1 then (T, B, k) else if T * e.2.1 = e.1 * B ∧ k = false then (e.1, e.2.1, false) else e
theorem gLb_lt {T B T' B' t : Rat} {k k' : Bool} (hB : 0 < B) (hB' : 0 < B') (h : T' * B < T * B') (hd : gLb T B k t) : gLb T' B' k' t := by
  have h1 : T ≤ B * t := by unfold gLb at hd; split at hd; exact hd; exact Rat.le_of_lt hd
  have h2 : T' < B' * t := by
    have a1 := Rat.mul_le_mul_of_nonneg_left h1 (Rat.le_of_lt hB')
    exact (Rat.mul_lt_mul_left hB).mp (show B * T' < B * (B' * t) by grind)
  unfold gLb; split; exact Rat.le_of_lt h2; exact h2
theorem gLb_eq {T B T' B' t : Rat} {k k' : Bool} (hB : 0 < B) (hB' : 0 < B') (h : T' * B = T * B') (hk : k' = false → k = false) (hd : gLb T B k t) : gLb T' B' k' t := by
  unfold gLb at *
  cases h1 : k' with
  | false =>
    rw [hk h1] at hd
    simp only [Bool.false_eq_true, if_false] at *
    have a1 := Rat.mul_lt_mul_of_pos_left hd hB'
    exact (Rat.mul_lt_mul_left hB).mp (by grind)
  | true =>
    simp only [if_true]
    have h3 : T ≤ B * t := by split at hd; exact hd; exact Rat.le_of_lt hd
    have a1 := Rat.mul_le_mul_of_nonneg_left h3 (Rat.le_of_lt hB')
    exact Rat.le_of_mul_le_mul_left (show B * T' ≤ B * (B' * t) by grind) hB
theorem castM {a b c d : Int} (h : a * b < c * d) : (a : Rat) * (b : Rat) < (c : Rat) * (d : Rat) := by
  have := Rat.intCast_lt_intCast.mpr h
  simpa [Rat.intCast_mul] using this
theorem castE {a b c d : Int} (h : a * b = c * d) : (a : Rat) * (b : Rat) = (c : Rat) * (d : Rat) := by
  have := congrArg (fun z : Int => (z : Rat)) h
  simpa [Rat.intCast_mul] using this
theorem gRs_lo {e : gE} {T B : Int} {k : Bool} {t : Rat} (he : 0 ≤ e.2.1) (hB : 0 < B) : gLo (gRs e T B k) t ↔ gLo e t ∧ gLb (T : Rat) (B : Rat) k t := by
  have hbR : (0 : Rat) < (B : Rat) := Rat.intCast_pos.mpr hB
  have hB0 : B ≠ 0 := by omega
  unfold gRs
  by_cases h0 : e.2.1 = 0
  · rw [if_pos (Or.inl h0)]
    exact ⟨fun h => ⟨fun z => absurd h0 z, h hB0⟩, fun h _ => h.2⟩
  · have heR : (0 : Rat) < (e.2.1 : Rat) := Rat.intCast_pos.mpr (by omega)
    by_cases h1 : e.1 * B < T * e.2.1
    · rw [if_pos (Or.inr h1)]
      exact ⟨fun h => ⟨fun _ => gLb_lt hbR heR (castM h1) (h hB0), h hB0⟩, fun h _ => h.2⟩
    · rw [if_neg (by rintro (h | h); exact h0 h; exact h1 h)]
      by_cases h2 : T * e.2.1 = e.1 * B
      · cases hk : k with
        | false =>
          rw [if_pos ⟨h2, rfl⟩]
          constructor
          · intro h
            have h := h h0
            exact ⟨fun _ => gLb_eq heR heR rfl (fun _ => rfl) h, gLb_eq heR hbR (castE h2) (fun _ => rfl) h⟩
          · rintro ⟨-, h⟩ -
            exact gLb_eq hbR heR (castE h2).symm (fun _ => rfl) h
        | true =>
          rw [if_neg (fun z => by cases z.2)]
          exact ⟨fun h => ⟨h, gLb_eq heR hbR (castE h2) (fun z => by cases z) (h h0)⟩, fun h => h.1⟩
      · rw [if_neg (fun z => h2 z.1)]
        exact ⟨fun h => ⟨h, gLb_lt heR hbR (castM (by omega)) (h h0)⟩, fun h => h.1⟩
theorem gRs_pos {e : gE} {T B : Int} {k : Bool} (he : 0 ≤ e.2.1) (hB : 0 < B) : 0 < (gRs e T B k).2.1 := by
  unfold gRs
  split
  · exact hB
  · rename_i h
    have : e.2.1 ≠ 0 := fun z => h (Or.inl z)
    split
    · show 0 < e.2.1; omega
    · show 0 < e.2.1; omega
theorem g_sqpos {a : Int} (h : a ≠ 0) : 0 < a * a := by
  rcases Int.lt_or_gt_of_ne h with h1 | h1
  · have := Int.mul_pos (show 0 < -a by omega) (show 0 < -a by omega)
    have e : (-a) * (-a) = a * a := by grind
    omega
  · exact Int.mul_pos h1 h1
def gsd (f g : Int) (m : gC) : Int := m.2.1 * f - m.1 * g
def gal (f g : Int) (m : gC) : Int := m.1 * f + m.2.1 * g
def gtn (p q : gC) : Int := p.1 * q.2.1 - p.2.1 * q.1
def gtp (f g : Int) (p q : gC) : Int := p.2.2.1 * gsd f g q - q.2.2.1 * gsd f g p
theorem gdm_scale {n m N t : Rat} {s : Bool} (hN : 0 < N) : gdm (N * n) (N * m) s t ↔ gdm n m s t := by
  unfold gdm
  have e : N * n * t = N * (n * t) := by grind
  rw [e]
  split
  · exact Rat.mul_lt_mul_left hN
  · exact ⟨fun h => Rat.le_of_mul_le_mul_left h hN, fun h => Rat.mul_le_mul_of_nonneg_left h (Rat.le_of_lt hN)⟩
/-- which values the form takes -/
theorem g_rot (l : List gC) (f g : Int) (hfg : ¬ (f = 0 ∧ g = 0)) (t : Rat) : (∃ x y : Rat, (∀ m ∈ l, gst m x y) ∧ (f : Rat) * x + (g : Rat) * y = t) ↔
    (∀ m ∈ l, gsd f g m = 0 → gdm ((gal f g m : Int) : Rat) (((f * f + g * g) * m.2.2.1 : Int) : Rat) m.2.2.2 t) ∧ ∀ i ∈ l, ∀ j ∈ l, 0 < gsd f g i → gsd f g j < 0 → gdm ((-gtn i j : Int) : Rat) ((-gtp f g i j : Int) : Rat) (i.2.2.2 || j.2.2.2) t := by
  have hN0 : 0 < f * f + g * g := by
    by_cases h1 : f = 0
    · have h2 : g ≠ 0 := fun z => hfg ⟨h1, z⟩
      have := g_sqpos h2 
      subst h1; omega
    · have h2 := g_sqpos h1
      have h3 : 0 ≤ g * g := by
        by_cases hg : g = 0
        · rw [hg]; decide
        · exact Int.le_of_lt (g_sqpos hg)
      omega
  have hN : (0 : Rat) < ((f * f + g * g : Int) : Rat) := Rat.intCast_pos.mpr hN0
  generalize hNe : ((f * f + g * g : Int) : Rat) = N at hN
  have hNd : N = (f : Rat) * (f : Rat) + (g : Rat) * (g : Rat) := by rw [← hNe]; push_cast; grind
  have hNne : N ≠ 0 := Rat.ne_of_gt hN
  have h := g_elim (l.map (fun m : gC => (((gsd f g m : Int) : Rat), ((gal f g m : Int) : Rat), N * ((m.2.2.1 : Int) : Rat), m.2.2.2))) t
  have sd : ∀ m : gC, ((gsd f g m : Int) : Rat) = (m.2.1 : Rat) * (f : Rat) - (m.1 : Rat) * (g : Rat) := fun m => by unfold gsd; push_cast; grind
  have al : ∀ m : gC, ((gal f g m : Int) : Rat) = (m.1 : Rat) * (f : Rat) + (m.2.1 : Rat) * (g : Rat) := fun m => by unfold gal; push_cast; grind
  have e1 : (∃ x y : Rat, (∀ m ∈ l, gst m x y) ∧ (f : Rat) * x + (g : Rat) * y = t) ↔ ∃ s, ∀ m ∈ l.map (fun m : gC => (((gsd f g m : Int) : Rat), ((gal f g m : Int) : Rat), N * ((m.2.2.1 : Int) : Rat), m.2.2.2)), gts m s t := by
    constructor
    · rintro ⟨x, y, hxy, ht⟩
      refine ⟨-(g : Rat) * x + (f : Rat) * y, fun k hk => ?_⟩
      obtain ⟨m, hm, rfl⟩ := List.mem_map.mp hk
      have h1 := hxy m hm
      unfold gst gv gk at h1
      unfold gts
      simp only
      rw [sd, al]
      have e : ((m.2.1 : Rat) * (f : Rat) - (m.1 : Rat) * (g : Rat)) * (-(g : Rat) * x + (f : Rat) * y) + ((m.1 : Rat) * (f : Rat) + (m.2.1 : Rat) * (g : Rat)) * t = N * ((m.1 : Rat) * x + (m.2.1 : Rat) * y) := by
        rw [← ht, hNd]; grind
      rw [e]
      split at h1 <;> rename_i hb
      · rw [if_pos hb]; exact Rat.mul_lt_mul_of_pos_left h1 hN
      · rw [if_neg hb]; exact Rat.mul_le_mul_of_nonneg_left h1 (Rat.le_of_lt hN)
    · rintro ⟨s, hs⟩
      have c1 : ((f : Rat) * t - (g : Rat) * s) / N * N = (f : Rat) * t - (g : Rat) * s := Rat.div_mul_cancel hNne
      have c2 : ((g : Rat) * t + (f : Rat) * s) / N * N = (g : Rat) * t + (f : Rat) * s := Rat.div_mul_cancel hNne
      generalize ((f : Rat) * t - (g : Rat) * s) / N = x at c1
      generalize ((g : Rat) * t + (f : Rat) * s) / N = y at c2
      refine ⟨x, y, fun m hm => ?_, ?_⟩
      · have h1 := hs _ (List.mem_map.mpr ⟨m, hm, rfl⟩)
        unfold gts at h1
        simp only at h1
        rw [sd, al] at h1
        have e : ((m.2.1 : Rat) * (f : Rat) - (m.1 : Rat) * (g : Rat)) * s + ((m.1 : Rat) * (f : Rat) + (m.2.1 : Rat) * (g : Rat)) * t = N * ((m.1 : Rat) * x + (m.2.1 : Rat) * y) := by grind
        rw [e] at h1
        unfold gst gv gk
        split at h1 <;> rename_i hb
        · rw [if_pos hb]; exact (Rat.mul_lt_mul_left hN).mp h1
        · rw [if_neg hb]; exact Rat.le_of_mul_le_mul_left h1 hN
      · have e : N * ((f : Rat) * x + (g : Rat) * y) = N * t := by
          have : N * ((f : Rat) * x + (g : Rat) * y) = (f : Rat) * (x * N) + (g : Rat) * (y * N) := by grind
          rw [this, c1, c2, hNd]; grind
        have e2 : ((f : Rat) * x + (g : Rat) * y) * N / N = t * N / N := by rw [Rat.mul_comm _ N, e, Rat.mul_comm N t]
        rw [Rat.mul_div_cancel hNne, Rat.mul_div_cancel hNne] at e2
        exact e2
  rw [e1, h]
  have pr : ∀ i j : gC, -((gsd f g j : Int) : Rat) * ((gal f g i : Int) : Rat) + ((gsd f g i : Int) : Rat) * ((gal f g j : Int) : Rat) = N * ((-gtn i j : Int) : Rat) := fun i j => by
    rw [sd, sd, al, al, hNd]; unfold gtn; push_cast; grind
  have pc : ∀ i j : gC, -((gsd f g j : Int) : Rat) * (N * ((i.2.2.1 : Int) : Rat)) + ((gsd f g i : Int) : Rat) * (N * ((j.2.2.1 : Int) : Rat)) = N * ((-gtp f g i j : Int) : Rat) := fun i j => by
    unfold gtp; push_cast; grind
  have cN : ∀ m : gC, N * ((m.2.2.1 : Int) : Rat) = (((f * f + g * g) * m.2.2.1 : Int) : Rat) := fun m => by rw [← hNe]; push_cast; grind
  constructor
  · rintro ⟨h0, hp⟩
    refine ⟨fun m hm hz => ?_, fun i hi j hj h1 h2 => ?_⟩
    · have := h0 _ (List.mem_map.mpr ⟨m, hm, rfl⟩) (by simp only; rw [hz]; rfl)
      simp only at this
      rw [cN] at this; exact this
    · have := hp _ (List.mem_map.mpr ⟨i, hi, rfl⟩) _ (List.mem_map.mpr ⟨j, hj, rfl⟩) (Rat.intCast_pos.mpr h1) (Rat.intCast_neg_iff.mpr h2)
      simp only at this
      rw [pr, pc] at this
      exact (gdm_scale hN).mp this
  · rintro ⟨h0, hp⟩
    refine ⟨fun k hk hz => ?_, fun a ha b hb h1 h2 => ?_⟩
    · obtain ⟨m, hm, rfl⟩ := List.mem_map.mp hk
      simp only at hz ⊢
      rw [cN]
      exact h0 m hm (Rat.intCast_eq_zero_iff.mp hz)
    · obtain ⟨i, hi, rfl⟩ := List.mem_map.mp ha
      obtain ⟨j, hj, rfl⟩ := List.mem_map.mp hb
      simp only at h1 h2 ⊢
      rw [pr, pc]
      exact (gdm_scale hN).mpr (hp i hi j hj (Rat.intCast_pos.mp h1) (Rat.intCast_neg_iff.mp h2))
end
section
/-! The infimum over a row, over rows; told once. -/
def gLowR (l : List gC) (f g : Int) (t : Rat) : Prop :=
  (∀ m ∈ l, gsd f g m = 0 → gal f g m < 0 → gLb ((-(m.2.2.1) * (f * f + g * g) : Int) : Rat) ((-gal f g m : Int) : Rat) (!m.2.2.2) t) ∧
  ∀ i ∈ l, ∀ j ∈ l, 0 < gsd f g i → gsd f g j < 0 → 0 < gtn i j → gLb ((gtp f g i j : Int) : Rat) ((gtn i j : Int) : Rat) (!i.2.2.2 && !j.2.2.2) t
theorem gLb_dm {T B : Int} {s : Bool} {t : Rat} : gLb (T : Rat) (B : Rat) (!s) t ↔ gdm ((-B : Int) : Rat) ((-T : Int) : Rat) s t := by
  unfold gLb gdm
  have e : ((-B : Int) : Rat) * t = -((B : Rat) * t) := by push_cast; grind
  have e2 : ((-T : Int) : Rat) = -(T : Rat) := by push_cast; rfl
  rw [e, e2]
  cases s <;> simp only [Bool.not_false, Bool.not_true, if_true, Bool.false_eq_true, if_false] <;> constructor <;> intro h <;> grind
theorem gdm_mono {n m t t0 : Rat} {s : Bool} (hn : 0 ≤ n) (ht : t ≤ t0) (h : gdm n m s t0) : gdm n m s t := by
  have a := Rat.mul_le_mul_of_nonneg_left ht hn
  unfold gdm at *
  split at h <;> rename_i hb
  · rw [if_pos hb]; grind
  · rw [if_neg hb]; grind
theorem g_row (l : List gC) (f g : Int) (hfg : ¬ (f = 0 ∧ g = 0)) (hsat : gSat l) (e : gE) (he : 0 ≤ e.2.1) (hE : ∀ t, gLo e t ↔ gLowR l f g t) :
    (e.2.1 = 0 → ∀ v : Rat, ∃ x y : Rat, (∀ m ∈ l, gst m x y) ∧ (f : Rat) * x + (g : Rat) * y < v) ∧
    (e.2.1 ≠ 0 → (∀ x y : Rat, (∀ m ∈ l, gst m x y) → (e.1 : Rat) ≤ (e.2.1 : Rat) * ((f : Rat) * x + (g : Rat) * y)) ∧ (∀ v : Rat, (e.1 : Rat) < (e.2.1 : Rat) * v → ∃ x y : Rat, (∀ m ∈ l, gst m x y) ∧ (f : Rat) * x + (g : Rat) * y < v) ∧
      (e.2.2 = true ↔ ∃ x y : Rat, (∀ m ∈ l, gst m x y) ∧ (e.2.1 : Rat) * ((f : Rat) * x + (g : Rat) * y) = (e.1 : Rat))) := by
  have rot := g_rot l f g hfg
  have low : ∀ t, (∃ x y : Rat, (∀ m ∈ l, gst m x y) ∧ (f : Rat) * x + (g : Rat) * y = t) → gLowR l f g t := by
    intro t ht
    obtain ⟨h0, hp⟩ := (rot t).mp ht
    refine ⟨fun m hm hz hn => ?_, fun i hi j hj h1 h2 h3 => ?_⟩
    · have := h0 m hm hz
      rw [gLb_dm]
      have e1 : - -gal f g m = gal f g m := Int.neg_neg _
      have e2 : -(-m.2.2.1 * (f * f + g * g)) = (f * f + g * g) * m.2.2.1 := by grind
      rw [e1, e2]; exact this
    · have := hp i hi j hj h1 h2
      rw [← Bool.not_or, gLb_dm]; exact this
  obtain ⟨x0, y0, hs0⟩ := hsat
  generalize ht0 : (f : Rat) * x0 + (g : Rat) * y0 = t0
  have h00 : ∃ x y : Rat, (∀ m ∈ l, gst m x y) ∧ (f : Rat) * x + (g : Rat) * y = t0 := ⟨x0, y0, hs0, ht0⟩
  have down : ∀ t, t ≤ t0 → gLowR l f g t → ∃ x y : Rat, (∀ m ∈ l, gst m x y) ∧ (f : Rat) * x + (g : Rat) * y = t := by
    intro t ht hl
    obtain ⟨h0, hp⟩ := (rot t0).mp h00
    refine (rot t).mpr ⟨fun m hm hz => ?_, fun i hi j hj h1 h2 => ?_⟩
    · by_cases hn : gal f g m < 0
      · have := hl.1 m hm hz hn
        rw [gLb_dm] at this
        have e1 : - -gal f g m = gal f g m := Int.neg_neg _
        have e2 : -(-m.2.2.1 * (f * f + g * g)) = (f * f + g * g) * m.2.2.1 := by grind
        rw [e1, e2] at this; exact this
      · exact gdm_mono (Rat.intCast_nonneg.mpr (by omega)) ht (h0 m hm hz)
    · by_cases hn : 0 < gtn i j
      · have := hl.2 i hi j hj h1 h2 hn
        rw [← Bool.not_or, gLb_dm] at this; exact this
      · exact gdm_mono (Rat.intCast_nonneg.mpr (by omega)) ht (hp i hi j hj h1 h2)
  constructor
  · intro hz v
    have hall : ∀ t, gLowR l f g t := fun t => (hE t).mp (fun z => absurd hz z)
    rcases Rat.le_total (a := t0) (b := v - 1) with h | h
    · exact ⟨x0, y0, hs0, by rw [ht0]; grind⟩
    · obtain ⟨x, y, h1, h2⟩ := down (v - 1) h (hall _)
      exact ⟨x, y, h1, by rw [h2]; grind⟩
  · intro hnz
    have hB : (0 : Rat) < (e.2.1 : Rat) := Rat.intCast_pos.mpr (by omega)
    have hc : (e.1 : Rat) / (e.2.1 : Rat) * (e.2.1 : Rat) = (e.1 : Rat) := Rat.div_mul_cancel (Rat.ne_of_gt hB)
    generalize (e.1 : Rat) / (e.2.1 : Rat) = L at hc
    have lb : ∀ t, gLowR l f g t → gLb (e.1 : Rat) (e.2.1 : Rat) e.2.2 t := fun t h => (hE t).mpr h hnz
    have lb1 : ∀ t, gLowR l f g t → L ≤ t := fun t h => by
      have h1 := lb t h
      have h2 : (e.1 : Rat) ≤ (e.2.1 : Rat) * t := by unfold gLb at h1; split at h1; exact h1; exact Rat.le_of_lt h1
      exact Rat.le_of_mul_le_mul_left (show (e.2.1 : Rat) * L ≤ (e.2.1 : Rat) * t by grind) hB
    refine ⟨fun x y hs => ?_, fun v hv => ?_, fun hk => ?_, fun ⟨x, y, hs, heq⟩ => ?_⟩
    · have h1 := lb _ (low _ ⟨x, y, hs, rfl⟩)
      unfold gLb at h1; split at h1; exact h1; exact Rat.le_of_lt h1
    · have hLv : L < v := (Rat.mul_lt_mul_left hB).mp (show (e.2.1 : Rat) * L < (e.2.1 : Rat) * v by grind)
      rcases Rat.le_total (a := t0) (b := (L + v) / 2) with h | h
      · exact ⟨x0, y0, hs0, by rw [ht0]; grind⟩
      · have hmid : L < (L + v) / 2 := by grind
        have hlow : gLowR l f g ((L + v) / 2) := (hE _).mp (fun _ => by
          have := Rat.mul_lt_mul_of_pos_left hmid hB
          unfold gLb; split <;> grind)
        obtain ⟨x, y, h1, h2⟩ := down _ h hlow
        exact ⟨x, y, h1, by rw [h2]; grind⟩
    · have hlow : gLowR l f g L := (hE _).mp (fun _ => by unfold gLb; rw [if_pos hk]; grind)
      obtain ⟨x, y, h1, h2⟩ := down L (lb1 t0 (low t0 h00)) hlow
      exact ⟨x, y, h1, by rw [h2]; grind⟩
    · have h1 := lb _ (low _ ⟨x, y, hs, rfl⟩)
      unfold gLb at h1
      split at h1 <;> rename_i hb
      · exact hb
      · exfalso; rw [heq] at h1; exact Rat.lt_irrefl h1
/-- the infimum of the form over some points is T / B; k: it is taken -/
def gInf (S : Rat → Rat → Prop) (f g T B : Int) (k : Bool) : Prop := 0 < B ∧ (∀ x y : Rat, S x y → (T : Rat) ≤ (B : Rat) * ((f : Rat) * x + (g : Rat) * y)) ∧ (∀ v : Rat, (T : Rat) < (B : Rat) * v → ∃ x y : Rat, S x y ∧ (f : Rat) * x + (g : Rat) * y < v) ∧
  (k = true ↔ ∃ x y : Rat, S x y ∧ (B : Rat) * ((f : Rat) * x + (g : Rat) * y) = (T : Rat))
theorem gInf_lt {S : Rat → Rat → Prop} {f g T B T' B' : Int} {k k' : Bool} (h : gInf S f g T B k) (h' : gInf S f g T' B' k') : ¬ T' * B < T * B' := by
  intro hlt
  obtain ⟨hB, hle, -, -⟩ := h
  obtain ⟨hB', -, hap, -⟩ := h'
  have b1 : (0 : Rat) < (B : Rat) := Rat.intCast_pos.mpr hB
  have b2 : (0 : Rat) < (B' : Rat) := Rat.intCast_pos.mpr hB'
  have c1 : (T : Rat) / (B : Rat) * (B : Rat) = (T : Rat) := Rat.div_mul_cancel (Rat.ne_of_gt b1)
  generalize (T : Rat) / (B : Rat) = L at c1
  have hl := castM hlt
  have : (T' : Rat) < (B' : Rat) * L := by
    apply (Rat.mul_lt_mul_left b1).mp
    have e : (B : Rat) * ((B' : Rat) * L) = (T : Rat) * (B' : Rat) := by rw [← c1]; grind
    rw [e]; grind
  obtain ⟨x, y, hs, hv⟩ := hap L this
  have h2 := hle x y hs
  have h3 := Rat.mul_lt_mul_of_pos_left hv b1
  grind
theorem gInf_uniq {S : Rat → Rat → Prop} {f g T B T' B' : Int} {k k' : Bool} (h : gInf S f g T B k) (h' : gInf S f g T' B' k') : T' * B = T * B' ∧ k = k' := by
  have e : T' * B = T * B' := by
    have h1 := gInf_lt h h'
    have h2 := gInf_lt h' h
    have e1 : T * B' = B' * T := Int.mul_comm _ _
    omega
  refine ⟨e, ?_⟩
  have b1 : (0 : Rat) < (B : Rat) := Rat.intCast_pos.mpr h.1
  have b2 : (0 : Rat) < (B' : Rat) := Rat.intCast_pos.mpr h'.1
  have eR := castE e
  have key : ∀ z : Rat, (B : Rat) * z = (T : Rat) ↔ (B' : Rat) * z = (T' : Rat) := fun z => by
    constructor
    · intro hz
      have : (B : Rat) * ((B' : Rat) * z) = (B : Rat) * (T' : Rat) := by rw [← Rat.mul_assoc, Rat.mul_comm (B : Rat), Rat.mul_assoc, hz]; grind
      have h3 := congrArg (fun q => q / (B : Rat)) this
      rw [Rat.mul_comm (B : Rat), Rat.mul_comm (B : Rat), Rat.mul_div_cancel (Rat.ne_of_gt b1), Rat.mul_div_cancel (Rat.ne_of_gt b1)] at h3
      exact h3
    · intro hz
      have : (B' : Rat) * ((B : Rat) * z) = (B' : Rat) * (T : Rat) := by rw [← Rat.mul_assoc, Rat.mul_comm (B' : Rat), Rat.mul_assoc, hz]; grind
      have h3 := congrArg (fun q => q / (B' : Rat)) this
      rw [Rat.mul_comm (B' : Rat), Rat.mul_comm (B' : Rat), Rat.mul_div_cancel (Rat.ne_of_gt b2), Rat.mul_div_cancel (Rat.ne_of_gt b2)] at h3
      exact h3
  have hk : k = true ↔ k' = true := by
    rw [h.2.2.2, h'.2.2.2]
    constructor
    · rintro ⟨x, y, h1, h2⟩; exact ⟨x, y, h1, (key _).mp h2⟩
    · rintro ⟨x, y, h1, h2⟩; exact ⟨x, y, h1, (key _).mpr h2⟩
  exact Bool.eq_iff_iff.mpr hk
/-- two sets of points: the lesser one, or both -/
def gLw (T B : Int) (k : Bool) (T' B' : Int) (k' : Bool) : gE := if T' * B < T * B' then (T', B', k') else if T' * B = T * B' ∧ k' = true then (T, B, true) else (T, B, k)
theorem gInf_or {S S' : Rat → Rat → Prop} {f g T B T' B' : Int} {k k' : Bool} (h : gInf S f g T B k) (h' : gInf S' f g T' B' k') : gInf (fun x y => S x y ∨ S' x y) f g (gLw T B k T' B' k').1 (gLw T B k T' B' k').2.1 (gLw T B k T' B' k').2.2 := by
  obtain ⟨hB, hle, hap, hk⟩ := h
  obtain ⟨hB', hle', hap', hk'⟩ := h'
  have b1 : (0 : Rat) < (B : Rat) := Rat.intCast_pos.mpr hB
  have b2 : (0 : Rat) < (B' : Rat) := Rat.intCast_pos.mpr hB'
  unfold gLw
  split <;> rename_i c1
  · have cR := castM c1
    refine ⟨hB', fun x y hs => ?_, fun v hv => ?_, hk'.trans ⟨?_, ?_⟩⟩
    · rcases hs with hs | hs
      · have h1 := Rat.mul_le_mul_of_nonneg_left (hle x y hs) (Rat.le_of_lt b2)
        exact Rat.le_of_mul_le_mul_left (show (B : Rat) * (T' : Rat) ≤ (B : Rat) * ((B' : Rat) * ((f : Rat) * x + (g : Rat) * y)) by grind) b1
      · exact hle' x y hs
    · obtain ⟨x, y, h1, h2⟩ := hap' v hv; exact ⟨x, y, Or.inr h1, h2⟩
    · rintro ⟨x, y, h1, h2⟩; exact ⟨x, y, Or.inr h1, h2⟩
    · rintro ⟨x, y, h1 | h1, h2⟩
      · exfalso
        have h3 := Rat.mul_le_mul_of_nonneg_left (hle x y h1) (Rat.le_of_lt b2)
        have h4 : (B : Rat) * ((B' : Rat) * ((f : Rat) * x + (g : Rat) * y)) = (B : Rat) * (T' : Rat) := by rw [h2]
        grind
      · exact ⟨x, y, h1, h2⟩
  · have low : ∀ x y, S' x y → (T : Rat) ≤ (B : Rat) * ((f : Rat) * x + (g : Rat) * y) := fun x y hs => by
      have h1 := Rat.mul_le_mul_of_nonneg_left (hle' x y hs) (Rat.le_of_lt b1)
      have c2 : T * B' ≤ T' * B := by omega
      have c3 : (T : Rat) * (B' : Rat) ≤ (T' : Rat) * (B : Rat) := by
        have := Rat.intCast_le_intCast.mpr c2
        simpa [Rat.intCast_mul] using this
      exact Rat.le_of_mul_le_mul_left (show (B' : Rat) * (T : Rat) ≤ (B' : Rat) * ((B : Rat) * ((f : Rat) * x + (g : Rat) * y)) by grind) b2
    split <;> rename_i c2
    · refine ⟨hB, fun x y hs => hs.elim (hle x y) (low x y), fun v hv => ?_, ⟨fun _ => ?_, fun _ => rfl⟩⟩
      · obtain ⟨x, y, h1, h2⟩ := hap v hv; exact ⟨x, y, Or.inl h1, h2⟩
      · obtain ⟨x, y, h1, h2⟩ := hk'.mp c2.2
        refine ⟨x, y, Or.inr h1, ?_⟩
        have eR := castE c2.1
        have : (B' : Rat) * ((B : Rat) * ((f : Rat) * x + (g : Rat) * y)) = (B' : Rat) * (T : Rat) := by
          rw [← Rat.mul_assoc, Rat.mul_comm (B' : Rat), Rat.mul_assoc, h2]; grind
        have h3 := congrArg (fun q => q / (B' : Rat)) this
        rw [Rat.mul_comm (B' : Rat), Rat.mul_comm (B' : Rat), Rat.mul_div_cancel (Rat.ne_of_gt b2), Rat.mul_div_cancel (Rat.ne_of_gt b2)] at h3
        exact h3
    · refine ⟨hB, fun x y hs => hs.elim (hle x y) (low x y), fun v hv => ?_, hk.trans ⟨?_, ?_⟩⟩
      · obtain ⟨x, y, h1, h2⟩ := hap v hv; exact ⟨x, y, Or.inl h1, h2⟩
      · rintro ⟨x, y, h1, h2⟩; exact ⟨x, y, Or.inl h1, h2⟩
      · rintro ⟨x, y, h1 | h1, h2⟩
        · exact ⟨x, y, h1, h2⟩
        · exfalso
          -- a point of S' at T / B: then S' has T / B as its infimum, taken
          have g1 := hle' x y h1
          have g2 : T' * B ≤ T * B' := by
            have m1 := Rat.mul_le_mul_of_nonneg_left g1 (Rat.le_of_lt b1)
            have m2 : (B : Rat) * ((B' : Rat) * ((f : Rat) * x + (g : Rat) * y)) = (B' : Rat) * (T : Rat) := by rw [← h2]; grind
            apply Rat.intCast_le_intCast.mp
            have : ((T' * B : Int) : Rat) = (B : Rat) * (T' : Rat) := by push_cast; grind
            have e2 : ((T * B' : Int) : Rat) = (B' : Rat) * (T : Rat) := by push_cast; grind
            rw [this, e2]; grind
          have g3 : T' * B = T * B' := by omega
          apply c2
          refine ⟨g3, hk'.mpr ⟨x, y, h1, ?_⟩⟩
          have eR := castE g3
          have : (B : Rat) * ((B' : Rat) * ((f : Rat) * x + (g : Rat) * y)) = (B : Rat) * (T' : Rat) := by
            rw [← Rat.mul_assoc, Rat.mul_comm (B : Rat), Rat.mul_assoc, h2]; grind
          have h3 := congrArg (fun q => q / (B : Rat)) this
          rw [Rat.mul_comm (B : Rat), Rat.mul_comm (B : Rat), Rat.mul_div_cancel (Rat.ne_of_gt b1), Rat.mul_div_cancel (Rat.ne_of_gt b1)] at h3
          exact h3
end
section
/-! Places of drafts, spans and regions. -/
def zdr (d : Nat) : Prop := d + 8 < zNP ∧ zlay d = (0, 0) ∧ zlay (d + 1) = (2, 36) ∧ zlay (d + 2) = (2, 36) ∧ zlay (d + 3) = (2, 36) ∧ zlay (d + 4) = (3, 36) ∧ zlay (d + 5) = (0, 3) ∧ zlay (d + 5 + 1) = (2, 2) ∧ zlay (d + 5 + 2) = (2, 2) ∧ zlay (d + 5 + 3) = (3, 2)
theorem zdr_3 : zdr 3 := by unfold zdr; decide
theorem zdr_13 : zdr 13 := by unfold zdr; decide
theorem zdr.o {d : Nat} (h : zdr d) : zob d 0 := ⟨by have := h.1; omega, h.2.1⟩
theorem zdr.a {d : Nat} (h : zdr d) : zar (d + 1) 2 36 := ⟨by have := h.1; omega, h.2.2.1⟩
theorem zdr.b {d : Nat} (h : zdr d) : zar (d + 2) 2 36 := ⟨by have := h.1; omega, h.2.2.2.1⟩
theorem zdr.c {d : Nat} (h : zdr d) : zar (d + 3) 2 36 := ⟨by have := h.1; omega, h.2.2.2.2.1⟩
theorem zdr.s {d : Nat} (h : zdr d) : zar (d + 4) 3 36 := ⟨by have := h.1; omega, h.2.2.2.2.2.1⟩
def zsp (p : Nat) : Prop := p + 3 < zNP ∧ zlay p = (0, 3) ∧ zlay (p + 1) = (2, 2) ∧ zlay (p + 2) = (2, 2) ∧ zlay (p + 3) = (3, 2)
theorem zdr.p {d : Nat} (h : zdr d) : zsp (d + 5) := ⟨h.1, h.2.2.2.2.2.2⟩
theorem zsp.o {p : Nat} (h : zsp p) : zob p 3 := ⟨by have := h.1; omega, h.2.1⟩
theorem zsp.t {p : Nat} (h : zsp p) : zar (p + 1) 2 2 := ⟨by have := h.1; omega, h.2.2.1⟩
theorem zsp.b {p : Nat} (h : zsp p) : zar (p + 2) 2 2 := ⟨by have := h.1; omega, h.2.2.2.1⟩
theorem zsp.s {p : Nat} (h : zsp p) : zar (p + 3) 3 2 := ⟨by have := h.1; omega, h.2.2.2.2⟩
def zrg (r : Nat) : Prop := r + 2 < zNP ∧ zlay r = (0, 2) ∧ zlay (r + 1) = (1, 12) ∧ zlay (r + 2) = (1, 576)
theorem zrg.o {r : Nat} (h : zrg r) : zob r 2 := ⟨by have := h.1; omega, h.2.1⟩
theorem zrg.z {r : Nat} (h : zrg r) : zar (r + 1) 1 12 := ⟨by have := h.1; omega, h.2.2.1⟩
theorem zrg.n {r : Nat} (h : zrg r) : zar (r + 2) 1 576 := ⟨by have := h.1; omega, h.2.2.2⟩

set_option maxRecDepth 100000 in
set_option maxHeartbeats 4000000 in
theorem cD_clear_ (l : Launch) {d : Nat} (M : zM) (hd : zdr d) : zMet l mD_clear rD_clear [.ref d] M (zqv (fun M' => M' = zsI M d 5 0)) := by
  refine za_enter (by decide) (Nat.le_of_ble_eq_true rfl) (fun X hc => ?_)
  have hdo := hd.o
  have hda := hd.a
  have hdb := hd.b
  have hdc := hd.c
  have hds := hd.s
  have hpo := hd.p.o
  refine za_aload_n hc dD_clear_0 rfl ?_
  refine za_iconst hc 0 dD_clear_1 rfl ?_
  refine za_putI hc gpD_32 (by assumption) dD_clear_2 ?_
  exact za_vret hc rfl dD_clear_5 ⟨Nat.zero_le _, Nat.zero_le _⟩ (⟨rfl, rfl⟩)

set_option maxRecDepth 100000 in
set_option maxHeartbeats 4000000 in
theorem cD_memberCount_ (l : Launch) {d : Nat} (M : zM) (hd : zdr d) : zMet l mD_memberCount rD_memberCount [.ref d] M (zqi (fun x M' => x = zI M d 5 ∧ M' = M)) := by
  refine za_enter (by decide) (Nat.le_of_ble_eq_true rfl) (fun X hc => ?_)
  have hdo := hd.o
  have hda := hd.a
  have hdb := hd.b
  have hdc := hd.c
  have hds := hd.s
  have hpo := hd.p.o
  refine za_aload_n hc dD_memberCount_0 rfl ?_
  refine za_getI hc gfD_32 (by assumption) dD_memberCount_1 ?_
  exact za_iret hc rfl dD_memberCount_4 ⟨Nat.zero_le _, Nat.zero_le _⟩ (⟨_, rfl, rfl, rfl⟩)

set_option maxRecDepth 100000 in
set_option maxHeartbeats 4000000 in
theorem cD_x_ (l : Launch) {d j : Nat} (M : zM) (hd : zdr d) (hj : j < 36) : zMet l mD_x rD_x [.ref d, .int (nI j)] M (zql (fun x M' => x = zJ M (d + 1) j ∧ M' = M)) := by
  refine za_enter (by decide) (Nat.le_of_ble_eq_true rfl) (fun X hc => ?_)
  have hdo := hd.o
  have hda := hd.a
  have hdb := hd.b
  have hdc := hd.c
  have hds := hd.s
  have hpo := hd.p.o
  refine za_aload_n hc dD_x_0 rfl ?_
  refine za_getS hc gfD_11 (by assumption) dD_x_1 ?_
  refine za_iload_n hc dD_x_4 rfl ?_
  refine za_lald hc (by assumption) dD_x_5 (vp_in_nI hj (by decide)) ?_
  exact za_lret hc rfl dD_x_6 ⟨Nat.zero_le _, Nat.zero_le _⟩ (⟨_, rfl, by rw [nI_clamp (by omega)], rfl⟩)

set_option maxRecDepth 100000 in
set_option maxHeartbeats 4000000 in
theorem cD_y_ (l : Launch) {d j : Nat} (M : zM) (hd : zdr d) (hj : j < 36) : zMet l mD_y rD_y [.ref d, .int (nI j)] M (zql (fun x M' => x = zJ M (d + 2) j ∧ M' = M)) := by
  refine za_enter (by decide) (Nat.le_of_ble_eq_true rfl) (fun X hc => ?_)
  have hdo := hd.o
  have hda := hd.a
  have hdb := hd.b
  have hdc := hd.c
  have hds := hd.s
  have hpo := hd.p.o
  refine za_aload_n hc dD_y_0 rfl ?_
  refine za_getS hc gfD_15 (by assumption) dD_y_1 ?_
  refine za_iload_n hc dD_y_4 rfl ?_
  refine za_lald hc (by assumption) dD_y_5 (vp_in_nI hj (by decide)) ?_
  exact za_lret hc rfl dD_y_6 ⟨Nat.zero_le _, Nat.zero_le _⟩ (⟨_, rfl, by rw [nI_clamp (by omega)], rfl⟩)

set_option maxRecDepth 100000 in
set_option maxHeartbeats 4000000 in
theorem cD_bound_ (l : Launch) {d j : Nat} (M : zM) (hd : zdr d) (hj : j < 36) : zMet l mD_bound rD_bound [.ref d, .int (nI j)] M (zql (fun x M' => x = zJ M (d + 3) j ∧ M' = M)) := by
  refine za_enter (by decide) (Nat.le_of_ble_eq_true rfl) (fun X hc => ?_)
  have hdo := hd.o
  have hda := hd.a
  have hdb := hd.b
  have hdc := hd.c
  have hds := hd.s
  have hpo := hd.p.o
  refine za_aload_n hc dD_bound_0 rfl ?_
  refine za_getS hc gfD_18 (by assumption) dD_bound_1 ?_
  refine za_iload_n hc dD_bound_4 rfl ?_
  refine za_lald hc (by assumption) dD_bound_5 (vp_in_nI hj (by decide)) ?_
  exact za_lret hc rfl dD_bound_6 ⟨Nat.zero_le _, Nat.zero_le _⟩ (⟨_, rfl, by rw [nI_clamp (by omega)], rfl⟩)

set_option maxRecDepth 100000 in
set_option maxHeartbeats 4000000 in
theorem cD_isStrict_ (l : Launch) {d j : Nat} (M : zM) (hd : zdr d) (hj : j < 36) (hz : zI M (d + 4) j = 0 ∨ zI M (d + 4) j = 1) : zMet l mD_isStrict rD_isStrict [.ref d, .int (nI j)] M (zqi (fun x M' => x = zI M (d + 4) j ∧ M' = M)) := by
  refine za_enter (by decide) (Nat.le_of_ble_eq_true rfl) (fun X hc => ?_)
  have hdo := hd.o
  have hda := hd.a
  have hdb := hd.b
  have hdc := hd.c
  have hds := hd.s
  have hpo := hd.p.o
  refine za_aload_n hc dD_isStrict_0 rfl ?_
  refine za_getS hc gfD_21 (by assumption) dD_isStrict_1 ?_
  refine za_iload_n hc dD_isStrict_4 rfl ?_
  refine za_zald hc (by assumption) dD_isStrict_5 (vp_in_nI hj (by decide)) ?_
  exact za_zret hc rfl (by rw [nI_clamp (by omega)]; rcases hz with h | h <;> rw [h] <;> rfl) dD_isStrict_6 ⟨Nat.zero_le _, Nat.zero_le _⟩ (⟨_, rfl, by rw [nI_clamp (by omega)], rfl⟩)

set_option maxRecDepth 100000 in
set_option maxHeartbeats 4000000 in
theorem cR_clear_ (l : Launch) {r : Nat} (M : zM) (hr : zrg r) : zMet l mR_clear rR_clear [.ref r] M (zqv (fun M' => M' = zsI M r 2 0)) := by
  refine za_enter (by decide) (Nat.le_of_ble_eq_true rfl) (fun X hc => ?_)
  have hro := hr.o
  have hrz := hr.z
  have hrn := hr.n
  refine za_aload_n hc dR_clear_0 rfl ?_
  refine za_iconst hc 0 dR_clear_1 rfl ?_
  refine za_putI hc gpR_18 (by assumption) dR_clear_2 ?_
  exact za_vret hc rfl dR_clear_5 ⟨Nat.zero_le _, Nat.zero_le _⟩ (⟨rfl, rfl⟩)

set_option maxRecDepth 100000 in
set_option maxHeartbeats 4000000 in
theorem cR_rowCount_ (l : Launch) {r : Nat} (M : zM) (hr : zrg r) : zMet l mR_rowCount rR_rowCount [.ref r] M (zqi (fun x M' => x = zI M r 2 ∧ M' = M)) := by
  refine za_enter (by decide) (Nat.le_of_ble_eq_true rfl) (fun X hc => ?_)
  have hro := hr.o
  have hrz := hr.z
  have hrn := hr.n
  refine za_aload_n hc dR_rowCount_0 rfl ?_
  refine za_getI hc gfR_18 (by assumption) dR_rowCount_1 ?_
  exact za_iret hc rfl dR_rowCount_4 ⟨Nat.zero_le _, Nat.zero_le _⟩ (⟨_, rfl, rfl, rfl⟩)

set_option maxRecDepth 100000 in
set_option maxHeartbeats 4000000 in
theorem cR_memberCount_ (l : Launch) {r j : Nat} (M : zM) (hr : zrg r) (hj : j < 12) : zMet l mR_memberCount rR_memberCount [.ref r, .int (nI j)] M (zqi (fun x M' => x = zI M (r + 1) j ∧ M' = M)) := by
  refine za_enter (by decide) (Nat.le_of_ble_eq_true rfl) (fun X hc => ?_)
  have hro := hr.o
  have hrz := hr.z
  have hrn := hr.n
  refine za_aload_n hc dR_memberCount_0 rfl ?_
  refine za_getS hc gfR_11 (by assumption) dR_memberCount_1 ?_
  refine za_iload_n hc dR_memberCount_4 rfl ?_
  refine za_iald hc (by assumption) dR_memberCount_5 (vp_in_nI hj (by decide)) ?_
  exact za_iret hc rfl dR_memberCount_6 ⟨Nat.zero_le _, Nat.zero_le _⟩ (⟨_, rfl, by rw [nI_clamp (by omega)], rfl⟩)

theorem zix0 (j i : Nat) : nI j * 48 + nI i * 4 = nI (48 * j + 4 * i) := by
  rw [show (48 : Int32) = nI 48 from rfl, show (4 : Int32) = nI 4 from rfl, pk_mul, pk_mul, nI_add, Nat.mul_comm j, Nat.mul_comm i]
theorem zix (j i e : Nat) {x : Int32} (h : x = nI e) : nI j * 48 + nI i * 4 + x = nI (48 * j + 4 * i + e) := by rw [zix0, h, nI_add]

set_option maxRecDepth 100000 in
set_option maxHeartbeats 4000000 in
theorem cR_x_ (l : Launch) {r j i : Nat} (M : zM) (hr : zrg r) (hj : j < 12) (hi : i < 12) : zMet l mR_x rR_x [.ref r, .int (nI j), .int (nI i)] M (zqi (fun x M' => x = zI M (r + 2) (48 * j + 4 * i) ∧ M' = M)) := by
  refine za_enter (by decide) (Nat.le_of_ble_eq_true rfl) (fun X hc => ?_)
  have hro := hr.o
  have hrz := hr.z
  have hrn := hr.n
  refine za_aload_n hc dR_x_0 rfl ?_
  refine za_getS hc gfR_15 (by assumption) dR_x_1 ?_
  refine za_iload_n hc dR_x_4 rfl ?_
  refine za_bipush hc 48 dR_x_5 rfl ?_
  refine za_imul hc dR_x_7 ?_
  refine za_iload_n hc dR_x_8 rfl ?_
  refine za_iconst hc 4 dR_x_9 rfl ?_
  refine za_imul hc dR_x_10 ?_
  refine za_iadd hc dR_x_11 ?_
  refine za_iald hc (by assumption) dR_x_12 (by rw [zix0 j i]; exact vp_in_nI (show 48 * j + 4 * i < 576 by omega) (by decide)) ?_
  exact za_iret hc rfl dR_x_13 ⟨Nat.zero_le _, Nat.zero_le _⟩ (⟨_, rfl, by rw [zix0 j i, nI_clamp (by omega)], rfl⟩)

set_option maxRecDepth 100000 in
set_option maxHeartbeats 4000000 in
theorem cR_y_ (l : Launch) {r j i : Nat} (M : zM) (hr : zrg r) (hj : j < 12) (hi : i < 12) : zMet l mR_y rR_y [.ref r, .int (nI j), .int (nI i)] M (zqi (fun x M' => x = zI M (r + 2) (48 * j + 4 * i + 1) ∧ M' = M)) := by
  refine za_enter (by decide) (Nat.le_of_ble_eq_true rfl) (fun X hc => ?_)
  have hro := hr.o
  have hrz := hr.z
  have hrn := hr.n
  refine za_aload_n hc dR_y_0 rfl ?_
  refine za_getS hc gfR_15 (by assumption) dR_y_1 ?_
  refine za_iload_n hc dR_y_4 rfl ?_
  refine za_bipush hc 48 dR_y_5 rfl ?_
  refine za_imul hc dR_y_7 ?_
  refine za_iload_n hc dR_y_8 rfl ?_
  refine za_iconst hc 4 dR_y_9 rfl ?_
  refine za_imul hc dR_y_10 ?_
  refine za_iadd hc dR_y_11 ?_
  refine za_iconst hc 1 dR_y_12 rfl ?_
  refine za_iadd hc dR_y_13 ?_
  refine za_iald hc (by assumption) dR_y_14 (by rw [zix j i 1 (x := 1) rfl]; exact vp_in_nI (show 48 * j + 4 * i + 1 < 576 by omega) (by decide)) ?_
  exact za_iret hc rfl dR_y_15 ⟨Nat.zero_le _, Nat.zero_le _⟩ (⟨_, rfl, by rw [zix j i 1 (x := 1) rfl, nI_clamp (by omega)], rfl⟩)

set_option maxRecDepth 100000 in
set_option maxHeartbeats 4000000 in
theorem cR_bound_ (l : Launch) {r j i : Nat} (M : zM) (hr : zrg r) (hj : j < 12) (hi : i < 12) : zMet l mR_bound rR_bound [.ref r, .int (nI j), .int (nI i)] M (zqi (fun x M' => x = zI M (r + 2) (48 * j + 4 * i + 2) ∧ M' = M)) := by
  refine za_enter (by decide) (Nat.le_of_ble_eq_true rfl) (fun X hc => ?_)
  have hro := hr.o
  have hrz := hr.z
  have hrn := hr.n
  refine za_aload_n hc dR_bound_0 rfl ?_
  refine za_getS hc gfR_15 (by assumption) dR_bound_1 ?_
  refine za_iload_n hc dR_bound_4 rfl ?_
  refine za_bipush hc 48 dR_bound_5 rfl ?_
  refine za_imul hc dR_bound_7 ?_
  refine za_iload_n hc dR_bound_8 rfl ?_
  refine za_iconst hc 4 dR_bound_9 rfl ?_
  refine za_imul hc dR_bound_10 ?_
  refine za_iadd hc dR_bound_11 ?_
  refine za_iconst hc 2 dR_bound_12 rfl ?_
  refine za_iadd hc dR_bound_13 ?_
  refine za_iald hc (by assumption) dR_bound_14 (by rw [zix j i 2 (x := 2) rfl]; exact vp_in_nI (show 48 * j + 4 * i + 2 < 576 by omega) (by decide)) ?_
  exact za_iret hc rfl dR_bound_15 ⟨Nat.zero_le _, Nat.zero_le _⟩ (⟨_, rfl, by rw [zix j i 2 (x := 2) rfl, nI_clamp (by omega)], rfl⟩)

set_option maxRecDepth 100000 in
set_option maxHeartbeats 4000000 in
theorem cR_isStrict_ (l : Launch) {r j i : Nat} (M : zM) (hr : zrg r) (hj : j < 12) (hi : i < 12) : zMet l mR_isStrict rR_isStrict [.ref r, .int (nI j), .int (nI i)] M (zqi (fun x M' => x = (if zI M (r + 2) (48 * j + 4 * i + 3) = 1 then 1 else 0) ∧ M' = M)) := by
  refine za_enter (by decide) (Nat.le_of_ble_eq_true rfl) (fun X hc => ?_)
  have hro := hr.o
  have hrz := hr.z
  have hrn := hr.n
  refine za_aload_n hc dR_isStrict_0 rfl ?_
  refine za_getS hc gfR_15 (by assumption) dR_isStrict_1 ?_
  refine za_iload_n hc dR_isStrict_4 rfl ?_
  refine za_bipush hc 48 dR_isStrict_5 rfl ?_
  refine za_imul hc dR_isStrict_7 ?_
  refine za_iload_n hc dR_isStrict_8 rfl ?_
  refine za_iconst hc 4 dR_isStrict_9 rfl ?_
  refine za_imul hc dR_isStrict_10 ?_
  refine za_iadd hc dR_isStrict_11 ?_
  refine za_iconst hc 3 dR_isStrict_12 rfl ?_
  refine za_iadd hc dR_isStrict_13 ?_
  refine za_iald hc (by assumption) dR_isStrict_14 (by rw [zix j i 3 (x := 3) rfl]; exact vp_in_nI (show 48 * j + 4 * i + 3 < 576 by omega) (by decide)) ?_
  refine za_iconst hc 1 dR_isStrict_15 rfl ?_
  refine za_icmp_ne 23 hc dR_isStrict_16 rfl (fun h_16 => ?_) (fun h_16 => ?_)
  · skip
    rw [zix j i 3 (x := 3) rfl, nI_clamp (by omega)] at h_16
    refine za_iconst hc 0 dR_isStrict_23 rfl ?_
    exact za_zret hc rfl (rfl) dR_isStrict_24 ⟨Nat.zero_le _, Nat.zero_le _⟩ (⟨_, rfl, by first | rw [if_neg h_16] | rw [if_pos h_16], rfl⟩)
  · skip
    rw [zix j i 3 (x := 3) rfl, nI_clamp (by omega)] at h_16
    refine za_iconst hc 1 dR_isStrict_19 rfl ?_
    refine za_goto 24 hc dR_isStrict_20 rfl ?_
    exact za_zret hc rfl (rfl) dR_isStrict_24 ⟨Nat.zero_le _, Nat.zero_le _⟩ (⟨_, rfl, by first | rw [if_neg h_16] | rw [if_pos h_16], rfl⟩)
end
section
/-! Small methods that write: drafts. -/
def zfr (P : Nat → Prop) (M M' : zM) : Prop := ∀ k, ¬ P k → zI M' k = zI M k ∧ zJ M' k = zJ M k ∧ zR M' k = zR M k
theorem zfr.rf {P : Nat → Prop} {M : zM} : zfr P M M := fun _ _ => ⟨rfl, rfl, rfl⟩
theorem zfr.tr {P : Nat → Prop} {M M' M'' : zM} (h : zfr P M M') (h' : zfr P M' M'') : zfr P M M'' := fun k hk => ⟨(h' k hk).1.trans (h k hk).1, (h' k hk).2.1.trans (h k hk).2.1, (h' k hk).2.2.trans (h k hk).2.2⟩
theorem zfr.wk {P P' : Nat → Prop} {M M' : zM} (h : zfr P M M') (hp : ∀ k, P k → P' k) : zfr P' M M' := fun k hk => h k (fun z => hk (hp k z))
theorem zfr_sI {P : Nat → Prop} {M : zM} {k j : Nat} {v : Int32} (h : P k) : zfr P M (zsI M k j v) := fun a ha => ⟨by funext b; rw [zI_sI, if_neg (fun e => ha (by rw [e]; exact h))], rfl, rfl⟩
theorem zfr_sJ {P : Nat → Prop} {M : zM} {k j : Nat} {v : Int64} (h : P k) : zfr P M (zsJ M k j v) := fun a ha => ⟨rfl, by funext b; rw [zJ_sJ, if_neg (fun e => ha (by rw [e]; exact h))], rfl⟩
theorem zfr_sR {P : Nat → Prop} {M : zM} {k j v : Nat} (h : P k) : zfr P M (zsR M k j v) := fun a ha => ⟨rfl, rfl, by funext b; rw [zR_sR, if_neg (fun e => ha (by rw [e]; exact h))]⟩
theorem zfr_rI {P : Nat → Prop} {M : zM} {k : Nat} {f : Nat → Int32} (h : P k) : zfr P M (zrI M k f) := fun a ha => ⟨by rw [zI_rI, if_neg (fun e => ha (by rw [e]; exact h))], rfl, rfl⟩
theorem zJ_o {M : zM} {a b t : Nat} {v : Int64} (h : ¬ b = a) : zJ (zsJ M a t v) b = zJ M b := by funext j; rw [zJ_sJ, if_neg h]
theorem zI_o {M : zM} {a b t : Nat} {v : Int32} (h : ¬ b = a) : zI (zsI M a t v) b = zI M b := by funext j; rw [zI_sI, if_neg h]
theorem zJ_s {M : zM} {a t j : Nat} {v : Int64} : zJ (zsJ M a t v) a j = if j = t then v else zJ M a j := by rw [zJ_sJ, if_pos rfl]
theorem zI_s {M : zM} {a t j : Nat} {v : Int32} : zI (zsI M a t v) a j = if j = t then v else zI M a j := by rw [zI_sI, if_pos rfl]
/-- member j of a draft; its flags are 0 or 1; its arrays -/
def dg (M : zM) (d j : Nat) : gC := ((zJ M (d + 1) j).toInt, (zJ M (d + 2) j).toInt, (zJ M (d + 3) j).toInt, zI M (d + 4) j == 1)
def zbo (M : zM) (d : Nat) : Prop := ∀ j, zI M (d + 4) j = 0 ∨ zI M (d + 4) j = 1
def dA (d : Nat) : Nat → Prop := fun k => d + 1 ≤ k ∧ k ≤ d + 4
def zput4 (M : zM) (d t : Nat) (a b c : Int64) (s : Int32) : zM := zsI (zsJ (zsJ (zsJ M (d + 1) t a) (d + 2) t b) (d + 3) t c) (d + 4) t s
theorem zput4_dg {M : zM} {d t j : Nat} {a b c : Int64} {s : Int32} : dg (zput4 M d t a b c s) d j = if j = t then (a.toInt, b.toInt, c.toInt, s == 1) else dg M d j := by
  unfold dg zput4
  rw [zJ_sI, zJ_o (by omega), zJ_o (by omega), zJ_s, zJ_o (by omega), zJ_s, zJ_o (by omega), zJ_s, zJ_o (by omega), zJ_o (by omega), zI_s, zI_sJ, zI_sJ, zI_sJ]
  by_cases h : j = t
  · simp only [if_pos h]
  · simp only [if_neg h]
theorem zput4_fr {M : zM} {d t : Nat} {a b c : Int64} {s : Int32} : zfr (dA d) M (zput4 M d t a b c s) :=
  (zfr_sJ ⟨Nat.le_refl _, by omega⟩).tr ((zfr_sJ ⟨by omega, by omega⟩).tr ((zfr_sJ ⟨by omega, by omega⟩).tr (zfr_sI ⟨by omega, by omega⟩)))
theorem zput4_bo {M : zM} {d t : Nat} {a b c : Int64} {s : Int32} (h : zbo M d) (hs : s = 0 ∨ s = 1) : zbo (zput4 M d t a b c s) d := by
  intro j
  unfold zput4
  rw [zI_s, zI_sJ, zI_sJ, zI_sJ]
  split
  · exact hs
  · exact h j
theorem zn01 {x : Int32} (h : x = 0 ∨ x = 1) : vp_nar .boolean x = x := by rcases h with h | h <;> rw [h] <;> decide
theorem zfr_dg {P : Nat → Prop} {M M' : zM} (h : zfr P M M') {d : Nat} (h1 : ¬ P (d + 1)) (h2 : ¬ P (d + 2)) (h3 : ¬ P (d + 3)) (h4 : ¬ P (d + 4)) : dg M' d = dg M d := by
  funext j
  unfold dg
  rw [(h _ h1).2.1, (h _ h2).2.1, (h _ h3).2.1, (h _ h4).1]
theorem zfr_bo {P : Nat → Prop} {M M' : zM} (h : zfr P M M') {d : Nat} (h4 : ¬ P (d + 4)) (hb : zbo M d) : zbo M' d := fun j => by rw [(h _ h4).1]; exact hb j

set_option maxRecDepth 100000 in
set_option maxHeartbeats 4000000 in
theorem cK_exceeds_ (l : Launch) (M : zM) (x y : Int64) (hy : -9223372036854775808 < y.toInt) : zMet l mK_exceeds rK_exceeds [.long x, .long y] M (zqi (fun r M' => r = (if x.toInt < -y.toInt ∨ y.toInt < x.toInt then 1 else 0) ∧ M' = M)) := by
  refine za_enter (by decide) (Nat.le_of_ble_eq_true rfl) (fun X hc => ?_)
  refine za_lload_n hc dK_exceeds_0 rfl ?_
  refine za_lload_n hc dK_exceeds_1 rfl ?_
  refine za_lneg hc dK_exceeds_2 ?_
  refine za_lcmp_lt 13 hc dK_exceeds_3 dK_exceeds_4 rfl (fun h_3 => ?_) (fun h_3 => ?_)
  · skip
    rw [Int64.lt_iff_toInt_lt, l_neg hy] at h_3
    refine za_iconst hc 1 dK_exceeds_13 rfl ?_
    refine za_goto 18 hc dK_exceeds_14 rfl ?_
    exact za_zret hc rfl (rfl) dK_exceeds_18 ⟨Nat.zero_le _, Nat.zero_le _⟩ (⟨_, rfl, by first | rw [if_pos (by omega)] | rw [if_neg (by omega)], rfl⟩)
  · skip
    rw [Int64.lt_iff_toInt_lt, l_neg hy] at h_3
    refine za_lload_n hc dK_exceeds_7 rfl ?_
    refine za_lload_n hc dK_exceeds_8 rfl ?_
    refine za_lcmp_le 17 hc dK_exceeds_9 dK_exceeds_10 rfl (fun h_9 => ?_) (fun h_9 => ?_)
    · skip
      rw [Int64.le_iff_toInt_le] at h_9
      refine za_iconst hc 0 dK_exceeds_17 rfl ?_
      exact za_zret hc rfl (rfl) dK_exceeds_18 ⟨Nat.zero_le _, Nat.zero_le _⟩ (⟨_, rfl, by first | rw [if_pos (by omega)] | rw [if_neg (by omega)], rfl⟩)
    · skip
      rw [Int64.le_iff_toInt_le] at h_9
      refine za_iconst hc 1 dK_exceeds_13 rfl ?_
      refine za_goto 18 hc dK_exceeds_14 rfl ?_
      exact za_zret hc rfl (rfl) dK_exceeds_18 ⟨Nat.zero_le _, Nat.zero_le _⟩ (⟨_, rfl, by first | rw [if_pos (by omega)] | rw [if_neg (by omega)], rfl⟩)

set_option maxRecDepth 100000 in
set_option maxHeartbeats 4000000 in
theorem cS_reset_ (l : Launch) {p : Nat} (M : zM) (hp : zsp p) : zMet l mS_reset rS_reset [.ref p] M (zqv (fun M' => M' = zsJ (zsJ M (p + 2) 0 0) (p + 2) 1 0)) := by
  refine za_enter (by decide) (Nat.le_of_ble_eq_true rfl) (fun X hc => ?_)
  have h0 := hp.o
  have h1 := hp.t
  have h2 := hp.b
  have h3 := hp.s
  refine za_aload_n hc dS_reset_0 rfl ?_
  refine za_getS hc gfS_13 (by assumption) dS_reset_1 ?_
  refine za_iconst hc 0 dS_reset_4 rfl ?_
  refine za_lconst hc 0 dS_reset_5 rfl ?_
  refine za_last hc (by assumption) dS_reset_6 (by unfold vp_in; decide) ?_
  refine za_aload_n hc dS_reset_7 rfl ?_
  refine za_getS hc gfS_13 (by assumption) dS_reset_8 ?_
  refine za_iconst hc 1 dS_reset_11 rfl ?_
  refine za_lconst hc 0 dS_reset_12 rfl ?_
  refine za_last hc (by assumption) dS_reset_13 (by unfold vp_in; decide) ?_
  exact za_vret hc rfl dS_reset_14 ⟨Nat.zero_le _, Nat.zero_le _⟩ (⟨rfl, rfl⟩)

set_option maxRecDepth 100000 in
set_option maxHeartbeats 4000000 in
theorem cD_move0 (l : Launch) {d f t : Nat} (M : zM) (hd : zdr d) (hf : f < 36) (ht : t < 36) (hb : zbo M d) : zMet l mD_move rD_move [.ref d, .int (nI f), .int (nI t)] M (zqv (fun M' => M' = zput4 M d t (zJ M (d + 1) f) (zJ M (d + 2) f) (zJ M (d + 3) f) (zI M (d + 4) f))) := by
  refine za_enter (by decide) (Nat.le_of_ble_eq_true rfl) (fun X hc => ?_)
  have hdo := hd.o
  have hda := hd.a
  have hdb := hd.b
  have hdc := hd.c
  have hds := hd.s
  have hpo := hd.p.o
  refine za_aload_n hc dD_move_0 rfl ?_
  refine za_getS hc gfD_11 (by assumption) dD_move_1 ?_
  refine za_iload_n hc dD_move_4 rfl ?_
  refine za_aload_n hc dD_move_5 rfl ?_
  refine za_getS hc gfD_11 (by assumption) dD_move_6 ?_
  refine za_iload_n hc dD_move_9 rfl ?_
  refine za_lald hc (by assumption) dD_move_10 (vp_in_nI hf (by decide)) ?_
  refine za_last hc (by assumption) dD_move_11 (vp_in_nI ht (by decide)) ?_
  refine za_aload_n hc dD_move_12 rfl ?_
  refine za_getS hc gfD_15 (by assumption) dD_move_13 ?_
  refine za_iload_n hc dD_move_16 rfl ?_
  refine za_aload_n hc dD_move_17 rfl ?_
  refine za_getS hc gfD_15 (by assumption) dD_move_18 ?_
  refine za_iload_n hc dD_move_21 rfl ?_
  refine za_lald hc (by assumption) dD_move_22 (vp_in_nI hf (by decide)) ?_
  refine za_last hc (by assumption) dD_move_23 (vp_in_nI ht (by decide)) ?_
  refine za_aload_n hc dD_move_24 rfl ?_
  refine za_getS hc gfD_18 (by assumption) dD_move_25 ?_
  refine za_iload_n hc dD_move_28 rfl ?_
  refine za_aload_n hc dD_move_29 rfl ?_
  refine za_getS hc gfD_18 (by assumption) dD_move_30 ?_
  refine za_iload_n hc dD_move_33 rfl ?_
  refine za_lald hc (by assumption) dD_move_34 (vp_in_nI hf (by decide)) ?_
  refine za_last hc (by assumption) dD_move_35 (vp_in_nI ht (by decide)) ?_
  refine za_aload_n hc dD_move_36 rfl ?_
  refine za_getS hc gfD_21 (by assumption) dD_move_37 ?_
  refine za_iload_n hc dD_move_40 rfl ?_
  refine za_aload_n hc dD_move_41 rfl ?_
  refine za_getS hc gfD_21 (by assumption) dD_move_42 ?_
  refine za_iload_n hc dD_move_45 rfl ?_
  refine za_zald hc (by assumption) dD_move_46 (vp_in_nI hf (by decide)) ?_
  refine za_zast hc (by assumption) dD_move_47 (vp_in_nI ht (by decide)) ?_
  exact za_vret hc rfl dD_move_48 ⟨Nat.zero_le _, Nat.zero_le _⟩ (⟨rfl, by rw [nI_clamp (show f < 2 ^ 31 by omega), nI_clamp (show t < 2 ^ 31 by omega), zJ_o (show ¬ d + 2 = d + 1 by omega), zJ_o (show ¬ d + 3 = d + 2 by omega), zJ_o (show ¬ d + 3 = d + 1 by omega), zI_sJ, zI_sJ, zI_sJ, zn01 (hb f)]; rfl⟩)

theorem cD_move_ (l : Launch) {d f t : Nat} (M : zM) (hd : zdr d) (hf : f < 36) (ht : t < 36) (hb : zbo M d) : zMet l mD_move rD_move [.ref d, .int (nI f), .int (nI t)] M (zqv (fun M' => (∀ j, dg M' d j = if j = t then dg M d f else dg M d j) ∧ zbo M' d ∧ zfr (dA d) M M')) :=
  zMet_mono (fun r M' h => by
    obtain ⟨h0, rfl⟩ := h
    exact ⟨h0, fun j => zput4_dg, zput4_bo hb (hb f), zput4_fr⟩) (cD_move0 l M hd hf ht hb)

set_option maxRecDepth 100000 in
set_option maxHeartbeats 4000000 in
theorem cD_flip0 (l : Launch) {d j : Nat} (M : zM) (hd : zdr d) (hj : j < 36) (hb : zbo M d) : zMet l mD_flip rD_flip [.ref d, .int (nI j)] M (zqv (fun M' => M' = zput4 M d j (-zJ M (d + 1) j) (-zJ M (d + 2) j) (-zJ M (d + 3) j) (if zI M (d + 4) j = 0 then 1 else 0))) := by
  refine za_enter (by decide) (Nat.le_of_ble_eq_true rfl) (fun X hc => ?_)
  have hdo := hd.o
  have hda := hd.a
  have hdb := hd.b
  have hdc := hd.c
  have hds := hd.s
  have hpo := hd.p.o
  refine za_aload_n hc dD_flip_0 rfl ?_
  refine za_getS hc gfD_11 (by assumption) dD_flip_1 ?_
  refine za_iload_n hc dD_flip_4 rfl ?_
  refine za_aload_n hc dD_flip_5 rfl ?_
  refine za_getS hc gfD_11 (by assumption) dD_flip_6 ?_
  refine za_iload_n hc dD_flip_9 rfl ?_
  refine za_lald hc (by assumption) dD_flip_10 (vp_in_nI hj (by decide)) ?_
  refine za_lneg hc dD_flip_11 ?_
  refine za_last hc (by assumption) dD_flip_12 (vp_in_nI hj (by decide)) ?_
  refine za_aload_n hc dD_flip_13 rfl ?_
  refine za_getS hc gfD_15 (by assumption) dD_flip_14 ?_
  refine za_iload_n hc dD_flip_17 rfl ?_
  refine za_aload_n hc dD_flip_18 rfl ?_
  refine za_getS hc gfD_15 (by assumption) dD_flip_19 ?_
  refine za_iload_n hc dD_flip_22 rfl ?_
  refine za_lald hc (by assumption) dD_flip_23 (vp_in_nI hj (by decide)) ?_
  refine za_lneg hc dD_flip_24 ?_
  refine za_last hc (by assumption) dD_flip_25 (vp_in_nI hj (by decide)) ?_
  refine za_aload_n hc dD_flip_26 rfl ?_
  refine za_getS hc gfD_18 (by assumption) dD_flip_27 ?_
  refine za_iload_n hc dD_flip_30 rfl ?_
  refine za_aload_n hc dD_flip_31 rfl ?_
  refine za_getS hc gfD_18 (by assumption) dD_flip_32 ?_
  refine za_iload_n hc dD_flip_35 rfl ?_
  refine za_lald hc (by assumption) dD_flip_36 (vp_in_nI hj (by decide)) ?_
  refine za_lneg hc dD_flip_37 ?_
  refine za_last hc (by assumption) dD_flip_38 (vp_in_nI hj (by decide)) ?_
  refine za_aload_n hc dD_flip_39 rfl ?_
  refine za_getS hc gfD_21 (by assumption) dD_flip_40 ?_
  refine za_iload_n hc dD_flip_43 rfl ?_
  refine za_aload_n hc dD_flip_44 rfl ?_
  refine za_getS hc gfD_21 (by assumption) dD_flip_45 ?_
  refine za_iload_n hc dD_flip_48 rfl ?_
  refine za_zald hc (by assumption) dD_flip_49 (vp_in_nI hj (by decide)) ?_
  refine za_if_ne 57 hc dD_flip_50 rfl (fun h_50 => ?_) (fun h_50 => ?_)
  · skip
    rw [nI_clamp (by omega), zI_sJ, zI_sJ, zI_sJ] at h_50
    refine za_iconst hc 0 dD_flip_57 rfl ?_
    refine za_zast hc (by assumption) dD_flip_58 (vp_in_nI hj (by decide)) ?_
    exact za_vret hc rfl dD_flip_59 ⟨Nat.zero_le _, Nat.zero_le _⟩ (⟨rfl, by first | rw [if_neg h_50, nI_clamp (show j < 2 ^ 31 by omega), zJ_o (show ¬ d + 2 = d + 1 by omega), zJ_o (show ¬ d + 3 = d + 2 by omega), zJ_o (show ¬ d + 3 = d + 1 by omega)]; rfl | rw [if_pos h_50, nI_clamp (show j < 2 ^ 31 by omega), zJ_o (show ¬ d + 2 = d + 1 by omega), zJ_o (show ¬ d + 3 = d + 2 by omega), zJ_o (show ¬ d + 3 = d + 1 by omega)]; rfl⟩)
  · skip
    rw [nI_clamp (by omega), zI_sJ, zI_sJ, zI_sJ] at h_50
    refine za_iconst hc 1 dD_flip_53 rfl ?_
    refine za_goto 58 hc dD_flip_54 rfl ?_
    refine za_zast hc (by assumption) dD_flip_58 (vp_in_nI hj (by decide)) ?_
    exact za_vret hc rfl dD_flip_59 ⟨Nat.zero_le _, Nat.zero_le _⟩ (⟨rfl, by first | rw [if_neg h_50, nI_clamp (show j < 2 ^ 31 by omega), zJ_o (show ¬ d + 2 = d + 1 by omega), zJ_o (show ¬ d + 3 = d + 2 by omega), zJ_o (show ¬ d + 3 = d + 1 by omega)]; rfl | rw [if_pos h_50, nI_clamp (show j < 2 ^ 31 by omega), zJ_o (show ¬ d + 2 = d + 1 by omega), zJ_o (show ¬ d + 3 = d + 2 by omega), zJ_o (show ¬ d + 3 = d + 1 by omega)]; rfl⟩)

def gflip (q : gC) : gC := (-q.1, -q.2.1, -q.2.2.1, !q.2.2.2)
theorem cD_flip_ (l : Launch) {d j : Nat} (M : zM) (hd : zdr d) (hj : j < 36) (hb : zbo M d) (h1 : -9223372036854775808 < (zJ M (d + 1) j).toInt) (h2 : -9223372036854775808 < (zJ M (d + 2) j).toInt) (h3 : -9223372036854775808 < (zJ M (d + 3) j).toInt) : zMet l mD_flip rD_flip [.ref d, .int (nI j)] M (zqv (fun M' => (∀ i, dg M' d i = if i = j then gflip (dg M d j) else dg M d i) ∧ zbo M' d ∧ zfr (dA d) M M')) :=
  zMet_mono (fun r M' h => by
    obtain ⟨h0, rfl⟩ := h
    refine ⟨h0, fun i => ?_, zput4_bo hb (by split <;> simp), zput4_fr⟩
    rw [zput4_dg]
    by_cases hi : i = j
    · rw [if_pos hi, if_pos hi, l_neg h1, l_neg h2, l_neg h3]
      unfold gflip dg
      rcases hb j with z | z <;> rw [z] <;> rfl
    · rw [if_neg hi, if_neg hi]) (cD_flip0 l M hd hj hb)

set_option maxRecDepth 100000 in
set_option maxHeartbeats 4000000 in
theorem cD_strengthen0 (l : Launch) {d j : Nat} (M : zM) (c : Int64) (s : Int32) (hd : zdr d) (hj : j < 36) (hb : zbo M d) (hs : s = 0 ∨ s = 1) : zMet l mD_strengthen rD_strengthen [.ref d, .int (nI j), .long c, .int s] M (zqv (fun M' => M' = if c.toInt < (zJ M (d + 3) j).toInt then zsI (zsJ M (d + 3) j c) (d + 4) j s else if c.toInt = (zJ M (d + 3) j).toInt ∧ s = 1 then zsI M (d + 4) j 1 else M)) := by
  refine za_enter (by decide) (Nat.le_of_ble_eq_true rfl) (fun X hc => ?_)
  have hdo := hd.o
  have hda := hd.a
  have hdb := hd.b
  have hdc := hd.c
  have hds := hd.s
  have hpo := hd.p.o
  refine za_lload_n hc dD_strengthen_0 rfl ?_
  refine za_aload_n hc dD_strengthen_1 rfl ?_
  refine za_getS hc gfD_18 (by assumption) dD_strengthen_2 ?_
  refine za_iload_n hc dD_strengthen_5 rfl ?_
  refine za_lald hc (by assumption) dD_strengthen_6 (vp_in_nI hj (by decide)) ?_
  refine za_lcmp_ge 29 hc dD_strengthen_7 dD_strengthen_8 rfl (fun h_7 => ?_) (fun h_7 => ?_)
  · skip
    rw [Int64.le_iff_toInt_le, nI_clamp (by omega)] at h_7
    refine za_lload_n hc dD_strengthen_29 rfl ?_
    refine za_aload_n hc dD_strengthen_30 rfl ?_
    refine za_getS hc gfD_18 (by assumption) dD_strengthen_31 ?_
    refine za_iload_n hc dD_strengthen_34 rfl ?_
    refine za_lald hc (by assumption) dD_strengthen_35 (vp_in_nI hj (by decide)) ?_
    refine za_lcmp_ne 52 hc dD_strengthen_36 dD_strengthen_37 rfl (fun h_36 => ?_) (fun h_36 => ?_)
    · skip
      rw [nI_clamp (by omega), ← Int64.toInt_inj] at h_36
      exact za_vret hc rfl dD_strengthen_52 ⟨Nat.zero_le _, Nat.zero_le _⟩ (⟨rfl, by first | rw [if_pos (by omega), nI_clamp (show j < 2 ^ 31 by omega), zn01 hs] | rw [if_neg (by omega), if_pos ⟨by omega, by rcases hs with h | h; exact absurd h h_42; exact h⟩, nI_clamp (show j < 2 ^ 31 by omega)]; rfl | rw [if_neg (by omega), if_neg (fun z => by first | exact h_36 z.1 | exact absurd (h_42.symm.trans z.2) (by decide))]⟩)
    · skip
      rw [nI_clamp (by omega), ← Int64.toInt_inj] at h_36
      refine za_iload hc dD_strengthen_40 rfl ?_
      refine za_if_eq 52 hc dD_strengthen_42 rfl (fun h_42 => ?_) (fun h_42 => ?_)
      · skip
        exact za_vret hc rfl dD_strengthen_52 ⟨Nat.zero_le _, Nat.zero_le _⟩ (⟨rfl, by first | rw [if_pos (by omega), nI_clamp (show j < 2 ^ 31 by omega), zn01 hs] | rw [if_neg (by omega), if_pos ⟨by omega, by rcases hs with h | h; exact absurd h h_42; exact h⟩, nI_clamp (show j < 2 ^ 31 by omega)]; rfl | rw [if_neg (by omega), if_neg (fun z => by first | exact h_36 z.1 | exact absurd (h_42.symm.trans z.2) (by decide))]⟩)
      · skip
        refine za_aload_n hc dD_strengthen_45 rfl ?_
        refine za_getS hc gfD_21 (by assumption) dD_strengthen_46 ?_
        refine za_iload_n hc dD_strengthen_49 rfl ?_
        refine za_iconst hc 1 dD_strengthen_50 rfl ?_
        refine za_zast hc (by assumption) dD_strengthen_51 (vp_in_nI hj (by decide)) ?_
        exact za_vret hc rfl dD_strengthen_52 ⟨Nat.zero_le _, Nat.zero_le _⟩ (⟨rfl, by first | rw [if_pos (by omega), nI_clamp (show j < 2 ^ 31 by omega), zn01 hs] | rw [if_neg (by omega), if_pos ⟨by omega, by rcases hs with h | h; exact absurd h h_42; exact h⟩, nI_clamp (show j < 2 ^ 31 by omega)]; rfl | rw [if_neg (by omega), if_neg (fun z => by first | exact h_36 z.1 | exact absurd (h_42.symm.trans z.2) (by decide))]⟩)
  · skip
    rw [Int64.le_iff_toInt_le, nI_clamp (by omega)] at h_7
    refine za_aload_n hc dD_strengthen_11 rfl ?_
    refine za_getS hc gfD_18 (by assumption) dD_strengthen_12 ?_
    refine za_iload_n hc dD_strengthen_15 rfl ?_
    refine za_lload_n hc dD_strengthen_16 rfl ?_
    refine za_last hc (by assumption) dD_strengthen_17 (vp_in_nI hj (by decide)) ?_
    refine za_aload_n hc dD_strengthen_18 rfl ?_
    refine za_getS hc gfD_21 (by assumption) dD_strengthen_19 ?_
    refine za_iload_n hc dD_strengthen_22 rfl ?_
    refine za_iload hc dD_strengthen_23 rfl ?_
    refine za_zast hc (by assumption) dD_strengthen_25 (vp_in_nI hj (by decide)) ?_
    refine za_goto 52 hc dD_strengthen_26 rfl ?_
    exact za_vret hc rfl dD_strengthen_52 ⟨Nat.zero_le _, Nat.zero_le _⟩ (⟨rfl, by first | rw [if_pos (by omega), nI_clamp (show j < 2 ^ 31 by omega), zn01 hs] | rw [if_neg (by omega), if_pos ⟨by omega, by rcases hs with h | h; exact absurd h h_42; exact h⟩, nI_clamp (show j < 2 ^ 31 by omega)]; rfl | rw [if_neg (by omega), if_neg (fun z => by first | exact h_36 z.1 | exact absurd (h_42.symm.trans z.2) (by decide))]⟩)
end
section
/-! The greatest common divisor. -/

set_option maxRecDepth 100000 in
set_option maxHeartbeats 4000000 in
theorem cK_commonDivisor_ (l : Launch) (M : zM) (x y : Int64) (g : Nat) (hx : x.toInt.natAbs < 2 ^ 62) (hy : y.toInt.natAbs < 2 ^ 48) (hgg : Nat.gcd x.toInt.natAbs y.toInt.natAbs = g) : zMet l mK_commonDivisor rK_commonDivisor [.long x, .long y] M (zql (fun r M' => r = lN g ∧ M' = M)) := by
  refine za_enter (by decide) (Nat.le_of_ble_eq_true rfl) (fun X hc => ?_)
  have hx1 : -9223372036854775808 < x.toInt := by omega
  have hy1 : -9223372036854775808 < y.toInt := by omega
  have loop : ∀ n k a b : Nat, n + k = 100 → k ≤ 100 → Nat.gcd a b = g → a < 2 ^ 62 → b < 2 ^ 48 → (k = 0 ∨ (b < a ∧ a * b * 2 ^ k < 2 ^ 98)) → zW X (zql (fun r M' => r = lN g ∧ M' = M)) (0, 0) 15 [(0, .long x), (2, .long y), (4, .long (lN a)), (6, .long (lN b)), (8, .int (nI k))] [] M := by
    intro n
    induction n with
    | zero =>
      intro k a b hn hk hg ha hb hi
      refine za_iload hc dK_commonDivisor_15 rfl ?_
      refine za_bipush hc 100 dK_commonDivisor_17 rfl ?_
      refine za_icmp_ge 50 hc dK_commonDivisor_19 rfl (fun h_19 => ?_) (fun h_19 => ?_)
      · have hk : k = 100 := by omega
        have hb0 : b = 0 := by
          rcases hi with h | ⟨h1, h2⟩
          · omega
          · subst hk
            have : a * b = 0 := by omega
            rcases Nat.mul_eq_zero.mp this with z | z <;> omega
        refine za_lload hc dK_commonDivisor_50 rfl ?_
        exact za_lret hc rfl dK_commonDivisor_52 ⟨Nat.zero_le _, Nat.zero_le _⟩ (⟨_, rfl, by rw [← hg, hb0, Nat.gcd_zero_right], rfl⟩)
      · exact absurd ((nI_leI (by decide) (by omega)).mpr (show 100 ≤ k by omega)) h_19
    | succ n ih =>
      intro k a b hn hk hg ha hb hi
      refine za_iload hc dK_commonDivisor_15 rfl ?_
      refine za_bipush hc 100 dK_commonDivisor_17 rfl ?_
      refine za_icmp_ge 50 hc dK_commonDivisor_19 rfl (fun h_19 => ?_) (fun h_19 => ?_)
      · skip
        have hk9 : 100 ≤ k := (nI_leI (by decide) (by omega)).mp h_19
        have hb0 : b = 0 := by
          rcases hi with h | ⟨h1, h2⟩
          · omega
          · have hk : k = 100 := by omega
            subst hk
            have : a * b = 0 := by omega
            rcases Nat.mul_eq_zero.mp this with z | z <;> omega
        refine za_lload hc dK_commonDivisor_50 rfl ?_
        exact za_lret hc rfl dK_commonDivisor_52 ⟨Nat.zero_le _, Nat.zero_le _⟩ (⟨_, rfl, by rw [← hg, hb0, Nat.gcd_zero_right], rfl⟩)
      · skip
        have hk9 : k < 100 := Nat.not_le.mp (fun z => h_19 ((nI_leI (by decide) (by omega)).mpr z))
        refine za_lload hc dK_commonDivisor_22 rfl ?_
        refine za_lconst hc 0 dK_commonDivisor_24 rfl ?_
        refine za_lcmp_eq 50 hc dK_commonDivisor_25 dK_commonDivisor_26 rfl (fun h_25 => ?_) (fun h_25 => ?_)
        · skip
          have hb0 : b = 0 := (pk_lEQ (by omega) (by decide)).mp h_25
          refine za_lload hc dK_commonDivisor_50 rfl ?_
          exact za_lret hc rfl dK_commonDivisor_52 ⟨Nat.zero_le _, Nat.zero_le _⟩ (⟨_, rfl, by rw [← hg, hb0, Nat.gcd_zero_right], rfl⟩)
        · skip
          have hb1 : 0 < b := Nat.pos_of_ne_zero (fun z => h_25 (by rw [z]; rfl))
          refine za_lload hc dK_commonDivisor_29 rfl ?_
          refine za_lload hc dK_commonDivisor_31 rfl ?_
          refine za_lrem hc dK_commonDivisor_33 h_25 ?_
          rw [pk_lRem (by omega) hb1 (by omega)]
          refine za_lstore hc dK_commonDivisor_34 (by decide) ?_
          refine za_lload hc dK_commonDivisor_36 rfl ?_
          refine za_lstore hc dK_commonDivisor_38 (by decide) ?_
          refine za_lload hc dK_commonDivisor_40 rfl ?_
          refine za_lstore hc dK_commonDivisor_42 (by decide) ?_
          refine za_iinc hc _ dK_commonDivisor_44 rfl ((nI_succ k).symm) (by decide) ?_
          refine za_goto 15 hc dK_commonDivisor_47 rfl ?_
          refine za_take 5 ?_
          have hmod := Nat.mod_lt a hb1
          refine ih (k + 1) b (a % b) (by omega) (by omega) ?_ (by omega) (by omega) (Or.inr ⟨hmod, ?_⟩)
          · rw [← hg, Nat.gcd_comm a b, Nat.gcd_rec b a, Nat.gcd_comm]
          · rcases hi with h | ⟨h1, h2⟩
            · subst h
              have : b * (a % b) ≤ 2 ^ 48 * 2 ^ 48 := Nat.mul_le_mul (by omega) (by omega)
              omega
            · have h3 := g_euclid hb1 h1
              rw [Nat.pow_succ]
              have h4 := Nat.mul_le_mul_right (2 ^ k) h3
              grind
  refine za_lload_n hc dK_commonDivisor_0 rfl ?_
  refine za_absl hc jmK_191 ⟨Nat.le_of_ble_eq_true rfl, Nat.le_of_ble_eq_true rfl⟩ ⟨Nat.zero_le _, Nat.zero_le _⟩ dK_commonDivisor_1 ?_
  rw [l_abs hx1]
  refine za_lstore hc dK_commonDivisor_4 (by decide) ?_
  refine za_lload_n hc dK_commonDivisor_6 rfl ?_
  refine za_absl hc jmK_191 ⟨Nat.le_of_ble_eq_true rfl, Nat.le_of_ble_eq_true rfl⟩ ⟨Nat.zero_le _, Nat.zero_le _⟩ dK_commonDivisor_7 ?_
  rw [l_abs hy1]
  refine za_lstore hc dK_commonDivisor_10 (by decide) ?_
  refine za_iconst hc 0 dK_commonDivisor_12 rfl ?_
  refine za_istore hc dK_commonDivisor_13 (by decide) ?_
  exact loop 100 0 _ _ rfl (by omega) hgg (by omega) (by omega) (Or.inl rfl)
end
section
/-! A draft holds a list of members. -/
def dH (M : zM) (d : Nat) (ls : List gC) : Prop := zI M d 5 = nI ls.length ∧ ls.length ≤ 36 ∧ (∀ j q, ls[j]? = some q → dg M d j = q) ∧ zbo M d
def dB (d : Nat) : Nat → Prop := fun k => d ≤ k ∧ k ≤ d + 4
def dF (d : Nat) : Nat → Prop := fun k => d ≤ k ∧ k ≤ d + 8
theorem dA_B {d k : Nat} (h : dA d k) : dB d k := ⟨by have := h.1; omega, h.2⟩
theorem dB_F {d k : Nat} (h : dB d k) : dF d k := ⟨h.1, by have := h.2; omega⟩
theorem dH_clear {M : zM} {d : Nat} (h : zbo M d) : dH (zsI M d 5 0) d [] := ⟨by rw [zI_s, if_pos rfl]; rfl, by decide, fun j q h => by simp at h, fun j => by rw [zI_o (by omega)]; exact h j⟩
theorem dH_get {M : zM} {d : Nat} {ls : List gC} (h : dH M d ls) {j : Nat} (hj : j < ls.length) : dg M d j = ls[j] := h.2.2.1 j _ (List.getElem?_eq_getElem hj)
theorem dH_kept {P : Nat → Prop} {M M' : zM} {d : Nat} {ls : List gC} (h : dH M d ls) (hf : zfr P M M') (h0 : ¬ P d) (h1 : ¬ P (d + 1)) (h2 : ¬ P (d + 2)) (h3 : ¬ P (d + 3)) (h4 : ¬ P (d + 4)) : dH M' d ls := ⟨by rw [(hf _ h0).1]; exact h.1, h.2.1, fun j q hq => by rw [zfr_dg hf h1 h2 h3 h4]; exact h.2.2.1 j q hq, zfr_bo hf h4 h.2.2.2⟩
theorem nI_of0 (n : Nat) : nI n + 0 = nI n := by rw [show (0 : Int32) = nI 0 from rfl, nI_add]; rfl

set_option maxRecDepth 100000 in
set_option maxHeartbeats 4000000 in
theorem cD_remove_ (l : Launch) {d t : Nat} {ls : List gC} (M : zM) (hd : zdr d) (hH : dH M d ls) (ht : t < ls.length) : zMet l mD_remove rD_remove [.ref d, .int (nI t)] M (zqv (fun M' => dH M' d (ls.eraseIdx t) ∧ zfr (dB d) M M')) := by
  refine za_enter (by decide) (Nat.le_of_ble_eq_true rfl) (fun X hc => ?_)
  have hdo := hd.o
  have hda := hd.a
  have hdb := hd.b
  have hdc := hd.c
  have hds := hd.s
  have hpo := hd.p.o
  have hl := hH.2.1
  have loop : ∀ n i (M1 : zM), n + i = ls.length - 1 → t ≤ i → zI M1 d 5 = nI (ls.length - 1) → (∀ j, dg M1 d j = if t ≤ j ∧ j < i then dg M d (j + 1) else dg M d j) → zbo M1 d → zfr (dB d) M M1 → zW X (zqv (fun M' => dH M' d (ls.eraseIdx t) ∧ zfr (dB d) M M')) (0, 0) 12 [(0, .ref d), (1, .int (nI t)), (2, .int (nI i))] [] M1 := by
    intro n
    induction n with
    | zero =>
      intro i M1 hn hti hz1 hdg1 hb1 hf1
      refine za_iload_n hc dD_remove_12 rfl ?_
      refine za_aload_n hc dD_remove_13 rfl ?_
      refine za_getI hc gfD_32 (by assumption) dD_remove_14 ?_
      refine za_icmp_ge 34 hc dD_remove_17 rfl (fun h_17 => ?_) (fun h_17 => ?_)
      · skip
        rw [hz1] at h_17
        have hle : ls.length - 1 ≤ i := (nI_leI (by omega) (by omega)).mp h_17
        refine za_vret hc rfl dD_remove_34 ⟨Nat.zero_le _, Nat.zero_le _⟩ ⟨rfl, ⟨?_, ?_, ?_, hb1⟩, hf1⟩
        · rw [hz1, List.length_eraseIdx_of_lt ht]
        · rw [List.length_eraseIdx_of_lt ht]; omega
        · intro j q hq
          rw [List.getElem?_eraseIdx] at hq
          rw [hdg1]
          have hj : j < ls.length - 1 := by
            have := (List.getElem?_eq_some_iff.mp (by rw [List.getElem?_eraseIdx]; exact hq : (ls.eraseIdx t)[j]? = some q)).1
            rw [List.length_eraseIdx_of_lt ht] at this; exact this
          by_cases hjt : j < t
          · rw [if_pos hjt] at hq; rw [if_neg (by omega)]; exact hH.2.2.1 j q hq
          · rw [if_neg hjt] at hq; rw [if_pos ⟨by omega, by omega⟩]; exact hH.2.2.1 (j + 1) q hq
      · skip
        rw [hz1] at h_17
        exact absurd ((nI_leI (by omega) (by omega)).mpr (show ls.length - 1 ≤ i by omega)) h_17
    | succ n ih =>
      intro i M1 hn hti hz1 hdg1 hb1 hf1
      refine za_iload_n hc dD_remove_12 rfl ?_
      refine za_aload_n hc dD_remove_13 rfl ?_
      refine za_getI hc gfD_32 (by assumption) dD_remove_14 ?_
      refine za_icmp_ge 34 hc dD_remove_17 rfl (fun h_17 => ?_) (fun h_17 => ?_)
      · skip
        rw [hz1] at h_17
        have hle : ls.length - 1 ≤ i := (nI_leI (by omega) (by omega)).mp h_17
        refine za_vret hc rfl dD_remove_34 ⟨Nat.zero_le _, Nat.zero_le _⟩ ⟨rfl, ⟨?_, ?_, ?_, hb1⟩, hf1⟩
        · rw [hz1, List.length_eraseIdx_of_lt ht]
        · rw [List.length_eraseIdx_of_lt ht]; omega
        · intro j q hq
          rw [List.getElem?_eraseIdx] at hq
          rw [hdg1]
          have hj : j < ls.length - 1 := by
            have := (List.getElem?_eq_some_iff.mp (by rw [List.getElem?_eraseIdx]; exact hq : (ls.eraseIdx t)[j]? = some q)).1
            rw [List.length_eraseIdx_of_lt ht] at this; exact this
          by_cases hjt : j < t
          · rw [if_pos hjt] at hq; rw [if_neg (by omega)]; exact hH.2.2.1 j q hq
          · rw [if_neg hjt] at hq; rw [if_pos ⟨by omega, by omega⟩]; exact hH.2.2.1 (j + 1) q hq
      · skip
        rw [hz1] at h_17
        have hlt : i < ls.length - 1 := Nat.not_le.mp (fun z => h_17 ((nI_leI (by omega) (by omega)).mpr z))
        refine za_aload_n hc dD_remove_20 rfl ?_
        refine za_iload_n hc dD_remove_21 rfl ?_
        refine za_iconst hc 1 dD_remove_22 rfl ?_
        refine za_iadd hc dD_remove_23 ?_
        rw [show nI i + (1 : Int32) = nI (i + 1) from (nI_succ i).symm]
        refine za_iload_n hc dD_remove_24 rfl ?_
        refine za_cV2v hc gsD_48 (by assumption) (cD_move_ l M1 hd (show i + 1 < 36 by omega) (show i < 36 by omega) hb1) ⟨rfl, rfl⟩ ⟨Nat.le_of_ble_eq_true rfl, Nat.le_of_ble_eq_true rfl⟩ ⟨Nat.zero_le _, Nat.zero_le _⟩ dD_remove_25 (fun M_25 h_25 => ?_)
        obtain ⟨g1, g2, g3⟩ := h_25
        refine za_iinc hc _ dD_remove_28 rfl ((nI_succ i).symm) (by decide) ?_
        refine za_goto 12 hc dD_remove_31 rfl ?_
        refine ih (i + 1) M_25 (by omega) (by omega) ?_ ?_ g2 (hf1.tr (g3.wk (fun k => dA_B)))
        · rw [(g3 d (fun z => by have := z.1; omega)).1]; exact hz1
        · intro j
          rw [g1, hdg1, hdg1]
          by_cases hj : j = i
          · rw [if_pos hj, if_neg (by omega), if_pos ⟨by omega, by omega⟩, hj]
          · rw [if_neg hj]
            by_cases h2 : t ≤ j ∧ j < i
            · rw [if_pos h2, if_pos ⟨h2.1, by omega⟩]
            · rw [if_neg h2, if_neg (by omega)]
  refine za_aload_n hc dD_remove_0 rfl ?_
  refine za_dup hc dD_remove_1 rfl ?_
  refine za_getI hc gfD_32 (by assumption) dD_remove_2 ?_
  refine za_iconst hc 1 dD_remove_5 rfl ?_
  refine za_isub hc dD_remove_6 ?_
  rw [hH.1, show nI ls.length - (1 : Int32) = nI (ls.length - 1) from pk_sub (a := ls.length) (b := 1) (by omega)]
  refine za_putI hc gpD_32 (by assumption) dD_remove_7 ?_
  refine za_iload_n hc dD_remove_10 rfl ?_
  refine za_istore_n hc dD_remove_11 (by decide) ?_
  refine loop (ls.length - 1 - t) t _ (by omega) (Nat.le_refl _) (by rw [zI_s, if_pos rfl]) (fun j => ?_) (fun j => ?_) (zfr_sI ⟨Nat.le_refl _, by omega⟩)
  · rw [if_neg (by omega), zfr_dg (zfr_sI (P := fun k => k = d) (j := 5) rfl) (by omega) (by omega) (by omega) (by omega)]
  · rw [zI_o (by omega)]; exact hH.2.2.2 j
end
section
/-! A member is laid into a draft. -/
theorem gins_lt {q m : gC} {l : List gC} (h : gklt q m) : gins (q :: l) m = q :: gins l m := if_pos h
theorem gins_eq {q m : gC} {l : List gC} (h : gkeq q m) : gins (q :: l) m = gstr q m :: l := (if_neg (fun z => gklt_ne z h)).trans (if_pos h)
theorem gins_gt {q m : gC} {l : List gC} (h : ¬ gklt q m) (h' : ¬ gkeq q m) : gins (q :: l) m = m :: q :: l := (if_neg h).trans (if_neg h')
theorem gins_set : ∀ (ls : List gC) (p : Nat) (q m : gC), (∀ j k, j < p → ls[j]? = some k → gklt k m) → ls[p]? = some q → gkeq q m → gins ls m = ls.set p (gstr q m) := by
  intro ls
  induction ls with
  | nil => intro p q m _ h _; simp at h
  | cons a t ih =>
    intro p q m hlt hq hk
    cases p with
    | zero =>
      have : a = q := by simpa using hq
      subst this
      rw [gins_eq hk]
      rfl
    | succ p =>
      rw [gins_lt (hlt 0 a (by omega) rfl), ih p q m (fun j k hj hk => hlt (j + 1) k (by omega) (by simpa using hk)) (by simpa using hq) hk]
      rfl
theorem gins_at : ∀ (ls : List gC) (p : Nat) (m : gC), p ≤ ls.length → (∀ j k, j < p → ls[j]? = some k → gklt k m) → (∀ q, ls[p]? = some q → ¬ gklt q m ∧ ¬ gkeq q m) → gins ls m = ls.insertIdx p m := by
  intro ls
  induction ls with
  | nil =>
    intro p m hp _ _
    have : p = 0 := by simpa using hp
    subst this
    rfl
  | cons a t ih =>
    intro p m hp hlt hq
    cases p with
    | zero =>
      obtain ⟨h1, h2⟩ := hq a rfl
      rw [gins_gt h1 h2]
      rfl
    | succ p =>
      rw [gins_lt (hlt 0 a (by omega) rfl), ih p m (by simpa using hp) (fun j k hj hk => hlt (j + 1) k (by omega) (by simpa using hk)) (fun q h => hq q (by simpa using h))]
      rfl
theorem cD_strengthen_ (l : Launch) {d j : Nat} (M : zM) (c : Int64) (s : Int32) (x y : Int) (hd : zdr d) (hj : j < 36) (hb : zbo M d) (hs : s = 0 ∨ s = 1) : zMet l mD_strengthen rD_strengthen [.ref d, .int (nI j), .long c, .int s] M (zqv (fun M' => (∀ i, dg M' d i = if i = j then gstr (dg M d j) (x, y, c.toInt, s == 1) else dg M d i) ∧ zbo M' d ∧ zfr (dA d) M M')) :=
  zMet_mono (fun r M' h => by
    obtain ⟨h0, h⟩ := h
    refine ⟨h0, ?_⟩
    have hs1 : (s == 1) = true ↔ s = 1 := by simp
    by_cases c1 : c.toInt < (zJ M (d + 3) j).toInt
    · rw [if_pos c1] at h
      subst h
      refine ⟨fun i => ?_, fun i => ?_, (zfr_sJ ⟨by omega, by omega⟩).tr (zfr_sI ⟨by omega, by omega⟩)⟩
      · unfold dg gstr
        rw [zJ_sI, zJ_o (by omega), zJ_o (by omega), zJ_s, zI_s, zI_sJ]
        by_cases hi : i = j
        · subst hi
          simp only [if_true]
          rw [if_pos c1]
        · simp only [if_neg hi]
      · rw [zI_s, zI_sJ]; split
        · exact hs
        · exact hb i
    · rw [if_neg c1] at h
      by_cases c2 : c.toInt = (zJ M (d + 3) j).toInt ∧ s = 1
      · rw [if_pos c2] at h
        subst h
        refine ⟨fun i => ?_, fun i => ?_, zfr_sI ⟨by omega, by omega⟩⟩
        · unfold dg gstr
          rw [zJ_sI, zI_s]
          by_cases hi : i = j
          · subst hi
            simp only [if_true]
            rw [if_neg c1, if_pos ⟨c2.1, hs1.mpr c2.2⟩]
            rfl
          · simp only [if_neg hi]
        · rw [zI_s]; split
          · exact Or.inr rfl
          · exact hb i
      · rw [if_neg c2] at h
        subst h
        refine ⟨fun i => ?_, hb, zfr.rf⟩
        by_cases hi : i = j
        · rw [if_pos hi, hi]
          unfold gstr dg
          rw [if_neg c1, if_neg (fun z => c2 ⟨z.1, hs1.mp z.2⟩)]
        · rw [if_neg hi]) (cD_strengthen0 l M c s hd hj hb hs)

set_option maxRecDepth 100000 in
set_option maxHeartbeats 4000000 in
theorem cD_insert_ (l : Launch) {d : Nat} {ls : List gC} (M : zM) (a b c : Int64) (s : Int32) (hd : zdr d) (hH : dH M d ls) (hlt : ls.length < 36) (hs : s = 0 ∨ s = 1) : zMet l mD_insert rD_insert [.ref d, .long a, .long b, .long c, .int s] M (zqv (fun M' => dH M' d (gins ls (a.toInt, b.toInt, c.toInt, s == 1)) ∧ zfr (dB d) M M')) := by
  refine za_enter (by decide) (Nat.le_of_ble_eq_true rfl) (fun X hc => ?_)
  have hdo := hd.o
  have hda := hd.a
  have hdb := hd.b
  have hdc := hd.c
  have hds := hd.s
  have hpo := hd.p.o
  have hl := hH.2.1
  have hmd : ∀ j k, ls[j]? = some k → dg M d j = k := hH.2.2.1
  have loop2 : ∀ n i e (M1 : zM), e = i + n → i ≤ ls.length → e ≤ ls.length → gins ls (a.toInt, b.toInt, c.toInt, s == 1) = ls.insertIdx i (a.toInt, b.toInt, c.toInt, s == 1) → zI M1 d 5 = nI ls.length → (∀ j, dg M1 d j = if e < j ∧ j ≤ ls.length then dg M d (j - 1) else dg M d j) → zbo M1 d → zfr (dA d) M M1 → zW X (zqv (fun M' => dH M' d (gins ls (a.toInt, b.toInt, c.toInt, s == 1)) ∧ zfr (dB d) M M')) (0, 0) 114 [(0, .ref d), (1, .long a), (3, .long b), (5, .long c), (7, .int s), (8, .int (nI i)), (9, .int (nI e))] [] M1 := by
    intro n
    induction n with
    | zero =>
      intro i e M1 he hi hel hg hz1 hdg1 hb1 hf1
      refine za_iload hc dD_insert_114 rfl ?_
      refine za_iload hc dD_insert_116 rfl ?_
      refine za_icmp_le 137 hc dD_insert_118 rfl (fun h_118 => ?_) (fun h_118 => ?_)
      · skip
        have hle : e ≤ i := (nI_leI (by omega) (by omega)).mp h_118
        obtain rfl : i = e := by omega
        refine za_aload_n hc dD_insert_137 rfl ?_
        refine za_dup hc dD_insert_138 rfl ?_
        refine za_getI hc gfD_32 (by assumption) dD_insert_139 ?_
        refine za_iconst hc 1 dD_insert_142 rfl ?_
        refine za_iadd hc dD_insert_143 ?_
        rw [hz1, show nI ls.length + (1 : Int32) = nI (ls.length + 1) from (nI_succ _).symm]
        refine za_putI hc gpD_32 (by assumption) dD_insert_144 ?_
        refine za_aload_n hc dD_insert_147 rfl ?_
        refine za_getS hc gfD_11 (by assumption) dD_insert_148 ?_
        refine za_iload hc dD_insert_151 rfl ?_
        refine za_lload_n hc dD_insert_153 rfl ?_
        refine za_last hc (by assumption) dD_insert_154 (vp_in_nI (show i < 36 by omega) (by decide)) ?_
        refine za_aload_n hc dD_insert_155 rfl ?_
        refine za_getS hc gfD_15 (by assumption) dD_insert_156 ?_
        refine za_iload hc dD_insert_159 rfl ?_
        refine za_lload_n hc dD_insert_161 rfl ?_
        refine za_last hc (by assumption) dD_insert_162 (vp_in_nI (show i < 36 by omega) (by decide)) ?_
        refine za_aload_n hc dD_insert_163 rfl ?_
        refine za_getS hc gfD_18 (by assumption) dD_insert_164 ?_
        refine za_iload hc dD_insert_167 rfl ?_
        refine za_lload hc dD_insert_169 rfl ?_
        refine za_last hc (by assumption) dD_insert_171 (vp_in_nI (show i < 36 by omega) (by decide)) ?_
        refine za_aload_n hc dD_insert_172 rfl ?_
        refine za_getS hc gfD_21 (by assumption) dD_insert_173 ?_
        refine za_iload hc dD_insert_176 rfl ?_
        refine za_iload hc dD_insert_178 rfl ?_
        refine za_zast hc (by assumption) dD_insert_180 (vp_in_nI (show i < 36 by omega) (by decide)) ?_
        rw [nI_clamp (show i < 2 ^ 31 by omega), zn01 hs]
        refine za_vret hc rfl dD_insert_181 ⟨Nat.zero_le _, Nat.zero_le _⟩ ?_
        have hin : i ≤ ls.length := hi
        refine ⟨rfl, ⟨?_, ?_, ?_, ?_⟩, ?_⟩
        · rw [zI_o (show ¬ d = d + 4 by omega), zI_sJ, zI_sJ, zI_sJ, zI_s, if_pos rfl, hg, List.length_insertIdx_of_le_length hin]
        · rw [hg, List.length_insertIdx_of_le_length hin]; omega
        · intro j q hq
          have e1 : dg (zsI (zsJ (zsJ (zsJ (zsI M1 d 5 (nI (ls.length + 1))) (d + 1) i a) (d + 2) i b) (d + 3) i c) (d + 4) i s) d j = if j = i then (a.toInt, b.toInt, c.toInt, s == 1) else dg (zsI M1 d 5 (nI (ls.length + 1))) d j := zput4_dg
          rw [e1, zfr_dg (zfr_sI (P := fun k => k = d) (j := 5) rfl) (by omega) (by omega) (by omega) (by omega), hdg1]
          rw [hg, List.getElem?_insertIdx] at hq
          by_cases c1 : j < i
          · rw [if_pos c1] at hq; rw [if_neg (by omega), if_neg (by omega)]; exact hmd j q hq
          · rw [if_neg c1] at hq
            by_cases c2 : j = i
            · rw [if_pos c2, if_pos (by omega)] at hq; rw [if_pos c2]; exact Option.some.inj hq
            · rw [if_neg c2] at hq
              have hj := (List.getElem?_eq_some_iff.mp hq).1
              rw [if_neg c2, if_pos ⟨by omega, by omega⟩]; exact hmd (j - 1) q hq
        · intro j; rw [zI_s, zI_sJ, zI_sJ, zI_sJ, zI_o (show ¬ d + 4 = d by omega)]; split
          · exact hs
          · exact hb1 j
        · exact (hf1.wk (fun k => dA_B)).tr ((zfr_sI ⟨Nat.le_refl _, by omega⟩).tr ((zfr_sJ ⟨by omega, by omega⟩).tr ((zfr_sJ ⟨by omega, by omega⟩).tr ((zfr_sJ ⟨by omega, by omega⟩).tr (zfr_sI ⟨by omega, by omega⟩)))))
      · skip
        exact absurd ((nI_leI (by omega) (by omega)).mpr (show e ≤ i by omega)) h_118
    | succ n ih =>
      intro i e M1 he hi hel hg hz1 hdg1 hb1 hf1
      refine za_iload hc dD_insert_114 rfl ?_
      refine za_iload hc dD_insert_116 rfl ?_
      refine za_icmp_le 137 hc dD_insert_118 rfl (fun h_118 => ?_) (fun h_118 => ?_)
      · skip
        exact absurd ((nI_leI (by omega) (by omega)).mp h_118) (by omega)
      · skip
        refine za_aload_n hc dD_insert_121 rfl ?_
        refine za_iload hc dD_insert_122 rfl ?_
        refine za_iconst hc 1 dD_insert_124 rfl ?_
        refine za_isub hc dD_insert_125 ?_
        rw [show nI e - (1 : Int32) = nI (e - 1) from pk_sub (a := e) (b := 1) (by omega)]
        refine za_iload hc dD_insert_126 rfl ?_
        refine za_cV2v hc gsD_48 (by assumption) (cD_move_ l M1 hd (show e - 1 < 36 by omega) (show e < 36 by omega) hb1) ⟨rfl, rfl⟩ ⟨Nat.le_of_ble_eq_true rfl, Nat.le_of_ble_eq_true rfl⟩ ⟨Nat.zero_le _, Nat.zero_le _⟩ dD_insert_128 (fun M_128 h_128 => ?_)
        obtain ⟨g1, g2, g3⟩ := h_128
        refine za_iinc hc _ dD_insert_131 rfl (show nI e + Int32.ofInt (-1) = nI (e - 1) from sb_m1 (by omega)) (by decide) ?_
        refine za_goto 114 hc dD_insert_134 rfl ?_
        refine ih i (e - 1) M_128 (by omega) hi (by omega) hg ?_ ?_ g2 (hf1.tr g3)
        · rw [(g3 d (fun z => by have := z.1; omega)).1]; exact hz1
        · intro j
          rw [g1, hdg1, hdg1]
          by_cases hj : j = e
          · rw [if_pos hj, if_neg (by omega), if_pos ⟨by omega, by omega⟩, hj]
          · rw [if_neg hj]
            by_cases h2 : e < j ∧ j ≤ ls.length
            · rw [if_pos h2, if_pos ⟨by omega, h2.2⟩]
            · rw [if_neg h2, if_neg (by omega)]
  have ins98 : ∀ i, i ≤ ls.length → (∀ j, j < i → gklt (dg M d j) (a.toInt, b.toInt, c.toInt, s == 1)) → (i = ls.length ∨ (¬ gklt (dg M d i) (a.toInt, b.toInt, c.toInt, s == 1) ∧ ¬ gkeq (dg M d i) (a.toInt, b.toInt, c.toInt, s == 1))) → zW X (zqv (fun M' => dH M' d (gins ls (a.toInt, b.toInt, c.toInt, s == 1)) ∧ zfr (dB d) M M')) (0, 0) 98 [(0, .ref d), (1, .long a), (3, .long b), (5, .long c), (7, .int s), (8, .int (nI i))] [] M := by
    intro i hi hall hx
    refine za_aload_n hc dD_insert_98 rfl ?_
    refine za_getI hc gfD_32 (by assumption) dD_insert_99 ?_
    refine za_bipush hc 36 dD_insert_102 rfl ?_
    rw [hH.1]
    refine za_icmp_lt 108 hc dD_insert_104 rfl (fun h_104 => ?_) (fun h_104 => ?_)
    · skip
      refine za_aload_n hc dD_insert_108 rfl ?_
      refine za_getI hc gfD_32 (by assumption) dD_insert_109 ?_
      rw [hH.1]
      refine za_istore hc dD_insert_112 (by decide) ?_
      refine loop2 (ls.length - i) i ls.length M (by omega) hi (Nat.le_refl _) (gins_at ls i _ hi (fun j k hj hk => by rw [← hmd j k hk]; exact hall j hj) (fun q hq => ?_)) hH.1 (fun j => by rw [if_neg (by omega)]) hH.2.2.2 zfr.rf
      rcases hx with hx | hx
      · have := (List.getElem?_eq_some_iff.mp hq).1; omega
      · rw [← hmd i q hq]; exact hx
    · skip
      exact absurd ((nI_ltI (b := 36) (by omega) (by decide)).mpr hlt) h_104
  have after : ∀ i, i ≤ ls.length → (∀ j, j < i → gklt (dg M d j) (a.toInt, b.toInt, c.toInt, s == 1)) → (i = ls.length ∨ ¬ gklt (dg M d i) (a.toInt, b.toInt, c.toInt, s == 1)) → zW X (zqv (fun M' => dH M' d (gins ls (a.toInt, b.toInt, c.toInt, s == 1)) ∧ zfr (dB d) M M')) (0, 0) 54 [(0, .ref d), (1, .long a), (3, .long b), (5, .long c), (7, .int s), (8, .int (nI i))] [] M := by
    intro i hi hall hx
    refine za_iload hc dD_insert_54 rfl ?_
    refine za_aload_n hc dD_insert_56 rfl ?_
    refine za_getI hc gfD_32 (by assumption) dD_insert_57 ?_
    rw [hH.1]
    refine za_icmp_ge 98 hc dD_insert_60 rfl (fun h_60 => ?_) (fun h_60 => ?_)
    · skip
      have hge : ls.length ≤ i := (nI_leI (by omega) (by omega)).mp h_60
      exact ins98 i hi hall (Or.inl (by omega))
    · skip
      have hlt2 : i < ls.length := Nat.not_le.mp (fun z => h_60 ((nI_leI (by omega) (by omega)).mpr z))
      have hx : ¬ gklt (dg M d i) _ := hx.resolve_left (by omega)
      refine za_aload_n hc dD_insert_63 rfl ?_
      refine za_getS hc gfD_11 (by assumption) dD_insert_64 ?_
      refine za_iload hc dD_insert_67 rfl ?_
      refine za_lald hc (by assumption) dD_insert_69 (vp_in_nI (show i < 36 by omega) (by decide)) ?_
      refine za_lload_n hc dD_insert_70 rfl ?_
      refine za_lcmp_ne 98 hc dD_insert_71 dD_insert_72 rfl (fun h_71 => ?_) (fun h_71 => ?_)
      · skip
        rw [nI_clamp (show i < 2 ^ 31 by omega), ← Int64.toInt_inj] at h_71
        exact ins98 i hi hall (Or.inr ⟨hx, fun z => h_71 z.1⟩)
      · skip
        rw [nI_clamp (show i < 2 ^ 31 by omega), ← Int64.toInt_inj] at h_71
        refine za_aload_n hc dD_insert_75 rfl ?_
        refine za_getS hc gfD_15 (by assumption) dD_insert_76 ?_
        refine za_iload hc dD_insert_79 rfl ?_
        refine za_lald hc (by assumption) dD_insert_81 (vp_in_nI (show i < 36 by omega) (by decide)) ?_
        refine za_lload_n hc dD_insert_82 rfl ?_
        refine za_lcmp_ne 98 hc dD_insert_83 dD_insert_84 rfl (fun h_83 => ?_) (fun h_83 => ?_)
        · skip
          rw [nI_clamp (show i < 2 ^ 31 by omega), ← Int64.toInt_inj] at h_83
          exact ins98 i hi hall (Or.inr ⟨hx, fun z => h_83 z.2⟩)
        · skip
          rw [nI_clamp (show i < 2 ^ 31 by omega), ← Int64.toInt_inj] at h_83
          refine za_aload_n hc dD_insert_87 rfl ?_
          refine za_iload hc dD_insert_88 rfl ?_
          refine za_lload hc dD_insert_90 rfl ?_
          refine za_iload hc dD_insert_92 rfl ?_
          refine za_cV3v hc gsD_44 (by assumption) (cD_strengthen_ l M c s a.toInt b.toInt hd (show i < 36 by omega) hH.2.2.2 hs) ⟨rfl, rfl⟩ ⟨Nat.le_of_ble_eq_true rfl, Nat.le_of_ble_eq_true rfl⟩ ⟨Nat.zero_le _, Nat.zero_le _⟩ dD_insert_94 (fun M_94 h_94 => ?_)
          obtain ⟨g1, g2, g3⟩ := h_94
          have hq := List.getElem?_eq_getElem hlt2
          have hgi := gins_set ls i _ (a.toInt, b.toInt, c.toInt, s == 1) (fun j k hj hk => by rw [← hmd j k hk]; exact hall j hj) hq (by rw [← hmd i _ hq]; exact ⟨h_71, h_83⟩)
          exact za_vret hc rfl dD_insert_97 ⟨Nat.zero_le _, Nat.zero_le _⟩ (⟨rfl, ⟨by rw [(g3 d (fun z => by have := z.1; omega)).1, hgi, List.length_set]; exact hH.1, by rw [hgi, List.length_set]; exact hH.2.1, fun j q hj => by
      rw [hgi] at hj
      rw [g1]
      by_cases c1 : j = i
      · subst c1
        rw [List.getElem?_set_self hlt2] at hj
        rw [if_pos rfl, hmd j _ hq]; exact Option.some.inj hj
      · rw [List.getElem?_set_ne (Ne.symm c1)] at hj
        rw [if_neg c1]; exact hmd j q hj, g2⟩, g3.wk (fun k => dA_B)⟩)
  have loop1 : ∀ n i, n + i = ls.length → (∀ j, j < i → gklt (dg M d j) (a.toInt, b.toInt, c.toInt, s == 1)) → zW X (zqv (fun M' => dH M' d (gins ls (a.toInt, b.toInt, c.toInt, s == 1)) ∧ zfr (dB d) M M')) (0, 0) 3 [(0, .ref d), (1, .long a), (3, .long b), (5, .long c), (7, .int s), (8, .int (nI i))] [] M := by
    intro n
    induction n with
    | zero =>
      intro i hn hall
      refine za_iload hc dD_insert_3 rfl ?_
      refine za_aload_n hc dD_insert_5 rfl ?_
      refine za_getI hc gfD_32 (by assumption) dD_insert_6 ?_
      rw [hH.1]
      refine za_icmp_ge 54 hc dD_insert_9 rfl (fun h_9 => ?_) (fun h_9 => ?_)
      · skip
        exact after i (by omega) hall (Or.inl (by omega))
      · skip
        exact absurd ((nI_leI (by omega) (by omega)).mpr (show ls.length ≤ i by omega)) h_9
    | succ n ih =>
      intro i hn hall
      refine za_iload hc dD_insert_3 rfl ?_
      refine za_aload_n hc dD_insert_5 rfl ?_
      refine za_getI hc gfD_32 (by assumption) dD_insert_6 ?_
      rw [hH.1]
      refine za_icmp_ge 54 hc dD_insert_9 rfl (fun h_9 => ?_) (fun h_9 => ?_)
      · skip
        exact absurd ((nI_leI (by omega) (by omega)).mp h_9) (by omega)
      · skip
        refine za_aload_n hc dD_insert_12 rfl ?_
        refine za_getS hc gfD_11 (by assumption) dD_insert_13 ?_
        refine za_iload hc dD_insert_16 rfl ?_
        refine za_lald hc (by assumption) dD_insert_18 (vp_in_nI (show i < 36 by omega) (by decide)) ?_
        refine za_lload_n hc dD_insert_19 rfl ?_
        refine za_lcmp_lt 48 hc dD_insert_20 dD_insert_21 rfl (fun h_20 => ?_) (fun h_20 => ?_)
        · skip
          rw [Int64.lt_iff_toInt_lt, nI_clamp (show i < 2 ^ 31 by omega)] at h_20
          have hk : gklt (dg M d i) (a.toInt, b.toInt, c.toInt, s == 1) := Or.inl h_20
          refine za_iinc hc _ dD_insert_48 rfl ((nI_succ i).symm) (by decide) ?_
          refine za_goto 3 hc dD_insert_51 rfl ?_
          refine ih (i + 1) (by omega) (fun j hj => ?_)
          by_cases c1 : j < i
          · exact hall j c1
          · obtain rfl : j = i := by omega
            exact hk
        · skip
          rw [Int64.lt_iff_toInt_lt, nI_clamp (show i < 2 ^ 31 by omega)] at h_20
          refine za_aload_n hc dD_insert_24 rfl ?_
          refine za_getS hc gfD_11 (by assumption) dD_insert_25 ?_
          refine za_iload hc dD_insert_28 rfl ?_
          refine za_lald hc (by assumption) dD_insert_30 (vp_in_nI (show i < 36 by omega) (by decide)) ?_
          refine za_lload_n hc dD_insert_31 rfl ?_
          refine za_lcmp_ne 54 hc dD_insert_32 dD_insert_33 rfl (fun h_32 => ?_) (fun h_32 => ?_)
          · skip
            rw [nI_clamp (show i < 2 ^ 31 by omega), ← Int64.toInt_inj] at h_32
            exact after i (by omega) hall (Or.inr (fun z => z.elim h_20 (fun z => h_32 z.1)))
          · skip
            rw [nI_clamp (show i < 2 ^ 31 by omega), ← Int64.toInt_inj] at h_32
            refine za_aload_n hc dD_insert_36 rfl ?_
            refine za_getS hc gfD_15 (by assumption) dD_insert_37 ?_
            refine za_iload hc dD_insert_40 rfl ?_
            refine za_lald hc (by assumption) dD_insert_42 (vp_in_nI (show i < 36 by omega) (by decide)) ?_
            refine za_lload_n hc dD_insert_43 rfl ?_
            refine za_lcmp_ge 54 hc dD_insert_44 dD_insert_45 rfl (fun h_44 => ?_) (fun h_44 => ?_)
            · skip
              rw [Int64.le_iff_toInt_le, nI_clamp (show i < 2 ^ 31 by omega)] at h_44
              exact after i (by omega) hall (Or.inr (fun z => z.elim h_20 (fun z => Int.not_le.mpr z.2 h_44)))
            · skip
              rw [Int64.le_iff_toInt_le, nI_clamp (show i < 2 ^ 31 by omega)] at h_44
              have hk : gklt (dg M d i) (a.toInt, b.toInt, c.toInt, s == 1) := Or.inr ⟨h_32, Int.not_le.mp h_44⟩
              refine za_iinc hc _ dD_insert_48 rfl ((nI_succ i).symm) (by decide) ?_
              refine za_goto 3 hc dD_insert_51 rfl ?_
              refine ih (i + 1) (by omega) (fun j hj => ?_)
              by_cases c1 : j < i
              · exact hall j c1
              · obtain rfl : j = i := by omega
                exact hk
  refine za_iconst hc 0 dD_insert_0 rfl ?_
  refine za_istore hc dD_insert_1 (by decide) ?_
  exact loop1 ls.length 0 (by omega) (fun j hj => absurd hj (Nat.not_lt_zero j))
end
section
/-! A member is brought to its normal numbers and laid in. -/
def gg (q : gC) : Nat := Nat.gcd (Nat.gcd q.1.natAbs q.2.1.natAbs) q.2.2.1.natAbs
def gnorm (q : gC) : gC := (q.1.tdiv (gg q), q.2.1.tdiv (gg q), q.2.2.1.tdiv (gg q), q.2.2.2)
def gput (ls : List gC) (m : gC) : List gC := if m.1 = 0 ∧ m.2.1 = 0 then ls else gins ls (gnorm m)
theorem gg_pos {q : gC} (h : ¬ (q.1 = 0 ∧ q.2.1 = 0)) : 0 < gg q := by
  unfold gg
  apply Nat.gcd_pos_of_pos_left
  by_cases h1 : q.1 = 0
  · exact Nat.gcd_pos_of_pos_right _ (by have : q.2.1 ≠ 0 := fun z => h ⟨h1, z⟩; omega)
  · exact Nat.gcd_pos_of_pos_left _ (by omega)
theorem gnorm_1 {q : gC} (h : gg q = 1) : gnorm q = q := by
  unfold gnorm
  rw [h]
  show (q.1.tdiv 1, q.2.1.tdiv 1, q.2.2.1.tdiv 1, q.2.2.2) = q
  rw [Int.tdiv_one, Int.tdiv_one, Int.tdiv_one]
theorem g_tdivb {a : Int} {g B : Nat} (h : a.natAbs < B) : (a.tdiv g).natAbs < B := by
  rw [Int.natAbs_tdiv]
  exact Nat.lt_of_le_of_lt (Nat.div_le_self _ _) h
theorem l_div {x : Int64} {g : Nat} (hx : x.toInt.natAbs < 2 ^ 62) (hg : g < 2 ^ 62) : (x / lN g).toInt = x.toInt.tdiv g := by
  have h := g_tdivb (g := g) hx
  rw [Int64.toInt_div, pk_lT (by omega), l_bm (by omega) (by omega)]
theorem gput_len (ls : List gC) (m : gC) : (gput ls m).length ≤ ls.length + 1 := by
  unfold gput
  split
  · omega
  · generalize gnorm m = k
    induction ls with
    | nil => exact Nat.le_refl _
    | cons a t ih =>
      unfold gins
      split
      · simp only [List.length_cons]; omega
      · split
        · simp
        · simp

set_option maxRecDepth 100000 in
set_option maxHeartbeats 4000000 in
theorem cD_put_ (l : Launch) {d : Nat} {ls : List gC} (M : zM) (a b c : Int64) (s : Int32) (hd : zdr d) (hH : dH M d ls) (hlt : ls.length < 36) (hs : s = 0 ∨ s = 1) (ha : a.toInt.natAbs < 2 ^ 48) (hb : b.toInt.natAbs < 2 ^ 48) (hcb : c.toInt.natAbs < 2 ^ 48) : zMet l mD_put rD_put [.ref d, .long a, .long b, .long c, .int s] M (zqv (fun M' => dH M' d (gput ls (a.toInt, b.toInt, c.toInt, s == 1)) ∧ zfr (dB d) M M')) := by
  refine za_enter (by decide) (Nat.le_of_ble_eq_true rfl) (fun X hc => ?_)
  have hdo := hd.o
  have hda := hd.a
  have hdb := hd.b
  have hdc := hd.c
  have hds := hd.s
  have hpo := hd.p.o
  have hgl1 : Nat.gcd a.toInt.natAbs b.toInt.natAbs < 2 ^ 50 := by
    by_cases h0 : 0 < a.toInt.natAbs
    · have := Nat.gcd_le_left b.toInt.natAbs h0; omega
    · rw [show a.toInt.natAbs = 0 by omega, Nat.gcd_zero_left]; omega
  have hgl : gg (a.toInt, b.toInt, c.toInt, s == 1) < 2 ^ 62 := by
    show Nat.gcd (Nat.gcd a.toInt.natAbs b.toInt.natAbs) c.toInt.natAbs < _
    by_cases h0 : 0 < Nat.gcd a.toInt.natAbs b.toInt.natAbs
    · have := Nat.gcd_le_left c.toInt.natAbs h0; omega
    · rw [show Nat.gcd a.toInt.natAbs b.toInt.natAbs = 0 by omega, Nat.gcd_zero_left]; omega
  refine za_lload_n hc dD_put_0 rfl ?_
  refine za_lconst hc 0 dD_put_1 rfl ?_
  refine za_lcmp_ne 13 hc dD_put_2 dD_put_3 rfl (fun h_2 => ?_) (fun h_2 => ?_)
  · skip
    have hne : ¬ (a.toInt = 0 ∧ b.toInt = 0) := fun z => h_2 (Int64.toInt_inj.mp z.1)
    refine za_lload_n hc dD_put_13 rfl ?_
    refine za_lload_n hc dD_put_14 rfl ?_
    refine za_cSN2l hc gsD_36 (cK_commonDivisor_ l M a b _ (by omega) (by omega) rfl) ⟨rfl, rfl⟩ ⟨Nat.le_of_ble_eq_true rfl, Nat.le_of_ble_eq_true rfl⟩ ⟨Nat.zero_le _, Nat.zero_le _⟩ dD_put_15 (fun x_15 M_15 h_15 => ?_)
    obtain ⟨rfl, rfl⟩ := h_15
    refine za_lload hc dD_put_18 rfl ?_
    refine za_cSN2l hc gsD_36 (cK_commonDivisor_ l _ _ c (gg (a.toInt, b.toInt, c.toInt, s == 1)) (by rw [pk_lT (by omega)]; omega) (by omega) (by rw [pk_lT (by omega)]; rfl)) ⟨rfl, rfl⟩ ⟨Nat.le_of_ble_eq_true rfl, Nat.le_of_ble_eq_true rfl⟩ ⟨Nat.zero_le _, Nat.zero_le _⟩ dD_put_20 (fun x_20 M_20 h_20 => ?_)
    obtain ⟨rfl, rfl⟩ := h_20
    refine za_lstore hc dD_put_23 (by decide) ?_
    refine za_lload hc dD_put_25 rfl ?_
    refine za_lconst hc 1 dD_put_27 rfl ?_
    refine za_lcmp_le 54 hc dD_put_28 dD_put_29 rfl (fun h_28 => ?_) (fun h_28 => ?_)
    · skip
      have hg1 : gg (a.toInt, b.toInt, c.toInt, s == 1) = 1 := by
        have h1 : gg (a.toInt, b.toInt, c.toInt, s == 1) ≤ 1 := (pk_lLE (b := 1) (by omega) (by decide)).mp h_28
        have h2 := gg_pos (q := (a.toInt, b.toInt, c.toInt, s == 1)) hne
        omega
      refine za_aload_n hc dD_put_54 rfl ?_
      refine za_lload_n hc dD_put_55 rfl ?_
      refine za_lload_n hc dD_put_56 rfl ?_
      refine za_lload hc dD_put_57 rfl ?_
      refine za_iload hc dD_put_59 rfl ?_
      refine za_cV4v hc gsD_40 (by assumption) (cD_insert_ l _ a b c s hd hH hlt hs) ⟨rfl, rfl⟩ ⟨Nat.le_of_ble_eq_true rfl, Nat.le_of_ble_eq_true rfl⟩ ⟨Nat.zero_le _, Nat.zero_le _⟩ dD_put_61 (fun M_61 h_61 => ?_)
      obtain ⟨g1, g2⟩ := h_61
      have hfin : dH M_61 d (gput ls (a.toInt, b.toInt, c.toInt, s == 1)) := by
        unfold gput
        rw [if_neg hne, gnorm_1 hg1]
        exact g1
      exact za_vret hc rfl dD_put_64 ⟨Nat.zero_le _, Nat.zero_le _⟩ (⟨rfl, hfin, g2⟩)
    · skip
      have hnz : ¬ lN (gg (a.toInt, b.toInt, c.toInt, s == 1)) = 0 := fun z => by
        have h1 : gg (a.toInt, b.toInt, c.toInt, s == 1) = 0 := (pk_lEQ (b := 0) (by omega) (by decide)).mp z
        have h2 := gg_pos (q := (a.toInt, b.toInt, c.toInt, s == 1)) hne
        omega
      refine za_aload_n hc dD_put_32 rfl ?_
      refine za_lload_n hc dD_put_33 rfl ?_
      refine za_lload hc dD_put_34 rfl ?_
      refine za_ldiv hc dD_put_36 hnz ?_
      refine za_lload_n hc dD_put_37 rfl ?_
      refine za_lload hc dD_put_38 rfl ?_
      refine za_ldiv hc dD_put_40 hnz ?_
      refine za_lload hc dD_put_41 rfl ?_
      refine za_lload hc dD_put_43 rfl ?_
      refine za_ldiv hc dD_put_45 hnz ?_
      refine za_iload hc dD_put_46 rfl ?_
      refine za_cV4v hc gsD_40 (by assumption) (cD_insert_ l _ _ _ _ s hd hH hlt hs) ⟨rfl, rfl⟩ ⟨Nat.le_of_ble_eq_true rfl, Nat.le_of_ble_eq_true rfl⟩ ⟨Nat.zero_le _, Nat.zero_le _⟩ dD_put_48 (fun M_48 h_48 => ?_)
      obtain ⟨g1, g2⟩ := h_48
      have hfin : dH M_48 d (gput ls (a.toInt, b.toInt, c.toInt, s == 1)) := by
        unfold gput gnorm
        rw [if_neg hne]
        rw [l_div (by omega) hgl, l_div (by omega) hgl, l_div (by omega) hgl] at g1
        exact g1
      refine za_goto 64 hc dD_put_51 rfl ?_
      exact za_vret hc rfl dD_put_64 ⟨Nat.zero_le _, Nat.zero_le _⟩ (⟨rfl, hfin, g2⟩)
  · skip
    refine za_lload_n hc dD_put_6 rfl ?_
    refine za_lconst hc 0 dD_put_7 rfl ?_
    refine za_lcmp_ne 13 hc dD_put_8 dD_put_9 rfl (fun h_8 => ?_) (fun h_8 => ?_)
    · skip
      have hne : ¬ (a.toInt = 0 ∧ b.toInt = 0) := fun z => h_8 (Int64.toInt_inj.mp z.2)
      refine za_lload_n hc dD_put_13 rfl ?_
      refine za_lload_n hc dD_put_14 rfl ?_
      refine za_cSN2l hc gsD_36 (cK_commonDivisor_ l M a b _ (by omega) (by omega) rfl) ⟨rfl, rfl⟩ ⟨Nat.le_of_ble_eq_true rfl, Nat.le_of_ble_eq_true rfl⟩ ⟨Nat.zero_le _, Nat.zero_le _⟩ dD_put_15 (fun x_15 M_15 h_15 => ?_)
      obtain ⟨rfl, rfl⟩ := h_15
      refine za_lload hc dD_put_18 rfl ?_
      refine za_cSN2l hc gsD_36 (cK_commonDivisor_ l _ _ c (gg (a.toInt, b.toInt, c.toInt, s == 1)) (by rw [pk_lT (by omega)]; omega) (by omega) (by rw [pk_lT (by omega)]; rfl)) ⟨rfl, rfl⟩ ⟨Nat.le_of_ble_eq_true rfl, Nat.le_of_ble_eq_true rfl⟩ ⟨Nat.zero_le _, Nat.zero_le _⟩ dD_put_20 (fun x_20 M_20 h_20 => ?_)
      obtain ⟨rfl, rfl⟩ := h_20
      refine za_lstore hc dD_put_23 (by decide) ?_
      refine za_lload hc dD_put_25 rfl ?_
      refine za_lconst hc 1 dD_put_27 rfl ?_
      refine za_lcmp_le 54 hc dD_put_28 dD_put_29 rfl (fun h_28 => ?_) (fun h_28 => ?_)
      · skip
        have hg1 : gg (a.toInt, b.toInt, c.toInt, s == 1) = 1 := by
          have h1 : gg (a.toInt, b.toInt, c.toInt, s == 1) ≤ 1 := (pk_lLE (b := 1) (by omega) (by decide)).mp h_28
          have h2 := gg_pos (q := (a.toInt, b.toInt, c.toInt, s == 1)) hne
          omega
        refine za_aload_n hc dD_put_54 rfl ?_
        refine za_lload_n hc dD_put_55 rfl ?_
        refine za_lload_n hc dD_put_56 rfl ?_
        refine za_lload hc dD_put_57 rfl ?_
        refine za_iload hc dD_put_59 rfl ?_
        refine za_cV4v hc gsD_40 (by assumption) (cD_insert_ l _ a b c s hd hH hlt hs) ⟨rfl, rfl⟩ ⟨Nat.le_of_ble_eq_true rfl, Nat.le_of_ble_eq_true rfl⟩ ⟨Nat.zero_le _, Nat.zero_le _⟩ dD_put_61 (fun M_61 h_61 => ?_)
        obtain ⟨g1, g2⟩ := h_61
        have hfin : dH M_61 d (gput ls (a.toInt, b.toInt, c.toInt, s == 1)) := by
          unfold gput
          rw [if_neg hne, gnorm_1 hg1]
          exact g1
        exact za_vret hc rfl dD_put_64 ⟨Nat.zero_le _, Nat.zero_le _⟩ (⟨rfl, hfin, g2⟩)
      · skip
        have hnz : ¬ lN (gg (a.toInt, b.toInt, c.toInt, s == 1)) = 0 := fun z => by
          have h1 : gg (a.toInt, b.toInt, c.toInt, s == 1) = 0 := (pk_lEQ (b := 0) (by omega) (by decide)).mp z
          have h2 := gg_pos (q := (a.toInt, b.toInt, c.toInt, s == 1)) hne
          omega
        refine za_aload_n hc dD_put_32 rfl ?_
        refine za_lload_n hc dD_put_33 rfl ?_
        refine za_lload hc dD_put_34 rfl ?_
        refine za_ldiv hc dD_put_36 hnz ?_
        refine za_lload_n hc dD_put_37 rfl ?_
        refine za_lload hc dD_put_38 rfl ?_
        refine za_ldiv hc dD_put_40 hnz ?_
        refine za_lload hc dD_put_41 rfl ?_
        refine za_lload hc dD_put_43 rfl ?_
        refine za_ldiv hc dD_put_45 hnz ?_
        refine za_iload hc dD_put_46 rfl ?_
        refine za_cV4v hc gsD_40 (by assumption) (cD_insert_ l _ _ _ _ s hd hH hlt hs) ⟨rfl, rfl⟩ ⟨Nat.le_of_ble_eq_true rfl, Nat.le_of_ble_eq_true rfl⟩ ⟨Nat.zero_le _, Nat.zero_le _⟩ dD_put_48 (fun M_48 h_48 => ?_)
        obtain ⟨g1, g2⟩ := h_48
        have hfin : dH M_48 d (gput ls (a.toInt, b.toInt, c.toInt, s == 1)) := by
          unfold gput gnorm
          rw [if_neg hne]
          rw [l_div (by omega) hgl, l_div (by omega) hgl, l_div (by omega) hgl] at g1
          exact g1
        refine za_goto 64 hc dD_put_51 rfl ?_
        exact za_vret hc rfl dD_put_64 ⟨Nat.zero_le _, Nat.zero_le _⟩ (⟨rfl, hfin, g2⟩)
    · skip
      exact za_vret hc rfl dD_put_12 ⟨Nat.zero_le _, Nat.zero_le _⟩ (⟨rfl, by unfold gput; rw [if_pos ⟨by rw [h_2]; rfl, by rw [h_8]; rfl⟩]; exact hH, zfr.rf⟩)
end
section
/-! Span.narrow. -/
def sE (M : zM) (p e : Nat) : gE := ((zJ M (p + 1) e).toInt, (zJ M (p + 2) e).toInt, zI M (p + 3) e == 1)
/-- a span within bounds -/
def sB (M : zM) (p : Nat) : Prop := (∀ e, -1073741824 ≤ (zJ M (p + 1) e).toInt ∧ (zJ M (p + 1) e).toInt ≤ 1073741824) ∧ (∀ e, 0 ≤ (zJ M (p + 2) e).toInt ∧ (zJ M (p + 2) e).toInt ≤ 1073741824) ∧ ∀ e, zI M (p + 3) e = 0 ∨ zI M (p + 3) e = 1
def sA (p : Nat) : Nat → Prop := fun k => p + 1 ≤ k ∧ k ≤ p + 3
def sPost (M : zM) (p : Nat) (n m : Int64) (s : Int32) (r : Int32) (M' : zM) : Prop :=
  zfr (sA p) M M' ∧ sB M' p ∧ (r = 0 ∨ r = 1) ∧ (n.toInt = 0 → M' = M ∧ (r = 1 ↔ 0 < m.toInt ∨ (m.toInt = 0 ∧ s = 0))) ∧
  (n.toInt ≠ 0 → sE M' p 0 = (if 0 < n.toInt then gEup (sE M p 0) m.toInt n.toInt (s == 1) else sE M p 0) ∧ sE M' p 1 = (if 0 < n.toInt then sE M p 1 else gEup (sE M p 1) m.toInt (-n.toInt) (s == 1)) ∧ (r = 1 ↔ gGap (sE M' p 0) (sE M' p 1)))
theorem lz : (0 : Int64).toInt = 0 := by decide

set_option maxRecDepth 100000 in
set_option maxHeartbeats 4000000 in
theorem cS_narrow_ (l : Launch) {p : Nat} (M : zM) (n m : Int64) (s : Int32) (hp : zsp p) (hB : sB M p) (hs : s = 0 ∨ s = 1) (hbd : n.toInt ≠ 0 → (-1073741824 ≤ n.toInt ∧ n.toInt ≤ 1073741824) ∧ (-1073741824 ≤ m.toInt ∧ m.toInt ≤ 1073741824)) : zMet l mS_narrow rS_narrow [.ref p, .long n, .long m, .int s] M (zqi (sPost M p n m s)) := by
  refine za_enter (by decide) (Nat.le_of_ble_eq_true rfl) (fun X hc => ?_)
  have h0 := hp.o
  have h1 := hp.t
  have h2 := hp.b
  have h3 := hp.s
  have fin : ∀ (M1 : zM), zfr (sA p) M M1 → sB M1 p → (n.toInt ≠ 0 ∧ sE M1 p 0 = (if 0 < n.toInt then gEup (sE M p 0) m.toInt n.toInt (s == 1) else sE M p 0) ∧ sE M1 p 1 = (if 0 < n.toInt then sE M p 1 else gEup (sE M p 1) m.toInt (-n.toInt) (s == 1))) → zW X (zqi (sPost M p n m s)) (0, 0) 138 [(0, .ref p)] [] M1 := by
    intro M1 hf hB1 he
    have b1 := hB1.2.1 0
    have b2 := hB1.2.1 1
    have t1 := hB1.1 0
    have t2 := hB1.1 1
    have p1 := g_mulb t1 (show -1073741824 ≤ _ ∧ _ ≤ (1073741824 : Int) from ⟨by omega, b2.2⟩)
    have p2 := g_mulb t2 (show -1073741824 ≤ _ ∧ _ ≤ (1073741824 : Int) from ⟨by omega, b1.2⟩)
    refine za_aload_n hc dS_narrow_138 rfl ?_
    refine za_getS hc gfS_13 (by assumption) dS_narrow_139 ?_
    refine za_iconst hc 0 dS_narrow_142 rfl ?_
    refine za_lald hc (by assumption) dS_narrow_143 (by unfold vp_in; decide) ?_
    refine za_lconst hc 0 dS_narrow_144 rfl ?_
    refine za_lcmp_eq 160 hc dS_narrow_145 dS_narrow_146 rfl (fun h_145 => ?_) (fun h_145 => ?_)
    · skip
      have z1 : zJ M1 (p + 2) 0 = 0 := h_145
      refine za_iconst hc 1 dS_narrow_160 rfl ?_
      exact za_zret hc rfl (rfl) dS_narrow_161 ⟨Nat.zero_le _, Nat.zero_le _⟩ (by first | exact ⟨1, rfl, hf, hB1, Or.inr rfl, fun z => absurd z he.1, fun _ => ⟨he.2.1, he.2.2, ⟨fun _ => Or.inl (by show (zJ M1 (p + 2) 0).toInt = 0; rw [z1]; rfl), fun _ => rfl⟩⟩⟩ | exact ⟨1, rfl, hf, hB1, Or.inr rfl, fun z => absurd z he.1, fun _ => ⟨he.2.1, he.2.2, ⟨fun _ => Or.inr (Or.inl (by show (zJ M1 (p + 2) 1).toInt = 0; rw [z2]; rfl)), fun _ => rfl⟩⟩⟩)
    · skip
      have z1 : ¬ zJ M1 (p + 2) 0 = 0 := h_145
      rw [← Int64.toInt_inj, lz] at z1
      refine za_aload_n hc dS_narrow_149 rfl ?_
      refine za_getS hc gfS_13 (by assumption) dS_narrow_150 ?_
      refine za_iconst hc 1 dS_narrow_153 rfl ?_
      refine za_lald hc (by assumption) dS_narrow_154 (by unfold vp_in; decide) ?_
      refine za_lconst hc 0 dS_narrow_155 rfl ?_
      refine za_lcmp_ne 162 hc dS_narrow_156 dS_narrow_157 rfl (fun h_156 => ?_) (fun h_156 => ?_)
      · skip
        have z2 : ¬ zJ M1 (p + 2) 1 = 0 := h_156
        rw [← Int64.toInt_inj, lz] at z2
        have hgap : (zJ M1 (p + 1) 0 * zJ M1 (p + 2) 1 + zJ M1 (p + 1) 1 * zJ M1 (p + 2) 0).toInt = (zJ M1 (p + 1) 0).toInt * (zJ M1 (p + 2) 1).toInt + (zJ M1 (p + 1) 1).toInt * (zJ M1 (p + 2) 0).toInt := by
          have e1 := l_mul (x := zJ M1 (p + 1) 0) (y := zJ M1 (p + 2) 1) (by omega) (by omega)
          have e2 := l_mul (x := zJ M1 (p + 1) 1) (y := zJ M1 (p + 2) 0) (by omega) (by omega)
          rw [l_add (by omega) (by omega), e1, e2]
        refine za_aload_n hc dS_narrow_162 rfl ?_
        refine za_getS hc gfS_7 (by assumption) dS_narrow_163 ?_
        refine za_iconst hc 0 dS_narrow_166 rfl ?_
        refine za_lald hc (by assumption) dS_narrow_167 (by unfold vp_in; decide) ?_
        refine za_aload_n hc dS_narrow_168 rfl ?_
        refine za_getS hc gfS_13 (by assumption) dS_narrow_169 ?_
        refine za_iconst hc 1 dS_narrow_172 rfl ?_
        refine za_lald hc (by assumption) dS_narrow_173 (by unfold vp_in; decide) ?_
        refine za_lmul hc dS_narrow_174 ?_
        refine za_aload_n hc dS_narrow_175 rfl ?_
        refine za_getS hc gfS_7 (by assumption) dS_narrow_176 ?_
        refine za_iconst hc 1 dS_narrow_179 rfl ?_
        refine za_lald hc (by assumption) dS_narrow_180 (by unfold vp_in; decide) ?_
        refine za_aload_n hc dS_narrow_181 rfl ?_
        refine za_getS hc gfS_13 (by assumption) dS_narrow_182 ?_
        refine za_iconst hc 0 dS_narrow_185 rfl ?_
        refine za_lald hc (by assumption) dS_narrow_186 (by unfold vp_in; decide) ?_
        refine za_lmul hc dS_narrow_187 ?_
        refine za_ladd hc dS_narrow_188 ?_
        refine za_lstore hc dS_narrow_189 (by decide) ?_
        refine za_lload hc dS_narrow_191 rfl ?_
        refine za_lconst hc 0 dS_narrow_193 rfl ?_
        refine za_lcmp_gt 223 hc dS_narrow_194 dS_narrow_195 rfl (fun h_194 => ?_) (fun h_194 => ?_)
        · skip
          have c1 : 0 < (zJ M1 (p + 1) 0).toInt * (zJ M1 (p + 2) 1).toInt + (zJ M1 (p + 1) 1).toInt * (zJ M1 (p + 2) 0).toInt := by rw [← hgap]; exact (Int64.lt_iff_toInt_lt.mp h_194)
          refine za_iconst hc 1 dS_narrow_223 rfl ?_
          refine za_goto 228 hc dS_narrow_224 rfl ?_
          exact za_zret hc rfl (rfl) dS_narrow_228 ⟨Nat.zero_le _, Nat.zero_le _⟩ (by first | exact ⟨1, rfl, hf, hB1, Or.inr rfl, fun z => absurd z he.1, fun _ => ⟨he.2.1, he.2.2, ⟨fun _ => Or.inr (Or.inr (Or.inl c1)), fun _ => rfl⟩⟩⟩ | exact ⟨1, rfl, hf, hB1, Or.inr rfl, fun z => absurd z he.1, fun _ => ⟨he.2.1, he.2.2, ⟨fun _ => Or.inr (Or.inr (Or.inr ⟨c2, by show (zI M1 (p + 3) 0 == 1) = false; rw [s1]; rfl, by show (zI M1 (p + 3) 1 == 1) = false; rw [s2]; rfl⟩)), fun _ => rfl⟩⟩⟩ | exact ⟨0, rfl, hf, hB1, Or.inl rfl, fun z => absurd z he.1, fun _ => ⟨he.2.1, he.2.2, ⟨fun z => absurd z (by decide), fun z => absurd z (by rintro (z | z | z | ⟨z, z3, z4⟩); exact z1 z; exact z2 z; exact c1 z; exact c2 z)⟩⟩⟩ | exact ⟨0, rfl, hf, hB1, Or.inl rfl, fun z => absurd z he.1, fun _ => ⟨he.2.1, he.2.2, ⟨fun z => absurd z (by decide), fun z => absurd z (by rintro (z | z | z | ⟨z, z3, z4⟩); exact z1 z; exact z2 z; exact c1 z; have z3 : (zI M1 (p + 3) 0 == 1) = false := z3; rw [s1] at z3; exact absurd z3 (by decide))⟩⟩⟩ | exact ⟨0, rfl, hf, hB1, Or.inl rfl, fun z => absurd z he.1, fun _ => ⟨he.2.1, he.2.2, ⟨fun z => absurd z (by decide), fun z => absurd z (by rintro (z | z | z | ⟨z, z3, z4⟩); exact z1 z; exact z2 z; exact c1 z; have z4 : (zI M1 (p + 3) 1 == 1) = false := z4; rw [s2] at z4; exact absurd z4 (by decide))⟩⟩⟩)
        · skip
          have c1 : ¬ 0 < (zJ M1 (p + 1) 0).toInt * (zJ M1 (p + 2) 1).toInt + (zJ M1 (p + 1) 1).toInt * (zJ M1 (p + 2) 0).toInt := fun z => h_194 (Int64.lt_iff_toInt_lt.mpr (by rw [lz]; exact hgap ▸ z))
          refine za_lload hc dS_narrow_198 rfl ?_
          refine za_lconst hc 0 dS_narrow_200 rfl ?_
          refine za_lcmp_ne 227 hc dS_narrow_201 dS_narrow_202 rfl (fun h_201 => ?_) (fun h_201 => ?_)
          · skip
            have c2 : ¬ (zJ M1 (p + 1) 0).toInt * (zJ M1 (p + 2) 1).toInt + (zJ M1 (p + 1) 1).toInt * (zJ M1 (p + 2) 0).toInt = 0 := fun z => h_201 (Int64.toInt_inj.mp (by rw [lz]; exact hgap.trans z))
            refine za_iconst hc 0 dS_narrow_227 rfl ?_
            exact za_zret hc rfl (rfl) dS_narrow_228 ⟨Nat.zero_le _, Nat.zero_le _⟩ (by first | exact ⟨1, rfl, hf, hB1, Or.inr rfl, fun z => absurd z he.1, fun _ => ⟨he.2.1, he.2.2, ⟨fun _ => Or.inr (Or.inr (Or.inl c1)), fun _ => rfl⟩⟩⟩ | exact ⟨1, rfl, hf, hB1, Or.inr rfl, fun z => absurd z he.1, fun _ => ⟨he.2.1, he.2.2, ⟨fun _ => Or.inr (Or.inr (Or.inr ⟨c2, by show (zI M1 (p + 3) 0 == 1) = false; rw [s1]; rfl, by show (zI M1 (p + 3) 1 == 1) = false; rw [s2]; rfl⟩)), fun _ => rfl⟩⟩⟩ | exact ⟨0, rfl, hf, hB1, Or.inl rfl, fun z => absurd z he.1, fun _ => ⟨he.2.1, he.2.2, ⟨fun z => absurd z (by decide), fun z => absurd z (by rintro (z | z | z | ⟨z, z3, z4⟩); exact z1 z; exact z2 z; exact c1 z; exact c2 z)⟩⟩⟩ | exact ⟨0, rfl, hf, hB1, Or.inl rfl, fun z => absurd z he.1, fun _ => ⟨he.2.1, he.2.2, ⟨fun z => absurd z (by decide), fun z => absurd z (by rintro (z | z | z | ⟨z, z3, z4⟩); exact z1 z; exact z2 z; exact c1 z; have z3 : (zI M1 (p + 3) 0 == 1) = false := z3; rw [s1] at z3; exact absurd z3 (by decide))⟩⟩⟩ | exact ⟨0, rfl, hf, hB1, Or.inl rfl, fun z => absurd z he.1, fun _ => ⟨he.2.1, he.2.2, ⟨fun z => absurd z (by decide), fun z => absurd z (by rintro (z | z | z | ⟨z, z3, z4⟩); exact z1 z; exact z2 z; exact c1 z; have z4 : (zI M1 (p + 3) 1 == 1) = false := z4; rw [s2] at z4; exact absurd z4 (by decide))⟩⟩⟩)
          · skip
            have c2 : (zJ M1 (p + 1) 0).toInt * (zJ M1 (p + 2) 1).toInt + (zJ M1 (p + 1) 1).toInt * (zJ M1 (p + 2) 0).toInt = 0 := by rw [← hgap]; exact congrArg Int64.toInt h_201
            refine za_aload_n hc dS_narrow_205 rfl ?_
            refine za_getS hc gfS_16 (by assumption) dS_narrow_206 ?_
            refine za_iconst hc 0 dS_narrow_209 rfl ?_
            refine za_zald hc (by assumption) dS_narrow_210 (by unfold vp_in; decide) ?_
            refine za_if_ne 227 hc dS_narrow_211 rfl (fun h_211 => ?_) (fun h_211 => ?_)
            · skip
              have s1 : zI M1 (p + 3) 0 = 1 := (hB1.2.2 0).resolve_left h_211
              refine za_iconst hc 0 dS_narrow_227 rfl ?_
              exact za_zret hc rfl (rfl) dS_narrow_228 ⟨Nat.zero_le _, Nat.zero_le _⟩ (by first | exact ⟨1, rfl, hf, hB1, Or.inr rfl, fun z => absurd z he.1, fun _ => ⟨he.2.1, he.2.2, ⟨fun _ => Or.inr (Or.inr (Or.inl c1)), fun _ => rfl⟩⟩⟩ | exact ⟨1, rfl, hf, hB1, Or.inr rfl, fun z => absurd z he.1, fun _ => ⟨he.2.1, he.2.2, ⟨fun _ => Or.inr (Or.inr (Or.inr ⟨c2, by show (zI M1 (p + 3) 0 == 1) = false; rw [s1]; rfl, by show (zI M1 (p + 3) 1 == 1) = false; rw [s2]; rfl⟩)), fun _ => rfl⟩⟩⟩ | exact ⟨0, rfl, hf, hB1, Or.inl rfl, fun z => absurd z he.1, fun _ => ⟨he.2.1, he.2.2, ⟨fun z => absurd z (by decide), fun z => absurd z (by rintro (z | z | z | ⟨z, z3, z4⟩); exact z1 z; exact z2 z; exact c1 z; exact c2 z)⟩⟩⟩ | exact ⟨0, rfl, hf, hB1, Or.inl rfl, fun z => absurd z he.1, fun _ => ⟨he.2.1, he.2.2, ⟨fun z => absurd z (by decide), fun z => absurd z (by rintro (z | z | z | ⟨z, z3, z4⟩); exact z1 z; exact z2 z; exact c1 z; have z3 : (zI M1 (p + 3) 0 == 1) = false := z3; rw [s1] at z3; exact absurd z3 (by decide))⟩⟩⟩ | exact ⟨0, rfl, hf, hB1, Or.inl rfl, fun z => absurd z he.1, fun _ => ⟨he.2.1, he.2.2, ⟨fun z => absurd z (by decide), fun z => absurd z (by rintro (z | z | z | ⟨z, z3, z4⟩); exact z1 z; exact z2 z; exact c1 z; have z4 : (zI M1 (p + 3) 1 == 1) = false := z4; rw [s2] at z4; exact absurd z4 (by decide))⟩⟩⟩)
            · skip
              have s1 : zI M1 (p + 3) 0 = 0 := h_211
              refine za_aload_n hc dS_narrow_214 rfl ?_
              refine za_getS hc gfS_16 (by assumption) dS_narrow_215 ?_
              refine za_iconst hc 1 dS_narrow_218 rfl ?_
              refine za_zald hc (by assumption) dS_narrow_219 (by unfold vp_in; decide) ?_
              refine za_if_ne 227 hc dS_narrow_220 rfl (fun h_220 => ?_) (fun h_220 => ?_)
              · skip
                have s2 : zI M1 (p + 3) 1 = 1 := (hB1.2.2 1).resolve_left h_220
                refine za_iconst hc 0 dS_narrow_227 rfl ?_
                exact za_zret hc rfl (rfl) dS_narrow_228 ⟨Nat.zero_le _, Nat.zero_le _⟩ (by first | exact ⟨1, rfl, hf, hB1, Or.inr rfl, fun z => absurd z he.1, fun _ => ⟨he.2.1, he.2.2, ⟨fun _ => Or.inr (Or.inr (Or.inl c1)), fun _ => rfl⟩⟩⟩ | exact ⟨1, rfl, hf, hB1, Or.inr rfl, fun z => absurd z he.1, fun _ => ⟨he.2.1, he.2.2, ⟨fun _ => Or.inr (Or.inr (Or.inr ⟨c2, by show (zI M1 (p + 3) 0 == 1) = false; rw [s1]; rfl, by show (zI M1 (p + 3) 1 == 1) = false; rw [s2]; rfl⟩)), fun _ => rfl⟩⟩⟩ | exact ⟨0, rfl, hf, hB1, Or.inl rfl, fun z => absurd z he.1, fun _ => ⟨he.2.1, he.2.2, ⟨fun z => absurd z (by decide), fun z => absurd z (by rintro (z | z | z | ⟨z, z3, z4⟩); exact z1 z; exact z2 z; exact c1 z; exact c2 z)⟩⟩⟩ | exact ⟨0, rfl, hf, hB1, Or.inl rfl, fun z => absurd z he.1, fun _ => ⟨he.2.1, he.2.2, ⟨fun z => absurd z (by decide), fun z => absurd z (by rintro (z | z | z | ⟨z, z3, z4⟩); exact z1 z; exact z2 z; exact c1 z; have z3 : (zI M1 (p + 3) 0 == 1) = false := z3; rw [s1] at z3; exact absurd z3 (by decide))⟩⟩⟩ | exact ⟨0, rfl, hf, hB1, Or.inl rfl, fun z => absurd z he.1, fun _ => ⟨he.2.1, he.2.2, ⟨fun z => absurd z (by decide), fun z => absurd z (by rintro (z | z | z | ⟨z, z3, z4⟩); exact z1 z; exact z2 z; exact c1 z; have z4 : (zI M1 (p + 3) 1 == 1) = false := z4; rw [s2] at z4; exact absurd z4 (by decide))⟩⟩⟩)
              · skip
                have s2 : zI M1 (p + 3) 1 = 0 := h_220
                refine za_iconst hc 1 dS_narrow_223 rfl ?_
                refine za_goto 228 hc dS_narrow_224 rfl ?_
                exact za_zret hc rfl (rfl) dS_narrow_228 ⟨Nat.zero_le _, Nat.zero_le _⟩ (by first | exact ⟨1, rfl, hf, hB1, Or.inr rfl, fun z => absurd z he.1, fun _ => ⟨he.2.1, he.2.2, ⟨fun _ => Or.inr (Or.inr (Or.inl c1)), fun _ => rfl⟩⟩⟩ | exact ⟨1, rfl, hf, hB1, Or.inr rfl, fun z => absurd z he.1, fun _ => ⟨he.2.1, he.2.2, ⟨fun _ => Or.inr (Or.inr (Or.inr ⟨c2, by show (zI M1 (p + 3) 0 == 1) = false; rw [s1]; rfl, by show (zI M1 (p + 3) 1 == 1) = false; rw [s2]; rfl⟩)), fun _ => rfl⟩⟩⟩ | exact ⟨0, rfl, hf, hB1, Or.inl rfl, fun z => absurd z he.1, fun _ => ⟨he.2.1, he.2.2, ⟨fun z => absurd z (by decide), fun z => absurd z (by rintro (z | z | z | ⟨z, z3, z4⟩); exact z1 z; exact z2 z; exact c1 z; exact c2 z)⟩⟩⟩ | exact ⟨0, rfl, hf, hB1, Or.inl rfl, fun z => absurd z he.1, fun _ => ⟨he.2.1, he.2.2, ⟨fun z => absurd z (by decide), fun z => absurd z (by rintro (z | z | z | ⟨z, z3, z4⟩); exact z1 z; exact z2 z; exact c1 z; have z3 : (zI M1 (p + 3) 0 == 1) = false := z3; rw [s1] at z3; exact absurd z3 (by decide))⟩⟩⟩ | exact ⟨0, rfl, hf, hB1, Or.inl rfl, fun z => absurd z he.1, fun _ => ⟨he.2.1, he.2.2, ⟨fun z => absurd z (by decide), fun z => absurd z (by rintro (z | z | z | ⟨z, z3, z4⟩); exact z1 z; exact z2 z; exact c1 z; have z4 : (zI M1 (p + 3) 1 == 1) = false := z4; rw [s2] at z4; exact absurd z4 (by decide))⟩⟩⟩)
      · skip
        have z2 : zJ M1 (p + 2) 1 = 0 := h_156
        refine za_iconst hc 1 dS_narrow_160 rfl ?_
        exact za_zret hc rfl (rfl) dS_narrow_161 ⟨Nat.zero_le _, Nat.zero_le _⟩ (by first | exact ⟨1, rfl, hf, hB1, Or.inr rfl, fun z => absurd z he.1, fun _ => ⟨he.2.1, he.2.2, ⟨fun _ => Or.inl (by show (zJ M1 (p + 2) 0).toInt = 0; rw [z1]; rfl), fun _ => rfl⟩⟩⟩ | exact ⟨1, rfl, hf, hB1, Or.inr rfl, fun z => absurd z he.1, fun _ => ⟨he.2.1, he.2.2, ⟨fun _ => Or.inr (Or.inl (by show (zJ M1 (p + 2) 1).toInt = 0; rw [z2]; rfl)), fun _ => rfl⟩⟩⟩)
  have tail : ∀ (e : Nat) (b : Int64), ((e = 0 ∧ 0 < n.toInt ∧ b.toInt = n.toInt) ∨ (e = 1 ∧ n.toInt < 0 ∧ b.toInt = -n.toInt)) → (-1073741824 ≤ m.toInt ∧ m.toInt ≤ 1073741824) → b.toInt ≤ 1073741824 → zW X (zqi (sPost M p n m s)) (0, 0) 56 [(0, .ref p), (1, .long n), (3, .long m), (5, .int s), (6, .int (nI e)), (7, .long b)] [] M := by
    intro e b heb hm hb
    have he2 : e < 2 := by omega
    have hbp : 0 < b.toInt := by omega
    have hn0 : n.toInt ≠ 0 := by omega
    have q1 := g_mulb hm (show -1073741824 ≤ _ ∧ _ ≤ (1073741824 : Int) from ⟨by have := (hB.2.1 e).1; omega, (hB.2.1 e).2⟩)
    have q2 := g_mulb (hB.1 e) (show -1073741824 ≤ b.toInt ∧ b.toInt ≤ (1073741824 : Int) from ⟨by omega, hb⟩)
    have m1 := l_mul (x := m) (y := zJ M (p + 2) e) (by omega) (by omega)
    have m2 := l_mul (x := zJ M (p + 1) e) (y := b) (by omega) (by omega)
    have hoth : ∀ i, i ≠ e → sE (zsI (zsJ (zsJ M (p + 1) e m) (p + 2) e b) (p + 3) e s) p i = sE M p i := fun i hi => by
      unfold sE
      rw [zJ_sI, zJ_o (show ¬ p + 1 = p + 2 by omega), zJ_s, zJ_s, zJ_o (show ¬ p + 2 = p + 1 by omega), zI_s, zI_sJ, zI_sJ]
      simp only [if_neg hi]
    have hown : sE (zsI (zsJ (zsJ M (p + 1) e m) (p + 2) e b) (p + 3) e s) p e = (m.toInt, b.toInt, s == 1) := by
      unfold sE
      rw [zJ_sI, zJ_o (show ¬ p + 1 = p + 2 by omega), zJ_s, zJ_s, zI_s]
      simp only [if_true]
    have ends : ∀ M1, sE M1 p e = gEup (sE M p e) m.toInt b.toInt (s == 1) → (∀ i, i ≠ e → sE M1 p i = sE M p i) → (n.toInt ≠ 0 ∧ sE M1 p 0 = (if 0 < n.toInt then gEup (sE M p 0) m.toInt n.toInt (s == 1) else sE M p 0) ∧ sE M1 p 1 = (if 0 < n.toInt then sE M p 1 else gEup (sE M p 1) m.toInt (-n.toInt) (s == 1))) := by
      intro M1 g1 g2
      rcases heb with ⟨rfl, g3, g4⟩ | ⟨rfl, g3, g4⟩
      · rw [g4] at g1; exact ⟨hn0, by rw [if_pos g3]; exact g1, by rw [if_pos g3]; exact g2 1 (by decide)⟩
      · rw [g4] at g1; exact ⟨hn0, by rw [if_neg (by omega)]; exact g2 0 (by decide), by rw [if_neg (by omega)]; exact g1⟩
    refine za_lload_n hc dS_narrow_56 rfl ?_
    refine za_aload_n hc dS_narrow_57 rfl ?_
    refine za_getS hc gfS_13 (by assumption) dS_narrow_58 ?_
    refine za_iload hc dS_narrow_61 rfl ?_
    refine za_lald hc (by assumption) dS_narrow_63 (vp_in_nI he2 (by decide)) ?_
    rw [nI_clamp (show e < 2 ^ 31 by omega)]
    refine za_lmul hc dS_narrow_64 ?_
    refine za_lstore hc dS_narrow_65 (by decide) ?_
    refine za_aload_n hc dS_narrow_67 rfl ?_
    refine za_getS hc gfS_7 (by assumption) dS_narrow_68 ?_
    refine za_iload hc dS_narrow_71 rfl ?_
    refine za_lald hc (by assumption) dS_narrow_73 (vp_in_nI he2 (by decide)) ?_
    rw [nI_clamp (show e < 2 ^ 31 by omega)]
    refine za_lload hc dS_narrow_74 rfl ?_
    refine za_lmul hc dS_narrow_76 ?_
    refine za_lstore hc dS_narrow_77 (by decide) ?_
    refine za_aload_n hc dS_narrow_79 rfl ?_
    refine za_getS hc gfS_13 (by assumption) dS_narrow_80 ?_
    refine za_iload hc dS_narrow_83 rfl ?_
    refine za_lald hc (by assumption) dS_narrow_85 (vp_in_nI he2 (by decide)) ?_
    rw [nI_clamp (show e < 2 ^ 31 by omega)]
    refine za_lconst hc 0 dS_narrow_86 rfl ?_
    refine za_lcmp_eq 112 hc dS_narrow_87 dS_narrow_88 rfl (fun h_87 => ?_) (fun h_87 => ?_)
    · skip
      have u0 : (zJ M (p + 2) e).toInt = 0 := by rw [h_87]; rfl
      refine za_aload_n hc dS_narrow_112 rfl ?_
      refine za_getS hc gfS_7 (by assumption) dS_narrow_113 ?_
      refine za_iload hc dS_narrow_116 rfl ?_
      refine za_lload_n hc dS_narrow_118 rfl ?_
      refine za_last hc (by assumption) dS_narrow_119 (vp_in_nI he2 (by decide)) ?_
      refine za_aload_n hc dS_narrow_120 rfl ?_
      refine za_getS hc gfS_13 (by assumption) dS_narrow_121 ?_
      refine za_iload hc dS_narrow_124 rfl ?_
      refine za_lload hc dS_narrow_126 rfl ?_
      refine za_last hc (by assumption) dS_narrow_128 (vp_in_nI he2 (by decide)) ?_
      refine za_aload_n hc dS_narrow_129 rfl ?_
      refine za_getS hc gfS_16 (by assumption) dS_narrow_130 ?_
      refine za_iload hc dS_narrow_133 rfl ?_
      refine za_iload hc dS_narrow_135 rfl ?_
      refine za_zast hc (by assumption) dS_narrow_137 (vp_in_nI he2 (by decide)) ?_
      rw [nI_clamp (show e < 2 ^ 31 by omega), zn01 hs]
      refine za_take 1 ?_
      refine fin _ ((zfr_sJ ⟨by omega, by omega⟩).tr ((zfr_sJ ⟨by omega, by omega⟩).tr (zfr_sI ⟨by omega, by omega⟩))) ⟨fun i => ?_, fun i => ?_, fun i => ?_⟩ (ends _ (hown.trans ?_) hoth)
      · rw [zJ_sI, zJ_o (show ¬ p + 1 = p + 2 by omega), zJ_s]; split
        · exact hm
        · exact hB.1 i
      · rw [zJ_sI, zJ_s, zJ_o (show ¬ p + 2 = p + 1 by omega)]; split
        · exact ⟨by omega, hb⟩
        · exact hB.2.1 i
      · rw [zI_s, zI_sJ, zI_sJ]; split
        · exact hs
        · exact hB.2.2 i
      · unfold gEup; rw [if_pos ?_]
        exact Or.inl u0
    · skip
      have n0 : ¬ (zJ M (p + 2) e).toInt = 0 := fun z => h_87 (Int64.toInt_inj.mp z)
      refine za_lload hc dS_narrow_91 rfl ?_
      refine za_lload hc dS_narrow_93 rfl ?_
      refine za_lcmp_lt 112 hc dS_narrow_95 dS_narrow_96 rfl (fun h_95 => ?_) (fun h_95 => ?_)
      · skip
        have u1 : m.toInt * (zJ M (p + 2) e).toInt < (zJ M (p + 1) e).toInt * b.toInt := by rw [← m1, ← m2]; exact Int64.lt_iff_toInt_lt.mp h_95
        refine za_aload_n hc dS_narrow_112 rfl ?_
        refine za_getS hc gfS_7 (by assumption) dS_narrow_113 ?_
        refine za_iload hc dS_narrow_116 rfl ?_
        refine za_lload_n hc dS_narrow_118 rfl ?_
        refine za_last hc (by assumption) dS_narrow_119 (vp_in_nI he2 (by decide)) ?_
        refine za_aload_n hc dS_narrow_120 rfl ?_
        refine za_getS hc gfS_13 (by assumption) dS_narrow_121 ?_
        refine za_iload hc dS_narrow_124 rfl ?_
        refine za_lload hc dS_narrow_126 rfl ?_
        refine za_last hc (by assumption) dS_narrow_128 (vp_in_nI he2 (by decide)) ?_
        refine za_aload_n hc dS_narrow_129 rfl ?_
        refine za_getS hc gfS_16 (by assumption) dS_narrow_130 ?_
        refine za_iload hc dS_narrow_133 rfl ?_
        refine za_iload hc dS_narrow_135 rfl ?_
        refine za_zast hc (by assumption) dS_narrow_137 (vp_in_nI he2 (by decide)) ?_
        rw [nI_clamp (show e < 2 ^ 31 by omega), zn01 hs]
        refine za_take 1 ?_
        refine fin _ ((zfr_sJ ⟨by omega, by omega⟩).tr ((zfr_sJ ⟨by omega, by omega⟩).tr (zfr_sI ⟨by omega, by omega⟩))) ⟨fun i => ?_, fun i => ?_, fun i => ?_⟩ (ends _ (hown.trans ?_) hoth)
        · rw [zJ_sI, zJ_o (show ¬ p + 1 = p + 2 by omega), zJ_s]; split
          · exact hm
          · exact hB.1 i
        · rw [zJ_sI, zJ_s, zJ_o (show ¬ p + 2 = p + 1 by omega)]; split
          · exact ⟨by omega, hb⟩
          · exact hB.2.1 i
        · rw [zI_s, zI_sJ, zI_sJ]; split
          · exact hs
          · exact hB.2.2 i
        · unfold gEup; rw [if_pos ?_]
          exact Or.inr (Or.inl u1)
      · skip
        have n1 : ¬ m.toInt * (zJ M (p + 2) e).toInt < (zJ M (p + 1) e).toInt * b.toInt := by rw [← m1, ← m2]; exact fun z => h_95 (Int64.lt_iff_toInt_lt.mpr z)
        refine za_lload hc dS_narrow_99 rfl ?_
        refine za_lload hc dS_narrow_101 rfl ?_
        refine za_lcmp_ne 138 hc dS_narrow_103 dS_narrow_104 rfl (fun h_103 => ?_) (fun h_103 => ?_)
        · skip
          have n2 : ¬ m.toInt * (zJ M (p + 2) e).toInt = (zJ M (p + 1) e).toInt * b.toInt := by rw [← m1, ← m2]; exact fun z => h_103 (Int64.toInt_inj.mp z)
          refine za_take 1 ?_
          refine fin _ zfr.rf hB (ends _ ?_ (fun _ _ => rfl))
          unfold gEup; rw [if_neg ?_]
          rintro (z | z | z); exact n0 z; exact n1 z; exact n2 z.1
        · skip
          have e2 : m.toInt * (zJ M (p + 2) e).toInt = (zJ M (p + 1) e).toInt * b.toInt := by rw [← m1, ← m2, h_103]
          refine za_iload hc dS_narrow_107 rfl ?_
          refine za_if_eq 138 hc dS_narrow_109 rfl (fun h_109 => ?_) (fun h_109 => ?_)
          · skip
            have n3 : ¬ (s == 1) = true := by rw [h_109]; decide
            refine za_take 1 ?_
            refine fin _ zfr.rf hB (ends _ ?_ (fun _ _ => rfl))
            unfold gEup; rw [if_neg ?_]
            rintro (z | z | z); exact n0 z; exact n1 z; exact n3 z.2
          · skip
            have e3 : (s == 1) = true := by rw [hs.resolve_left h_109]; rfl
            refine za_aload_n hc dS_narrow_112 rfl ?_
            refine za_getS hc gfS_7 (by assumption) dS_narrow_113 ?_
            refine za_iload hc dS_narrow_116 rfl ?_
            refine za_lload_n hc dS_narrow_118 rfl ?_
            refine za_last hc (by assumption) dS_narrow_119 (vp_in_nI he2 (by decide)) ?_
            refine za_aload_n hc dS_narrow_120 rfl ?_
            refine za_getS hc gfS_13 (by assumption) dS_narrow_121 ?_
            refine za_iload hc dS_narrow_124 rfl ?_
            refine za_lload hc dS_narrow_126 rfl ?_
            refine za_last hc (by assumption) dS_narrow_128 (vp_in_nI he2 (by decide)) ?_
            refine za_aload_n hc dS_narrow_129 rfl ?_
            refine za_getS hc gfS_16 (by assumption) dS_narrow_130 ?_
            refine za_iload hc dS_narrow_133 rfl ?_
            refine za_iload hc dS_narrow_135 rfl ?_
            refine za_zast hc (by assumption) dS_narrow_137 (vp_in_nI he2 (by decide)) ?_
            rw [nI_clamp (show e < 2 ^ 31 by omega), zn01 hs]
            refine za_take 1 ?_
            refine fin _ ((zfr_sJ ⟨by omega, by omega⟩).tr ((zfr_sJ ⟨by omega, by omega⟩).tr (zfr_sI ⟨by omega, by omega⟩))) ⟨fun i => ?_, fun i => ?_, fun i => ?_⟩ (ends _ (hown.trans ?_) hoth)
            · rw [zJ_sI, zJ_o (show ¬ p + 1 = p + 2 by omega), zJ_s]; split
              · exact hm
              · exact hB.1 i
            · rw [zJ_sI, zJ_s, zJ_o (show ¬ p + 2 = p + 1 by omega)]; split
              · exact ⟨by omega, hb⟩
              · exact hB.2.1 i
            · rw [zI_s, zI_sJ, zI_sJ]; split
              · exact hs
              · exact hB.2.2 i
            · unfold gEup; rw [if_pos ?_]
              exact Or.inr (Or.inr ⟨e2, e3⟩)
  refine za_lload_n hc dS_narrow_0 rfl ?_
  refine za_lconst hc 0 dS_narrow_1 rfl ?_
  refine za_lcmp_ne 29 hc dS_narrow_2 dS_narrow_3 rfl (fun h_2 => ?_) (fun h_2 => ?_)
  · skip
    have hn0 : n.toInt ≠ 0 := fun z => h_2 (Int64.toInt_inj.mp z)
    have hm := hbd hn0
    refine za_lload_n hc dS_narrow_29 rfl ?_
    refine za_lconst hc 0 dS_narrow_30 rfl ?_
    refine za_lcmp_le 39 hc dS_narrow_31 dS_narrow_32 rfl (fun h_31 => ?_) (fun h_31 => ?_)
    · skip
      have d1 : n.toInt < 0 := by have : n.toInt ≤ 0 := Int64.le_iff_toInt_le.mp h_31; omega
      refine za_iconst hc 1 dS_narrow_39 rfl ?_
      refine za_istore hc dS_narrow_40 (by decide) ?_
      refine za_lload_n hc dS_narrow_42 rfl ?_
      refine za_lconst hc 0 dS_narrow_43 rfl ?_
      refine za_lcmp_le 52 hc dS_narrow_44 dS_narrow_45 rfl (fun h_44 => ?_) (fun h_44 => ?_)
      · skip
        have d2 : n.toInt ≤ 0 := Int64.le_iff_toInt_le.mp h_44
        refine za_lload_n hc dS_narrow_52 rfl ?_
        refine za_lneg hc dS_narrow_53 ?_
        refine za_lstore hc dS_narrow_54 (by decide) ?_
        first | exact absurd d1 (by omega) | exact tail 0 n (Or.inl ⟨rfl, d1, rfl⟩) hm.2 (by omega) | exact tail 1 (-n) (Or.inr ⟨rfl, d1, l_neg (by omega)⟩) hm.2 (by rw [l_neg (by omega)]; omega)
      · skip
        have d2 : ¬ n.toInt ≤ 0 := fun z => h_44 (Int64.le_iff_toInt_le.mpr z)
        refine za_lload_n hc dS_narrow_48 rfl ?_
        refine za_goto 54 hc dS_narrow_49 rfl ?_
        refine za_lstore hc dS_narrow_54 (by decide) ?_
        first | exact absurd d1 (by omega) | exact tail 0 n (Or.inl ⟨rfl, d1, rfl⟩) hm.2 (by omega) | exact tail 1 (-n) (Or.inr ⟨rfl, d1, l_neg (by omega)⟩) hm.2 (by rw [l_neg (by omega)]; omega)
    · skip
      have d1 : 0 < n.toInt := by have : ¬ n.toInt ≤ 0 := fun z => h_31 (Int64.le_iff_toInt_le.mpr z); omega
      refine za_iconst hc 0 dS_narrow_35 rfl ?_
      refine za_goto 40 hc dS_narrow_36 rfl ?_
      refine za_istore hc dS_narrow_40 (by decide) ?_
      refine za_lload_n hc dS_narrow_42 rfl ?_
      refine za_lconst hc 0 dS_narrow_43 rfl ?_
      refine za_lcmp_le 52 hc dS_narrow_44 dS_narrow_45 rfl (fun h_44 => ?_) (fun h_44 => ?_)
      · skip
        have d2 : n.toInt ≤ 0 := Int64.le_iff_toInt_le.mp h_44
        refine za_lload_n hc dS_narrow_52 rfl ?_
        refine za_lneg hc dS_narrow_53 ?_
        refine za_lstore hc dS_narrow_54 (by decide) ?_
        first | exact absurd d1 (by omega) | exact tail 0 n (Or.inl ⟨rfl, d1, rfl⟩) hm.2 (by omega) | exact tail 1 (-n) (Or.inr ⟨rfl, d1, l_neg (by omega)⟩) hm.2 (by rw [l_neg (by omega)]; omega)
      · skip
        have d2 : ¬ n.toInt ≤ 0 := fun z => h_44 (Int64.le_iff_toInt_le.mpr z)
        refine za_lload_n hc dS_narrow_48 rfl ?_
        refine za_goto 54 hc dS_narrow_49 rfl ?_
        refine za_lstore hc dS_narrow_54 (by decide) ?_
        first | exact absurd d1 (by omega) | exact tail 0 n (Or.inl ⟨rfl, d1, rfl⟩) hm.2 (by omega) | exact tail 1 (-n) (Or.inr ⟨rfl, d1, l_neg (by omega)⟩) hm.2 (by rw [l_neg (by omega)]; omega)
  · skip
    have hn0 : n.toInt = 0 := by rw [h_2]; rfl
    refine za_lload_n hc dS_narrow_6 rfl ?_
    refine za_lconst hc 0 dS_narrow_7 rfl ?_
    refine za_lcmp_gt 23 hc dS_narrow_8 dS_narrow_9 rfl (fun h_8 => ?_) (fun h_8 => ?_)
    · skip
      have c1 : 0 < m.toInt := Int64.lt_iff_toInt_lt.mp h_8
      refine za_iconst hc 1 dS_narrow_23 rfl ?_
      refine za_goto 28 hc dS_narrow_24 rfl ?_
      exact za_zret hc rfl (rfl) dS_narrow_28 ⟨Nat.zero_le _, Nat.zero_le _⟩ (by first | exact ⟨1, rfl, zfr.rf, hB, Or.inr rfl, fun _ => ⟨rfl, fun _ => Or.inl c1, fun _ => rfl⟩, fun z => absurd hn0 z⟩ | exact ⟨1, rfl, zfr.rf, hB, Or.inr rfl, fun _ => ⟨rfl, fun _ => Or.inr ⟨c2, c3⟩, fun _ => rfl⟩, fun z => absurd hn0 z⟩ | exact ⟨0, rfl, zfr.rf, hB, Or.inl rfl, fun _ => ⟨rfl, fun z => absurd z (by decide), fun z => by rcases z with z | z; exact absurd z c1; first | exact absurd z.1 c2 | exact absurd z.2 c3⟩, fun z => absurd hn0 z⟩)
    · skip
      have c1 : ¬ 0 < m.toInt := fun z => h_8 (Int64.lt_iff_toInt_lt.mpr z)
      refine za_lload_n hc dS_narrow_12 rfl ?_
      refine za_lconst hc 0 dS_narrow_13 rfl ?_
      refine za_lcmp_ne 27 hc dS_narrow_14 dS_narrow_15 rfl (fun h_14 => ?_) (fun h_14 => ?_)
      · skip
        have c2 : ¬ m.toInt = 0 := fun z => h_14 (Int64.toInt_inj.mp z)
        refine za_iconst hc 0 dS_narrow_27 rfl ?_
        exact za_zret hc rfl (rfl) dS_narrow_28 ⟨Nat.zero_le _, Nat.zero_le _⟩ (by first | exact ⟨1, rfl, zfr.rf, hB, Or.inr rfl, fun _ => ⟨rfl, fun _ => Or.inl c1, fun _ => rfl⟩, fun z => absurd hn0 z⟩ | exact ⟨1, rfl, zfr.rf, hB, Or.inr rfl, fun _ => ⟨rfl, fun _ => Or.inr ⟨c2, c3⟩, fun _ => rfl⟩, fun z => absurd hn0 z⟩ | exact ⟨0, rfl, zfr.rf, hB, Or.inl rfl, fun _ => ⟨rfl, fun z => absurd z (by decide), fun z => by rcases z with z | z; exact absurd z c1; first | exact absurd z.1 c2 | exact absurd z.2 c3⟩, fun z => absurd hn0 z⟩)
      · skip
        have c2 : m.toInt = 0 := by rw [h_14]; rfl
        refine za_iload hc dS_narrow_18 rfl ?_
        refine za_if_ne 27 hc dS_narrow_20 rfl (fun h_20 => ?_) (fun h_20 => ?_)
        · skip
          have c3 : ¬ s = 0 := h_20
          refine za_iconst hc 0 dS_narrow_27 rfl ?_
          exact za_zret hc rfl (rfl) dS_narrow_28 ⟨Nat.zero_le _, Nat.zero_le _⟩ (by first | exact ⟨1, rfl, zfr.rf, hB, Or.inr rfl, fun _ => ⟨rfl, fun _ => Or.inl c1, fun _ => rfl⟩, fun z => absurd hn0 z⟩ | exact ⟨1, rfl, zfr.rf, hB, Or.inr rfl, fun _ => ⟨rfl, fun _ => Or.inr ⟨c2, c3⟩, fun _ => rfl⟩, fun z => absurd hn0 z⟩ | exact ⟨0, rfl, zfr.rf, hB, Or.inl rfl, fun _ => ⟨rfl, fun z => absurd z (by decide), fun z => by rcases z with z | z; exact absurd z c1; first | exact absurd z.1 c2 | exact absurd z.2 c3⟩, fun z => absurd hn0 z⟩)
        · skip
          have c3 : s = 0 := h_20
          refine za_iconst hc 1 dS_narrow_23 rfl ?_
          refine za_goto 28 hc dS_narrow_24 rfl ?_
          exact za_zret hc rfl (rfl) dS_narrow_28 ⟨Nat.zero_le _, Nat.zero_le _⟩ (by first | exact ⟨1, rfl, zfr.rf, hB, Or.inr rfl, fun _ => ⟨rfl, fun _ => Or.inl c1, fun _ => rfl⟩, fun z => absurd hn0 z⟩ | exact ⟨1, rfl, zfr.rf, hB, Or.inr rfl, fun _ => ⟨rfl, fun _ => Or.inr ⟨c2, c3⟩, fun _ => rfl⟩, fun z => absurd hn0 z⟩ | exact ⟨0, rfl, zfr.rf, hB, Or.inl rfl, fun _ => ⟨rfl, fun z => absurd z (by decide), fun z => by rcases z with z | z; exact absurd z c1; first | exact absurd z.1 c2 | exact absurd z.2 c3⟩, fun z => absurd hn0 z⟩)
end
section
/-! Whether a draft has points. -/
def gdz (q : gC) (x : Rat) : Prop := q.2.1 = 0 → gdm (q.1 : Rat) (q.2.2.1 : Rat) q.2.2.2 x
def gdp (p q : gC) (x : Rat) : Prop := 0 < p.2.1 → q.2.1 < 0 → gdm ((-q.2.1 * p.1 + p.2.1 * q.1 : Int) : Rat) ((-q.2.1 * p.2.2.1 + p.2.1 * q.2.2.1 : Int) : Rat) (p.2.2.2 || q.2.2.2) x
theorem g_hp (ls : List gC) (f : Nat → gC) (hf : ∀ j q, ls[j]? = some q → f j = q) : gSat ls ↔ ∃ x : Rat, ∀ i, i < ls.length → gdz (f i) x ∧ ∀ j, j < ls.length → gdp (f i) (f j) x := by
  have hm : ∀ q, q ∈ ls ↔ ∃ i, i < ls.length ∧ f i = q := fun q => by
    constructor
    · intro h
      obtain ⟨i, hi⟩ := List.getElem?_of_mem h
      exact ⟨i, (List.getElem?_eq_some_iff.mp hi).1, hf i q hi⟩
    · rintro ⟨i, hi, rfl⟩
      rw [hf i _ (List.getElem?_eq_getElem hi)]
      exact List.getElem_mem hi
  have key : ∀ x : Rat, (∃ y, ∀ q ∈ ls, gst q x y) ↔ ∀ i, i < ls.length → gdz (f i) x ∧ ∀ j, j < ls.length → gdp (f i) (f j) x := by
    intro x
    have h := g_elim (ls.map (fun q : gC => (((q.2.1 : Int) : Rat), ((q.1 : Int) : Rat), ((q.2.2.1 : Int) : Rat), q.2.2.2))) x
    have e1 : (∃ y, ∀ q ∈ ls, gst q x y) ↔ ∃ s, ∀ m ∈ ls.map (fun q : gC => (((q.2.1 : Int) : Rat), ((q.1 : Int) : Rat), ((q.2.2.1 : Int) : Rat), q.2.2.2)), gts m s x := by
      constructor
      · rintro ⟨y, hy⟩
        refine ⟨y, fun m hm => ?_⟩
        obtain ⟨q, hq, rfl⟩ := List.mem_map.mp hm
        have := hy q hq
        unfold gst gv gk at this
        unfold gts
        simp only
        split at this <;> rename_i hb
        · rw [if_pos hb]; grind
        · rw [if_neg hb]; grind
      · rintro ⟨y, hy⟩
        refine ⟨y, fun q hq => ?_⟩
        have := hy _ (List.mem_map.mpr ⟨q, hq, rfl⟩)
        unfold gts at this
        unfold gst gv gk
        simp only at this
        split at this <;> rename_i hb
        · rw [if_pos hb]; grind
        · rw [if_neg hb]; grind
    rw [e1, h]
    have cst : ∀ p q : gC, (-(q.2.1 : Rat) * (p.1 : Rat) + (p.2.1 : Rat) * (q.1 : Rat)) = ((-q.2.1 * p.1 + p.2.1 * q.1 : Int) : Rat) ∧ (-(q.2.1 : Rat) * (p.2.2.1 : Rat) + (p.2.1 : Rat) * (q.2.2.1 : Rat)) = ((-q.2.1 * p.2.2.1 + p.2.1 * q.2.2.1 : Int) : Rat) := fun p q => by
      constructor
      · push_cast; grind
      · push_cast; grind
    constructor
    · rintro ⟨h0, hp⟩ i hi
      have hfi := (hm (f i)).mpr ⟨i, hi, rfl⟩
      refine ⟨fun hz => h0 _ (List.mem_map.mpr ⟨_, hfi, rfl⟩) (by rw [hz]; rfl), fun j hj h1 h2 => ?_⟩
      have hfj := (hm (f j)).mpr ⟨j, hj, rfl⟩
      have := hp _ (List.mem_map.mpr ⟨_, hfi, rfl⟩) _ (List.mem_map.mpr ⟨_, hfj, rfl⟩) (Rat.intCast_pos.mpr h1) (Rat.intCast_neg_iff.mpr h2)
      rw [← (cst (f i) (f j)).1, ← (cst (f i) (f j)).2]
      exact this
    · intro hall
      refine ⟨fun m hmm hz => ?_, fun a ha b hb h1 h2 => ?_⟩
      · obtain ⟨q, hq, rfl⟩ := List.mem_map.mp hmm
        obtain ⟨i, hi, rfl⟩ := (hm q).mp hq
        exact (hall i hi).1 (Rat.intCast_eq_zero_iff.mp hz)
      · obtain ⟨q, hq, rfl⟩ := List.mem_map.mp ha
        obtain ⟨i, hi, rfl⟩ := (hm q).mp hq
        obtain ⟨q', hq', rfl⟩ := List.mem_map.mp hb
        obtain ⟨j, hj, rfl⟩ := (hm q').mp hq'
        have := (hall i hi).2 j hj (Rat.intCast_pos.mp h1) (Rat.intCast_neg_iff.mp h2)
        rw [← (cst (f i) (f j)).1, ← (cst (f i) (f j)).2] at this
        exact this
  constructor
  · rintro ⟨x, y, h⟩; exact ⟨x, (key x).mp ⟨y, h⟩⟩
  · rintro ⟨x, h⟩
    obtain ⟨y, hy⟩ := (key x).mpr h
    exact ⟨x, y, hy⟩
/-- what a span leaves of x -/
def sX (M : zM) (p : Nat) (x : Rat) : Prop := gEs (sE M p 0) x ∧ gEs (sE M p 1) (-x)
theorem gdm_neg {n m : Int} {s : Bool} {x : Rat} : gdm ((-n : Int) : Rat) (m : Rat) s (-x) ↔ gdm (n : Rat) (m : Rat) s x := by
  unfold gdm
  have e : ((-n : Int) : Rat) * (-x) = (n : Rat) * x := by push_cast; grind
  rw [e]
theorem sE_0 {M : zM} {p e : Nat} (h : sB M p) : 0 ≤ (sE M p e).2.1 := (h.2.1 e).1
theorem s_step {M M' : zM} {p : Nat} {n m : Int64} {s r : Int32} (hB : sB M p) (hs : s = 0 ∨ s = 1) (h : sPost M p n m s r M') :
    (r = 1 → (∀ x, sX M' p x ↔ sX M p x ∧ gdm (n.toInt : Rat) (m.toInt : Rat) (s == 1) x) ∧ (gGap (sE M p 0) (sE M p 1) → gGap (sE M' p 0) (sE M' p 1))) ∧ (¬ r = 1 → ∀ x, ¬ (sX M p x ∧ gdm (n.toInt : Rat) (m.toInt : Rat) (s == 1) x)) := by
  obtain ⟨-, hB', -, h0, hn⟩ := h
  by_cases hz : n.toInt = 0
  · obtain ⟨rfl, hr⟩ := h0 hz
    have hd : ∀ x : Rat, gdm (n.toInt : Rat) (m.toInt : Rat) (s == 1) x ↔ 0 < m.toInt ∨ (m.toInt = 0 ∧ s = 0) := fun x => by
      rw [hz]
      unfold gdm
      have e : ((0 : Int) : Rat) * x = 0 := by rw [Rat.intCast_zero]; grind
      rw [e]
      rcases hs with z | z <;> rw [z]
      · rw [if_neg (by decide)]
        constructor
        · intro h1
          have := Rat.intCast_nonneg.mp h1
          by_cases h2 : m.toInt = 0
          · exact Or.inr ⟨h2, rfl⟩
          · left; omega
        · rintro (h1 | h1)
          · exact Rat.intCast_nonneg.mpr (by omega)
          · exact Rat.intCast_nonneg.mpr (by omega)
      · rw [if_pos (by decide)]
        constructor
        · intro h1; exact Or.inl (Rat.intCast_pos.mp h1)
        · rintro (h1 | ⟨_, h1⟩)
          · exact Rat.intCast_pos.mpr h1
          · exact absurd h1 (by decide)
    exact ⟨fun hr1 => ⟨fun x => ⟨fun h1 => ⟨h1, (hd x).mpr (hr.mp hr1)⟩, fun h1 => h1.1⟩, id⟩, fun hr0 x hx => hr0 (hr.mpr ((hd x).mp hx.2))⟩
  · obtain ⟨e0, e1, hr⟩ := hn hz
    have hx : ∀ x, sX M' p x ↔ sX M p x ∧ gdm (n.toInt : Rat) (m.toInt : Rat) (s == 1) x := fun x => by
      unfold sX
      by_cases hp : 0 < n.toInt
      · rw [if_pos hp] at e0 e1
        rw [e0, e1, gEup_s (sE_0 hB) hp]
        constructor
        · rintro ⟨⟨a, b⟩, c⟩; exact ⟨⟨a, c⟩, b⟩
        · rintro ⟨⟨a, c⟩, b⟩; exact ⟨⟨a, b⟩, c⟩
      · rw [if_neg hp] at e0 e1
        rw [e0, e1, gEup_s (sE_0 hB) (by omega), gdm_neg]
        constructor
        · rintro ⟨a, b, c⟩; exact ⟨⟨a, b⟩, c⟩
        · rintro ⟨⟨a, b⟩, c⟩; exact ⟨a, b, c⟩
    refine ⟨fun hr1 => ⟨hx, fun _ => hr.mp hr1⟩, fun hr0 x h1 => hr0 (hr.mpr ?_)⟩
    exact (gGap_iff (sE_0 hB') (sE_0 hB')).mpr ⟨x, (hx x).mpr h1⟩
/-- bounds of a draft's numbers -/
def gOK (ls : List gC) : Prop := (∀ q ∈ ls, q.1.natAbs ≤ 10000 ∧ q.2.1.natAbs ≤ 10000 ∧ q.2.2.1.natAbs ≤ 10000) ∨ (∀ q ∈ ls, q.1.natAbs ≤ 200000000 ∧ q.2.1 = 0 ∧ q.2.2.1.natAbs ≤ 200000000) ∨ (∀ q ∈ ls, q.1 = 0 ∧ q.2.1.natAbs ≤ 200000000 ∧ q.2.2.1.natAbs ≤ 200000000)

set_option maxRecDepth 100000 in
set_option maxHeartbeats 4000000 in
theorem cD_hasPoints_ (l : Launch) {d : Nat} {ls : List gC} (M : zM) (hd : zdr d) (hH : dH M d ls) (hB : sB M (d + 5)) (hok : gOK ls) : zMet l mD_hasPoints rD_hasPoints [.ref d] M (zqi (fun r M' => (r = 0 ∨ r = 1) ∧ (r = 1 ↔ gSat ls) ∧ dH M' d ls ∧ sB M' (d + 5) ∧ zfr (sA (d + 5)) M M')) := by
  refine za_enter (by decide) (Nat.le_of_ble_eq_true rfl) (fun X hc => ?_)
  have hdo := hd.o
  have hda := hd.a
  have hdb := hd.b
  have hdc := hd.c
  have hds := hd.s
  have hpo := hd.p.o
  have hbnd : ∀ i, i < ls.length → -200000000 ≤ (zJ M (d + 1) i).toInt ∧ (zJ M (d + 1) i).toInt ≤ 200000000 ∧ (-200000000 ≤ (zJ M (d + 2) i).toInt ∧ -9223372036854775808 < (zJ M (d + 2) i).toInt ∧ (zJ M (d + 2) i).toInt ≤ 200000000) ∧ -200000000 ≤ (zJ M (d + 3) i).toInt ∧ (zJ M (d + 3) i).toInt ≤ 200000000 := fun i hi => by
    have hmem : dg M d i ∈ ls := by rw [dH_get hH hi]; exact List.getElem_mem hi
    have e1 : (dg M d i).1 = (zJ M (d + 1) i).toInt := rfl
    have e2 : (dg M d i).2.1 = (zJ M (d + 2) i).toInt := rfl
    have e3 : (dg M d i).2.2.1 = (zJ M (d + 3) i).toInt := rfl
    rcases hok with h | h | h <;> have := h _ hmem <;> omega
  have hpb : ∀ i j, i < ls.length → j < ls.length → 0 < (zJ M (d + 2) i).toInt → (zJ M (d + 2) j).toInt < 0 → (-(zJ M (d + 2) j).toInt * (zJ M (d + 1) i).toInt + (zJ M (d + 2) i).toInt * (zJ M (d + 1) j).toInt ≠ 0 → (-1073741824 ≤ -(zJ M (d + 2) j).toInt * (zJ M (d + 1) i).toInt + (zJ M (d + 2) i).toInt * (zJ M (d + 1) j).toInt ∧ -(zJ M (d + 2) j).toInt * (zJ M (d + 1) i).toInt + (zJ M (d + 2) i).toInt * (zJ M (d + 1) j).toInt ≤ 1073741824) ∧ (-1073741824 ≤ -(zJ M (d + 2) j).toInt * (zJ M (d + 3) i).toInt + (zJ M (d + 2) i).toInt * (zJ M (d + 3) j).toInt ∧ -(zJ M (d + 2) j).toInt * (zJ M (d + 3) i).toInt + (zJ M (d + 2) i).toInt * (zJ M (d + 3) j).toInt ≤ 1073741824)) := fun i j hi hj hu hlp hne => by
    have hmi : dg M d i ∈ ls := by rw [dH_get hH hi]; exact List.getElem_mem hi
    have hmj : dg M d j ∈ ls := by rw [dH_get hH hj]; exact List.getElem_mem hj
    have e1 : (dg M d i).1 = (zJ M (d + 1) i).toInt := rfl
    have e2 : (dg M d i).2.1 = (zJ M (d + 2) i).toInt := rfl
    have e3 : (dg M d i).2.2.1 = (zJ M (d + 3) i).toInt := rfl
    have f1 : (dg M d j).1 = (zJ M (d + 1) j).toInt := rfl
    have f2 : (dg M d j).2.1 = (zJ M (d + 2) j).toInt := rfl
    have f3 : (dg M d j).2.2.1 = (zJ M (d + 3) j).toInt := rfl
    rcases hok with h | h | h
    · have h1 := h _ hmi
      have h2 := h _ hmj
      have p1 := g_mulb (A := 10000) (B := 10000) (a := -(zJ M (d + 2) j).toInt) (b := (zJ M (d + 1) i).toInt) (by omega) (by omega)
      have p2 := g_mulb (A := 10000) (B := 10000) (a := (zJ M (d + 2) i).toInt) (b := (zJ M (d + 1) j).toInt) (by omega) (by omega)
      have p3 := g_mulb (A := 10000) (B := 10000) (a := -(zJ M (d + 2) j).toInt) (b := (zJ M (d + 3) i).toInt) (by omega) (by omega)
      have p4 := g_mulb (A := 10000) (B := 10000) (a := (zJ M (d + 2) i).toInt) (b := (zJ M (d + 3) j).toInt) (by omega) (by omega)
      omega
    · have h1 := (h _ hmi).2.1
      omega
    · have h1 := (h _ hmi).1
      have h2 := (h _ hmj).1
      exfalso; apply hne; rw [← e1, ← f1, h1, h2]; simp
  have hl := hH.2.1
  have hsat := g_hp ls (dg M d) hH.2.2.1
  have kept : ∀ M1, zfr (sA (d + 5)) M M1 → dH M1 d ls := fun M1 hf => dH_kept hH hf (fun z => by have := z.1; omega) (fun z => by have := z.1; omega) (fun z => by have := z.1; omega) (fun z => by have := z.1; omega) (fun z => by have := z.1; omega)
  have kdg : ∀ M1, zfr (sA (d + 5)) M M1 → dg M1 d = dg M d := fun M1 hf => zfr_dg hf (fun z => by have := z.1; omega) (fun z => by have := z.1; omega) (fun z => by have := z.1; omega) (fun z => by have := z.1; omega)
  have bnd : ∀ i, i < ls.length → dg M d i ∈ ls := fun i hi => by rw [dH_get hH hi]; exact List.getElem_mem hi
  have no : ∀ M1, zfr (sA (d + 5)) M M1 → sB M1 (d + 5) → ¬ gSat ls → (zqi (fun r M' => (r = 0 ∨ r = 1) ∧ (r = 1 ↔ gSat ls) ∧ dH M' d ls ∧ sB M' (d + 5) ∧ zfr (sA (d + 5)) M M')) (some (.int 0)) M1 := fun M1 hf hb hn => ⟨0, rfl, Or.inl rfl, ⟨fun z => absurd z (by decide), fun z => absurd z hn⟩, kept M1 hf, hb, hf⟩
  have outer : ∀ n i (M1 : zM), n + i = ls.length → zfr (sA (d + 5)) M M1 → sB M1 (d + 5) → gGap (sE M1 (d + 5) 0) (sE M1 (d + 5) 1) → (∀ x, sX M1 (d + 5) x ↔ (∀ i', i' < i → gdz (dg M d i') x ∧ ∀ j, j < ls.length → gdp (dg M d i') (dg M d j) x)) → zW X (zqi (fun r M' => (r = 0 ∨ r = 1) ∧ (r = 1 ↔ gSat ls) ∧ dH M' d ls ∧ sB M' (d + 5) ∧ zfr (sA (d + 5)) M M')) (0, 0) 9 [(0, .ref d), (1, .int (nI i))] [] M1 := by
    intro n
    induction n with
    | zero =>
      intro i M1 hn hf hB1 hg hx
      refine za_iload_n hc dD_hasPoints_9 rfl ?_
      refine za_aload_n hc dD_hasPoints_10 rfl ?_
      refine za_getI hc gfD_32 (by assumption) dD_hasPoints_11 ?_
      rw [(kept M1 hf).1]
      refine za_icmp_ge 181 hc dD_hasPoints_14 rfl (fun h_14 => ?_) (fun h_14 => ?_)
      · skip
        refine za_iconst hc 1 dD_hasPoints_181 rfl ?_
        exact za_zret hc rfl (rfl) dD_hasPoints_182 ⟨Nat.zero_le _, Nat.zero_le _⟩ (⟨1, rfl, Or.inr rfl, ⟨fun _ => hsat.mpr (by
        obtain ⟨x, hx1⟩ := (gGap_iff (sE_0 hB1) (sE_0 hB1)).mp hg
        exact ⟨x, fun k hk => (hx x).mp hx1 k (by omega)⟩), fun _ => rfl⟩, kept M1 hf, hB1, hf⟩)
      · skip
        exact absurd ((nI_leI (by omega) (by omega)).mpr (show ls.length ≤ i by omega)) h_14
    | succ n ih =>
      intro i M1 hn hf hB1 hg hx
      have inner : ∀ k j (M1 : zM), k + j = ls.length → zfr (sA (d + 5)) M M1 → sB M1 (d + 5) → gGap (sE M1 (d + 5) 0) (sE M1 (d + 5) 1) → (∀ x, sX M1 (d + 5) x ↔ (∀ i', i' < i → gdz (dg M d i') x ∧ ∀ j, j < ls.length → gdp (dg M d i') (dg M d j) x) ∧ gdz (dg M d i) x ∧ ∀ j', j' < j → gdp (dg M d i) (dg M d j') x) → zW X (zqi (fun r M' => (r = 0 ∨ r = 1) ∧ (r = 1 ↔ gSat ls) ∧ dH M' d ls ∧ sB M' (d + 5) ∧ zfr (sA (d + 5)) M M')) (0, 0) 63 [(0, .ref d), (1, .int (nI i)), (2, .long (zJ M (d + 2) i)), (4, .int (nI j))] [] M1 := by
        clear hf hB1 hg hx M1
        intro k
        induction k with
        | zero =>
          intro j M1 hk hf hB1 hg hx
          refine za_lload_n hc dD_hasPoints_63 rfl ?_
          refine za_lconst hc 0 dD_hasPoints_64 rfl ?_
          refine za_lcmp_le 175 hc dD_hasPoints_65 dD_hasPoints_66 rfl (fun h_65 => ?_) (fun h_65 => ?_)
          · skip
            have hu : (zJ M (d + 2) i).toInt ≤ 0 := Int64.le_iff_toInt_le.mp h_65
            refine za_iinc hc _ dD_hasPoints_175 rfl ((nI_succ i).symm) (by decide) ?_
            refine za_goto 9 hc dD_hasPoints_178 rfl ?_
            refine za_take 2 ?_
            refine ih (i + 1) M1 (by omega) hf hB1 hg (fun x => (hx x).trans ⟨?_, ?_⟩)
            · rintro ⟨g1, g2, g3⟩ i' hi'
              by_cases c : i' < i
              · exact g1 i' c
              · obtain rfl : i' = i := by omega
                exact ⟨g2, fun j1 hj1 => g3 j1 (by omega)⟩
            · intro g1
              exact ⟨fun i' hi' => g1 i' (by omega), (g1 i (by omega)).1, fun j1 hj1 => (g1 i (by omega)).2 j1 (by omega)⟩
          · skip
            have hu : 0 < (zJ M (d + 2) i).toInt := by have : ¬ (zJ M (d + 2) i).toInt ≤ 0 := fun z => h_65 (Int64.le_iff_toInt_le.mpr z); omega
            refine za_iload hc dD_hasPoints_69 rfl ?_
            refine za_aload_n hc dD_hasPoints_71 rfl ?_
            refine za_getI hc gfD_32 (by assumption) dD_hasPoints_72 ?_
            rw [(kept M1 hf).1]
            refine za_icmp_ge 175 hc dD_hasPoints_75 rfl (fun h_75 => ?_) (fun h_75 => ?_)
            · skip
              refine za_iinc hc _ dD_hasPoints_175 rfl ((nI_succ i).symm) (by decide) ?_
              refine za_goto 9 hc dD_hasPoints_178 rfl ?_
              refine za_take 2 ?_
              refine ih (i + 1) M1 (by omega) hf hB1 hg (fun x => (hx x).trans ⟨?_, ?_⟩)
              · rintro ⟨g1, g2, g3⟩ i' hi'
                by_cases c : i' < i
                · exact g1 i' c
                · obtain rfl : i' = i := by omega
                  exact ⟨g2, fun j1 hj1 => g3 j1 (by omega)⟩
              · intro g1
                exact ⟨fun i' hi' => g1 i' (by omega), (g1 i (by omega)).1, fun j1 hj1 => (g1 i (by omega)).2 j1 (by omega)⟩
            · skip
              exact absurd ((nI_leI (by omega) (by omega)).mpr (show ls.length ≤ j by omega)) h_75
        | succ k ihk =>
          intro j M1 hk hf hB1 hg hx
          have ea := (hf (d + 1) (fun z => by have := z.1; omega)).2.1
          have eb := (hf (d + 2) (fun z => by have := z.1; omega)).2.1
          have ec := (hf (d + 3) (fun z => by have := z.1; omega)).2.1
          have es := (hf (d + 4) (fun z => by have := z.1; omega)).1
          have hbi := hbnd i (by omega)
          have hbj := hbnd j (by omega)
          refine za_lload_n hc dD_hasPoints_63 rfl ?_
          refine za_lconst hc 0 dD_hasPoints_64 rfl ?_
          refine za_lcmp_le 175 hc dD_hasPoints_65 dD_hasPoints_66 rfl (fun h_65 => ?_) (fun h_65 => ?_)
          · skip
            have hu : (zJ M (d + 2) i).toInt ≤ 0 := Int64.le_iff_toInt_le.mp h_65
            refine za_iinc hc _ dD_hasPoints_175 rfl ((nI_succ i).symm) (by decide) ?_
            refine za_goto 9 hc dD_hasPoints_178 rfl ?_
            refine za_take 2 ?_
            refine ih (i + 1) M1 (by omega) hf hB1 hg (fun x => (hx x).trans ⟨?_, ?_⟩)
            · rintro ⟨g1, g2, g3⟩ i' hi'
              by_cases c : i' < i
              · exact g1 i' c
              · obtain rfl : i' = i := by omega
                exact ⟨g2, fun j1 hj1 => fun z => absurd z (by show ¬ 0 < (zJ M (d + 2) i').toInt; omega)⟩
            · intro g1
              exact ⟨fun i' hi' => g1 i' (by omega), (g1 i (by omega)).1, fun j1 hj1 => (g1 i (by omega)).2 j1 (by omega)⟩
          · skip
            have hu : 0 < (zJ M (d + 2) i).toInt := by have : ¬ (zJ M (d + 2) i).toInt ≤ 0 := fun z => h_65 (Int64.le_iff_toInt_le.mpr z); omega
            refine za_iload hc dD_hasPoints_69 rfl ?_
            refine za_aload_n hc dD_hasPoints_71 rfl ?_
            refine za_getI hc gfD_32 (by assumption) dD_hasPoints_72 ?_
            rw [(kept M1 hf).1]
            refine za_icmp_ge 175 hc dD_hasPoints_75 rfl (fun h_75 => ?_) (fun h_75 => ?_)
            · skip
              exact absurd ((nI_leI (by omega) (by omega)).mp h_75) (by omega)
            · skip
              refine za_aload_n hc dD_hasPoints_78 rfl ?_
              refine za_getS hc gfD_15 (by assumption) dD_hasPoints_79 ?_
              refine za_iload hc dD_hasPoints_82 rfl ?_
              refine za_lald hc (by assumption) dD_hasPoints_84 (vp_in_nI (show j < 36 by omega) (by decide)) ?_
              rw [nI_clamp (show j < 2 ^ 31 by omega), eb]
              refine za_lneg hc dD_hasPoints_85 ?_
              refine za_lstore hc dD_hasPoints_86 (by decide) ?_
              refine za_lload hc dD_hasPoints_88 rfl ?_
              refine za_lconst hc 0 dD_hasPoints_90 rfl ?_
              refine za_lcmp_le 169 hc dD_hasPoints_91 dD_hasPoints_92 rfl (fun h_91 => ?_) (fun h_91 => ?_)
              · skip
                have hlp : 0 ≤ (zJ M (d + 2) j).toInt := by
                  have h1 : (-zJ M (d + 2) j).toInt ≤ 0 := Int64.le_iff_toInt_le.mp h_91
                  rw [l_neg hbj.2.2.1.2.1] at h1; omega
                have hx1 : ∀ x, sX M1 (d + 5) x ↔ (∀ i', i' < i → gdz (dg M d i') x ∧ ∀ j, j < ls.length → gdp (dg M d i') (dg M d j) x) ∧ gdz (dg M d i) x ∧ ∀ j', j' < j + 1 → gdp (dg M d i) (dg M d j') x := fun x => (hx x).trans ⟨fun g => ⟨g.1, g.2.1, fun j1 hj1 => by
                    by_cases c : j1 < j
                    · exact g.2.2 j1 c
                    · obtain rfl : j1 = j := by omega
                      intro _ z
                      exact absurd z (Int.not_lt.mpr hlp)⟩, fun g => ⟨g.1, g.2.1, fun j1 hj1 => g.2.2 j1 (by omega)⟩⟩
                have hM1 : M1 = M1 := rfl
                refine za_iinc hc _ dD_hasPoints_169 rfl ((nI_succ j).symm) (by decide) ?_
                refine za_goto 63 hc dD_hasPoints_172 rfl ?_
                refine za_take 4 ?_
                exact ihk (j + 1) M1 (by omega) hf hB1 hg hx1
              · skip
                have hlp : (zJ M (d + 2) j).toInt < 0 := by
                  have h1 : ¬ (-zJ M (d + 2) j).toInt ≤ 0 := fun z => h_91 (Int64.le_iff_toInt_le.mpr z)
                  rw [l_neg hbj.2.2.1.2.1] at h1; omega
                have p1 := g_mulb (A := 200000000) (B := 200000000) (a := -(zJ M (d + 2) j).toInt) (b := (zJ M (d + 1) i).toInt) (by omega) (by omega)
                have p2 := g_mulb (A := 200000000) (B := 200000000) (a := (zJ M (d + 2) i).toInt) (b := (zJ M (d + 1) j).toInt) (by omega) (by omega)
                have p3 := g_mulb (A := 200000000) (B := 200000000) (a := -(zJ M (d + 2) j).toInt) (b := (zJ M (d + 3) i).toInt) (by omega) (by omega)
                have p4 := g_mulb (A := 200000000) (B := 200000000) (a := (zJ M (d + 2) i).toInt) (b := (zJ M (d + 3) j).toInt) (by omega) (by omega)
                have hng := l_neg hbj.2.2.1.2.1
                have en : (-zJ M (d + 2) j * zJ M (d + 1) i + zJ M (d + 2) i * zJ M (d + 1) j).toInt = -(zJ M (d + 2) j).toInt * (zJ M (d + 1) i).toInt + (zJ M (d + 2) i).toInt * (zJ M (d + 1) j).toInt := by
                  have q1 := l_mul (x := -zJ M (d + 2) j) (y := zJ M (d + 1) i) (by rw [hng]; omega) (by rw [hng]; omega)
                  have q2 := l_mul (x := zJ M (d + 2) i) (y := zJ M (d + 1) j) (by omega) (by omega)
                  rw [hng] at q1
                  rw [l_add (by rw [q1, q2]; omega) (by rw [q1, q2]; omega), q1, q2]
                have em : (-zJ M (d + 2) j * zJ M (d + 3) i + zJ M (d + 2) i * zJ M (d + 3) j).toInt = -(zJ M (d + 2) j).toInt * (zJ M (d + 3) i).toInt + (zJ M (d + 2) i).toInt * (zJ M (d + 3) j).toInt := by
                  have q1 := l_mul (x := -zJ M (d + 2) j) (y := zJ M (d + 3) i) (by rw [hng]; omega) (by rw [hng]; omega)
                  have q2 := l_mul (x := zJ M (d + 2) i) (y := zJ M (d + 3) j) (by omega) (by omega)
                  rw [hng] at q1
                  rw [l_add (by rw [q1, q2]; omega) (by rw [q1, q2]; omega), q1, q2]
                refine za_aload_n hc dD_hasPoints_95 rfl ?_
                refine za_getS hc gfD_28 (by assumption) dD_hasPoints_96 ?_
                refine za_lload hc dD_hasPoints_99 rfl ?_
                refine za_aload_n hc dD_hasPoints_101 rfl ?_
                refine za_getS hc gfD_11 (by assumption) dD_hasPoints_102 ?_
                refine za_iload_n hc dD_hasPoints_105 rfl ?_
                refine za_lald hc (by assumption) dD_hasPoints_106 (vp_in_nI (show i < 36 by omega) (by decide)) ?_
                rw [nI_clamp (show i < 2 ^ 31 by omega), ea]
                refine za_lmul hc dD_hasPoints_107 ?_
                refine za_lload_n hc dD_hasPoints_108 rfl ?_
                refine za_aload_n hc dD_hasPoints_109 rfl ?_
                refine za_getS hc gfD_11 (by assumption) dD_hasPoints_110 ?_
                refine za_iload hc dD_hasPoints_113 rfl ?_
                refine za_lald hc (by assumption) dD_hasPoints_115 (vp_in_nI (show j < 36 by omega) (by decide)) ?_
                rw [nI_clamp (show j < 2 ^ 31 by omega), ea]
                refine za_lmul hc dD_hasPoints_116 ?_
                refine za_ladd hc dD_hasPoints_117 ?_
                refine za_lload hc dD_hasPoints_118 rfl ?_
                refine za_aload_n hc dD_hasPoints_120 rfl ?_
                refine za_getS hc gfD_18 (by assumption) dD_hasPoints_121 ?_
                refine za_iload_n hc dD_hasPoints_124 rfl ?_
                refine za_lald hc (by assumption) dD_hasPoints_125 (vp_in_nI (show i < 36 by omega) (by decide)) ?_
                rw [nI_clamp (show i < 2 ^ 31 by omega), ec]
                refine za_lmul hc dD_hasPoints_126 ?_
                refine za_lload_n hc dD_hasPoints_127 rfl ?_
                refine za_aload_n hc dD_hasPoints_128 rfl ?_
                refine za_getS hc gfD_18 (by assumption) dD_hasPoints_129 ?_
                refine za_iload hc dD_hasPoints_132 rfl ?_
                refine za_lald hc (by assumption) dD_hasPoints_134 (vp_in_nI (show j < 36 by omega) (by decide)) ?_
                rw [nI_clamp (show j < 2 ^ 31 by omega), ec]
                refine za_lmul hc dD_hasPoints_135 ?_
                refine za_ladd hc dD_hasPoints_136 ?_
                refine za_aload_n hc dD_hasPoints_137 rfl ?_
                refine za_getS hc gfD_21 (by assumption) dD_hasPoints_138 ?_
                refine za_iload_n hc dD_hasPoints_141 rfl ?_
                refine za_zald hc (by assumption) dD_hasPoints_142 (vp_in_nI (show i < 36 by omega) (by decide)) ?_
                rw [nI_clamp (show i < 2 ^ 31 by omega), es]
                refine za_if_ne 156 hc dD_hasPoints_143 rfl (fun h_143 => ?_) (fun h_143 => ?_)
                · skip
                  have hsg : ((1 : Int32) == 1) = ((dg M d i).2.2.2 || (dg M d j).2.2.2) := by show true = ((zI M (d + 4) i == 1) || _); rw [(hH.2.2.2 i).resolve_left h_143]; rfl
                  refine za_iconst hc 1 dD_hasPoints_156 rfl ?_
                  refine za_goto 161 hc dD_hasPoints_157 rfl ?_
                  refine za_cV3i hc gsD_55 (by assumption) (cS_narrow_ l M1 _ _ _ hd.p hB1 (by first | exact Or.inl rfl | exact Or.inr rfl) (by rw [en, em]; exact hpb i j (by omega) (by omega) hu hlp)) ⟨rfl, rfl⟩ ⟨Nat.le_of_ble_eq_true rfl, Nat.le_of_ble_eq_true rfl⟩ ⟨Nat.zero_le _, Nat.zero_le _⟩ dD_hasPoints_161 (fun x_161 M_161 h_161 => ?_)
                  obtain ⟨hst1, hst0⟩ := s_step hB1 (by first | exact Or.inl rfl | exact Or.inr rfl) h_161
                  refine za_if_ne 169 hc dD_hasPoints_164 rfl (fun h_164 => ?_) (fun h_164 => ?_)
                  · skip
                    have hr1 : x_161 = 1 := h_161.2.2.1.resolve_left h_164
                    obtain ⟨hs1, hs2⟩ := hst1 hr1
                    have hx1 : ∀ x, sX M_161 (d + 5) x ↔ (∀ i', i' < i → gdz (dg M d i') x ∧ ∀ j, j < ls.length → gdp (dg M d i') (dg M d j) x) ∧ gdz (dg M d i) x ∧ ∀ j', j' < j + 1 → gdp (dg M d i) (dg M d j') x := fun x => (hs1 x).trans (by
                        rw [hx x, en, em, hsg]
                        constructor
                        · rintro ⟨⟨g1, g2, g3⟩, g4⟩
                          refine ⟨g1, g2, fun j1 hj1 => ?_⟩
                          by_cases c : j1 < j
                          · exact g3 j1 c
                          · obtain rfl : j1 = j := by omega
                            exact fun _ _ => g4
                        · rintro ⟨g1, g2, g3⟩
                          exact ⟨⟨g1, g2, fun j1 hj1 => g3 j1 (by omega)⟩, g3 j (by omega) hu hlp⟩)
                    refine za_iinc hc _ dD_hasPoints_169 rfl ((nI_succ j).symm) (by decide) ?_
                    refine za_goto 63 hc dD_hasPoints_172 rfl ?_
                    refine za_take 4 ?_
                    exact ihk (j + 1) M_161 (by omega) (hf.tr h_161.1) h_161.2.1 (hs2 hg) hx1
                  · skip
                    refine za_iconst hc 0 dD_hasPoints_167 rfl ?_
                    exact za_zret hc rfl (rfl) dD_hasPoints_168 ⟨Nat.zero_le _, Nat.zero_le _⟩ (no M_161 (hf.tr h_161.1) h_161.2.1 (fun hh => by
              obtain ⟨x, hx2⟩ := hsat.mp hh
              refine hst0 (by rw [h_164]; decide) x ⟨(hx x).mpr ⟨fun a ha => hx2 a (by omega), (hx2 i (by omega)).1, fun b hb => (hx2 i (by omega)).2 b (by omega)⟩, ?_⟩
              rw [en, em, hsg]
              exact (hx2 i (by omega)).2 j (by omega) hu hlp))
                · skip
                  refine za_aload_n hc dD_hasPoints_146 rfl ?_
                  refine za_getS hc gfD_21 (by assumption) dD_hasPoints_147 ?_
                  refine za_iload hc dD_hasPoints_150 rfl ?_
                  refine za_zald hc (by assumption) dD_hasPoints_152 (vp_in_nI (show j < 36 by omega) (by decide)) ?_
                  rw [nI_clamp (show j < 2 ^ 31 by omega), es]
                  refine za_if_eq 160 hc dD_hasPoints_153 rfl (fun h_153 => ?_) (fun h_153 => ?_)
                  · skip
                    have hsg : ((0 : Int32) == 1) = ((dg M d i).2.2.2 || (dg M d j).2.2.2) := by show false = ((zI M (d + 4) i == 1) || (zI M (d + 4) j == 1)); rw [h_143, h_153]; rfl
                    refine za_iconst hc 0 dD_hasPoints_160 rfl ?_
                    refine za_cV3i hc gsD_55 (by assumption) (cS_narrow_ l M1 _ _ _ hd.p hB1 (by first | exact Or.inl rfl | exact Or.inr rfl) (by rw [en, em]; exact hpb i j (by omega) (by omega) hu hlp)) ⟨rfl, rfl⟩ ⟨Nat.le_of_ble_eq_true rfl, Nat.le_of_ble_eq_true rfl⟩ ⟨Nat.zero_le _, Nat.zero_le _⟩ dD_hasPoints_161 (fun x_161 M_161 h_161 => ?_)
                    obtain ⟨hst1, hst0⟩ := s_step hB1 (by first | exact Or.inl rfl | exact Or.inr rfl) h_161
                    refine za_if_ne 169 hc dD_hasPoints_164 rfl (fun h_164 => ?_) (fun h_164 => ?_)
                    · skip
                      have hr1 : x_161 = 1 := h_161.2.2.1.resolve_left h_164
                      obtain ⟨hs1, hs2⟩ := hst1 hr1
                      have hx1 : ∀ x, sX M_161 (d + 5) x ↔ (∀ i', i' < i → gdz (dg M d i') x ∧ ∀ j, j < ls.length → gdp (dg M d i') (dg M d j) x) ∧ gdz (dg M d i) x ∧ ∀ j', j' < j + 1 → gdp (dg M d i) (dg M d j') x := fun x => (hs1 x).trans (by
                          rw [hx x, en, em, hsg]
                          constructor
                          · rintro ⟨⟨g1, g2, g3⟩, g4⟩
                            refine ⟨g1, g2, fun j1 hj1 => ?_⟩
                            by_cases c : j1 < j
                            · exact g3 j1 c
                            · obtain rfl : j1 = j := by omega
                              exact fun _ _ => g4
                          · rintro ⟨g1, g2, g3⟩
                            exact ⟨⟨g1, g2, fun j1 hj1 => g3 j1 (by omega)⟩, g3 j (by omega) hu hlp⟩)
                      refine za_iinc hc _ dD_hasPoints_169 rfl ((nI_succ j).symm) (by decide) ?_
                      refine za_goto 63 hc dD_hasPoints_172 rfl ?_
                      refine za_take 4 ?_
                      exact ihk (j + 1) M_161 (by omega) (hf.tr h_161.1) h_161.2.1 (hs2 hg) hx1
                    · skip
                      refine za_iconst hc 0 dD_hasPoints_167 rfl ?_
                      exact za_zret hc rfl (rfl) dD_hasPoints_168 ⟨Nat.zero_le _, Nat.zero_le _⟩ (no M_161 (hf.tr h_161.1) h_161.2.1 (fun hh => by
              obtain ⟨x, hx2⟩ := hsat.mp hh
              refine hst0 (by rw [h_164]; decide) x ⟨(hx x).mpr ⟨fun a ha => hx2 a (by omega), (hx2 i (by omega)).1, fun b hb => (hx2 i (by omega)).2 b (by omega)⟩, ?_⟩
              rw [en, em, hsg]
              exact (hx2 i (by omega)).2 j (by omega) hu hlp))
                  · skip
                    have hsg : ((1 : Int32) == 1) = ((dg M d i).2.2.2 || (dg M d j).2.2.2) := by show true = ((zI M (d + 4) i == 1) || (zI M (d + 4) j == 1)); rw [h_143, (hH.2.2.2 j).resolve_left h_153]; rfl
                    refine za_iconst hc 1 dD_hasPoints_156 rfl ?_
                    refine za_goto 161 hc dD_hasPoints_157 rfl ?_
                    refine za_cV3i hc gsD_55 (by assumption) (cS_narrow_ l M1 _ _ _ hd.p hB1 (by first | exact Or.inl rfl | exact Or.inr rfl) (by rw [en, em]; exact hpb i j (by omega) (by omega) hu hlp)) ⟨rfl, rfl⟩ ⟨Nat.le_of_ble_eq_true rfl, Nat.le_of_ble_eq_true rfl⟩ ⟨Nat.zero_le _, Nat.zero_le _⟩ dD_hasPoints_161 (fun x_161 M_161 h_161 => ?_)
                    obtain ⟨hst1, hst0⟩ := s_step hB1 (by first | exact Or.inl rfl | exact Or.inr rfl) h_161
                    refine za_if_ne 169 hc dD_hasPoints_164 rfl (fun h_164 => ?_) (fun h_164 => ?_)
                    · skip
                      have hr1 : x_161 = 1 := h_161.2.2.1.resolve_left h_164
                      obtain ⟨hs1, hs2⟩ := hst1 hr1
                      have hx1 : ∀ x, sX M_161 (d + 5) x ↔ (∀ i', i' < i → gdz (dg M d i') x ∧ ∀ j, j < ls.length → gdp (dg M d i') (dg M d j) x) ∧ gdz (dg M d i) x ∧ ∀ j', j' < j + 1 → gdp (dg M d i) (dg M d j') x := fun x => (hs1 x).trans (by
                          rw [hx x, en, em, hsg]
                          constructor
                          · rintro ⟨⟨g1, g2, g3⟩, g4⟩
                            refine ⟨g1, g2, fun j1 hj1 => ?_⟩
                            by_cases c : j1 < j
                            · exact g3 j1 c
                            · obtain rfl : j1 = j := by omega
                              exact fun _ _ => g4
                          · rintro ⟨g1, g2, g3⟩
                            exact ⟨⟨g1, g2, fun j1 hj1 => g3 j1 (by omega)⟩, g3 j (by omega) hu hlp⟩)
                      refine za_iinc hc _ dD_hasPoints_169 rfl ((nI_succ j).symm) (by decide) ?_
                      refine za_goto 63 hc dD_hasPoints_172 rfl ?_
                      refine za_take 4 ?_
                      exact ihk (j + 1) M_161 (by omega) (hf.tr h_161.1) h_161.2.1 (hs2 hg) hx1
                    · skip
                      refine za_iconst hc 0 dD_hasPoints_167 rfl ?_
                      exact za_zret hc rfl (rfl) dD_hasPoints_168 ⟨Nat.zero_le _, Nat.zero_le _⟩ (no M_161 (hf.tr h_161.1) h_161.2.1 (fun hh => by
              obtain ⟨x, hx2⟩ := hsat.mp hh
              refine hst0 (by rw [h_164]; decide) x ⟨(hx x).mpr ⟨fun a ha => hx2 a (by omega), (hx2 i (by omega)).1, fun b hb => (hx2 i (by omega)).2 b (by omega)⟩, ?_⟩
              rw [en, em, hsg]
              exact (hx2 i (by omega)).2 j (by omega) hu hlp))
      have ea := (hf (d + 1) (fun z => by have := z.1; omega)).2.1
      have eb := (hf (d + 2) (fun z => by have := z.1; omega)).2.1
      have ec := (hf (d + 3) (fun z => by have := z.1; omega)).2.1
      have es := (hf (d + 4) (fun z => by have := z.1; omega)).1
      have hbi := hbnd i (by omega)
      refine za_iload_n hc dD_hasPoints_9 rfl ?_
      refine za_aload_n hc dD_hasPoints_10 rfl ?_
      refine za_getI hc gfD_32 (by assumption) dD_hasPoints_11 ?_
      rw [(kept M1 hf).1]
      refine za_icmp_ge 181 hc dD_hasPoints_14 rfl (fun h_14 => ?_) (fun h_14 => ?_)
      · skip
        exact absurd ((nI_leI (by omega) (by omega)).mp h_14) (by omega)
      · skip
        refine za_aload_n hc dD_hasPoints_17 rfl ?_
        refine za_getS hc gfD_15 (by assumption) dD_hasPoints_18 ?_
        refine za_iload_n hc dD_hasPoints_21 rfl ?_
        refine za_lald hc (by assumption) dD_hasPoints_22 (vp_in_nI (show i < 36 by omega) (by decide)) ?_
        rw [nI_clamp (show i < 2 ^ 31 by omega), eb]
        refine za_lstore_n hc dD_hasPoints_23 (by decide) ?_
        refine za_lload_n hc dD_hasPoints_24 rfl ?_
        refine za_lconst hc 0 dD_hasPoints_25 rfl ?_
        refine za_lcmp_ne 60 hc dD_hasPoints_26 dD_hasPoints_27 rfl (fun h_26 => ?_) (fun h_26 => ?_)
        · skip
          have hu0 : ¬ (zJ M (d + 2) i).toInt = 0 := fun z => h_26 (Int64.toInt_inj.mp z)
          refine za_iconst hc 0 dD_hasPoints_60 rfl ?_
          refine za_istore hc dD_hasPoints_61 (by decide) ?_
          refine inner ls.length 0 M1 (by omega) hf hB1 hg (fun x => (hx x).trans ⟨fun g => ⟨g, fun z => absurd z hu0, fun j1 hj1 => absurd hj1 (Nat.not_lt_zero _)⟩, fun g => g.1⟩)
        · skip
          have hu0 : (zJ M (d + 2) i).toInt = 0 := by rw [h_26]; rfl
          refine za_aload_n hc dD_hasPoints_30 rfl ?_
          refine za_getS hc gfD_28 (by assumption) dD_hasPoints_31 ?_
          refine za_aload_n hc dD_hasPoints_34 rfl ?_
          refine za_getS hc gfD_11 (by assumption) dD_hasPoints_35 ?_
          refine za_iload_n hc dD_hasPoints_38 rfl ?_
          refine za_lald hc (by assumption) dD_hasPoints_39 (vp_in_nI (show i < 36 by omega) (by decide)) ?_
          rw [nI_clamp (show i < 2 ^ 31 by omega), ea]
          refine za_aload_n hc dD_hasPoints_40 rfl ?_
          refine za_getS hc gfD_18 (by assumption) dD_hasPoints_41 ?_
          refine za_iload_n hc dD_hasPoints_44 rfl ?_
          refine za_lald hc (by assumption) dD_hasPoints_45 (vp_in_nI (show i < 36 by omega) (by decide)) ?_
          rw [nI_clamp (show i < 2 ^ 31 by omega), ec]
          refine za_aload_n hc dD_hasPoints_46 rfl ?_
          refine za_getS hc gfD_21 (by assumption) dD_hasPoints_47 ?_
          refine za_iload_n hc dD_hasPoints_50 rfl ?_
          refine za_zald hc (by assumption) dD_hasPoints_51 (vp_in_nI (show i < 36 by omega) (by decide)) ?_
          rw [nI_clamp (show i < 2 ^ 31 by omega), es]
          refine za_cV3i hc gsD_55 (by assumption) (cS_narrow_ l M1 _ _ _ hd.p hB1 (hH.2.2.2 i) (fun _ => by omega)) ⟨rfl, rfl⟩ ⟨Nat.le_of_ble_eq_true rfl, Nat.le_of_ble_eq_true rfl⟩ ⟨Nat.zero_le _, Nat.zero_le _⟩ dD_hasPoints_52 (fun x_52 M_52 h_52 => ?_)
          obtain ⟨hst1, hst0⟩ := s_step hB1 (hH.2.2.2 i) h_52
          refine za_if_ne 60 hc dD_hasPoints_55 rfl (fun h_55 => ?_) (fun h_55 => ?_)
          · skip
            have hr1 : x_52 = 1 := h_52.2.2.1.resolve_left h_55
            obtain ⟨hs1, hs2⟩ := hst1 hr1
            refine za_iconst hc 0 dD_hasPoints_60 rfl ?_
            refine za_istore hc dD_hasPoints_61 (by decide) ?_
            refine inner ls.length 0 M_52 (by omega) (hf.tr h_52.1) h_52.2.1 (hs2 hg) (fun x => (hs1 x).trans ?_)
            rw [hx x]
            exact ⟨fun g => ⟨g.1, fun _ => g.2, fun j1 hj1 => absurd hj1 (Nat.not_lt_zero _)⟩, fun g => ⟨g.1, g.2.1 hu0⟩⟩
          · skip
            refine za_iconst hc 0 dD_hasPoints_58 rfl ?_
            exact za_zret hc rfl (rfl) dD_hasPoints_59 ⟨Nat.zero_le _, Nat.zero_le _⟩ (no M_52 (hf.tr h_52.1) h_52.2.1 (fun hh => by
          obtain ⟨x, hx2⟩ := hsat.mp hh
          exact hst0 (by rw [h_55]; decide) x ⟨(hx x).mpr (fun a ha => hx2 a (by omega)), (hx2 i (by omega)).1 hu0⟩))
  refine za_aload_n hc dD_hasPoints_0 rfl ?_
  refine za_getS hc gfD_28 (by assumption) dD_hasPoints_1 ?_
  refine za_cV0v hc gsD_52 (by assumption) (cS_reset_ l M hd.p) ⟨rfl, rfl⟩ ⟨Nat.le_of_ble_eq_true rfl, Nat.le_of_ble_eq_true rfl⟩ ⟨Nat.zero_le _, Nat.zero_le _⟩ dD_hasPoints_4 (fun M_4 h_4 => ?_)
  subst h_4
  refine za_iconst hc 0 dD_hasPoints_7 rfl ?_
  refine za_istore_n hc dD_hasPoints_8 (by decide) ?_
  have hrs : ∀ e, e < 2 → (zJ (zsJ (zsJ M (d + 5 + 2) 0 0) (d + 5 + 2) 1 0) (d + 5 + 2) e).toInt = 0 := fun e he => by
    rw [zJ_s, zJ_s]
    by_cases c1 : e = 1
    · rw [if_pos c1]; rfl
    · rw [if_neg c1, if_pos (by omega)]; rfl
  refine outer ls.length 0 _ (by omega) ((zfr_sJ ⟨by omega, by omega⟩).tr (zfr_sJ ⟨by omega, by omega⟩)) ⟨fun e => ?_, fun e => ?_, hB.2.2⟩ (Or.inl (hrs 0 (by decide))) (fun x => ⟨fun _ a ha => absurd ha (Nat.not_lt_zero _), fun _ => ⟨fun z => absurd (hrs 0 (by decide)) z, fun z => absurd (hrs 1 (by decide)) z⟩⟩)
  · rw [zJ_o (by omega), zJ_o (by omega)]; exact hB.1 e
  · rw [zJ_s, zJ_s]
    split
    · exact ⟨by decide, by decide⟩
    · split
      · exact ⟨by decide, by decide⟩
      · exact hB.2.1 e
end
section
/-! What the others imply goes; the limits. -/
noncomputable def gsb (l : List gC) : Bool := @decide (gSat l) (Classical.propDecidable _)
theorem gsb_iff {l : List gC} : gsb l = true ↔ gSat l := by unfold gsb; exact @decide_eq_true_iff (gSat l) (Classical.propDecidable _)
noncomputable def gthin : List gC → List gC → List gC
  | dn, [] => dn
  | dn, m :: t => if gsb (dn ++ gflip m :: t) = true then gthin (dn ++ [m]) t else gthin dn t
theorem gflip_2 (m : gC) : gflip (gflip m) = m := by
  obtain ⟨a, b, c, s⟩ := m
  show (- -a, - -b, - -c, !(!s)) = _
  rw [Int.neg_neg, Int.neg_neg, Int.neg_neg, Bool.not_not]
theorem gOK_sub {l l' : List gC} (h : gOK l) (hs : ∀ q ∈ l', ∃ k ∈ l, (q = k ∨ q = gflip k)) : gOK l' := by
  have key : ∀ (a b c : Nat), (∀ q ∈ l, q.1.natAbs ≤ a ∧ q.2.1.natAbs ≤ b ∧ q.2.2.1.natAbs ≤ c) → ∀ q ∈ l', q.1.natAbs ≤ a ∧ q.2.1.natAbs ≤ b ∧ q.2.2.1.natAbs ≤ c := by
    intro a b c h q hq
    obtain ⟨k, hk, e⟩ := hs q hq
    have h1 := h k hk
    rcases e with rfl | rfl
    · exact h1
    · unfold gflip; simp only [Int.natAbs_neg]; exact h1
  rcases h with h | h | h
  · exact Or.inl (key _ _ _ h)
  · refine Or.inr (Or.inl (fun q hq => ?_))
    have := key 200000000 0 200000000 (fun q hq => ⟨(h q hq).1, by rw [(h q hq).2.1]; decide, (h q hq).2.2⟩) q hq
    omega
  · refine Or.inr (Or.inr (fun q hq => ?_))
    have := key 0 200000000 200000000 (fun q hq => ⟨by rw [(h q hq).1]; decide, (h q hq).2.1, (h q hq).2.2⟩) q hq
    omega
theorem dH_set {M M' : zM} {d j : Nat} {ls : List gC} {x : gC} (h : dH M d ls) (hj : j < ls.length) (g1 : ∀ i, dg M' d i = if i = j then x else dg M d i) (g2 : zbo M' d) (g3 : zI M' d = zI M d) : dH M' d (ls.set j x) :=
  ⟨by rw [g3, List.length_set]; exact h.1, by rw [List.length_set]; exact h.2.1, fun i q hq => by
    rw [g1]
    by_cases c : i = j
    · subst c
      rw [List.getElem?_set_self hj] at hq
      rw [if_pos rfl]; exact Option.some.inj hq
    · rw [List.getElem?_set_ne (Ne.symm c)] at hq
      rw [if_neg c]; exact h.2.2.1 i q hq, g2⟩
theorem g_set (dn t : List gC) (m x : gC) : (dn ++ m :: t).set dn.length x = dn ++ x :: t := by simp
theorem g_erase (dn t : List gC) (m : gC) : (dn ++ m :: t).eraseIdx dn.length = dn ++ t := by simp [List.eraseIdx_append]
theorem gthin_sub : ∀ (t dn : List gC), (∀ q ∈ gthin dn t, q ∈ dn ++ t) ∧ (gthin dn t).length ≤ (dn ++ t).length := by
  intro t
  induction t with
  | nil => intro dn; unfold gthin; exact ⟨fun q hq => List.mem_append_left _ hq, by simp⟩
  | cons m t ih =>
    intro dn
    unfold gthin
    split
    · obtain ⟨h1, h2⟩ := ih (dn ++ [m])
      exact ⟨fun q hq => by have := h1 q hq; simpa using this, by simp only [List.length_append, List.length_cons, List.length_nil] at h2 ⊢; omega⟩
    · obtain ⟨h1, h2⟩ := ih dn
      refine ⟨fun q hq => ?_, by simp only [List.length_append, List.length_cons] at h2 ⊢; omega⟩
      rcases List.mem_append.mp (h1 q hq) with h | h
      · exact List.mem_append_left _ h
      · exact List.mem_append_right _ (List.mem_cons_of_mem _ h)
theorem sB_kept {P : Nat → Prop} {M M' : zM} {p : Nat} (h : sB M p) (hf : zfr P M M') (h1 : ¬ P (p + 1)) (h2 : ¬ P (p + 2)) (h3 : ¬ P (p + 3)) : sB M' p := by
  unfold sB
  rw [(hf _ h1).2.1, (hf _ h2).2.1, (hf _ h3).1]
  exact h

set_option maxRecDepth 100000 in
set_option maxHeartbeats 4000000 in
theorem cD_dropImplied_ (l : Launch) {d : Nat} {ls : List gC} (M : zM) (hd : zdr d) (hH : dH M d ls) (hB : sB M (d + 5)) (hok : gOK ls) : zMet l mD_dropImplied rD_dropImplied [.ref d] M (zqv (fun M' => dH M' d (gthin [] ls) ∧ sB M' (d + 5) ∧ zfr (dF d) M M')) := by
  refine za_enter (by decide) (Nat.le_of_ble_eq_true rfl) (fun X hc => ?_)
  have hdo := hd.o
  have hda := hd.a
  have hdb := hd.b
  have hdc := hd.c
  have hds := hd.s
  have hpo := hd.p.o
  have hl := hH.2.1
  have loop : ∀ (t dn : List gC) (i : Nat) (M1 : zM), t.length + i = ls.length → (dn ++ t).length ≤ ls.length → gthin dn t = gthin [] ls → gOK (dn ++ t) → dH M1 d (dn ++ t) → sB M1 (d + 5) → zfr (dF d) M M1 → zW X (zqv (fun M' => dH M' d (gthin [] ls) ∧ sB M' (d + 5) ∧ zfr (dF d) M M')) (0, 0) 9 [(0, .ref d), (1, .int (nI dn.length)), (2, .int (nI ls.length)), (3, .int (nI i))] [] M1 := by
    intro t
    induction t with
    | nil =>
      intro dn i M1 hn hln hg hok1 hH1 hB1 hf1
      refine za_iload_n hc dD_dropImplied_9 rfl ?_
      refine za_iload_n hc dD_dropImplied_10 rfl ?_
      refine za_icmp_ge 52 hc dD_dropImplied_11 rfl (fun h_11 => ?_) (fun h_11 => ?_)
      · skip
        exact za_vret hc rfl dD_dropImplied_52 ⟨Nat.zero_le _, Nat.zero_le _⟩ (⟨rfl, by rw [← hg]; unfold gthin; rw [List.append_nil] at hH1; exact hH1, hB1, hf1⟩)
      · skip
        exact absurd ((nI_leI (by omega) (by omega)).mpr (by simp only [List.length_nil] at hn; omega)) h_11
    | cons m t ih =>
      intro dn i M1 hn hln hg hok1 hH1 hB1 hf1
      simp only [List.length_cons] at hn
      have hlen : (dn ++ m :: t).length = dn.length + (t.length + 1) := by simp
      have hjl : dn.length < (dn ++ m :: t).length := by omega
      have hmm : (dn ++ m :: t)[dn.length]? = some m := by simp
      have hd1 : dg M1 d dn.length = m := hH1.2.2.1 _ _ hmm
      have hbm : ∀ q ∈ dn ++ m :: t, q.1.natAbs ≤ 200000000 ∧ q.2.1.natAbs ≤ 200000000 ∧ q.2.2.1.natAbs ≤ 200000000 := fun q hq => by rcases hok1 with h | h | h <;> have := h q hq <;> omega
      have hb1 := hbm m (by simp)
      have hok2 : gOK (dn ++ gflip m :: t) := gOK_sub hok1 (fun q hq => by
        rcases List.mem_append.mp hq with h | h
        · exact ⟨q, List.mem_append_left _ h, Or.inl rfl⟩
        · rcases List.mem_cons.mp h with h | h
          · exact ⟨m, by simp, Or.inr h⟩
          · exact ⟨q, List.mem_append_right _ (List.mem_cons_of_mem _ h), Or.inl rfl⟩)
      refine za_iload_n hc dD_dropImplied_9 rfl ?_
      refine za_iload_n hc dD_dropImplied_10 rfl ?_
      refine za_icmp_ge 52 hc dD_dropImplied_11 rfl (fun h_11 => ?_) (fun h_11 => ?_)
      · skip
        exact absurd ((nI_leI (by omega) (by omega)).mp h_11) (by omega)
      · skip
        refine za_aload_n hc dD_dropImplied_14 rfl ?_
        refine za_iload_n hc dD_dropImplied_15 rfl ?_
        refine za_cV1v hc gsD_59 (by assumption) (cD_flip_ l M1 hd (show dn.length < 36 by omega) hH1.2.2.2 (by have e : (dg M1 d dn.length).1 = (zJ M1 (d + 1) dn.length).toInt := rfl; rw [hd1] at e; omega) (by have e : (dg M1 d dn.length).2.1 = (zJ M1 (d + 2) dn.length).toInt := rfl; rw [hd1] at e; omega) (by have e : (dg M1 d dn.length).2.2.1 = (zJ M1 (d + 3) dn.length).toInt := rfl; rw [hd1] at e; omega)) ⟨rfl, rfl⟩ ⟨Nat.le_of_ble_eq_true rfl, Nat.le_of_ble_eq_true rfl⟩ ⟨Nat.zero_le _, Nat.zero_le _⟩ dD_dropImplied_16 (fun M_16 h_16 => ?_)
        obtain ⟨g1, g2, g3⟩ := h_16
        have hH2 : dH M_16 d (dn ++ gflip m :: t) := by
          have := dH_set hH1 hjl g1 g2 (g3 d (fun z => by have := z.1; omega)).1
          rw [g_set, hd1] at this
          exact this
        have hB2 : sB M_16 (d + 5) := sB_kept hB1 g3 (fun z => by have := z.2; omega) (fun z => by have := z.2; omega) (fun z => by have := z.2; omega)
        refine za_aload_n hc dD_dropImplied_19 rfl ?_
        refine za_cV0i hc gsD_63 (by assumption) (cD_hasPoints_ l M_16 hd hH2 hB2 hok2) ⟨rfl, rfl⟩ ⟨Nat.le_of_ble_eq_true rfl, Nat.le_of_ble_eq_true rfl⟩ ⟨Nat.zero_le _, Nat.zero_le _⟩ dD_dropImplied_20 (fun x_20 M_20 h_20 => ?_)
        obtain ⟨k1, k2, k3, k4, k5⟩ := h_20
        refine za_istore hc dD_dropImplied_23 (by decide) ?_
        refine za_aload_n hc dD_dropImplied_25 rfl ?_
        refine za_iload_n hc dD_dropImplied_26 rfl ?_
        refine za_cV1v hc gsD_59 (by assumption) (cD_flip_ l M_20 hd (show dn.length < 36 by omega) k3.2.2.2 (by have e : (dg M_20 d dn.length).1 = (zJ M_20 (d + 1) dn.length).toInt := rfl; rw [k3.2.2.1 dn.length (gflip m) (by simp)] at e; have h0 : (gflip m).1 = -m.1 := rfl; omega) (by have e : (dg M_20 d dn.length).2.1 = (zJ M_20 (d + 2) dn.length).toInt := rfl; rw [k3.2.2.1 dn.length (gflip m) (by simp)] at e; have h0 : (gflip m).2.1 = -m.2.1 := rfl; omega) (by have e : (dg M_20 d dn.length).2.2.1 = (zJ M_20 (d + 3) dn.length).toInt := rfl; rw [k3.2.2.1 dn.length (gflip m) (by simp)] at e; have h0 : (gflip m).2.2.1 = -m.2.2.1 := rfl; omega)) ⟨rfl, rfl⟩ ⟨Nat.le_of_ble_eq_true rfl, Nat.le_of_ble_eq_true rfl⟩ ⟨Nat.zero_le _, Nat.zero_le _⟩ dD_dropImplied_27 (fun M_27 h_27 => ?_)
        obtain ⟨g4, g5, g6⟩ := h_27
        have hH3 : dH M_27 d (dn ++ m :: t) := by
          have := dH_set k3 (show dn.length < (dn ++ gflip m :: t).length by simp) g4 g5 (g6 d (fun z => by have := z.1; omega)).1
          rw [g_set, k3.2.2.1 dn.length (gflip m) (by simp), gflip_2] at this
          exact this
        have hB3 : sB M_27 (d + 5) := sB_kept k4 g6 (fun z => by have := z.2; omega) (fun z => by have := z.2; omega) (fun z => by have := z.2; omega)
        have hf3 : zfr (dF d) M M_27 := hf1.tr ((g3.wk (fun k z => dB_F (dA_B z))).tr ((k5.wk (fun k z => ⟨by have := z.1; omega, by have := z.2; omega⟩)).tr (g6.wk (fun k z => dB_F (dA_B z)))))
        refine za_iload hc dD_dropImplied_30 rfl ?_
        refine za_if_eq 41 hc dD_dropImplied_32 rfl (fun h_32 => ?_) (fun h_32 => ?_)
        · skip
          have hns : ¬ gsb (dn ++ gflip m :: t) = true := fun z => absurd (k2.mpr (gsb_iff.mp z)) (by rw [h_32]; decide)
          refine za_aload_n hc dD_dropImplied_41 rfl ?_
          refine za_iload_n hc dD_dropImplied_42 rfl ?_
          refine za_cV1v hc gsD_67 (by assumption) (cD_remove_ l M_27 hd hH3 hjl) ⟨rfl, rfl⟩ ⟨Nat.le_of_ble_eq_true rfl, Nat.le_of_ble_eq_true rfl⟩ ⟨Nat.zero_le _, Nat.zero_le _⟩ dD_dropImplied_43 (fun M_43 h_43 => ?_)
          obtain ⟨r1, r2⟩ := h_43
          rw [g_erase] at r1
          refine za_iinc hc _ dD_dropImplied_46 rfl ((nI_succ i).symm) (by decide) ?_
          refine za_goto 9 hc dD_dropImplied_49 rfl ?_
          refine za_take 4 ?_
          have hg2 : gthin dn t = gthin [] ls := hg ▸ (show gthin dn t = gthin dn (m :: t) from (if_neg hns).symm)
          exact ih dn (i + 1) M_43 (by omega) (by simp only [List.length_append, List.length_cons] at hln ⊢; omega) hg2 (gOK_sub hok1 (fun q hq => ⟨q, (List.mem_append.mp hq).elim (List.mem_append_left _) (fun h => List.mem_append_right _ (List.mem_cons_of_mem _ h)), Or.inl rfl⟩)) r1 (sB_kept hB3 r2 (fun z => by have := z.2; omega) (fun z => by have := z.2; omega) (fun z => by have := z.2; omega)) (hf3.tr (r2.wk (fun k => dB_F)))
        · skip
          have hys : gsb (dn ++ gflip m :: t) = true := gsb_iff.mpr (k2.mp (k1.resolve_left h_32))
          refine za_iinc hc _ dD_dropImplied_35 rfl ((nI_succ _).symm) (by decide) ?_
          refine za_goto 46 hc dD_dropImplied_38 rfl ?_
          refine za_iinc hc _ dD_dropImplied_46 rfl ((nI_succ i).symm) (by decide) ?_
          refine za_goto 9 hc dD_dropImplied_49 rfl ?_
          refine za_take 4 ?_
          have hg2 : gthin (dn ++ [m]) t = gthin [] ls := hg ▸ (show gthin (dn ++ [m]) t = gthin dn (m :: t) from (if_pos hys).symm)
          have hap : dn ++ [m] ++ t = dn ++ m :: t := by simp
          have := ih (dn ++ [m]) (i + 1) M_27 (by omega) (by rw [hap]; exact hln) hg2 (by rw [hap]; exact hok1) (by rw [hap]; exact hH3) hB3 hf3
          rw [show (dn ++ [m]).length = dn.length + 1 by simp] at this
          exact this
  refine za_iconst hc 0 dD_dropImplied_0 rfl ?_
  refine za_istore_n hc dD_dropImplied_1 (by decide) ?_
  refine za_aload_n hc dD_dropImplied_2 rfl ?_
  refine za_getI hc gfD_32 (by assumption) dD_dropImplied_3 ?_
  rw [hH.1]
  refine za_istore_n hc dD_dropImplied_6 (by decide) ?_
  refine za_iconst hc 0 dD_dropImplied_7 rfl ?_
  refine za_istore_n hc dD_dropImplied_8 (by decide) ?_
  exact loop ls [] 0 M (by omega) (by simp) rfl (by simpa using hok) (by simpa using hH) hB zfr.rf

def gLim (q : gC) : Prop := q.1.natAbs ≤ 10000 ∧ q.2.1.natAbs ≤ 10000 ∧ q.2.2.1.natAbs ≤ 10000

set_option maxRecDepth 100000 in
set_option maxHeartbeats 4000000 in
theorem cD_keepsLimits_ (l : Launch) {d : Nat} {ls : List gC} (M : zM) (hd : zdr d) (hH : dH M d ls) : zMet l mD_keepsLimits rD_keepsLimits [.ref d] M (zqi (fun r M' => (r = 0 ∨ r = 1) ∧ (r = 1 ↔ (∀ q ∈ ls, gLim q) ∧ ls.length ≤ 12) ∧ M' = M)) := by
  refine za_enter (by decide) (Nat.le_of_ble_eq_true rfl) (fun X hc => ?_)
  have hdo := hd.o
  have hda := hd.a
  have hdb := hd.b
  have hdc := hd.c
  have hds := hd.s
  have hpo := hd.p.o
  have hl := hH.2.1
  have loop : ∀ n i, n + i = ls.length → (∀ j, j < i → gLim (dg M d j)) → zW X (zqi (fun r M' => (r = 0 ∨ r = 1) ∧ (r = 1 ↔ (∀ q ∈ ls, gLim q) ∧ ls.length ≤ 12) ∧ M' = M)) (0, 0) 2 [(0, .ref d), (1, .int (nI i))] [] M := by
    intro n
    induction n with
    | zero =>
      intro i hn hall
      refine za_iload_n hc dD_keepsLimits_2 rfl ?_
      refine za_aload_n hc dD_keepsLimits_3 rfl ?_
      refine za_getI hc gfD_32 (by assumption) dD_keepsLimits_4 ?_
      rw [hH.1]
      refine za_icmp_ge 63 hc dD_keepsLimits_7 rfl (fun h_7 => ?_) (fun h_7 => ?_)
      · skip
        have hall2 : ∀ q ∈ ls, gLim q := fun q hq => by
          obtain ⟨j, hj⟩ := List.getElem?_of_mem hq
          rw [← hH.2.2.1 j q hj]
          exact hall j (by have := (List.getElem?_eq_some_iff.mp hj).1; omega)
        refine za_aload_n hc dD_keepsLimits_63 rfl ?_
        refine za_getI hc gfD_32 (by assumption) dD_keepsLimits_64 ?_
        rw [hH.1]
        refine za_bipush hc 12 dD_keepsLimits_67 rfl ?_
        refine za_icmp_gt 76 hc dD_keepsLimits_69 rfl (fun h_69 => ?_) (fun h_69 => ?_)
        · skip
          have c1 : ¬ ls.length ≤ 12 := fun z => absurd ((nI_ltI (a := 12) (by decide) (by omega)).mp h_69) (by omega)
          refine za_iconst hc 0 dD_keepsLimits_76 rfl ?_
          exact za_zret hc rfl (rfl) dD_keepsLimits_77 ⟨Nat.zero_le _, Nat.zero_le _⟩ (by first | exact ⟨1, rfl, Or.inr rfl, ⟨fun _ => ⟨hall2, c1⟩, fun _ => rfl⟩, rfl⟩ | exact ⟨0, rfl, Or.inl rfl, ⟨fun z => absurd z (by decide), fun z => absurd z.2 c1⟩, rfl⟩)
        · skip
          have c1 : ls.length ≤ 12 := Nat.not_lt.mp (fun z => h_69 ((nI_ltI (a := 12) (by decide) (by omega)).mpr z))
          refine za_iconst hc 1 dD_keepsLimits_72 rfl ?_
          refine za_goto 77 hc dD_keepsLimits_73 rfl ?_
          exact za_zret hc rfl (rfl) dD_keepsLimits_77 ⟨Nat.zero_le _, Nat.zero_le _⟩ (by first | exact ⟨1, rfl, Or.inr rfl, ⟨fun _ => ⟨hall2, c1⟩, fun _ => rfl⟩, rfl⟩ | exact ⟨0, rfl, Or.inl rfl, ⟨fun z => absurd z (by decide), fun z => absurd z.2 c1⟩, rfl⟩)
      · skip
        exact absurd ((nI_leI (by omega) (by omega)).mpr (show ls.length ≤ i by omega)) h_7
    | succ n ih =>
      intro i hn hall
      have hmem : dg M d i ∈ ls := by rw [dH_get hH (show i < ls.length by omega)]; exact List.getElem_mem _
      refine za_iload_n hc dD_keepsLimits_2 rfl ?_
      refine za_aload_n hc dD_keepsLimits_3 rfl ?_
      refine za_getI hc gfD_32 (by assumption) dD_keepsLimits_4 ?_
      rw [hH.1]
      refine za_icmp_ge 63 hc dD_keepsLimits_7 rfl (fun h_7 => ?_) (fun h_7 => ?_)
      · skip
        exact absurd ((nI_leI (by omega) (by omega)).mp h_7) (by omega)
      · skip
        refine za_aload_n hc dD_keepsLimits_10 rfl ?_
        refine za_getS hc gfD_11 (by assumption) dD_keepsLimits_11 ?_
        refine za_iload_n hc dD_keepsLimits_14 rfl ?_
        refine za_lald hc (by assumption) dD_keepsLimits_15 (vp_in_nI (show i < 36 by omega) (by decide)) ?_
        rw [nI_clamp (show i < 2 ^ 31 by omega)]
        refine za_ldc2 hc _ dD_keepsLimits_16 jlD_70 ?_
        refine za_cSN2i hc gsD_72 (cK_exceeds_ l M _ 10000 (by decide)) ⟨rfl, rfl⟩ ⟨Nat.le_of_ble_eq_true rfl, Nat.le_of_ble_eq_true rfl⟩ ⟨Nat.zero_le _, Nat.zero_le _⟩ dD_keepsLimits_19 (fun x_19 M_19 h_19 => ?_)
        obtain ⟨q1_19, hm_19⟩ := h_19
        rw [hm_19]
        rw [show (10000 : Int64).toInt = 10000 from by decide] at q1_19
        refine za_if_ne 55 hc dD_keepsLimits_22 rfl (fun h_22 => ?_) (fun h_22 => ?_)
        · skip
          have hx : ¬ gLim (dg M d i) := fun z => by
            rw [q1_19, if_neg (by have h1 : (zJ M (d + 1) i).toInt.natAbs ≤ 10000 := z.1; omega)] at h_22; exact h_22 rfl
          refine za_iconst hc 0 dD_keepsLimits_55 rfl ?_
          exact za_zret hc rfl (rfl) dD_keepsLimits_56 ⟨Nat.zero_le _, Nat.zero_le _⟩ (⟨0, rfl, Or.inl rfl, ⟨fun z => absurd z (by decide), fun z => absurd (z.1 _ hmem) hx⟩, rfl⟩)
        · skip
          have a1 : (zJ M (d + 1) i).toInt.natAbs ≤ 10000 := by
            by_cases z : (zJ M (d + 1) i).toInt < -10000 ∨ 10000 < (zJ M (d + 1) i).toInt
            · rw [q1_19, if_pos z] at h_22; exact absurd h_22 (by decide)
            · omega
          refine za_aload_n hc dD_keepsLimits_25 rfl ?_
          refine za_getS hc gfD_15 (by assumption) dD_keepsLimits_26 ?_
          refine za_iload_n hc dD_keepsLimits_29 rfl ?_
          refine za_lald hc (by assumption) dD_keepsLimits_30 (vp_in_nI (show i < 36 by omega) (by decide)) ?_
          rw [nI_clamp (show i < 2 ^ 31 by omega)]
          refine za_ldc2 hc _ dD_keepsLimits_31 jlD_70 ?_
          refine za_cSN2i hc gsD_72 (cK_exceeds_ l M _ 10000 (by decide)) ⟨rfl, rfl⟩ ⟨Nat.le_of_ble_eq_true rfl, Nat.le_of_ble_eq_true rfl⟩ ⟨Nat.zero_le _, Nat.zero_le _⟩ dD_keepsLimits_34 (fun x_34 M_34 h_34 => ?_)
          obtain ⟨q1_34, hm_34⟩ := h_34
          rw [hm_34]
          rw [show (10000 : Int64).toInt = 10000 from by decide] at q1_34
          refine za_if_ne 55 hc dD_keepsLimits_37 rfl (fun h_37 => ?_) (fun h_37 => ?_)
          · skip
            have hx : ¬ gLim (dg M d i) := fun z => by
              rw [q1_34, if_neg (by have h1 : (zJ M (d + 2) i).toInt.natAbs ≤ 10000 := z.2.1; omega)] at h_37; exact h_37 rfl
            refine za_iconst hc 0 dD_keepsLimits_55 rfl ?_
            exact za_zret hc rfl (rfl) dD_keepsLimits_56 ⟨Nat.zero_le _, Nat.zero_le _⟩ (⟨0, rfl, Or.inl rfl, ⟨fun z => absurd z (by decide), fun z => absurd (z.1 _ hmem) hx⟩, rfl⟩)
          · skip
            have a2 : (zJ M (d + 2) i).toInt.natAbs ≤ 10000 := by
              by_cases z : (zJ M (d + 2) i).toInt < -10000 ∨ 10000 < (zJ M (d + 2) i).toInt
              · rw [q1_34, if_pos z] at h_37; exact absurd h_37 (by decide)
              · omega
            refine za_aload_n hc dD_keepsLimits_40 rfl ?_
            refine za_getS hc gfD_18 (by assumption) dD_keepsLimits_41 ?_
            refine za_iload_n hc dD_keepsLimits_44 rfl ?_
            refine za_lald hc (by assumption) dD_keepsLimits_45 (vp_in_nI (show i < 36 by omega) (by decide)) ?_
            rw [nI_clamp (show i < 2 ^ 31 by omega)]
            refine za_ldc2 hc _ dD_keepsLimits_46 jlD_70 ?_
            refine za_cSN2i hc gsD_72 (cK_exceeds_ l M _ 10000 (by decide)) ⟨rfl, rfl⟩ ⟨Nat.le_of_ble_eq_true rfl, Nat.le_of_ble_eq_true rfl⟩ ⟨Nat.zero_le _, Nat.zero_le _⟩ dD_keepsLimits_49 (fun x_49 M_49 h_49 => ?_)
            obtain ⟨q1_49, hm_49⟩ := h_49
            rw [hm_49]
            rw [show (10000 : Int64).toInt = 10000 from by decide] at q1_49
            refine za_if_eq 57 hc dD_keepsLimits_52 rfl (fun h_52 => ?_) (fun h_52 => ?_)
            · skip
              have a3 : (zJ M (d + 3) i).toInt.natAbs ≤ 10000 := by
                by_cases z : (zJ M (d + 3) i).toInt < -10000 ∨ 10000 < (zJ M (d + 3) i).toInt
                · rw [q1_49, if_pos z] at h_52; exact absurd h_52 (by decide)
                · omega
              refine za_iinc hc _ dD_keepsLimits_57 rfl ((nI_succ i).symm) (by decide) ?_
              refine za_goto 2 hc dD_keepsLimits_60 rfl ?_
              refine ih (i + 1) (by omega) (fun j hj => ?_)
              by_cases c : j < i
              · exact hall j c
              · obtain rfl : j = i := by omega
                exact ⟨a1, a2, a3⟩
            · skip
              have hx : ¬ gLim (dg M d i) := fun z => by
                rw [q1_49, if_neg (by have h1 : (zJ M (d + 3) i).toInt.natAbs ≤ 10000 := z.2.2; omega)] at h_52; exact h_52 rfl
              refine za_iconst hc 0 dD_keepsLimits_55 rfl ?_
              exact za_zret hc rfl (rfl) dD_keepsLimits_56 ⟨Nat.zero_le _, Nat.zero_le _⟩ (⟨0, rfl, Or.inl rfl, ⟨fun z => absurd z (by decide), fun z => absurd (z.1 _ hmem) hx⟩, rfl⟩)
  refine za_iconst hc 0 dD_keepsLimits_0 rfl ?_
  refine za_istore_n hc dD_keepsLimits_1 (by decide) ?_
  exact loop ls.length 0 (by omega) (fun j hj => absurd hj (Nat.not_lt_zero _))
end
section
/-! A region holds a list of rows. -/
def rg (M : zM) (r j i : Nat) : gC := ((zI M (r + 2) (48 * j + 4 * i)).toInt, (zI M (r + 2) (48 * j + 4 * i + 1)).toInt, (zI M (r + 2) (48 * j + 4 * i + 2)).toInt, zI M (r + 2) (48 * j + 4 * i + 3) == 1)
def rH (M : zM) (r : Nat) (R : List (List gC)) : Prop := zI M r 2 = nI R.length ∧ R.length ≤ 12 ∧ ∀ j row, R[j]? = some row → row.length ≤ 12 ∧ zI M (r + 1) j = nI row.length ∧ (∀ i q, row[i]? = some q → rg M r j i = q) ∧ ∀ q ∈ row, gLim q
def rF (r : Nat) : Nat → Prop := fun k => r ≤ k ∧ k ≤ r + 2
theorem rH_clear {M : zM} {r : Nat} : rH (zsI M r 2 0) r [] := ⟨by rw [zI_s, if_pos rfl]; rfl, by decide, fun j row h => by simp at h⟩
theorem rH_kept {P : Nat → Prop} {M M' : zM} {r : Nat} {R : List (List gC)} (h : rH M r R) (hf : zfr P M M') (h0 : ¬ P r) (h1 : ¬ P (r + 1)) (h2 : ¬ P (r + 2)) : rH M' r R := by
  have e : rg M' r = rg M r := by funext j i; unfold rg; rw [(hf _ h2).1]
  unfold rH
  rw [(hf _ h0).1, (hf _ h1).1, e]
  exact h
theorem zix1 (j : Nat) : nI j * 48 = nI (48 * j) := by rw [show (48 : Int32) = nI 48 from rfl, pk_mul, Nat.mul_comm]
theorem i2l_int (x : Int32) : x.toInt64.toInt = x.toInt := Int32.toInt_toInt64 x
theorem b01 {x : Int32} (h : x = 0 ∨ x = 1) : ((if x = 1 then 1 else 0 : Int32) = x) := by rcases h with h | h <;> rw [h] <;> decide

set_option maxRecDepth 100000 in
set_option maxHeartbeats 4000000 in
theorem cR_isSame_ (l : Launch) {r d j : Nat} {R : List (List gC)} {row ls : List gC} (M : zM) (hr : zrg r) (hd : zdr d) (hR : rH M r R) (hrow : R[j]? = some row) (hH : dH M d ls) : zMet l mR_isSame rR_isSame [.ref r, .int (nI j), .ref d] M (zqi (fun x M' => (x = 0 ∨ x = 1) ∧ (x = 1 ↔ row = ls) ∧ M' = M)) := by
  refine za_enter (by decide) (Nat.le_of_ble_eq_true rfl) (fun X hc => ?_)
  have hro := hr.o
  have hrz := hr.z
  have hrn := hr.n
  have hdo := hd.o
  have hda := hd.a
  have hdb := hd.b
  have hdc := hd.c
  have hds := hd.s
  have hpo := hd.p.o
  obtain ⟨hw1, hw2, hw3, hw4⟩ := hR.2.2 j row hrow
  have hjl : j < 12 := by have := (List.getElem?_eq_some_iff.mp hrow).1; have := hR.2.1; omega
  have hl := hH.2.1
  have loop : ∀ n i, n + i = row.length → row.length = ls.length → (∀ k, k < i → row[k]? = ls[k]?) → zW X (zqi (fun x M' => (x = 0 ∨ x = 1) ∧ (x = 1 ↔ row = ls) ∧ M' = M)) (0, 0) 17 [(0, .ref r), (1, .int (nI j)), (2, .ref d), (3, .int (nI i))] [] M := by
    intro n
    induction n with
    | zero =>
      intro i hn hll hall
      refine za_iload_n hc dR_isSame_17 rfl ?_
      refine za_aload_n hc dR_isSame_18 rfl ?_
      refine za_getS hc gfR_11 (by assumption) dR_isSame_19 ?_
      refine za_iload_n hc dR_isSame_22 rfl ?_
      refine za_iald hc (by assumption) dR_isSame_23 (vp_in_nI hjl (by decide)) ?_
      rw [nI_clamp (show j < 2 ^ 31 by omega), hw2]
      refine za_icmp_ge 97 hc dR_isSame_24 rfl (fun h_24 => ?_) (fun h_24 => ?_)
      · skip
        have hx : row = ls := List.ext_getElem? (fun k => by
          by_cases c : k < i
          · exact hall k c
          · rw [List.getElem?_eq_none (by omega), List.getElem?_eq_none (by omega)])
        refine za_iconst hc 1 dR_isSame_97 rfl ?_
        exact za_zret hc rfl (rfl) dR_isSame_98 ⟨Nat.zero_le _, Nat.zero_le _⟩ (⟨1, rfl, Or.inr rfl, ⟨fun _ => hx, fun _ => rfl⟩, rfl⟩)
      · skip
        exact absurd ((nI_leI (by omega) (by omega)).mpr (show row.length ≤ i by omega)) h_24
    | succ n ih =>
      intro i hn hll hall
      have hri := List.getElem?_eq_getElem (l := row) (show i < row.length by omega)
      have hli := List.getElem?_eq_getElem (l := ls) (show i < ls.length by omega)
      have e1 := hw3 i _ hri
      have e2 := hH.2.2.1 i _ hli
      have hne : (rg M r j i ≠ dg M d i) → ¬ row = ls := fun h1 h2 => by rw [e1, e2] at h1; subst h2; exact h1 rfl
      have hj1 : i < 12 := by omega
      refine za_iload_n hc dR_isSame_17 rfl ?_
      refine za_aload_n hc dR_isSame_18 rfl ?_
      refine za_getS hc gfR_11 (by assumption) dR_isSame_19 ?_
      refine za_iload_n hc dR_isSame_22 rfl ?_
      refine za_iald hc (by assumption) dR_isSame_23 (vp_in_nI hjl (by decide)) ?_
      rw [nI_clamp (show j < 2 ^ 31 by omega), hw2]
      refine za_icmp_ge 97 hc dR_isSame_24 rfl (fun h_24 => ?_) (fun h_24 => ?_)
      · skip
        exact absurd ((nI_leI (by omega) (by omega)).mp h_24) (by omega)
      · skip
        refine za_aload_n hc dR_isSame_27 rfl ?_
        refine za_iload_n hc dR_isSame_28 rfl ?_
        refine za_iload_n hc dR_isSame_29 rfl ?_
        refine za_cV2i hc gsR_56 (by assumption) (cR_x_ l M hr hjl hj1) ⟨rfl, rfl⟩ ⟨Nat.le_of_ble_eq_true rfl, Nat.le_of_ble_eq_true rfl⟩ ⟨Nat.zero_le _, Nat.zero_le _⟩ dR_isSame_30 (fun x_30 M_30 h_30 => ?_)
        obtain ⟨q_30, hm_30⟩ := h_30
        rw [hm_30, q_30]
        refine za_i2l hc dR_isSame_33 ?_
        refine za_aload_n hc dR_isSame_34 rfl ?_
        refine za_iload_n hc dR_isSame_35 rfl ?_
        refine za_cV1l hc gsR_60 (by assumption) (cD_x_ l M hd (show i < 36 by omega)) ⟨rfl, rfl⟩ ⟨Nat.le_of_ble_eq_true rfl, Nat.le_of_ble_eq_true rfl⟩ ⟨Nat.zero_le _, Nat.zero_le _⟩ dR_isSame_36 (fun x_36 M_36 h_36 => ?_)
        obtain ⟨q_36, hm_36⟩ := h_36
        rw [hm_36, q_36]
        refine za_lcmp_ne 89 hc dR_isSame_39 dR_isSame_40 rfl (fun h_39 => ?_) (fun h_39 => ?_)
        · skip
          have hx : ¬ row = ls := hne (fun z => h_39 (Int64.toInt_inj.mp (by rw [i2l_int]; exact congrArg (fun q : gC => q.1) z)))
          refine za_iconst hc 0 dR_isSame_89 rfl ?_
          exact za_zret hc rfl (rfl) dR_isSame_90 ⟨Nat.zero_le _, Nat.zero_le _⟩ (⟨0, rfl, Or.inl rfl, ⟨fun z => absurd z (by decide), fun z => absurd z hx⟩, rfl⟩)
        · skip
          have v1 := congrArg Int64.toInt h_39
          rw [i2l_int] at v1
          refine za_aload_n hc dR_isSame_43 rfl ?_
          refine za_iload_n hc dR_isSame_44 rfl ?_
          refine za_iload_n hc dR_isSame_45 rfl ?_
          refine za_cV2i hc gsR_63 (by assumption) (cR_y_ l M hr hjl hj1) ⟨rfl, rfl⟩ ⟨Nat.le_of_ble_eq_true rfl, Nat.le_of_ble_eq_true rfl⟩ ⟨Nat.zero_le _, Nat.zero_le _⟩ dR_isSame_46 (fun x_46 M_46 h_46 => ?_)
          obtain ⟨q_46, hm_46⟩ := h_46
          rw [hm_46, q_46]
          refine za_i2l hc dR_isSame_49 ?_
          refine za_aload_n hc dR_isSame_50 rfl ?_
          refine za_iload_n hc dR_isSame_51 rfl ?_
          refine za_cV1l hc gsR_66 (by assumption) (cD_y_ l M hd (show i < 36 by omega)) ⟨rfl, rfl⟩ ⟨Nat.le_of_ble_eq_true rfl, Nat.le_of_ble_eq_true rfl⟩ ⟨Nat.zero_le _, Nat.zero_le _⟩ dR_isSame_52 (fun x_52 M_52 h_52 => ?_)
          obtain ⟨q_52, hm_52⟩ := h_52
          rw [hm_52, q_52]
          refine za_lcmp_ne 89 hc dR_isSame_55 dR_isSame_56 rfl (fun h_55 => ?_) (fun h_55 => ?_)
          · skip
            have hx : ¬ row = ls := hne (fun z => h_55 (Int64.toInt_inj.mp (by rw [i2l_int]; exact congrArg (fun q : gC => q.2.1) z)))
            refine za_iconst hc 0 dR_isSame_89 rfl ?_
            exact za_zret hc rfl (rfl) dR_isSame_90 ⟨Nat.zero_le _, Nat.zero_le _⟩ (⟨0, rfl, Or.inl rfl, ⟨fun z => absurd z (by decide), fun z => absurd z hx⟩, rfl⟩)
          · skip
            have v2 := congrArg Int64.toInt h_55
            rw [i2l_int] at v2
            refine za_aload_n hc dR_isSame_59 rfl ?_
            refine za_iload_n hc dR_isSame_60 rfl ?_
            refine za_iload_n hc dR_isSame_61 rfl ?_
            refine za_cV2i hc gsR_68 (by assumption) (cR_bound_ l M hr hjl hj1) ⟨rfl, rfl⟩ ⟨Nat.le_of_ble_eq_true rfl, Nat.le_of_ble_eq_true rfl⟩ ⟨Nat.zero_le _, Nat.zero_le _⟩ dR_isSame_62 (fun x_62 M_62 h_62 => ?_)
            obtain ⟨q_62, hm_62⟩ := h_62
            rw [hm_62, q_62]
            refine za_i2l hc dR_isSame_65 ?_
            refine za_aload_n hc dR_isSame_66 rfl ?_
            refine za_iload_n hc dR_isSame_67 rfl ?_
            refine za_cV1l hc gsR_71 (by assumption) (cD_bound_ l M hd (show i < 36 by omega)) ⟨rfl, rfl⟩ ⟨Nat.le_of_ble_eq_true rfl, Nat.le_of_ble_eq_true rfl⟩ ⟨Nat.zero_le _, Nat.zero_le _⟩ dR_isSame_68 (fun x_68 M_68 h_68 => ?_)
            obtain ⟨q_68, hm_68⟩ := h_68
            rw [hm_68, q_68]
            refine za_lcmp_ne 89 hc dR_isSame_71 dR_isSame_72 rfl (fun h_71 => ?_) (fun h_71 => ?_)
            · skip
              have hx : ¬ row = ls := hne (fun z => h_71 (Int64.toInt_inj.mp (by rw [i2l_int]; exact congrArg (fun q : gC => q.2.2.1) z)))
              refine za_iconst hc 0 dR_isSame_89 rfl ?_
              exact za_zret hc rfl (rfl) dR_isSame_90 ⟨Nat.zero_le _, Nat.zero_le _⟩ (⟨0, rfl, Or.inl rfl, ⟨fun z => absurd z (by decide), fun z => absurd z hx⟩, rfl⟩)
            · skip
              have v3 := congrArg Int64.toInt h_71
              rw [i2l_int] at v3
              refine za_aload_n hc dR_isSame_75 rfl ?_
              refine za_iload_n hc dR_isSame_76 rfl ?_
              refine za_iload_n hc dR_isSame_77 rfl ?_
              refine za_cV2i hc gsR_73 (by assumption) (cR_isStrict_ l M hr hjl hj1) ⟨rfl, rfl⟩ ⟨Nat.le_of_ble_eq_true rfl, Nat.le_of_ble_eq_true rfl⟩ ⟨Nat.zero_le _, Nat.zero_le _⟩ dR_isSame_78 (fun x_78 M_78 h_78 => ?_)
              obtain ⟨q_78, hm_78⟩ := h_78
              rw [hm_78, q_78]
              refine za_aload_n hc dR_isSame_81 rfl ?_
              refine za_iload_n hc dR_isSame_82 rfl ?_
              refine za_cV1i hc gsR_77 (by assumption) (cD_isStrict_ l M hd (show i < 36 by omega) (hH.2.2.2 i)) ⟨rfl, rfl⟩ ⟨Nat.le_of_ble_eq_true rfl, Nat.le_of_ble_eq_true rfl⟩ ⟨Nat.zero_le _, Nat.zero_le _⟩ dR_isSame_83 (fun x_83 M_83 h_83 => ?_)
              obtain ⟨q_83, hm_83⟩ := h_83
              rw [hm_83, q_83]
              refine za_icmp_eq 91 hc dR_isSame_86 rfl (fun h_86 => ?_) (fun h_86 => ?_)
              · skip
                have v4 : (zI M (r + 2) (48 * j + 4 * i + 3) == 1) = (zI M (d + 4) i == 1) := by rw [← h_86]; split <;> rename_i z <;> simp [z]
                refine za_iinc hc _ dR_isSame_91 rfl ((nI_succ i).symm) (by decide) ?_
                refine za_goto 17 hc dR_isSame_94 rfl ?_
                refine ih (i + 1) (by omega) hll (fun k hk => ?_)
                by_cases c : k < i
                · exact hall k c
                · obtain rfl : k = i := by omega
                  rw [hri, hli, ← e1, ← e2]
                  unfold rg dg
                  rw [v1, v2, v3, v4]
              · skip
                have hx : ¬ row = ls := hne (fun z => h_86 (by
                  have z4 : (zI M (r + 2) (48 * j + 4 * i + 3) == 1) = (zI M (d + 4) i == 1) := congrArg (fun q : gC => q.2.2.2) z
                  rcases hH.2.2.2 i with z5 | z5 <;> rw [z5] at z4 ⊢
                  · rw [if_neg (fun z6 => by rw [z6] at z4; cases z4)]
                  · rw [if_pos (by simpa using z4)]))
                refine za_iconst hc 0 dR_isSame_89 rfl ?_
                exact za_zret hc rfl (rfl) dR_isSame_90 ⟨Nat.zero_le _, Nat.zero_le _⟩ (⟨0, rfl, Or.inl rfl, ⟨fun z => absurd z (by decide), fun z => absurd z hx⟩, rfl⟩)
  refine za_aload_n hc dR_isSame_0 rfl ?_
  refine za_getS hc gfR_11 (by assumption) dR_isSame_1 ?_
  refine za_iload_n hc dR_isSame_4 rfl ?_
  refine za_iald hc (by assumption) dR_isSame_5 (vp_in_nI hjl (by decide)) ?_
  rw [nI_clamp (show j < 2 ^ 31 by omega), hw2]
  refine za_aload_n hc dR_isSame_6 rfl ?_
  refine za_cV0i hc gsR_52 (by assumption) (cD_memberCount_ l M hd) ⟨rfl, rfl⟩ ⟨Nat.le_of_ble_eq_true rfl, Nat.le_of_ble_eq_true rfl⟩ ⟨Nat.zero_le _, Nat.zero_le _⟩ dR_isSame_7 (fun x_7 M_7 h_7 => ?_)
  obtain ⟨q_7, hm_7⟩ := h_7
  rw [hm_7, q_7, hH.1]
  refine za_icmp_eq 15 hc dR_isSame_10 rfl (fun h_10 => ?_) (fun h_10 => ?_)
  · skip
    have hll : row.length = ls.length := (nI_eq (by omega) (by omega)).mp h_10
    refine za_iconst hc 0 dR_isSame_15 rfl ?_
    refine za_istore_n hc dR_isSame_16 (by decide) ?_
    exact loop row.length 0 (by omega) hll (fun k hk => absurd hk (Nat.not_lt_zero _))
  · skip
    have hx : ¬ row = ls := fun z => h_10 (by rw [z])
    refine za_iconst hc 0 dR_isSame_13 rfl ?_
    exact za_zret hc rfl (rfl) dR_isSame_14 ⟨Nat.zero_le _, Nat.zero_le _⟩ (⟨0, rfl, Or.inl rfl, ⟨fun z => absurd z (by decide), fun z => absurd z hx⟩, rfl⟩)

set_option maxRecDepth 100000 in
set_option maxHeartbeats 4000000 in
theorem cR_contains_ (l : Launch) {r d : Nat} {R : List (List gC)} {ls : List gC} (M : zM) (hr : zrg r) (hd : zdr d) (hR : rH M r R) (hH : dH M d ls) : zMet l mR_contains rR_contains [.ref r, .ref d] M (zqi (fun x M' => (x = 0 ∨ x = 1) ∧ (x = 1 ↔ ls ∈ R) ∧ M' = M)) := by
  refine za_enter (by decide) (Nat.le_of_ble_eq_true rfl) (fun X hc => ?_)
  have hro := hr.o
  have hrz := hr.z
  have hrn := hr.n
  have hdo := hd.o
  have hda := hd.a
  have hdb := hd.b
  have hdc := hd.c
  have hds := hd.s
  have hpo := hd.p.o
  have hl := hR.2.1
  have loop : ∀ n i, n + i = R.length → (∀ k, k < i → R[k]? ≠ some ls) → zW X (zqi (fun x M' => (x = 0 ∨ x = 1) ∧ (x = 1 ↔ ls ∈ R) ∧ M' = M)) (0, 0) 2 [(0, .ref r), (1, .ref d), (2, .int (nI i))] [] M := by
    intro n
    induction n with
    | zero =>
      intro i hn hall
      refine za_iload_n hc dR_contains_2 rfl ?_
      refine za_aload_n hc dR_contains_3 rfl ?_
      refine za_getI hc gfR_18 (by assumption) dR_contains_4 ?_
      rw [hR.1]
      refine za_icmp_ge 27 hc dR_contains_7 rfl (fun h_7 => ?_) (fun h_7 => ?_)
      · skip
        have hx : ¬ ls ∈ R := fun z => by
          obtain ⟨k, hk⟩ := List.getElem?_of_mem z
          exact hall k (by have := (List.getElem?_eq_some_iff.mp hk).1; omega) hk
        refine za_iconst hc 0 dR_contains_27 rfl ?_
        exact za_zret hc rfl (rfl) dR_contains_28 ⟨Nat.zero_le _, Nat.zero_le _⟩ (⟨0, rfl, Or.inl rfl, ⟨fun z => absurd z (by decide), fun z => absurd z hx⟩, rfl⟩)
      · skip
        exact absurd ((nI_leI (by omega) (by omega)).mpr (show R.length ≤ i by omega)) h_7
    | succ n ih =>
      intro i hn hall
      have hri := List.getElem?_eq_getElem (l := R) (show i < R.length by omega)
      refine za_iload_n hc dR_contains_2 rfl ?_
      refine za_aload_n hc dR_contains_3 rfl ?_
      refine za_getI hc gfR_18 (by assumption) dR_contains_4 ?_
      rw [hR.1]
      refine za_icmp_ge 27 hc dR_contains_7 rfl (fun h_7 => ?_) (fun h_7 => ?_)
      · skip
        exact absurd ((nI_leI (by omega) (by omega)).mp h_7) (by omega)
      · skip
        refine za_aload_n hc dR_contains_10 rfl ?_
        refine za_iload_n hc dR_contains_11 rfl ?_
        refine za_aload_n hc dR_contains_12 rfl ?_
        refine za_cV2i hc gsR_48 (by assumption) (cR_isSame_ l M hr hd hR hri hH) ⟨rfl, rfl⟩ ⟨Nat.le_of_ble_eq_true rfl, Nat.le_of_ble_eq_true rfl⟩ ⟨Nat.zero_le _, Nat.zero_le _⟩ dR_contains_13 (fun x_13 M_13 h_13 => ?_)
        obtain ⟨q1, q2, hm_13⟩ := h_13
        rw [hm_13]
        refine za_if_eq 21 hc dR_contains_16 rfl (fun h_16 => ?_) (fun h_16 => ?_)
        · skip
          refine za_iinc hc _ dR_contains_21 rfl ((nI_succ i).symm) (by decide) ?_
          refine za_goto 2 hc dR_contains_24 rfl ?_
          refine ih (i + 1) (by omega) (fun k hk => ?_)
          by_cases c : k < i
          · exact hall k c
          · obtain rfl : k = i := by omega
            rw [hri]
            intro z
            have := q2.mpr (Option.some.inj z)
            rw [h_16] at this; exact absurd this (by decide)
        · skip
          have hx : ls ∈ R := by rw [← q2.mp (q1.resolve_left h_16)]; exact List.getElem_mem _
          refine za_iconst hc 1 dR_contains_19 rfl ?_
          exact za_zret hc rfl (rfl) dR_contains_20 ⟨Nat.zero_le _, Nat.zero_le _⟩ (⟨1, rfl, Or.inr rfl, ⟨fun _ => hx, fun _ => rfl⟩, rfl⟩)
  refine za_iconst hc 0 dR_contains_0 rfl ?_
  refine za_istore_n hc dR_contains_1 (by decide) ?_
  exact loop R.length 0 (by omega) (fun k hk => absurd hk (Nat.not_lt_zero _))
end
section
/-! Rows come into a region. -/
theorem zdr_rg {d r : Nat} (hd : zdr d) (hr : zrg r) {a b : Nat} (ha : a ≤ 8) (hb : b ≤ 2) : d + a ≠ r + b := by
  intro e
  have h : zlay (d + a) = zlay (r + b) := by rw [e]
  obtain ⟨-, d0, d1, d2, d3, d4, d5, d6, d7, d8⟩ := hd
  obtain ⟨-, r0, r1, r2⟩ := hr
  rcases (show a = 0 ∨ a = 1 ∨ a = 2 ∨ a = 3 ∨ a = 4 ∨ a = 5 ∨ a = 6 ∨ a = 7 ∨ a = 8 by omega) with rfl | rfl | rfl | rfl | rfl | rfl | rfl | rfl | rfl <;> rcases (show b = 0 ∨ b = 1 ∨ b = 2 by omega) with rfl | rfl | rfl <;> first
    | exact absurd ((d0.symm.trans h).trans r0) (by decide) | exact absurd ((d0.symm.trans h).trans r1) (by decide) | exact absurd ((d0.symm.trans h).trans r2) (by decide)
    | exact absurd ((d1.symm.trans h).trans r0) (by decide) | exact absurd ((d1.symm.trans h).trans r1) (by decide) | exact absurd ((d1.symm.trans h).trans r2) (by decide)
    | exact absurd ((d2.symm.trans h).trans r0) (by decide) | exact absurd ((d2.symm.trans h).trans r1) (by decide) | exact absurd ((d2.symm.trans h).trans r2) (by decide)
    | exact absurd ((d3.symm.trans h).trans r0) (by decide) | exact absurd ((d3.symm.trans h).trans r1) (by decide) | exact absurd ((d3.symm.trans h).trans r2) (by decide)
    | exact absurd ((d4.symm.trans h).trans r0) (by decide) | exact absurd ((d4.symm.trans h).trans r1) (by decide) | exact absurd ((d4.symm.trans h).trans r2) (by decide)
    | exact absurd ((d5.symm.trans h).trans r0) (by decide) | exact absurd ((d5.symm.trans h).trans r1) (by decide) | exact absurd ((d5.symm.trans h).trans r2) (by decide)
    | exact absurd ((d6.symm.trans h).trans r0) (by decide) | exact absurd ((d6.symm.trans h).trans r1) (by decide) | exact absurd ((d6.symm.trans h).trans r2) (by decide)
    | exact absurd ((d7.symm.trans h).trans r0) (by decide) | exact absurd ((d7.symm.trans h).trans r1) (by decide) | exact absurd ((d7.symm.trans h).trans r2) (by decide)
    | exact absurd ((d8.symm.trans h).trans r0) (by decide) | exact absurd ((d8.symm.trans h).trans r1) (by decide) | exact absurd ((d8.symm.trans h).trans r2) (by decide)
theorem zrg_rg {q r : Nat} (hq : zrg q) (hr : zrg r) (hne : q ≠ r) {a b : Nat} (ha : a ≤ 2) (hb : b ≤ 2) : q + a ≠ r + b := by
  intro e
  have h : zlay (q + a) = zlay (r + b) := by rw [e]
  obtain ⟨-, d0, d1, d2⟩ := hq
  obtain ⟨-, r0, r1, r2⟩ := hr
  rcases (show a = 0 ∨ a = 1 ∨ a = 2 by omega) with rfl | rfl | rfl <;> rcases (show b = 0 ∨ b = 1 ∨ b = 2 by omega) with rfl | rfl | rfl <;> first
    | (exfalso; exact hne (by omega))
    | exact absurd ((d0.symm.trans h).trans r1) (by decide) | exact absurd ((d0.symm.trans h).trans r2) (by decide)
    | exact absurd ((d1.symm.trans h).trans r0) (by decide) | exact absurd ((d1.symm.trans h).trans r2) (by decide)
    | exact absurd ((d2.symm.trans h).trans r0) (by decide) | exact absurd ((d2.symm.trans h).trans r1) (by decide)
theorem dF_rg {d r : Nat} (hd : zdr d) (hr : zrg r) {b : Nat} (hb : b ≤ 2) : ¬ dF d (r + b) := fun z => zdr_rg hd hr (a := r + b - d) (b := b) (by have := z.2; have := z.1; omega) hb (by have := z.1; omega)
theorem rF_dr {d r : Nat} (hd : zdr d) (hr : zrg r) {a : Nat} (ha : a ≤ 8) : ¬ rF r (d + a) := fun z => zdr_rg hd hr (a := a) (b := d + a - r) ha (by have := z.2; have := z.1; omega) (by have := z.1; omega)
theorem rF_rg {q r : Nat} (hq : zrg q) (hr : zrg r) (hne : q ≠ r) {a : Nat} (ha : a ≤ 2) : ¬ rF r (q + a) := fun z => zrg_rg hq hr hne (a := a) (b := q + a - r) ha (by have := z.2; have := z.1; omega) (by have := z.1; omega)
theorem l2i_int {x : Int64} (h : x.toInt.natAbs ≤ 10000) : x.toInt32.toInt = x.toInt := by
  rw [Int64.toInt_toInt32, i_bm (by omega) (by omega)]

set_option maxRecDepth 100000 in
set_option maxHeartbeats 4000000 in
theorem cR_append_ (l : Launch) {r d : Nat} {R : List (List gC)} {ls : List gC} (M : zM) (hr : zrg r) (hd : zdr d) (hR : rH M r R) (hH : dH M d ls) (hlt : R.length < 12) (hl12 : ls.length ≤ 12) (hlim : ∀ q ∈ ls, gLim q) : zMet l mR_append rR_append [.ref r, .ref d] M (zqv (fun M' => rH M' r (R ++ [ls]) ∧ zfr (rF r) M M')) := by
  refine za_enter (by decide) (Nat.le_of_ble_eq_true rfl) (fun X hc => ?_)
  have hro := hr.o
  have hrz := hr.z
  have hrn := hr.n
  have hdo := hd.o
  have hda := hd.a
  have hdb := hd.b
  have hdc := hd.c
  have hds := hd.s
  have hpo := hd.p.o
  have hl := hH.2.1
  have hrl := hR.2.1
  have loop : ∀ n i (M1 : zM), n + i = ls.length → zfr (rF r) M M1 → zI M1 r = zI M r → zI M1 (r + 1) R.length = nI ls.length → (∀ k, k ≠ R.length → zI M1 (r + 1) k = zI M (r + 1) k) → (∀ x, x < 48 * R.length → zI M1 (r + 2) x = zI M (r + 2) x) → (∀ k q, k < i → ls[k]? = some q → rg M1 r R.length k = q) → zW X (zqv (fun M' => rH M' r (R ++ [ls]) ∧ zfr (rF r) M M')) (0, 0) 15 [(0, .ref r), (1, .ref d), (2, .int (nI i))] [] M1 := by
    intro n
    induction n with
    | zero =>
      intro i M1 hn hf h0 hz hzo hx hq
      refine za_iload_n hc dR_append_15 rfl ?_
      refine za_aload_n hc dR_append_16 rfl ?_
      refine za_getS hc gfR_11 (by assumption) dR_append_17 ?_
      refine za_aload_n hc dR_append_20 rfl ?_
      refine za_getI hc gfR_18 (by assumption) dR_append_21 ?_
      rw [h0, hR.1]
      refine za_iald hc (by assumption) dR_append_24 (vp_in_nI (show R.length < 12 by omega) (by decide)) ?_
      rw [nI_clamp (show R.length < 2 ^ 31 by omega), hz]
      refine za_icmp_ge 107 hc dR_append_25 rfl (fun h_25 => ?_) (fun h_25 => ?_)
      · skip
        refine za_aload_n hc dR_append_107 rfl ?_
        refine za_dup hc dR_append_108 rfl ?_
        refine za_getI hc gfR_18 (by assumption) dR_append_109 ?_
        refine za_iconst hc 1 dR_append_112 rfl ?_
        refine za_iadd hc dR_append_113 ?_
        rw [h0, hR.1, show nI R.length + (1 : Int32) = nI (R.length + 1) from (nI_succ _).symm]
        refine za_putI hc gpR_18 (by assumption) dR_append_114 ?_
        refine za_vret hc rfl dR_append_117 ⟨Nat.zero_le _, Nat.zero_le _⟩ ?_
        refine ⟨rfl, ⟨?_, ?_, ?_⟩, hf.tr (zfr_sI ⟨Nat.le_refl _, by omega⟩)⟩
        · rw [zI_s, if_pos rfl, List.length_append]; rfl
        · rw [List.length_append]; simp only [List.length_cons, List.length_nil]; omega
        · intro j row hrow
          rw [zI_o (show ¬ r + 1 = r by omega)]
          have hrg : rg (zsI M1 r 2 (nI (R.length + 1))) r = rg M1 r := by funext a b; unfold rg; rw [zI_o (show ¬ r + 2 = r by omega)]
          rw [hrg]
          by_cases c : j < R.length
          · rw [List.getElem?_append_left c] at hrow
            obtain ⟨w1, w2, w3, w4⟩ := hR.2.2 j row hrow
            refine ⟨w1, by rw [hzo j (by omega)]; exact w2, fun i q hi => ?_, w4⟩
            have := (List.getElem?_eq_some_iff.mp hi).1
            rw [← w3 i q hi]
            unfold rg
            rw [hx _ (by omega), hx _ (by omega), hx _ (by omega), hx _ (by omega)]
          · have hj : j = R.length := by have := (List.getElem?_eq_some_iff.mp hrow).1; simp only [List.length_append, List.length_cons, List.length_nil] at this; omega
            subst hj
            rw [List.getElem?_append_right (Nat.le_refl _), Nat.sub_self] at hrow
            have : ls = row := by simpa using hrow
            subst this
            exact ⟨hl12, hz, fun i q hi => hq i q (by have := (List.getElem?_eq_some_iff.mp hi).1; omega) hi, hlim⟩
      · skip
        exact absurd ((nI_leI (by omega) (by omega)).mpr (show ls.length ≤ i by omega)) h_25
    | succ n ih =>
      intro i M1 hn hf h0 hz hzo hx hq
      have hli := List.getElem?_eq_getElem (l := ls) (show i < ls.length by omega)
      have hmem := List.getElem_mem (l := ls) (show i < ls.length by omega)
      have hlm := hlim _ hmem
      have hdgi := hH.2.2.1 i _ hli
      rw [← hdgi] at hlm
      have ka : zJ M1 (d + 1) = zJ M (d + 1) := (hf _ (rF_dr hd hr (by decide))).2.1
      have kb : zJ M1 (d + 2) = zJ M (d + 2) := (hf _ (rF_dr hd hr (by decide))).2.1
      have kc : zJ M1 (d + 3) = zJ M (d + 3) := (hf _ (rF_dr hd hr (by decide))).2.1
      have ks : zI M1 (d + 4) = zI M (d + 4) := (hf _ (rF_dr hd hr (by decide))).1
      have hne4 : ¬ d + 4 = r + 2 := zdr_rg hd hr (by decide) (by decide)
      refine za_iload_n hc dR_append_15 rfl ?_
      refine za_aload_n hc dR_append_16 rfl ?_
      refine za_getS hc gfR_11 (by assumption) dR_append_17 ?_
      refine za_aload_n hc dR_append_20 rfl ?_
      refine za_getI hc gfR_18 (by assumption) dR_append_21 ?_
      rw [h0, hR.1]
      refine za_iald hc (by assumption) dR_append_24 (vp_in_nI (show R.length < 12 by omega) (by decide)) ?_
      rw [nI_clamp (show R.length < 2 ^ 31 by omega), hz]
      refine za_icmp_ge 107 hc dR_append_25 rfl (fun h_25 => ?_) (fun h_25 => ?_)
      · skip
        exact absurd ((nI_leI (by omega) (by omega)).mp h_25) (by omega)
      · skip
        refine za_aload_n hc dR_append_28 rfl ?_
        refine za_getI hc gfR_18 (by assumption) dR_append_29 ?_
        refine za_bipush hc 48 dR_append_32 rfl ?_
        refine za_imul hc dR_append_34 ?_
        refine za_iload_n hc dR_append_35 rfl ?_
        refine za_iconst hc 4 dR_append_36 rfl ?_
        refine za_imul hc dR_append_37 ?_
        refine za_iadd hc dR_append_38 ?_
        rw [h0, hR.1, zix0]
        refine za_istore_n hc dR_append_39 (by decide) ?_
        refine za_aload_n hc dR_append_40 rfl ?_
        refine za_getS hc gfR_15 (by assumption) dR_append_41 ?_
        refine za_iload_n hc dR_append_44 rfl ?_
        refine za_aload_n hc dR_append_45 rfl ?_
        refine za_iload_n hc dR_append_46 rfl ?_
        refine za_cV1l hc gsR_60 (by assumption) (cD_x_ l M1 hd (show i < 36 by omega)) ⟨rfl, rfl⟩ ⟨Nat.le_of_ble_eq_true rfl, Nat.le_of_ble_eq_true rfl⟩ ⟨Nat.zero_le _, Nat.zero_le _⟩ dR_append_47 (fun x_47 M_47 h_47 => ?_)
        obtain ⟨q_47, hm_47⟩ := h_47
        rw [hm_47, q_47, ka]
        refine za_l2i hc dR_append_50 ?_
        refine za_iast hc (by assumption) dR_append_51 (vp_in_nI (show 48 * R.length + 4 * i < 576 by omega) (by decide)) ?_
        rw [nI_clamp (show 48 * R.length + 4 * i < 2 ^ 31 by omega)]
        refine za_aload_n hc dR_append_52 rfl ?_
        refine za_getS hc gfR_15 (by assumption) dR_append_53 ?_
        refine za_iload_n hc dR_append_56 rfl ?_
        refine za_iconst hc 1 dR_append_57 rfl ?_
        refine za_iadd hc dR_append_58 ?_
        refine za_aload_n hc dR_append_59 rfl ?_
        refine za_iload_n hc dR_append_60 rfl ?_
        refine za_cV1l hc gsR_66 (by assumption) (cD_y_ l _ hd (show i < 36 by omega)) ⟨rfl, rfl⟩ ⟨Nat.le_of_ble_eq_true rfl, Nat.le_of_ble_eq_true rfl⟩ ⟨Nat.zero_le _, Nat.zero_le _⟩ dR_append_61 (fun x_61 M_61 h_61 => ?_)
        obtain ⟨q_61, hm_61⟩ := h_61
        rw [hm_61, q_61, zJ_sI, kb]
        refine za_l2i hc dR_append_64 ?_
        refine za_iast hc (by assumption) dR_append_65 (by rw [show nI (48 * R.length + 4 * i) + (1 : Int32) = nI (48 * R.length + 4 * i + 1) from nI_add _ 1]; exact vp_in_nI (show 48 * R.length + 4 * i + 1 < 576 by omega) (by decide)) ?_
        rw [show nI (48 * R.length + 4 * i) + (1 : Int32) = nI (48 * R.length + 4 * i + 1) from nI_add _ 1, nI_clamp (show 48 * R.length + 4 * i + 1 < 2 ^ 31 by omega)]
        refine za_aload_n hc dR_append_66 rfl ?_
        refine za_getS hc gfR_15 (by assumption) dR_append_67 ?_
        refine za_iload_n hc dR_append_70 rfl ?_
        refine za_iconst hc 2 dR_append_71 rfl ?_
        refine za_iadd hc dR_append_72 ?_
        refine za_aload_n hc dR_append_73 rfl ?_
        refine za_iload_n hc dR_append_74 rfl ?_
        refine za_cV1l hc gsR_71 (by assumption) (cD_bound_ l _ hd (show i < 36 by omega)) ⟨rfl, rfl⟩ ⟨Nat.le_of_ble_eq_true rfl, Nat.le_of_ble_eq_true rfl⟩ ⟨Nat.zero_le _, Nat.zero_le _⟩ dR_append_75 (fun x_75 M_75 h_75 => ?_)
        obtain ⟨q_75, hm_75⟩ := h_75
        rw [hm_75, q_75, zJ_sI, zJ_sI, kc]
        refine za_l2i hc dR_append_78 ?_
        refine za_iast hc (by assumption) dR_append_79 (by rw [show nI (48 * R.length + 4 * i) + (2 : Int32) = nI (48 * R.length + 4 * i + 2) from nI_add _ 2]; exact vp_in_nI (show 48 * R.length + 4 * i + 2 < 576 by omega) (by decide)) ?_
        rw [show nI (48 * R.length + 4 * i) + (2 : Int32) = nI (48 * R.length + 4 * i + 2) from nI_add _ 2, nI_clamp (show 48 * R.length + 4 * i + 2 < 2 ^ 31 by omega)]
        refine za_aload_n hc dR_append_80 rfl ?_
        refine za_getS hc gfR_15 (by assumption) dR_append_81 ?_
        refine za_iload_n hc dR_append_84 rfl ?_
        refine za_iconst hc 3 dR_append_85 rfl ?_
        refine za_iadd hc dR_append_86 ?_
        refine za_aload_n hc dR_append_87 rfl ?_
        refine za_iload_n hc dR_append_88 rfl ?_
        refine za_cV1i hc gsR_77 (by assumption) (cD_isStrict_ l _ hd (show i < 36 by omega) (by rw [zI_o hne4, zI_o hne4, zI_o hne4, ks]; exact hH.2.2.2 i)) ⟨rfl, rfl⟩ ⟨Nat.le_of_ble_eq_true rfl, Nat.le_of_ble_eq_true rfl⟩ ⟨Nat.zero_le _, Nat.zero_le _⟩ dR_append_89 (fun x_89 M_89 h_89 => ?_)
        obtain ⟨q_89, hm_89⟩ := h_89
        rw [hm_89, q_89, zI_o hne4, zI_o hne4, zI_o hne4, ks]
        refine za_if_eq 99 hc dR_append_92 rfl (fun h_92 => ?_) (fun h_92 => ?_)
        · skip
          refine za_iconst hc 0 dR_append_99 rfl ?_
          refine za_iast hc (by assumption) dR_append_100 (by rw [show nI (48 * R.length + 4 * i) + (3 : Int32) = nI (48 * R.length + 4 * i + 3) from nI_add _ 3]; exact vp_in_nI (show 48 * R.length + 4 * i + 3 < 576 by omega) (by decide)) ?_
          rw [show nI (48 * R.length + 4 * i) + (3 : Int32) = nI (48 * R.length + 4 * i + 3) from nI_add _ 3, nI_clamp (show 48 * R.length + 4 * i + 3 < 2 ^ 31 by omega)]
          refine za_iinc hc _ dR_append_101 rfl ((nI_succ i).symm) (by decide) ?_
          refine za_goto 15 hc dR_append_104 rfl ?_
          refine za_take 3 ?_
          refine ih (i + 1) (zsI (zsI (zsI (zsI M1 (r + 2) (48 * R.length + 4 * i) (zJ M (d + 1) i).toInt32) (r + 2) (48 * R.length + 4 * i + 1) (zJ M (d + 2) i).toInt32) (r + 2) (48 * R.length + 4 * i + 2) (zJ M (d + 3) i).toInt32) (r + 2) (48 * R.length + 4 * i + 3) 0) (by omega) (hf.tr ((zfr_sI ⟨by omega, by omega⟩).tr ((zfr_sI ⟨by omega, by omega⟩).tr ((zfr_sI ⟨by omega, by omega⟩).tr (zfr_sI ⟨by omega, by omega⟩))))) ?_ ?_ ?_ ?_ ?_
          · rw [zI_o (by omega), zI_o (by omega), zI_o (by omega), zI_o (by omega)]; exact h0
          · rw [zI_o (by omega), zI_o (by omega), zI_o (by omega), zI_o (by omega)]; exact hz
          · rw [zI_o (by omega), zI_o (by omega), zI_o (by omega), zI_o (by omega)]; exact hzo
          · intro x hx2
            rw [zI_s, if_neg (by omega), zI_s, if_neg (by omega), zI_s, if_neg (by omega), zI_s, if_neg (by omega)]; exact hx x hx2
          · intro k q hk hkq
            by_cases c : k = i
            · subst c
              rw [hli] at hkq
              rw [← Option.some.inj hkq, ← hdgi]
              unfold rg dg
              have g1 : zI (zsI (zsI (zsI (zsI M1 (r + 2) (48 * R.length + 4 * k) (zJ M (d + 1) k).toInt32) (r + 2) (48 * R.length + 4 * k + 1) (zJ M (d + 2) k).toInt32) (r + 2) (48 * R.length + 4 * k + 2) (zJ M (d + 3) k).toInt32) (r + 2) (48 * R.length + 4 * k + 3) 0) (r + 2) (48 * R.length + 4 * k) = (zJ M (d + 1) k).toInt32 := by rw [zI_s, if_neg (by omega), zI_s, if_neg (by omega), zI_s, if_neg (by omega), zI_s, if_pos rfl]
              have g2 : zI (zsI (zsI (zsI (zsI M1 (r + 2) (48 * R.length + 4 * k) (zJ M (d + 1) k).toInt32) (r + 2) (48 * R.length + 4 * k + 1) (zJ M (d + 2) k).toInt32) (r + 2) (48 * R.length + 4 * k + 2) (zJ M (d + 3) k).toInt32) (r + 2) (48 * R.length + 4 * k + 3) 0) (r + 2) (48 * R.length + 4 * k + 1) = (zJ M (d + 2) k).toInt32 := by rw [zI_s, if_neg (by omega), zI_s, if_neg (by omega), zI_s, if_pos rfl]
              have g3 : zI (zsI (zsI (zsI (zsI M1 (r + 2) (48 * R.length + 4 * k) (zJ M (d + 1) k).toInt32) (r + 2) (48 * R.length + 4 * k + 1) (zJ M (d + 2) k).toInt32) (r + 2) (48 * R.length + 4 * k + 2) (zJ M (d + 3) k).toInt32) (r + 2) (48 * R.length + 4 * k + 3) 0) (r + 2) (48 * R.length + 4 * k + 2) = (zJ M (d + 3) k).toInt32 := by rw [zI_s, if_neg (by omega), zI_s, if_pos rfl]
              have g4 : zI (zsI (zsI (zsI (zsI M1 (r + 2) (48 * R.length + 4 * k) (zJ M (d + 1) k).toInt32) (r + 2) (48 * R.length + 4 * k + 1) (zJ M (d + 2) k).toInt32) (r + 2) (48 * R.length + 4 * k + 2) (zJ M (d + 3) k).toInt32) (r + 2) (48 * R.length + 4 * k + 3) 0) (r + 2) (48 * R.length + 4 * k + 3) = 0 := by rw [zI_s, if_pos rfl]
              rw [g1, g2, g3, g4, l2i_int hlm.1, l2i_int hlm.2.1, l2i_int hlm.2.2, h_92]
            · have hk2 := hq k q (by omega) hkq
              unfold rg at hk2 ⊢
              rw [zI_s, if_neg (by omega), zI_s, if_neg (by omega), zI_s, if_neg (by omega), zI_s, if_neg (by omega)]
              rw [zI_s, if_neg (by omega), zI_s, if_neg (by omega), zI_s, if_neg (by omega), zI_s, if_neg (by omega)]
              rw [zI_s, if_neg (by omega), zI_s, if_neg (by omega), zI_s, if_neg (by omega), zI_s, if_neg (by omega)]
              rw [zI_s, if_neg (by omega), zI_s, if_neg (by omega), zI_s, if_neg (by omega), zI_s, if_neg (by omega)]
              exact hk2
        · skip
          refine za_iconst hc 1 dR_append_95 rfl ?_
          refine za_goto 100 hc dR_append_96 rfl ?_
          refine za_iast hc (by assumption) dR_append_100 (by rw [show nI (48 * R.length + 4 * i) + (3 : Int32) = nI (48 * R.length + 4 * i + 3) from nI_add _ 3]; exact vp_in_nI (show 48 * R.length + 4 * i + 3 < 576 by omega) (by decide)) ?_
          rw [show nI (48 * R.length + 4 * i) + (3 : Int32) = nI (48 * R.length + 4 * i + 3) from nI_add _ 3, nI_clamp (show 48 * R.length + 4 * i + 3 < 2 ^ 31 by omega)]
          refine za_iinc hc _ dR_append_101 rfl ((nI_succ i).symm) (by decide) ?_
          refine za_goto 15 hc dR_append_104 rfl ?_
          refine za_take 3 ?_
          refine ih (i + 1) (zsI (zsI (zsI (zsI M1 (r + 2) (48 * R.length + 4 * i) (zJ M (d + 1) i).toInt32) (r + 2) (48 * R.length + 4 * i + 1) (zJ M (d + 2) i).toInt32) (r + 2) (48 * R.length + 4 * i + 2) (zJ M (d + 3) i).toInt32) (r + 2) (48 * R.length + 4 * i + 3) 1) (by omega) (hf.tr ((zfr_sI ⟨by omega, by omega⟩).tr ((zfr_sI ⟨by omega, by omega⟩).tr ((zfr_sI ⟨by omega, by omega⟩).tr (zfr_sI ⟨by omega, by omega⟩))))) ?_ ?_ ?_ ?_ ?_
          · rw [zI_o (by omega), zI_o (by omega), zI_o (by omega), zI_o (by omega)]; exact h0
          · rw [zI_o (by omega), zI_o (by omega), zI_o (by omega), zI_o (by omega)]; exact hz
          · rw [zI_o (by omega), zI_o (by omega), zI_o (by omega), zI_o (by omega)]; exact hzo
          · intro x hx2
            rw [zI_s, if_neg (by omega), zI_s, if_neg (by omega), zI_s, if_neg (by omega), zI_s, if_neg (by omega)]; exact hx x hx2
          · intro k q hk hkq
            by_cases c : k = i
            · subst c
              rw [hli] at hkq
              rw [← Option.some.inj hkq, ← hdgi]
              unfold rg dg
              have g1 : zI (zsI (zsI (zsI (zsI M1 (r + 2) (48 * R.length + 4 * k) (zJ M (d + 1) k).toInt32) (r + 2) (48 * R.length + 4 * k + 1) (zJ M (d + 2) k).toInt32) (r + 2) (48 * R.length + 4 * k + 2) (zJ M (d + 3) k).toInt32) (r + 2) (48 * R.length + 4 * k + 3) 1) (r + 2) (48 * R.length + 4 * k) = (zJ M (d + 1) k).toInt32 := by rw [zI_s, if_neg (by omega), zI_s, if_neg (by omega), zI_s, if_neg (by omega), zI_s, if_pos rfl]
              have g2 : zI (zsI (zsI (zsI (zsI M1 (r + 2) (48 * R.length + 4 * k) (zJ M (d + 1) k).toInt32) (r + 2) (48 * R.length + 4 * k + 1) (zJ M (d + 2) k).toInt32) (r + 2) (48 * R.length + 4 * k + 2) (zJ M (d + 3) k).toInt32) (r + 2) (48 * R.length + 4 * k + 3) 1) (r + 2) (48 * R.length + 4 * k + 1) = (zJ M (d + 2) k).toInt32 := by rw [zI_s, if_neg (by omega), zI_s, if_neg (by omega), zI_s, if_pos rfl]
              have g3 : zI (zsI (zsI (zsI (zsI M1 (r + 2) (48 * R.length + 4 * k) (zJ M (d + 1) k).toInt32) (r + 2) (48 * R.length + 4 * k + 1) (zJ M (d + 2) k).toInt32) (r + 2) (48 * R.length + 4 * k + 2) (zJ M (d + 3) k).toInt32) (r + 2) (48 * R.length + 4 * k + 3) 1) (r + 2) (48 * R.length + 4 * k + 2) = (zJ M (d + 3) k).toInt32 := by rw [zI_s, if_neg (by omega), zI_s, if_pos rfl]
              have g4 : zI (zsI (zsI (zsI (zsI M1 (r + 2) (48 * R.length + 4 * k) (zJ M (d + 1) k).toInt32) (r + 2) (48 * R.length + 4 * k + 1) (zJ M (d + 2) k).toInt32) (r + 2) (48 * R.length + 4 * k + 2) (zJ M (d + 3) k).toInt32) (r + 2) (48 * R.length + 4 * k + 3) 1) (r + 2) (48 * R.length + 4 * k + 3) = 1 := by rw [zI_s, if_pos rfl]
              rw [g1, g2, g3, g4, l2i_int hlm.1, l2i_int hlm.2.1, l2i_int hlm.2.2, (hH.2.2.2 k).resolve_left h_92]
            · have hk2 := hq k q (by omega) hkq
              unfold rg at hk2 ⊢
              rw [zI_s, if_neg (by omega), zI_s, if_neg (by omega), zI_s, if_neg (by omega), zI_s, if_neg (by omega)]
              rw [zI_s, if_neg (by omega), zI_s, if_neg (by omega), zI_s, if_neg (by omega), zI_s, if_neg (by omega)]
              rw [zI_s, if_neg (by omega), zI_s, if_neg (by omega), zI_s, if_neg (by omega), zI_s, if_neg (by omega)]
              rw [zI_s, if_neg (by omega), zI_s, if_neg (by omega), zI_s, if_neg (by omega), zI_s, if_neg (by omega)]
              exact hk2
  refine za_aload_n hc dR_append_0 rfl ?_
  refine za_getS hc gfR_11 (by assumption) dR_append_1 ?_
  refine za_aload_n hc dR_append_4 rfl ?_
  refine za_getI hc gfR_18 (by assumption) dR_append_5 ?_
  refine za_aload_n hc dR_append_8 rfl ?_
  rw [hR.1]
  refine za_cV0i hc gsR_52 (by assumption) (cD_memberCount_ l M hd) ⟨rfl, rfl⟩ ⟨Nat.le_of_ble_eq_true rfl, Nat.le_of_ble_eq_true rfl⟩ ⟨Nat.zero_le _, Nat.zero_le _⟩ dR_append_9 (fun x_9 M_9 h_9 => ?_)
  obtain ⟨q_9, hm_9⟩ := h_9
  rw [hm_9, q_9, hH.1]
  refine za_iast hc (by assumption) dR_append_12 (vp_in_nI (show R.length < 12 by omega) (by decide)) ?_
  rw [nI_clamp (show R.length < 2 ^ 31 by omega)]
  refine za_iconst hc 0 dR_append_13 rfl ?_
  refine za_istore_n hc dR_append_14 (by decide) ?_
  refine loop ls.length 0 _ (by omega) (zfr_sI ⟨by omega, by omega⟩) (zI_o (by omega)) (by rw [zI_s, if_pos rfl]) (fun k hk => by rw [zI_s, if_neg hk]) (fun x _ => by rw [zI_o (by omega)]) (fun k q hk => absurd hk (Nat.not_lt_zero _))
end
section
/-! A row is added to a region. -/
def glim (l : List gC) : Bool := l.all (fun q => decide (q.1.natAbs ≤ 10000) && (decide (q.2.1.natAbs ≤ 10000) && decide (q.2.2.1.natAbs ≤ 10000))) && decide (l.length ≤ 12)
theorem glim_iff {l : List gC} : glim l = true ↔ (∀ q ∈ l, gLim q) ∧ l.length ≤ 12 := by
  unfold glim gLim
  simp only [Bool.and_eq_true, List.all_eq_true, decide_eq_true_eq]
/-- ADDING: what comes of it; none where a limit is passed -/
noncomputable def gadd (R : List (List gC)) (ls : List gC) : Option (List (List gC)) :=
  if gsb ls = false then some R else if glim (gthin [] ls) = false then none else if gthin [] ls ∈ R then some R else if 12 ≤ R.length then none else some (R ++ [gthin [] ls])
/-- behind an adding: the region, or that a limit is passed; the draft is fit for use -/
def rAd (M : zM) (r d : Nat) (R : List (List gC)) (a : Option (List (List gC))) (x : Int32) (M' : zM) : Prop :=
  (match a with | some R' => x = 1 ∧ rH M' r R' | none => x = 0) ∧ zbo M' d ∧ sB M' (d + 5) ∧ zfr (fun k => dF d k ∨ rF r k) M M'

set_option maxRecDepth 100000 in
set_option maxHeartbeats 4000000 in
theorem cR_admit_ (l : Launch) {r d : Nat} {R : List (List gC)} {ls : List gC} (M : zM) (hr : zrg r) (hd : zdr d) (hR : rH M r R) (hH : dH M d ls) (hB : sB M (d + 5)) (hok : gOK ls) : zMet l mR_admit rR_admit [.ref r, .ref d] M (zqi (rAd M r d R (gadd R ls))) := by
  refine za_enter (by decide) (Nat.le_of_ble_eq_true rfl) (fun X hc => ?_)
  have hro := hr.o
  have hrz := hr.z
  have hrn := hr.n
  have hdo := hd.o
  have hda := hd.a
  have hdb := hd.b
  have hdc := hd.c
  have hds := hd.s
  have hpo := hd.p.o
  refine za_aload_n hc dR_admit_0 rfl ?_
  refine za_cV0i hc gsR_28 (by assumption) (cD_hasPoints_ l M hd hH hB hok) ⟨rfl, rfl⟩ ⟨Nat.le_of_ble_eq_true rfl, Nat.le_of_ble_eq_true rfl⟩ ⟨Nat.zero_le _, Nat.zero_le _⟩ dR_admit_1 (fun x_1 M_1 h_1 => ?_)
  obtain ⟨k1, k2, k3, k4, k5⟩ := h_1
  have hf1 : zfr (dF d) M M_1 := k5.wk (fun k z => ⟨by have := z.1; omega, by have := z.2; omega⟩)
  refine za_if_ne 9 hc dR_admit_4 rfl (fun h_4 => ?_) (fun h_4 => ?_)
  · skip
    have hs : gsb ls = true := gsb_iff.mpr (k2.mp (k1.resolve_left h_4))
    refine za_aload_n hc dR_admit_9 rfl ?_
    refine za_cV0v hc gsR_34 (by assumption) (cD_dropImplied_ l M_1 hd k3 k4 hok) ⟨rfl, rfl⟩ ⟨Nat.le_of_ble_eq_true rfl, Nat.le_of_ble_eq_true rfl⟩ ⟨Nat.zero_le _, Nat.zero_le _⟩ dR_admit_10 (fun M_10 h_10 => ?_)
    obtain ⟨t1, t2, t3⟩ := h_10
    have hf2 : zfr (dF d) M M_10 := hf1.tr t3
    have hR2 : rH M_10 r R := rH_kept hR hf2 (dF_rg hd hr (b := 0) (by decide)) (dF_rg hd hr (b := 1) (by decide)) (dF_rg hd hr (b := 2) (by decide))
    refine za_aload_n hc dR_admit_13 rfl ?_
    refine za_cV0i hc gsR_37 (by assumption) (cD_keepsLimits_ l M_10 hd t1) ⟨rfl, rfl⟩ ⟨Nat.le_of_ble_eq_true rfl, Nat.le_of_ble_eq_true rfl⟩ ⟨Nat.zero_le _, Nat.zero_le _⟩ dR_admit_14 (fun x_14 M_14 h_14 => ?_)
    obtain ⟨l1, l2, hm_14⟩ := h_14
    rw [hm_14]
    refine za_if_ne 22 hc dR_admit_17 rfl (fun h_17 => ?_) (fun h_17 => ?_)
    · skip
      have hk := l1.resolve_left h_17
      have hg : glim (gthin [] ls) = true := glim_iff.mpr (l2.mp hk)
      refine za_aload_n hc dR_admit_22 rfl ?_
      refine za_aload_n hc dR_admit_23 rfl ?_
      refine za_cV1i hc gsR_40 (by assumption) (cR_contains_ l M_10 hr hd hR2 t1) ⟨rfl, rfl⟩ ⟨Nat.le_of_ble_eq_true rfl, Nat.le_of_ble_eq_true rfl⟩ ⟨Nat.zero_le _, Nat.zero_le _⟩ dR_admit_24 (fun x_24 M_24 h_24 => ?_)
      obtain ⟨c1, c2, hm_24⟩ := h_24
      rw [hm_24]
      refine za_if_eq 32 hc dR_admit_27 rfl (fun h_27 => ?_) (fun h_27 => ?_)
      · skip
        have hn : ¬ gthin [] ls ∈ R := fun z => absurd (c2.mpr z) (by rw [h_27]; decide)
        refine za_aload_n hc dR_admit_32 rfl ?_
        refine za_getI hc gfR_18 (by assumption) dR_admit_33 ?_
        refine za_bipush hc 12 dR_admit_36 rfl ?_
        rw [hR2.1]
        refine za_icmp_lt 43 hc dR_admit_38 rfl (fun h_38 => ?_) (fun h_38 => ?_)
        · skip
          have hlt : R.length < 12 := (nI_ltI (b := 12) (by have := hR.2.1; omega) (by decide)).mp h_38
          refine za_aload_n hc dR_admit_43 rfl ?_
          refine za_aload_n hc dR_admit_44 rfl ?_
          refine za_cV1v hc gsR_44 (by assumption) (cR_append_ l M_10 hr hd hR2 t1 hlt (l2.mp hk).2 (l2.mp hk).1) ⟨rfl, rfl⟩ ⟨Nat.le_of_ble_eq_true rfl, Nat.le_of_ble_eq_true rfl⟩ ⟨Nat.zero_le _, Nat.zero_le _⟩ dR_admit_45 (fun M_45 h_45 => ?_)
          obtain ⟨a1, a2⟩ := h_45
          refine za_iconst hc 1 dR_admit_48 rfl ?_
          exact za_zret hc rfl (rfl) dR_admit_49 ⟨Nat.zero_le _, Nat.zero_le _⟩ (⟨1, rfl, by unfold gadd; rw [if_neg (by rw [hs]; decide), if_neg (by rw [hg]; decide), if_neg hn, if_neg (by omega)]; exact ⟨rfl, a1⟩, zfr_bo a2 (rF_dr hd hr (by decide)) t1.2.2.2, sB_kept t2 a2 (rF_dr hd hr (a := 6) (by decide)) (rF_dr hd hr (a := 7) (by decide)) (rF_dr hd hr (a := 8) (by decide)), (hf2.wk (fun k => Or.inl)).tr (a2.wk (fun k => Or.inr))⟩)
        · skip
          have hge : 12 ≤ R.length := Nat.not_lt.mp (fun z => h_38 ((nI_ltI (b := 12) (by have := hR.2.1; omega) (by decide)).mpr z))
          refine za_iconst hc 0 dR_admit_41 rfl ?_
          exact za_zret hc rfl (rfl) dR_admit_42 ⟨Nat.zero_le _, Nat.zero_le _⟩ (⟨0, rfl, by unfold gadd; rw [if_neg (by rw [hs]; decide), if_neg (by rw [hg]; decide), if_neg hn, if_pos hge], t1.2.2.2, t2, hf2.wk (fun k => Or.inl)⟩)
      · skip
        have hn : gthin [] ls ∈ R := c2.mp (c1.resolve_left h_27)
        refine za_iconst hc 1 dR_admit_30 rfl ?_
        exact za_zret hc rfl (rfl) dR_admit_31 ⟨Nat.zero_le _, Nat.zero_le _⟩ (⟨1, rfl, by unfold gadd; rw [if_neg (by rw [hs]; decide), if_neg (by rw [hg]; decide), if_pos hn]; exact ⟨rfl, hR2⟩, t1.2.2.2, t2, hf2.wk (fun k => Or.inl)⟩)
    · skip
      have hg : glim (gthin [] ls) = false := by cases z : glim (gthin [] ls) with | false => rfl | true => exact absurd (l2.mpr (glim_iff.mp z)) (by rw [h_17]; decide)
      refine za_iconst hc 0 dR_admit_20 rfl ?_
      exact za_zret hc rfl (rfl) dR_admit_21 ⟨Nat.zero_le _, Nat.zero_le _⟩ (⟨0, rfl, by unfold gadd; rw [if_neg (by rw [hs]; decide), if_pos hg], t1.2.2.2, t2, hf2.wk (fun k => Or.inl)⟩)
  · skip
    have hs : gsb ls = false := by cases z : gsb ls with | false => rfl | true => exact absurd (k2.mpr (gsb_iff.mp z)) (by rw [h_4]; decide)
    refine za_iconst hc 1 dR_admit_7 rfl ?_
    exact za_zret hc rfl (rfl) dR_admit_8 ⟨Nat.zero_le _, Nat.zero_le _⟩ (⟨1, rfl, by unfold gadd; rw [if_pos hs]; exact ⟨rfl, rH_kept hR hf1 (dF_rg hd hr (b := 0) (by decide)) (dF_rg hd hr (b := 1) (by decide)) (dF_rg hd hr (b := 2) (by decide))⟩, k3.2.2.2, k4, hf1.wk (fun k => Or.inl)⟩)

set_option maxRecDepth 100000 in
set_option maxHeartbeats 4000000 in
theorem cR_copy_ (l : Launch) {r q : Nat} {R : List (List gC)} (M : zM) (hr : zrg r) (hq : zrg q) (hne : q ≠ r) (hR : rH M q R) : zMet l mR_copy rR_copy [.ref r, .ref q] M (zqv (fun M' => rH M' r R ∧ zfr (rF r) M M')) := by
  refine za_enter (by decide) (Nat.le_of_ble_eq_true rfl) (fun X hc => ?_)
  have hro := hr.o
  have hrz := hr.z
  have hrn := hr.n
  have hqo := hq.o
  have hqz := hq.z
  have hqn := hq.n
  have hl := hR.2.1
  have loop : ∀ n i (M1 : zM), n + i = R.length → zfr (rF r) M M1 → zI M1 r 2 = nI R.length → (∀ j row, j < i → R[j]? = some row → zI M1 (r + 1) j = nI row.length ∧ ∀ x, x < 4 * row.length → zI M1 (r + 2) (48 * j + x) = zI M (q + 2) (48 * j + x)) → zW X (zqv (fun M' => rH M' r R ∧ zfr (rF r) M M')) (0, 0) 10 [(0, .ref r), (1, .ref q), (2, .int (nI i))] [] M1 := by
    intro n
    induction n with
    | zero =>
      intro i M1 hn hf h0 hx
      refine za_iload_n hc dR_copy_10 rfl ?_
      refine za_aload_n hc dR_copy_11 rfl ?_
      refine za_getI hc gfR_18 (by assumption) dR_copy_12 ?_
      rw [h0]
      refine za_icmp_ge 63 hc dR_copy_15 rfl (fun h_15 => ?_) (fun h_15 => ?_)
      · skip
        refine za_vret hc rfl dR_copy_63 ⟨Nat.zero_le _, Nat.zero_le _⟩ ⟨rfl, ⟨h0, hl, fun j row hrow => ?_⟩, hf⟩
        have hj := (List.getElem?_eq_some_iff.mp hrow).1
        obtain ⟨g1, g2⟩ := hx j row (by omega) hrow
        obtain ⟨w1, w2, w3, w4⟩ := hR.2.2 j row hrow
        refine ⟨w1, g1, fun k m hk => ?_, w4⟩
        have := (List.getElem?_eq_some_iff.mp hk).1
        rw [← w3 k m hk]
        unfold rg
        have a0 := g2 (4 * k) (by omega)
        have a1 := g2 (4 * k + 1) (by omega)
        have a2 := g2 (4 * k + 2) (by omega)
        have a3 := g2 (4 * k + 3) (by omega)
        rw [show 48 * j + (4 * k + 1) = 48 * j + 4 * k + 1 by omega] at a1
        rw [show 48 * j + (4 * k + 2) = 48 * j + 4 * k + 2 by omega] at a2
        rw [show 48 * j + (4 * k + 3) = 48 * j + 4 * k + 3 by omega] at a3
        rw [a0, a1, a2, a3]
      · skip
        exact absurd ((nI_leI (by omega) (by omega)).mpr (show R.length ≤ i by omega)) h_15
    | succ n ih =>
      intro i M1 hn hf h0 hx
      have hri := List.getElem?_eq_getElem (l := R) (show i < R.length by omega)
      obtain ⟨w1, w2, w3, w4⟩ := hR.2.2 i _ hri
      generalize hrow : R[i] = row at hri w1 w2 w3 w4
      have kz : zI M1 (q + 1) = zI M (q + 1) := (hf _ (rF_rg hq hr hne (by decide))).1
      have kn : zI M1 (q + 2) = zI M (q + 2) := (hf _ (rF_rg hq hr hne (by decide))).1
      have n1 : ¬ q + 2 = r + 1 := zrg_rg hq hr hne (by decide) (by decide)
      refine za_iload_n hc dR_copy_10 rfl ?_
      refine za_aload_n hc dR_copy_11 rfl ?_
      refine za_getI hc gfR_18 (by assumption) dR_copy_12 ?_
      rw [h0]
      refine za_icmp_ge 63 hc dR_copy_15 rfl (fun h_15 => ?_) (fun h_15 => ?_)
      · skip
        exact absurd ((nI_leI (by omega) (by omega)).mp h_15) (by omega)
      · skip
        refine za_aload_n hc dR_copy_18 rfl ?_
        refine za_getS hc gfR_11 (by assumption) dR_copy_19 ?_
        refine za_iload_n hc dR_copy_22 rfl ?_
        refine za_aload_n hc dR_copy_23 rfl ?_
        refine za_getS hc gfR_11 (by assumption) dR_copy_24 ?_
        refine za_iload_n hc dR_copy_27 rfl ?_
        refine za_iald hc (by assumption) dR_copy_28 (vp_in_nI (show i < 12 by omega) (by decide)) ?_
        rw [nI_clamp (show i < 2 ^ 31 by omega), kz, w2]
        refine za_iast hc (by assumption) dR_copy_29 (vp_in_nI (show i < 12 by omega) (by decide)) ?_
        rw [nI_clamp (show i < 2 ^ 31 by omega)]
        refine za_aload_n hc dR_copy_30 rfl ?_
        refine za_getS hc gfR_15 (by assumption) dR_copy_31 ?_
        refine za_iload_n hc dR_copy_34 rfl ?_
        refine za_bipush hc 48 dR_copy_35 rfl ?_
        refine za_imul hc dR_copy_37 ?_
        refine za_aload_n hc dR_copy_38 rfl ?_
        refine za_getS hc gfR_15 (by assumption) dR_copy_39 ?_
        refine za_iload_n hc dR_copy_42 rfl ?_
        refine za_bipush hc 48 dR_copy_43 rfl ?_
        refine za_imul hc dR_copy_45 ?_
        refine za_aload_n hc dR_copy_46 rfl ?_
        refine za_getS hc gfR_11 (by assumption) dR_copy_47 ?_
        refine za_iload_n hc dR_copy_50 rfl ?_
        refine za_iald hc (by assumption) dR_copy_51 (vp_in_nI (show i < 12 by omega) (by decide)) ?_
        rw [nI_clamp (show i < 2 ^ 31 by omega), zI_s, if_pos rfl]
        refine za_iconst hc 4 dR_copy_52 rfl ?_
        refine za_imul hc dR_copy_53 ?_
        rw [zix1, show nI row.length * (4 : Int32) = nI (4 * row.length) from by rw [show (4 : Int32) = nI 4 from rfl, pk_mul, Nat.mul_comm]]
        refine za_copyi hc jmR_22 (by assumption) (by assumption) (nI_pos (by omega)) (nI_pos (by omega)) (nI_pos (by omega)) (by rw [nI_clamp (show 48 * i < 2 ^ 31 by omega), nI_clamp (show 4 * row.length < 2 ^ 31 by omega)]; omega) (by rw [nI_clamp (show 48 * i < 2 ^ 31 by omega), nI_clamp (show 4 * row.length < 2 ^ 31 by omega)]; omega) ⟨Nat.le_of_ble_eq_true rfl, Nat.le_of_ble_eq_true rfl⟩ dR_copy_54 ?_
        rw [nI_clamp (show 48 * i < 2 ^ 31 by omega), nI_clamp (show 4 * row.length < 2 ^ 31 by omega)]
        refine za_iinc hc _ dR_copy_57 rfl ((nI_succ i).symm) (by decide) ?_
        refine za_goto 10 hc dR_copy_60 rfl ?_
        refine ih (i + 1) _ (by omega) (hf.tr ((zfr_sI ⟨by omega, by omega⟩).tr (zfr_rI ⟨by omega, by omega⟩))) ?_ ?_
        · rw [zI_rI, if_neg (show ¬ r = r + 2 by omega), zI_o (show ¬ r = r + 1 by omega)]; exact h0
        · intro j row' hj hr'
          rw [zI_rI, if_neg (show ¬ r + 1 = r + 2 by omega), zI_s, zI_rI, if_pos rfl, zI_o n1, kn, zI_o (show ¬ r + 2 = r + 1 by omega)]
          have hw1 := (hR.2.2 j row' hr').1
          by_cases c : j = i
          · subst c
            rw [hri] at hr'
            obtain rfl := Option.some.inj hr'
            rw [if_pos rfl]
            refine ⟨rfl, fun x hx2 => ?_⟩
            rw [pk_cpy_in (by omega) (by omega)]
            congr 1; omega
          · obtain ⟨g1, g2⟩ := hx j row' (by omega) hr'
            rw [if_neg c]
            refine ⟨g1, fun x hx2 => ?_⟩
            rw [pk_cpy_out (by omega)]; exact g2 x hx2
  refine za_aload_n hc dR_copy_0 rfl ?_
  refine za_aload_n hc dR_copy_1 rfl ?_
  refine za_getI hc gfR_18 (by assumption) dR_copy_2 ?_
  rw [hR.1]
  refine za_putI hc gpR_18 (by assumption) dR_copy_5 ?_
  refine za_iconst hc 0 dR_copy_8 rfl ?_
  refine za_istore_n hc dR_copy_9 (by decide) ?_
  refine loop R.length 0 _ (by omega) (zfr_sI ⟨Nat.le_refl _, by omega⟩) (by rw [zI_s, if_pos rfl]) (fun j row hj => absurd hj (Nat.not_lt_zero _))
end
section
/-! Members of a region's row go into a draft; points of a region. -/
theorem s01 (x : Int32) : ((if x = 1 then 1 else 0 : Int32) == 1) = (x == 1) := by split <;> rename_i h <;> simp [h]
theorem s01b (x : Int32) : (if x = 1 then 1 else 0 : Int32) = 0 ∨ (if x = 1 then 1 else 0 : Int32) = 1 := by split <;> simp
theorem g_put_len (ls ms : List gC) : (ms.foldl gput ls).length ≤ ls.length + ms.length := by
  induction ms generalizing ls with
  | nil => exact Nat.le_refl _
  | cons m t ih =>
    have h1 := ih (gput ls m)
    have h2 := gput_len ls m
    simp only [List.foldl_cons, List.length_cons]
    omega
theorem g_foldl_snoc (ls ms : List gC) (m : gC) : (ms ++ [m]).foldl gput ls = gput (ms.foldl gput ls) m := by rw [List.foldl_append]; rfl

set_option maxRecDepth 100000 in
set_option maxHeartbeats 4000000 in
theorem cR_pour_ (l : Launch) {r d j few : Nat} {R : List (List gC)} {row ls : List gC} (M : zM) (hr : zrg r) (hd : zdr d) (hR : rH M r R) (hrow : R[j]? = some row) (hfew : few ≤ row.length) (hH : dH M d ls) (hlen : ls.length + few ≤ 36) : zMet l mR_pour rR_pour [.ref r, .int (nI j), .int (nI few), .ref d] M (zqv (fun M' => dH M' d ((row.take few).foldl gput ls) ∧ zfr (dB d) M M')) := by
  refine za_enter (by decide) (Nat.le_of_ble_eq_true rfl) (fun X hc => ?_)
  have hro := hr.o
  have hrz := hr.z
  have hrn := hr.n
  have hdo := hd.o
  have hda := hd.a
  have hdb := hd.b
  have hdc := hd.c
  have hds := hd.s
  have hpo := hd.p.o
  obtain ⟨hw1, hw2, hw3, hw4⟩ := hR.2.2 j row hrow
  have hjl : j < 12 := by have := (List.getElem?_eq_some_iff.mp hrow).1; have := hR.2.1; omega
  have loop : ∀ n i (M1 : zM), n + i = few → dH M1 d ((row.take i).foldl gput ls) → zfr (dB d) M M1 → zW X (zqv (fun M' => dH M' d ((row.take few).foldl gput ls) ∧ zfr (dB d) M M')) (0, 0) 3 [(0, .ref r), (1, .int (nI j)), (2, .int (nI few)), (3, .ref d), (4, .int (nI i))] [] M1 := by
    intro n
    induction n with
    | zero =>
      intro i M1 hn hH1 hf
      obtain rfl : i = few := by omega
      refine za_iload hc dR_pour_3 rfl ?_
      refine za_iload_n hc dR_pour_5 rfl ?_
      refine za_icmp_ge 50 hc dR_pour_6 rfl (fun h_6 => ?_) (fun h_6 => ?_)
      · skip
        exact za_vret hc rfl dR_pour_50 ⟨Nat.zero_le _, Nat.zero_le _⟩ (⟨rfl, hH1, hf⟩)
      · skip
        exact absurd (Int32.le_refl _) h_6
    | succ n ih =>
      intro i M1 hn hH1 hf
      have hi : i < row.length := by omega
      have hi12 : i < 12 := by omega
      have hri := List.getElem?_eq_getElem (l := row) hi
      have e1 := hw3 i _ hri
      have hlm := hw4 _ (List.getElem_mem hi)
      rw [← e1] at hlm
      have kn : zI M1 (r + 2) = zI M (r + 2) := (hf _ (fun z => dF_rg hd hr (b := 2) (by decide) (dB_F z))).1
      have b1 : (zI M (r + 2) (48 * j + 4 * i)).toInt.natAbs ≤ 10000 := hlm.1
      have b2 : (zI M (r + 2) (48 * j + 4 * i + 1)).toInt.natAbs ≤ 10000 := hlm.2.1
      have b3 : (zI M (r + 2) (48 * j + 4 * i + 2)).toInt.natAbs ≤ 10000 := hlm.2.2
      have htl : ((row.take i).foldl gput ls).length < 36 := by have := g_put_len ls (row.take i); rw [List.length_take] at this; omega
      refine za_iload hc dR_pour_3 rfl ?_
      refine za_iload_n hc dR_pour_5 rfl ?_
      refine za_icmp_ge 50 hc dR_pour_6 rfl (fun h_6 => ?_) (fun h_6 => ?_)
      · skip
        exact absurd ((nI_leI (by omega) (by omega)).mp h_6) (by omega)
      · skip
        refine za_aload_n hc dR_pour_9 rfl ?_
        refine za_aload_n hc dR_pour_10 rfl ?_
        refine za_iload_n hc dR_pour_11 rfl ?_
        refine za_iload hc dR_pour_12 rfl ?_
        refine za_cV2i hc gsR_56 (by assumption) (cR_x_ l M1 hr hjl hi12) ⟨rfl, rfl⟩ ⟨Nat.le_of_ble_eq_true rfl, Nat.le_of_ble_eq_true rfl⟩ ⟨Nat.zero_le _, Nat.zero_le _⟩ dR_pour_14 (fun x_14 M_14 h_14 => ?_)
        obtain ⟨q_14, hm_14⟩ := h_14
        rw [hm_14, q_14, kn]
        refine za_i2l hc dR_pour_17 ?_
        refine za_aload_n hc dR_pour_18 rfl ?_
        refine za_iload_n hc dR_pour_19 rfl ?_
        refine za_iload hc dR_pour_20 rfl ?_
        refine za_cV2i hc gsR_63 (by assumption) (cR_y_ l M1 hr hjl hi12) ⟨rfl, rfl⟩ ⟨Nat.le_of_ble_eq_true rfl, Nat.le_of_ble_eq_true rfl⟩ ⟨Nat.zero_le _, Nat.zero_le _⟩ dR_pour_22 (fun x_22 M_22 h_22 => ?_)
        obtain ⟨q_22, hm_22⟩ := h_22
        rw [hm_22, q_22, kn]
        refine za_i2l hc dR_pour_25 ?_
        refine za_aload_n hc dR_pour_26 rfl ?_
        refine za_iload_n hc dR_pour_27 rfl ?_
        refine za_iload hc dR_pour_28 rfl ?_
        refine za_cV2i hc gsR_68 (by assumption) (cR_bound_ l M1 hr hjl hi12) ⟨rfl, rfl⟩ ⟨Nat.le_of_ble_eq_true rfl, Nat.le_of_ble_eq_true rfl⟩ ⟨Nat.zero_le _, Nat.zero_le _⟩ dR_pour_30 (fun x_30 M_30 h_30 => ?_)
        obtain ⟨q_30, hm_30⟩ := h_30
        rw [hm_30, q_30, kn]
        refine za_i2l hc dR_pour_33 ?_
        refine za_aload_n hc dR_pour_34 rfl ?_
        refine za_iload_n hc dR_pour_35 rfl ?_
        refine za_iload hc dR_pour_36 rfl ?_
        refine za_cV2i hc gsR_73 (by assumption) (cR_isStrict_ l M1 hr hjl hi12) ⟨rfl, rfl⟩ ⟨Nat.le_of_ble_eq_true rfl, Nat.le_of_ble_eq_true rfl⟩ ⟨Nat.zero_le _, Nat.zero_le _⟩ dR_pour_38 (fun x_38 M_38 h_38 => ?_)
        obtain ⟨q_38, hm_38⟩ := h_38
        rw [hm_38, q_38, kn]
        refine za_cV4v hc gsR_80 (by assumption) (cD_put_ l M1 _ _ _ _ hd hH1 htl (s01b _) (by rw [i2l_int]; omega) (by rw [i2l_int]; omega) (by rw [i2l_int]; omega)) ⟨rfl, rfl⟩ ⟨Nat.le_of_ble_eq_true rfl, Nat.le_of_ble_eq_true rfl⟩ ⟨Nat.zero_le _, Nat.zero_le _⟩ dR_pour_41 (fun M_41 h_41 => ?_)
        obtain ⟨p1, p2⟩ := h_41
        refine za_iinc hc _ dR_pour_44 rfl ((nI_succ i).symm) (by decide) ?_
        refine za_goto 3 hc dR_pour_47 rfl ?_
        refine ih (i + 1) M_41 (by omega) ?_ (hf.tr p2)
        rw [i2l_int, i2l_int, i2l_int, s01] at p1
        rw [show row.take (i + 1) = row.take i ++ [row[i]] from by rw [List.take_succ, hri]; rfl, g_foldl_snoc, ← e1]
        exact p1
  refine za_iconst hc 0 dR_pour_0 rfl ?_
  refine za_istore hc dR_pour_1 (by decide) ?_
  exact loop few 0 M (by omega) (by rw [List.take_zero]; exact hH) zfr.rf

set_option maxRecDepth 100000 in
set_option maxHeartbeats 4000000 in
theorem cR_pourContrary_ (l : Launch) {r d j i : Nat} {R : List (List gC)} {row ls : List gC} {m : gC} (M : zM) (hr : zrg r) (hd : zdr d) (hR : rH M r R) (hrow : R[j]? = some row) (hm : row[i]? = some m) (hH : dH M d ls) (hlen : ls.length < 36) : zMet l mR_pourContrary rR_pourContrary [.ref r, .int (nI j), .int (nI i), .ref d] M (zqv (fun M' => dH M' d (gput ls (gflip m)) ∧ zfr (dB d) M M')) := by
  refine za_enter (by decide) (Nat.le_of_ble_eq_true rfl) (fun X hc => ?_)
  have hro := hr.o
  have hrz := hr.z
  have hrn := hr.n
  have hdo := hd.o
  have hda := hd.a
  have hdb := hd.b
  have hdc := hd.c
  have hds := hd.s
  have hpo := hd.p.o
  obtain ⟨hw1, hw2, hw3, hw4⟩ := hR.2.2 j row hrow
  have hjl : j < 12 := by have := (List.getElem?_eq_some_iff.mp hrow).1; have := hR.2.1; omega
  have hi := (List.getElem?_eq_some_iff.mp hm).1
  have hi12 : i < 12 := by omega
  have e1 := hw3 i _ hm
  have hlm := hw4 _ (List.mem_of_getElem? hm)
  rw [← e1] at hlm
  have b1 : (zI M (r + 2) (48 * j + 4 * i)).toInt.natAbs ≤ 10000 := hlm.1
  have b2 : (zI M (r + 2) (48 * j + 4 * i + 1)).toInt.natAbs ≤ 10000 := hlm.2.1
  have b3 : (zI M (r + 2) (48 * j + 4 * i + 2)).toInt.natAbs ≤ 10000 := hlm.2.2
  refine za_aload_n hc dR_pourContrary_0 rfl ?_
  refine za_aload_n hc dR_pourContrary_1 rfl ?_
  refine za_iload_n hc dR_pourContrary_2 rfl ?_
  refine za_iload_n hc dR_pourContrary_3 rfl ?_
  refine za_cV2i hc gsR_56 (by assumption) (cR_x_ l M hr hjl hi12) ⟨rfl, rfl⟩ ⟨Nat.le_of_ble_eq_true rfl, Nat.le_of_ble_eq_true rfl⟩ ⟨Nat.zero_le _, Nat.zero_le _⟩ dR_pourContrary_4 (fun x_4 M_4 h_4 => ?_)
  obtain ⟨q_4, hm_4⟩ := h_4
  rw [hm_4, q_4]
  refine za_ineg hc dR_pourContrary_7 ?_
  refine za_i2l hc dR_pourContrary_8 ?_
  refine za_aload_n hc dR_pourContrary_9 rfl ?_
  refine za_iload_n hc dR_pourContrary_10 rfl ?_
  refine za_iload_n hc dR_pourContrary_11 rfl ?_
  refine za_cV2i hc gsR_63 (by assumption) (cR_y_ l M hr hjl hi12) ⟨rfl, rfl⟩ ⟨Nat.le_of_ble_eq_true rfl, Nat.le_of_ble_eq_true rfl⟩ ⟨Nat.zero_le _, Nat.zero_le _⟩ dR_pourContrary_12 (fun x_12 M_12 h_12 => ?_)
  obtain ⟨q_12, hm_12⟩ := h_12
  rw [hm_12, q_12]
  refine za_ineg hc dR_pourContrary_15 ?_
  refine za_i2l hc dR_pourContrary_16 ?_
  refine za_aload_n hc dR_pourContrary_17 rfl ?_
  refine za_iload_n hc dR_pourContrary_18 rfl ?_
  refine za_iload_n hc dR_pourContrary_19 rfl ?_
  refine za_cV2i hc gsR_68 (by assumption) (cR_bound_ l M hr hjl hi12) ⟨rfl, rfl⟩ ⟨Nat.le_of_ble_eq_true rfl, Nat.le_of_ble_eq_true rfl⟩ ⟨Nat.zero_le _, Nat.zero_le _⟩ dR_pourContrary_20 (fun x_20 M_20 h_20 => ?_)
  obtain ⟨q_20, hm_20⟩ := h_20
  rw [hm_20, q_20]
  refine za_ineg hc dR_pourContrary_23 ?_
  refine za_i2l hc dR_pourContrary_24 ?_
  refine za_aload_n hc dR_pourContrary_25 rfl ?_
  refine za_iload_n hc dR_pourContrary_26 rfl ?_
  refine za_iload_n hc dR_pourContrary_27 rfl ?_
  refine za_cV2i hc gsR_73 (by assumption) (cR_isStrict_ l M hr hjl hi12) ⟨rfl, rfl⟩ ⟨Nat.le_of_ble_eq_true rfl, Nat.le_of_ble_eq_true rfl⟩ ⟨Nat.zero_le _, Nat.zero_le _⟩ dR_pourContrary_28 (fun x_28 M_28 h_28 => ?_)
  obtain ⟨q_28, hm_28⟩ := h_28
  rw [hm_28, q_28]
  refine za_if_ne 38 hc dR_pourContrary_31 rfl (fun h_31 => ?_) (fun h_31 => ?_)
  · skip
    have hsg : ((0 : Int32) == 1) = !(zI M (r + 2) (48 * j + 4 * i + 3) == 1) := by by_cases z : zI M (r + 2) (48 * j + 4 * i + 3) = 1; rw [z]; rfl; exact absurd (if_neg z) h_31
    refine za_iconst hc 0 dR_pourContrary_38 rfl ?_
    refine za_cV4v hc gsR_80 (by assumption) (cD_put_ l M _ _ _ _ hd hH hlen (by first | exact Or.inl rfl | exact Or.inr rfl) (by rw [i2l_int, i_neg (by omega)]; omega) (by rw [i2l_int, i_neg (by omega)]; omega) (by rw [i2l_int, i_neg (by omega)]; omega)) ⟨rfl, rfl⟩ ⟨Nat.le_of_ble_eq_true rfl, Nat.le_of_ble_eq_true rfl⟩ ⟨Nat.zero_le _, Nat.zero_le _⟩ dR_pourContrary_39 (fun M_39 h_39 => ?_)
    obtain ⟨p1, p2⟩ := h_39
    rw [i2l_int, i2l_int, i2l_int, i_neg (by omega), i_neg (by omega), i_neg (by omega), hsg] at p1
    exact za_vret hc rfl dR_pourContrary_42 ⟨Nat.zero_le _, Nat.zero_le _⟩ (⟨rfl, by rw [← e1]; exact p1, p2⟩)
  · skip
    have hsg : ((1 : Int32) == 1) = !(zI M (r + 2) (48 * j + 4 * i + 3) == 1) := by by_cases z : zI M (r + 2) (48 * j + 4 * i + 3) = 1; rw [if_pos z] at h_31; exact absurd h_31 (by decide); simp [z]
    refine za_iconst hc 1 dR_pourContrary_34 rfl ?_
    refine za_goto 39 hc dR_pourContrary_35 rfl ?_
    refine za_cV4v hc gsR_80 (by assumption) (cD_put_ l M _ _ _ _ hd hH hlen (by first | exact Or.inl rfl | exact Or.inr rfl) (by rw [i2l_int, i_neg (by omega)]; omega) (by rw [i2l_int, i_neg (by omega)]; omega) (by rw [i2l_int, i_neg (by omega)]; omega)) ⟨rfl, rfl⟩ ⟨Nat.le_of_ble_eq_true rfl, Nat.le_of_ble_eq_true rfl⟩ ⟨Nat.zero_le _, Nat.zero_le _⟩ dR_pourContrary_39 (fun M_39 h_39 => ?_)
    obtain ⟨p1, p2⟩ := h_39
    rw [i2l_int, i2l_int, i2l_int, i_neg (by omega), i_neg (by omega), i_neg (by omega), hsg] at p1
    exact za_vret hc rfl dR_pourContrary_42 ⟨Nat.zero_le _, Nat.zero_le _⟩ (⟨rfl, by rw [← e1]; exact p1, p2⟩)

/-- a member holds at (p / d, q / d) -/
def gHat (m : gC) (p q d : Int) : Prop := m.1 * p + m.2.1 * q < m.2.2.1 * d ∨ (m.1 * p + m.2.1 * q = m.2.2.1 * d ∧ m.2.2.2 = false)

set_option maxRecDepth 100000 in
set_option maxHeartbeats 4000000 in
theorem cR_rowHasPoint_ (l : Launch) {r j : Nat} {R : List (List gC)} {row : List gC} (M : zM) (p q e : Int32) (hr : zrg r) (hR : rH M r R) (hrow : R[j]? = some row) (hp : p.toInt.natAbs ≤ 10000) (hq : q.toInt.natAbs ≤ 10000) (he : e.toInt.natAbs ≤ 1000) : zMet l mR_rowHasPoint rR_rowHasPoint [.ref r, .int (nI j), .int p, .int q, .int e] M (zqi (fun x M' => (x = 0 ∨ x = 1) ∧ (x = 1 ↔ ∀ m ∈ row, gHat m p.toInt q.toInt e.toInt) ∧ M' = M)) := by
  refine za_enter (by decide) (Nat.le_of_ble_eq_true rfl) (fun X hc => ?_)
  have hro := hr.o
  have hrz := hr.z
  have hrn := hr.n
  obtain ⟨hw1, hw2, hw3, hw4⟩ := hR.2.2 j row hrow
  have hjl : j < 12 := by have := (List.getElem?_eq_some_iff.mp hrow).1; have := hR.2.1; omega
  have loop : ∀ n i, n + i = row.length → (∀ k m, k < i → row[k]? = some m → gHat m p.toInt q.toInt e.toInt) → zW X (zqi (fun x M' => (x = 0 ∨ x = 1) ∧ (x = 1 ↔ ∀ m ∈ row, gHat m p.toInt q.toInt e.toInt) ∧ M' = M)) (0, 0) 3 [(0, .ref r), (1, .int (nI j)), (2, .int p), (3, .int q), (4, .int e), (5, .int (nI i))] [] M := by
    intro n
    induction n with
    | zero =>
      intro i hn hall
      refine za_iload hc dR_rowHasPoint_3 rfl ?_
      refine za_aload_n hc dR_rowHasPoint_5 rfl ?_
      refine za_getS hc gfR_11 (by assumption) dR_rowHasPoint_6 ?_
      refine za_iload_n hc dR_rowHasPoint_9 rfl ?_
      refine za_iald hc (by assumption) dR_rowHasPoint_10 (vp_in_nI hjl (by decide)) ?_
      rw [nI_clamp (show j < 2 ^ 31 by omega), hw2]
      refine za_icmp_ge 79 hc dR_rowHasPoint_11 rfl (fun h_11 => ?_) (fun h_11 => ?_)
      · skip
        refine za_iconst hc 1 dR_rowHasPoint_79 rfl ?_
        exact za_zret hc rfl (rfl) dR_rowHasPoint_80 ⟨Nat.zero_le _, Nat.zero_le _⟩ (⟨1, rfl, Or.inr rfl, ⟨fun _ m hm => by
        obtain ⟨k, hk⟩ := List.getElem?_of_mem hm
        exact hall k m (by have := (List.getElem?_eq_some_iff.mp hk).1; omega) hk, fun _ => rfl⟩, rfl⟩)
      · skip
        exact absurd ((nI_leI (by omega) (by omega)).mpr (show row.length ≤ i by omega)) h_11
    | succ n ih =>
      intro i hn hall
      have hi : i < row.length := by omega
      have hi12 : i < 12 := by omega
      have hri := List.getElem?_eq_getElem (l := row) hi
      have e1 := hw3 i _ hri
      have hlm := hw4 _ (List.getElem_mem hi)
      rw [← e1] at hlm
      have b1 : (zI M (r + 2) (48 * j + 4 * i)).toInt.natAbs ≤ 10000 := hlm.1
      have b2 : (zI M (r + 2) (48 * j + 4 * i + 1)).toInt.natAbs ≤ 10000 := hlm.2.1
      have b3 : (zI M (r + 2) (48 * j + 4 * i + 2)).toInt.natAbs ≤ 10000 := hlm.2.2
      have p1 := g_mulb (A := 10000) (B := 10000) (a := (zI M (r + 2) (48 * j + 4 * i)).toInt) (b := p.toInt) (by omega) (by omega)
      have p2 := g_mulb (A := 10000) (B := 10000) (a := (zI M (r + 2) (48 * j + 4 * i + 1)).toInt) (b := q.toInt) (by omega) (by omega)
      have p3 := g_mulb (A := 10000) (B := 10000) (a := (zI M (r + 2) (48 * j + 4 * i + 2)).toInt) (b := e.toInt) (by omega) (by omega)
      have m1 := i_mul (x := (zI M (r + 2) (48 * j + 4 * i))) (y := p) (by omega) (by omega)
      have m2 := i_mul (x := (zI M (r + 2) (48 * j + 4 * i + 1))) (y := q) (by omega) (by omega)
      have m3 := i_mul (x := (zI M (r + 2) (48 * j + 4 * i + 2))) (y := e) (by omega) (by omega)
      have m4 : ((zI M (r + 2) (48 * j + 4 * i)) * p + (zI M (r + 2) (48 * j + 4 * i + 1)) * q).toInt = (zI M (r + 2) (48 * j + 4 * i)).toInt * p.toInt + (zI M (r + 2) (48 * j + 4 * i + 1)).toInt * q.toInt := by rw [i_add (by omega) (by omega), m1, m2]
      have hno : ¬ gHat (rg M r j i) p.toInt q.toInt e.toInt → ¬ ∀ m ∈ row, gHat m p.toInt q.toInt e.toInt := fun h1 h2 => h1 (by rw [e1]; exact h2 _ (List.getElem_mem hi))
      refine za_iload hc dR_rowHasPoint_3 rfl ?_
      refine za_aload_n hc dR_rowHasPoint_5 rfl ?_
      refine za_getS hc gfR_11 (by assumption) dR_rowHasPoint_6 ?_
      refine za_iload_n hc dR_rowHasPoint_9 rfl ?_
      refine za_iald hc (by assumption) dR_rowHasPoint_10 (vp_in_nI hjl (by decide)) ?_
      rw [nI_clamp (show j < 2 ^ 31 by omega), hw2]
      refine za_icmp_ge 79 hc dR_rowHasPoint_11 rfl (fun h_11 => ?_) (fun h_11 => ?_)
      · skip
        exact absurd ((nI_leI (by omega) (by omega)).mp h_11) (by omega)
      · skip
        refine za_aload_n hc dR_rowHasPoint_14 rfl ?_
        refine za_iload_n hc dR_rowHasPoint_15 rfl ?_
        refine za_iload hc dR_rowHasPoint_16 rfl ?_
        refine za_cV2i hc gsR_56 (by assumption) (cR_x_ l M hr hjl hi12) ⟨rfl, rfl⟩ ⟨Nat.le_of_ble_eq_true rfl, Nat.le_of_ble_eq_true rfl⟩ ⟨Nat.zero_le _, Nat.zero_le _⟩ dR_rowHasPoint_18 (fun x_18 M_18 h_18 => ?_)
        obtain ⟨q_18, hm_18⟩ := h_18
        rw [hm_18, q_18]
        refine za_iload_n hc dR_rowHasPoint_21 rfl ?_
        refine za_imul hc dR_rowHasPoint_22 ?_
        refine za_aload_n hc dR_rowHasPoint_23 rfl ?_
        refine za_iload_n hc dR_rowHasPoint_24 rfl ?_
        refine za_iload hc dR_rowHasPoint_25 rfl ?_
        refine za_cV2i hc gsR_63 (by assumption) (cR_y_ l M hr hjl hi12) ⟨rfl, rfl⟩ ⟨Nat.le_of_ble_eq_true rfl, Nat.le_of_ble_eq_true rfl⟩ ⟨Nat.zero_le _, Nat.zero_le _⟩ dR_rowHasPoint_27 (fun x_27 M_27 h_27 => ?_)
        obtain ⟨q_27, hm_27⟩ := h_27
        rw [hm_27, q_27]
        refine za_iload_n hc dR_rowHasPoint_30 rfl ?_
        refine za_imul hc dR_rowHasPoint_31 ?_
        refine za_iadd hc dR_rowHasPoint_32 ?_
        refine za_istore hc dR_rowHasPoint_33 (by decide) ?_
        refine za_aload_n hc dR_rowHasPoint_35 rfl ?_
        refine za_iload_n hc dR_rowHasPoint_36 rfl ?_
        refine za_iload hc dR_rowHasPoint_37 rfl ?_
        refine za_cV2i hc gsR_68 (by assumption) (cR_bound_ l M hr hjl hi12) ⟨rfl, rfl⟩ ⟨Nat.le_of_ble_eq_true rfl, Nat.le_of_ble_eq_true rfl⟩ ⟨Nat.zero_le _, Nat.zero_le _⟩ dR_rowHasPoint_39 (fun x_39 M_39 h_39 => ?_)
        obtain ⟨q_39, hm_39⟩ := h_39
        rw [hm_39, q_39]
        refine za_iload hc dR_rowHasPoint_42 rfl ?_
        refine za_imul hc dR_rowHasPoint_44 ?_
        refine za_istore hc dR_rowHasPoint_45 (by decide) ?_
        refine za_iload hc dR_rowHasPoint_47 rfl ?_
        refine za_iload hc dR_rowHasPoint_49 rfl ?_
        refine za_icmp_gt 71 hc dR_rowHasPoint_51 rfl (fun h_51 => ?_) (fun h_51 => ?_)
        · skip
          rw [Int32.lt_iff_toInt_lt, m4, m3] at h_51
          have hx : ¬ gHat (rg M r j i) p.toInt q.toInt e.toInt := by unfold gHat rg; simp only; omega
          refine za_iconst hc 0 dR_rowHasPoint_71 rfl ?_
          exact za_zret hc rfl (rfl) dR_rowHasPoint_72 ⟨Nat.zero_le _, Nat.zero_le _⟩ (⟨0, rfl, Or.inl rfl, ⟨fun z => absurd z (by decide), fun z => absurd z (hno hx)⟩, rfl⟩)
        · skip
          rw [Int32.lt_iff_toInt_lt, m4, m3] at h_51
          refine za_iload hc dR_rowHasPoint_54 rfl ?_
          refine za_iload hc dR_rowHasPoint_56 rfl ?_
          refine za_icmp_ne 73 hc dR_rowHasPoint_58 rfl (fun h_58 => ?_) (fun h_58 => ?_)
          · skip
            rw [← Int32.toInt_inj, m4, m3] at h_58
            have hy : gHat (rg M r j i) p.toInt q.toInt e.toInt := by unfold gHat rg; simp only; omega
            refine za_iinc hc _ dR_rowHasPoint_73 rfl ((nI_succ i).symm) (by decide) ?_
            refine za_goto 3 hc dR_rowHasPoint_76 rfl ?_
            refine za_take 6 ?_
            refine ih (i + 1) (by omega) (fun k m hk hkm => ?_)
            by_cases c : k < i
            · exact hall k m c hkm
            · obtain rfl : k = i := by omega
              rw [hri] at hkm; rw [← Option.some.inj hkm, ← e1]; exact hy
          · skip
            rw [← Int32.toInt_inj, m4, m3] at h_58
            refine za_aload_n hc dR_rowHasPoint_61 rfl ?_
            refine za_iload_n hc dR_rowHasPoint_62 rfl ?_
            refine za_iload hc dR_rowHasPoint_63 rfl ?_
            refine za_cV2i hc gsR_73 (by assumption) (cR_isStrict_ l M hr hjl hi12) ⟨rfl, rfl⟩ ⟨Nat.le_of_ble_eq_true rfl, Nat.le_of_ble_eq_true rfl⟩ ⟨Nat.zero_le _, Nat.zero_le _⟩ dR_rowHasPoint_65 (fun x_65 M_65 h_65 => ?_)
            obtain ⟨q_65, hm_65⟩ := h_65
            rw [hm_65, q_65]
            refine za_if_eq 73 hc dR_rowHasPoint_68 rfl (fun h_68 => ?_) (fun h_68 => ?_)
            · skip
              have hy : gHat (rg M r j i) p.toInt q.toInt e.toInt := Or.inr ⟨h_58, by
                show (zI M (r + 2) (48 * j + 4 * i + 3) == 1) = false
                by_cases z : zI M (r + 2) (48 * j + 4 * i + 3) = 1
                · rw [if_pos z] at h_68; exact absurd h_68 (by decide)
                · simp [z]⟩
              refine za_iinc hc _ dR_rowHasPoint_73 rfl ((nI_succ i).symm) (by decide) ?_
              refine za_goto 3 hc dR_rowHasPoint_76 rfl ?_
              refine za_take 6 ?_
              refine ih (i + 1) (by omega) (fun k m hk hkm => ?_)
              by_cases c : k < i
              · exact hall k m c hkm
              · obtain rfl : k = i := by omega
                rw [hri] at hkm; rw [← Option.some.inj hkm, ← e1]; exact hy
            · skip
              have hx : ¬ gHat (rg M r j i) p.toInt q.toInt e.toInt := fun z => by
                rcases z with z | ⟨z1, z2⟩
                · unfold rg at z; simp only at z; omega
                · have z3 : (zI M (r + 2) (48 * j + 4 * i + 3) == 1) = false := z2
                  exact h_68 (if_neg (fun w => by rw [w] at z3; exact absurd z3 (by decide)))
              refine za_iconst hc 0 dR_rowHasPoint_71 rfl ?_
              exact za_zret hc rfl (rfl) dR_rowHasPoint_72 ⟨Nat.zero_le _, Nat.zero_le _⟩ (⟨0, rfl, Or.inl rfl, ⟨fun z => absurd z (by decide), fun z => absurd z (hno hx)⟩, rfl⟩)
  refine za_iconst hc 0 dR_rowHasPoint_0 rfl ?_
  refine za_istore hc dR_rowHasPoint_1 (by decide) ?_
  exact loop row.length 0 (by omega) (fun k m hk => absurd hk (Nat.not_lt_zero _))

set_option maxRecDepth 100000 in
set_option maxHeartbeats 4000000 in
theorem cR_hasPoint_ (l : Launch) {r : Nat} {R : List (List gC)} (M : zM) (p q e : Int32) (hr : zrg r) (hR : rH M r R) (hp : p.toInt.natAbs ≤ 10000) (hq : q.toInt.natAbs ≤ 10000) (he : e.toInt.natAbs ≤ 1000) : zMet l mR_hasPoint rR_hasPoint [.ref r, .int p, .int q, .int e] M (zqi (fun x M' => (x = 0 ∨ x = 1) ∧ (x = 1 ↔ ∃ row ∈ R, ∀ m ∈ row, gHat m p.toInt q.toInt e.toInt) ∧ M' = M)) := by
  refine za_enter (by decide) (Nat.le_of_ble_eq_true rfl) (fun X hc => ?_)
  have hro := hr.o
  have hrz := hr.z
  have hrn := hr.n
  have hl := hR.2.1
  have loop : ∀ n i, n + i = R.length → (∀ k row, k < i → R[k]? = some row → ¬ ∀ m ∈ row, gHat m p.toInt q.toInt e.toInt) → zW X (zqi (fun x M' => (x = 0 ∨ x = 1) ∧ (x = 1 ↔ ∃ row ∈ R, ∀ m ∈ row, gHat m p.toInt q.toInt e.toInt) ∧ M' = M)) (0, 0) 3 [(0, .ref r), (1, .int p), (2, .int q), (3, .int e), (4, .int (nI i))] [] M := by
    intro n
    induction n with
    | zero =>
      intro i hn hall
      refine za_iload hc dR_hasPoint_3 rfl ?_
      refine za_aload_n hc dR_hasPoint_5 rfl ?_
      refine za_getI hc gfR_18 (by assumption) dR_hasPoint_6 ?_
      rw [hR.1]
      refine za_icmp_ge 32 hc dR_hasPoint_9 rfl (fun h_9 => ?_) (fun h_9 => ?_)
      · skip
        refine za_iconst hc 0 dR_hasPoint_32 rfl ?_
        exact za_zret hc rfl (rfl) dR_hasPoint_33 ⟨Nat.zero_le _, Nat.zero_le _⟩ (⟨0, rfl, Or.inl rfl, ⟨fun z => absurd z (by decide), fun ⟨row, h1, h2⟩ => by
        obtain ⟨k, hk⟩ := List.getElem?_of_mem h1
        exact absurd h2 (hall k row (by have := (List.getElem?_eq_some_iff.mp hk).1; omega) hk)⟩, rfl⟩)
      · skip
        exact absurd ((nI_leI (by omega) (by omega)).mpr (show R.length ≤ i by omega)) h_9
    | succ n ih =>
      intro i hn hall
      have hri := List.getElem?_eq_getElem (l := R) (show i < R.length by omega)
      refine za_iload hc dR_hasPoint_3 rfl ?_
      refine za_aload_n hc dR_hasPoint_5 rfl ?_
      refine za_getI hc gfR_18 (by assumption) dR_hasPoint_6 ?_
      rw [hR.1]
      refine za_icmp_ge 32 hc dR_hasPoint_9 rfl (fun h_9 => ?_) (fun h_9 => ?_)
      · skip
        exact absurd ((nI_leI (by omega) (by omega)).mp h_9) (by omega)
      · skip
        refine za_aload_n hc dR_hasPoint_12 rfl ?_
        refine za_iload hc dR_hasPoint_13 rfl ?_
        refine za_iload_n hc dR_hasPoint_15 rfl ?_
        refine za_iload_n hc dR_hasPoint_16 rfl ?_
        refine za_iload_n hc dR_hasPoint_17 rfl ?_
        refine za_cV4i hc gsR_84 (by assumption) (cR_rowHasPoint_ l M p q e hr hR hri hp hq he) ⟨rfl, rfl⟩ ⟨Nat.le_of_ble_eq_true rfl, Nat.le_of_ble_eq_true rfl⟩ ⟨Nat.zero_le _, Nat.zero_le _⟩ dR_hasPoint_18 (fun x_18 M_18 h_18 => ?_)
        obtain ⟨k1, k2, hm_18⟩ := h_18
        rw [hm_18]
        refine za_if_eq 26 hc dR_hasPoint_21 rfl (fun h_21 => ?_) (fun h_21 => ?_)
        · skip
          refine za_iinc hc _ dR_hasPoint_26 rfl ((nI_succ i).symm) (by decide) ?_
          refine za_goto 3 hc dR_hasPoint_29 rfl ?_
          refine ih (i + 1) (by omega) (fun k row hk hkr => ?_)
          by_cases c : k < i
          · exact hall k row c hkr
          · obtain rfl : k = i := by omega
            rw [hri] at hkr; rw [← Option.some.inj hkr]; exact fun z => absurd (k2.mpr z) (by rw [h_21]; decide)
        · skip
          refine za_iconst hc 1 dR_hasPoint_24 rfl ?_
          exact za_zret hc rfl (rfl) dR_hasPoint_25 ⟨Nat.zero_le _, Nat.zero_le _⟩ (⟨1, rfl, Or.inr rfl, ⟨fun _ => ⟨_, List.getElem_mem _, k2.mp (k1.resolve_left h_21)⟩, fun _ => rfl⟩, rfl⟩)
  refine za_iconst hc 0 dR_hasPoint_0 rfl ?_
  refine za_istore hc dR_hasPoint_1 (by decide) ?_
  exact loop R.length 0 (by omega) (fun k row hk => absurd hk (Nat.not_lt_zero _))
end
section
/-! The workshop: AND, OR. -/
theorem gstr_lim {q m : gC} (hq : gLim q) (hm : gLim m) : gLim (gstr q m) := by
  unfold gstr
  split
  · exact ⟨hq.1, hq.2.1, hm.2.2⟩
  · split
    · exact ⟨hq.1, hq.2.1, hq.2.2⟩
    · exact hq
theorem gins_all {P : gC → Prop} {m : gC} (hm : P m) (hstr : ∀ q, P q → P (gstr q m)) : ∀ {ls : List gC}, (∀ q ∈ ls, P q) → ∀ q ∈ gins ls m, P q := by
  intro ls
  induction ls with
  | nil => intro _ q hq; rw [List.mem_singleton.mp hq]; exact hm
  | cons a t ih =>
    intro h q hq
    unfold gins at hq
    split at hq
    · rcases List.mem_cons.mp hq with e | e
      · rw [e]; exact h a List.mem_cons_self
      · exact ih (fun k hk => h k (List.mem_cons_of_mem _ hk)) q e
    · split at hq
      · rcases List.mem_cons.mp hq with e | e
        · rw [e]; exact hstr a (h a List.mem_cons_self)
        · exact h q (List.mem_cons_of_mem _ e)
      · rcases List.mem_cons.mp hq with e | e
        · rw [e]; exact hm
        · exact h q e
theorem gnorm_lim {m : gC} (hm : gLim m) : gLim (gnorm m) := by
  have h : ∀ (a : Int) (g : Nat), a.natAbs ≤ 10000 → (a.tdiv g).natAbs ≤ 10000 := fun a g h => Nat.le_of_lt_succ (g_tdivb (B := 10001) (by omega))
  exact ⟨h _ _ hm.1, h _ _ hm.2.1, h _ _ hm.2.2⟩
theorem gput_lim {ls : List gC} {m : gC} (h : ∀ q ∈ ls, gLim q) (hm : gLim m) : ∀ q ∈ gput ls m, gLim q := by
  unfold gput
  split
  · exact h
  · exact gins_all (gnorm_lim hm) (fun q hq => gstr_lim hq (gnorm_lim hm)) h
theorem gputs_lim {ms : List gC} : ∀ {ls : List gC}, (∀ q ∈ ls, gLim q) → (∀ q ∈ ms, gLim q) → ∀ q ∈ ms.foldl gput ls, gLim q := by
  induction ms with
  | nil => intro ls h _; exact h
  | cons m t ih => intro ls h hm; exact ih (gput_lim h (hm m List.mem_cons_self)) (fun q hq => hm q (List.mem_cons_of_mem _ hq))
noncomputable def gand1 (p : List gC) : List (List gC) → List (List gC) → Option (List (List gC))
  | acc, [] => some acc
  | acc, q :: t => match gadd acc ((p ++ q).foldl gput []) with
    | some a => gand1 p a t
    | none => none
noncomputable def gand2 (Q : List (List gC)) : List (List gC) → List (List gC) → Option (List (List gC))
  | acc, [] => some acc
  | acc, p :: t => match gand1 p acc Q with
    | some a => gand2 Q a t
    | none => none
noncomputable def gAnd (P Q : List (List gC)) : Option (List (List gC)) := gand2 Q [] P
noncomputable def gor1 : List (List gC) → List (List gC) → Option (List (List gC))
  | acc, [] => some acc
  | acc, q :: t => match gadd acc (q.foldl gput []) with
    | some a => gor1 a t
    | none => none
/-- the workshop's parts in order: where result and previous are, the draft fit for use -/
def wI (M : zM) : Prop := ((zR M 12 2 = 25 ∧ zR M 12 3 = 28) ∨ (zR M 12 2 = 28 ∧ zR M 12 3 = 25)) ∧ zbo M 13 ∧ sB M 18
theorem zrg_22 : zrg 22 := by unfold zrg; decide
theorem zrg_25 : zrg 25 := by unfold zrg; decide
theorem zrg_28 : zrg 28 := by unfold zrg; decide
theorem wI_res {M : zM} (h : wI M) : zrg (zR M 12 2) := by rcases h.1 with h | h <;> rw [h.1]; exact zrg_25; exact zrg_28
theorem wI_prv {M : zM} (h : wI M) : zrg (zR M 12 3) := by rcases h.1 with h | h <;> rw [h.2]; exact zrg_28; exact zrg_25
def wR (s : Nat) : Nat → Prop := fun k => dF 13 k ∨ rF s k
theorem zob_12 : zob 12 4 := ⟨by decide, by decide⟩
theorem wR_rg {s r b : Nat} (hs : zrg s) (hr : zrg r) (hne : r ≠ s) (hb : b ≤ 2) : ¬ wR s (r + b) := fun z => z.elim (dF_rg zdr_13 hr hb) (rF_rg hr hs hne hb)
theorem wR_12 {s : Nat} (hs : zrg s) : ¬ wR s 12 := fun z => z.elim (fun z => by have := z.1; omega) (fun z => by
  obtain ⟨-, h0, h1, h2⟩ := hs
  have hz : zlay 12 = (0, 4) := by decide
  rcases (show s = 12 ∨ s + 1 = 12 ∨ s + 2 = 12 by have := z.1; have := z.2; omega) with e | e | e
  · rw [e, hz] at h0; exact absurd h0 (by decide)
  · rw [e, hz] at h1; exact absurd h1 (by decide)
  · rw [e, hz] at h2; exact absurd h2 (by decide))
/-- what an operation answers: its region as the result, or that a limit is passed -/
def wP (M : zM) (s : Nat) (a : Option (List (List gC))) (x : Int32) (M' : zM) : Prop := (match a with | some R => x = 1 ∧ rH M' s R | none => x = 0) ∧ wI M' ∧ zR M' 12 = zR M 12 ∧ zfr (wR s) M M'
theorem wI_kept {P : Nat → Prop} {M M' : zM} (h : wI M) (hf : zfr P M M') (h12 : ¬ P 12) (hb : zbo M' 13) (hs : sB M' 18) : wI M' := ⟨by rw [(hf _ h12).2.2]; exact h.1, hb, hs⟩
theorem gok_row {ms : List gC} (h : ∀ q ∈ ms, gLim q) : gOK (ms.foldl gput []) := Or.inl (gputs_lim (fun q hq => by cases hq) h)

set_option maxRecDepth 100000 in
set_option maxHeartbeats 4000000 in
theorem cW_intersect_ (l : Launch) {p q : Nat} {P Q : List (List gC)} (M : zM) (hI : wI M) (hp : zrg p) (hq : zrg q) (hpn : p ≠ zR M 12 2) (hqn : q ≠ zR M 12 2) (hP : rH M p P) (hQ : rH M q Q) : zMet l mW_intersect rW_intersect [.ref 12, .ref p, .ref q] M (zqi (wP M (zR M 12 2) (gAnd P Q))) := by
  refine za_enter (by decide) (Nat.le_of_ble_eq_true rfl) (fun X hc => ?_)
  have hw := zob_12
  have hd := zdr_13
  have hdo := hd.o
  have hs := wI_res hI
  have hso := hs.o
  have hno : zob (12 + 1) 0 := hd.o
  have hpo := hp.o
  have hqo := hq.o
  have hpl := hP.2.1
  have hql := hQ.2.1
  have outer : ∀ (t : List (List gC)) (i : Nat) (acc : List (List gC)) (M1 : zM), P.drop i = t → i + t.length = P.length → gand2 Q acc t = gAnd P Q → rH M1 (zR M 12 2) acc → zbo M1 13 → sB M1 18 → zfr (wR (zR M 12 2)) M M1 → zW X (zqi (wP M (zR M 12 2) (gAnd P Q))) (0, 0) 9 [(0, .ref 12), (1, .ref p), (2, .ref q), (3, .int (nI i))] [] M1 := by
    intro t
    induction t with
    | nil =>
      intro i acc M1 hdr hn hg hR1 hb1 hs1 hf
      simp only [List.length_nil] at hn
      have e12 : zR M1 12 = zR M 12 := (hf _ (wR_12 hs)).2.2
      have hP1 : rH M1 p P := rH_kept hP hf (wR_rg hs hp hpn (b := 0) (by decide)) (wR_rg hs hp hpn (by decide)) (wR_rg hs hp hpn (by decide))
      have hQ1 : rH M1 q Q := rH_kept hQ hf (wR_rg hs hq hqn (b := 0) (by decide)) (wR_rg hs hq hqn (by decide)) (wR_rg hs hq hqn (by decide))
      refine za_iload_n hc dW_intersect_9 rfl ?_
      refine za_aload_n hc dW_intersect_10 rfl ?_
      refine za_cV0i hc gsW_32 (by assumption) (cR_rowCount_ l M1 hp) ⟨rfl, rfl⟩ ⟨Nat.le_of_ble_eq_true rfl, Nat.le_of_ble_eq_true rfl⟩ ⟨Nat.zero_le _, Nat.zero_le _⟩ dW_intersect_11 (fun x_11 M_11 h_11 => ?_)
      obtain ⟨q_11, hm_11⟩ := h_11
      rw [hm_11, q_11, hP1.1]
      refine za_icmp_ge 94 hc dW_intersect_14 rfl (fun h_14 => ?_) (fun h_14 => ?_)
      · skip
        refine za_iconst hc 1 dW_intersect_94 rfl ?_
        exact za_zret hc rfl (rfl) dW_intersect_95 ⟨Nat.zero_le _, Nat.zero_le _⟩ (⟨1, rfl, by rw [← hg]; exact ⟨rfl, hR1⟩, wI_kept hI hf (wR_12 hs) hb1 hs1, e12, hf⟩)
      · skip
        exact absurd ((nI_leI (by omega) (by omega)).mpr (show P.length ≤ i by omega)) h_14
    | cons pr t ih =>
      intro i acc M1 hdr hn hg hR1 hb1 hs1 hf
      simp only [List.length_cons] at hn
      have hpi : P[i]? = some pr := by rw [← List.head?_drop, hdr]; rfl
      have hdr2 : P.drop (i + 1) = t := by rw [← List.drop_drop, hdr]; rfl
      have inner : ∀ (u : List (List gC)) (j : Nat) (acc : List (List gC)) (M1 : zM), Q.drop j = u → j + u.length = Q.length → (match gand1 pr acc u with | some a => gand2 Q a t | none => none) = gAnd P Q → rH M1 (zR M 12 2) acc → zbo M1 13 → sB M1 18 → zfr (wR (zR M 12 2)) M M1 → zW X (zqi (wP M (zR M 12 2) (gAnd P Q))) (0, 0) 20 [(0, .ref 12), (1, .ref p), (2, .ref q), (3, .int (nI i)), (4, .int (nI j))] [] M1 := by
        clear hg hR1 hb1 hs1 hf M1 acc
        intro u
        induction u with
        | nil =>
          intro j acc M1 hdu hm hg hR1 hb1 hs1 hf
          simp only [List.length_nil] at hm
          have e12 : zR M1 12 = zR M 12 := (hf _ (wR_12 hs)).2.2
          have hP1 : rH M1 p P := rH_kept hP hf (wR_rg hs hp hpn (b := 0) (by decide)) (wR_rg hs hp hpn (by decide)) (wR_rg hs hp hpn (by decide))
          have hQ1 : rH M1 q Q := rH_kept hQ hf (wR_rg hs hq hqn (b := 0) (by decide)) (wR_rg hs hq hqn (by decide)) (wR_rg hs hq hqn (by decide))
          refine za_iload hc dW_intersect_20 rfl ?_
          refine za_aload_n hc dW_intersect_22 rfl ?_
          refine za_cV0i hc gsW_32 (by assumption) (cR_rowCount_ l M1 hq) ⟨rfl, rfl⟩ ⟨Nat.le_of_ble_eq_true rfl, Nat.le_of_ble_eq_true rfl⟩ ⟨Nat.zero_le _, Nat.zero_le _⟩ dW_intersect_23 (fun x_23 M_23 h_23 => ?_)
          obtain ⟨q_23, hm_23⟩ := h_23
          rw [hm_23, q_23, hQ1.1]
          refine za_icmp_ge 88 hc dW_intersect_26 rfl (fun h_26 => ?_) (fun h_26 => ?_)
          · skip
            refine za_iinc hc _ dW_intersect_88 rfl ((nI_succ i).symm) (by decide) ?_
            refine za_goto 9 hc dW_intersect_91 rfl ?_
            refine za_take 4 ?_
            exact ih (i + 1) acc M1 hdr2 (by omega) hg hR1 hb1 hs1 hf
          · skip
            exact absurd ((nI_leI (by omega) (by omega)).mpr (show Q.length ≤ j by omega)) h_26
        | cons qr u ihu =>
          intro j acc M1 hdu hm hg hR1 hb1 hs1 hf
          simp only [List.length_cons] at hm
          have hqj : Q[j]? = some qr := by rw [← List.head?_drop, hdu]; rfl
          have hdu2 : Q.drop (j + 1) = u := by rw [← List.drop_drop, hdu]; rfl
          have e12 : zR M1 12 = zR M 12 := (hf _ (wR_12 hs)).2.2
          have hP1 : rH M1 p P := rH_kept hP hf (wR_rg hs hp hpn (b := 0) (by decide)) (wR_rg hs hp hpn (by decide)) (wR_rg hs hp hpn (by decide))
          have hQ1 : rH M1 q Q := rH_kept hQ hf (wR_rg hs hq hqn (b := 0) (by decide)) (wR_rg hs hq hqn (by decide)) (wR_rg hs hq hqn (by decide))
          obtain ⟨a1, a2, a3, a4⟩ := hP1.2.2 i pr hpi
          obtain ⟨b1, b2, b3, b4⟩ := hQ1.2.2 j qr hqj
          have hH2 := dH_clear (d := 13) hb1
          have hf2 : zfr (wR (zR M 12 2)) M (zsI M1 13 5 0) := hf.tr (zfr_sI (Or.inl ⟨by decide, by decide⟩))
          refine za_iload hc dW_intersect_20 rfl ?_
          refine za_aload_n hc dW_intersect_22 rfl ?_
          refine za_cV0i hc gsW_32 (by assumption) (cR_rowCount_ l M1 hq) ⟨rfl, rfl⟩ ⟨Nat.le_of_ble_eq_true rfl, Nat.le_of_ble_eq_true rfl⟩ ⟨Nat.zero_le _, Nat.zero_le _⟩ dW_intersect_23 (fun x_23 M_23 h_23 => ?_)
          obtain ⟨q_23, hm_23⟩ := h_23
          rw [hm_23, q_23, hQ1.1]
          refine za_icmp_ge 88 hc dW_intersect_26 rfl (fun h_26 => ?_) (fun h_26 => ?_)
          · skip
            exact absurd ((nI_leI (by omega) (by omega)).mp h_26) (by omega)
          · skip
            refine za_aload_n hc dW_intersect_29 rfl ?_
            refine za_getS hc gfW_10 (by assumption) dW_intersect_30 ?_
            refine za_cV0v hc gsW_36 (by assumption) (cD_clear_ l M1 hd) ⟨rfl, rfl⟩ ⟨Nat.le_of_ble_eq_true rfl, Nat.le_of_ble_eq_true rfl⟩ ⟨Nat.zero_le _, Nat.zero_le _⟩ dW_intersect_33 (fun M_33 h_33 => ?_)
            subst h_33
            have hP2 : rH (zsI M1 13 5 0) p P := rH_kept hP hf2 (wR_rg hs hp hpn (b := 0) (by decide)) (wR_rg hs hp hpn (by decide)) (wR_rg hs hp hpn (by decide))
            have hQ2 : rH (zsI M1 13 5 0) q Q := rH_kept hQ hf2 (wR_rg hs hq hqn (b := 0) (by decide)) (wR_rg hs hq hqn (by decide)) (wR_rg hs hq hqn (by decide))
            refine za_aload_n hc dW_intersect_36 rfl ?_
            refine za_iload_n hc dW_intersect_37 rfl ?_
            refine za_aload_n hc dW_intersect_38 rfl ?_
            refine za_iload_n hc dW_intersect_39 rfl ?_
            refine za_cV1i hc gsW_37 (by assumption) (cR_memberCount_ l (zsI M1 13 5 0) hp (show i < 12 by omega)) ⟨rfl, rfl⟩ ⟨Nat.le_of_ble_eq_true rfl, Nat.le_of_ble_eq_true rfl⟩ ⟨Nat.zero_le _, Nat.zero_le _⟩ dW_intersect_40 (fun x_40 M_40 h_40 => ?_)
            obtain ⟨q_40, hm_40⟩ := h_40
            rw [hm_40, q_40, (hP2.2.2 i pr hpi).2.1]
            refine za_aload_n hc dW_intersect_43 rfl ?_
            refine za_getS hc gfW_10 (by assumption) dW_intersect_44 ?_
            refine za_cV3v hc gsW_41 (by assumption) (cR_pour_ l (zsI M1 13 5 0) hp hd hP2 hpi (Nat.le_refl _) hH2 (by simp only [List.length_nil]; omega)) ⟨rfl, rfl⟩ ⟨Nat.le_of_ble_eq_true rfl, Nat.le_of_ble_eq_true rfl⟩ ⟨Nat.zero_le _, Nat.zero_le _⟩ dW_intersect_47 (fun M_47 h_47 => ?_)
            obtain ⟨g1, g2⟩ := h_47
            rw [List.take_length] at g1
            have hf3 : zfr (wR (zR M 12 2)) M M_47 := hf2.tr (g2.wk (fun k z => Or.inl (dB_F z)))
            have hQ3 : rH M_47 q Q := rH_kept hQ hf3 (wR_rg hs hq hqn (b := 0) (by decide)) (wR_rg hs hq hqn (by decide)) (wR_rg hs hq hqn (by decide))
            refine za_aload_n hc dW_intersect_50 rfl ?_
            refine za_iload hc dW_intersect_51 rfl ?_
            refine za_aload_n hc dW_intersect_53 rfl ?_
            refine za_iload hc dW_intersect_54 rfl ?_
            refine za_cV1i hc gsW_37 (by assumption) (cR_memberCount_ l M_47 hq (show j < 12 by omega)) ⟨rfl, rfl⟩ ⟨Nat.le_of_ble_eq_true rfl, Nat.le_of_ble_eq_true rfl⟩ ⟨Nat.zero_le _, Nat.zero_le _⟩ dW_intersect_56 (fun x_56 M_56 h_56 => ?_)
            obtain ⟨q_56, hm_56⟩ := h_56
            rw [hm_56, q_56, (hQ3.2.2 j qr hqj).2.1]
            refine za_aload_n hc dW_intersect_59 rfl ?_
            refine za_getS hc gfW_10 (by assumption) dW_intersect_60 ?_
            refine za_cV3v hc gsW_41 (by assumption) (cR_pour_ l M_47 hq hd hQ3 hqj (Nat.le_refl _) g1 (by have := g_put_len [] pr; simp only [List.length_nil] at this; omega)) ⟨rfl, rfl⟩ ⟨Nat.le_of_ble_eq_true rfl, Nat.le_of_ble_eq_true rfl⟩ ⟨Nat.zero_le _, Nat.zero_le _⟩ dW_intersect_63 (fun M_63 h_63 => ?_)
            obtain ⟨g3, g4⟩ := h_63
            rw [List.take_length, ← List.foldl_append] at g3
            have hf4 : zfr (wR (zR M 12 2)) M M_63 := hf3.tr (g4.wk (fun k z => Or.inl (dB_F z)))
            have hfd : zfr (dF 13) M1 M_63 := (zfr_sI ⟨by decide, by decide⟩).tr ((g2.wk (fun k => dB_F)).tr (g4.wk (fun k => dB_F)))
            have hfB : zfr (dB 13) M1 M_63 := (zfr_sI ⟨by decide, by decide⟩).tr (g2.tr g4)
            have e63 : zR M_63 12 = zR M 12 := (hf4 _ (wR_12 hs)).2.2
            have hR4 : rH M_63 (zR M 12 2) acc := rH_kept hR1 hfd (dF_rg hd hs (b := 0) (by decide)) (dF_rg hd hs (b := 1) (by decide)) (dF_rg hd hs (b := 2) (by decide))
            have hs4 : sB M_63 18 := sB_kept hs1 hfB (fun z => by have := z.2; omega) (fun z => by have := z.2; omega) (fun z => by have := z.2; omega)
            refine za_aload_n hc dW_intersect_66 rfl ?_
            refine za_getR hc gfW_23 (by assumption) dW_intersect_67 ?_
            rw [e63]
            refine za_aload_n hc dW_intersect_70 rfl ?_
            refine za_getS hc gfW_10 (by assumption) dW_intersect_71 ?_
            refine za_cV1i hc gsW_45 (by assumption) (cR_admit_ l M_63 hs hd hR4 g3 hs4 (gok_row (fun m hm => (List.mem_append.mp hm).elim (a4 m) (b4 m)))) ⟨rfl, rfl⟩ ⟨Nat.le_of_ble_eq_true rfl, Nat.le_of_ble_eq_true rfl⟩ ⟨Nat.zero_le _, Nat.zero_le _⟩ dW_intersect_74 (fun x_74 M_74 h_74 => ?_)
            obtain ⟨v1, v2, v3, v4⟩ := h_74
            have hf5 : zfr (wR (zR M 12 2)) M M_74 := hf4.tr v4
            refine za_if_ne 82 hc dW_intersect_77 rfl (fun h_77 => ?_) (fun h_77 => ?_)
            · skip
              refine za_iinc hc _ dW_intersect_82 rfl ((nI_succ j).symm) (by decide) ?_
              refine za_goto 20 hc dW_intersect_85 rfl ?_
              cases hga : gadd acc ((pr ++ qr).foldl gput []) with
              | none => rw [hga] at v1; exact absurd v1 h_77
              | some a =>
                rw [hga] at v1
                unfold gand1 at hg
                rw [hga] at hg
                exact ihu (j + 1) a M_74 hdu2 (by omega) hg v1.2 v2 v3 hf5
            · skip
              refine za_iconst hc 0 dW_intersect_80 rfl ?_
              exact za_zret hc rfl (rfl) dW_intersect_81 ⟨Nat.zero_le _, Nat.zero_le _⟩ (⟨0, rfl, by
              cases hga : gadd acc ((pr ++ qr).foldl gput []) with
              | none => unfold gand1 at hg; rw [hga] at hg; rw [← hg]
              | some a => rw [hga] at v1; rw [h_77] at v1; exact absurd v1.1 (by decide), wI_kept hI hf5 (wR_12 hs) v2 v3, (hf5 _ (wR_12 hs)).2.2, hf5⟩)
      have e12 : zR M1 12 = zR M 12 := (hf _ (wR_12 hs)).2.2
      have hP1 : rH M1 p P := rH_kept hP hf (wR_rg hs hp hpn (b := 0) (by decide)) (wR_rg hs hp hpn (by decide)) (wR_rg hs hp hpn (by decide))
      have hQ1 : rH M1 q Q := rH_kept hQ hf (wR_rg hs hq hqn (b := 0) (by decide)) (wR_rg hs hq hqn (by decide)) (wR_rg hs hq hqn (by decide))
      refine za_iload_n hc dW_intersect_9 rfl ?_
      refine za_aload_n hc dW_intersect_10 rfl ?_
      refine za_cV0i hc gsW_32 (by assumption) (cR_rowCount_ l M1 hp) ⟨rfl, rfl⟩ ⟨Nat.le_of_ble_eq_true rfl, Nat.le_of_ble_eq_true rfl⟩ ⟨Nat.zero_le _, Nat.zero_le _⟩ dW_intersect_11 (fun x_11 M_11 h_11 => ?_)
      obtain ⟨q_11, hm_11⟩ := h_11
      rw [hm_11, q_11, hP1.1]
      refine za_icmp_ge 94 hc dW_intersect_14 rfl (fun h_14 => ?_) (fun h_14 => ?_)
      · skip
        exact absurd ((nI_leI (by omega) (by omega)).mp h_14) (by omega)
      · skip
        refine za_iconst hc 0 dW_intersect_17 rfl ?_
        refine za_istore hc dW_intersect_18 (by decide) ?_
        exact inner Q 0 acc M1 rfl (by omega) (by unfold gand2 at hg; exact hg) hR1 hb1 hs1 hf
  refine za_aload_n hc dW_intersect_0 rfl ?_
  refine za_getR hc gfW_23 (by assumption) dW_intersect_1 ?_
  refine za_cV0v hc gsW_29 (by assumption) (cR_clear_ l M hs) ⟨rfl, rfl⟩ ⟨Nat.le_of_ble_eq_true rfl, Nat.le_of_ble_eq_true rfl⟩ ⟨Nat.zero_le _, Nat.zero_le _⟩ dW_intersect_4 (fun M_4 h_4 => ?_)
  subst h_4
  refine za_iconst hc 0 dW_intersect_7 rfl ?_
  refine za_istore_n hc dW_intersect_8 (by decide) ?_
  exact outer P 0 [] _ rfl (by omega) rfl rH_clear (zfr_bo (zfr_sI (P := rF (zR M 12 2)) ⟨Nat.le_refl _, by omega⟩) (rF_dr hd hs (a := 4) (by decide)) hI.2.1) (sB_kept hI.2.2 (zfr_sI (P := rF (zR M 12 2)) ⟨Nat.le_refl _, by omega⟩) (rF_dr hd hs (a := 6) (by decide)) (rF_dr hd hs (a := 7) (by decide)) (rF_dr hd hs (a := 8) (by decide))) (zfr_sI (Or.inr ⟨Nat.le_refl _, by omega⟩))

set_option maxRecDepth 100000 in
set_option maxHeartbeats 4000000 in
theorem cW_unite_ (l : Launch) {p q : Nat} {P Q : List (List gC)} (M : zM) (hI : wI M) (hp : zrg p) (hq : zrg q) (hpn : p ≠ zR M 12 2) (hqn : q ≠ zR M 12 2) (hP : rH M p P) (hQ : rH M q Q) : zMet l mW_unite rW_unite [.ref 12, .ref p, .ref q] M (zqi (wP M (zR M 12 2) (gor1 P Q))) := by
  refine za_enter (by decide) (Nat.le_of_ble_eq_true rfl) (fun X hc => ?_)
  have hw := zob_12
  have hd := zdr_13
  have hdo := hd.o
  have hs := wI_res hI
  have hso := hs.o
  have hno : zob (12 + 1) 0 := hd.o
  have hpo := hp.o
  have hqo := hq.o
  have hql := hQ.2.1
  have loop : ∀ (u : List (List gC)) (j : Nat) (acc : List (List gC)) (M1 : zM), Q.drop j = u → j + u.length = Q.length → gor1 acc u = gor1 P Q → rH M1 (zR M 12 2) acc → zbo M1 13 → sB M1 18 → zfr (wR (zR M 12 2)) M M1 → zW X (zqi (wP M (zR M 12 2) (gor1 P Q))) (0, 0) 10 [(0, .ref 12), (1, .ref p), (2, .ref q), (3, .int (nI j))] [] M1 := by
    intro u
    induction u with
    | nil =>
      intro j acc M1 hdu hm hg hR1 hb1 hs1 hf
      simp only [List.length_nil] at hm
      have e12 : zR M1 12 = zR M 12 := (hf _ (wR_12 hs)).2.2
      have hQ1 : rH M1 q Q := rH_kept hQ hf (wR_rg hs hq hqn (b := 0) (by decide)) (wR_rg hs hq hqn (by decide)) (wR_rg hs hq hqn (by decide))
      refine za_iload_n hc dW_unite_10 rfl ?_
      refine za_aload_n hc dW_unite_11 rfl ?_
      refine za_cV0i hc gsW_32 (by assumption) (cR_rowCount_ l M1 hq) ⟨rfl, rfl⟩ ⟨Nat.le_of_ble_eq_true rfl, Nat.le_of_ble_eq_true rfl⟩ ⟨Nat.zero_le _, Nat.zero_le _⟩ dW_unite_12 (fun x_12 M_12 h_12 => ?_)
      obtain ⟨q_12, hm_12⟩ := h_12
      rw [hm_12, q_12, hQ1.1]
      refine za_icmp_ge 61 hc dW_unite_15 rfl (fun h_15 => ?_) (fun h_15 => ?_)
      · skip
        refine za_iconst hc 1 dW_unite_61 rfl ?_
        exact za_zret hc rfl (rfl) dW_unite_62 ⟨Nat.zero_le _, Nat.zero_le _⟩ (⟨1, rfl, by rw [← hg]; exact ⟨rfl, hR1⟩, wI_kept hI hf (wR_12 hs) hb1 hs1, e12, hf⟩)
      · skip
        exact absurd ((nI_leI (by omega) (by omega)).mpr (show Q.length ≤ j by omega)) h_15
    | cons qr u ihu =>
      intro j acc M1 hdu hm hg hR1 hb1 hs1 hf
      simp only [List.length_cons] at hm
      have hqj : Q[j]? = some qr := by rw [← List.head?_drop, hdu]; rfl
      have hdu2 : Q.drop (j + 1) = u := by rw [← List.drop_drop, hdu]; rfl
      have e12 : zR M1 12 = zR M 12 := (hf _ (wR_12 hs)).2.2
      have hQ1 : rH M1 q Q := rH_kept hQ hf (wR_rg hs hq hqn (b := 0) (by decide)) (wR_rg hs hq hqn (by decide)) (wR_rg hs hq hqn (by decide))
      obtain ⟨b1, b2, b3, b4⟩ := hQ1.2.2 j qr hqj
      have hH2 := dH_clear (d := 13) hb1
      have hf2 : zfr (wR (zR M 12 2)) M (zsI M1 13 5 0) := hf.tr (zfr_sI (Or.inl ⟨by decide, by decide⟩))
      refine za_iload_n hc dW_unite_10 rfl ?_
      refine za_aload_n hc dW_unite_11 rfl ?_
      refine za_cV0i hc gsW_32 (by assumption) (cR_rowCount_ l M1 hq) ⟨rfl, rfl⟩ ⟨Nat.le_of_ble_eq_true rfl, Nat.le_of_ble_eq_true rfl⟩ ⟨Nat.zero_le _, Nat.zero_le _⟩ dW_unite_12 (fun x_12 M_12 h_12 => ?_)
      obtain ⟨q_12, hm_12⟩ := h_12
      rw [hm_12, q_12, hQ1.1]
      refine za_icmp_ge 61 hc dW_unite_15 rfl (fun h_15 => ?_) (fun h_15 => ?_)
      · skip
        exact absurd ((nI_leI (by omega) (by omega)).mp h_15) (by omega)
      · skip
        refine za_aload_n hc dW_unite_18 rfl ?_
        refine za_getS hc gfW_10 (by assumption) dW_unite_19 ?_
        refine za_cV0v hc gsW_36 (by assumption) (cD_clear_ l M1 hd) ⟨rfl, rfl⟩ ⟨Nat.le_of_ble_eq_true rfl, Nat.le_of_ble_eq_true rfl⟩ ⟨Nat.zero_le _, Nat.zero_le _⟩ dW_unite_22 (fun M_22 h_22 => ?_)
        subst h_22
        have hQ2 : rH (zsI M1 13 5 0) q Q := rH_kept hQ hf2 (wR_rg hs hq hqn (b := 0) (by decide)) (wR_rg hs hq hqn (by decide)) (wR_rg hs hq hqn (by decide))
        refine za_aload_n hc dW_unite_25 rfl ?_
        refine za_iload_n hc dW_unite_26 rfl ?_
        refine za_aload_n hc dW_unite_27 rfl ?_
        refine za_iload_n hc dW_unite_28 rfl ?_
        refine za_cV1i hc gsW_37 (by assumption) (cR_memberCount_ l (zsI M1 13 5 0) hq (show j < 12 by omega)) ⟨rfl, rfl⟩ ⟨Nat.le_of_ble_eq_true rfl, Nat.le_of_ble_eq_true rfl⟩ ⟨Nat.zero_le _, Nat.zero_le _⟩ dW_unite_29 (fun x_29 M_29 h_29 => ?_)
        obtain ⟨q_29, hm_29⟩ := h_29
        rw [hm_29, q_29, (hQ2.2.2 j qr hqj).2.1]
        refine za_aload_n hc dW_unite_32 rfl ?_
        refine za_getS hc gfW_10 (by assumption) dW_unite_33 ?_
        refine za_cV3v hc gsW_41 (by assumption) (cR_pour_ l (zsI M1 13 5 0) hq hd hQ2 hqj (Nat.le_refl _) hH2 (by simp only [List.length_nil]; omega)) ⟨rfl, rfl⟩ ⟨Nat.le_of_ble_eq_true rfl, Nat.le_of_ble_eq_true rfl⟩ ⟨Nat.zero_le _, Nat.zero_le _⟩ dW_unite_36 (fun M_36 h_36 => ?_)
        obtain ⟨g3, g4⟩ := h_36
        rw [List.take_length] at g3
        have hf4 : zfr (wR (zR M 12 2)) M M_36 := hf2.tr (g4.wk (fun k z => Or.inl (dB_F z)))
        have hfd : zfr (dF 13) M1 M_36 := (zfr_sI ⟨by decide, by decide⟩).tr (g4.wk (fun k => dB_F))
        have hfB : zfr (dB 13) M1 M_36 := (zfr_sI ⟨by decide, by decide⟩).tr g4
        have e36 : zR M_36 12 = zR M 12 := (hf4 _ (wR_12 hs)).2.2
        have hR4 : rH M_36 (zR M 12 2) acc := rH_kept hR1 hfd (dF_rg hd hs (b := 0) (by decide)) (dF_rg hd hs (b := 1) (by decide)) (dF_rg hd hs (b := 2) (by decide))
        have hs4 : sB M_36 18 := sB_kept hs1 hfB (fun z => by have := z.2; omega) (fun z => by have := z.2; omega) (fun z => by have := z.2; omega)
        refine za_aload_n hc dW_unite_39 rfl ?_
        refine za_getR hc gfW_23 (by assumption) dW_unite_40 ?_
        rw [e36]
        refine za_aload_n hc dW_unite_43 rfl ?_
        refine za_getS hc gfW_10 (by assumption) dW_unite_44 ?_
        refine za_cV1i hc gsW_45 (by assumption) (cR_admit_ l M_36 hs hd hR4 g3 hs4 (gok_row b4)) ⟨rfl, rfl⟩ ⟨Nat.le_of_ble_eq_true rfl, Nat.le_of_ble_eq_true rfl⟩ ⟨Nat.zero_le _, Nat.zero_le _⟩ dW_unite_47 (fun x_47 M_47 h_47 => ?_)
        obtain ⟨v1, v2, v3, v4⟩ := h_47
        have hf5 : zfr (wR (zR M 12 2)) M M_47 := hf4.tr v4
        refine za_if_ne 55 hc dW_unite_50 rfl (fun h_50 => ?_) (fun h_50 => ?_)
        · skip
          refine za_iinc hc _ dW_unite_55 rfl ((nI_succ j).symm) (by decide) ?_
          refine za_goto 10 hc dW_unite_58 rfl ?_
          cases hga : gadd acc (qr.foldl gput []) with
          | none => rw [hga] at v1; exact absurd v1 h_50
          | some a =>
            rw [hga] at v1
            have hg : (match gadd acc (qr.foldl gput []) with | some a => gor1 a u | none => none) = gor1 P Q := hg
            rw [hga] at hg
            exact ihu (j + 1) a M_47 hdu2 (by omega) hg v1.2 v2 v3 hf5
        · skip
          refine za_iconst hc 0 dW_unite_53 rfl ?_
          exact za_zret hc rfl (rfl) dW_unite_54 ⟨Nat.zero_le _, Nat.zero_le _⟩ (⟨0, rfl, by
          cases hga : gadd acc (qr.foldl gput []) with
          | none => have hg : (match gadd acc (qr.foldl gput []) with | some a => gor1 a u | none => none) = gor1 P Q := hg; rw [hga] at hg; rw [← hg]
          | some a => rw [hga] at v1; rw [h_50] at v1; exact absurd v1.1 (by decide), wI_kept hI hf5 (wR_12 hs) v2 v3, (hf5 _ (wR_12 hs)).2.2, hf5⟩)
  refine za_aload_n hc dW_unite_0 rfl ?_
  refine za_getR hc gfW_23 (by assumption) dW_unite_1 ?_
  refine za_aload_n hc dW_unite_4 rfl ?_
  refine za_cV1v hc gsW_49 (by assumption) (cR_copy_ l M hs hp hpn hP) ⟨rfl, rfl⟩ ⟨Nat.le_of_ble_eq_true rfl, Nat.le_of_ble_eq_true rfl⟩ ⟨Nat.zero_le _, Nat.zero_le _⟩ dW_unite_5 (fun M_5 h_5 => ?_)
  obtain ⟨c1, c2⟩ := h_5
  refine za_iconst hc 0 dW_unite_8 rfl ?_
  refine za_istore_n hc dW_unite_9 (by decide) ?_
  have hfw : zfr (wR (zR M 12 2)) M M_5 := c2.wk (fun k => Or.inr)
  exact loop Q 0 P M_5 rfl (by omega) rfl c1 (zfr_bo c2 (rF_dr hd hs (a := 4) (by decide)) hI.2.1) (sB_kept hI.2.2 c2 (rF_dr hd hs (a := 6) (by decide)) (rF_dr hd hs (a := 7) (by decide)) (rF_dr hd hs (a := 8) (by decide))) hfw

set_option maxRecDepth 100000 in
set_option maxHeartbeats 4000000 in
theorem cW_result_ (l : Launch) (M : zM) : zMet l mW_result rW_result [.ref 12] M (zqr (fun x M' => x = zR M 12 2 ∧ M' = M)) := by
  refine za_enter (by decide) (Nat.le_of_ble_eq_true rfl) (fun X hc => ?_)
  have hw := zob_12
  refine za_aload_n hc dW_result_0 rfl ?_
  refine za_getR hc gfW_23 (by assumption) dW_result_1 ?_
  exact za_aret hc rfl dW_result_4 ⟨Nat.zero_le _, Nat.zero_le _⟩ (⟨_, rfl, rfl, rfl⟩)
end
section
/-! The workshop: PARTS, NOT. -/
theorem gflip_lim {m : gC} (h : gLim m) : gLim (gflip m) := by
  unfold gflip gLim; simp only [Int.natAbs_neg]; exact h
noncomputable def gcut (row : List gC) : Nat → List (List gC)
  | 0 => []
  | i + 1 => match row[i]? with
    | some m => (gadd (gcut row i) ((row.take i).foldl gput (gput [] (gflip m)))).getD (gcut row i)
    | none => gcut row i
theorem gadd_len {R R' : List (List gC)} {ls : List gC} (h : gadd R ls = some R') : R'.length ≤ R.length + 1 := by
  unfold gadd at h
  split at h
  · rw [← Option.some.inj h]; omega
  · split at h
    · cases h
    · split at h
      · rw [← Option.some.inj h]; omega
      · split at h
        · cases h
        · rw [← Option.some.inj h, List.length_append]; simp
theorem gadd_some {R : List (List gC)} {ls : List gC} (hR : R.length < 12) (hl : ls.length ≤ 12) (hq : ∀ q ∈ ls, gLim q) : ∃ R', gadd R ls = some R' := by
  obtain ⟨h1, h2⟩ := gthin_sub ls []
  have hg : glim (gthin [] ls) = true := glim_iff.mpr ⟨fun q h => hq q (by simpa using h1 q h), by simp only [List.nil_append] at h2; omega⟩
  unfold gadd
  split
  · exact ⟨_, rfl⟩
  · rw [if_neg (by rw [hg]; decide)]
    split
    · exact ⟨_, rfl⟩
    · rw [if_neg (by omega)]; exact ⟨_, rfl⟩
theorem gcut_len (row : List gC) : ∀ i, (gcut row i).length ≤ i := by
  intro i
  induction i with
  | zero => exact Nat.le_refl _
  | succ i ih =>
    unfold gcut
    split
    · rename_i m _
      cases h : gadd (gcut row i) ((row.take i).foldl gput (gput [] (gflip m))) with
      | none => simp only [Option.getD]; omega
      | some a => have := gadd_len h; simp only [Option.getD]; omega
    · omega
noncomputable def gnot1 : List (List gC) → List (List gC) → Option (List (List gC))
  | acc, [] => some acc
  | acc, row :: t => match gAnd acc (gcut row row.length) with
    | some a => gnot1 a t
    | none => none
noncomputable def gNot (P : List (List gC)) : Option (List (List gC)) := gnot1 [[]] P
theorem gSat_nil : gSat [] := ⟨0, 0, fun q h => by cases h⟩
theorem gadd_nil : gadd [] [] = some [[]] := by
  unfold gadd
  rw [if_neg (by rw [gsb_iff.mpr gSat_nil]; decide), if_neg (by decide), if_neg (by decide), if_neg (by decide)]
  rfl

set_option maxRecDepth 100000 in
set_option maxHeartbeats 4000000 in
theorem cW_setAside_ (l : Launch) (M : zM) : zMet l mW_setAside rW_setAside [.ref 12] M (zqr (fun x M' => x = zR M 12 2 ∧ M' = zsR (zsR M 12 3 (zR M 12 2)) 12 2 (zR M 12 3))) := by
  refine za_enter (by decide) (Nat.le_of_ble_eq_true rfl) (fun X hc => ?_)
  have hw := zob_12
  refine za_aload_n hc dW_setAside_0 rfl ?_
  refine za_getR hc gfW_26 (by assumption) dW_setAside_1 ?_
  refine za_astore_n hc dW_setAside_4 (by decide) ?_
  refine za_aload_n hc dW_setAside_5 rfl ?_
  refine za_aload_n hc dW_setAside_6 rfl ?_
  refine za_getR hc gfW_23 (by assumption) dW_setAside_7 ?_
  refine za_putR hc gpW_26 (by assumption) dW_setAside_10 ?_
  refine za_aload_n hc dW_setAside_13 rfl ?_
  refine za_aload_n hc dW_setAside_14 rfl ?_
  refine za_putR hc gpW_23 (by assumption) dW_setAside_15 ?_
  refine za_aload_n hc dW_setAside_18 rfl ?_
  refine za_getR hc gfW_26 (by assumption) dW_setAside_19 ?_
  exact za_aret hc rfl dW_setAside_22 ⟨Nat.zero_le _, Nat.zero_le _⟩ (⟨_, rfl, by rw [zR_sR, if_pos rfl, if_neg (by decide), zR_sR, if_pos rfl, if_pos rfl], rfl⟩)

set_option maxRecDepth 100000 in
set_option maxHeartbeats 4000000 in
theorem cW_cut_ (l : Launch) {p j : Nat} {P : List (List gC)} {row : List gC} (M : zM) (hI : wI M) (hp : zrg p) (hpn : p ≠ 22) (hP : rH M p P) (hrow : P[j]? = some row) : zMet l mW_cut rW_cut [.ref 12, .ref p, .int (nI j)] M (zqv (fun M' => rH M' 22 (gcut row row.length) ∧ wI M' ∧ zR M' 12 = zR M 12 ∧ zfr (wR 22) M M')) := by
  refine za_enter (by decide) (Nat.le_of_ble_eq_true rfl) (fun X hc => ?_)
  have hw := zob_12
  have hd := zdr_13
  have hdo := hd.o
  have hs := zrg_22
  have hso := hs.o
  have hno : zob (12 + 1) 0 := hd.o
  have hpo2 : zob (12 + 10) 2 := zrg_22.o
  have hpo := hp.o
  have hpl := hP.2.1
  have hj12 : j < 12 := by have := (List.getElem?_eq_some_iff.mp hrow).1; omega
  obtain ⟨a1, a2, a3, a4⟩ := hP.2.2 j row hrow
  have loop : ∀ n i (M1 : zM), n + i = row.length → rH M1 22 (gcut row i) → zbo M1 13 → sB M1 18 → zfr (wR 22) M M1 → zW X (zqv (fun M' => rH M' 22 (gcut row row.length) ∧ wI M' ∧ zR M' 12 = zR M 12 ∧ zfr (wR 22) M M')) (0, 0) 9 [(0, .ref 12), (1, .ref p), (2, .int (nI j)), (3, .int (nI i))] [] M1 := by
    intro n
    induction n with
    | zero =>
      intro i M1 hn hR1 hb1 hs1 hf
      obtain rfl : i = row.length := by omega
      have e12 : zR M1 12 = zR M 12 := (hf _ (wR_12 hs)).2.2
      have hP1 : rH M1 p P := rH_kept hP hf (wR_rg hs hp hpn (b := 0) (by decide)) (wR_rg hs hp hpn (by decide)) (wR_rg hs hp hpn (by decide))
      refine za_iload_n hc dW_cut_9 rfl ?_
      refine za_aload_n hc dW_cut_10 rfl ?_
      refine za_iload_n hc dW_cut_11 rfl ?_
      refine za_cV1i hc gsW_37 (by assumption) (cR_memberCount_ l M1 hp hj12) ⟨rfl, rfl⟩ ⟨Nat.le_of_ble_eq_true rfl, Nat.le_of_ble_eq_true rfl⟩ ⟨Nat.zero_le _, Nat.zero_le _⟩ dW_cut_12 (fun x_12 M_12 h_12 => ?_)
      obtain ⟨q_12, hm_12⟩ := h_12
      rw [hm_12, q_12, (hP1.2.2 j row hrow).2.1]
      refine za_icmp_ge 63 hc dW_cut_15 rfl (fun h_15 => ?_) (fun h_15 => ?_)
      · skip
        exact za_vret hc rfl dW_cut_63 ⟨Nat.zero_le _, Nat.zero_le _⟩ (⟨rfl, hR1, wI_kept hI hf (wR_12 hs) hb1 hs1, e12, hf⟩)
      · skip
        exact absurd (Int32.le_refl _) h_15
    | succ n ih =>
      intro i M1 hn hR1 hb1 hs1 hf
      have hi : i < row.length := by omega
      have hri := List.getElem?_eq_getElem (l := row) hi
      generalize hme : row[i] = m at hri
      have e12 : zR M1 12 = zR M 12 := (hf _ (wR_12 hs)).2.2
      have hP1 : rH M1 p P := rH_kept hP hf (wR_rg hs hp hpn (b := 0) (by decide)) (wR_rg hs hp hpn (by decide)) (wR_rg hs hp hpn (by decide))
      have hlm : gLim m := a4 m (List.mem_of_getElem? hri)
      have hH2 := dH_clear (d := 13) hb1
      have hf2 : zfr (wR 22) M (zsI M1 13 5 0) := hf.tr (zfr_sI (Or.inl ⟨by decide, by decide⟩))
      have hl1 := gput_len [] (gflip m)
      have hl2 := g_put_len (gput [] (gflip m)) (row.take i)
      simp only [List.length_nil] at hl1
      rw [List.length_take, Nat.min_eq_left (by omega)] at hl2
      have hlims : ∀ k ∈ (row.take i).foldl gput (gput [] (gflip m)), gLim k := gputs_lim (gput_lim (fun k hk => by cases hk) (gflip_lim hlm)) (fun k hk => a4 k (List.mem_of_mem_take hk))
      obtain ⟨R2, hR2⟩ := gadd_some (R := gcut row i) (by have := gcut_len row i; omega) (show ((row.take i).foldl gput (gput [] (gflip m))).length ≤ 12 by omega) hlims
      refine za_iload_n hc dW_cut_9 rfl ?_
      refine za_aload_n hc dW_cut_10 rfl ?_
      refine za_iload_n hc dW_cut_11 rfl ?_
      refine za_cV1i hc gsW_37 (by assumption) (cR_memberCount_ l M1 hp hj12) ⟨rfl, rfl⟩ ⟨Nat.le_of_ble_eq_true rfl, Nat.le_of_ble_eq_true rfl⟩ ⟨Nat.zero_le _, Nat.zero_le _⟩ dW_cut_12 (fun x_12 M_12 h_12 => ?_)
      obtain ⟨q_12, hm_12⟩ := h_12
      rw [hm_12, q_12, (hP1.2.2 j row hrow).2.1]
      refine za_icmp_ge 63 hc dW_cut_15 rfl (fun h_15 => ?_) (fun h_15 => ?_)
      · skip
        exact absurd ((nI_leI (by omega) (by omega)).mp h_15) (by omega)
      · skip
        refine za_aload_n hc dW_cut_18 rfl ?_
        refine za_getS hc gfW_10 (by assumption) dW_cut_19 ?_
        refine za_cV0v hc gsW_36 (by assumption) (cD_clear_ l M1 hd) ⟨rfl, rfl⟩ ⟨Nat.le_of_ble_eq_true rfl, Nat.le_of_ble_eq_true rfl⟩ ⟨Nat.zero_le _, Nat.zero_le _⟩ dW_cut_22 (fun M_22 h_22 => ?_)
        subst h_22
        have hP2 : rH (zsI M1 13 5 0) p P := rH_kept hP hf2 (wR_rg hs hp hpn (b := 0) (by decide)) (wR_rg hs hp hpn (by decide)) (wR_rg hs hp hpn (by decide))
        refine za_aload_n hc dW_cut_25 rfl ?_
        refine za_iload_n hc dW_cut_26 rfl ?_
        refine za_iload_n hc dW_cut_27 rfl ?_
        refine za_aload_n hc dW_cut_28 rfl ?_
        refine za_getS hc gfW_10 (by assumption) dW_cut_29 ?_
        refine za_cV3v hc gsW_65 (by assumption) (cR_pourContrary_ l (zsI M1 13 5 0) hp hd hP2 hrow hri hH2 (by decide)) ⟨rfl, rfl⟩ ⟨Nat.le_of_ble_eq_true rfl, Nat.le_of_ble_eq_true rfl⟩ ⟨Nat.zero_le _, Nat.zero_le _⟩ dW_cut_32 (fun M_32 h_32 => ?_)
        obtain ⟨g1, g2⟩ := h_32
        have hf3 : zfr (wR 22) M M_32 := hf2.tr (g2.wk (fun k z => Or.inl (dB_F z)))
        have hP3 : rH M_32 p P := rH_kept hP hf3 (wR_rg hs hp hpn (b := 0) (by decide)) (wR_rg hs hp hpn (by decide)) (wR_rg hs hp hpn (by decide))
        refine za_aload_n hc dW_cut_35 rfl ?_
        refine za_iload_n hc dW_cut_36 rfl ?_
        refine za_iload_n hc dW_cut_37 rfl ?_
        refine za_aload_n hc dW_cut_38 rfl ?_
        refine za_getS hc gfW_10 (by assumption) dW_cut_39 ?_
        refine za_cV3v hc gsW_41 (by assumption) (cR_pour_ l M_32 hp hd hP3 hrow (show i ≤ row.length by omega) g1 (by omega)) ⟨rfl, rfl⟩ ⟨Nat.le_of_ble_eq_true rfl, Nat.le_of_ble_eq_true rfl⟩ ⟨Nat.zero_le _, Nat.zero_le _⟩ dW_cut_42 (fun M_42 h_42 => ?_)
        obtain ⟨g3, g4⟩ := h_42
        have hf4 : zfr (wR 22) M M_42 := hf3.tr (g4.wk (fun k z => Or.inl (dB_F z)))
        have hfd : zfr (dF 13) M1 M_42 := (zfr_sI ⟨by decide, by decide⟩).tr ((g2.wk (fun k => dB_F)).tr (g4.wk (fun k => dB_F)))
        have hfB : zfr (dB 13) M1 M_42 := (zfr_sI ⟨by decide, by decide⟩).tr (g2.tr g4)
        have hR4 : rH M_42 22 (gcut row i) := rH_kept hR1 hfd (dF_rg hd hs (b := 0) (by decide)) (dF_rg hd hs (b := 1) (by decide)) (dF_rg hd hs (b := 2) (by decide))
        have hs4 : sB M_42 18 := sB_kept hs1 hfB (fun z => by have := z.2; omega) (fun z => by have := z.2; omega) (fun z => by have := z.2; omega)
        refine za_aload_n hc dW_cut_45 rfl ?_
        refine za_getS hc gfW_19 (by assumption) dW_cut_46 ?_
        refine za_aload_n hc dW_cut_49 rfl ?_
        refine za_getS hc gfW_10 (by assumption) dW_cut_50 ?_
        refine za_cV1i hc gsW_45 (by assumption) (cR_admit_ l M_42 hs hd hR4 g3 hs4 (Or.inl hlims)) ⟨rfl, rfl⟩ ⟨Nat.le_of_ble_eq_true rfl, Nat.le_of_ble_eq_true rfl⟩ ⟨Nat.zero_le _, Nat.zero_le _⟩ dW_cut_53 (fun x_53 M_53 h_53 => ?_)
        obtain ⟨v1, v2, v3, v4⟩ := h_53
        rw [hR2] at v1
        have hf5 : zfr (wR 22) M M_53 := hf4.tr v4
        refine za_pop hc dW_cut_56 rfl ?_
        refine za_iinc hc _ dW_cut_57 rfl ((nI_succ i).symm) (by decide) ?_
        refine za_goto 9 hc dW_cut_60 rfl ?_
        refine ih (i + 1) M_53 (by omega) ?_ v2 v3 hf5
        have e : gcut row (i + 1) = R2 := by unfold gcut; rw [hri]; simp only; rw [hR2]; rfl
        rw [e]; exact v1.2
  refine za_aload_n hc dW_cut_0 rfl ?_
  refine za_getS hc gfW_19 (by assumption) dW_cut_1 ?_
  refine za_cV0v hc gsW_29 (by assumption) (cR_clear_ l M hs) ⟨rfl, rfl⟩ ⟨Nat.le_of_ble_eq_true rfl, Nat.le_of_ble_eq_true rfl⟩ ⟨Nat.zero_le _, Nat.zero_le _⟩ dW_cut_4 (fun M_4 h_4 => ?_)
  subst h_4
  refine za_iconst hc 0 dW_cut_7 rfl ?_
  refine za_istore_n hc dW_cut_8 (by decide) ?_
  exact loop row.length 0 _ (by omega) rH_clear (zfr_bo (zfr_sI (P := rF 22) ⟨Nat.le_refl _, by omega⟩) (rF_dr hd hs (a := 4) (by decide)) hI.2.1) (sB_kept hI.2.2 (zfr_sI (P := rF 22) ⟨Nat.le_refl _, by omega⟩) (rF_dr hd hs (a := 6) (by decide)) (rF_dr hd hs (a := 7) (by decide)) (rF_dr hd hs (a := 8) (by decide))) (zfr_sI (Or.inr ⟨Nat.le_refl _, by omega⟩))

def wF : Nat → Prop := fun k => 12 ≤ k ∧ k ≤ 30
theorem wR_F {s k : Nat} (hs : 22 ≤ s ∧ s ≤ 28) (h : wR s k) : wF k := h.elim (fun z => ⟨by have := z.1; omega, by have := z.2; omega⟩) (fun z => ⟨by have := z.1; omega, by have := z.2; omega⟩)
theorem wI_rng {M : zM} (h : wI M) : 22 ≤ zR M 12 2 ∧ zR M 12 2 ≤ 28 := by rcases h.1 with h | h <;> rw [h.1] <;> decide
theorem wF_rg {r : Nat} (h : 30 < r) {b : Nat} : ¬ wF (r + b) := fun z => by have := z.2; omega

set_option maxRecDepth 100000 in
set_option maxHeartbeats 4000000 in
theorem cW_complement_ (l : Launch) {p : Nat} {P : List (List gC)} (M : zM) (hI : wI M) (hp : zrg p) (hp30 : 30 < p) (hP : rH M p P) : zMet l mW_complement rW_complement [.ref 12, .ref p] M (zqi (fun x M' => (match gNot P with | some R => x = 1 ∧ rH M' (zR M' 12 2) R | none => x = 0) ∧ wI M' ∧ zfr wF M M')) := by
  refine za_enter (by decide) (Nat.le_of_ble_eq_true rfl) (fun X hc => ?_)
  have hw := zob_12
  have hd := zdr_13
  have hdo := hd.o
  have hno : zob (12 + 1) 0 := hd.o
  have hpo2 : zob (12 + 10) 2 := zrg_22.o
  have hpo := hp.o
  have hpl := hP.2.1
  have loop : ∀ (t : List (List gC)) (i : Nat) (acc : List (List gC)) (M1 : zM), P.drop i = t → i + t.length = P.length → gnot1 acc t = gNot P → wI M1 → rH M1 (zR M1 12 2) acc → zfr wF M M1 → zW X (zqi (fun x M' => (match gNot P with | some R => x = 1 ∧ rH M' (zR M' 12 2) R | none => x = 0) ∧ wI M' ∧ zfr wF M M')) (0, 0) 28 [(0, .ref 12), (1, .ref p), (2, .int (nI i))] [] M1 := by
    intro t
    induction t with
    | nil =>
      intro i acc M1 hdr hn hg hI1 hR1 hf
      simp only [List.length_nil] at hn
      have hP1 : rH M1 p P := rH_kept hP hf (wF_rg hp30 (b := 0)) (wF_rg hp30) (wF_rg hp30)
      refine za_iload_n hc dW_complement_28 rfl ?_
      refine za_aload_n hc dW_complement_29 rfl ?_
      refine za_cV0i hc gsW_32 (by assumption) (cR_rowCount_ l M1 hp) ⟨rfl, rfl⟩ ⟨Nat.le_of_ble_eq_true rfl, Nat.le_of_ble_eq_true rfl⟩ ⟨Nat.zero_le _, Nat.zero_le _⟩ dW_complement_30 (fun x_30 M_30 h_30 => ?_)
      obtain ⟨q_30, hm_30⟩ := h_30
      rw [hm_30, q_30, hP1.1]
      refine za_icmp_ge 65 hc dW_complement_33 rfl (fun h_33 => ?_) (fun h_33 => ?_)
      · skip
        refine za_iconst hc 1 dW_complement_65 rfl ?_
        exact za_zret hc rfl (rfl) dW_complement_66 ⟨Nat.zero_le _, Nat.zero_le _⟩ (⟨1, rfl, by rw [← hg]; exact ⟨rfl, hR1⟩, hI1, hf⟩)
      · skip
        exact absurd ((nI_leI (by omega) (by omega)).mpr (show P.length ≤ i by omega)) h_33
    | cons row t ih =>
      intro i acc M1 hdr hn hg hI1 hR1 hf
      simp only [List.length_cons] at hn
      have hpi : P[i]? = some row := by rw [← List.head?_drop, hdr]; rfl
      have hdr2 : P.drop (i + 1) = t := by rw [← List.drop_drop, hdr]; rfl
      have hg : (match gAnd acc (gcut row row.length) with | some a => gnot1 a t | none => none) = gNot P := hg
      have hP1 : rH M1 p P := rH_kept hP hf (wF_rg hp30 (b := 0)) (wF_rg hp30) (wF_rg hp30)
      refine za_iload_n hc dW_complement_28 rfl ?_
      refine za_aload_n hc dW_complement_29 rfl ?_
      refine za_cV0i hc gsW_32 (by assumption) (cR_rowCount_ l M1 hp) ⟨rfl, rfl⟩ ⟨Nat.le_of_ble_eq_true rfl, Nat.le_of_ble_eq_true rfl⟩ ⟨Nat.zero_le _, Nat.zero_le _⟩ dW_complement_30 (fun x_30 M_30 h_30 => ?_)
      obtain ⟨q_30, hm_30⟩ := h_30
      rw [hm_30, q_30, hP1.1]
      refine za_icmp_ge 65 hc dW_complement_33 rfl (fun h_33 => ?_) (fun h_33 => ?_)
      · skip
        exact absurd ((nI_leI (by omega) (by omega)).mp h_33) (by omega)
      · skip
        refine za_aload_n hc dW_complement_36 rfl ?_
        refine za_aload_n hc dW_complement_37 rfl ?_
        refine za_iload_n hc dW_complement_38 rfl ?_
        refine za_cV2v hc gsW_53 (by assumption) (cW_cut_ l M1 hI1 hp (by omega) hP1 hpi) ⟨rfl, rfl⟩ ⟨Nat.le_of_ble_eq_true rfl, Nat.le_of_ble_eq_true rfl⟩ ⟨Nat.zero_le _, Nat.zero_le _⟩ dW_complement_39 (fun M_39 h_39 => ?_)
        obtain ⟨c1, c2, c3, c4⟩ := h_39
        have hne : zR M1 12 2 ≠ 22 := by rcases hI1.1 with h | h <;> rw [h.1] <;> decide
        have hR2 : rH M_39 (zR M1 12 2) acc := rH_kept hR1 c4 (wR_rg zrg_22 (wI_res hI1) hne (b := 0) (by decide)) (wR_rg zrg_22 (wI_res hI1) hne (by decide)) (wR_rg zrg_22 (wI_res hI1) hne (by decide))
        have hf2 : zfr wF M M_39 := hf.tr (c4.wk (fun k => wR_F (by decide)))
        refine za_aload_n hc dW_complement_42 rfl ?_
        refine za_aload_n hc dW_complement_43 rfl ?_
        refine za_cV0r hc gsW_57 (by assumption) (cW_setAside_ l M_39) ⟨rfl, rfl⟩ ⟨Nat.le_of_ble_eq_true rfl, Nat.le_of_ble_eq_true rfl⟩ ⟨Nat.zero_le _, Nat.zero_le _⟩ dW_complement_44 (fun x_44 M_44 h_44 => ?_)
        obtain ⟨q_44, hm_44⟩ := h_44
        rw [q_44, c3]
        have hr2 : zR M_44 12 2 = zR M1 12 3 := by rw [hm_44, zR_sR, if_pos rfl, if_pos rfl, c3]
        have hr3 : zR M_44 12 3 = zR M1 12 2 := by rw [hm_44, zR_sR, if_pos rfl, if_neg (by decide), zR_sR, if_pos rfl, if_pos rfl, c3]
        have eI : zI M_44 = zI M_39 := by rw [hm_44]; rfl
        have eJ : zJ M_44 = zJ M_39 := by rw [hm_44]; rfl
        have hI3 : wI M_44 := ⟨by rw [hr2, hr3]; rcases hI1.1 with h | h; exact Or.inr ⟨h.2, h.1⟩; exact Or.inl ⟨h.2, h.1⟩, by unfold zbo; rw [eI]; exact c2.2.1, by unfold sB; rw [eI, eJ]; exact c2.2.2⟩
        have rHe : ∀ s R, rH M_39 s R → rH M_44 s R := fun s R h => by unfold rH rg; rw [eI]; exact h
        have hs1 := wI_res hI1
        have hs1o := hs1.o
        have hf3 : zfr wF M M_44 := hf2.tr (by rw [hm_44]; exact (zfr_sR ⟨by decide, by decide⟩).tr (zfr_sR ⟨by decide, by decide⟩))
        refine za_aload_n hc dW_complement_47 rfl ?_
        refine za_getS hc gfW_19 (by assumption) dW_complement_48 ?_
        refine za_cV2i hc gsW_61 (by assumption) (cW_intersect_ l M_44 hI3 (wI_res hI1) zrg_22 (by rw [hr2]; rcases hI1.1 with h | h <;> rw [h.1, h.2] <;> decide) (by rw [hr2]; rcases hI1.1 with h | h <;> rw [h.2] <;> decide) (rHe _ _ hR2) (rHe _ _ c1)) ⟨rfl, rfl⟩ ⟨Nat.le_of_ble_eq_true rfl, Nat.le_of_ble_eq_true rfl⟩ ⟨Nat.zero_le _, Nat.zero_le _⟩ dW_complement_51 (fun x_51 M_51 h_51 => ?_)
        obtain ⟨d1, d2, d3, d4⟩ := h_51
        have hf4 : zfr wF M M_51 := hf3.tr (d4.wk (fun k => wR_F (wI_rng hI3)))
        rw [← d3] at d1
        refine za_if_ne 59 hc dW_complement_54 rfl (fun h_54 => ?_) (fun h_54 => ?_)
        · skip
          refine za_iinc hc _ dW_complement_59 rfl ((nI_succ i).symm) (by decide) ?_
          refine za_goto 28 hc dW_complement_62 rfl ?_
          cases hga : gAnd acc (gcut row row.length) with
          | none => rw [hga] at d1; exact absurd d1 h_54
          | some a =>
            rw [hga] at d1 hg
            exact ih (i + 1) a M_51 hdr2 (by omega) hg d2 d1.2 hf4
        · skip
          refine za_iconst hc 0 dW_complement_57 rfl ?_
          exact za_zret hc rfl (rfl) dW_complement_58 ⟨Nat.zero_le _, Nat.zero_le _⟩ (⟨0, rfl, by
          cases hga : gAnd acc (gcut row row.length) with
          | none => rw [hga] at hg; rw [← hg]
          | some a => rw [hga] at d1; rw [h_54] at d1; exact absurd d1.1 (by decide), d2, hf4⟩)
  have hs := wI_res hI
  have hso := hs.o
  have hrs : zfr (rF (zR M 12 2)) M (zsI M (zR M 12 2) 2 0) := zfr_sI ⟨Nat.le_refl _, by omega⟩
  have hb2 : zbo (zsI M (zR M 12 2) 2 0) 13 := zfr_bo hrs (rF_dr hd hs (a := 4) (by decide)) hI.2.1
  have hs2 : sB (zsI M (zR M 12 2) 2 0) 18 := sB_kept hI.2.2 hrs (rF_dr hd hs (a := 6) (by decide)) (rF_dr hd hs (a := 7) (by decide)) (rF_dr hd hs (a := 8) (by decide))
  have hcl : zfr (fun k => k = 13) (zsI M (zR M 12 2) 2 0) (zsI (zsI M (zR M 12 2) 2 0) 13 5 0) := zfr_sI rfl
  refine za_aload_n hc dW_complement_0 rfl ?_
  refine za_getR hc gfW_23 (by assumption) dW_complement_1 ?_
  refine za_cV0v hc gsW_29 (by assumption) (cR_clear_ l M hs) ⟨rfl, rfl⟩ ⟨Nat.le_of_ble_eq_true rfl, Nat.le_of_ble_eq_true rfl⟩ ⟨Nat.zero_le _, Nat.zero_le _⟩ dW_complement_4 (fun M_4 h_4 => ?_)
  subst h_4
  refine za_aload_n hc dW_complement_7 rfl ?_
  refine za_getS hc gfW_10 (by assumption) dW_complement_8 ?_
  refine za_cV0v hc gsW_36 (by assumption) (cD_clear_ l _ hd) ⟨rfl, rfl⟩ ⟨Nat.le_of_ble_eq_true rfl, Nat.le_of_ble_eq_true rfl⟩ ⟨Nat.zero_le _, Nat.zero_le _⟩ dW_complement_11 (fun M_11 h_11 => ?_)
  subst h_11
  have hR2 : rH (zsI (zsI M (zR M 12 2) 2 0) 13 5 0) (zR M 12 2) [] := rH_kept rH_clear hcl (fun z => zdr_rg hd hs (a := 0) (b := 0) (by decide) (by decide) z.symm) (fun z => zdr_rg hd hs (a := 0) (b := 1) (by decide) (by decide) z.symm) (fun z => zdr_rg hd hs (a := 0) (b := 2) (by decide) (by decide) z.symm)
  refine za_aload_n hc dW_complement_14 rfl ?_
  refine za_getR hc gfW_23 (by assumption) dW_complement_15 ?_
  refine za_aload_n hc dW_complement_18 rfl ?_
  refine za_getS hc gfW_10 (by assumption) dW_complement_19 ?_
  refine za_cV1i hc gsW_45 (by assumption) (cR_admit_ l _ hs hd hR2 (dH_clear hb2) (sB_kept hs2 hcl (by decide) (by decide) (by decide)) (Or.inl (fun k hk => by cases hk))) ⟨rfl, rfl⟩ ⟨Nat.le_of_ble_eq_true rfl, Nat.le_of_ble_eq_true rfl⟩ ⟨Nat.zero_le _, Nat.zero_le _⟩ dW_complement_22 (fun x_22 M_22 h_22 => ?_)
  obtain ⟨v1, v2, v3, v4⟩ := h_22
  rw [gadd_nil] at v1
  refine za_pop hc dW_complement_25 rfl ?_
  refine za_iconst hc 0 dW_complement_26 rfl ?_
  refine za_istore_n hc dW_complement_27 (by decide) ?_
  have hfw : zfr (wR (zR M 12 2)) M M_22 := (hrs.wk (fun k => Or.inr)).tr ((hcl.wk (fun k z => by subst z; exact Or.inl ⟨by decide, by decide⟩)).tr v4)
  have e12 := (hfw _ (wR_12 hs)).2.2
  exact loop P 0 [[]] M_22 rfl (by omega) rfl (wI_kept hI hfw (wR_12 hs) v2 v3) (by rw [e12]; exact v1.2) (hfw.wk (fun k => wR_F (wI_rng hI)))
end
section
/-! The workshop: FREE. -/
/-- a member's number in a column -/
def gu (col : Int32) (m : gC) : Int := if col = 0 then m.1 else m.2.1
def gsum (col : Int32) (m k : gC) : gC := (-gu col k * m.1 + gu col m * k.1, -gu col k * m.2.1 + gu col m * k.2.1, -gu col k * m.2.2.1 + gu col m * k.2.2.1, m.2.2.2 || k.2.2.2)
def gels1 (col : Int32) (m : gC) (k : gC) : Option gC := if gu col k < 0 then some (gsum col m k) else none
def gel (col : Int32) (row : List gC) (m : gC) : List gC := if gu col m = 0 then [m] else if 0 < gu col m then row.filterMap (gels1 col m) else []
def gels (col : Int32) (row : List gC) : List gC := row.flatMap (gel col row)
theorem gu_lim {col : Int32} {m : gC} (h : gLim m) : (gu col m).natAbs ≤ 10000 := by unfold gu; split; exact h.1; exact h.2.1
def gW (q : gC) : Prop := q.1.natAbs ≤ 200000000 ∧ q.2.1.natAbs ≤ 200000000 ∧ q.2.2.1.natAbs ≤ 200000000
theorem gsum_b {col : Int32} {m k : gC} (hm : gLim m) (hk : gLim k) : gW (gsum col m k) := by
  have h1 := gu_lim (col := col) hm
  have h2 := gu_lim (col := col) hk
  have key : ∀ a b : Int, a.natAbs ≤ 10000 → b.natAbs ≤ 10000 → (-gu col k * a + gu col m * b).natAbs ≤ 200000000 := fun a b ha hb => by
    have p1 := g_mulb (A := 10000) (B := 10000) (a := -gu col k) (b := a) (by omega) (by omega)
    have p2 := g_mulb (A := 10000) (B := 10000) (a := gu col m) (b := b) (by omega) (by omega)
    omega
  exact ⟨key _ _ hm.1 hk.1, key _ _ hm.2.1 hk.2.1, key _ _ hm.2.2 hk.2.2⟩
theorem gel_all {col : Int32} {row : List gC} (hr : ∀ q ∈ row, gLim q) {m : gC} (hm : gLim m) : ∀ q ∈ gel col row m, gW q ∧ gu col q = 0 := by
  intro q hq
  unfold gel at hq
  split at hq
  · rename_i h
    rw [List.mem_singleton.mp hq]
    exact ⟨⟨by have := hm.1; omega, by have := hm.2.1; omega, by have := hm.2.2; omega⟩, h⟩
  · split at hq
    · obtain ⟨k, hk, hs⟩ := List.mem_filterMap.mp hq
      unfold gels1 at hs
      split at hs
      · rw [← Option.some.inj hs]
        refine ⟨gsum_b hm (hr k hk), ?_⟩
        unfold gsum gu
        split
        · simp only; grind
        · simp only; grind
      · cases hs
    · cases hq
theorem gputs_all {P : gC → Prop} (hstr : ∀ q m, P q → P m → P (gstr q m)) {ms : List gC} : ∀ {ls : List gC}, (∀ q ∈ ls, P q) → (∀ m ∈ ms, P (gnorm m)) → ∀ q ∈ ms.foldl gput ls, P q := by
  induction ms with
  | nil => intro ls h _; exact h
  | cons m t ih =>
    intro ls h hm
    refine ih ?_ (fun q hq => hm q (List.mem_cons_of_mem _ hq))
    unfold gput
    split
    · exact h
    · exact gins_all (hm m List.mem_cons_self) (fun q hq => hstr q _ hq (hm m List.mem_cons_self)) h
theorem gok_free {col : Int32} {ms : List gC} (h : ∀ q ∈ ms, gW q ∧ gu col q = 0) : gOK (ms.foldl gput []) := by
  have hb : ∀ (a : Int) (g : Nat), a.natAbs ≤ 200000000 → (a.tdiv g).natAbs ≤ 200000000 := fun a g h => Nat.le_of_lt_succ (g_tdivb (B := 200000001) (by omega))
  have key : ∀ q ∈ ms.foldl gput [], gW q ∧ gu col q = 0 := by
    refine gputs_all (P := fun q => gW q ∧ gu col q = 0) (fun q m hq hm => ?_) (fun q hq => by cases hq) (fun m hm => ?_)
    · have := gstr_key q m
      refine ⟨?_, by unfold gu; rw [this.1, this.2]; exact hq.2⟩
      unfold gstr
      split
      · exact ⟨hq.1.1, hq.1.2.1, hm.1.2.2⟩
      · split
        · exact ⟨hq.1.1, hq.1.2.1, hq.1.2.2⟩
        · exact hq.1
    · obtain ⟨h1, h2⟩ := h m hm
      refine ⟨⟨hb _ _ h1.1, hb _ _ h1.2.1, hb _ _ h1.2.2⟩, ?_⟩
      unfold gu gnorm at *
      split at h2 <;> rename_i hc
      · rw [if_pos hc]; show m.1.tdiv _ = 0; rw [h2, Int.zero_tdiv]
      · rw [if_neg hc]; show m.2.1.tdiv _ = 0; rw [h2, Int.zero_tdiv]
  unfold gu at key
  by_cases hc : col = 0
  · right; right
    intro q hq
    obtain ⟨⟨-, h2, h3⟩, h4⟩ := key q hq
    rw [if_pos hc] at h4
    exact ⟨h4, h2, h3⟩
  · right; left
    intro q hq
    obtain ⟨⟨h1, -, h3⟩, h4⟩ := key q hq
    rw [if_neg hc] at h4
    exact ⟨h1, h4, h3⟩
theorem gels_len {col : Int32} {row : List gC} (h : row.length ≤ 12) : (gels col row).length ≤ 36 := by
  have key : ∀ l : List gC, (l.flatMap (gel col row)).length = l.countP (fun m => decide (gu col m = 0)) + l.countP (fun m => decide (0 < gu col m)) * row.countP (fun m => decide (gu col m < 0)) := by
    intro l
    induction l with
    | nil => simp
    | cons m t ih =>
      rw [List.flatMap_cons, List.length_append, ih, List.countP_cons, List.countP_cons]
      unfold gel
      have hf : ∀ l : List gC, (l.filterMap (gels1 col m)).length = l.countP (fun m => decide (gu col m < 0)) := by
        intro l
        induction l with
        | nil => rfl
        | cons a b ih =>
          rw [List.countP_cons, ← ih]
          unfold gels1
          by_cases hc : gu col a < 0
          · rw [List.filterMap_cons_some (b := gsum col m a) (by rw [if_pos hc])]; simp [hc]
          · rw [List.filterMap_cons_none (by rw [if_neg hc])]; simp [hc]
      by_cases c1 : gu col m = 0
      · rw [if_pos c1, if_pos (by simp [c1]), if_neg (by simp [c1])]
        simp only [List.length_cons, List.length_nil, Nat.add_zero]; omega
      · rw [if_neg c1]
        by_cases c2 : 0 < gu col m
        · rw [if_pos c2, if_neg (by simp [c1]), if_pos (by simp [c2]), hf]
          rw [Nat.add_mul]; omega
        · rw [if_neg c2, if_neg (by simp [c1]), if_neg (by simp [c2])]
          simp only [List.length_nil, Nat.add_zero]; omega
  have tot : ∀ l : List gC, l.countP (fun m => decide (gu col m = 0)) + l.countP (fun m => decide (0 < gu col m)) + l.countP (fun m => decide (gu col m < 0)) = l.length := by
    intro l
    induction l with
    | nil => rfl
    | cons m t ih =>
      rw [List.countP_cons, List.countP_cons, List.countP_cons, List.length_cons]
      rcases Int.lt_trichotomy (gu col m) 0 with c | c | c
      · rw [if_neg (by simp; omega), if_neg (by simp; omega), if_pos (by simpa using c)]; omega
      · rw [if_pos (by simpa using c), if_neg (by simp; omega), if_neg (by simp; omega)]; omega
      · rw [if_neg (by simp; omega), if_pos (by simpa using c), if_neg (by simp; omega)]; omega
  unfold gels
  rw [key row]
  have ht := tot row
  generalize row.countP (fun m => decide (gu col m = 0)) = a at *
  generalize row.countP (fun m => decide (0 < gu col m)) = b at *
  generalize row.countP (fun m => decide (gu col m < 0)) = c at *
  have fin : ∀ b, b < 13 → ∀ c, c < 13 - b → b * c + (12 - b - c) ≤ 36 := by decide
  have := fin b (by omega) c (by omega)
  omega

set_option maxRecDepth 100000 in
set_option maxHeartbeats 4000000 in
theorem cW_entry_ (l : Launch) {p j i : Nat} (M : zM) (col : Int32) (hp : zrg p) (hj : j < 12) (hi : i < 12) : zMet l mW_entry rW_entry [.ref p, .int (nI j), .int (nI i), .int col] M (zql (fun x M' => x.toInt = gu col (rg M p j i) ∧ M' = M)) := by
  refine za_enter (by decide) (Nat.le_of_ble_eq_true rfl) (fun X hc => ?_)
  have hpo := hp.o
  refine za_iload_n hc dW_entry_0 rfl ?_
  refine za_if_ne 14 hc dW_entry_1 rfl (fun h_1 => ?_) (fun h_1 => ?_)
  · skip
    refine za_aload_n hc dW_entry_14 rfl ?_
    refine za_iload_n hc dW_entry_15 rfl ?_
    refine za_iload_n hc dW_entry_16 rfl ?_
    refine za_cV2i hc gsW_80 (by assumption) (cR_y_ l M hp hj hi) ⟨rfl, rfl⟩ ⟨Nat.le_of_ble_eq_true rfl, Nat.le_of_ble_eq_true rfl⟩ ⟨Nat.zero_le _, Nat.zero_le _⟩ dW_entry_17 (fun x_17 M_17 h_17 => ?_)
    obtain ⟨q_17, hm_17⟩ := h_17
    rw [hm_17, q_17]
    refine za_i2l hc dW_entry_20 ?_
    exact za_lret hc rfl dW_entry_21 ⟨Nat.zero_le _, Nat.zero_le _⟩ (⟨_, rfl, by rw [i2l_int]; unfold gu; first | rw [if_pos h_1]; rfl | rw [if_neg h_1]; rfl, rfl⟩)
  · skip
    refine za_aload_n hc dW_entry_4 rfl ?_
    refine za_iload_n hc dW_entry_5 rfl ?_
    refine za_iload_n hc dW_entry_6 rfl ?_
    refine za_cV2i hc gsW_76 (by assumption) (cR_x_ l M hp hj hi) ⟨rfl, rfl⟩ ⟨Nat.le_of_ble_eq_true rfl, Nat.le_of_ble_eq_true rfl⟩ ⟨Nat.zero_le _, Nat.zero_le _⟩ dW_entry_7 (fun x_7 M_7 h_7 => ?_)
    obtain ⟨q_7, hm_7⟩ := h_7
    rw [hm_7, q_7]
    refine za_i2l hc dW_entry_10 ?_
    refine za_goto 21 hc dW_entry_11 rfl ?_
    exact za_lret hc rfl dW_entry_21 ⟨Nat.zero_le _, Nat.zero_le _⟩ (⟨_, rfl, by rw [i2l_int]; unfold gu; first | rw [if_pos h_1]; rfl | rw [if_neg h_1]; rfl, rfl⟩)

set_option maxRecDepth 100000 in
set_option maxHeartbeats 4000000 in
theorem cW_eliminate_ (l : Launch) {p j i : Nat} {R : List (List gC)} {row ls : List gC} {m : gC} (M : zM) (col : Int32) (hp : zrg p) (hR : rH M p R) (hrow : R[j]? = some row) (hm : row[i]? = some m) (hH : dH M 13 ls) (hlen : ls.length + (gel col row m).length ≤ 36) : zMet l mW_eliminate rW_eliminate [.ref 12, .ref p, .int (nI j), .int (nI i), .int col] M (zqv (fun M' => dH M' 13 ((gel col row m).foldl gput ls) ∧ zfr (dB 13) M M')) := by
  refine za_enter (by decide) (Nat.le_of_ble_eq_true rfl) (fun X hc => ?_)
  have hw := zob_12
  have hd := zdr_13
  have hdo := hd.o
  have hno : zob (12 + 1) 0 := hd.o
  have hpo := hp.o
  obtain ⟨hw1, hw2, hw3, hw4⟩ := hR.2.2 j row hrow
  have hjl : j < 12 := by have := (List.getElem?_eq_some_iff.mp hrow).1; have := hR.2.1; omega
  have hi := (List.getElem?_eq_some_iff.mp hm).1
  have hi12 : i < 12 := by omega
  have em := hw3 i _ hm
  have hlm := hw4 _ (List.mem_of_getElem? hm)
  have hlmi := hlm
  rw [← em] at hlmi
  have b1i : (zI M (p + 2) (48 * j + 4 * i)).toInt.natAbs ≤ 10000 := hlmi.1
  have b2i : (zI M (p + 2) (48 * j + 4 * i + 1)).toInt.natAbs ≤ 10000 := hlmi.2.1
  have b3i : (zI M (p + 2) (48 * j + 4 * i + 2)).toInt.natAbs ≤ 10000 := hlmi.2.2
  have loop : ∀ (u : Int64), u.toInt = gu col m → 0 < gu col m → (row.filterMap (gels1 col m)).length + ls.length ≤ 36 → ∀ n k (M1 : zM), n + k = row.length → dH M1 13 (((row.take k).filterMap (gels1 col m)).foldl gput ls) → zfr (dB 13) M M1 → zW X (zqv (fun M' => dH M' 13 ((gel col row m).foldl gput ls) ∧ zfr (dB 13) M M')) (0, 0) 62 [(0, .ref 12), (1, .ref p), (2, .int (nI j)), (3, .int (nI i)), (4, .int col), (5, .long u), (7, .int (nI k))] [] M1 := by
    intro u hu hup hln n
    induction n with
    | zero =>
      intro k M1 hn hH1 hf
      obtain rfl : k = row.length := by omega
      have hR1 : rH M1 p R := rH_kept hR hf (fun z => dF_rg hd hp (b := 0) (by decide) (dB_F z)) (fun z => dF_rg hd hp (b := 1) (by decide) (dB_F z)) (fun z => dF_rg hd hp (b := 2) (by decide) (dB_F z))
      refine za_iload hc dW_eliminate_62 rfl ?_
      refine za_aload_n hc dW_eliminate_64 rfl ?_
      refine za_iload_n hc dW_eliminate_65 rfl ?_
      refine za_cV1i hc gsW_37 (by assumption) (cR_memberCount_ l M1 hp hjl) ⟨rfl, rfl⟩ ⟨Nat.le_of_ble_eq_true rfl, Nat.le_of_ble_eq_true rfl⟩ ⟨Nat.zero_le _, Nat.zero_le _⟩ dW_eliminate_66 (fun x_66 M_66 h_66 => ?_)
      obtain ⟨q_66, hm_66⟩ := h_66
      rw [hm_66, q_66, (hR1.2.2 j row hrow).2.1]
      refine za_icmp_ge 194 hc dW_eliminate_69 rfl (fun h_69 => ?_) (fun h_69 => ?_)
      · skip
        exact za_vret hc rfl dW_eliminate_194 ⟨Nat.zero_le _, Nat.zero_le _⟩ (⟨rfl, by unfold gel; rw [if_neg (by omega), if_pos hup]; rw [List.take_length] at hH1; exact hH1, hf⟩)
      · skip
        exact absurd (Int32.le_refl _) h_69
    | succ n ih =>
      intro k M1 hn hH1 hf
      have hR1 : rH M1 p R := rH_kept hR hf (fun z => dF_rg hd hp (b := 0) (by decide) (dB_F z)) (fun z => dF_rg hd hp (b := 1) (by decide) (dB_F z)) (fun z => dF_rg hd hp (b := 2) (by decide) (dB_F z))
      have kn : zI M1 (p + 2) = zI M (p + 2) := (hf _ (fun z => dF_rg hd hp (b := 2) (by decide) (dB_F z))).1
      have krg : rg M1 p = rg M p := by funext a b; unfold rg; rw [kn]
      have hk : k < row.length := by omega
      have hk12 : k < 12 := by omega
      have hrk := List.getElem?_eq_getElem (l := row) hk
      generalize hce : row[k] = c at hrk
      have ec := hw3 k _ hrk
      have hlc := hw4 _ (List.mem_of_getElem? hrk)
      have hlck := hlc
      rw [← ec] at hlck
      have b1k : (zI M (p + 2) (48 * j + 4 * k)).toInt.natAbs ≤ 10000 := hlck.1
      have b2k : (zI M (p + 2) (48 * j + 4 * k + 1)).toInt.natAbs ≤ 10000 := hlck.2.1
      have b3k : (zI M (p + 2) (48 * j + 4 * k + 2)).toInt.natAbs ≤ 10000 := hlck.2.2
      have htk : row.take (k + 1) = row.take k ++ [c] := by rw [List.take_succ, hrk]; rfl
      have hgc := gu_lim (col := col) hlc
      have hgm := gu_lim (col := col) hlm
      have hsub : ((row.take (k + 1)).filterMap (gels1 col m)).length ≤ (row.filterMap (gels1 col m)).length := List.Sublist.length_le (List.Sublist.filterMap _ (List.take_sublist _ _))
      refine za_iload hc dW_eliminate_62 rfl ?_
      refine za_aload_n hc dW_eliminate_64 rfl ?_
      refine za_iload_n hc dW_eliminate_65 rfl ?_
      refine za_cV1i hc gsW_37 (by assumption) (cR_memberCount_ l M1 hp hjl) ⟨rfl, rfl⟩ ⟨Nat.le_of_ble_eq_true rfl, Nat.le_of_ble_eq_true rfl⟩ ⟨Nat.zero_le _, Nat.zero_le _⟩ dW_eliminate_66 (fun x_66 M_66 h_66 => ?_)
      obtain ⟨q_66, hm_66⟩ := h_66
      rw [hm_66, q_66, (hR1.2.2 j row hrow).2.1]
      refine za_icmp_ge 194 hc dW_eliminate_69 rfl (fun h_69 => ?_) (fun h_69 => ?_)
      · skip
        exact absurd ((nI_leI (by omega) (by omega)).mp h_69) (by omega)
      · skip
        refine za_aload_n hc dW_eliminate_72 rfl ?_
        refine za_iload_n hc dW_eliminate_73 rfl ?_
        refine za_iload hc dW_eliminate_74 rfl ?_
        refine za_iload hc dW_eliminate_76 rfl ?_
        refine za_cS4l hc gsW_72 (cW_entry_ l M1 col hp hjl hk12) ⟨rfl, rfl⟩ ⟨Nat.le_of_ble_eq_true rfl, Nat.le_of_ble_eq_true rfl⟩ ⟨Nat.zero_le _, Nat.zero_le _⟩ dW_eliminate_78 (fun x_78 M_78 h_78 => ?_)
        obtain ⟨q_78, hm_78⟩ := h_78
        rw [krg, ec] at q_78
        rw [hm_78]
        refine za_lneg hc dW_eliminate_81 ?_
        refine za_lstore hc dW_eliminate_82 (by decide) ?_
        refine za_lload hc dW_eliminate_84 rfl ?_
        refine za_lconst hc 0 dW_eliminate_86 rfl ?_
        refine za_lcmp_le 188 hc dW_eliminate_87 dW_eliminate_88 rfl (fun h_87 => ?_) (fun h_87 => ?_)
        · skip
          have hgcn : ¬ gu col c < 0 := by
            have h1 : (-x_78).toInt ≤ 0 := Int64.le_iff_toInt_le.mp h_87
            rw [l_neg (by rw [q_78]; omega), q_78] at h1; omega
          have hfm : (row.take (k + 1)).filterMap (gels1 col m) = (row.take k).filterMap (gels1 col m) := by rw [htk, List.filterMap_append, List.filterMap_cons_none (by unfold gels1; rw [if_neg hgcn])]; simp
          refine za_iinc hc _ dW_eliminate_188 rfl ((nI_succ k).symm) (by decide) ?_
          refine za_goto 62 hc dW_eliminate_191 rfl ?_
          refine za_take 7 ?_
          exact ih (k + 1) M1 (by omega) (by rw [hfm]; exact hH1) hf
        · skip
          have hng : (-x_78).toInt = -gu col c := by rw [l_neg (by rw [q_78]; omega), q_78]
          have hgcn : gu col c < 0 := by
            have h1 : ¬ (-x_78).toInt ≤ 0 := fun z => h_87 (Int64.le_iff_toInt_le.mpr z)
            rw [hng] at h1; omega
          have s1 : (-x_78 * (zI M (p + 2) (48 * j + 4 * i)).toInt64 + u * (zI M (p + 2) (48 * j + 4 * k)).toInt64).toInt = -gu col c * (zI M (p + 2) (48 * j + 4 * i)).toInt + gu col m * (zI M (p + 2) (48 * j + 4 * k)).toInt := by
            have p1 := g_mulb (A := 10000) (B := 10000) (a := -gu col c) (b := (zI M (p + 2) (48 * j + 4 * i)).toInt) (by omega) (by omega)
            have p2 := g_mulb (A := 10000) (B := 10000) (a := gu col m) (b := (zI M (p + 2) (48 * j + 4 * k)).toInt) (by omega) (by omega)
            have q1 := l_mul (x := -x_78) (y := (zI M (p + 2) (48 * j + 4 * i)).toInt64) (by rw [hng, i2l_int]; omega) (by rw [hng, i2l_int]; omega)
            have q2 := l_mul (x := u) (y := (zI M (p + 2) (48 * j + 4 * k)).toInt64) (by rw [hu, i2l_int]; omega) (by rw [hu, i2l_int]; omega)
            rw [hng, i2l_int] at q1
            rw [hu, i2l_int] at q2
            rw [l_add (by rw [q1, q2]; omega) (by rw [q1, q2]; omega), q1, q2]
          have s2 : (-x_78 * (zI M (p + 2) (48 * j + 4 * i + 1)).toInt64 + u * (zI M (p + 2) (48 * j + 4 * k + 1)).toInt64).toInt = -gu col c * (zI M (p + 2) (48 * j + 4 * i + 1)).toInt + gu col m * (zI M (p + 2) (48 * j + 4 * k + 1)).toInt := by
            have p1 := g_mulb (A := 10000) (B := 10000) (a := -gu col c) (b := (zI M (p + 2) (48 * j + 4 * i + 1)).toInt) (by omega) (by omega)
            have p2 := g_mulb (A := 10000) (B := 10000) (a := gu col m) (b := (zI M (p + 2) (48 * j + 4 * k + 1)).toInt) (by omega) (by omega)
            have q1 := l_mul (x := -x_78) (y := (zI M (p + 2) (48 * j + 4 * i + 1)).toInt64) (by rw [hng, i2l_int]; omega) (by rw [hng, i2l_int]; omega)
            have q2 := l_mul (x := u) (y := (zI M (p + 2) (48 * j + 4 * k + 1)).toInt64) (by rw [hu, i2l_int]; omega) (by rw [hu, i2l_int]; omega)
            rw [hng, i2l_int] at q1
            rw [hu, i2l_int] at q2
            rw [l_add (by rw [q1, q2]; omega) (by rw [q1, q2]; omega), q1, q2]
          have s3 : (-x_78 * (zI M (p + 2) (48 * j + 4 * i + 2)).toInt64 + u * (zI M (p + 2) (48 * j + 4 * k + 2)).toInt64).toInt = -gu col c * (zI M (p + 2) (48 * j + 4 * i + 2)).toInt + gu col m * (zI M (p + 2) (48 * j + 4 * k + 2)).toInt := by
            have p1 := g_mulb (A := 10000) (B := 10000) (a := -gu col c) (b := (zI M (p + 2) (48 * j + 4 * i + 2)).toInt) (by omega) (by omega)
            have p2 := g_mulb (A := 10000) (B := 10000) (a := gu col m) (b := (zI M (p + 2) (48 * j + 4 * k + 2)).toInt) (by omega) (by omega)
            have q1 := l_mul (x := -x_78) (y := (zI M (p + 2) (48 * j + 4 * i + 2)).toInt64) (by rw [hng, i2l_int]; omega) (by rw [hng, i2l_int]; omega)
            have q2 := l_mul (x := u) (y := (zI M (p + 2) (48 * j + 4 * k + 2)).toInt64) (by rw [hu, i2l_int]; omega) (by rw [hu, i2l_int]; omega)
            rw [hng, i2l_int] at q1
            rw [hu, i2l_int] at q2
            rw [l_add (by rw [q1, q2]; omega) (by rw [q1, q2]; omega), q1, q2]
          have hse : gsum col m c = (-gu col c * (rg M p j i).1 + gu col m * (rg M p j k).1, -gu col c * (rg M p j i).2.1 + gu col m * (rg M p j k).2.1, -gu col c * (rg M p j i).2.2.1 + gu col m * (rg M p j k).2.2.1, (rg M p j i).2.2.2 || (rg M p j k).2.2.2) := by rw [em, ec]; rfl
          have hsb := gsum_b (col := col) hlm hlc
          rw [hse] at hsb
          have hfm : (row.take (k + 1)).filterMap (gels1 col m) = (row.take k).filterMap (gels1 col m) ++ [gsum col m c] := by rw [htk, List.filterMap_append, List.filterMap_cons_some (b := gsum col m c) (by unfold gels1; rw [if_pos hgcn])]; rfl
          have htl : (((row.take k).filterMap (gels1 col m)).foldl gput ls).length < 36 := by have := g_put_len ls ((row.take k).filterMap (gels1 col m)); rw [hfm, List.length_append] at hsub; simp only [List.length_cons, List.length_nil] at hsub; omega
          refine za_aload_n hc dW_eliminate_91 rfl ?_
          refine za_getS hc gfW_10 (by assumption) dW_eliminate_92 ?_
          refine za_lload hc dW_eliminate_95 rfl ?_
          refine za_aload_n hc dW_eliminate_97 rfl ?_
          refine za_iload_n hc dW_eliminate_98 rfl ?_
          refine za_iload_n hc dW_eliminate_99 rfl ?_
          refine za_cV2i hc gsW_76 (by assumption) (cR_x_ l M1 hp hjl hi12) ⟨rfl, rfl⟩ ⟨Nat.le_of_ble_eq_true rfl, Nat.le_of_ble_eq_true rfl⟩ ⟨Nat.zero_le _, Nat.zero_le _⟩ dW_eliminate_100 (fun x_100 M_100 h_100 => ?_)
          obtain ⟨q_100, hm_100⟩ := h_100
          rw [hm_100, q_100, kn]
          refine za_i2l hc dW_eliminate_103 ?_
          refine za_lmul hc dW_eliminate_104 ?_
          refine za_lload hc dW_eliminate_105 rfl ?_
          refine za_aload_n hc dW_eliminate_107 rfl ?_
          refine za_iload_n hc dW_eliminate_108 rfl ?_
          refine za_iload hc dW_eliminate_109 rfl ?_
          refine za_cV2i hc gsW_76 (by assumption) (cR_x_ l M1 hp hjl hk12) ⟨rfl, rfl⟩ ⟨Nat.le_of_ble_eq_true rfl, Nat.le_of_ble_eq_true rfl⟩ ⟨Nat.zero_le _, Nat.zero_le _⟩ dW_eliminate_111 (fun x_111 M_111 h_111 => ?_)
          obtain ⟨q_111, hm_111⟩ := h_111
          rw [hm_111, q_111, kn]
          refine za_i2l hc dW_eliminate_114 ?_
          refine za_lmul hc dW_eliminate_115 ?_
          refine za_ladd hc dW_eliminate_116 ?_
          refine za_lload hc dW_eliminate_117 rfl ?_
          refine za_aload_n hc dW_eliminate_119 rfl ?_
          refine za_iload_n hc dW_eliminate_120 rfl ?_
          refine za_iload_n hc dW_eliminate_121 rfl ?_
          refine za_cV2i hc gsW_80 (by assumption) (cR_y_ l M1 hp hjl hi12) ⟨rfl, rfl⟩ ⟨Nat.le_of_ble_eq_true rfl, Nat.le_of_ble_eq_true rfl⟩ ⟨Nat.zero_le _, Nat.zero_le _⟩ dW_eliminate_122 (fun x_122 M_122 h_122 => ?_)
          obtain ⟨q_122, hm_122⟩ := h_122
          rw [hm_122, q_122, kn]
          refine za_i2l hc dW_eliminate_125 ?_
          refine za_lmul hc dW_eliminate_126 ?_
          refine za_lload hc dW_eliminate_127 rfl ?_
          refine za_aload_n hc dW_eliminate_129 rfl ?_
          refine za_iload_n hc dW_eliminate_130 rfl ?_
          refine za_iload hc dW_eliminate_131 rfl ?_
          refine za_cV2i hc gsW_80 (by assumption) (cR_y_ l M1 hp hjl hk12) ⟨rfl, rfl⟩ ⟨Nat.le_of_ble_eq_true rfl, Nat.le_of_ble_eq_true rfl⟩ ⟨Nat.zero_le _, Nat.zero_le _⟩ dW_eliminate_133 (fun x_133 M_133 h_133 => ?_)
          obtain ⟨q_133, hm_133⟩ := h_133
          rw [hm_133, q_133, kn]
          refine za_i2l hc dW_eliminate_136 ?_
          refine za_lmul hc dW_eliminate_137 ?_
          refine za_ladd hc dW_eliminate_138 ?_
          refine za_lload hc dW_eliminate_139 rfl ?_
          refine za_aload_n hc dW_eliminate_141 rfl ?_
          refine za_iload_n hc dW_eliminate_142 rfl ?_
          refine za_iload_n hc dW_eliminate_143 rfl ?_
          refine za_cV2i hc gsW_83 (by assumption) (cR_bound_ l M1 hp hjl hi12) ⟨rfl, rfl⟩ ⟨Nat.le_of_ble_eq_true rfl, Nat.le_of_ble_eq_true rfl⟩ ⟨Nat.zero_le _, Nat.zero_le _⟩ dW_eliminate_144 (fun x_144 M_144 h_144 => ?_)
          obtain ⟨q_144, hm_144⟩ := h_144
          rw [hm_144, q_144, kn]
          refine za_i2l hc dW_eliminate_147 ?_
          refine za_lmul hc dW_eliminate_148 ?_
          refine za_lload hc dW_eliminate_149 rfl ?_
          refine za_aload_n hc dW_eliminate_151 rfl ?_
          refine za_iload_n hc dW_eliminate_152 rfl ?_
          refine za_iload hc dW_eliminate_153 rfl ?_
          refine za_cV2i hc gsW_83 (by assumption) (cR_bound_ l M1 hp hjl hk12) ⟨rfl, rfl⟩ ⟨Nat.le_of_ble_eq_true rfl, Nat.le_of_ble_eq_true rfl⟩ ⟨Nat.zero_le _, Nat.zero_le _⟩ dW_eliminate_155 (fun x_155 M_155 h_155 => ?_)
          obtain ⟨q_155, hm_155⟩ := h_155
          rw [hm_155, q_155, kn]
          refine za_i2l hc dW_eliminate_158 ?_
          refine za_lmul hc dW_eliminate_159 ?_
          refine za_ladd hc dW_eliminate_160 ?_
          refine za_aload_n hc dW_eliminate_161 rfl ?_
          refine za_iload_n hc dW_eliminate_162 rfl ?_
          refine za_iload_n hc dW_eliminate_163 rfl ?_
          refine za_cV2i hc gsW_86 (by assumption) (cR_isStrict_ l M1 hp hjl hi12) ⟨rfl, rfl⟩ ⟨Nat.le_of_ble_eq_true rfl, Nat.le_of_ble_eq_true rfl⟩ ⟨Nat.zero_le _, Nat.zero_le _⟩ dW_eliminate_164 (fun x_164 M_164 h_164 => ?_)
          obtain ⟨q_164, hm_164⟩ := h_164
          rw [hm_164, q_164, kn]
          refine za_if_ne 180 hc dW_eliminate_167 rfl (fun h_167 => ?_) (fun h_167 => ?_)
          · skip
            have hsg : ((1 : Int32) == 1) = ((rg M p j i).2.2.2 || (rg M p j k).2.2.2) := by show true = ((zI M (p + 2) (48 * j + 4 * i + 3) == 1) || _); by_cases z : zI M (p + 2) (48 * j + 4 * i + 3) = 1; rw [z]; rfl; exact absurd (if_neg z) h_167
            refine za_iconst hc 1 dW_eliminate_180 rfl ?_
            refine za_goto 185 hc dW_eliminate_181 rfl ?_
            refine za_cV4v hc gsW_90 (by assumption) (cD_put_ l M1 _ _ _ _ hd hH1 htl (by first | exact Or.inl rfl | exact Or.inr rfl) (by rw [s1]; exact Nat.lt_of_le_of_lt hsb.1 (by decide)) (by rw [s2]; exact Nat.lt_of_le_of_lt hsb.2.1 (by decide)) (by rw [s3]; exact Nat.lt_of_le_of_lt hsb.2.2 (by decide))) ⟨rfl, rfl⟩ ⟨Nat.le_of_ble_eq_true rfl, Nat.le_of_ble_eq_true rfl⟩ ⟨Nat.zero_le _, Nat.zero_le _⟩ dW_eliminate_185 (fun M_185 h_185 => ?_)
            obtain ⟨p1, p2⟩ := h_185
            rw [s1, s2, s3, hsg] at p1
            have p3 : dH M_185 13 (((row.take (k + 1)).filterMap (gels1 col m)).foldl gput ls) := by rw [hfm, g_foldl_snoc, hse]; exact p1
            refine za_iinc hc _ dW_eliminate_188 rfl ((nI_succ k).symm) (by decide) ?_
            refine za_goto 62 hc dW_eliminate_191 rfl ?_
            refine za_take 7 ?_
            exact ih (k + 1) M_185 (by omega) p3 (hf.tr p2)
          · skip
            have z1 : (zI M (p + 2) (48 * j + 4 * i + 3) == 1) = false := by by_cases z : zI M (p + 2) (48 * j + 4 * i + 3) = 1; rw [if_pos z] at h_167; exact absurd h_167 (by decide); simp [z]
            refine za_aload_n hc dW_eliminate_170 rfl ?_
            refine za_iload_n hc dW_eliminate_171 rfl ?_
            refine za_iload hc dW_eliminate_172 rfl ?_
            refine za_cV2i hc gsW_86 (by assumption) (cR_isStrict_ l M1 hp hjl hk12) ⟨rfl, rfl⟩ ⟨Nat.le_of_ble_eq_true rfl, Nat.le_of_ble_eq_true rfl⟩ ⟨Nat.zero_le _, Nat.zero_le _⟩ dW_eliminate_174 (fun x_174 M_174 h_174 => ?_)
            obtain ⟨q_174, hm_174⟩ := h_174
            rw [hm_174, q_174, kn]
            refine za_if_eq 184 hc dW_eliminate_177 rfl (fun h_177 => ?_) (fun h_177 => ?_)
            · skip
              have z2 : (zI M (p + 2) (48 * j + 4 * k + 3) == 1) = false := by by_cases z : zI M (p + 2) (48 * j + 4 * k + 3) = 1; rw [if_pos z] at h_177; exact absurd h_177 (by decide); simp [z]
              have hsg : ((0 : Int32) == 1) = ((rg M p j i).2.2.2 || (rg M p j k).2.2.2) := by show false = ((zI M (p + 2) (48 * j + 4 * i + 3) == 1) || (zI M (p + 2) (48 * j + 4 * k + 3) == 1)); rw [z1, z2]; rfl
              refine za_iconst hc 0 dW_eliminate_184 rfl ?_
              refine za_cV4v hc gsW_90 (by assumption) (cD_put_ l M1 _ _ _ _ hd hH1 htl (by first | exact Or.inl rfl | exact Or.inr rfl) (by rw [s1]; exact Nat.lt_of_le_of_lt hsb.1 (by decide)) (by rw [s2]; exact Nat.lt_of_le_of_lt hsb.2.1 (by decide)) (by rw [s3]; exact Nat.lt_of_le_of_lt hsb.2.2 (by decide))) ⟨rfl, rfl⟩ ⟨Nat.le_of_ble_eq_true rfl, Nat.le_of_ble_eq_true rfl⟩ ⟨Nat.zero_le _, Nat.zero_le _⟩ dW_eliminate_185 (fun M_185 h_185 => ?_)
              obtain ⟨p1, p2⟩ := h_185
              rw [s1, s2, s3, hsg] at p1
              have p3 : dH M_185 13 (((row.take (k + 1)).filterMap (gels1 col m)).foldl gput ls) := by rw [hfm, g_foldl_snoc, hse]; exact p1
              refine za_iinc hc _ dW_eliminate_188 rfl ((nI_succ k).symm) (by decide) ?_
              refine za_goto 62 hc dW_eliminate_191 rfl ?_
              refine za_take 7 ?_
              exact ih (k + 1) M_185 (by omega) p3 (hf.tr p2)
            · skip
              have hsg : ((1 : Int32) == 1) = ((rg M p j i).2.2.2 || (rg M p j k).2.2.2) := by show true = ((zI M (p + 2) (48 * j + 4 * i + 3) == 1) || (zI M (p + 2) (48 * j + 4 * k + 3) == 1)); rw [z1]; by_cases z : zI M (p + 2) (48 * j + 4 * k + 3) = 1; rw [z]; rfl; exact absurd (if_neg z) h_177
              refine za_iconst hc 1 dW_eliminate_180 rfl ?_
              refine za_goto 185 hc dW_eliminate_181 rfl ?_
              refine za_cV4v hc gsW_90 (by assumption) (cD_put_ l M1 _ _ _ _ hd hH1 htl (by first | exact Or.inl rfl | exact Or.inr rfl) (by rw [s1]; exact Nat.lt_of_le_of_lt hsb.1 (by decide)) (by rw [s2]; exact Nat.lt_of_le_of_lt hsb.2.1 (by decide)) (by rw [s3]; exact Nat.lt_of_le_of_lt hsb.2.2 (by decide))) ⟨rfl, rfl⟩ ⟨Nat.le_of_ble_eq_true rfl, Nat.le_of_ble_eq_true rfl⟩ ⟨Nat.zero_le _, Nat.zero_le _⟩ dW_eliminate_185 (fun M_185 h_185 => ?_)
              obtain ⟨p1, p2⟩ := h_185
              rw [s1, s2, s3, hsg] at p1
              have p3 : dH M_185 13 (((row.take (k + 1)).filterMap (gels1 col m)).foldl gput ls) := by rw [hfm, g_foldl_snoc, hse]; exact p1
              refine za_iinc hc _ dW_eliminate_188 rfl ((nI_succ k).symm) (by decide) ?_
              refine za_goto 62 hc dW_eliminate_191 rfl ?_
              refine za_take 7 ?_
              exact ih (k + 1) M_185 (by omega) p3 (hf.tr p2)
  refine za_aload_n hc dW_eliminate_0 rfl ?_
  refine za_iload_n hc dW_eliminate_1 rfl ?_
  refine za_iload_n hc dW_eliminate_2 rfl ?_
  refine za_iload hc dW_eliminate_3 rfl ?_
  refine za_cS4l hc gsW_72 (cW_entry_ l M col hp hjl hi12) ⟨rfl, rfl⟩ ⟨Nat.le_of_ble_eq_true rfl, Nat.le_of_ble_eq_true rfl⟩ ⟨Nat.zero_le _, Nat.zero_le _⟩ dW_eliminate_5 (fun x_5 M_5 h_5 => ?_)
  obtain ⟨q_5, hm_5⟩ := h_5
  rw [em] at q_5
  rw [hm_5]
  refine za_lstore hc dW_eliminate_8 (by decide) ?_
  refine za_lload hc dW_eliminate_10 rfl ?_
  refine za_lconst hc 0 dW_eliminate_12 rfl ?_
  refine za_lcmp_ne 51 hc dW_eliminate_13 dW_eliminate_14 rfl (fun h_13 => ?_) (fun h_13 => ?_)
  · skip
    have hz : ¬ gu col m = 0 := fun z => h_13 (Int64.toInt_inj.mp (q_5.trans z))
    refine za_lload hc dW_eliminate_51 rfl ?_
    refine za_lconst hc 0 dW_eliminate_53 rfl ?_
    refine za_lcmp_gt 59 hc dW_eliminate_54 dW_eliminate_55 rfl (fun h_54 => ?_) (fun h_54 => ?_)
    · skip
      have hpos : 0 < gu col m := by rw [← q_5]; exact Int64.lt_iff_toInt_lt.mp h_54
      refine za_iconst hc 0 dW_eliminate_59 rfl ?_
      refine za_istore hc dW_eliminate_60 (by decide) ?_
      first | exact absurd hz (by omega) | exact loop x_5 q_5 hpos (by unfold gel at hlen; rw [if_neg hz, if_pos hpos] at hlen; omega) row.length 0 M (by omega) (by rw [List.take_zero]; exact hH) zfr.rf
    · skip
      have hpos : ¬ 0 < gu col m := by rw [← q_5]; exact fun z => h_54 (Int64.lt_iff_toInt_lt.mpr z)
      exact za_vret hc rfl dW_eliminate_58 ⟨Nat.zero_le _, Nat.zero_le _⟩ (by first | exact ⟨rfl, by unfold gel; rw [if_pos hz, ← em]; exact p1, p2⟩ | exact ⟨rfl, by unfold gel; rw [if_neg hz, if_neg hpos]; exact hH, zfr.rf⟩)
  · skip
    have hz : gu col m = 0 := by rw [← q_5, h_13]; rfl
    refine za_aload_n hc dW_eliminate_17 rfl ?_
    refine za_getS hc gfW_10 (by assumption) dW_eliminate_18 ?_
    refine za_aload_n hc dW_eliminate_21 rfl ?_
    refine za_iload_n hc dW_eliminate_22 rfl ?_
    refine za_iload_n hc dW_eliminate_23 rfl ?_
    refine za_cV2i hc gsW_76 (by assumption) (cR_x_ l M hp hjl hi12) ⟨rfl, rfl⟩ ⟨Nat.le_of_ble_eq_true rfl, Nat.le_of_ble_eq_true rfl⟩ ⟨Nat.zero_le _, Nat.zero_le _⟩ dW_eliminate_24 (fun x_24 M_24 h_24 => ?_)
    obtain ⟨q_24, hm_24⟩ := h_24
    rw [hm_24, q_24]
    refine za_i2l hc dW_eliminate_27 ?_
    refine za_aload_n hc dW_eliminate_28 rfl ?_
    refine za_iload_n hc dW_eliminate_29 rfl ?_
    refine za_iload_n hc dW_eliminate_30 rfl ?_
    refine za_cV2i hc gsW_80 (by assumption) (cR_y_ l M hp hjl hi12) ⟨rfl, rfl⟩ ⟨Nat.le_of_ble_eq_true rfl, Nat.le_of_ble_eq_true rfl⟩ ⟨Nat.zero_le _, Nat.zero_le _⟩ dW_eliminate_31 (fun x_31 M_31 h_31 => ?_)
    obtain ⟨q_31, hm_31⟩ := h_31
    rw [hm_31, q_31]
    refine za_i2l hc dW_eliminate_34 ?_
    refine za_aload_n hc dW_eliminate_35 rfl ?_
    refine za_iload_n hc dW_eliminate_36 rfl ?_
    refine za_iload_n hc dW_eliminate_37 rfl ?_
    refine za_cV2i hc gsW_83 (by assumption) (cR_bound_ l M hp hjl hi12) ⟨rfl, rfl⟩ ⟨Nat.le_of_ble_eq_true rfl, Nat.le_of_ble_eq_true rfl⟩ ⟨Nat.zero_le _, Nat.zero_le _⟩ dW_eliminate_38 (fun x_38 M_38 h_38 => ?_)
    obtain ⟨q_38, hm_38⟩ := h_38
    rw [hm_38, q_38]
    refine za_i2l hc dW_eliminate_41 ?_
    refine za_aload_n hc dW_eliminate_42 rfl ?_
    refine za_iload_n hc dW_eliminate_43 rfl ?_
    refine za_iload_n hc dW_eliminate_44 rfl ?_
    refine za_cV2i hc gsW_86 (by assumption) (cR_isStrict_ l M hp hjl hi12) ⟨rfl, rfl⟩ ⟨Nat.le_of_ble_eq_true rfl, Nat.le_of_ble_eq_true rfl⟩ ⟨Nat.zero_le _, Nat.zero_le _⟩ dW_eliminate_45 (fun x_45 M_45 h_45 => ?_)
    obtain ⟨q_45, hm_45⟩ := h_45
    rw [hm_45, q_45]
    refine za_cV4v hc gsW_90 (by assumption) (cD_put_ l M _ _ _ _ hd hH (by unfold gel at hlen; rw [if_pos hz] at hlen; simp only [List.length_cons, List.length_nil] at hlen; omega) (s01b _) (by rw [i2l_int]; omega) (by rw [i2l_int]; omega) (by rw [i2l_int]; omega)) ⟨rfl, rfl⟩ ⟨Nat.le_of_ble_eq_true rfl, Nat.le_of_ble_eq_true rfl⟩ ⟨Nat.zero_le _, Nat.zero_le _⟩ dW_eliminate_48 (fun M_48 h_48 => ?_)
    obtain ⟨p1, p2⟩ := h_48
    rw [i2l_int, i2l_int, i2l_int, s01] at p1
    refine za_lload hc dW_eliminate_51 rfl ?_
    refine za_lconst hc 0 dW_eliminate_53 rfl ?_
    refine za_lcmp_gt 59 hc dW_eliminate_54 dW_eliminate_55 rfl (fun h_54 => ?_) (fun h_54 => ?_)
    · skip
      have hpos : 0 < gu col m := by rw [← q_5]; exact Int64.lt_iff_toInt_lt.mp h_54
      refine za_iconst hc 0 dW_eliminate_59 rfl ?_
      refine za_istore hc dW_eliminate_60 (by decide) ?_
      first | exact absurd hz (by omega) | exact loop x_5 q_5 hpos (by unfold gel at hlen; rw [if_neg hz, if_pos hpos] at hlen; omega) row.length 0 M (by omega) (by rw [List.take_zero]; exact hH) zfr.rf
    · skip
      have hpos : ¬ 0 < gu col m := by rw [← q_5]; exact fun z => h_54 (Int64.lt_iff_toInt_lt.mpr z)
      exact za_vret hc rfl dW_eliminate_58 ⟨Nat.zero_le _, Nat.zero_le _⟩ (by first | exact ⟨rfl, by unfold gel; rw [if_pos hz, ← em]; exact p1, p2⟩ | exact ⟨rfl, by unfold gel; rw [if_neg hz, if_neg hpos]; exact hH, zfr.rf⟩)

noncomputable def gfr1 (col : Int32) : List (List gC) → List (List gC) → Option (List (List gC))
  | acc, [] => some acc
  | acc, row :: t => match gadd acc ((gels col row).foldl gput []) with
    | some a => gfr1 col a t
    | none => none

set_option maxRecDepth 100000 in
set_option maxHeartbeats 4000000 in
theorem cW_project_ (l : Launch) {p : Nat} {P : List (List gC)} (M : zM) (col : Int32) (hI : wI M) (hp : zrg p) (hpn : p ≠ zR M 12 2) (hP : rH M p P) : zMet l mW_project rW_project [.ref 12, .ref p, .int col] M (zqi (wP M (zR M 12 2) (gfr1 col [] P))) := by
  refine za_enter (by decide) (Nat.le_of_ble_eq_true rfl) (fun X hc => ?_)
  have hw := zob_12
  have hd := zdr_13
  have hdo := hd.o
  have hs := wI_res hI
  have hso := hs.o
  have hno : zob (12 + 1) 0 := hd.o
  have hpo := hp.o
  have hpl := hP.2.1
  have loop : ∀ (t : List (List gC)) (i : Nat) (acc : List (List gC)) (M1 : zM), P.drop i = t → i + t.length = P.length → gfr1 col acc t = gfr1 col [] P → rH M1 (zR M 12 2) acc → zbo M1 13 → sB M1 18 → zfr (wR (zR M 12 2)) M M1 → ∀ z4, zW X (zqi (wP M (zR M 12 2) (gfr1 col [] P))) (0, 0) 9 ([(0, .ref 12), (1, .ref p), (2, .int col), (3, .int (nI i))] ++ z4) [] M1 := by
    intro t
    induction t with
    | nil =>
      intro i acc M1 hdr hn hg hR1 hb1 hs1 hf z4
      refine za_take 4 ?_
      simp only [List.length_nil] at hn
      have e12 : zR M1 12 = zR M 12 := (hf _ (wR_12 hs)).2.2
      have hP1 : rH M1 p P := rH_kept hP hf (wR_rg hs hp hpn (b := 0) (by decide)) (wR_rg hs hp hpn (by decide)) (wR_rg hs hp hpn (by decide))
      refine za_iload_n hc dW_project_9 rfl ?_
      refine za_aload_n hc dW_project_10 rfl ?_
      refine za_cV0i hc gsW_32 (by assumption) (cR_rowCount_ l M1 hp) ⟨rfl, rfl⟩ ⟨Nat.le_of_ble_eq_true rfl, Nat.le_of_ble_eq_true rfl⟩ ⟨Nat.zero_le _, Nat.zero_le _⟩ dW_project_11 (fun x_11 M_11 h_11 => ?_)
      obtain ⟨q_11, hm_11⟩ := h_11
      rw [hm_11, q_11, hP1.1]
      refine za_icmp_ge 74 hc dW_project_14 rfl (fun h_14 => ?_) (fun h_14 => ?_)
      · skip
        refine za_iconst hc 1 dW_project_74 rfl ?_
        exact za_zret hc rfl (rfl) dW_project_75 ⟨Nat.zero_le _, Nat.zero_le _⟩ (⟨1, rfl, by rw [← hg]; exact ⟨rfl, hR1⟩, wI_kept hI hf (wR_12 hs) hb1 hs1, e12, hf⟩)
      · skip
        exact absurd ((nI_leI (by omega) (by omega)).mpr (show P.length ≤ i by omega)) h_14
    | cons row t ih =>
      intro i acc M1 hdr hn hg hR1 hb1 hs1 hf z4
      refine za_take 4 ?_
      simp only [List.length_cons] at hn
      have hpi : P[i]? = some row := by rw [← List.head?_drop, hdr]; rfl
      have hdr2 : P.drop (i + 1) = t := by rw [← List.drop_drop, hdr]; rfl
      have hg : (match gadd acc ((gels col row).foldl gput []) with | some a => gfr1 col a t | none => none) = gfr1 col [] P := hg
      have e12 : zR M1 12 = zR M 12 := (hf _ (wR_12 hs)).2.2
      have hP1 : rH M1 p P := rH_kept hP hf (wR_rg hs hp hpn (b := 0) (by decide)) (wR_rg hs hp hpn (by decide)) (wR_rg hs hp hpn (by decide))
      obtain ⟨a1, a2, a3, a4⟩ := hP1.2.2 i row hpi
      have hgl := gels_len (col := col) a1
      have hH2 := dH_clear (d := 13) hb1
      have hf2 : zfr (wR (zR M 12 2)) M (zsI M1 13 5 0) := hf.tr (zfr_sI (Or.inl ⟨by decide, by decide⟩))
      have inner : ∀ n k (M2 : zM), n + k = row.length → dH M2 13 (((row.take k).flatMap (gel col row)).foldl gput []) → zfr (dB 13) M1 M2 → zW X (zqi (wP M (zR M 12 2) (gfr1 col [] P))) (0, 0) 27 [(0, .ref 12), (1, .ref p), (2, .int col), (3, .int (nI i)), (4, .int (nI k))] [] M2 := by
        intro n
        induction n with
        | zero =>
          intro k M2 hm hHk hfk
          obtain rfl : k = row.length := by omega
          rw [List.take_length] at hHk
          have hf3 : zfr (wR (zR M 12 2)) M M2 := hf.tr (hfk.wk (fun k z => Or.inl (dB_F z)))
          have hP2 : rH M2 p P := rH_kept hP hf3 (wR_rg hs hp hpn (b := 0) (by decide)) (wR_rg hs hp hpn (by decide)) (wR_rg hs hp hpn (by decide))
          have e2 : zR M2 12 = zR M 12 := (hf3 _ (wR_12 hs)).2.2
          have hR4 : rH M2 (zR M 12 2) acc := rH_kept hR1 hfk (fun z => dF_rg hd hs (b := 0) (by decide) (dB_F z)) (fun z => dF_rg hd hs (b := 1) (by decide) (dB_F z)) (fun z => dF_rg hd hs (b := 2) (by decide) (dB_F z))
          have hs4 : sB M2 18 := sB_kept hs1 hfk (fun z => by have := z.2; omega) (fun z => by have := z.2; omega) (fun z => by have := z.2; omega)
          have hgw : ∀ q ∈ gels col row, gW q ∧ gu col q = 0 := fun q hq => by
            obtain ⟨m, hm1, hm2⟩ := List.mem_flatMap.mp hq
            exact gel_all a4 (a4 m hm1) q hm2
          refine za_iload hc dW_project_27 rfl ?_
          refine za_aload_n hc dW_project_29 rfl ?_
          refine za_iload_n hc dW_project_30 rfl ?_
          refine za_cV1i hc gsW_37 (by assumption) (cR_memberCount_ l M2 hp (show i < 12 by omega)) ⟨rfl, rfl⟩ ⟨Nat.le_of_ble_eq_true rfl, Nat.le_of_ble_eq_true rfl⟩ ⟨Nat.zero_le _, Nat.zero_le _⟩ dW_project_31 (fun x_31 M_31 h_31 => ?_)
          obtain ⟨q_31, hm_31⟩ := h_31
          rw [hm_31, q_31, (hP2.2.2 i row hpi).2.1]
          refine za_icmp_ge 52 hc dW_project_34 rfl (fun h_34 => ?_) (fun h_34 => ?_)
          · skip
            refine za_aload_n hc dW_project_52 rfl ?_
            refine za_getR hc gfW_23 (by assumption) dW_project_53 ?_
            rw [e2]
            refine za_aload_n hc dW_project_56 rfl ?_
            refine za_getS hc gfW_10 (by assumption) dW_project_57 ?_
            refine za_cV1i hc gsW_45 (by assumption) (cR_admit_ l M2 hs hd hR4 hHk hs4 (gok_free hgw)) ⟨rfl, rfl⟩ ⟨Nat.le_of_ble_eq_true rfl, Nat.le_of_ble_eq_true rfl⟩ ⟨Nat.zero_le _, Nat.zero_le _⟩ dW_project_60 (fun x_60 M_60 h_60 => ?_)
            obtain ⟨v1, v2, v3, v4⟩ := h_60
            have hf5 : zfr (wR (zR M 12 2)) M M_60 := hf3.tr v4
            refine za_if_ne 68 hc dW_project_63 rfl (fun h_63 => ?_) (fun h_63 => ?_)
            · skip
              refine za_iinc hc _ dW_project_68 rfl ((nI_succ i).symm) (by decide) ?_
              refine za_goto 9 hc dW_project_71 rfl ?_
              have v1 : (match gadd acc ((gels col row).foldl gput []) with | some R' => x_60 = 1 ∧ rH M_60 (zR M 12 2) R' | none => x_60 = 0) := v1
              cases hga : gadd acc ((gels col row).foldl gput []) with
              | none => rw [hga] at v1; exact absurd v1 h_63
              | some a =>
                rw [hga] at v1 hg
                exact ih (i + 1) a M_60 hdr2 (by omega) hg v1.2 v2 v3 hf5 [(4, .int (nI row.length))]
            · skip
              refine za_iconst hc 0 dW_project_66 rfl ?_
              exact za_zret hc rfl (rfl) dW_project_67 ⟨Nat.zero_le _, Nat.zero_le _⟩ (⟨0, rfl, by
              cases hga : gadd acc ((gels col row).foldl gput []) with
              | none => rw [hga] at hg; rw [← hg]
              | some a => have v1 : (match gadd acc ((gels col row).foldl gput []) with | some R' => x_60 = 1 ∧ rH M_60 (zR M 12 2) R' | none => x_60 = 0) := v1; rw [hga] at v1; rw [h_63] at v1; exact absurd v1.1 (by decide), wI_kept hI hf5 (wR_12 hs) v2 v3, (hf5 _ (wR_12 hs)).2.2, hf5⟩)
          · skip
            exact absurd (Int32.le_refl _) h_34
        | succ n ihk =>
          intro k M2 hm hHk hfk
          have hf3 : zfr (wR (zR M 12 2)) M M2 := hf.tr (hfk.wk (fun k z => Or.inl (dB_F z)))
          have hP2 : rH M2 p P := rH_kept hP hf3 (wR_rg hs hp hpn (b := 0) (by decide)) (wR_rg hs hp hpn (by decide)) (wR_rg hs hp hpn (by decide))
          have e2 : zR M2 12 = zR M 12 := (hf3 _ (wR_12 hs)).2.2
          have hrk := List.getElem?_eq_getElem (l := row) (show k < row.length by omega)
          generalize hme : row[k] = m at hrk
          have htk : row.take (k + 1) = row.take k ++ [m] := by rw [List.take_succ, hrk]; rfl
          have hfl : (row.take (k + 1)).flatMap (gel col row) = (row.take k).flatMap (gel col row) ++ gel col row m := by rw [htk, List.flatMap_append]; simp
          have hsub : ((row.take (k + 1)).flatMap (gel col row)).length ≤ (gels col row).length := by
            have : row = row.take (k + 1) ++ row.drop (k + 1) := (List.take_append_drop _ _).symm
            show _ ≤ (row.flatMap (gel col row)).length
            conv => rhs; rw [show row.flatMap (gel col row) = (row.take (k + 1) ++ row.drop (k + 1)).flatMap (gel col row) from by rw [List.take_append_drop]]
            rw [List.flatMap_append, List.length_append]; omega
          refine za_iload hc dW_project_27 rfl ?_
          refine za_aload_n hc dW_project_29 rfl ?_
          refine za_iload_n hc dW_project_30 rfl ?_
          refine za_cV1i hc gsW_37 (by assumption) (cR_memberCount_ l M2 hp (show i < 12 by omega)) ⟨rfl, rfl⟩ ⟨Nat.le_of_ble_eq_true rfl, Nat.le_of_ble_eq_true rfl⟩ ⟨Nat.zero_le _, Nat.zero_le _⟩ dW_project_31 (fun x_31 M_31 h_31 => ?_)
          obtain ⟨q_31, hm_31⟩ := h_31
          rw [hm_31, q_31, (hP2.2.2 i row hpi).2.1]
          refine za_icmp_ge 52 hc dW_project_34 rfl (fun h_34 => ?_) (fun h_34 => ?_)
          · skip
            exact absurd ((nI_leI (by omega) (by omega)).mp h_34) (by omega)
          · skip
            refine za_aload_n hc dW_project_37 rfl ?_
            refine za_aload_n hc dW_project_38 rfl ?_
            refine za_iload_n hc dW_project_39 rfl ?_
            refine za_iload hc dW_project_40 rfl ?_
            refine za_iload_n hc dW_project_42 rfl ?_
            refine za_cV4v hc gsW_68 (by assumption) (cW_eliminate_ l M2 col hp hP2 hpi hrk hHk (by have := g_put_len [] ((row.take k).flatMap (gel col row)); rw [hfl, List.length_append] at hsub; simp only [List.length_nil] at this; omega)) ⟨rfl, rfl⟩ ⟨Nat.le_of_ble_eq_true rfl, Nat.le_of_ble_eq_true rfl⟩ ⟨Nat.zero_le _, Nat.zero_le _⟩ dW_project_43 (fun M_43 h_43 => ?_)
            obtain ⟨w1, w2⟩ := h_43
            refine za_iinc hc _ dW_project_46 rfl ((nI_succ k).symm) (by decide) ?_
            refine za_goto 27 hc dW_project_49 rfl ?_
            refine ihk (k + 1) M_43 (by omega) ?_ (hfk.tr w2)
            rw [hfl, List.foldl_append]; exact w1
      refine za_iload_n hc dW_project_9 rfl ?_
      refine za_aload_n hc dW_project_10 rfl ?_
      refine za_cV0i hc gsW_32 (by assumption) (cR_rowCount_ l M1 hp) ⟨rfl, rfl⟩ ⟨Nat.le_of_ble_eq_true rfl, Nat.le_of_ble_eq_true rfl⟩ ⟨Nat.zero_le _, Nat.zero_le _⟩ dW_project_11 (fun x_11 M_11 h_11 => ?_)
      obtain ⟨q_11, hm_11⟩ := h_11
      rw [hm_11, q_11, hP1.1]
      refine za_icmp_ge 74 hc dW_project_14 rfl (fun h_14 => ?_) (fun h_14 => ?_)
      · skip
        exact absurd ((nI_leI (by omega) (by omega)).mp h_14) (by omega)
      · skip
        refine za_aload_n hc dW_project_17 rfl ?_
        refine za_getS hc gfW_10 (by assumption) dW_project_18 ?_
        refine za_cV0v hc gsW_36 (by assumption) (cD_clear_ l M1 hd) ⟨rfl, rfl⟩ ⟨Nat.le_of_ble_eq_true rfl, Nat.le_of_ble_eq_true rfl⟩ ⟨Nat.zero_le _, Nat.zero_le _⟩ dW_project_21 (fun M_21 h_21 => ?_)
        subst h_21
        refine za_iconst hc 0 dW_project_24 rfl ?_
        refine za_istore hc dW_project_25 (by decide) ?_
        exact inner row.length 0 _ (by omega) (by rw [List.take_zero]; exact hH2) (zfr_sI ⟨by decide, by decide⟩)
  refine za_aload_n hc dW_project_0 rfl ?_
  refine za_getR hc gfW_23 (by assumption) dW_project_1 ?_
  refine za_cV0v hc gsW_29 (by assumption) (cR_clear_ l M hs) ⟨rfl, rfl⟩ ⟨Nat.le_of_ble_eq_true rfl, Nat.le_of_ble_eq_true rfl⟩ ⟨Nat.zero_le _, Nat.zero_le _⟩ dW_project_4 (fun M_4 h_4 => ?_)
  subst h_4
  refine za_iconst hc 0 dW_project_7 rfl ?_
  refine za_istore_n hc dW_project_8 (by decide) ?_
  exact loop P 0 [] _ rfl (by omega) rfl rH_clear (zfr_bo (zfr_sI (P := rF (zR M 12 2)) ⟨Nat.le_refl _, by omega⟩) (rF_dr hd hs (a := 4) (by decide)) hI.2.1) (sB_kept hI.2.2 (zfr_sI (P := rF (zR M 12 2)) ⟨Nat.le_refl _, by omega⟩) (rF_dr hd hs (a := 6) (by decide)) (rF_dr hd hs (a := 7) (by decide)) (rF_dr hd hs (a := 8) (by decide))) (zfr_sI (Or.inr ⟨Nat.le_refl _, by omega⟩)) []
end
section
/-! Infimum: bounds of a row. The object lies at place 31. -/
theorem zob_31 : zob 31 1 := ⟨by decide, by decide⟩
/-- what is held of a row, of all rows so far -/
def iR (M : zM) : gE := ((zJ M 31 3).toInt, (zJ M 31 4).toInt, zI M 31 5 == 1)
def iA (M : zM) : gE := ((zJ M 31 0).toInt, (zJ M 31 1).toInt, zI M 31 2 == 1)
def iB (e : gE) : Prop := (-40000000000 ≤ e.1 ∧ e.1 ≤ 40000000000) ∧ 0 ≤ e.2.1 ∧ e.2.1 ≤ 200000000
def iZ (M : zM) : Prop := (zI M 31 2 = 0 ∨ zI M 31 2 = 1) ∧ (zI M 31 5 = 0 ∨ zI M 31 5 = 1)
def iF : Nat → Prop := fun k => k = 31
theorem iA_k {M M' : zM} (h0 : zJ M' 31 0 = zJ M 31 0) (h1 : zJ M' 31 1 = zJ M 31 1) (h2 : zI M' 31 2 = zI M 31 2) : iA M' = iA M := by unfold iA; rw [h0, h1, h2]
theorem nz01 {v : Int32} (h : v = 0 ∨ v = 1) : narrow .boolean (.int v) = .int v ∧ fits .boolean (.int v) = true := by rcases h with h | h <;> rw [h] <;> exact ⟨rfl, rfl⟩

set_option maxRecDepth 100000 in
set_option maxHeartbeats 4000000 in
theorem cI_raiseRow_ (l : Launch) (M : zM) (T B : Int64) (k : Int32) (hb : iB (iR M)) (hz : iZ M) (hT : -40000000000 ≤ T.toInt ∧ T.toInt ≤ 40000000000) (hB : 0 < B.toInt ∧ B.toInt ≤ 200000000) (hk : k = 0 ∨ k = 1) : zMet l mI_raiseRow rI_raiseRow [.ref 31, .long T, .long B, .int k] M (zqv (fun M' => iR M' = gRs (iR M) T.toInt B.toInt (k == 1) ∧ iA M' = iA M ∧ iZ M' ∧ zfr iF M M')) := by
  refine za_enter (by decide) (Nat.le_of_ble_eq_true rfl) (fun X hc => ?_)
  have ho := zob_31
  have p1 := g_mulb (A := 40000000000) (B := 200000000) (a := T.toInt) (b := (zJ M 31 4).toInt) hT ⟨by have := hb.2.1; unfold iR at this; simp only at this; omega, hb.2.2⟩
  have p2 := g_mulb (A := 40000000000) (B := 200000000) (a := (zJ M 31 3).toInt) (b := B.toInt) hb.1 ⟨by omega, hB.2⟩
  have m1 := l_mul (x := T) (y := zJ M 31 4) (by omega) (by omega)
  have m2 := l_mul (x := zJ M 31 3) (y := B) (by omega) (by omega)
  refine za_lload_n hc dI_raiseRow_0 rfl ?_
  refine za_aload_n hc dI_raiseRow_1 rfl ?_
  refine za_getJ hc gfI_31 (by assumption) dI_raiseRow_2 ?_
  refine za_lmul hc dI_raiseRow_5 ?_
  refine za_lstore hc dI_raiseRow_6 (by decide) ?_
  refine za_aload_n hc dI_raiseRow_8 rfl ?_
  refine za_getJ hc gfI_44 (by assumption) dI_raiseRow_9 ?_
  refine za_lload_n hc dI_raiseRow_12 rfl ?_
  refine za_lmul hc dI_raiseRow_13 ?_
  refine za_lstore hc dI_raiseRow_14 (by decide) ?_
  refine za_aload_n hc dI_raiseRow_16 rfl ?_
  refine za_getJ hc gfI_31 (by assumption) dI_raiseRow_17 ?_
  refine za_lconst hc 0 dI_raiseRow_20 rfl ?_
  refine za_lcmp_eq 33 hc dI_raiseRow_21 dI_raiseRow_22 rfl (fun h_21 => ?_) (fun h_21 => ?_)
  · skip
    have u0 : (zJ M 31 4).toInt = 0 := by rw [h_21]; rfl
    refine za_aload_n hc dI_raiseRow_33 rfl ?_
    refine za_lload_n hc dI_raiseRow_34 rfl ?_
    refine za_putJ hc gpI_44 (by assumption) dI_raiseRow_35 ?_
    refine za_aload_n hc dI_raiseRow_38 rfl ?_
    refine za_lload_n hc dI_raiseRow_39 rfl ?_
    refine za_putJ hc gpI_31 (by assumption) dI_raiseRow_40 ?_
    refine za_aload_n hc dI_raiseRow_43 rfl ?_
    refine za_iload hc dI_raiseRow_44 rfl ?_
    refine za_putZ hc gpI_47 (by assumption) (nz01 hk) dI_raiseRow_46 ?_
    refine za_goto 70 hc dI_raiseRow_49 rfl ?_
    refine za_vret hc rfl dI_raiseRow_70 ⟨Nat.zero_le _, Nat.zero_le _⟩ ⟨rfl, ?_, iA_k ?_ ?_ ?_, ⟨?_, ?_⟩, ?_⟩
    · have e : iR (zsI (zsJ (zsJ M 31 3 T) 31 4 B) 31 5 k) = (T.toInt, B.toInt, k == 1) := by unfold iR; rw [zJ_sI, zJ_s, if_neg (by decide), zJ_s, if_pos rfl, zJ_s, if_pos rfl, zI_s, if_pos rfl]
      rw [e]; unfold gRs; rw [if_pos ?_]; exact Or.inl u0
    · rw [zJ_sI, zJ_s, if_neg (by decide), zJ_s, if_neg (by decide)]
    · rw [zJ_sI, zJ_s, if_neg (by decide), zJ_s, if_neg (by decide)]
    · rw [zI_s, if_neg (by decide), zI_sJ, zI_sJ]
    · rw [zI_s, if_neg (by decide), zI_sJ, zI_sJ]; exact hz.1
    · rw [zI_s, if_pos rfl]; exact hk
    · exact (zfr_sJ (P := iF) rfl).tr ((zfr_sJ (P := iF) rfl).tr (zfr_sI (P := iF) rfl))
  · skip
    have n0 : ¬ (zJ M 31 4).toInt = 0 := fun z => h_21 (Int64.toInt_inj.mp z)
    refine za_lload hc dI_raiseRow_25 rfl ?_
    refine za_lload hc dI_raiseRow_27 rfl ?_
    refine za_lcmp_le 52 hc dI_raiseRow_29 dI_raiseRow_30 rfl (fun h_29 => ?_) (fun h_29 => ?_)
    · skip
      have n1 : ¬ (zJ M 31 3).toInt * B.toInt < T.toInt * (zJ M 31 4).toInt := by rw [← m1, ← m2]; exact Int.not_lt.mpr (Int64.le_iff_toInt_le.mp h_29)
      refine za_lload hc dI_raiseRow_52 rfl ?_
      refine za_lload hc dI_raiseRow_54 rfl ?_
      refine za_lcmp_ne 70 hc dI_raiseRow_56 dI_raiseRow_57 rfl (fun h_56 => ?_) (fun h_56 => ?_)
      · skip
        have n2 : ¬ T.toInt * (zJ M 31 4).toInt = (zJ M 31 3).toInt * B.toInt := by rw [← m1, ← m2]; exact fun z => h_56 (Int64.toInt_inj.mp z)
        exact za_vret hc rfl dI_raiseRow_70 ⟨Nat.zero_le _, Nat.zero_le _⟩ ⟨rfl, (by unfold gRs; rw [if_neg (by rintro (z | z); exact n0 z; exact n1 z), if_neg (fun z => n2 z.1)]), rfl, hz, zfr.rf⟩
      · skip
        have e2 : T.toInt * (zJ M 31 4).toInt = (zJ M 31 3).toInt * B.toInt := by rw [← m1, ← m2, h_56]
        refine za_iload hc dI_raiseRow_60 rfl ?_
        refine za_if_ne 70 hc dI_raiseRow_62 rfl (fun h_62 => ?_) (fun h_62 => ?_)
        · skip
          have n3 : ¬ (k == 1) = false := by rw [hk.resolve_left h_62]; decide
          exact za_vret hc rfl dI_raiseRow_70 ⟨Nat.zero_le _, Nat.zero_le _⟩ ⟨rfl, (by unfold gRs; rw [if_neg (by rintro (z | z); exact n0 z; exact n1 z), if_neg (fun z => n3 z.2)]), rfl, hz, zfr.rf⟩
        · skip
          have e3 : (k == 1) = false := by rw [h_62]; rfl
          refine za_aload_n hc dI_raiseRow_65 rfl ?_
          refine za_iconst hc 0 dI_raiseRow_66 rfl ?_
          refine za_putZ hc gpI_47 (by assumption) (nz01 (Or.inl rfl)) dI_raiseRow_67 ?_
          refine za_vret hc rfl dI_raiseRow_70 ⟨Nat.zero_le _, Nat.zero_le _⟩ ⟨rfl, ?_, iA_k rfl rfl ?_, ⟨?_, ?_⟩, zfr_sI rfl⟩
          · have e : iR (zsI M 31 5 0) = ((zJ M 31 3).toInt, (zJ M 31 4).toInt, false) := by unfold iR; rw [zJ_sI, zI_s, if_pos rfl]; rfl
            rw [e]; unfold gRs; rw [if_neg (by rintro (z | z); exact n0 z; exact n1 z), if_pos ⟨e2, e3⟩]; rfl
          · rw [zI_s, if_neg (by decide)]
          · rw [zI_s, if_neg (by decide)]; exact hz.1
          · rw [zI_s, if_pos rfl]; exact Or.inl rfl
    · skip
      have u1 : (zJ M 31 3).toInt * B.toInt < T.toInt * (zJ M 31 4).toInt := by rw [← m1, ← m2]; exact Int.not_le.mp (fun z => h_29 (Int64.le_iff_toInt_le.mpr z))
      refine za_aload_n hc dI_raiseRow_33 rfl ?_
      refine za_lload_n hc dI_raiseRow_34 rfl ?_
      refine za_putJ hc gpI_44 (by assumption) dI_raiseRow_35 ?_
      refine za_aload_n hc dI_raiseRow_38 rfl ?_
      refine za_lload_n hc dI_raiseRow_39 rfl ?_
      refine za_putJ hc gpI_31 (by assumption) dI_raiseRow_40 ?_
      refine za_aload_n hc dI_raiseRow_43 rfl ?_
      refine za_iload hc dI_raiseRow_44 rfl ?_
      refine za_putZ hc gpI_47 (by assumption) (nz01 hk) dI_raiseRow_46 ?_
      refine za_goto 70 hc dI_raiseRow_49 rfl ?_
      refine za_vret hc rfl dI_raiseRow_70 ⟨Nat.zero_le _, Nat.zero_le _⟩ ⟨rfl, ?_, iA_k ?_ ?_ ?_, ⟨?_, ?_⟩, ?_⟩
      · have e : iR (zsI (zsJ (zsJ M 31 3 T) 31 4 B) 31 5 k) = (T.toInt, B.toInt, k == 1) := by unfold iR; rw [zJ_sI, zJ_s, if_neg (by decide), zJ_s, if_pos rfl, zJ_s, if_pos rfl, zI_s, if_pos rfl]
        rw [e]; unfold gRs; rw [if_pos ?_]; exact Or.inr u1
      · rw [zJ_sI, zJ_s, if_neg (by decide), zJ_s, if_neg (by decide)]
      · rw [zJ_sI, zJ_s, if_neg (by decide), zJ_s, if_neg (by decide)]
      · rw [zI_s, if_neg (by decide), zI_sJ, zI_sJ]
      · rw [zI_s, if_neg (by decide), zI_sJ, zI_sJ]; exact hz.1
      · rw [zI_s, if_pos rfl]; exact hk
      · exact (zfr_sJ (P := iF) rfl).tr ((zfr_sJ (P := iF) rfl).tr (zfr_sI (P := iF) rfl))

set_option maxRecDepth 100000 in
set_option maxHeartbeats 4000000 in
theorem cI_side_ (l : Launch) {p j i : Nat} (M : zM) (f g : Int32) (hf : f.toInt.natAbs ≤ 100) (hg : g.toInt.natAbs ≤ 100) (hp : zrg p) (hj : j < 12) (hi : i < 12) (hl : gLim (rg M p j i)) : zMet l mI_side rI_side [.ref p, .int (nI j), .int (nI i), .int f, .int g] M (zqi (fun x M' => x.toInt = gsd f.toInt g.toInt (rg M p j i) ∧ M' = M)) := by
  refine za_enter (by decide) (Nat.le_of_ble_eq_true rfl) (fun X hc => ?_)
  have hpo := hp.o
  have b1i : (zI M (p + 2) (48 * j + 4 * i)).toInt.natAbs ≤ 10000 := hl.1
  have b2i : (zI M (p + 2) (48 * j + 4 * i + 1)).toInt.natAbs ≤ 10000 := hl.2.1
  have b3i : (zI M (p + 2) (48 * j + 4 * i + 2)).toInt.natAbs ≤ 10000 := hl.2.2
  have p1 := g_mulb (A := 10000) (B := 100) (a := (zI M (p + 2) (48 * j + 4 * i + 1)).toInt) (b := f.toInt) (by omega) (by omega)
  have p2 := g_mulb (A := 10000) (B := 100) (a := (zI M (p + 2) (48 * j + 4 * i)).toInt) (b := g.toInt) (by omega) (by omega)
  have m1 := i_mul (x := (zI M (p + 2) (48 * j + 4 * i + 1))) (y := f) (by omega) (by omega)
  have m2 := i_mul (x := (zI M (p + 2) (48 * j + 4 * i))) (y := g) (by omega) (by omega)
  refine za_aload_n hc dI_side_0 rfl ?_
  refine za_iload_n hc dI_side_1 rfl ?_
  refine za_iload_n hc dI_side_2 rfl ?_
  refine za_cV2i hc gsI_70 (by assumption) (cR_y_ l M hp hj hi) ⟨rfl, rfl⟩ ⟨Nat.le_of_ble_eq_true rfl, Nat.le_of_ble_eq_true rfl⟩ ⟨Nat.zero_le _, Nat.zero_le _⟩ dI_side_3 (fun x_3 M_3 h_3 => ?_)
  obtain ⟨q_3, hm_3⟩ := h_3
  rw [hm_3, q_3]
  refine za_iload_n hc dI_side_6 rfl ?_
  refine za_imul hc dI_side_7 ?_
  refine za_aload_n hc dI_side_8 rfl ?_
  refine za_iload_n hc dI_side_9 rfl ?_
  refine za_iload_n hc dI_side_10 rfl ?_
  refine za_cV2i hc gsI_74 (by assumption) (cR_x_ l M hp hj hi) ⟨rfl, rfl⟩ ⟨Nat.le_of_ble_eq_true rfl, Nat.le_of_ble_eq_true rfl⟩ ⟨Nat.zero_le _, Nat.zero_le _⟩ dI_side_11 (fun x_11 M_11 h_11 => ?_)
  obtain ⟨q_11, hm_11⟩ := h_11
  rw [hm_11, q_11]
  refine za_iload hc dI_side_14 rfl ?_
  refine za_imul hc dI_side_16 ?_
  refine za_isub hc dI_side_17 ?_
  exact za_iret hc rfl dI_side_18 ⟨Nat.zero_le _, Nat.zero_le _⟩ (⟨_, rfl, by rw [i_sub (by rw [m1, m2]; omega) (by rw [m1, m2]; omega), m1, m2]; rfl, rfl⟩)

set_option maxRecDepth 100000 in
set_option maxHeartbeats 4000000 in
theorem cI_boundByOne_ (l : Launch) {p j i : Nat} (M : zM) (f g : Int32) (hf : f.toInt.natAbs ≤ 100) (hg : g.toInt.natAbs ≤ 100) (hp : zrg p) (hj : j < 12) (hi : i < 12) (hl : gLim (rg M p j i)) (hb : iB (iR M)) (hz : iZ M) : zMet l mI_boundByOne rI_boundByOne [.ref 31, .ref p, .int (nI j), .int (nI i), .int f, .int g] M (zqv (fun M' => iR M' = (if gal f.toInt g.toInt (rg M p j i) < 0 then gRs (iR M) (-(rg M p j i).2.2.1 * (f.toInt * f.toInt + g.toInt * g.toInt)) (-gal f.toInt g.toInt (rg M p j i)) (!(rg M p j i).2.2.2) else iR M) ∧ iA M' = iA M ∧ iZ M' ∧ zfr iF M M')) := by
  refine za_enter (by decide) (Nat.le_of_ble_eq_true rfl) (fun X hc => ?_)
  have hpo := hp.o
  have ho := zob_31
  have b1i : (zI M (p + 2) (48 * j + 4 * i)).toInt.natAbs ≤ 10000 := hl.1
  have b2i : (zI M (p + 2) (48 * j + 4 * i + 1)).toInt.natAbs ≤ 10000 := hl.2.1
  have b3i : (zI M (p + 2) (48 * j + 4 * i + 2)).toInt.natAbs ≤ 10000 := hl.2.2
  have p1 := g_mulb (A := 10000) (B := 100) (a := (zI M (p + 2) (48 * j + 4 * i)).toInt) (b := f.toInt) (by omega) (by omega)
  have p2 := g_mulb (A := 10000) (B := 100) (a := (zI M (p + 2) (48 * j + 4 * i + 1)).toInt) (b := g.toInt) (by omega) (by omega)
  have p3 := g_mulb (A := 100) (B := 100) (a := f.toInt) (b := f.toInt) (by omega) (by omega)
  have p4 := g_mulb (A := 100) (B := 100) (a := g.toInt) (b := g.toInt) (by omega) (by omega)
  have p5 := g_mulb (A := 10000) (B := 20000) (a := -(zI M (p + 2) (48 * j + 4 * i + 2)).toInt) (b := (f.toInt * f.toInt + g.toInt * g.toInt)) (by omega) (by omega)
  have ha : ((zI M (p + 2) (48 * j + 4 * i)).toInt64 * f.toInt64 + (zI M (p + 2) (48 * j + 4 * i + 1)).toInt64 * g.toInt64).toInt = gal f.toInt g.toInt (rg M p j i) := by
    have q1 := l_mul (x := (zI M (p + 2) (48 * j + 4 * i)).toInt64) (y := f.toInt64) (by rw [i2l_int, i2l_int]; omega) (by rw [i2l_int, i2l_int]; omega)
    have q2 := l_mul (x := (zI M (p + 2) (48 * j + 4 * i + 1)).toInt64) (y := g.toInt64) (by rw [i2l_int, i2l_int]; omega) (by rw [i2l_int, i2l_int]; omega)
    rw [i2l_int, i2l_int] at q1 q2
    rw [l_add (by rw [q1, q2]; omega) (by rw [q1, q2]; omega), q1, q2]; rfl
  have hal : -2000000 ≤ gal f.toInt g.toInt (rg M p j i) ∧ gal f.toInt g.toInt (rg M p j i) ≤ 2000000 := by unfold gal rg; simp only; omega
  have hsq : (f.toInt64 * f.toInt64 + g.toInt64 * g.toInt64).toInt = (f.toInt * f.toInt + g.toInt * g.toInt) := by
    have q1 := l_mul (x := f.toInt64) (y := f.toInt64) (by rw [i2l_int]; omega) (by rw [i2l_int]; omega)
    have q2 := l_mul (x := g.toInt64) (y := g.toInt64) (by rw [i2l_int]; omega) (by rw [i2l_int]; omega)
    rw [i2l_int] at q1 q2
    rw [l_add (by rw [q1, q2]; omega) (by rw [q1, q2]; omega), q1, q2]
  have hbt : ((-(zI M (p + 2) (48 * j + 4 * i + 2))).toInt64 * (f.toInt64 * f.toInt64 + g.toInt64 * g.toInt64)).toInt = -(zI M (p + 2) (48 * j + 4 * i + 2)).toInt * (f.toInt * f.toInt + g.toInt * g.toInt) := by
    have hn : (-(zI M (p + 2) (48 * j + 4 * i + 2))).toInt64.toInt = -(zI M (p + 2) (48 * j + 4 * i + 2)).toInt := by rw [i2l_int, i_neg (by omega)]
    rw [l_mul (by rw [hn, hsq]; omega) (by rw [hn, hsq]; omega), hn, hsq]
  refine za_aload_n hc dI_boundByOne_0 rfl ?_
  refine za_iload_n hc dI_boundByOne_1 rfl ?_
  refine za_iload_n hc dI_boundByOne_2 rfl ?_
  refine za_cV2i hc gsI_74 (by assumption) (cR_x_ l M hp hj hi) ⟨rfl, rfl⟩ ⟨Nat.le_of_ble_eq_true rfl, Nat.le_of_ble_eq_true rfl⟩ ⟨Nat.zero_le _, Nat.zero_le _⟩ dI_boundByOne_3 (fun x_3 M_3 h_3 => ?_)
  obtain ⟨q_3, hm_3⟩ := h_3
  rw [hm_3, q_3]
  refine za_i2l hc dI_boundByOne_6 ?_
  refine za_iload hc dI_boundByOne_7 rfl ?_
  refine za_i2l hc dI_boundByOne_9 ?_
  refine za_lmul hc dI_boundByOne_10 ?_
  refine za_aload_n hc dI_boundByOne_11 rfl ?_
  refine za_iload_n hc dI_boundByOne_12 rfl ?_
  refine za_iload_n hc dI_boundByOne_13 rfl ?_
  refine za_cV2i hc gsI_70 (by assumption) (cR_y_ l M hp hj hi) ⟨rfl, rfl⟩ ⟨Nat.le_of_ble_eq_true rfl, Nat.le_of_ble_eq_true rfl⟩ ⟨Nat.zero_le _, Nat.zero_le _⟩ dI_boundByOne_14 (fun x_14 M_14 h_14 => ?_)
  obtain ⟨q_14, hm_14⟩ := h_14
  rw [hm_14, q_14]
  refine za_i2l hc dI_boundByOne_17 ?_
  refine za_iload hc dI_boundByOne_18 rfl ?_
  refine za_i2l hc dI_boundByOne_20 ?_
  refine za_lmul hc dI_boundByOne_21 ?_
  refine za_ladd hc dI_boundByOne_22 ?_
  refine za_lstore hc dI_boundByOne_23 (by decide) ?_
  refine za_lload hc dI_boundByOne_25 rfl ?_
  refine za_lconst hc 0 dI_boundByOne_27 rfl ?_
  refine za_lcmp_ge 81 hc dI_boundByOne_28 dI_boundByOne_29 rfl (fun h_28 => ?_) (fun h_28 => ?_)
  · skip
    have hn : ¬ gal f.toInt g.toInt (rg M p j i) < 0 := by rw [← ha]; exact Int.not_lt.mpr (Int64.le_iff_toInt_le.mp h_28)
    exact za_vret hc rfl dI_boundByOne_81 ⟨Nat.zero_le _, Nat.zero_le _⟩ (by first | exact ⟨rfl, by rw [if_pos hn]; exact r1, r2, r3, r4⟩ | exact ⟨rfl, by rw [if_neg hn], rfl, hz, zfr.rf⟩)
  · skip
    have hn : gal f.toInt g.toInt (rg M p j i) < 0 := by rw [← ha]; exact Int.not_le.mp (fun z => h_28 (Int64.le_iff_toInt_le.mpr z))
    refine za_iload hc dI_boundByOne_32 rfl ?_
    refine za_i2l hc dI_boundByOne_34 ?_
    refine za_iload hc dI_boundByOne_35 rfl ?_
    refine za_i2l hc dI_boundByOne_37 ?_
    refine za_lmul hc dI_boundByOne_38 ?_
    refine za_iload hc dI_boundByOne_39 rfl ?_
    refine za_i2l hc dI_boundByOne_41 ?_
    refine za_iload hc dI_boundByOne_42 rfl ?_
    refine za_i2l hc dI_boundByOne_44 ?_
    refine za_lmul hc dI_boundByOne_45 ?_
    refine za_ladd hc dI_boundByOne_46 ?_
    refine za_lstore hc dI_boundByOne_47 (by decide) ?_
    refine za_aload_n hc dI_boundByOne_49 rfl ?_
    refine za_aload_n hc dI_boundByOne_50 rfl ?_
    refine za_iload_n hc dI_boundByOne_51 rfl ?_
    refine za_iload_n hc dI_boundByOne_52 rfl ?_
    refine za_cV2i hc gsI_77 (by assumption) (cR_bound_ l M hp hj hi) ⟨rfl, rfl⟩ ⟨Nat.le_of_ble_eq_true rfl, Nat.le_of_ble_eq_true rfl⟩ ⟨Nat.zero_le _, Nat.zero_le _⟩ dI_boundByOne_53 (fun x_53 M_53 h_53 => ?_)
    obtain ⟨q_53, hm_53⟩ := h_53
    rw [hm_53, q_53]
    refine za_ineg hc dI_boundByOne_56 ?_
    refine za_i2l hc dI_boundByOne_57 ?_
    refine za_lload hc dI_boundByOne_58 rfl ?_
    refine za_lmul hc dI_boundByOne_60 ?_
    refine za_lload hc dI_boundByOne_61 rfl ?_
    refine za_lneg hc dI_boundByOne_63 ?_
    refine za_aload_n hc dI_boundByOne_64 rfl ?_
    refine za_iload_n hc dI_boundByOne_65 rfl ?_
    refine za_iload_n hc dI_boundByOne_66 rfl ?_
    refine za_cV2i hc gsI_80 (by assumption) (cR_isStrict_ l M hp hj hi) ⟨rfl, rfl⟩ ⟨Nat.le_of_ble_eq_true rfl, Nat.le_of_ble_eq_true rfl⟩ ⟨Nat.zero_le _, Nat.zero_le _⟩ dI_boundByOne_67 (fun x_67 M_67 h_67 => ?_)
    obtain ⟨q_67, hm_67⟩ := h_67
    rw [hm_67, q_67]
    refine za_if_ne 77 hc dI_boundByOne_70 rfl (fun h_70 => ?_) (fun h_70 => ?_)
    · skip
      have hsg : ((0 : Int32) == 1) = !(zI M (p + 2) (48 * j + 4 * i + 3) == 1) := by by_cases z : zI M (p + 2) (48 * j + 4 * i + 3) = 1; rw [z]; rfl; exact absurd (if_neg z) h_70
      refine za_iconst hc 0 dI_boundByOne_77 rfl ?_
      refine za_cV3v hc gsI_84 (by assumption) (cI_raiseRow_ l M _ _ _ hb hz (by rw [hbt]; omega) (by rw [l_neg (by rw [ha]; omega), ha]; omega) (by first | exact Or.inl rfl | exact Or.inr rfl)) ⟨rfl, rfl⟩ ⟨Nat.le_of_ble_eq_true rfl, Nat.le_of_ble_eq_true rfl⟩ ⟨Nat.zero_le _, Nat.zero_le _⟩ dI_boundByOne_78 (fun M_78 h_78 => ?_)
      obtain ⟨r1, r2, r3, r4⟩ := h_78
      rw [hbt, l_neg (by rw [ha]; omega), ha, hsg] at r1
      exact za_vret hc rfl dI_boundByOne_81 ⟨Nat.zero_le _, Nat.zero_le _⟩ (by first | exact ⟨rfl, by rw [if_pos hn]; exact r1, r2, r3, r4⟩ | exact ⟨rfl, by rw [if_neg hn], rfl, hz, zfr.rf⟩)
    · skip
      have hsg : ((1 : Int32) == 1) = !(zI M (p + 2) (48 * j + 4 * i + 3) == 1) := by by_cases z : zI M (p + 2) (48 * j + 4 * i + 3) = 1; rw [if_pos z] at h_70; exact absurd h_70 (by decide); simp [z]
      refine za_iconst hc 1 dI_boundByOne_73 rfl ?_
      refine za_goto 78 hc dI_boundByOne_74 rfl ?_
      refine za_cV3v hc gsI_84 (by assumption) (cI_raiseRow_ l M _ _ _ hb hz (by rw [hbt]; omega) (by rw [l_neg (by rw [ha]; omega), ha]; omega) (by first | exact Or.inl rfl | exact Or.inr rfl)) ⟨rfl, rfl⟩ ⟨Nat.le_of_ble_eq_true rfl, Nat.le_of_ble_eq_true rfl⟩ ⟨Nat.zero_le _, Nat.zero_le _⟩ dI_boundByOne_78 (fun M_78 h_78 => ?_)
      obtain ⟨r1, r2, r3, r4⟩ := h_78
      rw [hbt, l_neg (by rw [ha]; omega), ha, hsg] at r1
      exact za_vret hc rfl dI_boundByOne_81 ⟨Nat.zero_le _, Nat.zero_le _⟩ (by first | exact ⟨rfl, by rw [if_pos hn]; exact r1, r2, r3, r4⟩ | exact ⟨rfl, by rw [if_neg hn], rfl, hz, zfr.rf⟩)

theorem l_mm {a b c d : Int32} (ha : a.toInt.natAbs ≤ 10000) (hb : b.toInt.natAbs ≤ 10000) (hc : c.toInt.natAbs ≤ 10000) (hd : d.toInt.natAbs ≤ 10000) : (a.toInt64 * b.toInt64 - c.toInt64 * d.toInt64).toInt = a.toInt * b.toInt - c.toInt * d.toInt ∧ -200000000 ≤ a.toInt * b.toInt - c.toInt * d.toInt ∧ a.toInt * b.toInt - c.toInt * d.toInt ≤ 200000000 := by
  have p1 := g_mulb (A := 10000) (B := 10000) (a := a.toInt) (b := b.toInt) (by omega) (by omega)
  have p2 := g_mulb (A := 10000) (B := 10000) (a := c.toInt) (b := d.toInt) (by omega) (by omega)
  have q1 := l_mul (x := a.toInt64) (y := b.toInt64) (by rw [i2l_int, i2l_int]; omega) (by rw [i2l_int, i2l_int]; omega)
  have q2 := l_mul (x := c.toInt64) (y := d.toInt64) (by rw [i2l_int, i2l_int]; omega) (by rw [i2l_int, i2l_int]; omega)
  rw [i2l_int, i2l_int] at q1 q2
  exact ⟨by rw [l_sub (by rw [q1, q2]; omega) (by rw [q1, q2]; omega), q1, q2], by omega, by omega⟩
theorem l_fg {f g : Int32} {X Y : Int64} {x y : Int} (hf : f.toInt.natAbs ≤ 100) (hg : g.toInt.natAbs ≤ 100) (h1 : X.toInt = x ∧ -200000000 ≤ x ∧ x ≤ 200000000) (h2 : Y.toInt = y ∧ -200000000 ≤ y ∧ y ≤ 200000000) : (f.toInt64 * X + g.toInt64 * Y).toInt = f.toInt * x + g.toInt * y ∧ -40000000000 ≤ f.toInt * x + g.toInt * y ∧ f.toInt * x + g.toInt * y ≤ 40000000000 := by
  have p1 := g_mulb (A := 100) (B := 200000000) (a := f.toInt) (b := x) (by omega) h1.2
  have p2 := g_mulb (A := 100) (B := 200000000) (a := g.toInt) (b := y) (by omega) h2.2
  have q1 := l_mul (x := f.toInt64) (y := X) (by rw [i2l_int, h1.1]; omega) (by rw [i2l_int, h1.1]; omega)
  have q2 := l_mul (x := g.toInt64) (y := Y) (by rw [i2l_int, h2.1]; omega) (by rw [i2l_int, h2.1]; omega)
  rw [i2l_int, h1.1] at q1
  rw [i2l_int, h2.1] at q2
  exact ⟨by rw [l_add (by rw [q1, q2]; omega) (by rw [q1, q2]; omega), q1, q2], by omega, by omega⟩

set_option maxRecDepth 100000 in
set_option maxHeartbeats 4000000 in
theorem cI_boundByTwo_ (l : Launch) {p j i k : Nat} (M : zM) (f g : Int32) (hf : f.toInt.natAbs ≤ 100) (hg : g.toInt.natAbs ≤ 100) (hp : zrg p) (hj : j < 12) (hi : i < 12) (hk : k < 12) (hl : gLim (rg M p j i)) (hlk : gLim (rg M p j k)) (hb : iB (iR M)) (hz : iZ M) : zMet l mI_boundByTwo rI_boundByTwo [.ref 31, .ref p, .int (nI j), .int (nI i), .int (nI k), .int f, .int g] M (zqv (fun M' => iR M' = (if 0 < gtn (rg M p j i) (rg M p j k) then gRs (iR M) (gtp f.toInt g.toInt (rg M p j i) (rg M p j k)) (gtn (rg M p j i) (rg M p j k)) (!(rg M p j i).2.2.2 && !(rg M p j k).2.2.2) else iR M) ∧ iA M' = iA M ∧ iZ M' ∧ zfr iF M M')) := by
  refine za_enter (by decide) (Nat.le_of_ble_eq_true rfl) (fun X hc => ?_)
  have hpo := hp.o
  have ho := zob_31
  have b1i : (zI M (p + 2) (48 * j + 4 * i)).toInt.natAbs ≤ 10000 := hl.1
  have b2i : (zI M (p + 2) (48 * j + 4 * i + 1)).toInt.natAbs ≤ 10000 := hl.2.1
  have b3i : (zI M (p + 2) (48 * j + 4 * i + 2)).toInt.natAbs ≤ 10000 := hl.2.2
  have b1k : (zI M (p + 2) (48 * j + 4 * k)).toInt.natAbs ≤ 10000 := hlk.1
  have b2k : (zI M (p + 2) (48 * j + 4 * k + 1)).toInt.natAbs ≤ 10000 := hlk.2.1
  have b3k : (zI M (p + 2) (48 * j + 4 * k + 2)).toInt.natAbs ≤ 10000 := hlk.2.2
  have t1 := l_mm (a := (zI M (p + 2) (48 * j + 4 * i))) (b := (zI M (p + 2) (48 * j + 4 * k + 1))) (c := (zI M (p + 2) (48 * j + 4 * i + 1))) (d := (zI M (p + 2) (48 * j + 4 * k))) b1i b2k b2i b1k
  have t2 := l_mm (a := (zI M (p + 2) (48 * j + 4 * i + 2))) (b := (zI M (p + 2) (48 * j + 4 * k + 1))) (c := (zI M (p + 2) (48 * j + 4 * i + 1))) (d := (zI M (p + 2) (48 * j + 4 * k + 2))) b3i b2k b2i b3k
  have t3 := l_mm (a := (zI M (p + 2) (48 * j + 4 * i))) (b := (zI M (p + 2) (48 * j + 4 * k + 2))) (c := (zI M (p + 2) (48 * j + 4 * i + 2))) (d := (zI M (p + 2) (48 * j + 4 * k))) b1i b3k b3i b1k
  have hT := l_fg hf hg t2 t3
  have e : f.toInt * ((zI M (p + 2) (48 * j + 4 * i + 2)).toInt * (zI M (p + 2) (48 * j + 4 * k + 1)).toInt - (zI M (p + 2) (48 * j + 4 * i + 1)).toInt * (zI M (p + 2) (48 * j + 4 * k + 2)).toInt) + g.toInt * ((zI M (p + 2) (48 * j + 4 * i)).toInt * (zI M (p + 2) (48 * j + 4 * k + 2)).toInt - (zI M (p + 2) (48 * j + 4 * i + 2)).toInt * (zI M (p + 2) (48 * j + 4 * k)).toInt) = gtp f.toInt g.toInt (rg M p j i) (rg M p j k) := by unfold gtp gsd rg; simp only; clear t1 t2 t3 hT; grind
  rw [e] at hT
  clear t2 t3 e
  have ht : gtn (rg M p j i) (rg M p j k) = (zI M (p + 2) (48 * j + 4 * i)).toInt * (zI M (p + 2) (48 * j + 4 * k + 1)).toInt - (zI M (p + 2) (48 * j + 4 * i + 1)).toInt * (zI M (p + 2) (48 * j + 4 * k)).toInt := rfl
  refine za_aload_n hc dI_boundByTwo_0 rfl ?_
  refine za_iload_n hc dI_boundByTwo_1 rfl ?_
  refine za_iload_n hc dI_boundByTwo_2 rfl ?_
  refine za_cV2i hc gsI_74 (by assumption) (cR_x_ l M hp hj hi) ⟨rfl, rfl⟩ ⟨Nat.le_of_ble_eq_true rfl, Nat.le_of_ble_eq_true rfl⟩ ⟨Nat.zero_le _, Nat.zero_le _⟩ dI_boundByTwo_3 (fun x_3 M_3 h_3 => ?_)
  obtain ⟨q_3, hm_3⟩ := h_3
  rw [hm_3, q_3]
  refine za_i2l hc dI_boundByTwo_6 ?_
  refine za_lstore hc dI_boundByTwo_7 (by decide) ?_
  refine za_aload_n hc dI_boundByTwo_9 rfl ?_
  refine za_iload_n hc dI_boundByTwo_10 rfl ?_
  refine za_iload_n hc dI_boundByTwo_11 rfl ?_
  refine za_cV2i hc gsI_70 (by assumption) (cR_y_ l M hp hj hi) ⟨rfl, rfl⟩ ⟨Nat.le_of_ble_eq_true rfl, Nat.le_of_ble_eq_true rfl⟩ ⟨Nat.zero_le _, Nat.zero_le _⟩ dI_boundByTwo_12 (fun x_12 M_12 h_12 => ?_)
  obtain ⟨q_12, hm_12⟩ := h_12
  rw [hm_12, q_12]
  refine za_i2l hc dI_boundByTwo_15 ?_
  refine za_lstore hc dI_boundByTwo_16 (by decide) ?_
  refine za_aload_n hc dI_boundByTwo_18 rfl ?_
  refine za_iload_n hc dI_boundByTwo_19 rfl ?_
  refine za_iload_n hc dI_boundByTwo_20 rfl ?_
  refine za_cV2i hc gsI_77 (by assumption) (cR_bound_ l M hp hj hi) ⟨rfl, rfl⟩ ⟨Nat.le_of_ble_eq_true rfl, Nat.le_of_ble_eq_true rfl⟩ ⟨Nat.zero_le _, Nat.zero_le _⟩ dI_boundByTwo_21 (fun x_21 M_21 h_21 => ?_)
  obtain ⟨q_21, hm_21⟩ := h_21
  rw [hm_21, q_21]
  refine za_i2l hc dI_boundByTwo_24 ?_
  refine za_lstore hc dI_boundByTwo_25 (by decide) ?_
  refine za_lload hc dI_boundByTwo_27 rfl ?_
  refine za_aload_n hc dI_boundByTwo_29 rfl ?_
  refine za_iload_n hc dI_boundByTwo_30 rfl ?_
  refine za_iload hc dI_boundByTwo_31 rfl ?_
  refine za_cV2i hc gsI_70 (by assumption) (cR_y_ l M hp hj hk) ⟨rfl, rfl⟩ ⟨Nat.le_of_ble_eq_true rfl, Nat.le_of_ble_eq_true rfl⟩ ⟨Nat.zero_le _, Nat.zero_le _⟩ dI_boundByTwo_33 (fun x_33 M_33 h_33 => ?_)
  obtain ⟨q_33, hm_33⟩ := h_33
  rw [hm_33, q_33]
  refine za_i2l hc dI_boundByTwo_36 ?_
  refine za_lmul hc dI_boundByTwo_37 ?_
  refine za_lload hc dI_boundByTwo_38 rfl ?_
  refine za_aload_n hc dI_boundByTwo_40 rfl ?_
  refine za_iload_n hc dI_boundByTwo_41 rfl ?_
  refine za_iload hc dI_boundByTwo_42 rfl ?_
  refine za_cV2i hc gsI_74 (by assumption) (cR_x_ l M hp hj hk) ⟨rfl, rfl⟩ ⟨Nat.le_of_ble_eq_true rfl, Nat.le_of_ble_eq_true rfl⟩ ⟨Nat.zero_le _, Nat.zero_le _⟩ dI_boundByTwo_44 (fun x_44 M_44 h_44 => ?_)
  obtain ⟨q_44, hm_44⟩ := h_44
  rw [hm_44, q_44]
  refine za_i2l hc dI_boundByTwo_47 ?_
  refine za_lmul hc dI_boundByTwo_48 ?_
  refine za_lsub hc dI_boundByTwo_49 ?_
  refine za_lstore hc dI_boundByTwo_50 (by decide) ?_
  refine za_lload hc dI_boundByTwo_52 rfl ?_
  refine za_lconst hc 0 dI_boundByTwo_54 rfl ?_
  refine za_lcmp_le 156 hc dI_boundByTwo_55 dI_boundByTwo_56 rfl (fun h_55 => ?_) (fun h_55 => ?_)
  · skip
    have hn : ¬ 0 < gtn (rg M p j i) (rg M p j k) := by rw [ht, ← t1.1]; exact Int.not_lt.mpr (Int64.le_iff_toInt_le.mp h_55)
    exact za_vret hc rfl dI_boundByTwo_156 ⟨Nat.zero_le _, Nat.zero_le _⟩ (by first | exact ⟨rfl, by rw [if_pos (by rw [ht]; exact hn)]; exact r1, r2, r3, r4⟩ | exact ⟨rfl, by rw [if_neg hn], rfl, hz, zfr.rf⟩)
  · skip
    have hn : 0 < gtn (rg M p j i) (rg M p j k) := by rw [ht, ← t1.1]; exact Int.not_le.mp (fun z => h_55 (Int64.le_iff_toInt_le.mpr z))
    rw [ht] at hn
    refine za_lload hc dI_boundByTwo_59 rfl ?_
    refine za_aload_n hc dI_boundByTwo_61 rfl ?_
    refine za_iload_n hc dI_boundByTwo_62 rfl ?_
    refine za_iload hc dI_boundByTwo_63 rfl ?_
    refine za_cV2i hc gsI_70 (by assumption) (cR_y_ l M hp hj hk) ⟨rfl, rfl⟩ ⟨Nat.le_of_ble_eq_true rfl, Nat.le_of_ble_eq_true rfl⟩ ⟨Nat.zero_le _, Nat.zero_le _⟩ dI_boundByTwo_65 (fun x_65 M_65 h_65 => ?_)
    obtain ⟨q_65, hm_65⟩ := h_65
    rw [hm_65, q_65]
    refine za_i2l hc dI_boundByTwo_68 ?_
    refine za_lmul hc dI_boundByTwo_69 ?_
    refine za_lload hc dI_boundByTwo_70 rfl ?_
    refine za_aload_n hc dI_boundByTwo_72 rfl ?_
    refine za_iload_n hc dI_boundByTwo_73 rfl ?_
    refine za_iload hc dI_boundByTwo_74 rfl ?_
    refine za_cV2i hc gsI_77 (by assumption) (cR_bound_ l M hp hj hk) ⟨rfl, rfl⟩ ⟨Nat.le_of_ble_eq_true rfl, Nat.le_of_ble_eq_true rfl⟩ ⟨Nat.zero_le _, Nat.zero_le _⟩ dI_boundByTwo_76 (fun x_76 M_76 h_76 => ?_)
    obtain ⟨q_76, hm_76⟩ := h_76
    rw [hm_76, q_76]
    refine za_i2l hc dI_boundByTwo_79 ?_
    refine za_lmul hc dI_boundByTwo_80 ?_
    refine za_lsub hc dI_boundByTwo_81 ?_
    refine za_lstore hc dI_boundByTwo_82 (by decide) ?_
    refine za_lload hc dI_boundByTwo_84 rfl ?_
    refine za_aload_n hc dI_boundByTwo_86 rfl ?_
    refine za_iload_n hc dI_boundByTwo_87 rfl ?_
    refine za_iload hc dI_boundByTwo_88 rfl ?_
    refine za_cV2i hc gsI_77 (by assumption) (cR_bound_ l M hp hj hk) ⟨rfl, rfl⟩ ⟨Nat.le_of_ble_eq_true rfl, Nat.le_of_ble_eq_true rfl⟩ ⟨Nat.zero_le _, Nat.zero_le _⟩ dI_boundByTwo_90 (fun x_90 M_90 h_90 => ?_)
    obtain ⟨q_90, hm_90⟩ := h_90
    rw [hm_90, q_90]
    refine za_i2l hc dI_boundByTwo_93 ?_
    refine za_lmul hc dI_boundByTwo_94 ?_
    refine za_lload hc dI_boundByTwo_95 rfl ?_
    refine za_aload_n hc dI_boundByTwo_97 rfl ?_
    refine za_iload_n hc dI_boundByTwo_98 rfl ?_
    refine za_iload hc dI_boundByTwo_99 rfl ?_
    refine za_cV2i hc gsI_74 (by assumption) (cR_x_ l M hp hj hk) ⟨rfl, rfl⟩ ⟨Nat.le_of_ble_eq_true rfl, Nat.le_of_ble_eq_true rfl⟩ ⟨Nat.zero_le _, Nat.zero_le _⟩ dI_boundByTwo_101 (fun x_101 M_101 h_101 => ?_)
    obtain ⟨q_101, hm_101⟩ := h_101
    rw [hm_101, q_101]
    refine za_i2l hc dI_boundByTwo_104 ?_
    refine za_lmul hc dI_boundByTwo_105 ?_
    refine za_lsub hc dI_boundByTwo_106 ?_
    refine za_lstore hc dI_boundByTwo_107 (by decide) ?_
    refine za_aload_n hc dI_boundByTwo_109 rfl ?_
    refine za_iload_n hc dI_boundByTwo_110 rfl ?_
    refine za_iload_n hc dI_boundByTwo_111 rfl ?_
    refine za_cV2i hc gsI_80 (by assumption) (cR_isStrict_ l M hp hj hi) ⟨rfl, rfl⟩ ⟨Nat.le_of_ble_eq_true rfl, Nat.le_of_ble_eq_true rfl⟩ ⟨Nat.zero_le _, Nat.zero_le _⟩ dI_boundByTwo_112 (fun x_112 M_112 h_112 => ?_)
    obtain ⟨q_112, hm_112⟩ := h_112
    rw [hm_112, q_112]
    refine za_if_ne 132 hc dI_boundByTwo_115 rfl (fun h_115 => ?_) (fun h_115 => ?_)
    · skip
      have hsg : ((0 : Int32) == 1) = (!(zI M (p + 2) (48 * j + 4 * i + 3) == 1) && !(zI M (p + 2) (48 * j + 4 * k + 3) == 1)) := by by_cases z : zI M (p + 2) (48 * j + 4 * i + 3) = 1; rw [z]; rfl; exact absurd (if_neg z) h_115
      refine za_iconst hc 0 dI_boundByTwo_132 rfl ?_
      refine za_istore hc dI_boundByTwo_133 (by decide) ?_
      refine za_aload_n hc dI_boundByTwo_135 rfl ?_
      refine za_iload hc dI_boundByTwo_136 rfl ?_
      refine za_i2l hc dI_boundByTwo_138 ?_
      refine za_lload hc dI_boundByTwo_139 rfl ?_
      refine za_lmul hc dI_boundByTwo_141 ?_
      refine za_iload hc dI_boundByTwo_142 rfl ?_
      refine za_i2l hc dI_boundByTwo_144 ?_
      refine za_lload hc dI_boundByTwo_145 rfl ?_
      refine za_lmul hc dI_boundByTwo_147 ?_
      refine za_ladd hc dI_boundByTwo_148 ?_
      refine za_lload hc dI_boundByTwo_149 rfl ?_
      refine za_iload hc dI_boundByTwo_151 rfl ?_
      refine za_cV3v hc gsI_84 (by assumption) (cI_raiseRow_ l M _ _ _ hb hz (by rw [hT.1]; exact hT.2) (by rw [t1.1]; omega) (by first | exact Or.inl rfl | exact Or.inr rfl)) ⟨rfl, rfl⟩ ⟨Nat.le_of_ble_eq_true rfl, Nat.le_of_ble_eq_true rfl⟩ ⟨Nat.zero_le _, Nat.zero_le _⟩ dI_boundByTwo_153 (fun M_153 h_153 => ?_)
      obtain ⟨r1, r2, r3, r4⟩ := h_153
      rw [hT.1, t1.1, ← ht, hsg] at r1
      exact za_vret hc rfl dI_boundByTwo_156 ⟨Nat.zero_le _, Nat.zero_le _⟩ (by first | exact ⟨rfl, by rw [if_pos (by rw [ht]; exact hn)]; exact r1, r2, r3, r4⟩ | exact ⟨rfl, by rw [if_neg hn], rfl, hz, zfr.rf⟩)
    · skip
      have z1 : (zI M (p + 2) (48 * j + 4 * i + 3) == 1) = false := by by_cases z : zI M (p + 2) (48 * j + 4 * i + 3) = 1; rw [if_pos z] at h_115; exact absurd h_115 (by decide); simp [z]
      refine za_aload_n hc dI_boundByTwo_118 rfl ?_
      refine za_iload_n hc dI_boundByTwo_119 rfl ?_
      refine za_iload hc dI_boundByTwo_120 rfl ?_
      refine za_cV2i hc gsI_80 (by assumption) (cR_isStrict_ l M hp hj hk) ⟨rfl, rfl⟩ ⟨Nat.le_of_ble_eq_true rfl, Nat.le_of_ble_eq_true rfl⟩ ⟨Nat.zero_le _, Nat.zero_le _⟩ dI_boundByTwo_122 (fun x_122 M_122 h_122 => ?_)
      obtain ⟨q_122, hm_122⟩ := h_122
      rw [hm_122, q_122]
      refine za_if_ne 132 hc dI_boundByTwo_125 rfl (fun h_125 => ?_) (fun h_125 => ?_)
      · skip
        have hsg : ((0 : Int32) == 1) = (!(zI M (p + 2) (48 * j + 4 * i + 3) == 1) && !(zI M (p + 2) (48 * j + 4 * k + 3) == 1)) := by rw [z1]; by_cases z : zI M (p + 2) (48 * j + 4 * k + 3) = 1; rw [z]; rfl; exact absurd (if_neg z) h_125
        refine za_iconst hc 0 dI_boundByTwo_132 rfl ?_
        refine za_istore hc dI_boundByTwo_133 (by decide) ?_
        refine za_aload_n hc dI_boundByTwo_135 rfl ?_
        refine za_iload hc dI_boundByTwo_136 rfl ?_
        refine za_i2l hc dI_boundByTwo_138 ?_
        refine za_lload hc dI_boundByTwo_139 rfl ?_
        refine za_lmul hc dI_boundByTwo_141 ?_
        refine za_iload hc dI_boundByTwo_142 rfl ?_
        refine za_i2l hc dI_boundByTwo_144 ?_
        refine za_lload hc dI_boundByTwo_145 rfl ?_
        refine za_lmul hc dI_boundByTwo_147 ?_
        refine za_ladd hc dI_boundByTwo_148 ?_
        refine za_lload hc dI_boundByTwo_149 rfl ?_
        refine za_iload hc dI_boundByTwo_151 rfl ?_
        refine za_cV3v hc gsI_84 (by assumption) (cI_raiseRow_ l M _ _ _ hb hz (by rw [hT.1]; exact hT.2) (by rw [t1.1]; omega) (by first | exact Or.inl rfl | exact Or.inr rfl)) ⟨rfl, rfl⟩ ⟨Nat.le_of_ble_eq_true rfl, Nat.le_of_ble_eq_true rfl⟩ ⟨Nat.zero_le _, Nat.zero_le _⟩ dI_boundByTwo_153 (fun M_153 h_153 => ?_)
        obtain ⟨r1, r2, r3, r4⟩ := h_153
        rw [hT.1, t1.1, ← ht, hsg] at r1
        exact za_vret hc rfl dI_boundByTwo_156 ⟨Nat.zero_le _, Nat.zero_le _⟩ (by first | exact ⟨rfl, by rw [if_pos (by rw [ht]; exact hn)]; exact r1, r2, r3, r4⟩ | exact ⟨rfl, by rw [if_neg hn], rfl, hz, zfr.rf⟩)
      · skip
        have hsg : ((1 : Int32) == 1) = (!(zI M (p + 2) (48 * j + 4 * i + 3) == 1) && !(zI M (p + 2) (48 * j + 4 * k + 3) == 1)) := by rw [z1]; by_cases z : zI M (p + 2) (48 * j + 4 * k + 3) = 1; rw [if_pos z] at h_125; exact absurd h_125 (by decide); simp [z]
        refine za_iconst hc 1 dI_boundByTwo_128 rfl ?_
        refine za_goto 133 hc dI_boundByTwo_129 rfl ?_
        refine za_istore hc dI_boundByTwo_133 (by decide) ?_
        refine za_aload_n hc dI_boundByTwo_135 rfl ?_
        refine za_iload hc dI_boundByTwo_136 rfl ?_
        refine za_i2l hc dI_boundByTwo_138 ?_
        refine za_lload hc dI_boundByTwo_139 rfl ?_
        refine za_lmul hc dI_boundByTwo_141 ?_
        refine za_iload hc dI_boundByTwo_142 rfl ?_
        refine za_i2l hc dI_boundByTwo_144 ?_
        refine za_lload hc dI_boundByTwo_145 rfl ?_
        refine za_lmul hc dI_boundByTwo_147 ?_
        refine za_ladd hc dI_boundByTwo_148 ?_
        refine za_lload hc dI_boundByTwo_149 rfl ?_
        refine za_iload hc dI_boundByTwo_151 rfl ?_
        refine za_cV3v hc gsI_84 (by assumption) (cI_raiseRow_ l M _ _ _ hb hz (by rw [hT.1]; exact hT.2) (by rw [t1.1]; omega) (by first | exact Or.inl rfl | exact Or.inr rfl)) ⟨rfl, rfl⟩ ⟨Nat.le_of_ble_eq_true rfl, Nat.le_of_ble_eq_true rfl⟩ ⟨Nat.zero_le _, Nat.zero_le _⟩ dI_boundByTwo_153 (fun M_153 h_153 => ?_)
        obtain ⟨r1, r2, r3, r4⟩ := h_153
        rw [hT.1, t1.1, ← ht, hsg] at r1
        exact za_vret hc rfl dI_boundByTwo_156 ⟨Nat.zero_le _, Nat.zero_le _⟩ (by first | exact ⟨rfl, by rw [if_pos (by rw [ht]; exact hn)]; exact r1, r2, r3, r4⟩ | exact ⟨rfl, by rw [if_neg hn], rfl, hz, zfr.rf⟩)
end
