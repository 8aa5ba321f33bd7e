/-! Names, by program out of the Statement's tables and javap's listing (wip/whole/mk.py): the words that every method may use, classes, fields, methods, places. -/
def zWS : List Cond := lw_tbl.filter goodWord
theorem zin {w : Cond} (n : Nat) (h : tables_1[n]? = some w) (g : goodWord w = true) : w ∈ zWS := List.mem_filter.mpr ⟨List.mem_append_right _ (List.mem_of_getElem? h), g⟩
theorem zsel {y : MethodName} (n : Nat) (h : (lw_privs.map (fun q => q.1))[n]? = some y) : Cond.selects y.cls y y ∈ zWS := by
  refine List.mem_filter.mpr ⟨List.mem_append_left _ ?_, rfl⟩
  obtain ⟨q, hq, rfl⟩ := List.mem_map.mp (List.mem_of_getElem? h)
  exact List.mem_map.mpr ⟨q, hq, rfl⟩
theorem zWS_good : ∀ w ∈ zWS, (w.onTables && w.keeps) = true ∨ ∃ ty, w = .arrayClass ty := fun w h => good_of_word (List.mem_filter.mp h).2
/-- a method: its name, code, locals, what it answers -/
abbrev zMd : Type := MethodName × ByteArray × Nat × Option FieldType
def zws (md : zMd) : List Cond := Cond.code md.1 md.2.1 md.2.2.1 md.2.2.2 :: zWS
/-- what the tables say of a method that is called: n parameters -/
def zKn (md : zMd) (n : Nat) : Prop := Cond.code md.1 md.2.1 md.2.2.1 md.2.2.2 ∈ zWS ∧ Cond.initialized md.1.cls ∈ zWS ∧ (md.1.cls ≠ "java/lang/invoke/MethodHandle" ∧ md.1.cls ≠ "java/lang/invoke/VarHandle") ∧ (parseMethodDescriptor md.1.desc).map (fun d => d.parameters.length) = some n
theorem zgood {md md' : zMd} (h : Cond.code md'.1 md'.2.1 md'.2.2.1 md'.2.2.2 ∈ zWS) : GoodIn (zws md) (zws md') := fun w hw => (List.mem_cons.mp hw).elim (fun e => by subst e; exact ⟨List.mem_cons_of_mem _ h, zWS_good _ h⟩) (fun h => ⟨List.mem_cons_of_mem _ h, zWS_good w h⟩)
def RD : String := "RegionDesk$Draft"
def TD : u_T := fun k => match k with
  | 0 => ("RegionDesk$Draft", "as", "[J", true)
  | 1 => ("RegionDesk$Draft", "bs", "[J", true)
  | 2 => ("RegionDesk$Draft", "cs", "[J", true)
  | 3 => ("RegionDesk$Draft", "stricts", "[Z", true)
  | 4 => ("RegionDesk$Draft", "span", "LRegionDesk$Span;", true)
  | _ => ("RegionDesk$Draft", "size", "I", false)
def tyD : Nat → FieldType := fun k => match k with
  | 0 => .array .long
  | 1 => .array .long
  | 2 => .array .long
  | 3 => .array .boolean
  | 4 => .object "RegionDesk$Span"
  | _ => .int
theorem nmD : ∀ a, a < 6 → ∀ b, b < 6 → a ≠ b → (TD a).2.1 ≠ (TD b).2.1 := by decide +kernel
theorem okD : ∀ k, k < 6 → parseFieldDescriptor (TD k).2.2.1 = some (tyD k) := by decide +kernel
theorem inD : ∀ w ∈ u_ws RD TD 6, w ∈ zWS := by
  have h : ∀ k, k < 6 → u_lay RD TD k ∈ zWS := by
    intro k hk
    match k, hk with
    | 0, _ => exact zin 57 (by decide +kernel) (by decide +kernel)
    | 1, _ => exact zin 59 (by decide +kernel) (by decide +kernel)
    | 2, _ => exact zin 61 (by decide +kernel) (by decide +kernel)
    | 3, _ => exact zin 63 (by decide +kernel) (by decide +kernel)
    | 4, _ => exact zin 65 (by decide +kernel) (by decide +kernel)
    | 5, _ => exact zin 67 (by decide +kernel) (by decide +kernel)
    | n + 6, h => omega
  intro w hw
  obtain ⟨k, hk, rfl⟩ := List.mem_map.mp hw
  exact h k (List.mem_range.mp hk)
def RI : String := "RegionDesk$Infimum"
def TI : u_T := fun k => match k with
  | 0 => ("RegionDesk$Infimum", "top", "J", false)
  | 1 => ("RegionDesk$Infimum", "base", "J", false)
  | 2 => ("RegionDesk$Infimum", "taken", "Z", false)
  | 3 => ("RegionDesk$Infimum", "rowTop", "J", false)
  | 4 => ("RegionDesk$Infimum", "rowBase", "J", false)
  | _ => ("RegionDesk$Infimum", "rowTaken", "Z", false)
def tyI : Nat → FieldType := fun k => match k with
  | 0 => .long
  | 1 => .long
  | 2 => .boolean
  | 3 => .long
  | 4 => .long
  | _ => .boolean
theorem nmI : ∀ a, a < 6 → ∀ b, b < 6 → a ≠ b → (TI a).2.1 ≠ (TI b).2.1 := by decide +kernel
theorem okI : ∀ k, k < 6 → parseFieldDescriptor (TI k).2.2.1 = some (tyI k) := by decide +kernel
theorem inI : ∀ w ∈ u_ws RI TI 6, w ∈ zWS := by
  have h : ∀ k, k < 6 → u_lay RI TI k ∈ zWS := by
    intro k hk
    match k, hk with
    | 0, _ => exact zin 120 (by decide +kernel) (by decide +kernel)
    | 1, _ => exact zin 122 (by decide +kernel) (by decide +kernel)
    | 2, _ => exact zin 124 (by decide +kernel) (by decide +kernel)
    | 3, _ => exact zin 126 (by decide +kernel) (by decide +kernel)
    | 4, _ => exact zin 128 (by decide +kernel) (by decide +kernel)
    | 5, _ => exact zin 130 (by decide +kernel) (by decide +kernel)
    | n + 6, h => omega
  intro w hw
  obtain ⟨k, hk, rfl⟩ := List.mem_map.mp hw
  exact h k (List.mem_range.mp hk)
def RR : String := "RegionDesk$Region"
def TR : u_T := fun k => match k with
  | 0 => ("RegionDesk$Region", "sizes", "[I", true)
  | 1 => ("RegionDesk$Region", "numbers", "[I", true)
  | _ => ("RegionDesk$Region", "count", "I", false)
def tyR : Nat → FieldType := fun k => match k with
  | 0 => .array .int
  | 1 => .array .int
  | _ => .int
theorem nmR : ∀ a, a < 3 → ∀ b, b < 3 → a ≠ b → (TR a).2.1 ≠ (TR b).2.1 := by decide +kernel
theorem okR : ∀ k, k < 3 → parseFieldDescriptor (TR k).2.2.1 = some (tyR k) := by decide +kernel
theorem inR : ∀ w ∈ u_ws RR TR 3, w ∈ zWS := by
  have h : ∀ k, k < 3 → u_lay RR TR k ∈ zWS := by
    intro k hk
    match k, hk with
    | 0, _ => exact zin 87 (by decide +kernel) (by decide +kernel)
    | 1, _ => exact zin 89 (by decide +kernel) (by decide +kernel)
    | 2, _ => exact zin 91 (by decide +kernel) (by decide +kernel)
    | n + 3, h => omega
  intro w hw
  obtain ⟨k, hk, rfl⟩ := List.mem_map.mp hw
  exact h k (List.mem_range.mp hk)
def RS : String := "RegionDesk$Span"
def TS : u_T := fun k => match k with
  | 0 => ("RegionDesk$Span", "tops", "[J", true)
  | 1 => ("RegionDesk$Span", "bases", "[J", true)
  | _ => ("RegionDesk$Span", "stricts", "[Z", true)
def tyS : Nat → FieldType := fun k => match k with
  | 0 => .array .long
  | 1 => .array .long
  | _ => .array .boolean
theorem nmS : ∀ a, a < 3 → ∀ b, b < 3 → a ≠ b → (TS a).2.1 ≠ (TS b).2.1 := by decide +kernel
theorem okS : ∀ k, k < 3 → parseFieldDescriptor (TS k).2.2.1 = some (tyS k) := by decide +kernel
theorem inS : ∀ w ∈ u_ws RS TS 3, w ∈ zWS := by
  have h : ∀ k, k < 3 → u_lay RS TS k ∈ zWS := by
    intro k hk
    match k, hk with
    | 0, _ => exact zin 42 (by decide +kernel) (by decide +kernel)
    | 1, _ => exact zin 44 (by decide +kernel) (by decide +kernel)
    | 2, _ => exact zin 46 (by decide +kernel) (by decide +kernel)
    | n + 3, h => omega
  intro w hw
  obtain ⟨k, hk, rfl⟩ := List.mem_map.mp hw
  exact h k (List.mem_range.mp hk)
def RW : String := "RegionDesk$Workshop"
def TW : u_T := fun k => match k with
  | 0 => ("RegionDesk$Workshop", "draft", "LRegionDesk$Draft;", true)
  | 1 => ("RegionDesk$Workshop", "pieces", "LRegionDesk$Region;", true)
  | 2 => ("RegionDesk$Workshop", "result", "LRegionDesk$Region;", false)
  | _ => ("RegionDesk$Workshop", "previous", "LRegionDesk$Region;", false)
def tyW : Nat → FieldType := fun k => match k with
  | 0 => .object "RegionDesk$Draft"
  | 1 => .object "RegionDesk$Region"
  | 2 => .object "RegionDesk$Region"
  | _ => .object "RegionDesk$Region"
theorem nmW : ∀ a, a < 4 → ∀ b, b < 4 → a ≠ b → (TW a).2.1 ≠ (TW b).2.1 := by decide +kernel
theorem okW : ∀ k, k < 4 → parseFieldDescriptor (TW k).2.2.1 = some (tyW k) := by decide +kernel
theorem inW : ∀ w ∈ u_ws RW TW 4, w ∈ zWS := by
  have h : ∀ k, k < 4 → u_lay RW TW k ∈ zWS := by
    intro k hk
    match k, hk with
    | 0, _ => exact zin 99 (by decide +kernel) (by decide +kernel)
    | 1, _ => exact zin 101 (by decide +kernel) (by decide +kernel)
    | 2, _ => exact zin 103 (by decide +kernel) (by decide +kernel)
    | 3, _ => exact zin 105 (by decide +kernel) (by decide +kernel)
    | n + 4, h => omega
  intro w hw
  obtain ⟨k, hk, rfl⟩ := List.mem_map.mp hw
  exact h k (List.mem_range.mp hk)
def RK : String := "RegionDesk"
def TK : u_T := fun k => match k with
  | 0 => ("RegionDesk", "stack", "[LRegionDesk$Region;", true)
  | 1 => ("RegionDesk", "tables", "[LRegionDesk$Region;", true)
  | 2 => ("RegionDesk", "collected", "LRegionDesk$Draft;", true)
  | 3 => ("RegionDesk", "workshop", "LRegionDesk$Workshop;", true)
  | 4 => ("RegionDesk", "infimum", "LRegionDesk$Infimum;", true)
  | 5 => ("RegionDesk", "height", "I", false)
  | _ => ("RegionDesk", "collectedCount", "I", false)
def tyK : Nat → FieldType := fun k => match k with
  | 0 => .array (.object "RegionDesk$Region")
  | 1 => .array (.object "RegionDesk$Region")
  | 2 => .object "RegionDesk$Draft"
  | 3 => .object "RegionDesk$Workshop"
  | 4 => .object "RegionDesk$Infimum"
  | 5 => .int
  | _ => .int
theorem nmK : ∀ a, a < 7 → ∀ b, b < 7 → a ≠ b → (TK a).2.1 ≠ (TK b).2.1 := by decide +kernel
theorem okK : ∀ k, k < 7 → parseFieldDescriptor (TK k).2.2.1 = some (tyK k) := by decide +kernel
theorem inK : ∀ w ∈ u_ws RK TK 7, w ∈ zWS := by
  have h : ∀ k, k < 7 → u_lay RK TK k ∈ zWS := by
    intro k hk
    match k, hk with
    | 0, _ => exact zin 141 (by decide +kernel) (by decide +kernel)
    | 1, _ => exact zin 143 (by decide +kernel) (by decide +kernel)
    | 2, _ => exact zin 145 (by decide +kernel) (by decide +kernel)
    | 3, _ => exact zin 147 (by decide +kernel) (by decide +kernel)
    | 4, _ => exact zin 149 (by decide +kernel) (by decide +kernel)
    | 5, _ => exact zin 151 (by decide +kernel) (by decide +kernel)
    | 6, _ => exact zin 153 (by decide +kernel) (by decide +kernel)
    | n + 7, h => omega
  intro w hw
  obtain ⟨k, hk, rfl⟩ := List.mem_map.mp hw
  exact h k (List.mem_range.mp hk)
def RM : String := "RegionDeskModel"
def TM : u_T := fun k => match k with
  | 0 => ("RegionDeskModel", "code", "I", false)
  | 1 => ("RegionDeskModel", "rows", "[I", true)
  | 2 => ("RegionDeskModel", "counts", "[I", true)
  | 3 => ("RegionDeskModel", "numberA", "[I", true)
  | 4 => ("RegionDeskModel", "numberB", "[I", true)
  | 5 => ("RegionDeskModel", "numberC", "[I", true)
  | 6 => ("RegionDeskModel", "strictly", "[Z", true)
  | 7 => ("RegionDeskModel", "pile", "I", false)
  | 8 => ("RegionDeskModel", "collected", "I", false)
  | 9 => ("RegionDeskModel", "nextA", "[I", true)
  | 10 => ("RegionDeskModel", "nextB", "[I", true)
  | 11 => ("RegionDeskModel", "nextC", "[I", true)
  | 12 => ("RegionDeskModel", "nextStrict", "[Z", true)
  | 13 => ("RegionDeskModel", "many", "I", false)
  | 14 => ("RegionDeskModel", "never", "Z", false)
  | 15 => ("RegionDeskModel", "a", "[J", true)
  | 16 => ("RegionDeskModel", "b", "[J", true)
  | 17 => ("RegionDeskModel", "c", "[J", true)
  | 18 => ("RegionDeskModel", "s", "[Z", true)
  | 19 => ("RegionDeskModel", "asked", "I", false)
  | 20 => ("RegionDeskModel", "qa", "[J", true)
  | 21 => ("RegionDeskModel", "qb", "[J", true)
  | 22 => ("RegionDeskModel", "qc", "[J", true)
  | 23 => ("RegionDeskModel", "qs", "[Z", true)
  | 24 => ("RegionDeskModel", "passed", "Z", false)
  | 25 => ("RegionDeskModel", "answer", "I", false)
  | 26 => ("RegionDeskModel", "above", "J", false)
  | 27 => ("RegionDeskModel", "below", "J", false)
  | 28 => ("RegionDeskModel", "told", "Z", false)
  | 29 => ("RegionDeskModel", "cornerX", "J", false)
  | 30 => ("RegionDeskModel", "cornerY", "J", false)
  | 31 => ("RegionDeskModel", "cornerD", "J", false)
  | 32 => ("RegionDeskModel", "wayX", "J", false)
  | 33 => ("RegionDeskModel", "wayY", "J", false)
  | 34 => ("RegionDeskModel", "lowN", "J", false)
  | 35 => ("RegionDeskModel", "lowD", "J", false)
  | 36 => ("RegionDeskModel", "lowStrict", "Z", false)
  | 37 => ("RegionDeskModel", "highN", "J", false)
  | 38 => ("RegionDeskModel", "highD", "J", false)
  | 39 => ("RegionDeskModel", "highStrict", "Z", false)
  | 40 => ("RegionDeskModel", "bounded", "Z", false)
  | 41 => ("RegionDeskModel", "taken", "Z", false)
  | 42 => ("RegionDeskModel", "infN", "J", false)
  | _ => ("RegionDeskModel", "infD", "J", false)
def tyM : Nat → FieldType := fun k => match k with
  | 0 => .int
  | 1 => .array .int
  | 2 => .array .int
  | 3 => .array .int
  | 4 => .array .int
  | 5 => .array .int
  | 6 => .array .boolean
  | 7 => .int
  | 8 => .int
  | 9 => .array .int
  | 10 => .array .int
  | 11 => .array .int
  | 12 => .array .boolean
  | 13 => .int
  | 14 => .boolean
  | 15 => .array .long
  | 16 => .array .long
  | 17 => .array .long
  | 18 => .array .boolean
  | 19 => .int
  | 20 => .array .long
  | 21 => .array .long
  | 22 => .array .long
  | 23 => .array .boolean
  | 24 => .boolean
  | 25 => .int
  | 26 => .long
  | 27 => .long
  | 28 => .boolean
  | 29 => .long
  | 30 => .long
  | 31 => .long
  | 32 => .long
  | 33 => .long
  | 34 => .long
  | 35 => .long
  | 36 => .boolean
  | 37 => .long
  | 38 => .long
  | 39 => .boolean
  | 40 => .boolean
  | 41 => .boolean
  | 42 => .long
  | _ => .long
theorem nmM : ∀ a, a < 44 → ∀ b, b < 44 → a ≠ b → (TM a).2.1 ≠ (TM b).2.1 := by decide +kernel
theorem okM : ∀ k, k < 44 → parseFieldDescriptor (TM k).2.2.1 = some (tyM k) := by decide +kernel
theorem inM : ∀ w ∈ u_ws RM TM 44, w ∈ zWS := by
  have h : ∀ k, k < 44 → u_lay RM TM k ∈ zWS := by
    intro k hk
    match k, hk with
    | 0, _ => exact zin 721 (by decide +kernel) (by decide +kernel)
    | 1, _ => exact zin 723 (by decide +kernel) (by decide +kernel)
    | 2, _ => exact zin 725 (by decide +kernel) (by decide +kernel)
    | 3, _ => exact zin 727 (by decide +kernel) (by decide +kernel)
    | 4, _ => exact zin 729 (by decide +kernel) (by decide +kernel)
    | 5, _ => exact zin 731 (by decide +kernel) (by decide +kernel)
    | 6, _ => exact zin 733 (by decide +kernel) (by decide +kernel)
    | 7, _ => exact zin 735 (by decide +kernel) (by decide +kernel)
    | 8, _ => exact zin 737 (by decide +kernel) (by decide +kernel)
    | 9, _ => exact zin 739 (by decide +kernel) (by decide +kernel)
    | 10, _ => exact zin 741 (by decide +kernel) (by decide +kernel)
    | 11, _ => exact zin 743 (by decide +kernel) (by decide +kernel)
    | 12, _ => exact zin 745 (by decide +kernel) (by decide +kernel)
    | 13, _ => exact zin 747 (by decide +kernel) (by decide +kernel)
    | 14, _ => exact zin 749 (by decide +kernel) (by decide +kernel)
    | 15, _ => exact zin 751 (by decide +kernel) (by decide +kernel)
    | 16, _ => exact zin 753 (by decide +kernel) (by decide +kernel)
    | 17, _ => exact zin 755 (by decide +kernel) (by decide +kernel)
    | 18, _ => exact zin 757 (by decide +kernel) (by decide +kernel)
    | 19, _ => exact zin 759 (by decide +kernel) (by decide +kernel)
    | 20, _ => exact zin 761 (by decide +kernel) (by decide +kernel)
    | 21, _ => exact zin 763 (by decide +kernel) (by decide +kernel)
    | 22, _ => exact zin 765 (by decide +kernel) (by decide +kernel)
    | 23, _ => exact zin 767 (by decide +kernel) (by decide +kernel)
    | 24, _ => exact zin 769 (by decide +kernel) (by decide +kernel)
    | 25, _ => exact zin 771 (by decide +kernel) (by decide +kernel)
    | 26, _ => exact zin 773 (by decide +kernel) (by decide +kernel)
    | 27, _ => exact zin 775 (by decide +kernel) (by decide +kernel)
    | 28, _ => exact zin 777 (by decide +kernel) (by decide +kernel)
    | 29, _ => exact zin 779 (by decide +kernel) (by decide +kernel)
    | 30, _ => exact zin 781 (by decide +kernel) (by decide +kernel)
    | 31, _ => exact zin 783 (by decide +kernel) (by decide +kernel)
    | 32, _ => exact zin 785 (by decide +kernel) (by decide +kernel)
    | 33, _ => exact zin 787 (by decide +kernel) (by decide +kernel)
    | 34, _ => exact zin 789 (by decide +kernel) (by decide +kernel)
    | 35, _ => exact zin 791 (by decide +kernel) (by decide +kernel)
    | 36, _ => exact zin 793 (by decide +kernel) (by decide +kernel)
    | 37, _ => exact zin 795 (by decide +kernel) (by decide +kernel)
    | 38, _ => exact zin 797 (by decide +kernel) (by decide +kernel)
    | 39, _ => exact zin 799 (by decide +kernel) (by decide +kernel)
    | 40, _ => exact zin 801 (by decide +kernel) (by decide +kernel)
    | 41, _ => exact zin 803 (by decide +kernel) (by decide +kernel)
    | 42, _ => exact zin 805 (by decide +kernel) (by decide +kernel)
    | 43, _ => exact zin 807 (by decide +kernel) (by decide +kernel)
    | n + 44, h => omega
  intro w hw
  obtain ⟨k, hk, rfl⟩ := List.mem_map.mp hw
  exact h k (List.mem_range.mp hk)
abbrev vwCl : List vw_C := [(RD, TD, 6), (RI, TI, 6), (RR, TR, 3), (RS, TS, 3), (RW, TW, 4), (RK, TK, 7), (RM, TM, 44)]
/-! places -/
def zNP : Nat := 82
def zlayL : List (Nat × Nat) := [(0, 5), (4, 6), (4, 4), (0, 0), (2, 36), (2, 36), (2, 36), (3, 36), (0, 3), (2, 2), (2, 2), (3, 2), (0, 4), (0, 0), (2, 36), (2, 36), (2, 36), (3, 36), (0, 3), (2, 2), (2, 2), (3, 2), (0, 2), (1, 12), (1, 576), (0, 2), (1, 12), (1, 576), (0, 2), (1, 12), (1, 576), (0, 1), (0, 2), (1, 12), (1, 576), (0, 2), (1, 12), (1, 576), (0, 2), (1, 12), (1, 576), (0, 2), (1, 12), (1, 576), (0, 2), (1, 12), (1, 576), (0, 2), (1, 12), (1, 576), (0, 2), (1, 12), (1, 576), (0, 2), (1, 12), (1, 576), (0, 2), (1, 12), (1, 576), (0, 2), (1, 12), (1, 576), (0, 6), (1, 14), (1, 168), (1, 2016), (1, 2016), (1, 2016), (3, 2016), (1, 12), (1, 12), (1, 12), (3, 12), (2, 80), (2, 80), (2, 80), (3, 80), (2, 80), (2, 80), (2, 80), (3, 80), (2, 1)]
def zlay (k : Nat) : Nat × Nat := zlayL.getD k (9, 0)
def ztyl (ci : Nat) : List Nat := match ci with
  | 0 => [4, 5, 6, 7, 8, 0]
  | 1 => [1, 1, 0, 1, 1, 0]
  | 2 => [4, 5, 0]
  | 3 => [4, 5, 6]
  | 4 => [4, 13, 2, 2]
  | 5 => [4, 5, 6, 15, 34, 0, 0]
  | _ => [0, 4, 5, 6, 7, 8, 9, 0, 0, 10, 11, 12, 13, 0, 0, 14, 15, 16, 17, 0, 18, 19, 20, 21, 0, 0, 1, 1, 0, 1, 1, 1, 1, 1, 1, 1, 0, 1, 1, 0, 0, 0, 1, 1]
def zel (k j : Nat) : Nat := if k = 1 then 32 + 3 * j else 50 + 3 * j
def zRegion : String := "RegionDesk$Region"
