def RX0 : String := "ValuePlaces$Holding"
def TX0 : u_T := fun k => match k with
  | 0 => ("ValuePlaces$Holding", "behind", "[I", true)
  | 1 => ("ValuePlaces$Holding", "spilled", "I", false)
  | 2 => ("ValuePlaces$Holding", "fetches", "I", false)
  | 3 => ("ValuePlaces$Holding", "drops", "I", false)
  | _ => ("ValuePlaces$Holding", "held", "I", false)
def tyX0 : Nat → FieldType := fun k => match k with
  | 0 => .array .int
  | 1 => .int
  | 2 => .int
  | 3 => .int
  | _ => .int
theorem nmX0 : ∀ a, a < 5 → ∀ b, b < 5 → a ≠ b → (TX0 a).2.1 ≠ (TX0 b).2.1 := by decide +kernel
theorem tyX0_ok : ∀ k, k < 5 → parseFieldDescriptor (TX0 k).2.2.1 = some (tyX0 k) := by decide +kernel
theorem inX0 : ∀ w ∈ u_ws RX0 TX0 5, w ∈ lw_tbl := by decide +kernel
def RX1 : String := "ValuePlaces$Moves"
def TX1 : u_T := fun k => match k with
  | 0 => ("ValuePlaces$Moves", "wanted", "[I", true)
  | 1 => ("ValuePlaces$Moves", "made", "[I", true)
  | 2 => ("ValuePlaces$Moves", "places", "I", false)
  | 3 => ("ValuePlaces$Moves", "open", "I", false)
  | 4 => ("ValuePlaces$Moves", "count", "I", false)
  | _ => ("ValuePlaces$Moves", "toSpare", "I", false)
def tyX1 : Nat → FieldType := fun k => match k with
  | 0 => .array .int
  | 1 => .array .int
  | 2 => .int
  | 3 => .int
  | 4 => .int
  | _ => .int
theorem nmX1 : ∀ a, a < 6 → ∀ b, b < 6 → a ≠ b → (TX1 a).2.1 ≠ (TX1 b).2.1 := by decide +kernel
theorem tyX1_ok : ∀ k, k < 6 → parseFieldDescriptor (TX1 k).2.2.1 = some (tyX1 k) := by decide +kernel
theorem inX1 : ∀ w ∈ u_ws RX1 TX1 6, w ∈ lw_tbl := by decide +kernel
def RX2 : String := "ValuePlaces$Readings"
def TX2 : u_T := fun k => match k with
  | 0 => ("ValuePlaces$Readings", "value", "[I", true)
  | 1 => ("ValuePlaces$Readings", "cost", "[I", true)
  | _ => ("ValuePlaces$Readings", "count", "I", false)
def tyX2 : Nat → FieldType := fun k => match k with
  | 0 => .array .int
  | 1 => .array .int
  | _ => .int
theorem nmX2 : ∀ a, a < 3 → ∀ b, b < 3 → a ≠ b → (TX2 a).2.1 ≠ (TX2 b).2.1 := by decide +kernel
theorem tyX2_ok : ∀ k, k < 3 → parseFieldDescriptor (TX2 k).2.2.1 = some (tyX2 k) := by decide +kernel
theorem inX2 : ∀ w ∈ u_ws RX2 TX2 3, w ∈ lw_tbl := by decide +kernel
def RX3 : String := "ValuePlaces$Sheet"
def TX3 : u_T := fun k => match k with
  | 0 => ("ValuePlaces$Sheet", "cells", "[I", true)
  | 1 => ("ValuePlaces$Sheet", "hasRow", "Z", false)
  | 2 => ("ValuePlaces$Sheet", "lane", "I", false)
  | _ => ("ValuePlaces$Sheet", "size", "I", false)
def tyX3 : Nat → FieldType := fun k => match k with
  | 0 => .array .int
  | 1 => .boolean
  | 2 => .int
  | _ => .int
theorem nmX3 : ∀ a, a < 4 → ∀ b, b < 4 → a ≠ b → (TX3 a).2.1 ≠ (TX3 b).2.1 := by decide +kernel
theorem tyX3_ok : ∀ k, k < 4 → parseFieldDescriptor (TX3 k).2.2.1 = some (tyX3 k) := by decide +kernel
theorem inX3 : ∀ w ∈ u_ws RX3 TX3 4, w ∈ lw_tbl := by decide +kernel
def RX4 : String := "ValuePlaces$TextReader"
def TX4 : u_T := fun k => match k with
  | 0 => ("ValuePlaces$TextReader", "into", "LValuePlaces$Tree;", true)
  | 1 => ("ValuePlaces$TextReader", "state", "I", false)
  | _ => ("ValuePlaces$TextReader", "kindRead", "I", false)
def tyX4 : Nat → FieldType := fun k => match k with
  | 0 => .object "ValuePlaces$Tree"
  | 1 => .int
  | _ => .int
theorem nmX4 : ∀ a, a < 3 → ∀ b, b < 3 → a ≠ b → (TX4 a).2.1 ≠ (TX4 b).2.1 := by decide +kernel
theorem tyX4_ok : ∀ k, k < 3 → parseFieldDescriptor (TX4 k).2.2.1 = some (tyX4 k) := by decide +kernel
theorem inX4 : ∀ w ∈ u_ws RX4 TX4 3, w ∈ lw_tbl := by decide +kernel
def RX5 : String := "ValuePlaces$Tree"
def TX5 : u_T := fun k => match k with
  | 0 => ("ValuePlaces$Tree", "kind", "[I", true)
  | 1 => ("ValuePlaces$Tree", "above", "[I", true)
  | 2 => ("ValuePlaces$Tree", "over", "[I", true)
  | 3 => ("ValuePlaces$Tree", "depth", "[I", true)
  | 4 => ("ValuePlaces$Tree", "howManyUsed", "[I", true)
  | 5 => ("ValuePlaces$Tree", "used", "[I", true)
  | 6 => ("ValuePlaces$Tree", "usedSet", "[I", true)
  | 7 => ("ValuePlaces$Tree", "colour", "[I", true)
  | _ => ("ValuePlaces$Tree", "count", "I", false)
def tyX5 : Nat → FieldType := fun k => match k with
  | 0 => .array .int
  | 1 => .array .int
  | 2 => .array .int
  | 3 => .array .int
  | 4 => .array .int
  | 5 => .array .int
  | 6 => .array .int
  | 7 => .array .int
  | _ => .int
theorem nmX5 : ∀ a, a < 9 → ∀ b, b < 9 → a ≠ b → (TX5 a).2.1 ≠ (TX5 b).2.1 := by decide +kernel
theorem tyX5_ok : ∀ k, k < 9 → parseFieldDescriptor (TX5 k).2.2.1 = some (tyX5 k) := by decide +kernel
theorem inX5 : ∀ w ∈ u_ws RX5 TX5 9, w ∈ lw_tbl := by decide +kernel
def RX6 : String := "ValuePlaces"
def TX6 : u_T := fun k => match k with
  | 0 => ("ValuePlaces", "sheets", "[LValuePlaces$Sheet;", true)
  | 1 => ("ValuePlaces", "tree", "LValuePlaces$Tree;", true)
  | 2 => ("ValuePlaces", "trial", "LValuePlaces$Tree;", true)
  | 3 => ("ValuePlaces", "reader", "LValuePlaces$TextReader;", true)
  | 4 => ("ValuePlaces", "holding", "LValuePlaces$Holding;", true)
  | 5 => ("ValuePlaces", "moves", "LValuePlaces$Moves;", true)
  | 6 => ("ValuePlaces", "readings", "LValuePlaces$Readings;", true)
  | 7 => ("ValuePlaces", "traceSoFar", "I", false)
  | _ => ("ValuePlaces", "latestFault", "I", false)
def tyX6 : Nat → FieldType := fun k => match k with
  | 0 => .array (.object "ValuePlaces$Sheet")
  | 1 => .object "ValuePlaces$Tree"
  | 2 => .object "ValuePlaces$Tree"
  | 3 => .object "ValuePlaces$TextReader"
  | 4 => .object "ValuePlaces$Holding"
  | 5 => .object "ValuePlaces$Moves"
  | 6 => .object "ValuePlaces$Readings"
  | 7 => .int
  | _ => .int
theorem nmX6 : ∀ a, a < 9 → ∀ b, b < 9 → a ≠ b → (TX6 a).2.1 ≠ (TX6 b).2.1 := by decide +kernel
theorem tyX6_ok : ∀ k, k < 9 → parseFieldDescriptor (TX6 k).2.2.1 = some (tyX6 k) := by decide +kernel
theorem inX6 : ∀ w ∈ u_ws RX6 TX6 9, w ∈ lw_tbl := by decide +kernel
def RX7 : String := "ValuePlacesModel"
def TX7 : u_T := fun k => match k with
  | 0 => ("ValuePlacesModel", "fault", "I", false)
  | 1 => ("ValuePlacesModel", "trace", "I", false)
  | 2 => ("ValuePlacesModel", "sorts", "[I", true)
  | 3 => ("ValuePlacesModel", "sheetLong", "[I", true)
  | 4 => ("ValuePlacesModel", "cells", "[I", true)
  | 5 => ("ValuePlacesModel", "lines", "I", false)
  | 6 => ("ValuePlacesModel", "kind", "[I", true)
  | 7 => ("ValuePlacesModel", "above", "[I", true)
  | 8 => ("ValuePlacesModel", "many", "[I", true)
  | 9 => ("ValuePlacesModel", "uses", "[I", true)
  | 10 => ("ValuePlacesModel", "at", "I", false)
  | 11 => ("ValuePlacesModel", "readLines", "I", false)
  | 12 => ("ValuePlacesModel", "readKind", "[I", true)
  | 13 => ("ValuePlacesModel", "readAbove", "[I", true)
  | 14 => ("ValuePlacesModel", "readMany", "[I", true)
  | 15 => ("ValuePlacesModel", "readUses", "[I", true)
  | 16 => ("ValuePlacesModel", "colour", "[I", true)
  | 17 => ("ValuePlacesModel", "kept", "[I", true)
  | 18 => ("ValuePlacesModel", "held", "[I", true)
  | 19 => ("ValuePlacesModel", "spilled", "I", false)
  | 20 => ("ValuePlacesModel", "fetched", "I", false)
  | 21 => ("ValuePlacesModel", "dropped", "I", false)
  | 22 => ("ValuePlacesModel", "wants", "[I", true)
  | 23 => ("ValuePlacesModel", "moves", "[I", true)
  | 24 => ("ValuePlacesModel", "moved", "I", false)
  | 25 => ("ValuePlacesModel", "spared", "I", false)
  | 26 => ("ValuePlacesModel", "readings", "I", false)
  | 27 => ("ValuePlacesModel", "readValue", "[I", true)
  | _ => ("ValuePlacesModel", "readCost", "[I", true)
def tyX7 : Nat → FieldType := fun k => match k with
  | 0 => .int
  | 1 => .int
  | 2 => .array .int
  | 3 => .array .int
  | 4 => .array .int
  | 5 => .int
  | 6 => .array .int
  | 7 => .array .int
  | 8 => .array .int
  | 9 => .array .int
  | 10 => .int
  | 11 => .int
  | 12 => .array .int
  | 13 => .array .int
  | 14 => .array .int
  | 15 => .array .int
  | 16 => .array .int
  | 17 => .array .int
  | 18 => .array .int
  | 19 => .int
  | 20 => .int
  | 21 => .int
  | 22 => .array .int
  | 23 => .array .int
  | 24 => .int
  | 25 => .int
  | 26 => .int
  | 27 => .array .int
  | _ => .array .int
theorem nmX7 : ∀ a, a < 29 → ∀ b, b < 29 → a ≠ b → (TX7 a).2.1 ≠ (TX7 b).2.1 := by decide +kernel
theorem tyX7_ok : ∀ k, k < 29 → parseFieldDescriptor (TX7 k).2.2.1 = some (tyX7 k) := by decide +kernel
theorem inX7 : ∀ w ∈ u_ws RX7 TX7 29, w ∈ lw_tbl := by decide +kernel
/-- the classes whose objects the world holds -/
def x_cls : List vw_C := [(RX0, TX0, 5), (RX1, TX1, 6), (RX2, TX2, 3), (RX3, TX3, 4), (RX4, TX4, 3), (RX5, TX5, 9), (RX6, TX6, 9), (RX7, TX7, 29)]
/-- the kind of what a field holds: none: a number; some t: a reference to a cell of kind t (below 8: an object of that class; 50: the row of sheets; 100 + n: n ints) -/
def x_ft : Nat → Nat → Option Nat
  | 0, 0 => some 108
  | 1, 0 => some 108
  | 1, 1 => some 120
  | 2, 0 => some 108
  | 2, 1 => some 108
  | 3, 0 => some 160
  | 4, 0 => some 5
  | 5, 0 => some 108
  | 5, 1 => some 108
  | 5, 2 => some 108
  | 5, 3 => some 108
  | 5, 4 => some 108
  | 5, 5 => some 116
  | 5, 6 => some 108
  | 5, 7 => some 108
  | 6, 0 => some 50
  | 6, 1 => some 5
  | 6, 2 => some 5
  | 6, 3 => some 4
  | 6, 4 => some 0
  | 6, 5 => some 1
  | 6, 6 => some 2
  | 7, 2 => some 104
  | 7, 3 => some 104
  | 7, 4 => some 340
  | 7, 6 => some 108
  | 7, 7 => some 108
  | 7, 8 => some 108
  | 7, 9 => some 116
  | 7, 12 => some 108
  | 7, 13 => some 108
  | 7, 14 => some 108
  | 7, 15 => some 116
  | 7, 16 => some 108
  | 7, 17 => some 116
  | 7, 18 => some 108
  | 7, 22 => some 109
  | 7, 23 => some 120
  | 7, 27 => some 108
  | 7, 28 => some 108
  | _, _ => none
/-- the fields that hold a boolean -/
def x_fz : Nat → Nat → Bool
  | 3, 1 => true
  | _, _ => false
def x_nf : Nat → Nat
  | 0 => 5
  | 1 => 6
  | 2 => 3
  | 3 => 4
  | 4 => 3
  | 5 => 9
  | 6 => 9
  | 7 => 29
  | _ => 0
/-- the cell that a reference in place y of cell a names -/
def x_gr (c a y : Nat) : Nat := bif Nat.beq c 4 then 35 else 32 * a + y + 1
/-- the cells of the world: number, kind -/
def x_cells : List (Nat × Nat) := [(1, 6), (33, 50), (1057, 3), (33825, 160), (1058, 3), (33857, 160), (1059, 3), (33889, 160), (1060, 3), (33921, 160), (34, 5), (1089, 108), (1090, 108), (1091, 108), (1092, 108), (1093, 108), (1094, 116), (1095, 108), (1096, 108), (35, 5), (1121, 108), (1122, 108), (1123, 108), (1124, 108), (1125, 108), (1126, 116), (1127, 108), (1128, 108), (36, 4), (37, 0), (1185, 108), (38, 1), (1217, 108), (1218, 120), (39, 2), (1249, 108), (1250, 108), (2, 7), (67, 104), (68, 104), (69, 340), (71, 108), (72, 108), (73, 108), (74, 116), (77, 108), (78, 108), (79, 108), (80, 116), (81, 108), (82, 116), (83, 108), (87, 109), (88, 120), (92, 108), (93, 108)]
/-- a method: its name, its bytes, its locals, what it returns, the class of its receiver (99: static), how many words of arguments -/
abbrev x_MT : Type := MethodName × ByteArray × Nat × Option FieldType × Nat × Nat
abbrev m_Lw_law : Nat := 0
abbrev m_Vp_lines : Nat := 1
abbrev m_Vp_isSheet : Nat := 2
abbrev m_Vp_isLane : Nat := 3
abbrev m_Sh_faultOfCells : Nat := 4
abbrev m_Sh_hasCells : Nat := 5
abbrev m_Vp_faulty : Nat := 6
abbrev m_Tx_firstFault : Nat := 7
abbrev m_Sh_read : Nat := 8
abbrev m_Tx_goesOnWith : Nat := 9
abbrev m_Tx_movesTo : Nat := 10
abbrev m_Tx_takesKind : Nat := 11
abbrev m_Tx_takesAbove : Nat := 12
abbrev m_Tr_isLine : Nat := 13
abbrev m_Tr_putOn : Nat := 14
abbrev m_Tx_takesUsed : Nat := 15
abbrev m_Tr_useToo : Nat := 16
abbrev m_Tr_isBelow : Nat := 17
abbrev m_Vp_inSet : Nat := 18
abbrev m_Tr_becomeLike : Nat := 19
abbrev m_Rd_keepOnly : Nat := 20
abbrev m_Vp_ofLine : Nat := 21
abbrev m_Tr_liveBehind : Nat := 22
abbrev m_Tr_usedBelow : Nat := 23
abbrev m_Tr_pressure : Nat := 24
abbrev m_Jn_bitCount : Nat := 25
abbrev m_Tr_colourOf : Nat := 26
abbrev m_Tr_giveColours : Nat := 27
abbrev m_Jn_numberOfTrailingZeros : Nat := 28
abbrev m_Tr_crossing : Nat := 29
abbrev m_Tr_usersOf : Nat := 30
abbrev m_Tr_cost : Nat := 31
abbrev m_Tr_howManyUse : Nat := 32
abbrev m_Vp_used : Nat := 33
abbrev m_Tr_hasPlace : Nat := 34
abbrev m_Tr_usedIn : Nat := 35
abbrev m_Vp_reuse : Nat := 36
abbrev m_Tr_mayUse : Nat := 37
abbrev m_Tr_useInstead : Nat := 38
abbrev m_Vp_grow : Nat := 39
abbrev m_Vp_isKind : Nat := 40
abbrev m_Vp_isLineOrNone : Nat := 41
abbrev m_Vp_wouldBeBelow : Nat := 42
abbrev m_Vp_cut : Nat := 43
abbrev m_Tr_takeLast : Nat := 44
abbrev m_Rd_forget : Nat := 45
abbrev m_Vp_day : Nat := 46
abbrev m_Vp_isDayQuestion : Nat := 47
abbrev m_Vp_isNumbered : Nat := 48
abbrev m_Vp_firstWrong : Nat := 49
abbrev m_Vp_ofTrial : Nat := 50
abbrev m_Tr_greatestPressure : Nat := 51
abbrev m_Tr_howManyColours : Nat := 52
abbrev m_Ho_goThrough : Nat := 53
abbrev m_Ho_passLine : Nat := 54
abbrev m_Ho_makeRoom : Nat := 55
abbrev m_Tr_laterUse : Nat := 56
abbrev m_Ho_dropValue : Nat := 57
abbrev m_Tr_howManyCross : Nat := 58
abbrev m_Vp_cross : Nat := 59
abbrev m_Vp_most : Nat := 60
abbrev m_Vp_next : Nat := 61
abbrev m_Vp_hold : Nat := 62
abbrev m_Vp_isHoldQuestion : Nat := 63
abbrev m_Vp_copies : Nat := 64
abbrev m_Vp_isCopiesQuestion : Nat := 65
abbrev m_Mv_areTold : Nat := 66
abbrev m_Mv_makeAll : Nat := 67
abbrev m_Mv_allWanted : Nat := 68
abbrev m_Mv_fill : Nat := 69
abbrev m_Mv_write : Nat := 70
abbrev m_Mv_saveToSpare : Nat := 71
abbrev m_Mv_inPlace : Nat := 72
abbrev m_Vp_reading : Nat := 73
abbrev m_Rd_take : Nat := 74
abbrev m_Vp_back : Nat := 75
abbrev m_Vp_kinds : Nat := 76
abbrev m_Rd_areSo : Nat := 77
abbrev m_Vp_firsts : Nat := 78
abbrev m_Vp_odds : Nat := 79
abbrev m_Vp_greatestShared : Nat := 80
abbrev m_Vp_sheet : Nat := 81
abbrev m_Sh_getRow : Nat := 82
abbrev m_Ja_fill : Nat := 83
abbrev m_Vp_lose : Nat := 84
abbrev m_Sh_loseRow : Nat := 85
abbrev m_Vp_put : Nat := 86
abbrev m_Sh_write : Nat := 87
abbrev m_Sh_cutToLane : Nat := 88
abbrev m_Vp_cell : Nat := 89
abbrev m_Vp_copy : Nat := 90
abbrev m_Vp_tell : Nat := 91
abbrev m_Vp_doubleTelling : Nat := 92
abbrev m_Vp_leaveInTrace : Nat := 93
abbrev m_Vp_bulkyTelling : Nat := 94
abbrev m_Vp_plainTelling : Nat := 95
abbrev m_Vp_label : Nat := 96
abbrev m_Vp_as : Nat := 97
abbrev m_Vp_trace : Nat := 98
abbrev m_Vp_fault : Nat := 99
abbrev m_Vp_many : Nat := 100
abbrev m_Tr_howManyUsedOfAll : Nat := 101
abbrev m_Md_lines : Nat := 102
abbrev m_Md_isSheet : Nat := 103
abbrev m_Md_within : Nat := 104
abbrev m_Md_isSort : Nat := 105
abbrev m_Md_against : Nat := 106
abbrev m_Md_fails : Nat := 107
abbrev m_Md_readAll : Nat := 108
abbrev m_Md_isSign : Nat := 109
abbrev m_Md_readLine : Nat := 110
abbrev m_Md_canBeUsed : Nat := 111
abbrev m_Md_ofLine : Nat := 112
abbrev m_Md_isLine : Nat := 113
abbrev m_Md_liveBehind : Nat := 114
abbrev m_Md_isBelow : Nat := 115
abbrev m_Md_laterUse : Nat := 116
abbrev m_Md_isUser : Nat := 117
abbrev m_Md_size : Nat := 118
abbrev m_Md_colourOf : Nat := 119
abbrev m_Md_findColours : Nat := 120
abbrev m_Md_isOf : Nat := 121
abbrev m_Md_crossing : Nat := 122
abbrev m_Md_doCross : Nat := 123
abbrev m_Md_usersOf : Nat := 124
abbrev m_Md_costOf : Nat := 125
abbrev m_Md_used : Nat := 126
abbrev m_Md_reuse : Nat := 127
abbrev m_Md_canReuse : Nat := 128
abbrev m_Md_grow : Nat := 129
abbrev m_Md_isAboveOr : Nat := 130
abbrev m_Md_cut : Nat := 131
abbrev m_Md_day : Nat := 132
abbrev m_Md_goDay : Nat := 133
abbrev m_Md_tellDay : Nat := 134
abbrev m_Md_greatestPressure : Nat := 135
abbrev m_Md_manyColours : Nat := 136
abbrev m_Md_findHeld : Nat := 137
abbrev m_Md_holds : Nat := 138
abbrev m_Md_usedBy : Nat := 139
abbrev m_Md_drops : Nat := 140
abbrev m_Md_manyCross : Nat := 141
abbrev m_Md_cross : Nat := 142
abbrev m_Md_most : Nat := 143
abbrev m_Md_next : Nat := 144
abbrev m_Md_hold : Nat := 145
abbrev m_Md_copies : Nat := 146
abbrev m_Md_findMoves : Nat := 147
abbrev m_Md_isWanted : Nat := 148
abbrev m_Md_reading : Nat := 149
abbrev m_Md_back : Nat := 150
abbrev m_Md_kinds : Nat := 151
abbrev m_Md_areSo : Nat := 152
abbrev m_Md_firsts : Nat := 153
abbrev m_Md_odds : Nat := 154
abbrev m_Md_inLeastTerms : Nat := 155
abbrev m_Md_sheet : Nat := 156
abbrev m_Md_lose : Nat := 157
abbrev m_Md_put : Nat := 158
abbrev m_Md_cell : Nat := 159
abbrev m_Md_lost : Nat := 160
abbrev m_Md_copy : Nat := 161
abbrev m_Md_tell : Nat := 162
abbrev m_Md_begins : Nat := 163
abbrev m_Md_label : Nat := 164
abbrev m_Md_as : Nat := 165
abbrev m_Md_trace : Nat := 166
abbrev m_Md_fault : Nat := 167
abbrev m_Md_many : Nat := 168
def x_mts : List x_MT := [
  (⟨"ValuePlacesLaw", "law", "([I)Z"⟩, code, 4, some .boolean, 99, 1),
  (⟨"ValuePlaces", "lines", "(IIII)I"⟩, prog_1_method_2_code, 7, some .int, 6, 4),
  (⟨"ValuePlaces", "isSheet", "(I)Z"⟩, prog_1_method_30_code, 1, some .boolean, 99, 1),
  (⟨"ValuePlaces", "isLane", "(I)Z"⟩, prog_1_method_31_code, 1, some .boolean, 99, 1),
  (⟨"ValuePlaces$Sheet", "faultOfCells", "(III)I"⟩, prog_5_method_5_code, 4, some .int, 3, 3),
  (⟨"ValuePlaces$Sheet", "hasCells", "(II)Z"⟩, prog_5_method_4_code, 3, some .boolean, 3, 2),
  (⟨"ValuePlaces", "faulty", "(I)I"⟩, prog_1_method_39_code, 2, some .int, 6, 1),
  (⟨"ValuePlaces$TextReader", "firstFault", "(LValuePlaces$Sheet;II)I"⟩, prog_6_method_2_code, 5, some .int, 4, 3),
  (⟨"ValuePlaces$Sheet", "read", "(I)I"⟩, prog_5_method_6_code, 2, some .int, 3, 1),
  (⟨"ValuePlaces$TextReader", "goesOnWith", "(I)Z"⟩, prog_6_method_3_code, 2, some .boolean, 4, 1),
  (⟨"ValuePlaces$TextReader", "movesTo", "(IZ)Z"⟩, prog_6_method_4_code, 3, some .boolean, 4, 2),
  (⟨"ValuePlaces$TextReader", "takesKind", "(I)Z"⟩, prog_6_method_5_code, 2, some .boolean, 4, 1),
  (⟨"ValuePlaces$TextReader", "takesAbove", "(I)Z"⟩, prog_6_method_6_code, 5, some .boolean, 4, 1),
  (⟨"ValuePlaces$Tree", "isLine", "(I)Z"⟩, prog_7_method_6_code, 2, some .boolean, 5, 1),
  (⟨"ValuePlaces$Tree", "putOn", "(II)V"⟩, prog_7_method_3_code, 4, none, 5, 2),
  (⟨"ValuePlaces$TextReader", "takesUsed", "(I)Z"⟩, prog_6_method_7_code, 2, some .boolean, 4, 1),
  (⟨"ValuePlaces$Tree", "useToo", "(I)Z"⟩, prog_7_method_4_code, 3, some .boolean, 5, 1),
  (⟨"ValuePlaces$Tree", "isBelow", "(II)Z"⟩, prog_7_method_8_code, 3, some .boolean, 5, 2),
  (⟨"ValuePlaces", "inSet", "(II)Z"⟩, prog_1_method_37_code, 2, some .boolean, 99, 2),
  (⟨"ValuePlaces$Tree", "becomeLike", "(LValuePlaces$Tree;)V"⟩, prog_7_method_2_code, 2, none, 5, 1),
  (⟨"ValuePlaces$Readings", "keepOnly", "(I)V"⟩, prog_4_method_3_code, 2, none, 2, 1),
  (⟨"ValuePlaces", "ofLine", "(II)I"⟩, prog_1_method_3_code, 3, some .int, 6, 2),
  (⟨"ValuePlaces$Tree", "liveBehind", "(I)I"⟩, prog_7_method_17_code, 2, some .int, 5, 1),
  (⟨"ValuePlaces$Tree", "usedBelow", "(I)I"⟩, prog_7_method_16_code, 4, some .int, 5, 1),
  (⟨"ValuePlaces$Tree", "pressure", "(I)I"⟩, prog_7_method_18_code, 2, some .int, 5, 1),
  (⟨"java/lang/Integer", "bitCount", "(I)I"⟩, prog_10_method_49_code, 1, some .int, 99, 1),
  (⟨"ValuePlaces$Tree", "colourOf", "(I)I"⟩, prog_7_method_22_code, 2, some .int, 5, 1),
  (⟨"ValuePlaces$Tree", "giveColours", "()V"⟩, prog_7_method_24_code, 5, none, 5, 0),
  (⟨"java/lang/Integer", "numberOfTrailingZeros", "(I)I"⟩, prog_10_method_48_code, 2, some .int, 99, 1),
  (⟨"ValuePlaces$Tree", "crossing", "(I)I"⟩, prog_7_method_20_code, 5, some .int, 5, 1),
  (⟨"ValuePlaces$Tree", "usersOf", "(I)I"⟩, prog_7_method_12_code, 4, some .int, 5, 1),
  (⟨"ValuePlaces$Tree", "cost", "(I)I"⟩, prog_7_method_15_code, 3, some .int, 5, 1),
  (⟨"ValuePlaces$Tree", "howManyUse", "(I)I"⟩, prog_7_method_13_code, 2, some .int, 5, 1),
  (⟨"ValuePlaces", "used", "(II)I"⟩, prog_1_method_4_code, 3, some .int, 6, 2),
  (⟨"ValuePlaces$Tree", "hasPlace", "(II)Z"⟩, prog_7_method_7_code, 3, some .boolean, 5, 2),
  (⟨"ValuePlaces$Tree", "usedIn", "(II)I"⟩, prog_7_method_9_code, 3, some .int, 5, 2),
  (⟨"ValuePlaces", "reuse", "(III)I"⟩, prog_1_method_5_code, 5, some .int, 6, 3),
  (⟨"ValuePlaces$Tree", "mayUse", "(III)Z"⟩, prog_7_method_10_code, 4, some .boolean, 5, 3),
  (⟨"ValuePlaces$Tree", "useInstead", "(III)V"⟩, prog_7_method_11_code, 4, none, 5, 3),
  (⟨"ValuePlaces", "grow", "(IIII)I"⟩, prog_1_method_6_code, 6, some .int, 6, 4),
  (⟨"ValuePlaces", "isKind", "(I)Z"⟩, prog_1_method_32_code, 1, some .boolean, 99, 1),
  (⟨"ValuePlaces", "isLineOrNone", "(I)Z"⟩, prog_1_method_40_code, 2, some .boolean, 6, 1),
  (⟨"ValuePlaces", "wouldBeBelow", "(II)Z"⟩, prog_1_method_41_code, 3, some .boolean, 6, 2),
  (⟨"ValuePlaces", "cut", "()I"⟩, prog_1_method_7_code, 1, some .int, 6, 0),
  (⟨"ValuePlaces$Tree", "takeLast", "()V"⟩, prog_7_method_5_code, 1, none, 5, 0),
  (⟨"ValuePlaces$Readings", "forget", "(I)V"⟩, prog_4_method_4_code, 4, none, 2, 1),
  (⟨"ValuePlaces", "day", "(IIIII)I"⟩, prog_1_method_8_code, 8, some .int, 6, 5),
  (⟨"ValuePlaces", "isDayQuestion", "(I)Z"⟩, prog_1_method_34_code, 1, some .boolean, 99, 1),
  (⟨"ValuePlaces", "isNumbered", "(II)Z"⟩, prog_1_method_33_code, 2, some .boolean, 99, 2),
  (⟨"ValuePlaces", "firstWrong", "(LValuePlaces$Sheet;II)I"⟩, prog_1_method_42_code, 9, some .int, 6, 3),
  (⟨"ValuePlaces", "ofTrial", "(I)I"⟩, prog_1_method_43_code, 2, some .int, 6, 1),
  (⟨"ValuePlaces$Tree", "greatestPressure", "()I"⟩, prog_7_method_19_code, 3, some .int, 5, 0),
  (⟨"ValuePlaces$Tree", "howManyColours", "()I"⟩, prog_7_method_23_code, 3, some .int, 5, 0),
  (⟨"ValuePlaces$Holding", "goThrough", "(LValuePlaces$Tree;I)V"⟩, prog_2_method_2_code, 5, none, 0, 2),
  (⟨"ValuePlaces$Holding", "passLine", "(LValuePlaces$Tree;II)V"⟩, prog_2_method_3_code, 6, none, 0, 3),
  (⟨"ValuePlaces$Holding", "makeRoom", "(LValuePlaces$Tree;III)V"⟩, prog_2_method_4_code, 10, none, 0, 4),
  (⟨"ValuePlaces$Tree", "laterUse", "(II)I"⟩, prog_7_method_25_code, 6, some .int, 5, 2),
  (⟨"ValuePlaces$Holding", "dropValue", "(IZ)V"⟩, prog_2_method_5_code, 3, none, 0, 2),
  (⟨"ValuePlaces$Tree", "howManyCross", "()I"⟩, prog_7_method_21_code, 3, some .int, 5, 0),
  (⟨"ValuePlaces", "cross", "(II)I"⟩, prog_1_method_9_code, 3, some .int, 6, 2),
  (⟨"ValuePlaces", "most", "(I)I"⟩, prog_1_method_10_code, 2, some .int, 6, 1),
  (⟨"ValuePlaces", "next", "(II)I"⟩, prog_1_method_11_code, 3, some .int, 6, 2),
  (⟨"ValuePlaces", "hold", "(II)I"⟩, prog_1_method_12_code, 3, some .int, 6, 2),
  (⟨"ValuePlaces", "isHoldQuestion", "(I)Z"⟩, prog_1_method_35_code, 1, some .boolean, 99, 1),
  (⟨"ValuePlaces", "copies", "(IIIII)I"⟩, prog_1_method_13_code, 7, some .int, 6, 5),
  (⟨"ValuePlaces", "isCopiesQuestion", "(I)Z"⟩, prog_1_method_36_code, 1, some .boolean, 99, 1),
  (⟨"ValuePlaces$Moves", "areTold", "(LValuePlaces$Sheet;II)Z"⟩, prog_3_method_2_code, 6, some .boolean, 1, 3),
  (⟨"ValuePlaces$Moves", "makeAll", "()V"⟩, prog_3_method_3_code, 3, none, 1, 0),
  (⟨"ValuePlaces$Moves", "allWanted", "()I"⟩, prog_3_method_4_code, 3, some .int, 1, 0),
  (⟨"ValuePlaces$Moves", "fill", "(I)V"⟩, prog_3_method_5_code, 2, none, 1, 1),
  (⟨"ValuePlaces$Moves", "write", "(II)V"⟩, prog_3_method_7_code, 3, none, 1, 2),
  (⟨"ValuePlaces$Moves", "saveToSpare", "(I)V"⟩, prog_3_method_6_code, 3, none, 1, 1),
  (⟨"ValuePlaces$Moves", "inPlace", "(I)I"⟩, prog_3_method_8_code, 2, some .int, 1, 1),
  (⟨"ValuePlaces", "reading", "(II)I"⟩, prog_1_method_14_code, 4, some .int, 6, 2),
  (⟨"ValuePlaces$Readings", "take", "(II)V"⟩, prog_4_method_2_code, 3, none, 2, 2),
  (⟨"ValuePlaces", "back", "(I)I"⟩, prog_1_method_15_code, 2, some .int, 6, 1),
  (⟨"ValuePlaces", "kinds", "(I)I"⟩, prog_1_method_16_code, 4, some .int, 6, 1),
  (⟨"ValuePlaces$Readings", "areSo", "(LValuePlaces$Tree;)Z"⟩, prog_4_method_5_code, 3, some .boolean, 2, 1),
  (⟨"ValuePlaces", "firsts", "(I)I"⟩, prog_1_method_17_code, 4, some .int, 6, 1),
  (⟨"ValuePlaces", "odds", "(I)J"⟩, prog_1_method_18_code, 5, some .long, 6, 1),
  (⟨"ValuePlaces", "greatestShared", "(II)I"⟩, prog_1_method_38_code, 3, some .int, 99, 2),
  (⟨"ValuePlaces", "sheet", "(III)I"⟩, prog_1_method_19_code, 4, some .int, 6, 3),
  (⟨"ValuePlaces$Sheet", "getRow", "(II)V"⟩, prog_5_method_2_code, 3, none, 3, 2),
  (⟨"java/util/Arrays", "fill", "([II)V"⟩, prog_13_method_103_code, 4, none, 99, 2),
  (⟨"ValuePlaces", "lose", "(I)I"⟩, prog_1_method_20_code, 3, some .int, 6, 1),
  (⟨"ValuePlaces$Sheet", "loseRow", "()V"⟩, prog_5_method_3_code, 1, none, 3, 0),
  (⟨"ValuePlaces", "put", "(III)I"⟩, prog_1_method_21_code, 5, some .int, 6, 3),
  (⟨"ValuePlaces$Sheet", "write", "(II)V"⟩, prog_5_method_7_code, 3, none, 3, 2),
  (⟨"ValuePlaces$Sheet", "cutToLane", "(I)I"⟩, prog_5_method_8_code, 2, some .int, 3, 1),
  (⟨"ValuePlaces", "cell", "(III)J"⟩, prog_1_method_22_code, 4, some .long, 6, 3),
  (⟨"ValuePlaces", "copy", "(IIIII)I"⟩, prog_1_method_23_code, 8, some .int, 6, 5),
  (⟨"ValuePlaces", "tell", "(I)I"⟩, prog_1_method_24_code, 2, some .int, 6, 1),
  (⟨"ValuePlaces", "doubleTelling", "(I)I"⟩, prog_1_method_47_code, 3, some .int, 6, 1),
  (⟨"ValuePlaces", "leaveInTrace", "(I)V"⟩, prog_1_method_44_code, 2, none, 6, 1),
  (⟨"ValuePlaces", "bulkyTelling", "(I)I"⟩, prog_1_method_46_code, 2, some .int, 6, 1),
  (⟨"ValuePlaces", "plainTelling", "(I)I"⟩, prog_1_method_45_code, 2, some .int, 6, 1),
  (⟨"ValuePlaces", "label", "(I)I"⟩, prog_1_method_25_code, 2, some .int, 6, 1),
  (⟨"ValuePlaces", "as", "(II)I"⟩, prog_1_method_26_code, 3, some .int, 6, 2),
  (⟨"ValuePlaces", "trace", "()I"⟩, prog_1_method_27_code, 1, some .int, 6, 0),
  (⟨"ValuePlaces", "fault", "()I"⟩, prog_1_method_28_code, 1, some .int, 6, 0),
  (⟨"ValuePlaces", "many", "(I)I"⟩, prog_1_method_29_code, 2, some .int, 6, 1),
  (⟨"ValuePlaces$Tree", "howManyUsedOfAll", "()I"⟩, prog_7_method_14_code, 3, some .int, 5, 0),
  (⟨"ValuePlacesModel", "lines", "(IIII)I"⟩, prog_9_method_13_code, 8, some .int, 7, 4),
  (⟨"ValuePlacesModel", "isSheet", "(I)Z"⟩, prog_9_method_6_code, 1, some .boolean, 99, 1),
  (⟨"ValuePlacesModel", "within", "(III)Z"⟩, prog_9_method_5_code, 3, some .boolean, 99, 3),
  (⟨"ValuePlacesModel", "isSort", "(I)Z"⟩, prog_9_method_7_code, 1, some .boolean, 99, 1),
  (⟨"ValuePlacesModel", "against", "(IIII)I"⟩, prog_9_method_8_code, 5, some .int, 7, 4),
  (⟨"ValuePlacesModel", "fails", "(I)I"⟩, prog_9_method_3_code, 2, some .int, 7, 1),
  (⟨"ValuePlacesModel", "readAll", "(I)Z"⟩, prog_9_method_14_code, 2, some .boolean, 7, 1),
  (⟨"ValuePlacesModel", "isSign", "(II)Z"⟩, prog_9_method_12_code, 3, some .boolean, 7, 2),
  (⟨"ValuePlacesModel", "readLine", "(II)Z"⟩, prog_9_method_15_code, 4, some .boolean, 7, 2),
  (⟨"ValuePlacesModel", "canBeUsed", "(II)Z"⟩, prog_9_method_16_code, 4, some .boolean, 7, 2),
  (⟨"ValuePlacesModel", "ofLine", "(II)I"⟩, prog_9_method_30_code, 3, some .int, 7, 2),
  (⟨"ValuePlacesModel", "isLine", "(I)Z"⟩, prog_9_method_9_code, 2, some .boolean, 7, 1),
  (⟨"ValuePlacesModel", "liveBehind", "(I)I"⟩, prog_9_method_22_code, 4, some .int, 7, 1),
  (⟨"ValuePlacesModel", "isBelow", "(II)Z"⟩, prog_9_method_17_code, 4, some .boolean, 7, 2),
  (⟨"ValuePlacesModel", "laterUse", "(II)I"⟩, prog_9_method_21_code, 7, some .int, 7, 2),
  (⟨"ValuePlacesModel", "isUser", "(II)Z"⟩, prog_9_method_18_code, 4, some .boolean, 7, 2),
  (⟨"ValuePlacesModel", "size", "(I)I"⟩, prog_9_method_11_code, 3, some .int, 99, 1),
  (⟨"ValuePlacesModel", "colourOf", "(I)I"⟩, prog_9_method_29_code, 2, some .int, 7, 1),
  (⟨"ValuePlacesModel", "findColours", "()V"⟩, prog_9_method_25_code, 5, none, 7, 0),
  (⟨"ValuePlacesModel", "isOf", "(II)Z"⟩, prog_9_method_10_code, 2, some .boolean, 99, 2),
  (⟨"ValuePlacesModel", "crossing", "(I)I"⟩, prog_9_method_24_code, 4, some .int, 7, 1),
  (⟨"ValuePlacesModel", "doCross", "(II)Z"⟩, prog_9_method_23_code, 5, some .boolean, 7, 2),
  (⟨"ValuePlacesModel", "usersOf", "(I)I"⟩, prog_9_method_19_code, 4, some .int, 7, 1),
  (⟨"ValuePlacesModel", "costOf", "(I)I"⟩, prog_9_method_20_code, 3, some .int, 7, 1),
  (⟨"ValuePlacesModel", "used", "(II)I"⟩, prog_9_method_31_code, 3, some .int, 7, 2),
  (⟨"ValuePlacesModel", "reuse", "(III)I"⟩, prog_9_method_33_code, 5, some .int, 7, 3),
  (⟨"ValuePlacesModel", "canReuse", "(III)Z"⟩, prog_9_method_32_code, 4, some .boolean, 7, 3),
  (⟨"ValuePlacesModel", "grow", "(IIII)I"⟩, prog_9_method_35_code, 5, some .int, 7, 4),
  (⟨"ValuePlacesModel", "isAboveOr", "(II)Z"⟩, prog_9_method_34_code, 3, some .boolean, 7, 2),
  (⟨"ValuePlacesModel", "cut", "()I"⟩, prog_9_method_36_code, 3, some .int, 7, 0),
  (⟨"ValuePlacesModel", "day", "(IIIII)I"⟩, prog_9_method_38_code, 10, some .int, 7, 5),
  (⟨"ValuePlacesModel", "goDay", "(II)I"⟩, prog_9_method_37_code, 7, some .int, 7, 2),
  (⟨"ValuePlacesModel", "tellDay", "(I)I"⟩, prog_9_method_39_code, 2, some .int, 7, 1),
  (⟨"ValuePlacesModel", "greatestPressure", "()I"⟩, prog_9_method_27_code, 3, some .int, 7, 0),
  (⟨"ValuePlacesModel", "manyColours", "()I"⟩, prog_9_method_26_code, 3, some .int, 7, 0),
  (⟨"ValuePlacesModel", "findHeld", "(I)V"⟩, prog_9_method_46_code, 3, none, 7, 1),
  (⟨"ValuePlacesModel", "holds", "(II)V"⟩, prog_9_method_45_code, 5, none, 7, 2),
  (⟨"ValuePlacesModel", "usedBy", "(I)I"⟩, prog_9_method_44_code, 4, some .int, 7, 1),
  (⟨"ValuePlacesModel", "drops", "(II)V"⟩, prog_9_method_43_code, 7, none, 7, 2),
  (⟨"ValuePlacesModel", "manyCross", "()I"⟩, prog_9_method_28_code, 4, some .int, 7, 0),
  (⟨"ValuePlacesModel", "cross", "(II)I"⟩, prog_9_method_40_code, 3, some .int, 7, 2),
  (⟨"ValuePlacesModel", "most", "(I)I"⟩, prog_9_method_41_code, 2, some .int, 7, 1),
  (⟨"ValuePlacesModel", "next", "(II)I"⟩, prog_9_method_42_code, 3, some .int, 7, 2),
  (⟨"ValuePlacesModel", "hold", "(II)I"⟩, prog_9_method_47_code, 3, some .int, 7, 2),
  (⟨"ValuePlacesModel", "copies", "(IIIII)I"⟩, prog_9_method_50_code, 8, some .int, 7, 5),
  (⟨"ValuePlacesModel", "findMoves", "(I)V"⟩, prog_9_method_49_code, 7, none, 7, 1),
  (⟨"ValuePlacesModel", "isWanted", "(II)Z"⟩, prog_9_method_48_code, 4, some .boolean, 7, 2),
  (⟨"ValuePlacesModel", "reading", "(II)I"⟩, prog_9_method_51_code, 3, some .int, 7, 2),
  (⟨"ValuePlacesModel", "back", "(I)I"⟩, prog_9_method_52_code, 2, some .int, 7, 1),
  (⟨"ValuePlacesModel", "kinds", "(I)I"⟩, prog_9_method_54_code, 5, some .int, 7, 1),
  (⟨"ValuePlacesModel", "areSo", "()Z"⟩, prog_9_method_53_code, 2, some .boolean, 7, 0),
  (⟨"ValuePlacesModel", "firsts", "(I)I"⟩, prog_9_method_55_code, 5, some .int, 7, 1),
  (⟨"ValuePlacesModel", "odds", "(I)J"⟩, prog_9_method_57_code, 2, some .long, 7, 1),
  (⟨"ValuePlacesModel", "inLeastTerms", "(JJI)J"⟩, prog_9_method_56_code, 11, some .long, 99, 3),
  (⟨"ValuePlacesModel", "sheet", "(III)I"⟩, prog_9_method_58_code, 5, some .int, 7, 3),
  (⟨"ValuePlacesModel", "lose", "(I)I"⟩, prog_9_method_59_code, 3, some .int, 7, 1),
  (⟨"ValuePlacesModel", "put", "(III)I"⟩, prog_9_method_60_code, 4, some .int, 7, 3),
  (⟨"ValuePlacesModel", "cell", "(III)J"⟩, prog_9_method_61_code, 4, some .long, 7, 3),
  (⟨"ValuePlacesModel", "lost", "(I)J"⟩, prog_9_method_4_code, 2, some .long, 7, 1),
  (⟨"ValuePlacesModel", "copy", "(IIIII)I"⟩, prog_9_method_62_code, 10, some .int, 7, 5),
  (⟨"ValuePlacesModel", "tell", "(I)I"⟩, prog_9_method_64_code, 3, some .int, 7, 1),
  (⟨"ValuePlacesModel", "begins", "(I)V"⟩, prog_9_method_63_code, 2, none, 7, 1),
  (⟨"ValuePlacesModel", "label", "(I)I"⟩, prog_9_method_65_code, 2, some .int, 7, 1),
  (⟨"ValuePlacesModel", "as", "(II)I"⟩, prog_9_method_66_code, 3, some .int, 7, 2),
  (⟨"ValuePlacesModel", "trace", "()I"⟩, prog_9_method_67_code, 1, some .int, 7, 0),
  (⟨"ValuePlacesModel", "fault", "()I"⟩, prog_9_method_68_code, 1, some .int, 7, 0),
  (⟨"ValuePlacesModel", "many", "(I)I"⟩, prog_9_method_69_code, 4, some .int, 7, 1)]
