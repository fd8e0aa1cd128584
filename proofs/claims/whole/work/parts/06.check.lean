/-! THE TABLES, CHECKED: each row is what the bytes decode to, and what it links is among the words -/
def x_len (pc : Nat) : Instr → Nat
  | .bipush _ => 2 | .sipush _ => 3 | .ldc_w _ => 3 | .ldc2_w _ => 3
  | .iload _ => 2 | .aload _ => 2 | .lload _ => 2 | .istore _ => 2 | .astore _ => 2 | .lstore _ => 2 | .iinc _ _ => 3
  | .ifCond _ _ => 3 | .if_icmp _ _ => 3 | .goto _ => 3 | .getfield _ => 3 | .putfield _ => 3 | .invokevirtual _ => 3 | .invokestatic _ => 3
  | .tableswitch _ _ _ offs => 1 + (3 - pc % 4) + 12 + 4 * offs.size
  | .lookupswitch _ ps => 1 + (3 - pc % 4) + 8 + 8 * ps.size
  | _ => 1
def x_c0 : vw_C := ("", fun _ => ("", "", "", false), 0)
def x_cn (n : Nat) : vw_C := x_nth x_c0 x_cls n
def x_F (x y : Nat) : String × String × String × Bool := (x_cn x).2.1 y
def x_wd (k pc : Nat) (r : xRow) : Bool :=
  match r.1 with
  | .bipush v => decide ((Int8.ofInt v).toInt32 = Int32.ofInt v)
  | .sipush v => decide ((Int16.ofInt v).toInt32 = Int32.ofInt v)
  | .ldc_w i => decide (lw_tbl[r.2.2.2]? = some (Cond.constant (x_mt k).1.cls i (Int32.ofNat r.2.1)))
  | .ldc2_w i => decide (lw_tbl[r.2.2.2]? = some (Cond.constantLong (x_mt k).1.cls i (Int64.ofNat r.2.1)))
  | .istore_n i => decide (i.val < x_nl k)
  | .istore i => decide (i < x_nl k)
  | .astore_n i => decide (i.val < x_nl k)
  | .astore i => decide (i < x_nl k)
  | .lstore i => decide (i + 1 < x_nl k)
  | .iinc i _ => decide (i < x_nl k)
  | .ifCond _ o => decide ((pc : Int) + o = (r.2.1 : Int))
  | .if_icmp _ o => decide ((pc : Int) + o = (r.2.1 : Int))
  | .goto o => decide ((pc : Int) + o = (r.2.1 : Int))
  | .tableswitch d lo hi offs => decide (hi = lo + offs.toList.length - 1) && decide (0 ≤ (pc : Int) + d) && offs.toList.all (fun o => decide (0 ≤ (pc : Int) + o)) && decide (-1000 ≤ lo ∧ hi ≤ 1000)
  | .lookupswitch d ps => decide (0 ≤ (pc : Int) + d) && ps.toList.all (fun o => decide (0 ≤ (pc : Int) + o.2) && decide (-1000 ≤ o.1 ∧ o.1 ≤ 1000)) && (ps.toList.zip (ps.toList.drop 1)).all (fun (a, next) => decide (a.1 < next.1))
  | .getfield i => decide (r.2.1 < 8) && decide (r.2.2.1 < x_nf r.2.1) && decide (lw_tbl[r.2.2.2]? = some (Cond.fieldLink (x_mt k).1.cls i (x_F r.2.1 r.2.2.1).1 (x_F r.2.1 r.2.2.1).2.1 (x_F r.2.1 r.2.2.1).2.2.1))
  | .putfield i => decide (r.2.1 < 8) && decide (r.2.2.1 < x_nf r.2.1) && decide (lw_tbl[r.2.2.2]? = some (Cond.fieldLink (x_mt k).1.cls i (x_F r.2.1 r.2.2.1).1 (x_F r.2.1 r.2.2.1).2.1 (x_F r.2.1 r.2.2.1).2.2.1)) && decide ((x_F r.2.1 r.2.2.1).2.2.2 = false) && (if x_fz r.2.1 r.2.2.1 then decide (parseFieldDescriptor (x_F r.2.1 r.2.2.1).2.2.1 = some .boolean) else decide (parseFieldDescriptor (x_F r.2.1 r.2.2.1).2.2.1 = some .int))
  | .invokevirtual i => decide (0 < r.2.1) && decide (r.2.1 < 169) && decide (x_mc r.2.1 < 8) && decide (r.2.2.1 = (x_mt r.2.1).2.2.2.2.2 + 1) && decide (lw_tbl[r.2.2.2]? = some (Cond.methodLink (x_mt k).1.cls i (x_mt r.2.1).1))
  | .invokestatic i =>
    if r.2.1 = 9999 then decide (lw_tbl[r.2.2.2]? = some (Cond.methodLink (x_mt k).1.cls i arraycopyName))
    else if r.2.1 = 9998 then decide (lw_tbl[r.2.2.2]? = some (Cond.methodLink (x_mt k).1.cls i Lib.Math.max.name))
    else if r.2.1 = 9997 then decide (lw_tbl[r.2.2.2]? = some (Cond.methodLink (x_mt k).1.cls i Lib.Math.min.name))
    else decide (0 < r.2.1) && decide (r.2.1 < 169) && decide (x_mc r.2.1 = 99) && decide (r.2.2.1 = (x_mt r.2.1).2.2.2.2.2) && (decide (lw_tbl[r.2.2.2]? = some (Cond.methodLink (x_mt k).1.cls i (x_mt r.2.1).1)) || decide (lw_tbl[r.2.2.2]? = some (Cond.methodLinkNest (x_mt k).1.cls i (x_mt r.2.1).1 "ValuePlaces")))
  | .ireturn => (decide (r.2.1 = 0) && decide ((x_mt k).2.2.2.1 = some .int)) || (decide (r.2.1 = 1) && decide ((x_mt k).2.2.2.1 = some .boolean))
  | .lreturn => decide ((x_mt k).2.2.2.1 = some .long)
  | .return_ => decide ((x_mt k).2.2.2.1 = none)
  | _ => true
def x_rok (k : Nat) (q : Nat × xRow) : Bool := decide (decode (x_mt k).2.1 q.1 = .ok (q.2.1, x_len q.1 q.2.1)) && x_wd k q.1 q.2
theorem rk_0_0 : tl_0_0.all (x_rok 0) = true := by decide +kernel
theorem rk_0_1 : tl_0_1.all (x_rok 0) = true := by decide +kernel
theorem rk_0_2 : tl_0_2.all (x_rok 0) = true := by decide +kernel
theorem rk_0_3 : tl_0_3.all (x_rok 0) = true := by decide +kernel
theorem rk_0_4 : tl_0_4.all (x_rok 0) = true := by decide +kernel
theorem rk_0_5 : tl_0_5.all (x_rok 0) = true := by decide +kernel
theorem rk_0_6 : tl_0_6.all (x_rok 0) = true := by decide +kernel
theorem rk_0_7 : tl_0_7.all (x_rok 0) = true := by decide +kernel
theorem rk_0_8 : tl_0_8.all (x_rok 0) = true := by decide +kernel
theorem rk_0_9 : tl_0_9.all (x_rok 0) = true := by decide +kernel
theorem rk_0_10 : tl_0_10.all (x_rok 0) = true := by decide +kernel
theorem rk_0_11 : tl_0_11.all (x_rok 0) = true := by decide +kernel
theorem rk_0_12 : tl_0_12.all (x_rok 0) = true := by decide +kernel
theorem rk_0_13 : tl_0_13.all (x_rok 0) = true := by decide +kernel
theorem rk_0_14 : tl_0_14.all (x_rok 0) = true := by decide +kernel
theorem rk_0_15 : tl_0_15.all (x_rok 0) = true := by decide +kernel
theorem rk_0_16 : tl_0_16.all (x_rok 0) = true := by decide +kernel
theorem rk_0_17 : tl_0_17.all (x_rok 0) = true := by decide +kernel
theorem rk_0_18 : tl_0_18.all (x_rok 0) = true := by decide +kernel
theorem rk_0_19 : tl_0_19.all (x_rok 0) = true := by decide +kernel
theorem rk_0 : tl_0.all (x_rok 0) = true := by unfold tl_0; simp only [List.all_append, Bool.and_eq_true]; exact ⟨⟨⟨⟨⟨⟨⟨⟨⟨⟨⟨⟨⟨⟨⟨⟨⟨⟨⟨rk_0_0, rk_0_1⟩, rk_0_2⟩, rk_0_3⟩, rk_0_4⟩, rk_0_5⟩, rk_0_6⟩, rk_0_7⟩, rk_0_8⟩, rk_0_9⟩, rk_0_10⟩, rk_0_11⟩, rk_0_12⟩, rk_0_13⟩, rk_0_14⟩, rk_0_15⟩, rk_0_16⟩, rk_0_17⟩, rk_0_18⟩, rk_0_19⟩
theorem rk_1 : tl_1.all (x_rok 1) = true := by decide +kernel
theorem rk_2 : tl_2.all (x_rok 2) = true := by decide +kernel
theorem rk_3 : tl_3.all (x_rok 3) = true := by decide +kernel
theorem rk_4 : tl_4.all (x_rok 4) = true := by decide +kernel
theorem rk_5 : tl_5.all (x_rok 5) = true := by decide +kernel
theorem rk_6 : tl_6.all (x_rok 6) = true := by decide +kernel
theorem rk_7 : tl_7.all (x_rok 7) = true := by decide +kernel
theorem rk_8 : tl_8.all (x_rok 8) = true := by decide +kernel
theorem rk_9 : tl_9.all (x_rok 9) = true := by decide +kernel
theorem rk_10 : tl_10.all (x_rok 10) = true := by decide +kernel
theorem rk_11 : tl_11.all (x_rok 11) = true := by decide +kernel
theorem rk_12 : tl_12.all (x_rok 12) = true := by decide +kernel
theorem rk_13 : tl_13.all (x_rok 13) = true := by decide +kernel
theorem rk_14 : tl_14.all (x_rok 14) = true := by decide +kernel
theorem rk_15 : tl_15.all (x_rok 15) = true := by decide +kernel
theorem rk_16 : tl_16.all (x_rok 16) = true := by decide +kernel
theorem rk_17 : tl_17.all (x_rok 17) = true := by decide +kernel
theorem rk_18 : tl_18.all (x_rok 18) = true := by decide +kernel
theorem rk_19 : tl_19.all (x_rok 19) = true := by decide +kernel
theorem rk_20 : tl_20.all (x_rok 20) = true := by decide +kernel
theorem rk_21 : tl_21.all (x_rok 21) = true := by decide +kernel
theorem rk_22 : tl_22.all (x_rok 22) = true := by decide +kernel
theorem rk_23 : tl_23.all (x_rok 23) = true := by decide +kernel
theorem rk_24 : tl_24.all (x_rok 24) = true := by decide +kernel
theorem rk_25 : tl_25.all (x_rok 25) = true := by decide +kernel
theorem rk_26 : tl_26.all (x_rok 26) = true := by decide +kernel
theorem rk_27 : tl_27.all (x_rok 27) = true := by decide +kernel
theorem rk_28 : tl_28.all (x_rok 28) = true := by decide +kernel
theorem rk_29 : tl_29.all (x_rok 29) = true := by decide +kernel
theorem rk_30 : tl_30.all (x_rok 30) = true := by decide +kernel
theorem rk_31 : tl_31.all (x_rok 31) = true := by decide +kernel
theorem rk_32 : tl_32.all (x_rok 32) = true := by decide +kernel
theorem rk_33 : tl_33.all (x_rok 33) = true := by decide +kernel
theorem rk_34 : tl_34.all (x_rok 34) = true := by decide +kernel
theorem rk_35 : tl_35.all (x_rok 35) = true := by decide +kernel
theorem rk_36 : tl_36.all (x_rok 36) = true := by decide +kernel
theorem rk_37 : tl_37.all (x_rok 37) = true := by decide +kernel
theorem rk_38 : tl_38.all (x_rok 38) = true := by decide +kernel
theorem rk_39 : tl_39.all (x_rok 39) = true := by decide +kernel
theorem rk_40 : tl_40.all (x_rok 40) = true := by decide +kernel
theorem rk_41 : tl_41.all (x_rok 41) = true := by decide +kernel
theorem rk_42 : tl_42.all (x_rok 42) = true := by decide +kernel
theorem rk_43 : tl_43.all (x_rok 43) = true := by decide +kernel
theorem rk_44 : tl_44.all (x_rok 44) = true := by decide +kernel
theorem rk_45 : tl_45.all (x_rok 45) = true := by decide +kernel
theorem rk_46 : tl_46.all (x_rok 46) = true := by decide +kernel
theorem rk_47 : tl_47.all (x_rok 47) = true := by decide +kernel
theorem rk_48 : tl_48.all (x_rok 48) = true := by decide +kernel
theorem rk_49 : tl_49.all (x_rok 49) = true := by decide +kernel
theorem rk_50 : tl_50.all (x_rok 50) = true := by decide +kernel
theorem rk_51 : tl_51.all (x_rok 51) = true := by decide +kernel
theorem rk_52 : tl_52.all (x_rok 52) = true := by decide +kernel
theorem rk_53 : tl_53.all (x_rok 53) = true := by decide +kernel
theorem rk_54 : tl_54.all (x_rok 54) = true := by decide +kernel
theorem rk_55 : tl_55.all (x_rok 55) = true := by decide +kernel
theorem rk_56 : tl_56.all (x_rok 56) = true := by decide +kernel
theorem rk_57 : tl_57.all (x_rok 57) = true := by decide +kernel
theorem rk_58 : tl_58.all (x_rok 58) = true := by decide +kernel
theorem rk_59 : tl_59.all (x_rok 59) = true := by decide +kernel
theorem rk_60 : tl_60.all (x_rok 60) = true := by decide +kernel
theorem rk_61 : tl_61.all (x_rok 61) = true := by decide +kernel
theorem rk_62 : tl_62.all (x_rok 62) = true := by decide +kernel
theorem rk_63 : tl_63.all (x_rok 63) = true := by decide +kernel
theorem rk_64 : tl_64.all (x_rok 64) = true := by decide +kernel
theorem rk_65 : tl_65.all (x_rok 65) = true := by decide +kernel
theorem rk_66 : tl_66.all (x_rok 66) = true := by decide +kernel
theorem rk_67 : tl_67.all (x_rok 67) = true := by decide +kernel
theorem rk_68 : tl_68.all (x_rok 68) = true := by decide +kernel
theorem rk_69 : tl_69.all (x_rok 69) = true := by decide +kernel
theorem rk_70 : tl_70.all (x_rok 70) = true := by decide +kernel
theorem rk_71 : tl_71.all (x_rok 71) = true := by decide +kernel
theorem rk_72 : tl_72.all (x_rok 72) = true := by decide +kernel
theorem rk_73 : tl_73.all (x_rok 73) = true := by decide +kernel
theorem rk_74 : tl_74.all (x_rok 74) = true := by decide +kernel
theorem rk_75 : tl_75.all (x_rok 75) = true := by decide +kernel
theorem rk_76 : tl_76.all (x_rok 76) = true := by decide +kernel
theorem rk_77 : tl_77.all (x_rok 77) = true := by decide +kernel
theorem rk_78 : tl_78.all (x_rok 78) = true := by decide +kernel
theorem rk_79 : tl_79.all (x_rok 79) = true := by decide +kernel
theorem rk_80 : tl_80.all (x_rok 80) = true := by decide +kernel
theorem rk_81 : tl_81.all (x_rok 81) = true := by decide +kernel
theorem rk_82 : tl_82.all (x_rok 82) = true := by decide +kernel
theorem rk_83 : tl_83.all (x_rok 83) = true := by decide +kernel
theorem rk_84 : tl_84.all (x_rok 84) = true := by decide +kernel
theorem rk_85 : tl_85.all (x_rok 85) = true := by decide +kernel
theorem rk_86 : tl_86.all (x_rok 86) = true := by decide +kernel
theorem rk_87 : tl_87.all (x_rok 87) = true := by decide +kernel
theorem rk_88 : tl_88.all (x_rok 88) = true := by decide +kernel
theorem rk_89 : tl_89.all (x_rok 89) = true := by decide +kernel
theorem rk_90 : tl_90.all (x_rok 90) = true := by decide +kernel
theorem rk_91 : tl_91.all (x_rok 91) = true := by decide +kernel
theorem rk_92 : tl_92.all (x_rok 92) = true := by decide +kernel
theorem rk_93 : tl_93.all (x_rok 93) = true := by decide +kernel
theorem rk_94 : tl_94.all (x_rok 94) = true := by decide +kernel
theorem rk_95 : tl_95.all (x_rok 95) = true := by decide +kernel
theorem rk_96 : tl_96.all (x_rok 96) = true := by decide +kernel
theorem rk_97 : tl_97.all (x_rok 97) = true := by decide +kernel
theorem rk_98 : tl_98.all (x_rok 98) = true := by decide +kernel
theorem rk_99 : tl_99.all (x_rok 99) = true := by decide +kernel
theorem rk_100 : tl_100.all (x_rok 100) = true := by decide +kernel
theorem rk_101 : tl_101.all (x_rok 101) = true := by decide +kernel
theorem rk_102 : tl_102.all (x_rok 102) = true := by decide +kernel
theorem rk_103 : tl_103.all (x_rok 103) = true := by decide +kernel
theorem rk_104 : tl_104.all (x_rok 104) = true := by decide +kernel
theorem rk_105 : tl_105.all (x_rok 105) = true := by decide +kernel
theorem rk_106 : tl_106.all (x_rok 106) = true := by decide +kernel
theorem rk_107 : tl_107.all (x_rok 107) = true := by decide +kernel
theorem rk_108 : tl_108.all (x_rok 108) = true := by decide +kernel
theorem rk_109 : tl_109.all (x_rok 109) = true := by decide +kernel
theorem rk_110 : tl_110.all (x_rok 110) = true := by decide +kernel
theorem rk_111 : tl_111.all (x_rok 111) = true := by decide +kernel
theorem rk_112 : tl_112.all (x_rok 112) = true := by decide +kernel
theorem rk_113 : tl_113.all (x_rok 113) = true := by decide +kernel
theorem rk_114 : tl_114.all (x_rok 114) = true := by decide +kernel
theorem rk_115 : tl_115.all (x_rok 115) = true := by decide +kernel
theorem rk_116 : tl_116.all (x_rok 116) = true := by decide +kernel
theorem rk_117 : tl_117.all (x_rok 117) = true := by decide +kernel
theorem rk_118 : tl_118.all (x_rok 118) = true := by decide +kernel
theorem rk_119 : tl_119.all (x_rok 119) = true := by decide +kernel
theorem rk_120 : tl_120.all (x_rok 120) = true := by decide +kernel
theorem rk_121 : tl_121.all (x_rok 121) = true := by decide +kernel
theorem rk_122 : tl_122.all (x_rok 122) = true := by decide +kernel
theorem rk_123 : tl_123.all (x_rok 123) = true := by decide +kernel
theorem rk_124 : tl_124.all (x_rok 124) = true := by decide +kernel
theorem rk_125 : tl_125.all (x_rok 125) = true := by decide +kernel
theorem rk_126 : tl_126.all (x_rok 126) = true := by decide +kernel
theorem rk_127 : tl_127.all (x_rok 127) = true := by decide +kernel
theorem rk_128 : tl_128.all (x_rok 128) = true := by decide +kernel
theorem rk_129 : tl_129.all (x_rok 129) = true := by decide +kernel
theorem rk_130 : tl_130.all (x_rok 130) = true := by decide +kernel
theorem rk_131 : tl_131.all (x_rok 131) = true := by decide +kernel
theorem rk_132 : tl_132.all (x_rok 132) = true := by decide +kernel
theorem rk_133 : tl_133.all (x_rok 133) = true := by decide +kernel
theorem rk_134 : tl_134.all (x_rok 134) = true := by decide +kernel
theorem rk_135 : tl_135.all (x_rok 135) = true := by decide +kernel
theorem rk_136 : tl_136.all (x_rok 136) = true := by decide +kernel
theorem rk_137 : tl_137.all (x_rok 137) = true := by decide +kernel
theorem rk_138 : tl_138.all (x_rok 138) = true := by decide +kernel
theorem rk_139 : tl_139.all (x_rok 139) = true := by decide +kernel
theorem rk_140 : tl_140.all (x_rok 140) = true := by decide +kernel
theorem rk_141 : tl_141.all (x_rok 141) = true := by decide +kernel
theorem rk_142 : tl_142.all (x_rok 142) = true := by decide +kernel
theorem rk_143 : tl_143.all (x_rok 143) = true := by decide +kernel
theorem rk_144 : tl_144.all (x_rok 144) = true := by decide +kernel
theorem rk_145 : tl_145.all (x_rok 145) = true := by decide +kernel
theorem rk_146 : tl_146.all (x_rok 146) = true := by decide +kernel
theorem rk_147 : tl_147.all (x_rok 147) = true := by decide +kernel
theorem rk_148 : tl_148.all (x_rok 148) = true := by decide +kernel
theorem rk_149 : tl_149.all (x_rok 149) = true := by decide +kernel
theorem rk_150 : tl_150.all (x_rok 150) = true := by decide +kernel
theorem rk_151 : tl_151.all (x_rok 151) = true := by decide +kernel
theorem rk_152 : tl_152.all (x_rok 152) = true := by decide +kernel
theorem rk_153 : tl_153.all (x_rok 153) = true := by decide +kernel
theorem rk_154 : tl_154.all (x_rok 154) = true := by decide +kernel
theorem rk_155 : tl_155.all (x_rok 155) = true := by decide +kernel
theorem rk_156 : tl_156.all (x_rok 156) = true := by decide +kernel
theorem rk_157 : tl_157.all (x_rok 157) = true := by decide +kernel
theorem rk_158 : tl_158.all (x_rok 158) = true := by decide +kernel
theorem rk_159 : tl_159.all (x_rok 159) = true := by decide +kernel
theorem rk_160 : tl_160.all (x_rok 160) = true := by decide +kernel
theorem rk_161 : tl_161.all (x_rok 161) = true := by decide +kernel
theorem rk_162 : tl_162.all (x_rok 162) = true := by decide +kernel
theorem rk_163 : tl_163.all (x_rok 163) = true := by decide +kernel
theorem rk_164 : tl_164.all (x_rok 164) = true := by decide +kernel
theorem rk_165 : tl_165.all (x_rok 165) = true := by decide +kernel
theorem rk_166 : tl_166.all (x_rok 166) = true := by decide +kernel
theorem rk_167 : tl_167.all (x_rok 167) = true := by decide +kernel
theorem rk_168 : tl_168.all (x_rok 168) = true := by decide +kernel
def x_oks : List (List (Nat × xRow)) → Nat → Prop
  | [], _ => True
  | l :: r, k => l.all (x_rok k) = true ∧ x_oks r (k + 1)
theorem x_oks_all : x_oks x_tls 0 := ⟨rk_0, rk_1, rk_2, rk_3, rk_4, rk_5, rk_6, rk_7, rk_8, rk_9, rk_10, rk_11, rk_12, rk_13, rk_14, rk_15, rk_16, rk_17, rk_18, rk_19, rk_20, rk_21, rk_22, rk_23, rk_24, rk_25, rk_26, rk_27, rk_28, rk_29, rk_30, rk_31, rk_32, rk_33, rk_34, rk_35, rk_36, rk_37, rk_38, rk_39, rk_40, rk_41, rk_42, rk_43, rk_44, rk_45, rk_46, rk_47, rk_48, rk_49, rk_50, rk_51, rk_52, rk_53, rk_54, rk_55, rk_56, rk_57, rk_58, rk_59, rk_60, rk_61, rk_62, rk_63, rk_64, rk_65, rk_66, rk_67, rk_68, rk_69, rk_70, rk_71, rk_72, rk_73, rk_74, rk_75, rk_76, rk_77, rk_78, rk_79, rk_80, rk_81, rk_82, rk_83, rk_84, rk_85, rk_86, rk_87, rk_88, rk_89, rk_90, rk_91, rk_92, rk_93, rk_94, rk_95, rk_96, rk_97, rk_98, rk_99, rk_100, rk_101, rk_102, rk_103, rk_104, rk_105, rk_106, rk_107, rk_108, rk_109, rk_110, rk_111, rk_112, rk_113, rk_114, rk_115, rk_116, rk_117, rk_118, rk_119, rk_120, rk_121, rk_122, rk_123, rk_124, rk_125, rk_126, rk_127, rk_128, rk_129, rk_130, rk_131, rk_132, rk_133, rk_134, rk_135, rk_136, rk_137, rk_138, rk_139, rk_140, rk_141, rk_142, rk_143, rk_144, rk_145, rk_146, rk_147, rk_148, rk_149, rk_150, rk_151, rk_152, rk_153, rk_154, rk_155, rk_156, rk_157, rk_158, rk_159, rk_160, rk_161, rk_162, rk_163, rk_164, rk_165, rk_166, rk_167, rk_168, trivial⟩
theorem x_oks_nth : ∀ (T : List (List (Nat × xRow))) (k0 : Nat), x_oks T k0 → ∀ k, (x_nth [] T k).all (x_rok (k0 + k)) = true
  | [], _, _, _ => rfl
  | l :: r, k0, h, 0 => h.1
  | l :: r, k0, h, k + 1 => by
    have h1 := x_oks_nth r (k0 + 1) h.2 k
    rw [show k0 + 1 + k = k0 + (k + 1) by omega] at h1
    exact h1
theorem x_lk_mem : ∀ (l : List (Nat × xRow)) (pc : Nat) (r : xRow), x_lk l pc = some r → (pc, r) ∈ l
  | [], pc, r, h => by cases h
  | (k, q) :: t, pc, r, h => by
    unfold x_lk at h
    cases hb : Nat.beq k pc with
    | true =>
      rw [hb] at h
      have e1 : q = r := Option.some.inj h
      have e2 : k = pc := Nat.eq_of_beq_eq_true hb
      subst e1; subst e2
      exact List.mem_cons_self
    | false =>
      rw [hb] at h
      exact List.mem_cons_of_mem _ (x_lk_mem t pc r h)
theorem x_row {k pc : Nat} {r : xRow} (h : x_tb k pc = some r) : decode (x_mt k).2.1 pc = .ok (r.1, x_len pc r.1) ∧ x_wd k pc r = true := by
  have h1 := List.all_eq_true.mp (x_oks_nth x_tls 0 x_oks_all k) _ (x_lk_mem _ _ _ h)
  rw [Nat.zero_add] at h1
  unfold x_rok at h1
  simp only [Bool.and_eq_true, decide_eq_true_eq] at h1
  exact h1
