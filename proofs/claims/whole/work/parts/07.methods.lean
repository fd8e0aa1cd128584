/-! THE METHODS' WORDS -/
def x_gw : List Cond := lw_tbl.filter goodWord
theorem x_gw_mem {w : Cond} (h : w ∈ lw_tbl) (hg : goodWord w = true) : w ∈ x_gw := List.mem_filter.mpr ⟨h, hg⟩
def x_MOk (m : x_MT) : Prop := Cond.code m.1 m.2.1 m.2.2.1 m.2.2.2.1 ∈ lw_tbl ∧ Cond.initialized m.1.cls ∈ lw_tbl ∧ (plainName m.1.cls = true ∧ m.1.cls ≠ "java/lang/invoke/MethodHandle" ∧ m.1.cls ≠ "java/lang/invoke/VarHandle" ∧ (parseMethodDescriptor m.1.desc).map (fun d => d.parameters.length) = some m.2.2.2.2.2 ∧ m.2.2.1 ≤ 11) ∧ ((m.2.2.2.2.1 = 99 ∧ Cond.static m.1 ∈ lw_tbl) ∨ (m.2.2.2.2.1 < 8 ∧ (x_cls[m.2.2.2.2.1]?).map (fun q => q.1) = some m.1.cls ∧ Cond.instanceMethod m.1 ∈ lw_tbl ∧ Cond.selects m.1.cls m.1 m.1 ∈ lw_tbl))
set_option maxRecDepth 100000 in
theorem mk_1 : x_MOk (x_mt 1) := ⟨List.mem_of_getElem? (i := 248) rfl, List.mem_of_getElem? (i := 43) (by decide +kernel), ⟨by decide +kernel, by decide +kernel, by decide +kernel, by decide +kernel, by decide⟩, Or.inr ⟨by decide, by decide +kernel, List.mem_of_getElem? (i := 246) (by decide +kernel), List.mem_of_getElem? (i := 247) (by decide +kernel)⟩⟩
set_option maxRecDepth 100000 in
theorem mk_2 : x_MOk (x_mt 2) := ⟨List.mem_of_getElem? (i := 251) rfl, List.mem_of_getElem? (i := 43) (by decide +kernel), ⟨by decide +kernel, by decide +kernel, by decide +kernel, by decide +kernel, by decide⟩, Or.inl ⟨rfl, List.mem_of_getElem? (i := 250) (by decide +kernel)⟩⟩
set_option maxRecDepth 100000 in
theorem mk_3 : x_MOk (x_mt 3) := ⟨List.mem_of_getElem? (i := 254) rfl, List.mem_of_getElem? (i := 43) (by decide +kernel), ⟨by decide +kernel, by decide +kernel, by decide +kernel, by decide +kernel, by decide⟩, Or.inl ⟨rfl, List.mem_of_getElem? (i := 253) (by decide +kernel)⟩⟩
set_option maxRecDepth 100000 in
theorem mk_4 : x_MOk (x_mt 4) := ⟨List.mem_of_getElem? (i := 258) rfl, List.mem_of_getElem? (i := 44) (by decide +kernel), ⟨by decide +kernel, by decide +kernel, by decide +kernel, by decide +kernel, by decide⟩, Or.inr ⟨by decide, by decide +kernel, List.mem_of_getElem? (i := 256) (by decide +kernel), List.mem_of_getElem? (i := 257) (by decide +kernel)⟩⟩
set_option maxRecDepth 100000 in
theorem mk_5 : x_MOk (x_mt 5) := ⟨List.mem_of_getElem? (i := 262) rfl, List.mem_of_getElem? (i := 44) (by decide +kernel), ⟨by decide +kernel, by decide +kernel, by decide +kernel, by decide +kernel, by decide⟩, Or.inr ⟨by decide, by decide +kernel, List.mem_of_getElem? (i := 260) (by decide +kernel), List.mem_of_getElem? (i := 261) (by decide +kernel)⟩⟩
set_option maxRecDepth 100000 in
theorem mk_6 : x_MOk (x_mt 6) := ⟨List.mem_of_getElem? (i := 266) rfl, List.mem_of_getElem? (i := 43) (by decide +kernel), ⟨by decide +kernel, by decide +kernel, by decide +kernel, by decide +kernel, by decide⟩, Or.inr ⟨by decide, by decide +kernel, List.mem_of_getElem? (i := 265) (by decide +kernel), List.mem_of_getElem? (i := 0) (by decide +kernel)⟩⟩
set_option maxRecDepth 100000 in
theorem mk_7 : x_MOk (x_mt 7) := ⟨List.mem_of_getElem? (i := 270) rfl, List.mem_of_getElem? (i := 46) (by decide +kernel), ⟨by decide +kernel, by decide +kernel, by decide +kernel, by decide +kernel, by decide⟩, Or.inr ⟨by decide, by decide +kernel, List.mem_of_getElem? (i := 268) (by decide +kernel), List.mem_of_getElem? (i := 269) (by decide +kernel)⟩⟩
set_option maxRecDepth 100000 in
theorem mk_8 : x_MOk (x_mt 8) := ⟨List.mem_of_getElem? (i := 274) rfl, List.mem_of_getElem? (i := 44) (by decide +kernel), ⟨by decide +kernel, by decide +kernel, by decide +kernel, by decide +kernel, by decide⟩, Or.inr ⟨by decide, by decide +kernel, List.mem_of_getElem? (i := 272) (by decide +kernel), List.mem_of_getElem? (i := 273) (by decide +kernel)⟩⟩
set_option maxRecDepth 100000 in
theorem mk_9 : x_MOk (x_mt 9) := ⟨List.mem_of_getElem? (i := 278) rfl, List.mem_of_getElem? (i := 46) (by decide +kernel), ⟨by decide +kernel, by decide +kernel, by decide +kernel, by decide +kernel, by decide⟩, Or.inr ⟨by decide, by decide +kernel, List.mem_of_getElem? (i := 276) (by decide +kernel), List.mem_of_getElem? (i := 277) (by decide +kernel)⟩⟩
set_option maxRecDepth 100000 in
theorem mk_10 : x_MOk (x_mt 10) := ⟨List.mem_of_getElem? (i := 282) rfl, List.mem_of_getElem? (i := 46) (by decide +kernel), ⟨by decide +kernel, by decide +kernel, by decide +kernel, by decide +kernel, by decide⟩, Or.inr ⟨by decide, by decide +kernel, List.mem_of_getElem? (i := 280) (by decide +kernel), List.mem_of_getElem? (i := 281) (by decide +kernel)⟩⟩
set_option maxRecDepth 100000 in
theorem mk_11 : x_MOk (x_mt 11) := ⟨List.mem_of_getElem? (i := 286) rfl, List.mem_of_getElem? (i := 46) (by decide +kernel), ⟨by decide +kernel, by decide +kernel, by decide +kernel, by decide +kernel, by decide⟩, Or.inr ⟨by decide, by decide +kernel, List.mem_of_getElem? (i := 284) (by decide +kernel), List.mem_of_getElem? (i := 285) (by decide +kernel)⟩⟩
set_option maxRecDepth 100000 in
theorem mk_12 : x_MOk (x_mt 12) := ⟨List.mem_of_getElem? (i := 290) rfl, List.mem_of_getElem? (i := 46) (by decide +kernel), ⟨by decide +kernel, by decide +kernel, by decide +kernel, by decide +kernel, by decide⟩, Or.inr ⟨by decide, by decide +kernel, List.mem_of_getElem? (i := 288) (by decide +kernel), List.mem_of_getElem? (i := 289) (by decide +kernel)⟩⟩
set_option maxRecDepth 100000 in
theorem mk_13 : x_MOk (x_mt 13) := ⟨List.mem_of_getElem? (i := 294) rfl, List.mem_of_getElem? (i := 45) (by decide +kernel), ⟨by decide +kernel, by decide +kernel, by decide +kernel, by decide +kernel, by decide⟩, Or.inr ⟨by decide, by decide +kernel, List.mem_of_getElem? (i := 292) (by decide +kernel), List.mem_of_getElem? (i := 293) (by decide +kernel)⟩⟩
set_option maxRecDepth 100000 in
theorem mk_14 : x_MOk (x_mt 14) := ⟨List.mem_of_getElem? (i := 298) rfl, List.mem_of_getElem? (i := 45) (by decide +kernel), ⟨by decide +kernel, by decide +kernel, by decide +kernel, by decide +kernel, by decide⟩, Or.inr ⟨by decide, by decide +kernel, List.mem_of_getElem? (i := 296) (by decide +kernel), List.mem_of_getElem? (i := 297) (by decide +kernel)⟩⟩
set_option maxRecDepth 100000 in
theorem mk_15 : x_MOk (x_mt 15) := ⟨List.mem_of_getElem? (i := 303) rfl, List.mem_of_getElem? (i := 46) (by decide +kernel), ⟨by decide +kernel, by decide +kernel, by decide +kernel, by decide +kernel, by decide⟩, Or.inr ⟨by decide, by decide +kernel, List.mem_of_getElem? (i := 301) (by decide +kernel), List.mem_of_getElem? (i := 302) (by decide +kernel)⟩⟩
set_option maxRecDepth 100000 in
theorem mk_16 : x_MOk (x_mt 16) := ⟨List.mem_of_getElem? (i := 307) rfl, List.mem_of_getElem? (i := 45) (by decide +kernel), ⟨by decide +kernel, by decide +kernel, by decide +kernel, by decide +kernel, by decide⟩, Or.inr ⟨by decide, by decide +kernel, List.mem_of_getElem? (i := 305) (by decide +kernel), List.mem_of_getElem? (i := 306) (by decide +kernel)⟩⟩
set_option maxRecDepth 100000 in
theorem mk_17 : x_MOk (x_mt 17) := ⟨List.mem_of_getElem? (i := 311) rfl, List.mem_of_getElem? (i := 45) (by decide +kernel), ⟨by decide +kernel, by decide +kernel, by decide +kernel, by decide +kernel, by decide⟩, Or.inr ⟨by decide, by decide +kernel, List.mem_of_getElem? (i := 309) (by decide +kernel), List.mem_of_getElem? (i := 310) (by decide +kernel)⟩⟩
set_option maxRecDepth 100000 in
theorem mk_18 : x_MOk (x_mt 18) := ⟨List.mem_of_getElem? (i := 314) rfl, List.mem_of_getElem? (i := 43) (by decide +kernel), ⟨by decide +kernel, by decide +kernel, by decide +kernel, by decide +kernel, by decide⟩, Or.inl ⟨rfl, List.mem_of_getElem? (i := 313) (by decide +kernel)⟩⟩
set_option maxRecDepth 100000 in
theorem mk_19 : x_MOk (x_mt 19) := ⟨List.mem_of_getElem? (i := 318) rfl, List.mem_of_getElem? (i := 45) (by decide +kernel), ⟨by decide +kernel, by decide +kernel, by decide +kernel, by decide +kernel, by decide⟩, Or.inr ⟨by decide, by decide +kernel, List.mem_of_getElem? (i := 316) (by decide +kernel), List.mem_of_getElem? (i := 317) (by decide +kernel)⟩⟩
set_option maxRecDepth 100000 in
theorem mk_20 : x_MOk (x_mt 20) := ⟨List.mem_of_getElem? (i := 325) rfl, List.mem_of_getElem? (i := 49) (by decide +kernel), ⟨by decide +kernel, by decide +kernel, by decide +kernel, by decide +kernel, by decide⟩, Or.inr ⟨by decide, by decide +kernel, List.mem_of_getElem? (i := 323) (by decide +kernel), List.mem_of_getElem? (i := 324) (by decide +kernel)⟩⟩
set_option maxRecDepth 100000 in
theorem mk_21 : x_MOk (x_mt 21) := ⟨List.mem_of_getElem? (i := 329) rfl, List.mem_of_getElem? (i := 43) (by decide +kernel), ⟨by decide +kernel, by decide +kernel, by decide +kernel, by decide +kernel, by decide⟩, Or.inr ⟨by decide, by decide +kernel, List.mem_of_getElem? (i := 327) (by decide +kernel), List.mem_of_getElem? (i := 328) (by decide +kernel)⟩⟩
set_option maxRecDepth 100000 in
theorem mk_22 : x_MOk (x_mt 22) := ⟨List.mem_of_getElem? (i := 334) rfl, List.mem_of_getElem? (i := 45) (by decide +kernel), ⟨by decide +kernel, by decide +kernel, by decide +kernel, by decide +kernel, by decide⟩, Or.inr ⟨by decide, by decide +kernel, List.mem_of_getElem? (i := 332) (by decide +kernel), List.mem_of_getElem? (i := 333) (by decide +kernel)⟩⟩
set_option maxRecDepth 100000 in
theorem mk_23 : x_MOk (x_mt 23) := ⟨List.mem_of_getElem? (i := 338) rfl, List.mem_of_getElem? (i := 45) (by decide +kernel), ⟨by decide +kernel, by decide +kernel, by decide +kernel, by decide +kernel, by decide⟩, Or.inr ⟨by decide, by decide +kernel, List.mem_of_getElem? (i := 336) (by decide +kernel), List.mem_of_getElem? (i := 337) (by decide +kernel)⟩⟩
set_option maxRecDepth 100000 in
theorem mk_24 : x_MOk (x_mt 24) := ⟨List.mem_of_getElem? (i := 342) rfl, List.mem_of_getElem? (i := 45) (by decide +kernel), ⟨by decide +kernel, by decide +kernel, by decide +kernel, by decide +kernel, by decide⟩, Or.inr ⟨by decide, by decide +kernel, List.mem_of_getElem? (i := 340) (by decide +kernel), List.mem_of_getElem? (i := 341) (by decide +kernel)⟩⟩
set_option maxRecDepth 100000 in
theorem mk_25 : x_MOk (x_mt 25) := ⟨List.mem_of_getElem? (i := 346) rfl, List.mem_of_getElem? (i := 52) (by decide +kernel), ⟨by decide +kernel, by decide +kernel, by decide +kernel, by decide +kernel, by decide⟩, Or.inl ⟨rfl, List.mem_of_getElem? (i := 345) (by decide +kernel)⟩⟩
set_option maxRecDepth 100000 in
theorem mk_26 : x_MOk (x_mt 26) := ⟨List.mem_of_getElem? (i := 353) rfl, List.mem_of_getElem? (i := 45) (by decide +kernel), ⟨by decide +kernel, by decide +kernel, by decide +kernel, by decide +kernel, by decide⟩, Or.inr ⟨by decide, by decide +kernel, List.mem_of_getElem? (i := 351) (by decide +kernel), List.mem_of_getElem? (i := 352) (by decide +kernel)⟩⟩
set_option maxRecDepth 100000 in
theorem mk_27 : x_MOk (x_mt 27) := ⟨List.mem_of_getElem? (i := 357) rfl, List.mem_of_getElem? (i := 45) (by decide +kernel), ⟨by decide +kernel, by decide +kernel, by decide +kernel, by decide +kernel, by decide⟩, Or.inr ⟨by decide, by decide +kernel, List.mem_of_getElem? (i := 355) (by decide +kernel), List.mem_of_getElem? (i := 356) (by decide +kernel)⟩⟩
set_option maxRecDepth 100000 in
theorem mk_28 : x_MOk (x_mt 28) := ⟨List.mem_of_getElem? (i := 360) rfl, List.mem_of_getElem? (i := 52) (by decide +kernel), ⟨by decide +kernel, by decide +kernel, by decide +kernel, by decide +kernel, by decide⟩, Or.inl ⟨rfl, List.mem_of_getElem? (i := 359) (by decide +kernel)⟩⟩
set_option maxRecDepth 100000 in
theorem mk_29 : x_MOk (x_mt 29) := ⟨List.mem_of_getElem? (i := 365) rfl, List.mem_of_getElem? (i := 45) (by decide +kernel), ⟨by decide +kernel, by decide +kernel, by decide +kernel, by decide +kernel, by decide⟩, Or.inr ⟨by decide, by decide +kernel, List.mem_of_getElem? (i := 363) (by decide +kernel), List.mem_of_getElem? (i := 364) (by decide +kernel)⟩⟩
set_option maxRecDepth 100000 in
theorem mk_30 : x_MOk (x_mt 30) := ⟨List.mem_of_getElem? (i := 369) rfl, List.mem_of_getElem? (i := 45) (by decide +kernel), ⟨by decide +kernel, by decide +kernel, by decide +kernel, by decide +kernel, by decide⟩, Or.inr ⟨by decide, by decide +kernel, List.mem_of_getElem? (i := 367) (by decide +kernel), List.mem_of_getElem? (i := 368) (by decide +kernel)⟩⟩
set_option maxRecDepth 100000 in
theorem mk_31 : x_MOk (x_mt 31) := ⟨List.mem_of_getElem? (i := 373) rfl, List.mem_of_getElem? (i := 45) (by decide +kernel), ⟨by decide +kernel, by decide +kernel, by decide +kernel, by decide +kernel, by decide⟩, Or.inr ⟨by decide, by decide +kernel, List.mem_of_getElem? (i := 371) (by decide +kernel), List.mem_of_getElem? (i := 372) (by decide +kernel)⟩⟩
set_option maxRecDepth 100000 in
theorem mk_32 : x_MOk (x_mt 32) := ⟨List.mem_of_getElem? (i := 377) rfl, List.mem_of_getElem? (i := 45) (by decide +kernel), ⟨by decide +kernel, by decide +kernel, by decide +kernel, by decide +kernel, by decide⟩, Or.inr ⟨by decide, by decide +kernel, List.mem_of_getElem? (i := 375) (by decide +kernel), List.mem_of_getElem? (i := 376) (by decide +kernel)⟩⟩
set_option maxRecDepth 100000 in
theorem mk_33 : x_MOk (x_mt 33) := ⟨List.mem_of_getElem? (i := 382) rfl, List.mem_of_getElem? (i := 43) (by decide +kernel), ⟨by decide +kernel, by decide +kernel, by decide +kernel, by decide +kernel, by decide⟩, Or.inr ⟨by decide, by decide +kernel, List.mem_of_getElem? (i := 380) (by decide +kernel), List.mem_of_getElem? (i := 381) (by decide +kernel)⟩⟩
set_option maxRecDepth 100000 in
theorem mk_34 : x_MOk (x_mt 34) := ⟨List.mem_of_getElem? (i := 386) rfl, List.mem_of_getElem? (i := 45) (by decide +kernel), ⟨by decide +kernel, by decide +kernel, by decide +kernel, by decide +kernel, by decide⟩, Or.inr ⟨by decide, by decide +kernel, List.mem_of_getElem? (i := 384) (by decide +kernel), List.mem_of_getElem? (i := 385) (by decide +kernel)⟩⟩
set_option maxRecDepth 100000 in
theorem mk_35 : x_MOk (x_mt 35) := ⟨List.mem_of_getElem? (i := 390) rfl, List.mem_of_getElem? (i := 45) (by decide +kernel), ⟨by decide +kernel, by decide +kernel, by decide +kernel, by decide +kernel, by decide⟩, Or.inr ⟨by decide, by decide +kernel, List.mem_of_getElem? (i := 388) (by decide +kernel), List.mem_of_getElem? (i := 389) (by decide +kernel)⟩⟩
set_option maxRecDepth 100000 in
theorem mk_36 : x_MOk (x_mt 36) := ⟨List.mem_of_getElem? (i := 395) rfl, List.mem_of_getElem? (i := 43) (by decide +kernel), ⟨by decide +kernel, by decide +kernel, by decide +kernel, by decide +kernel, by decide⟩, Or.inr ⟨by decide, by decide +kernel, List.mem_of_getElem? (i := 393) (by decide +kernel), List.mem_of_getElem? (i := 394) (by decide +kernel)⟩⟩
set_option maxRecDepth 100000 in
theorem mk_37 : x_MOk (x_mt 37) := ⟨List.mem_of_getElem? (i := 399) rfl, List.mem_of_getElem? (i := 45) (by decide +kernel), ⟨by decide +kernel, by decide +kernel, by decide +kernel, by decide +kernel, by decide⟩, Or.inr ⟨by decide, by decide +kernel, List.mem_of_getElem? (i := 397) (by decide +kernel), List.mem_of_getElem? (i := 398) (by decide +kernel)⟩⟩
set_option maxRecDepth 100000 in
theorem mk_38 : x_MOk (x_mt 38) := ⟨List.mem_of_getElem? (i := 404) rfl, List.mem_of_getElem? (i := 45) (by decide +kernel), ⟨by decide +kernel, by decide +kernel, by decide +kernel, by decide +kernel, by decide⟩, Or.inr ⟨by decide, by decide +kernel, List.mem_of_getElem? (i := 402) (by decide +kernel), List.mem_of_getElem? (i := 403) (by decide +kernel)⟩⟩
set_option maxRecDepth 100000 in
theorem mk_39 : x_MOk (x_mt 39) := ⟨List.mem_of_getElem? (i := 409) rfl, List.mem_of_getElem? (i := 43) (by decide +kernel), ⟨by decide +kernel, by decide +kernel, by decide +kernel, by decide +kernel, by decide⟩, Or.inr ⟨by decide, by decide +kernel, List.mem_of_getElem? (i := 407) (by decide +kernel), List.mem_of_getElem? (i := 408) (by decide +kernel)⟩⟩
set_option maxRecDepth 100000 in
theorem mk_40 : x_MOk (x_mt 40) := ⟨List.mem_of_getElem? (i := 412) rfl, List.mem_of_getElem? (i := 43) (by decide +kernel), ⟨by decide +kernel, by decide +kernel, by decide +kernel, by decide +kernel, by decide⟩, Or.inl ⟨rfl, List.mem_of_getElem? (i := 411) (by decide +kernel)⟩⟩
set_option maxRecDepth 100000 in
theorem mk_41 : x_MOk (x_mt 41) := ⟨List.mem_of_getElem? (i := 416) rfl, List.mem_of_getElem? (i := 43) (by decide +kernel), ⟨by decide +kernel, by decide +kernel, by decide +kernel, by decide +kernel, by decide⟩, Or.inr ⟨by decide, by decide +kernel, List.mem_of_getElem? (i := 415) (by decide +kernel), List.mem_of_getElem? (i := 1) (by decide +kernel)⟩⟩
set_option maxRecDepth 100000 in
theorem mk_42 : x_MOk (x_mt 42) := ⟨List.mem_of_getElem? (i := 420) rfl, List.mem_of_getElem? (i := 43) (by decide +kernel), ⟨by decide +kernel, by decide +kernel, by decide +kernel, by decide +kernel, by decide⟩, Or.inr ⟨by decide, by decide +kernel, List.mem_of_getElem? (i := 419) (by decide +kernel), List.mem_of_getElem? (i := 2) (by decide +kernel)⟩⟩
set_option maxRecDepth 100000 in
theorem mk_43 : x_MOk (x_mt 43) := ⟨List.mem_of_getElem? (i := 427) rfl, List.mem_of_getElem? (i := 43) (by decide +kernel), ⟨by decide +kernel, by decide +kernel, by decide +kernel, by decide +kernel, by decide⟩, Or.inr ⟨by decide, by decide +kernel, List.mem_of_getElem? (i := 425) (by decide +kernel), List.mem_of_getElem? (i := 426) (by decide +kernel)⟩⟩
set_option maxRecDepth 100000 in
theorem mk_44 : x_MOk (x_mt 44) := ⟨List.mem_of_getElem? (i := 431) rfl, List.mem_of_getElem? (i := 45) (by decide +kernel), ⟨by decide +kernel, by decide +kernel, by decide +kernel, by decide +kernel, by decide⟩, Or.inr ⟨by decide, by decide +kernel, List.mem_of_getElem? (i := 429) (by decide +kernel), List.mem_of_getElem? (i := 430) (by decide +kernel)⟩⟩
set_option maxRecDepth 100000 in
theorem mk_45 : x_MOk (x_mt 45) := ⟨List.mem_of_getElem? (i := 435) rfl, List.mem_of_getElem? (i := 49) (by decide +kernel), ⟨by decide +kernel, by decide +kernel, by decide +kernel, by decide +kernel, by decide⟩, Or.inr ⟨by decide, by decide +kernel, List.mem_of_getElem? (i := 433) (by decide +kernel), List.mem_of_getElem? (i := 434) (by decide +kernel)⟩⟩
set_option maxRecDepth 100000 in
theorem mk_46 : x_MOk (x_mt 46) := ⟨List.mem_of_getElem? (i := 439) rfl, List.mem_of_getElem? (i := 43) (by decide +kernel), ⟨by decide +kernel, by decide +kernel, by decide +kernel, by decide +kernel, by decide⟩, Or.inr ⟨by decide, by decide +kernel, List.mem_of_getElem? (i := 437) (by decide +kernel), List.mem_of_getElem? (i := 438) (by decide +kernel)⟩⟩
set_option maxRecDepth 100000 in
theorem mk_47 : x_MOk (x_mt 47) := ⟨List.mem_of_getElem? (i := 442) rfl, List.mem_of_getElem? (i := 43) (by decide +kernel), ⟨by decide +kernel, by decide +kernel, by decide +kernel, by decide +kernel, by decide⟩, Or.inl ⟨rfl, List.mem_of_getElem? (i := 441) (by decide +kernel)⟩⟩
set_option maxRecDepth 100000 in
theorem mk_48 : x_MOk (x_mt 48) := ⟨List.mem_of_getElem? (i := 445) rfl, List.mem_of_getElem? (i := 43) (by decide +kernel), ⟨by decide +kernel, by decide +kernel, by decide +kernel, by decide +kernel, by decide⟩, Or.inl ⟨rfl, List.mem_of_getElem? (i := 444) (by decide +kernel)⟩⟩
set_option maxRecDepth 100000 in
theorem mk_49 : x_MOk (x_mt 49) := ⟨List.mem_of_getElem? (i := 449) rfl, List.mem_of_getElem? (i := 43) (by decide +kernel), ⟨by decide +kernel, by decide +kernel, by decide +kernel, by decide +kernel, by decide⟩, Or.inr ⟨by decide, by decide +kernel, List.mem_of_getElem? (i := 448) (by decide +kernel), List.mem_of_getElem? (i := 3) (by decide +kernel)⟩⟩
set_option maxRecDepth 100000 in
theorem mk_50 : x_MOk (x_mt 50) := ⟨List.mem_of_getElem? (i := 454) rfl, List.mem_of_getElem? (i := 43) (by decide +kernel), ⟨by decide +kernel, by decide +kernel, by decide +kernel, by decide +kernel, by decide⟩, Or.inr ⟨by decide, by decide +kernel, List.mem_of_getElem? (i := 453) (by decide +kernel), List.mem_of_getElem? (i := 4) (by decide +kernel)⟩⟩
set_option maxRecDepth 100000 in
theorem mk_51 : x_MOk (x_mt 51) := ⟨List.mem_of_getElem? (i := 458) rfl, List.mem_of_getElem? (i := 45) (by decide +kernel), ⟨by decide +kernel, by decide +kernel, by decide +kernel, by decide +kernel, by decide⟩, Or.inr ⟨by decide, by decide +kernel, List.mem_of_getElem? (i := 456) (by decide +kernel), List.mem_of_getElem? (i := 457) (by decide +kernel)⟩⟩
set_option maxRecDepth 100000 in
theorem mk_52 : x_MOk (x_mt 52) := ⟨List.mem_of_getElem? (i := 466) rfl, List.mem_of_getElem? (i := 45) (by decide +kernel), ⟨by decide +kernel, by decide +kernel, by decide +kernel, by decide +kernel, by decide⟩, Or.inr ⟨by decide, by decide +kernel, List.mem_of_getElem? (i := 464) (by decide +kernel), List.mem_of_getElem? (i := 465) (by decide +kernel)⟩⟩
set_option maxRecDepth 100000 in
theorem mk_53 : x_MOk (x_mt 53) := ⟨List.mem_of_getElem? (i := 470) rfl, List.mem_of_getElem? (i := 47) (by decide +kernel), ⟨by decide +kernel, by decide +kernel, by decide +kernel, by decide +kernel, by decide⟩, Or.inr ⟨by decide, by decide +kernel, List.mem_of_getElem? (i := 468) (by decide +kernel), List.mem_of_getElem? (i := 469) (by decide +kernel)⟩⟩
set_option maxRecDepth 100000 in
theorem mk_54 : x_MOk (x_mt 54) := ⟨List.mem_of_getElem? (i := 475) rfl, List.mem_of_getElem? (i := 47) (by decide +kernel), ⟨by decide +kernel, by decide +kernel, by decide +kernel, by decide +kernel, by decide⟩, Or.inr ⟨by decide, by decide +kernel, List.mem_of_getElem? (i := 473) (by decide +kernel), List.mem_of_getElem? (i := 474) (by decide +kernel)⟩⟩
set_option maxRecDepth 100000 in
theorem mk_55 : x_MOk (x_mt 55) := ⟨List.mem_of_getElem? (i := 481) rfl, List.mem_of_getElem? (i := 47) (by decide +kernel), ⟨by decide +kernel, by decide +kernel, by decide +kernel, by decide +kernel, by decide⟩, Or.inr ⟨by decide, by decide +kernel, List.mem_of_getElem? (i := 479) (by decide +kernel), List.mem_of_getElem? (i := 480) (by decide +kernel)⟩⟩
set_option maxRecDepth 100000 in
theorem mk_56 : x_MOk (x_mt 56) := ⟨List.mem_of_getElem? (i := 486) rfl, List.mem_of_getElem? (i := 45) (by decide +kernel), ⟨by decide +kernel, by decide +kernel, by decide +kernel, by decide +kernel, by decide⟩, Or.inr ⟨by decide, by decide +kernel, List.mem_of_getElem? (i := 484) (by decide +kernel), List.mem_of_getElem? (i := 485) (by decide +kernel)⟩⟩
set_option maxRecDepth 100000 in
theorem mk_57 : x_MOk (x_mt 57) := ⟨List.mem_of_getElem? (i := 493) rfl, List.mem_of_getElem? (i := 47) (by decide +kernel), ⟨by decide +kernel, by decide +kernel, by decide +kernel, by decide +kernel, by decide⟩, Or.inr ⟨by decide, by decide +kernel, List.mem_of_getElem? (i := 491) (by decide +kernel), List.mem_of_getElem? (i := 492) (by decide +kernel)⟩⟩
set_option maxRecDepth 100000 in
theorem mk_58 : x_MOk (x_mt 58) := ⟨List.mem_of_getElem? (i := 498) rfl, List.mem_of_getElem? (i := 45) (by decide +kernel), ⟨by decide +kernel, by decide +kernel, by decide +kernel, by decide +kernel, by decide⟩, Or.inr ⟨by decide, by decide +kernel, List.mem_of_getElem? (i := 496) (by decide +kernel), List.mem_of_getElem? (i := 497) (by decide +kernel)⟩⟩
set_option maxRecDepth 100000 in
theorem mk_59 : x_MOk (x_mt 59) := ⟨List.mem_of_getElem? (i := 503) rfl, List.mem_of_getElem? (i := 43) (by decide +kernel), ⟨by decide +kernel, by decide +kernel, by decide +kernel, by decide +kernel, by decide⟩, Or.inr ⟨by decide, by decide +kernel, List.mem_of_getElem? (i := 501) (by decide +kernel), List.mem_of_getElem? (i := 502) (by decide +kernel)⟩⟩
set_option maxRecDepth 100000 in
theorem mk_60 : x_MOk (x_mt 60) := ⟨List.mem_of_getElem? (i := 508) rfl, List.mem_of_getElem? (i := 43) (by decide +kernel), ⟨by decide +kernel, by decide +kernel, by decide +kernel, by decide +kernel, by decide⟩, Or.inr ⟨by decide, by decide +kernel, List.mem_of_getElem? (i := 506) (by decide +kernel), List.mem_of_getElem? (i := 507) (by decide +kernel)⟩⟩
set_option maxRecDepth 100000 in
theorem mk_61 : x_MOk (x_mt 61) := ⟨List.mem_of_getElem? (i := 512) rfl, List.mem_of_getElem? (i := 43) (by decide +kernel), ⟨by decide +kernel, by decide +kernel, by decide +kernel, by decide +kernel, by decide⟩, Or.inr ⟨by decide, by decide +kernel, List.mem_of_getElem? (i := 510) (by decide +kernel), List.mem_of_getElem? (i := 511) (by decide +kernel)⟩⟩
set_option maxRecDepth 100000 in
theorem mk_62 : x_MOk (x_mt 62) := ⟨List.mem_of_getElem? (i := 517) rfl, List.mem_of_getElem? (i := 43) (by decide +kernel), ⟨by decide +kernel, by decide +kernel, by decide +kernel, by decide +kernel, by decide⟩, Or.inr ⟨by decide, by decide +kernel, List.mem_of_getElem? (i := 515) (by decide +kernel), List.mem_of_getElem? (i := 516) (by decide +kernel)⟩⟩
set_option maxRecDepth 100000 in
theorem mk_63 : x_MOk (x_mt 63) := ⟨List.mem_of_getElem? (i := 520) rfl, List.mem_of_getElem? (i := 43) (by decide +kernel), ⟨by decide +kernel, by decide +kernel, by decide +kernel, by decide +kernel, by decide⟩, Or.inl ⟨rfl, List.mem_of_getElem? (i := 519) (by decide +kernel)⟩⟩
set_option maxRecDepth 100000 in
theorem mk_64 : x_MOk (x_mt 64) := ⟨List.mem_of_getElem? (i := 524) rfl, List.mem_of_getElem? (i := 43) (by decide +kernel), ⟨by decide +kernel, by decide +kernel, by decide +kernel, by decide +kernel, by decide⟩, Or.inr ⟨by decide, by decide +kernel, List.mem_of_getElem? (i := 522) (by decide +kernel), List.mem_of_getElem? (i := 523) (by decide +kernel)⟩⟩
set_option maxRecDepth 100000 in
theorem mk_65 : x_MOk (x_mt 65) := ⟨List.mem_of_getElem? (i := 527) rfl, List.mem_of_getElem? (i := 43) (by decide +kernel), ⟨by decide +kernel, by decide +kernel, by decide +kernel, by decide +kernel, by decide⟩, Or.inl ⟨rfl, List.mem_of_getElem? (i := 526) (by decide +kernel)⟩⟩
set_option maxRecDepth 100000 in
theorem mk_66 : x_MOk (x_mt 66) := ⟨List.mem_of_getElem? (i := 531) rfl, List.mem_of_getElem? (i := 48) (by decide +kernel), ⟨by decide +kernel, by decide +kernel, by decide +kernel, by decide +kernel, by decide⟩, Or.inr ⟨by decide, by decide +kernel, List.mem_of_getElem? (i := 529) (by decide +kernel), List.mem_of_getElem? (i := 530) (by decide +kernel)⟩⟩
set_option maxRecDepth 100000 in
theorem mk_67 : x_MOk (x_mt 67) := ⟨List.mem_of_getElem? (i := 538) rfl, List.mem_of_getElem? (i := 48) (by decide +kernel), ⟨by decide +kernel, by decide +kernel, by decide +kernel, by decide +kernel, by decide⟩, Or.inr ⟨by decide, by decide +kernel, List.mem_of_getElem? (i := 536) (by decide +kernel), List.mem_of_getElem? (i := 537) (by decide +kernel)⟩⟩
set_option maxRecDepth 100000 in
theorem mk_68 : x_MOk (x_mt 68) := ⟨List.mem_of_getElem? (i := 542) rfl, List.mem_of_getElem? (i := 48) (by decide +kernel), ⟨by decide +kernel, by decide +kernel, by decide +kernel, by decide +kernel, by decide⟩, Or.inr ⟨by decide, by decide +kernel, List.mem_of_getElem? (i := 540) (by decide +kernel), List.mem_of_getElem? (i := 541) (by decide +kernel)⟩⟩
set_option maxRecDepth 100000 in
theorem mk_69 : x_MOk (x_mt 69) := ⟨List.mem_of_getElem? (i := 548) rfl, List.mem_of_getElem? (i := 48) (by decide +kernel), ⟨by decide +kernel, by decide +kernel, by decide +kernel, by decide +kernel, by decide⟩, Or.inr ⟨by decide, by decide +kernel, List.mem_of_getElem? (i := 546) (by decide +kernel), List.mem_of_getElem? (i := 547) (by decide +kernel)⟩⟩
set_option maxRecDepth 100000 in
theorem mk_70 : x_MOk (x_mt 70) := ⟨List.mem_of_getElem? (i := 552) rfl, List.mem_of_getElem? (i := 48) (by decide +kernel), ⟨by decide +kernel, by decide +kernel, by decide +kernel, by decide +kernel, by decide⟩, Or.inr ⟨by decide, by decide +kernel, List.mem_of_getElem? (i := 550) (by decide +kernel), List.mem_of_getElem? (i := 551) (by decide +kernel)⟩⟩
set_option maxRecDepth 100000 in
theorem mk_71 : x_MOk (x_mt 71) := ⟨List.mem_of_getElem? (i := 556) rfl, List.mem_of_getElem? (i := 48) (by decide +kernel), ⟨by decide +kernel, by decide +kernel, by decide +kernel, by decide +kernel, by decide⟩, Or.inr ⟨by decide, by decide +kernel, List.mem_of_getElem? (i := 554) (by decide +kernel), List.mem_of_getElem? (i := 555) (by decide +kernel)⟩⟩
set_option maxRecDepth 100000 in
theorem mk_72 : x_MOk (x_mt 72) := ⟨List.mem_of_getElem? (i := 560) rfl, List.mem_of_getElem? (i := 48) (by decide +kernel), ⟨by decide +kernel, by decide +kernel, by decide +kernel, by decide +kernel, by decide⟩, Or.inr ⟨by decide, by decide +kernel, List.mem_of_getElem? (i := 558) (by decide +kernel), List.mem_of_getElem? (i := 559) (by decide +kernel)⟩⟩
set_option maxRecDepth 100000 in
theorem mk_73 : x_MOk (x_mt 73) := ⟨List.mem_of_getElem? (i := 564) rfl, List.mem_of_getElem? (i := 43) (by decide +kernel), ⟨by decide +kernel, by decide +kernel, by decide +kernel, by decide +kernel, by decide⟩, Or.inr ⟨by decide, by decide +kernel, List.mem_of_getElem? (i := 562) (by decide +kernel), List.mem_of_getElem? (i := 563) (by decide +kernel)⟩⟩
set_option maxRecDepth 100000 in
theorem mk_74 : x_MOk (x_mt 74) := ⟨List.mem_of_getElem? (i := 568) rfl, List.mem_of_getElem? (i := 49) (by decide +kernel), ⟨by decide +kernel, by decide +kernel, by decide +kernel, by decide +kernel, by decide⟩, Or.inr ⟨by decide, by decide +kernel, List.mem_of_getElem? (i := 566) (by decide +kernel), List.mem_of_getElem? (i := 567) (by decide +kernel)⟩⟩
set_option maxRecDepth 100000 in
theorem mk_75 : x_MOk (x_mt 75) := ⟨List.mem_of_getElem? (i := 572) rfl, List.mem_of_getElem? (i := 43) (by decide +kernel), ⟨by decide +kernel, by decide +kernel, by decide +kernel, by decide +kernel, by decide⟩, Or.inr ⟨by decide, by decide +kernel, List.mem_of_getElem? (i := 570) (by decide +kernel), List.mem_of_getElem? (i := 571) (by decide +kernel)⟩⟩
set_option maxRecDepth 100000 in
theorem mk_76 : x_MOk (x_mt 76) := ⟨List.mem_of_getElem? (i := 576) rfl, List.mem_of_getElem? (i := 43) (by decide +kernel), ⟨by decide +kernel, by decide +kernel, by decide +kernel, by decide +kernel, by decide⟩, Or.inr ⟨by decide, by decide +kernel, List.mem_of_getElem? (i := 574) (by decide +kernel), List.mem_of_getElem? (i := 575) (by decide +kernel)⟩⟩
set_option maxRecDepth 100000 in
theorem mk_77 : x_MOk (x_mt 77) := ⟨List.mem_of_getElem? (i := 580) rfl, List.mem_of_getElem? (i := 49) (by decide +kernel), ⟨by decide +kernel, by decide +kernel, by decide +kernel, by decide +kernel, by decide⟩, Or.inr ⟨by decide, by decide +kernel, List.mem_of_getElem? (i := 578) (by decide +kernel), List.mem_of_getElem? (i := 579) (by decide +kernel)⟩⟩
set_option maxRecDepth 100000 in
theorem mk_78 : x_MOk (x_mt 78) := ⟨List.mem_of_getElem? (i := 585) rfl, List.mem_of_getElem? (i := 43) (by decide +kernel), ⟨by decide +kernel, by decide +kernel, by decide +kernel, by decide +kernel, by decide⟩, Or.inr ⟨by decide, by decide +kernel, List.mem_of_getElem? (i := 583) (by decide +kernel), List.mem_of_getElem? (i := 584) (by decide +kernel)⟩⟩
set_option maxRecDepth 100000 in
theorem mk_79 : x_MOk (x_mt 79) := ⟨List.mem_of_getElem? (i := 589) rfl, List.mem_of_getElem? (i := 43) (by decide +kernel), ⟨by decide +kernel, by decide +kernel, by decide +kernel, by decide +kernel, by decide⟩, Or.inr ⟨by decide, by decide +kernel, List.mem_of_getElem? (i := 587) (by decide +kernel), List.mem_of_getElem? (i := 588) (by decide +kernel)⟩⟩
set_option maxRecDepth 100000 in
theorem mk_80 : x_MOk (x_mt 80) := ⟨List.mem_of_getElem? (i := 593) rfl, List.mem_of_getElem? (i := 43) (by decide +kernel), ⟨by decide +kernel, by decide +kernel, by decide +kernel, by decide +kernel, by decide⟩, Or.inl ⟨rfl, List.mem_of_getElem? (i := 592) (by decide +kernel)⟩⟩
set_option maxRecDepth 100000 in
theorem mk_81 : x_MOk (x_mt 81) := ⟨List.mem_of_getElem? (i := 597) rfl, List.mem_of_getElem? (i := 43) (by decide +kernel), ⟨by decide +kernel, by decide +kernel, by decide +kernel, by decide +kernel, by decide⟩, Or.inr ⟨by decide, by decide +kernel, List.mem_of_getElem? (i := 595) (by decide +kernel), List.mem_of_getElem? (i := 596) (by decide +kernel)⟩⟩
set_option maxRecDepth 100000 in
theorem mk_82 : x_MOk (x_mt 82) := ⟨List.mem_of_getElem? (i := 601) rfl, List.mem_of_getElem? (i := 44) (by decide +kernel), ⟨by decide +kernel, by decide +kernel, by decide +kernel, by decide +kernel, by decide⟩, Or.inr ⟨by decide, by decide +kernel, List.mem_of_getElem? (i := 599) (by decide +kernel), List.mem_of_getElem? (i := 600) (by decide +kernel)⟩⟩
set_option maxRecDepth 100000 in
theorem mk_83 : x_MOk (x_mt 83) := ⟨List.mem_of_getElem? (i := 606) rfl, List.mem_of_getElem? (i := 54) (by decide +kernel), ⟨by decide +kernel, by decide +kernel, by decide +kernel, by decide +kernel, by decide⟩, Or.inl ⟨rfl, List.mem_of_getElem? (i := 605) (by decide +kernel)⟩⟩
set_option maxRecDepth 100000 in
theorem mk_84 : x_MOk (x_mt 84) := ⟨List.mem_of_getElem? (i := 610) rfl, List.mem_of_getElem? (i := 43) (by decide +kernel), ⟨by decide +kernel, by decide +kernel, by decide +kernel, by decide +kernel, by decide⟩, Or.inr ⟨by decide, by decide +kernel, List.mem_of_getElem? (i := 608) (by decide +kernel), List.mem_of_getElem? (i := 609) (by decide +kernel)⟩⟩
set_option maxRecDepth 100000 in
theorem mk_85 : x_MOk (x_mt 85) := ⟨List.mem_of_getElem? (i := 614) rfl, List.mem_of_getElem? (i := 44) (by decide +kernel), ⟨by decide +kernel, by decide +kernel, by decide +kernel, by decide +kernel, by decide⟩, Or.inr ⟨by decide, by decide +kernel, List.mem_of_getElem? (i := 612) (by decide +kernel), List.mem_of_getElem? (i := 613) (by decide +kernel)⟩⟩
set_option maxRecDepth 100000 in
theorem mk_86 : x_MOk (x_mt 86) := ⟨List.mem_of_getElem? (i := 618) rfl, List.mem_of_getElem? (i := 43) (by decide +kernel), ⟨by decide +kernel, by decide +kernel, by decide +kernel, by decide +kernel, by decide⟩, Or.inr ⟨by decide, by decide +kernel, List.mem_of_getElem? (i := 616) (by decide +kernel), List.mem_of_getElem? (i := 617) (by decide +kernel)⟩⟩
set_option maxRecDepth 100000 in
theorem mk_87 : x_MOk (x_mt 87) := ⟨List.mem_of_getElem? (i := 622) rfl, List.mem_of_getElem? (i := 44) (by decide +kernel), ⟨by decide +kernel, by decide +kernel, by decide +kernel, by decide +kernel, by decide⟩, Or.inr ⟨by decide, by decide +kernel, List.mem_of_getElem? (i := 620) (by decide +kernel), List.mem_of_getElem? (i := 621) (by decide +kernel)⟩⟩
set_option maxRecDepth 100000 in
theorem mk_88 : x_MOk (x_mt 88) := ⟨List.mem_of_getElem? (i := 626) rfl, List.mem_of_getElem? (i := 44) (by decide +kernel), ⟨by decide +kernel, by decide +kernel, by decide +kernel, by decide +kernel, by decide⟩, Or.inr ⟨by decide, by decide +kernel, List.mem_of_getElem? (i := 624) (by decide +kernel), List.mem_of_getElem? (i := 625) (by decide +kernel)⟩⟩
set_option maxRecDepth 100000 in
theorem mk_89 : x_MOk (x_mt 89) := ⟨List.mem_of_getElem? (i := 630) rfl, List.mem_of_getElem? (i := 43) (by decide +kernel), ⟨by decide +kernel, by decide +kernel, by decide +kernel, by decide +kernel, by decide⟩, Or.inr ⟨by decide, by decide +kernel, List.mem_of_getElem? (i := 628) (by decide +kernel), List.mem_of_getElem? (i := 629) (by decide +kernel)⟩⟩
set_option maxRecDepth 100000 in
theorem mk_90 : x_MOk (x_mt 90) := ⟨List.mem_of_getElem? (i := 634) rfl, List.mem_of_getElem? (i := 43) (by decide +kernel), ⟨by decide +kernel, by decide +kernel, by decide +kernel, by decide +kernel, by decide⟩, Or.inr ⟨by decide, by decide +kernel, List.mem_of_getElem? (i := 632) (by decide +kernel), List.mem_of_getElem? (i := 633) (by decide +kernel)⟩⟩
set_option maxRecDepth 100000 in
theorem mk_91 : x_MOk (x_mt 91) := ⟨List.mem_of_getElem? (i := 640) rfl, List.mem_of_getElem? (i := 43) (by decide +kernel), ⟨by decide +kernel, by decide +kernel, by decide +kernel, by decide +kernel, by decide⟩, Or.inr ⟨by decide, by decide +kernel, List.mem_of_getElem? (i := 638) (by decide +kernel), List.mem_of_getElem? (i := 639) (by decide +kernel)⟩⟩
set_option maxRecDepth 100000 in
theorem mk_92 : x_MOk (x_mt 92) := ⟨List.mem_of_getElem? (i := 644) rfl, List.mem_of_getElem? (i := 43) (by decide +kernel), ⟨by decide +kernel, by decide +kernel, by decide +kernel, by decide +kernel, by decide⟩, Or.inr ⟨by decide, by decide +kernel, List.mem_of_getElem? (i := 643) (by decide +kernel), List.mem_of_getElem? (i := 5) (by decide +kernel)⟩⟩
set_option maxRecDepth 100000 in
theorem mk_93 : x_MOk (x_mt 93) := ⟨List.mem_of_getElem? (i := 648) rfl, List.mem_of_getElem? (i := 43) (by decide +kernel), ⟨by decide +kernel, by decide +kernel, by decide +kernel, by decide +kernel, by decide⟩, Or.inr ⟨by decide, by decide +kernel, List.mem_of_getElem? (i := 647) (by decide +kernel), List.mem_of_getElem? (i := 6) (by decide +kernel)⟩⟩
set_option maxRecDepth 100000 in
theorem mk_94 : x_MOk (x_mt 94) := ⟨List.mem_of_getElem? (i := 652) rfl, List.mem_of_getElem? (i := 43) (by decide +kernel), ⟨by decide +kernel, by decide +kernel, by decide +kernel, by decide +kernel, by decide⟩, Or.inr ⟨by decide, by decide +kernel, List.mem_of_getElem? (i := 651) (by decide +kernel), List.mem_of_getElem? (i := 7) (by decide +kernel)⟩⟩
set_option maxRecDepth 100000 in
theorem mk_95 : x_MOk (x_mt 95) := ⟨List.mem_of_getElem? (i := 656) rfl, List.mem_of_getElem? (i := 43) (by decide +kernel), ⟨by decide +kernel, by decide +kernel, by decide +kernel, by decide +kernel, by decide⟩, Or.inr ⟨by decide, by decide +kernel, List.mem_of_getElem? (i := 655) (by decide +kernel), List.mem_of_getElem? (i := 8) (by decide +kernel)⟩⟩
set_option maxRecDepth 100000 in
theorem mk_96 : x_MOk (x_mt 96) := ⟨List.mem_of_getElem? (i := 661) rfl, List.mem_of_getElem? (i := 43) (by decide +kernel), ⟨by decide +kernel, by decide +kernel, by decide +kernel, by decide +kernel, by decide⟩, Or.inr ⟨by decide, by decide +kernel, List.mem_of_getElem? (i := 659) (by decide +kernel), List.mem_of_getElem? (i := 660) (by decide +kernel)⟩⟩
set_option maxRecDepth 100000 in
theorem mk_97 : x_MOk (x_mt 97) := ⟨List.mem_of_getElem? (i := 665) rfl, List.mem_of_getElem? (i := 43) (by decide +kernel), ⟨by decide +kernel, by decide +kernel, by decide +kernel, by decide +kernel, by decide⟩, Or.inr ⟨by decide, by decide +kernel, List.mem_of_getElem? (i := 663) (by decide +kernel), List.mem_of_getElem? (i := 664) (by decide +kernel)⟩⟩
set_option maxRecDepth 100000 in
theorem mk_98 : x_MOk (x_mt 98) := ⟨List.mem_of_getElem? (i := 669) rfl, List.mem_of_getElem? (i := 43) (by decide +kernel), ⟨by decide +kernel, by decide +kernel, by decide +kernel, by decide +kernel, by decide⟩, Or.inr ⟨by decide, by decide +kernel, List.mem_of_getElem? (i := 667) (by decide +kernel), List.mem_of_getElem? (i := 668) (by decide +kernel)⟩⟩
set_option maxRecDepth 100000 in
theorem mk_99 : x_MOk (x_mt 99) := ⟨List.mem_of_getElem? (i := 673) rfl, List.mem_of_getElem? (i := 43) (by decide +kernel), ⟨by decide +kernel, by decide +kernel, by decide +kernel, by decide +kernel, by decide⟩, Or.inr ⟨by decide, by decide +kernel, List.mem_of_getElem? (i := 671) (by decide +kernel), List.mem_of_getElem? (i := 672) (by decide +kernel)⟩⟩
set_option maxRecDepth 100000 in
theorem mk_100 : x_MOk (x_mt 100) := ⟨List.mem_of_getElem? (i := 677) rfl, List.mem_of_getElem? (i := 43) (by decide +kernel), ⟨by decide +kernel, by decide +kernel, by decide +kernel, by decide +kernel, by decide⟩, Or.inr ⟨by decide, by decide +kernel, List.mem_of_getElem? (i := 675) (by decide +kernel), List.mem_of_getElem? (i := 676) (by decide +kernel)⟩⟩
set_option maxRecDepth 100000 in
theorem mk_101 : x_MOk (x_mt 101) := ⟨List.mem_of_getElem? (i := 681) rfl, List.mem_of_getElem? (i := 45) (by decide +kernel), ⟨by decide +kernel, by decide +kernel, by decide +kernel, by decide +kernel, by decide⟩, Or.inr ⟨by decide, by decide +kernel, List.mem_of_getElem? (i := 679) (by decide +kernel), List.mem_of_getElem? (i := 680) (by decide +kernel)⟩⟩
set_option maxRecDepth 100000 in
theorem mk_102 : x_MOk (x_mt 102) := ⟨List.mem_of_getElem? (i := 779) rfl, List.mem_of_getElem? (i := 50) (by decide +kernel), ⟨by decide +kernel, by decide +kernel, by decide +kernel, by decide +kernel, by decide⟩, Or.inr ⟨by decide, by decide +kernel, List.mem_of_getElem? (i := 777) (by decide +kernel), List.mem_of_getElem? (i := 778) (by decide +kernel)⟩⟩
set_option maxRecDepth 100000 in
theorem mk_103 : x_MOk (x_mt 103) := ⟨List.mem_of_getElem? (i := 782) rfl, List.mem_of_getElem? (i := 50) (by decide +kernel), ⟨by decide +kernel, by decide +kernel, by decide +kernel, by decide +kernel, by decide⟩, Or.inl ⟨rfl, List.mem_of_getElem? (i := 781) (by decide +kernel)⟩⟩
set_option maxRecDepth 100000 in
theorem mk_104 : x_MOk (x_mt 104) := ⟨List.mem_of_getElem? (i := 785) rfl, List.mem_of_getElem? (i := 50) (by decide +kernel), ⟨by decide +kernel, by decide +kernel, by decide +kernel, by decide +kernel, by decide⟩, Or.inl ⟨rfl, List.mem_of_getElem? (i := 784) (by decide +kernel)⟩⟩
set_option maxRecDepth 100000 in
theorem mk_105 : x_MOk (x_mt 105) := ⟨List.mem_of_getElem? (i := 788) rfl, List.mem_of_getElem? (i := 50) (by decide +kernel), ⟨by decide +kernel, by decide +kernel, by decide +kernel, by decide +kernel, by decide⟩, Or.inl ⟨rfl, List.mem_of_getElem? (i := 787) (by decide +kernel)⟩⟩
set_option maxRecDepth 100000 in
theorem mk_106 : x_MOk (x_mt 106) := ⟨List.mem_of_getElem? (i := 792) rfl, List.mem_of_getElem? (i := 50) (by decide +kernel), ⟨by decide +kernel, by decide +kernel, by decide +kernel, by decide +kernel, by decide⟩, Or.inr ⟨by decide, by decide +kernel, List.mem_of_getElem? (i := 791) (by decide +kernel), List.mem_of_getElem? (i := 9) (by decide +kernel)⟩⟩
set_option maxRecDepth 100000 in
theorem mk_107 : x_MOk (x_mt 107) := ⟨List.mem_of_getElem? (i := 796) rfl, List.mem_of_getElem? (i := 50) (by decide +kernel), ⟨by decide +kernel, by decide +kernel, by decide +kernel, by decide +kernel, by decide⟩, Or.inr ⟨by decide, by decide +kernel, List.mem_of_getElem? (i := 795) (by decide +kernel), List.mem_of_getElem? (i := 10) (by decide +kernel)⟩⟩
set_option maxRecDepth 100000 in
theorem mk_108 : x_MOk (x_mt 108) := ⟨List.mem_of_getElem? (i := 800) rfl, List.mem_of_getElem? (i := 50) (by decide +kernel), ⟨by decide +kernel, by decide +kernel, by decide +kernel, by decide +kernel, by decide⟩, Or.inr ⟨by decide, by decide +kernel, List.mem_of_getElem? (i := 799) (by decide +kernel), List.mem_of_getElem? (i := 11) (by decide +kernel)⟩⟩
set_option maxRecDepth 100000 in
theorem mk_109 : x_MOk (x_mt 109) := ⟨List.mem_of_getElem? (i := 804) rfl, List.mem_of_getElem? (i := 50) (by decide +kernel), ⟨by decide +kernel, by decide +kernel, by decide +kernel, by decide +kernel, by decide⟩, Or.inr ⟨by decide, by decide +kernel, List.mem_of_getElem? (i := 803) (by decide +kernel), List.mem_of_getElem? (i := 12) (by decide +kernel)⟩⟩
set_option maxRecDepth 100000 in
theorem mk_110 : x_MOk (x_mt 110) := ⟨List.mem_of_getElem? (i := 808) rfl, List.mem_of_getElem? (i := 50) (by decide +kernel), ⟨by decide +kernel, by decide +kernel, by decide +kernel, by decide +kernel, by decide⟩, Or.inr ⟨by decide, by decide +kernel, List.mem_of_getElem? (i := 807) (by decide +kernel), List.mem_of_getElem? (i := 13) (by decide +kernel)⟩⟩
set_option maxRecDepth 100000 in
theorem mk_111 : x_MOk (x_mt 111) := ⟨List.mem_of_getElem? (i := 812) rfl, List.mem_of_getElem? (i := 50) (by decide +kernel), ⟨by decide +kernel, by decide +kernel, by decide +kernel, by decide +kernel, by decide⟩, Or.inr ⟨by decide, by decide +kernel, List.mem_of_getElem? (i := 811) (by decide +kernel), List.mem_of_getElem? (i := 14) (by decide +kernel)⟩⟩
set_option maxRecDepth 100000 in
theorem mk_112 : x_MOk (x_mt 112) := ⟨List.mem_of_getElem? (i := 816) rfl, List.mem_of_getElem? (i := 50) (by decide +kernel), ⟨by decide +kernel, by decide +kernel, by decide +kernel, by decide +kernel, by decide⟩, Or.inr ⟨by decide, by decide +kernel, List.mem_of_getElem? (i := 814) (by decide +kernel), List.mem_of_getElem? (i := 815) (by decide +kernel)⟩⟩
set_option maxRecDepth 100000 in
theorem mk_113 : x_MOk (x_mt 113) := ⟨List.mem_of_getElem? (i := 820) rfl, List.mem_of_getElem? (i := 50) (by decide +kernel), ⟨by decide +kernel, by decide +kernel, by decide +kernel, by decide +kernel, by decide⟩, Or.inr ⟨by decide, by decide +kernel, List.mem_of_getElem? (i := 819) (by decide +kernel), List.mem_of_getElem? (i := 15) (by decide +kernel)⟩⟩
set_option maxRecDepth 100000 in
theorem mk_114 : x_MOk (x_mt 114) := ⟨List.mem_of_getElem? (i := 824) rfl, List.mem_of_getElem? (i := 50) (by decide +kernel), ⟨by decide +kernel, by decide +kernel, by decide +kernel, by decide +kernel, by decide⟩, Or.inr ⟨by decide, by decide +kernel, List.mem_of_getElem? (i := 823) (by decide +kernel), List.mem_of_getElem? (i := 16) (by decide +kernel)⟩⟩
set_option maxRecDepth 100000 in
theorem mk_115 : x_MOk (x_mt 115) := ⟨List.mem_of_getElem? (i := 828) rfl, List.mem_of_getElem? (i := 50) (by decide +kernel), ⟨by decide +kernel, by decide +kernel, by decide +kernel, by decide +kernel, by decide⟩, Or.inr ⟨by decide, by decide +kernel, List.mem_of_getElem? (i := 827) (by decide +kernel), List.mem_of_getElem? (i := 17) (by decide +kernel)⟩⟩
set_option maxRecDepth 100000 in
theorem mk_116 : x_MOk (x_mt 116) := ⟨List.mem_of_getElem? (i := 832) rfl, List.mem_of_getElem? (i := 50) (by decide +kernel), ⟨by decide +kernel, by decide +kernel, by decide +kernel, by decide +kernel, by decide⟩, Or.inr ⟨by decide, by decide +kernel, List.mem_of_getElem? (i := 831) (by decide +kernel), List.mem_of_getElem? (i := 18) (by decide +kernel)⟩⟩
set_option maxRecDepth 100000 in
theorem mk_117 : x_MOk (x_mt 117) := ⟨List.mem_of_getElem? (i := 836) rfl, List.mem_of_getElem? (i := 50) (by decide +kernel), ⟨by decide +kernel, by decide +kernel, by decide +kernel, by decide +kernel, by decide⟩, Or.inr ⟨by decide, by decide +kernel, List.mem_of_getElem? (i := 835) (by decide +kernel), List.mem_of_getElem? (i := 19) (by decide +kernel)⟩⟩
set_option maxRecDepth 100000 in
theorem mk_118 : x_MOk (x_mt 118) := ⟨List.mem_of_getElem? (i := 839) rfl, List.mem_of_getElem? (i := 50) (by decide +kernel), ⟨by decide +kernel, by decide +kernel, by decide +kernel, by decide +kernel, by decide⟩, Or.inl ⟨rfl, List.mem_of_getElem? (i := 838) (by decide +kernel)⟩⟩
set_option maxRecDepth 100000 in
theorem mk_119 : x_MOk (x_mt 119) := ⟨List.mem_of_getElem? (i := 843) rfl, List.mem_of_getElem? (i := 50) (by decide +kernel), ⟨by decide +kernel, by decide +kernel, by decide +kernel, by decide +kernel, by decide⟩, Or.inr ⟨by decide, by decide +kernel, List.mem_of_getElem? (i := 842) (by decide +kernel), List.mem_of_getElem? (i := 20) (by decide +kernel)⟩⟩
set_option maxRecDepth 100000 in
theorem mk_120 : x_MOk (x_mt 120) := ⟨List.mem_of_getElem? (i := 847) rfl, List.mem_of_getElem? (i := 50) (by decide +kernel), ⟨by decide +kernel, by decide +kernel, by decide +kernel, by decide +kernel, by decide⟩, Or.inr ⟨by decide, by decide +kernel, List.mem_of_getElem? (i := 846) (by decide +kernel), List.mem_of_getElem? (i := 21) (by decide +kernel)⟩⟩
set_option maxRecDepth 100000 in
theorem mk_121 : x_MOk (x_mt 121) := ⟨List.mem_of_getElem? (i := 850) rfl, List.mem_of_getElem? (i := 50) (by decide +kernel), ⟨by decide +kernel, by decide +kernel, by decide +kernel, by decide +kernel, by decide⟩, Or.inl ⟨rfl, List.mem_of_getElem? (i := 849) (by decide +kernel)⟩⟩
set_option maxRecDepth 100000 in
theorem mk_122 : x_MOk (x_mt 122) := ⟨List.mem_of_getElem? (i := 854) rfl, List.mem_of_getElem? (i := 50) (by decide +kernel), ⟨by decide +kernel, by decide +kernel, by decide +kernel, by decide +kernel, by decide⟩, Or.inr ⟨by decide, by decide +kernel, List.mem_of_getElem? (i := 853) (by decide +kernel), List.mem_of_getElem? (i := 22) (by decide +kernel)⟩⟩
set_option maxRecDepth 100000 in
theorem mk_123 : x_MOk (x_mt 123) := ⟨List.mem_of_getElem? (i := 858) rfl, List.mem_of_getElem? (i := 50) (by decide +kernel), ⟨by decide +kernel, by decide +kernel, by decide +kernel, by decide +kernel, by decide⟩, Or.inr ⟨by decide, by decide +kernel, List.mem_of_getElem? (i := 857) (by decide +kernel), List.mem_of_getElem? (i := 23) (by decide +kernel)⟩⟩
set_option maxRecDepth 100000 in
theorem mk_124 : x_MOk (x_mt 124) := ⟨List.mem_of_getElem? (i := 862) rfl, List.mem_of_getElem? (i := 50) (by decide +kernel), ⟨by decide +kernel, by decide +kernel, by decide +kernel, by decide +kernel, by decide⟩, Or.inr ⟨by decide, by decide +kernel, List.mem_of_getElem? (i := 861) (by decide +kernel), List.mem_of_getElem? (i := 24) (by decide +kernel)⟩⟩
set_option maxRecDepth 100000 in
theorem mk_125 : x_MOk (x_mt 125) := ⟨List.mem_of_getElem? (i := 866) rfl, List.mem_of_getElem? (i := 50) (by decide +kernel), ⟨by decide +kernel, by decide +kernel, by decide +kernel, by decide +kernel, by decide⟩, Or.inr ⟨by decide, by decide +kernel, List.mem_of_getElem? (i := 865) (by decide +kernel), List.mem_of_getElem? (i := 25) (by decide +kernel)⟩⟩
set_option maxRecDepth 100000 in
theorem mk_126 : x_MOk (x_mt 126) := ⟨List.mem_of_getElem? (i := 870) rfl, List.mem_of_getElem? (i := 50) (by decide +kernel), ⟨by decide +kernel, by decide +kernel, by decide +kernel, by decide +kernel, by decide⟩, Or.inr ⟨by decide, by decide +kernel, List.mem_of_getElem? (i := 868) (by decide +kernel), List.mem_of_getElem? (i := 869) (by decide +kernel)⟩⟩
set_option maxRecDepth 100000 in
theorem mk_127 : x_MOk (x_mt 127) := ⟨List.mem_of_getElem? (i := 874) rfl, List.mem_of_getElem? (i := 50) (by decide +kernel), ⟨by decide +kernel, by decide +kernel, by decide +kernel, by decide +kernel, by decide⟩, Or.inr ⟨by decide, by decide +kernel, List.mem_of_getElem? (i := 872) (by decide +kernel), List.mem_of_getElem? (i := 873) (by decide +kernel)⟩⟩
set_option maxRecDepth 100000 in
theorem mk_128 : x_MOk (x_mt 128) := ⟨List.mem_of_getElem? (i := 878) rfl, List.mem_of_getElem? (i := 50) (by decide +kernel), ⟨by decide +kernel, by decide +kernel, by decide +kernel, by decide +kernel, by decide⟩, Or.inr ⟨by decide, by decide +kernel, List.mem_of_getElem? (i := 877) (by decide +kernel), List.mem_of_getElem? (i := 26) (by decide +kernel)⟩⟩
set_option maxRecDepth 100000 in
theorem mk_129 : x_MOk (x_mt 129) := ⟨List.mem_of_getElem? (i := 882) rfl, List.mem_of_getElem? (i := 50) (by decide +kernel), ⟨by decide +kernel, by decide +kernel, by decide +kernel, by decide +kernel, by decide⟩, Or.inr ⟨by decide, by decide +kernel, List.mem_of_getElem? (i := 880) (by decide +kernel), List.mem_of_getElem? (i := 881) (by decide +kernel)⟩⟩
set_option maxRecDepth 100000 in
theorem mk_130 : x_MOk (x_mt 130) := ⟨List.mem_of_getElem? (i := 886) rfl, List.mem_of_getElem? (i := 50) (by decide +kernel), ⟨by decide +kernel, by decide +kernel, by decide +kernel, by decide +kernel, by decide⟩, Or.inr ⟨by decide, by decide +kernel, List.mem_of_getElem? (i := 885) (by decide +kernel), List.mem_of_getElem? (i := 27) (by decide +kernel)⟩⟩
set_option maxRecDepth 100000 in
theorem mk_131 : x_MOk (x_mt 131) := ⟨List.mem_of_getElem? (i := 890) rfl, List.mem_of_getElem? (i := 50) (by decide +kernel), ⟨by decide +kernel, by decide +kernel, by decide +kernel, by decide +kernel, by decide⟩, Or.inr ⟨by decide, by decide +kernel, List.mem_of_getElem? (i := 888) (by decide +kernel), List.mem_of_getElem? (i := 889) (by decide +kernel)⟩⟩
set_option maxRecDepth 100000 in
theorem mk_132 : x_MOk (x_mt 132) := ⟨List.mem_of_getElem? (i := 894) rfl, List.mem_of_getElem? (i := 50) (by decide +kernel), ⟨by decide +kernel, by decide +kernel, by decide +kernel, by decide +kernel, by decide⟩, Or.inr ⟨by decide, by decide +kernel, List.mem_of_getElem? (i := 892) (by decide +kernel), List.mem_of_getElem? (i := 893) (by decide +kernel)⟩⟩
set_option maxRecDepth 100000 in
theorem mk_133 : x_MOk (x_mt 133) := ⟨List.mem_of_getElem? (i := 898) rfl, List.mem_of_getElem? (i := 50) (by decide +kernel), ⟨by decide +kernel, by decide +kernel, by decide +kernel, by decide +kernel, by decide⟩, Or.inr ⟨by decide, by decide +kernel, List.mem_of_getElem? (i := 897) (by decide +kernel), List.mem_of_getElem? (i := 28) (by decide +kernel)⟩⟩
set_option maxRecDepth 100000 in
theorem mk_134 : x_MOk (x_mt 134) := ⟨List.mem_of_getElem? (i := 902) rfl, List.mem_of_getElem? (i := 50) (by decide +kernel), ⟨by decide +kernel, by decide +kernel, by decide +kernel, by decide +kernel, by decide⟩, Or.inr ⟨by decide, by decide +kernel, List.mem_of_getElem? (i := 901) (by decide +kernel), List.mem_of_getElem? (i := 29) (by decide +kernel)⟩⟩
set_option maxRecDepth 100000 in
theorem mk_135 : x_MOk (x_mt 135) := ⟨List.mem_of_getElem? (i := 906) rfl, List.mem_of_getElem? (i := 50) (by decide +kernel), ⟨by decide +kernel, by decide +kernel, by decide +kernel, by decide +kernel, by decide⟩, Or.inr ⟨by decide, by decide +kernel, List.mem_of_getElem? (i := 905) (by decide +kernel), List.mem_of_getElem? (i := 30) (by decide +kernel)⟩⟩
set_option maxRecDepth 100000 in
theorem mk_136 : x_MOk (x_mt 136) := ⟨List.mem_of_getElem? (i := 910) rfl, List.mem_of_getElem? (i := 50) (by decide +kernel), ⟨by decide +kernel, by decide +kernel, by decide +kernel, by decide +kernel, by decide⟩, Or.inr ⟨by decide, by decide +kernel, List.mem_of_getElem? (i := 909) (by decide +kernel), List.mem_of_getElem? (i := 31) (by decide +kernel)⟩⟩
set_option maxRecDepth 100000 in
theorem mk_137 : x_MOk (x_mt 137) := ⟨List.mem_of_getElem? (i := 914) rfl, List.mem_of_getElem? (i := 50) (by decide +kernel), ⟨by decide +kernel, by decide +kernel, by decide +kernel, by decide +kernel, by decide⟩, Or.inr ⟨by decide, by decide +kernel, List.mem_of_getElem? (i := 913) (by decide +kernel), List.mem_of_getElem? (i := 32) (by decide +kernel)⟩⟩
set_option maxRecDepth 100000 in
theorem mk_138 : x_MOk (x_mt 138) := ⟨List.mem_of_getElem? (i := 918) rfl, List.mem_of_getElem? (i := 50) (by decide +kernel), ⟨by decide +kernel, by decide +kernel, by decide +kernel, by decide +kernel, by decide⟩, Or.inr ⟨by decide, by decide +kernel, List.mem_of_getElem? (i := 917) (by decide +kernel), List.mem_of_getElem? (i := 33) (by decide +kernel)⟩⟩
set_option maxRecDepth 100000 in
theorem mk_139 : x_MOk (x_mt 139) := ⟨List.mem_of_getElem? (i := 922) rfl, List.mem_of_getElem? (i := 50) (by decide +kernel), ⟨by decide +kernel, by decide +kernel, by decide +kernel, by decide +kernel, by decide⟩, Or.inr ⟨by decide, by decide +kernel, List.mem_of_getElem? (i := 921) (by decide +kernel), List.mem_of_getElem? (i := 34) (by decide +kernel)⟩⟩
set_option maxRecDepth 100000 in
theorem mk_140 : x_MOk (x_mt 140) := ⟨List.mem_of_getElem? (i := 926) rfl, List.mem_of_getElem? (i := 50) (by decide +kernel), ⟨by decide +kernel, by decide +kernel, by decide +kernel, by decide +kernel, by decide⟩, Or.inr ⟨by decide, by decide +kernel, List.mem_of_getElem? (i := 925) (by decide +kernel), List.mem_of_getElem? (i := 35) (by decide +kernel)⟩⟩
set_option maxRecDepth 100000 in
theorem mk_141 : x_MOk (x_mt 141) := ⟨List.mem_of_getElem? (i := 930) rfl, List.mem_of_getElem? (i := 50) (by decide +kernel), ⟨by decide +kernel, by decide +kernel, by decide +kernel, by decide +kernel, by decide⟩, Or.inr ⟨by decide, by decide +kernel, List.mem_of_getElem? (i := 929) (by decide +kernel), List.mem_of_getElem? (i := 36) (by decide +kernel)⟩⟩
set_option maxRecDepth 100000 in
theorem mk_142 : x_MOk (x_mt 142) := ⟨List.mem_of_getElem? (i := 934) rfl, List.mem_of_getElem? (i := 50) (by decide +kernel), ⟨by decide +kernel, by decide +kernel, by decide +kernel, by decide +kernel, by decide⟩, Or.inr ⟨by decide, by decide +kernel, List.mem_of_getElem? (i := 932) (by decide +kernel), List.mem_of_getElem? (i := 933) (by decide +kernel)⟩⟩
set_option maxRecDepth 100000 in
theorem mk_143 : x_MOk (x_mt 143) := ⟨List.mem_of_getElem? (i := 938) rfl, List.mem_of_getElem? (i := 50) (by decide +kernel), ⟨by decide +kernel, by decide +kernel, by decide +kernel, by decide +kernel, by decide⟩, Or.inr ⟨by decide, by decide +kernel, List.mem_of_getElem? (i := 936) (by decide +kernel), List.mem_of_getElem? (i := 937) (by decide +kernel)⟩⟩
set_option maxRecDepth 100000 in
theorem mk_144 : x_MOk (x_mt 144) := ⟨List.mem_of_getElem? (i := 942) rfl, List.mem_of_getElem? (i := 50) (by decide +kernel), ⟨by decide +kernel, by decide +kernel, by decide +kernel, by decide +kernel, by decide⟩, Or.inr ⟨by decide, by decide +kernel, List.mem_of_getElem? (i := 940) (by decide +kernel), List.mem_of_getElem? (i := 941) (by decide +kernel)⟩⟩
set_option maxRecDepth 100000 in
theorem mk_145 : x_MOk (x_mt 145) := ⟨List.mem_of_getElem? (i := 946) rfl, List.mem_of_getElem? (i := 50) (by decide +kernel), ⟨by decide +kernel, by decide +kernel, by decide +kernel, by decide +kernel, by decide⟩, Or.inr ⟨by decide, by decide +kernel, List.mem_of_getElem? (i := 944) (by decide +kernel), List.mem_of_getElem? (i := 945) (by decide +kernel)⟩⟩
set_option maxRecDepth 100000 in
theorem mk_146 : x_MOk (x_mt 146) := ⟨List.mem_of_getElem? (i := 950) rfl, List.mem_of_getElem? (i := 50) (by decide +kernel), ⟨by decide +kernel, by decide +kernel, by decide +kernel, by decide +kernel, by decide⟩, Or.inr ⟨by decide, by decide +kernel, List.mem_of_getElem? (i := 948) (by decide +kernel), List.mem_of_getElem? (i := 949) (by decide +kernel)⟩⟩
set_option maxRecDepth 100000 in
theorem mk_147 : x_MOk (x_mt 147) := ⟨List.mem_of_getElem? (i := 954) rfl, List.mem_of_getElem? (i := 50) (by decide +kernel), ⟨by decide +kernel, by decide +kernel, by decide +kernel, by decide +kernel, by decide⟩, Or.inr ⟨by decide, by decide +kernel, List.mem_of_getElem? (i := 953) (by decide +kernel), List.mem_of_getElem? (i := 37) (by decide +kernel)⟩⟩
set_option maxRecDepth 100000 in
theorem mk_148 : x_MOk (x_mt 148) := ⟨List.mem_of_getElem? (i := 958) rfl, List.mem_of_getElem? (i := 50) (by decide +kernel), ⟨by decide +kernel, by decide +kernel, by decide +kernel, by decide +kernel, by decide⟩, Or.inr ⟨by decide, by decide +kernel, List.mem_of_getElem? (i := 957) (by decide +kernel), List.mem_of_getElem? (i := 38) (by decide +kernel)⟩⟩
set_option maxRecDepth 100000 in
theorem mk_149 : x_MOk (x_mt 149) := ⟨List.mem_of_getElem? (i := 962) rfl, List.mem_of_getElem? (i := 50) (by decide +kernel), ⟨by decide +kernel, by decide +kernel, by decide +kernel, by decide +kernel, by decide⟩, Or.inr ⟨by decide, by decide +kernel, List.mem_of_getElem? (i := 960) (by decide +kernel), List.mem_of_getElem? (i := 961) (by decide +kernel)⟩⟩
set_option maxRecDepth 100000 in
theorem mk_150 : x_MOk (x_mt 150) := ⟨List.mem_of_getElem? (i := 966) rfl, List.mem_of_getElem? (i := 50) (by decide +kernel), ⟨by decide +kernel, by decide +kernel, by decide +kernel, by decide +kernel, by decide⟩, Or.inr ⟨by decide, by decide +kernel, List.mem_of_getElem? (i := 964) (by decide +kernel), List.mem_of_getElem? (i := 965) (by decide +kernel)⟩⟩
set_option maxRecDepth 100000 in
theorem mk_151 : x_MOk (x_mt 151) := ⟨List.mem_of_getElem? (i := 970) rfl, List.mem_of_getElem? (i := 50) (by decide +kernel), ⟨by decide +kernel, by decide +kernel, by decide +kernel, by decide +kernel, by decide⟩, Or.inr ⟨by decide, by decide +kernel, List.mem_of_getElem? (i := 968) (by decide +kernel), List.mem_of_getElem? (i := 969) (by decide +kernel)⟩⟩
set_option maxRecDepth 100000 in
theorem mk_152 : x_MOk (x_mt 152) := ⟨List.mem_of_getElem? (i := 974) rfl, List.mem_of_getElem? (i := 50) (by decide +kernel), ⟨by decide +kernel, by decide +kernel, by decide +kernel, by decide +kernel, by decide⟩, Or.inr ⟨by decide, by decide +kernel, List.mem_of_getElem? (i := 973) (by decide +kernel), List.mem_of_getElem? (i := 39) (by decide +kernel)⟩⟩
set_option maxRecDepth 100000 in
theorem mk_153 : x_MOk (x_mt 153) := ⟨List.mem_of_getElem? (i := 978) rfl, List.mem_of_getElem? (i := 50) (by decide +kernel), ⟨by decide +kernel, by decide +kernel, by decide +kernel, by decide +kernel, by decide⟩, Or.inr ⟨by decide, by decide +kernel, List.mem_of_getElem? (i := 976) (by decide +kernel), List.mem_of_getElem? (i := 977) (by decide +kernel)⟩⟩
set_option maxRecDepth 100000 in
theorem mk_154 : x_MOk (x_mt 154) := ⟨List.mem_of_getElem? (i := 982) rfl, List.mem_of_getElem? (i := 50) (by decide +kernel), ⟨by decide +kernel, by decide +kernel, by decide +kernel, by decide +kernel, by decide⟩, Or.inr ⟨by decide, by decide +kernel, List.mem_of_getElem? (i := 980) (by decide +kernel), List.mem_of_getElem? (i := 981) (by decide +kernel)⟩⟩
set_option maxRecDepth 100000 in
theorem mk_155 : x_MOk (x_mt 155) := ⟨List.mem_of_getElem? (i := 986) rfl, List.mem_of_getElem? (i := 50) (by decide +kernel), ⟨by decide +kernel, by decide +kernel, by decide +kernel, by decide +kernel, by decide⟩, Or.inl ⟨rfl, List.mem_of_getElem? (i := 985) (by decide +kernel)⟩⟩
set_option maxRecDepth 100000 in
theorem mk_156 : x_MOk (x_mt 156) := ⟨List.mem_of_getElem? (i := 990) rfl, List.mem_of_getElem? (i := 50) (by decide +kernel), ⟨by decide +kernel, by decide +kernel, by decide +kernel, by decide +kernel, by decide⟩, Or.inr ⟨by decide, by decide +kernel, List.mem_of_getElem? (i := 988) (by decide +kernel), List.mem_of_getElem? (i := 989) (by decide +kernel)⟩⟩
set_option maxRecDepth 100000 in
theorem mk_157 : x_MOk (x_mt 157) := ⟨List.mem_of_getElem? (i := 994) rfl, List.mem_of_getElem? (i := 50) (by decide +kernel), ⟨by decide +kernel, by decide +kernel, by decide +kernel, by decide +kernel, by decide⟩, Or.inr ⟨by decide, by decide +kernel, List.mem_of_getElem? (i := 992) (by decide +kernel), List.mem_of_getElem? (i := 993) (by decide +kernel)⟩⟩
set_option maxRecDepth 100000 in
theorem mk_158 : x_MOk (x_mt 158) := ⟨List.mem_of_getElem? (i := 998) rfl, List.mem_of_getElem? (i := 50) (by decide +kernel), ⟨by decide +kernel, by decide +kernel, by decide +kernel, by decide +kernel, by decide⟩, Or.inr ⟨by decide, by decide +kernel, List.mem_of_getElem? (i := 996) (by decide +kernel), List.mem_of_getElem? (i := 997) (by decide +kernel)⟩⟩
set_option maxRecDepth 100000 in
theorem mk_159 : x_MOk (x_mt 159) := ⟨List.mem_of_getElem? (i := 1002) rfl, List.mem_of_getElem? (i := 50) (by decide +kernel), ⟨by decide +kernel, by decide +kernel, by decide +kernel, by decide +kernel, by decide⟩, Or.inr ⟨by decide, by decide +kernel, List.mem_of_getElem? (i := 1000) (by decide +kernel), List.mem_of_getElem? (i := 1001) (by decide +kernel)⟩⟩
set_option maxRecDepth 100000 in
theorem mk_160 : x_MOk (x_mt 160) := ⟨List.mem_of_getElem? (i := 1006) rfl, List.mem_of_getElem? (i := 50) (by decide +kernel), ⟨by decide +kernel, by decide +kernel, by decide +kernel, by decide +kernel, by decide⟩, Or.inr ⟨by decide, by decide +kernel, List.mem_of_getElem? (i := 1005) (by decide +kernel), List.mem_of_getElem? (i := 40) (by decide +kernel)⟩⟩
set_option maxRecDepth 100000 in
theorem mk_161 : x_MOk (x_mt 161) := ⟨List.mem_of_getElem? (i := 1010) rfl, List.mem_of_getElem? (i := 50) (by decide +kernel), ⟨by decide +kernel, by decide +kernel, by decide +kernel, by decide +kernel, by decide⟩, Or.inr ⟨by decide, by decide +kernel, List.mem_of_getElem? (i := 1008) (by decide +kernel), List.mem_of_getElem? (i := 1009) (by decide +kernel)⟩⟩
set_option maxRecDepth 100000 in
theorem mk_162 : x_MOk (x_mt 162) := ⟨List.mem_of_getElem? (i := 1014) rfl, List.mem_of_getElem? (i := 50) (by decide +kernel), ⟨by decide +kernel, by decide +kernel, by decide +kernel, by decide +kernel, by decide⟩, Or.inr ⟨by decide, by decide +kernel, List.mem_of_getElem? (i := 1012) (by decide +kernel), List.mem_of_getElem? (i := 1013) (by decide +kernel)⟩⟩
set_option maxRecDepth 100000 in
theorem mk_163 : x_MOk (x_mt 163) := ⟨List.mem_of_getElem? (i := 1018) rfl, List.mem_of_getElem? (i := 50) (by decide +kernel), ⟨by decide +kernel, by decide +kernel, by decide +kernel, by decide +kernel, by decide⟩, Or.inr ⟨by decide, by decide +kernel, List.mem_of_getElem? (i := 1017) (by decide +kernel), List.mem_of_getElem? (i := 41) (by decide +kernel)⟩⟩
set_option maxRecDepth 100000 in
theorem mk_164 : x_MOk (x_mt 164) := ⟨List.mem_of_getElem? (i := 1022) rfl, List.mem_of_getElem? (i := 50) (by decide +kernel), ⟨by decide +kernel, by decide +kernel, by decide +kernel, by decide +kernel, by decide⟩, Or.inr ⟨by decide, by decide +kernel, List.mem_of_getElem? (i := 1020) (by decide +kernel), List.mem_of_getElem? (i := 1021) (by decide +kernel)⟩⟩
set_option maxRecDepth 100000 in
theorem mk_165 : x_MOk (x_mt 165) := ⟨List.mem_of_getElem? (i := 1026) rfl, List.mem_of_getElem? (i := 50) (by decide +kernel), ⟨by decide +kernel, by decide +kernel, by decide +kernel, by decide +kernel, by decide⟩, Or.inr ⟨by decide, by decide +kernel, List.mem_of_getElem? (i := 1024) (by decide +kernel), List.mem_of_getElem? (i := 1025) (by decide +kernel)⟩⟩
set_option maxRecDepth 100000 in
theorem mk_166 : x_MOk (x_mt 166) := ⟨List.mem_of_getElem? (i := 1030) rfl, List.mem_of_getElem? (i := 50) (by decide +kernel), ⟨by decide +kernel, by decide +kernel, by decide +kernel, by decide +kernel, by decide⟩, Or.inr ⟨by decide, by decide +kernel, List.mem_of_getElem? (i := 1028) (by decide +kernel), List.mem_of_getElem? (i := 1029) (by decide +kernel)⟩⟩
set_option maxRecDepth 100000 in
theorem mk_167 : x_MOk (x_mt 167) := ⟨List.mem_of_getElem? (i := 1034) rfl, List.mem_of_getElem? (i := 50) (by decide +kernel), ⟨by decide +kernel, by decide +kernel, by decide +kernel, by decide +kernel, by decide⟩, Or.inr ⟨by decide, by decide +kernel, List.mem_of_getElem? (i := 1032) (by decide +kernel), List.mem_of_getElem? (i := 1033) (by decide +kernel)⟩⟩
set_option maxRecDepth 100000 in
theorem mk_168 : x_MOk (x_mt 168) := ⟨List.mem_of_getElem? (i := 1038) rfl, List.mem_of_getElem? (i := 50) (by decide +kernel), ⟨by decide +kernel, by decide +kernel, by decide +kernel, by decide +kernel, by decide⟩, Or.inr ⟨by decide, by decide +kernel, List.mem_of_getElem? (i := 1036) (by decide +kernel), List.mem_of_getElem? (i := 1037) (by decide +kernel)⟩⟩
def x_moks : Nat → Nat → Prop
  | 0, _ => True
  | n + 1, k => x_MOk (x_mt k) ∧ x_moks n (k + 1)
theorem x_moks_nth : ∀ (n k0 : Nat), x_moks n k0 → ∀ k, k0 ≤ k → k < k0 + n → x_MOk (x_mt k)
  | 0, k0, _, k, h1, h2 => by omega
  | n + 1, k0, h, k, h1, h2 => by
    by_cases e : k = k0
    · subst e; exact h.1
    · exact x_moks_nth n (k0 + 1) h.2 k (by omega) (by omega)
theorem x_moks_all : x_moks 168 1 := ⟨mk_1, mk_2, mk_3, mk_4, mk_5, mk_6, mk_7, mk_8, mk_9, mk_10, mk_11, mk_12, mk_13, mk_14, mk_15, mk_16, mk_17, mk_18, mk_19, mk_20, mk_21, mk_22, mk_23, mk_24, mk_25, mk_26, mk_27, mk_28, mk_29, mk_30, mk_31, mk_32, mk_33, mk_34, mk_35, mk_36, mk_37, mk_38, mk_39, mk_40, mk_41, mk_42, mk_43, mk_44, mk_45, mk_46, mk_47, mk_48, mk_49, mk_50, mk_51, mk_52, mk_53, mk_54, mk_55, mk_56, mk_57, mk_58, mk_59, mk_60, mk_61, mk_62, mk_63, mk_64, mk_65, mk_66, mk_67, mk_68, mk_69, mk_70, mk_71, mk_72, mk_73, mk_74, mk_75, mk_76, mk_77, mk_78, mk_79, mk_80, mk_81, mk_82, mk_83, mk_84, mk_85, mk_86, mk_87, mk_88, mk_89, mk_90, mk_91, mk_92, mk_93, mk_94, mk_95, mk_96, mk_97, mk_98, mk_99, mk_100, mk_101, mk_102, mk_103, mk_104, mk_105, mk_106, mk_107, mk_108, mk_109, mk_110, mk_111, mk_112, mk_113, mk_114, mk_115, mk_116, mk_117, mk_118, mk_119, mk_120, mk_121, mk_122, mk_123, mk_124, mk_125, mk_126, mk_127, mk_128, mk_129, mk_130, mk_131, mk_132, mk_133, mk_134, mk_135, mk_136, mk_137, mk_138, mk_139, mk_140, mk_141, mk_142, mk_143, mk_144, mk_145, mk_146, mk_147, mk_148, mk_149, mk_150, mk_151, mk_152, mk_153, mk_154, mk_155, mk_156, mk_157, mk_158, mk_159, mk_160, mk_161, mk_162, mk_163, mk_164, mk_165, mk_166, mk_167, mk_168, trivial⟩
theorem x_mok {k : Nat} (h0 : 0 < k) (h : k < 169) : x_MOk (x_mt k) := x_moks_nth 168 1 x_moks_all k h0 (by omega)
