section
-- ===== PART A: goes FIRST, ahead of the names: the tables' words, and 'selects' of the private methods out of them =====
/-- a private method of a class that the tables say can be made, by its rows of tables_1 -/
def lw_okq (q : MethodName × Nat) : Prop := (q.1.cls ≠ "java/lang/invoke/MethodHandle" ∧ q.1.cls ≠ "java/lang/invoke/VarHandle") ∧ Cond.instantiable q.1.cls q.2 ∈ tables_1 ∧ Cond.privateMethod q.1 ∈ tables_1 ∧ Cond.instanceMethod q.1 ∈ tables_1
theorem lw_p0 : lw_okq (⟨"ValuePlaces", "faulty", "(I)I"⟩, 9) := ⟨⟨by decide +kernel, by decide +kernel⟩, List.mem_of_getElem? (i := 14) (by decide +kernel), List.mem_of_getElem? (i := 222) (by decide +kernel), List.mem_of_getElem? (i := 223) (by decide +kernel)⟩
theorem lw_p1 : lw_okq (⟨"ValuePlaces", "isLineOrNone", "(I)Z"⟩, 9) := ⟨⟨by decide +kernel, by decide +kernel⟩, List.mem_of_getElem? (i := 14) (by decide +kernel), List.mem_of_getElem? (i := 372) (by decide +kernel), List.mem_of_getElem? (i := 373) (by decide +kernel)⟩
theorem lw_p2 : lw_okq (⟨"ValuePlaces", "wouldBeBelow", "(II)Z"⟩, 9) := ⟨⟨by decide +kernel, by decide +kernel⟩, List.mem_of_getElem? (i := 14) (by decide +kernel), List.mem_of_getElem? (i := 376) (by decide +kernel), List.mem_of_getElem? (i := 377) (by decide +kernel)⟩
theorem lw_p3 : lw_okq (⟨"ValuePlaces", "firstWrong", "(LValuePlaces$Sheet;II)I"⟩, 9) := ⟨⟨by decide +kernel, by decide +kernel⟩, List.mem_of_getElem? (i := 14) (by decide +kernel), List.mem_of_getElem? (i := 405) (by decide +kernel), List.mem_of_getElem? (i := 406) (by decide +kernel)⟩
theorem lw_p4 : lw_okq (⟨"ValuePlaces", "ofTrial", "(I)I"⟩, 9) := ⟨⟨by decide +kernel, by decide +kernel⟩, List.mem_of_getElem? (i := 14) (by decide +kernel), List.mem_of_getElem? (i := 410) (by decide +kernel), List.mem_of_getElem? (i := 411) (by decide +kernel)⟩
theorem lw_p5 : lw_okq (⟨"ValuePlaces", "doubleTelling", "(I)I"⟩, 9) := ⟨⟨by decide +kernel, by decide +kernel⟩, List.mem_of_getElem? (i := 14) (by decide +kernel), List.mem_of_getElem? (i := 600) (by decide +kernel), List.mem_of_getElem? (i := 601) (by decide +kernel)⟩
theorem lw_p6 : lw_okq (⟨"ValuePlaces", "leaveInTrace", "(I)V"⟩, 9) := ⟨⟨by decide +kernel, by decide +kernel⟩, List.mem_of_getElem? (i := 14) (by decide +kernel), List.mem_of_getElem? (i := 604) (by decide +kernel), List.mem_of_getElem? (i := 605) (by decide +kernel)⟩
theorem lw_p7 : lw_okq (⟨"ValuePlaces", "bulkyTelling", "(I)I"⟩, 9) := ⟨⟨by decide +kernel, by decide +kernel⟩, List.mem_of_getElem? (i := 14) (by decide +kernel), List.mem_of_getElem? (i := 608) (by decide +kernel), List.mem_of_getElem? (i := 609) (by decide +kernel)⟩
theorem lw_p8 : lw_okq (⟨"ValuePlaces", "plainTelling", "(I)I"⟩, 9) := ⟨⟨by decide +kernel, by decide +kernel⟩, List.mem_of_getElem? (i := 14) (by decide +kernel), List.mem_of_getElem? (i := 612) (by decide +kernel), List.mem_of_getElem? (i := 613) (by decide +kernel)⟩
theorem lw_p9 : lw_okq (⟨"ValuePlacesModel", "against", "(IIII)I"⟩, 29) := ⟨⟨by decide +kernel, by decide +kernel⟩, List.mem_of_getElem? (i := 641) (by decide +kernel), List.mem_of_getElem? (i := 748) (by decide +kernel), List.mem_of_getElem? (i := 749) (by decide +kernel)⟩
theorem lw_p10 : lw_okq (⟨"ValuePlacesModel", "fails", "(I)I"⟩, 29) := ⟨⟨by decide +kernel, by decide +kernel⟩, List.mem_of_getElem? (i := 641) (by decide +kernel), List.mem_of_getElem? (i := 752) (by decide +kernel), List.mem_of_getElem? (i := 753) (by decide +kernel)⟩
theorem lw_p11 : lw_okq (⟨"ValuePlacesModel", "readAll", "(I)Z"⟩, 29) := ⟨⟨by decide +kernel, by decide +kernel⟩, List.mem_of_getElem? (i := 641) (by decide +kernel), List.mem_of_getElem? (i := 756) (by decide +kernel), List.mem_of_getElem? (i := 757) (by decide +kernel)⟩
theorem lw_p12 : lw_okq (⟨"ValuePlacesModel", "isSign", "(II)Z"⟩, 29) := ⟨⟨by decide +kernel, by decide +kernel⟩, List.mem_of_getElem? (i := 641) (by decide +kernel), List.mem_of_getElem? (i := 760) (by decide +kernel), List.mem_of_getElem? (i := 761) (by decide +kernel)⟩
theorem lw_p13 : lw_okq (⟨"ValuePlacesModel", "readLine", "(II)Z"⟩, 29) := ⟨⟨by decide +kernel, by decide +kernel⟩, List.mem_of_getElem? (i := 641) (by decide +kernel), List.mem_of_getElem? (i := 764) (by decide +kernel), List.mem_of_getElem? (i := 765) (by decide +kernel)⟩
theorem lw_p14 : lw_okq (⟨"ValuePlacesModel", "canBeUsed", "(II)Z"⟩, 29) := ⟨⟨by decide +kernel, by decide +kernel⟩, List.mem_of_getElem? (i := 641) (by decide +kernel), List.mem_of_getElem? (i := 768) (by decide +kernel), List.mem_of_getElem? (i := 769) (by decide +kernel)⟩
theorem lw_p15 : lw_okq (⟨"ValuePlacesModel", "isLine", "(I)Z"⟩, 29) := ⟨⟨by decide +kernel, by decide +kernel⟩, List.mem_of_getElem? (i := 641) (by decide +kernel), List.mem_of_getElem? (i := 776) (by decide +kernel), List.mem_of_getElem? (i := 777) (by decide +kernel)⟩
def lw_privs_1 : List (MethodName × Nat) := [(⟨"ValuePlaces", "faulty", "(I)I"⟩, 9), (⟨"ValuePlaces", "isLineOrNone", "(I)Z"⟩, 9), (⟨"ValuePlaces", "wouldBeBelow", "(II)Z"⟩, 9), (⟨"ValuePlaces", "firstWrong", "(LValuePlaces$Sheet;II)I"⟩, 9), (⟨"ValuePlaces", "ofTrial", "(I)I"⟩, 9), (⟨"ValuePlaces", "doubleTelling", "(I)I"⟩, 9), (⟨"ValuePlaces", "leaveInTrace", "(I)V"⟩, 9), (⟨"ValuePlaces", "bulkyTelling", "(I)I"⟩, 9), (⟨"ValuePlaces", "plainTelling", "(I)I"⟩, 9), (⟨"ValuePlacesModel", "against", "(IIII)I"⟩, 29), (⟨"ValuePlacesModel", "fails", "(I)I"⟩, 29), (⟨"ValuePlacesModel", "readAll", "(I)Z"⟩, 29), (⟨"ValuePlacesModel", "isSign", "(II)Z"⟩, 29), (⟨"ValuePlacesModel", "readLine", "(II)Z"⟩, 29), (⟨"ValuePlacesModel", "canBeUsed", "(II)Z"⟩, 29), (⟨"ValuePlacesModel", "isLine", "(I)Z"⟩, 29)]
theorem lw_r1 : ∀ q ∈ lw_privs_1, lw_okq q := List.forall_mem_cons.mpr ⟨lw_p0, List.forall_mem_cons.mpr ⟨lw_p1, List.forall_mem_cons.mpr ⟨lw_p2, List.forall_mem_cons.mpr ⟨lw_p3, List.forall_mem_cons.mpr ⟨lw_p4, List.forall_mem_cons.mpr ⟨lw_p5, List.forall_mem_cons.mpr ⟨lw_p6, List.forall_mem_cons.mpr ⟨lw_p7, List.forall_mem_cons.mpr ⟨lw_p8, List.forall_mem_cons.mpr ⟨lw_p9, List.forall_mem_cons.mpr ⟨lw_p10, List.forall_mem_cons.mpr ⟨lw_p11, List.forall_mem_cons.mpr ⟨lw_p12, List.forall_mem_cons.mpr ⟨lw_p13, List.forall_mem_cons.mpr ⟨lw_p14, List.forall_mem_cons.mpr ⟨lw_p15, fun _ h => absurd h List.not_mem_nil⟩⟩⟩⟩⟩⟩⟩⟩⟩⟩⟩⟩⟩⟩⟩⟩
theorem lw_p16 : lw_okq (⟨"ValuePlacesModel", "liveBehind", "(I)I"⟩, 29) := ⟨⟨by decide +kernel, by decide +kernel⟩, List.mem_of_getElem? (i := 641) (by decide +kernel), List.mem_of_getElem? (i := 780) (by decide +kernel), List.mem_of_getElem? (i := 781) (by decide +kernel)⟩
theorem lw_p17 : lw_okq (⟨"ValuePlacesModel", "isBelow", "(II)Z"⟩, 29) := ⟨⟨by decide +kernel, by decide +kernel⟩, List.mem_of_getElem? (i := 641) (by decide +kernel), List.mem_of_getElem? (i := 784) (by decide +kernel), List.mem_of_getElem? (i := 785) (by decide +kernel)⟩
theorem lw_p18 : lw_okq (⟨"ValuePlacesModel", "laterUse", "(II)I"⟩, 29) := ⟨⟨by decide +kernel, by decide +kernel⟩, List.mem_of_getElem? (i := 641) (by decide +kernel), List.mem_of_getElem? (i := 788) (by decide +kernel), List.mem_of_getElem? (i := 789) (by decide +kernel)⟩
theorem lw_p19 : lw_okq (⟨"ValuePlacesModel", "isUser", "(II)Z"⟩, 29) := ⟨⟨by decide +kernel, by decide +kernel⟩, List.mem_of_getElem? (i := 641) (by decide +kernel), List.mem_of_getElem? (i := 792) (by decide +kernel), List.mem_of_getElem? (i := 793) (by decide +kernel)⟩
theorem lw_p20 : lw_okq (⟨"ValuePlacesModel", "colourOf", "(I)I"⟩, 29) := ⟨⟨by decide +kernel, by decide +kernel⟩, List.mem_of_getElem? (i := 641) (by decide +kernel), List.mem_of_getElem? (i := 799) (by decide +kernel), List.mem_of_getElem? (i := 800) (by decide +kernel)⟩
theorem lw_p21 : lw_okq (⟨"ValuePlacesModel", "findColours", "()V"⟩, 29) := ⟨⟨by decide +kernel, by decide +kernel⟩, List.mem_of_getElem? (i := 641) (by decide +kernel), List.mem_of_getElem? (i := 803) (by decide +kernel), List.mem_of_getElem? (i := 804) (by decide +kernel)⟩
theorem lw_p22 : lw_okq (⟨"ValuePlacesModel", "crossing", "(I)I"⟩, 29) := ⟨⟨by decide +kernel, by decide +kernel⟩, List.mem_of_getElem? (i := 641) (by decide +kernel), List.mem_of_getElem? (i := 810) (by decide +kernel), List.mem_of_getElem? (i := 811) (by decide +kernel)⟩
theorem lw_p23 : lw_okq (⟨"ValuePlacesModel", "doCross", "(II)Z"⟩, 29) := ⟨⟨by decide +kernel, by decide +kernel⟩, List.mem_of_getElem? (i := 641) (by decide +kernel), List.mem_of_getElem? (i := 814) (by decide +kernel), List.mem_of_getElem? (i := 815) (by decide +kernel)⟩
theorem lw_p24 : lw_okq (⟨"ValuePlacesModel", "usersOf", "(I)I"⟩, 29) := ⟨⟨by decide +kernel, by decide +kernel⟩, List.mem_of_getElem? (i := 641) (by decide +kernel), List.mem_of_getElem? (i := 818) (by decide +kernel), List.mem_of_getElem? (i := 819) (by decide +kernel)⟩
theorem lw_p25 : lw_okq (⟨"ValuePlacesModel", "costOf", "(I)I"⟩, 29) := ⟨⟨by decide +kernel, by decide +kernel⟩, List.mem_of_getElem? (i := 641) (by decide +kernel), List.mem_of_getElem? (i := 822) (by decide +kernel), List.mem_of_getElem? (i := 823) (by decide +kernel)⟩
theorem lw_p26 : lw_okq (⟨"ValuePlacesModel", "canReuse", "(III)Z"⟩, 29) := ⟨⟨by decide +kernel, by decide +kernel⟩, List.mem_of_getElem? (i := 641) (by decide +kernel), List.mem_of_getElem? (i := 834) (by decide +kernel), List.mem_of_getElem? (i := 835) (by decide +kernel)⟩
theorem lw_p27 : lw_okq (⟨"ValuePlacesModel", "isAboveOr", "(II)Z"⟩, 29) := ⟨⟨by decide +kernel, by decide +kernel⟩, List.mem_of_getElem? (i := 641) (by decide +kernel), List.mem_of_getElem? (i := 842) (by decide +kernel), List.mem_of_getElem? (i := 843) (by decide +kernel)⟩
theorem lw_p28 : lw_okq (⟨"ValuePlacesModel", "goDay", "(II)I"⟩, 29) := ⟨⟨by decide +kernel, by decide +kernel⟩, List.mem_of_getElem? (i := 641) (by decide +kernel), List.mem_of_getElem? (i := 854) (by decide +kernel), List.mem_of_getElem? (i := 855) (by decide +kernel)⟩
theorem lw_p29 : lw_okq (⟨"ValuePlacesModel", "tellDay", "(I)I"⟩, 29) := ⟨⟨by decide +kernel, by decide +kernel⟩, List.mem_of_getElem? (i := 641) (by decide +kernel), List.mem_of_getElem? (i := 858) (by decide +kernel), List.mem_of_getElem? (i := 859) (by decide +kernel)⟩
theorem lw_p30 : lw_okq (⟨"ValuePlacesModel", "greatestPressure", "()I"⟩, 29) := ⟨⟨by decide +kernel, by decide +kernel⟩, List.mem_of_getElem? (i := 641) (by decide +kernel), List.mem_of_getElem? (i := 862) (by decide +kernel), List.mem_of_getElem? (i := 863) (by decide +kernel)⟩
theorem lw_p31 : lw_okq (⟨"ValuePlacesModel", "manyColours", "()I"⟩, 29) := ⟨⟨by decide +kernel, by decide +kernel⟩, List.mem_of_getElem? (i := 641) (by decide +kernel), List.mem_of_getElem? (i := 866) (by decide +kernel), List.mem_of_getElem? (i := 867) (by decide +kernel)⟩
def lw_privs_2 : List (MethodName × Nat) := [(⟨"ValuePlacesModel", "liveBehind", "(I)I"⟩, 29), (⟨"ValuePlacesModel", "isBelow", "(II)Z"⟩, 29), (⟨"ValuePlacesModel", "laterUse", "(II)I"⟩, 29), (⟨"ValuePlacesModel", "isUser", "(II)Z"⟩, 29), (⟨"ValuePlacesModel", "colourOf", "(I)I"⟩, 29), (⟨"ValuePlacesModel", "findColours", "()V"⟩, 29), (⟨"ValuePlacesModel", "crossing", "(I)I"⟩, 29), (⟨"ValuePlacesModel", "doCross", "(II)Z"⟩, 29), (⟨"ValuePlacesModel", "usersOf", "(I)I"⟩, 29), (⟨"ValuePlacesModel", "costOf", "(I)I"⟩, 29), (⟨"ValuePlacesModel", "canReuse", "(III)Z"⟩, 29), (⟨"ValuePlacesModel", "isAboveOr", "(II)Z"⟩, 29), (⟨"ValuePlacesModel", "goDay", "(II)I"⟩, 29), (⟨"ValuePlacesModel", "tellDay", "(I)I"⟩, 29), (⟨"ValuePlacesModel", "greatestPressure", "()I"⟩, 29), (⟨"ValuePlacesModel", "manyColours", "()I"⟩, 29)]
theorem lw_r2 : ∀ q ∈ lw_privs_2, lw_okq q := List.forall_mem_cons.mpr ⟨lw_p16, List.forall_mem_cons.mpr ⟨lw_p17, List.forall_mem_cons.mpr ⟨lw_p18, List.forall_mem_cons.mpr ⟨lw_p19, List.forall_mem_cons.mpr ⟨lw_p20, List.forall_mem_cons.mpr ⟨lw_p21, List.forall_mem_cons.mpr ⟨lw_p22, List.forall_mem_cons.mpr ⟨lw_p23, List.forall_mem_cons.mpr ⟨lw_p24, List.forall_mem_cons.mpr ⟨lw_p25, List.forall_mem_cons.mpr ⟨lw_p26, List.forall_mem_cons.mpr ⟨lw_p27, List.forall_mem_cons.mpr ⟨lw_p28, List.forall_mem_cons.mpr ⟨lw_p29, List.forall_mem_cons.mpr ⟨lw_p30, List.forall_mem_cons.mpr ⟨lw_p31, fun _ h => absurd h List.not_mem_nil⟩⟩⟩⟩⟩⟩⟩⟩⟩⟩⟩⟩⟩⟩⟩⟩
theorem lw_p32 : lw_okq (⟨"ValuePlacesModel", "findHeld", "(I)V"⟩, 29) := ⟨⟨by decide +kernel, by decide +kernel⟩, List.mem_of_getElem? (i := 641) (by decide +kernel), List.mem_of_getElem? (i := 870) (by decide +kernel), List.mem_of_getElem? (i := 871) (by decide +kernel)⟩
theorem lw_p33 : lw_okq (⟨"ValuePlacesModel", "holds", "(II)V"⟩, 29) := ⟨⟨by decide +kernel, by decide +kernel⟩, List.mem_of_getElem? (i := 641) (by decide +kernel), List.mem_of_getElem? (i := 874) (by decide +kernel), List.mem_of_getElem? (i := 875) (by decide +kernel)⟩
theorem lw_p34 : lw_okq (⟨"ValuePlacesModel", "usedBy", "(I)I"⟩, 29) := ⟨⟨by decide +kernel, by decide +kernel⟩, List.mem_of_getElem? (i := 641) (by decide +kernel), List.mem_of_getElem? (i := 878) (by decide +kernel), List.mem_of_getElem? (i := 879) (by decide +kernel)⟩
theorem lw_p35 : lw_okq (⟨"ValuePlacesModel", "drops", "(II)V"⟩, 29) := ⟨⟨by decide +kernel, by decide +kernel⟩, List.mem_of_getElem? (i := 641) (by decide +kernel), List.mem_of_getElem? (i := 882) (by decide +kernel), List.mem_of_getElem? (i := 883) (by decide +kernel)⟩
theorem lw_p36 : lw_okq (⟨"ValuePlacesModel", "manyCross", "()I"⟩, 29) := ⟨⟨by decide +kernel, by decide +kernel⟩, List.mem_of_getElem? (i := 641) (by decide +kernel), List.mem_of_getElem? (i := 886) (by decide +kernel), List.mem_of_getElem? (i := 887) (by decide +kernel)⟩
theorem lw_p37 : lw_okq (⟨"ValuePlacesModel", "findMoves", "(I)V"⟩, 29) := ⟨⟨by decide +kernel, by decide +kernel⟩, List.mem_of_getElem? (i := 641) (by decide +kernel), List.mem_of_getElem? (i := 910) (by decide +kernel), List.mem_of_getElem? (i := 911) (by decide +kernel)⟩
theorem lw_p38 : lw_okq (⟨"ValuePlacesModel", "isWanted", "(II)Z"⟩, 29) := ⟨⟨by decide +kernel, by decide +kernel⟩, List.mem_of_getElem? (i := 641) (by decide +kernel), List.mem_of_getElem? (i := 914) (by decide +kernel), List.mem_of_getElem? (i := 915) (by decide +kernel)⟩
theorem lw_p39 : lw_okq (⟨"ValuePlacesModel", "areSo", "()Z"⟩, 29) := ⟨⟨by decide +kernel, by decide +kernel⟩, List.mem_of_getElem? (i := 641) (by decide +kernel), List.mem_of_getElem? (i := 930) (by decide +kernel), List.mem_of_getElem? (i := 931) (by decide +kernel)⟩
theorem lw_p40 : lw_okq (⟨"ValuePlacesModel", "lost", "(I)J"⟩, 29) := ⟨⟨by decide +kernel, by decide +kernel⟩, List.mem_of_getElem? (i := 641) (by decide +kernel), List.mem_of_getElem? (i := 962) (by decide +kernel), List.mem_of_getElem? (i := 963) (by decide +kernel)⟩
theorem lw_p41 : lw_okq (⟨"ValuePlacesModel", "begins", "(I)V"⟩, 29) := ⟨⟨by decide +kernel, by decide +kernel⟩, List.mem_of_getElem? (i := 641) (by decide +kernel), List.mem_of_getElem? (i := 974) (by decide +kernel), List.mem_of_getElem? (i := 975) (by decide +kernel)⟩
def lw_privs_3 : List (MethodName × Nat) := [(⟨"ValuePlacesModel", "findHeld", "(I)V"⟩, 29), (⟨"ValuePlacesModel", "holds", "(II)V"⟩, 29), (⟨"ValuePlacesModel", "usedBy", "(I)I"⟩, 29), (⟨"ValuePlacesModel", "drops", "(II)V"⟩, 29), (⟨"ValuePlacesModel", "manyCross", "()I"⟩, 29), (⟨"ValuePlacesModel", "findMoves", "(I)V"⟩, 29), (⟨"ValuePlacesModel", "isWanted", "(II)Z"⟩, 29), (⟨"ValuePlacesModel", "areSo", "()Z"⟩, 29), (⟨"ValuePlacesModel", "lost", "(I)J"⟩, 29), (⟨"ValuePlacesModel", "begins", "(I)V"⟩, 29)]
theorem lw_r3 : ∀ q ∈ lw_privs_3, lw_okq q := List.forall_mem_cons.mpr ⟨lw_p32, List.forall_mem_cons.mpr ⟨lw_p33, List.forall_mem_cons.mpr ⟨lw_p34, List.forall_mem_cons.mpr ⟨lw_p35, List.forall_mem_cons.mpr ⟨lw_p36, List.forall_mem_cons.mpr ⟨lw_p37, List.forall_mem_cons.mpr ⟨lw_p38, List.forall_mem_cons.mpr ⟨lw_p39, List.forall_mem_cons.mpr ⟨lw_p40, List.forall_mem_cons.mpr ⟨lw_p41, fun _ h => absurd h List.not_mem_nil⟩⟩⟩⟩⟩⟩⟩⟩⟩⟩
def lw_privs : List (MethodName × Nat) := lw_privs_1 ++ (lw_privs_2 ++ (lw_privs_3))
def lw_tbl : List Cond := k2_sels lw_privs ++ tables_1
theorem lw_privs_ok : ∀ q ∈ lw_privs, lw_okq q := by
  show ∀ q ∈ lw_privs_1 ++ (lw_privs_2 ++ (lw_privs_3)), lw_okq q
  exact List.forall_mem_append.mpr ⟨lw_r1, List.forall_mem_append.mpr ⟨lw_r2, lw_r3⟩⟩
end
section
def RX0 : String := "ValuePlaces$Holding"
def TX0 : u_T := fun k => match k with
  | 0 => ("ValuePlaces$Holding", "behind", "[I", true)
  | 1 => ("ValuePlaces$Holding", "spilled", "I", false)
  | 2 => ("ValuePlaces$Holding", "fetches", "I", false)
  | 3 => ("ValuePlaces$Holding", "drops", "I", false)
  | _ => ("ValuePlaces$Holding", "held", "I", false)
def tyX0 : Nat → FieldType := fun k => match k with
  | 0 => .array .int
  | 1 => .int
  | 2 => .int
  | 3 => .int
  | _ => .int
theorem nmX0 : ∀ a, a < 5 → ∀ b, b < 5 → a ≠ b → (TX0 a).2.1 ≠ (TX0 b).2.1 := by decide +kernel
theorem tyX0_ok : ∀ k, k < 5 → parseFieldDescriptor (TX0 k).2.2.1 = some (tyX0 k) := by decide +kernel
theorem inX0 : ∀ w ∈ u_ws RX0 TX0 5, w ∈ lw_tbl := by decide +kernel
def RX1 : String := "ValuePlaces$Moves"
def TX1 : u_T := fun k => match k with
  | 0 => ("ValuePlaces$Moves", "wanted", "[I", true)
  | 1 => ("ValuePlaces$Moves", "made", "[I", true)
  | 2 => ("ValuePlaces$Moves", "places", "I", false)
  | 3 => ("ValuePlaces$Moves", "open", "I", false)
  | 4 => ("ValuePlaces$Moves", "count", "I", false)
  | _ => ("ValuePlaces$Moves", "toSpare", "I", false)
def tyX1 : Nat → FieldType := fun k => match k with
  | 0 => .array .int
  | 1 => .array .int
  | 2 => .int
  | 3 => .int
  | 4 => .int
  | _ => .int
theorem nmX1 : ∀ a, a < 6 → ∀ b, b < 6 → a ≠ b → (TX1 a).2.1 ≠ (TX1 b).2.1 := by decide +kernel
theorem tyX1_ok : ∀ k, k < 6 → parseFieldDescriptor (TX1 k).2.2.1 = some (tyX1 k) := by decide +kernel
theorem inX1 : ∀ w ∈ u_ws RX1 TX1 6, w ∈ lw_tbl := by decide +kernel
def RX2 : String := "ValuePlaces$Readings"
def TX2 : u_T := fun k => match k with
  | 0 => ("ValuePlaces$Readings", "value", "[I", true)
  | 1 => ("ValuePlaces$Readings", "cost", "[I", true)
  | _ => ("ValuePlaces$Readings", "count", "I", false)
def tyX2 : Nat → FieldType := fun k => match k with
  | 0 => .array .int
  | 1 => .array .int
  | _ => .int
theorem nmX2 : ∀ a, a < 3 → ∀ b, b < 3 → a ≠ b → (TX2 a).2.1 ≠ (TX2 b).2.1 := by decide +kernel
theorem tyX2_ok : ∀ k, k < 3 → parseFieldDescriptor (TX2 k).2.2.1 = some (tyX2 k) := by decide +kernel
theorem inX2 : ∀ w ∈ u_ws RX2 TX2 3, w ∈ lw_tbl := by decide +kernel
def RX3 : String := "ValuePlaces$Sheet"
def TX3 : u_T := fun k => match k with
  | 0 => ("ValuePlaces$Sheet", "cells", "[I", true)
  | 1 => ("ValuePlaces$Sheet", "hasRow", "Z", false)
  | 2 => ("ValuePlaces$Sheet", "lane", "I", false)
  | _ => ("ValuePlaces$Sheet", "size", "I", false)
def tyX3 : Nat → FieldType := fun k => match k with
  | 0 => .array .int
  | 1 => .boolean
  | 2 => .int
  | _ => .int
theorem nmX3 : ∀ a, a < 4 → ∀ b, b < 4 → a ≠ b → (TX3 a).2.1 ≠ (TX3 b).2.1 := by decide +kernel
theorem tyX3_ok : ∀ k, k < 4 → parseFieldDescriptor (TX3 k).2.2.1 = some (tyX3 k) := by decide +kernel
theorem inX3 : ∀ w ∈ u_ws RX3 TX3 4, w ∈ lw_tbl := by decide +kernel
def RX4 : String := "ValuePlaces$TextReader"
def TX4 : u_T := fun k => match k with
  | 0 => ("ValuePlaces$TextReader", "into", "LValuePlaces$Tree;", true)
  | 1 => ("ValuePlaces$TextReader", "state", "I", false)
  | _ => ("ValuePlaces$TextReader", "kindRead", "I", false)
def tyX4 : Nat → FieldType := fun k => match k with
  | 0 => .object "ValuePlaces$Tree"
  | 1 => .int
  | _ => .int
theorem nmX4 : ∀ a, a < 3 → ∀ b, b < 3 → a ≠ b → (TX4 a).2.1 ≠ (TX4 b).2.1 := by decide +kernel
theorem tyX4_ok : ∀ k, k < 3 → parseFieldDescriptor (TX4 k).2.2.1 = some (tyX4 k) := by decide +kernel
theorem inX4 : ∀ w ∈ u_ws RX4 TX4 3, w ∈ lw_tbl := by decide +kernel
def RX5 : String := "ValuePlaces$Tree"
def TX5 : u_T := fun k => match k with
  | 0 => ("ValuePlaces$Tree", "kind", "[I", true)
  | 1 => ("ValuePlaces$Tree", "above", "[I", true)
  | 2 => ("ValuePlaces$Tree", "over", "[I", true)
  | 3 => ("ValuePlaces$Tree", "depth", "[I", true)
  | 4 => ("ValuePlaces$Tree", "howManyUsed", "[I", true)
  | 5 => ("ValuePlaces$Tree", "used", "[I", true)
  | 6 => ("ValuePlaces$Tree", "usedSet", "[I", true)
  | 7 => ("ValuePlaces$Tree", "colour", "[I", true)
  | _ => ("ValuePlaces$Tree", "count", "I", false)
def tyX5 : Nat → FieldType := fun k => match k with
  | 0 => .array .int
  | 1 => .array .int
  | 2 => .array .int
  | 3 => .array .int
  | 4 => .array .int
  | 5 => .array .int
  | 6 => .array .int
  | 7 => .array .int
  | _ => .int
theorem nmX5 : ∀ a, a < 9 → ∀ b, b < 9 → a ≠ b → (TX5 a).2.1 ≠ (TX5 b).2.1 := by decide +kernel
theorem tyX5_ok : ∀ k, k < 9 → parseFieldDescriptor (TX5 k).2.2.1 = some (tyX5 k) := by decide +kernel
theorem inX5 : ∀ w ∈ u_ws RX5 TX5 9, w ∈ lw_tbl := by decide +kernel
def RX6 : String := "ValuePlaces"
def TX6 : u_T := fun k => match k with
  | 0 => ("ValuePlaces", "sheets", "[LValuePlaces$Sheet;", true)
  | 1 => ("ValuePlaces", "tree", "LValuePlaces$Tree;", true)
  | 2 => ("ValuePlaces", "trial", "LValuePlaces$Tree;", true)
  | 3 => ("ValuePlaces", "reader", "LValuePlaces$TextReader;", true)
  | 4 => ("ValuePlaces", "holding", "LValuePlaces$Holding;", true)
  | 5 => ("ValuePlaces", "moves", "LValuePlaces$Moves;", true)
  | 6 => ("ValuePlaces", "readings", "LValuePlaces$Readings;", true)
  | 7 => ("ValuePlaces", "traceSoFar", "I", false)
  | _ => ("ValuePlaces", "latestFault", "I", false)
def tyX6 : Nat → FieldType := fun k => match k with
  | 0 => .array (.object "ValuePlaces$Sheet")
  | 1 => .object "ValuePlaces$Tree"
  | 2 => .object "ValuePlaces$Tree"
  | 3 => .object "ValuePlaces$TextReader"
  | 4 => .object "ValuePlaces$Holding"
  | 5 => .object "ValuePlaces$Moves"
  | 6 => .object "ValuePlaces$Readings"
  | 7 => .int
  | _ => .int
theorem nmX6 : ∀ a, a < 9 → ∀ b, b < 9 → a ≠ b → (TX6 a).2.1 ≠ (TX6 b).2.1 := by decide +kernel
theorem tyX6_ok : ∀ k, k < 9 → parseFieldDescriptor (TX6 k).2.2.1 = some (tyX6 k) := by decide +kernel
theorem inX6 : ∀ w ∈ u_ws RX6 TX6 9, w ∈ lw_tbl := by decide +kernel
def RX7 : String := "ValuePlacesModel"
def TX7 : u_T := fun k => match k with
  | 0 => ("ValuePlacesModel", "fault", "I", false)
  | 1 => ("ValuePlacesModel", "trace", "I", false)
  | 2 => ("ValuePlacesModel", "sorts", "[I", true)
  | 3 => ("ValuePlacesModel", "sheetLong", "[I", true)
  | 4 => ("ValuePlacesModel", "cells", "[I", true)
  | 5 => ("ValuePlacesModel", "lines", "I", false)
  | 6 => ("ValuePlacesModel", "kind", "[I", true)
  | 7 => ("ValuePlacesModel", "above", "[I", true)
  | 8 => ("ValuePlacesModel", "many", "[I", true)
  | 9 => ("ValuePlacesModel", "uses", "[I", true)
  | 10 => ("ValuePlacesModel", "at", "I", false)
  | 11 => ("ValuePlacesModel", "readLines", "I", false)
  | 12 => ("ValuePlacesModel", "readKind", "[I", true)
  | 13 => ("ValuePlacesModel", "readAbove", "[I", true)
  | 14 => ("ValuePlacesModel", "readMany", "[I", true)
  | 15 => ("ValuePlacesModel", "readUses", "[I", true)
  | 16 => ("ValuePlacesModel", "colour", "[I", true)
  | 17 => ("ValuePlacesModel", "kept", "[I", true)
  | 18 => ("ValuePlacesModel", "held", "[I", true)
  | 19 => ("ValuePlacesModel", "spilled", "I", false)
  | 20 => ("ValuePlacesModel", "fetched", "I", false)
  | 21 => ("ValuePlacesModel", "dropped", "I", false)
  | 22 => ("ValuePlacesModel", "wants", "[I", true)
  | 23 => ("ValuePlacesModel", "moves", "[I", true)
  | 24 => ("ValuePlacesModel", "moved", "I", false)
  | 25 => ("ValuePlacesModel", "spared", "I", false)
  | 26 => ("ValuePlacesModel", "readings", "I", false)
  | 27 => ("ValuePlacesModel", "readValue", "[I", true)
  | _ => ("ValuePlacesModel", "readCost", "[I", true)
def tyX7 : Nat → FieldType := fun k => match k with
  | 0 => .int
  | 1 => .int
  | 2 => .array .int
  | 3 => .array .int
  | 4 => .array .int
  | 5 => .int
  | 6 => .array .int
  | 7 => .array .int
  | 8 => .array .int
  | 9 => .array .int
  | 10 => .int
  | 11 => .int
  | 12 => .array .int
  | 13 => .array .int
  | 14 => .array .int
  | 15 => .array .int
  | 16 => .array .int
  | 17 => .array .int
  | 18 => .array .int
  | 19 => .int
  | 20 => .int
  | 21 => .int
  | 22 => .array .int
  | 23 => .array .int
  | 24 => .int
  | 25 => .int
  | 26 => .int
  | 27 => .array .int
  | _ => .array .int
theorem nmX7 : ∀ a, a < 29 → ∀ b, b < 29 → a ≠ b → (TX7 a).2.1 ≠ (TX7 b).2.1 := by decide +kernel
theorem tyX7_ok : ∀ k, k < 29 → parseFieldDescriptor (TX7 k).2.2.1 = some (tyX7 k) := by decide +kernel
theorem inX7 : ∀ w ∈ u_ws RX7 TX7 29, w ∈ lw_tbl := by decide +kernel
/-- the classes whose objects the world holds -/
def x_cls : List vw_C := [(RX0, TX0, 5), (RX1, TX1, 6), (RX2, TX2, 3), (RX3, TX3, 4), (RX4, TX4, 3), (RX5, TX5, 9), (RX6, TX6, 9), (RX7, TX7, 29)]
/-- the kind of what a field holds: none: a number; some t: a reference to a cell of kind t (below 8: an object of that class; 50: the row of sheets; 100 + n: n ints) -/
def x_ft : Nat → Nat → Option Nat
  | 0, 0 => some 108
  | 1, 0 => some 108
  | 1, 1 => some 120
  | 2, 0 => some 108
  | 2, 1 => some 108
  | 3, 0 => some 160
  | 4, 0 => some 5
  | 5, 0 => some 108
  | 5, 1 => some 108
  | 5, 2 => some 108
  | 5, 3 => some 108
  | 5, 4 => some 108
  | 5, 5 => some 116
  | 5, 6 => some 108
  | 5, 7 => some 108
  | 6, 0 => some 50
  | 6, 1 => some 5
  | 6, 2 => some 5
  | 6, 3 => some 4
  | 6, 4 => some 0
  | 6, 5 => some 1
  | 6, 6 => some 2
  | 7, 2 => some 104
  | 7, 3 => some 104
  | 7, 4 => some 340
  | 7, 6 => some 108
  | 7, 7 => some 108
  | 7, 8 => some 108
  | 7, 9 => some 116
  | 7, 12 => some 108
  | 7, 13 => some 108
  | 7, 14 => some 108
  | 7, 15 => some 116
  | 7, 16 => some 108
  | 7, 17 => some 116
  | 7, 18 => some 108
  | 7, 22 => some 109
  | 7, 23 => some 120
  | 7, 27 => some 108
  | 7, 28 => some 108
  | _, _ => none
/-- the fields that hold a boolean -/
def x_fz : Nat → Nat → Bool
  | 3, 1 => true
  | _, _ => false
def x_nf : Nat → Nat
  | 0 => 5
  | 1 => 6
  | 2 => 3
  | 3 => 4
  | 4 => 3
  | 5 => 9
  | 6 => 9
  | 7 => 29
  | _ => 0
/-- the cell that a reference in place y of cell a names -/
def x_gr (c a y : Nat) : Nat := bif Nat.beq c 4 then 35 else 32 * a + y + 1
/-- the cells of the world: number, kind -/
def x_cells : List (Nat × Nat) := [(1, 6), (33, 50), (1057, 3), (33825, 160), (1058, 3), (33857, 160), (1059, 3), (33889, 160), (1060, 3), (33921, 160), (34, 5), (1089, 108), (1090, 108), (1091, 108), (1092, 108), (1093, 108), (1094, 116), (1095, 108), (1096, 108), (35, 5), (1121, 108), (1122, 108), (1123, 108), (1124, 108), (1125, 108), (1126, 116), (1127, 108), (1128, 108), (36, 4), (37, 0), (1185, 108), (38, 1), (1217, 108), (1218, 120), (39, 2), (1249, 108), (1250, 108), (2, 7), (67, 104), (68, 104), (69, 340), (71, 108), (72, 108), (73, 108), (74, 116), (77, 108), (78, 108), (79, 108), (80, 116), (81, 108), (82, 116), (83, 108), (87, 109), (88, 120), (92, 108), (93, 108)]
/-- a method: its name, its bytes, its locals, what it returns, the class of its receiver (99: static), how many words of arguments -/
abbrev x_MT : Type := MethodName × ByteArray × Nat × Option FieldType × Nat × Nat
abbrev m_Lw_law : Nat := 0
abbrev m_Vp_lines : Nat := 1
abbrev m_Vp_isSheet : Nat := 2
abbrev m_Vp_isLane : Nat := 3
abbrev m_Sh_faultOfCells : Nat := 4
abbrev m_Sh_hasCells : Nat := 5
abbrev m_Vp_faulty : Nat := 6
abbrev m_Tx_firstFault : Nat := 7
abbrev m_Sh_read : Nat := 8
abbrev m_Tx_goesOnWith : Nat := 9
abbrev m_Tx_movesTo : Nat := 10
abbrev m_Tx_takesKind : Nat := 11
abbrev m_Tx_takesAbove : Nat := 12
abbrev m_Tr_isLine : Nat := 13
abbrev m_Tr_putOn : Nat := 14
abbrev m_Tx_takesUsed : Nat := 15
abbrev m_Tr_useToo : Nat := 16
abbrev m_Tr_isBelow : Nat := 17
abbrev m_Vp_inSet : Nat := 18
abbrev m_Tr_becomeLike : Nat := 19
abbrev m_Rd_keepOnly : Nat := 20
abbrev m_Vp_ofLine : Nat := 21
abbrev m_Tr_liveBehind : Nat := 22
abbrev m_Tr_usedBelow : Nat := 23
abbrev m_Tr_pressure : Nat := 24
abbrev m_Jn_bitCount : Nat := 25
abbrev m_Tr_colourOf : Nat := 26
abbrev m_Tr_giveColours : Nat := 27
abbrev m_Jn_numberOfTrailingZeros : Nat := 28
abbrev m_Tr_crossing : Nat := 29
abbrev m_Tr_usersOf : Nat := 30
abbrev m_Tr_cost : Nat := 31
abbrev m_Tr_howManyUse : Nat := 32
abbrev m_Vp_used : Nat := 33
abbrev m_Tr_hasPlace : Nat := 34
abbrev m_Tr_usedIn : Nat := 35
abbrev m_Vp_reuse : Nat := 36
abbrev m_Tr_mayUse : Nat := 37
abbrev m_Tr_useInstead : Nat := 38
abbrev m_Vp_grow : Nat := 39
abbrev m_Vp_isKind : Nat := 40
abbrev m_Vp_isLineOrNone : Nat := 41
abbrev m_Vp_wouldBeBelow : Nat := 42
abbrev m_Vp_cut : Nat := 43
abbrev m_Tr_takeLast : Nat := 44
abbrev m_Rd_forget : Nat := 45
abbrev m_Vp_day : Nat := 46
abbrev m_Vp_isDayQuestion : Nat := 47
abbrev m_Vp_isNumbered : Nat := 48
abbrev m_Vp_firstWrong : Nat := 49
abbrev m_Vp_ofTrial : Nat := 50
abbrev m_Tr_greatestPressure : Nat := 51
abbrev m_Tr_howManyColours : Nat := 52
abbrev m_Ho_goThrough : Nat := 53
abbrev m_Ho_passLine : Nat := 54
abbrev m_Ho_makeRoom : Nat := 55
abbrev m_Tr_laterUse : Nat := 56
abbrev m_Ho_dropValue : Nat := 57
abbrev m_Tr_howManyCross : Nat := 58
abbrev m_Vp_cross : Nat := 59
abbrev m_Vp_most : Nat := 60
abbrev m_Vp_next : Nat := 61
abbrev m_Vp_hold : Nat := 62
abbrev m_Vp_isHoldQuestion : Nat := 63
abbrev m_Vp_copies : Nat := 64
abbrev m_Vp_isCopiesQuestion : Nat := 65
abbrev m_Mv_areTold : Nat := 66
abbrev m_Mv_makeAll : Nat := 67
abbrev m_Mv_allWanted : Nat := 68
abbrev m_Mv_fill : Nat := 69
abbrev m_Mv_write : Nat := 70
abbrev m_Mv_saveToSpare : Nat := 71
abbrev m_Mv_inPlace : Nat := 72
abbrev m_Vp_reading : Nat := 73
abbrev m_Rd_take : Nat := 74
abbrev m_Vp_back : Nat := 75
abbrev m_Vp_kinds : Nat := 76
abbrev m_Rd_areSo : Nat := 77
abbrev m_Vp_firsts : Nat := 78
abbrev m_Vp_odds : Nat := 79
abbrev m_Vp_greatestShared : Nat := 80
abbrev m_Vp_sheet : Nat := 81
abbrev m_Sh_getRow : Nat := 82
abbrev m_Ja_fill : Nat := 83
abbrev m_Vp_lose : Nat := 84
abbrev m_Sh_loseRow : Nat := 85
abbrev m_Vp_put : Nat := 86
abbrev m_Sh_write : Nat := 87
abbrev m_Sh_cutToLane : Nat := 88
abbrev m_Vp_cell : Nat := 89
abbrev m_Vp_copy : Nat := 90
abbrev m_Vp_tell : Nat := 91
abbrev m_Vp_doubleTelling : Nat := 92
abbrev m_Vp_leaveInTrace : Nat := 93
abbrev m_Vp_bulkyTelling : Nat := 94
abbrev m_Vp_plainTelling : Nat := 95
abbrev m_Vp_label : Nat := 96
abbrev m_Vp_as : Nat := 97
abbrev m_Vp_trace : Nat := 98
abbrev m_Vp_fault : Nat := 99
abbrev m_Vp_many : Nat := 100
abbrev m_Tr_howManyUsedOfAll : Nat := 101
abbrev m_Md_lines : Nat := 102
abbrev m_Md_isSheet : Nat := 103
abbrev m_Md_within : Nat := 104
abbrev m_Md_isSort : Nat := 105
abbrev m_Md_against : Nat := 106
abbrev m_Md_fails : Nat := 107
abbrev m_Md_readAll : Nat := 108
abbrev m_Md_isSign : Nat := 109
abbrev m_Md_readLine : Nat := 110
abbrev m_Md_canBeUsed : Nat := 111
abbrev m_Md_ofLine : Nat := 112
abbrev m_Md_isLine : Nat := 113
abbrev m_Md_liveBehind : Nat := 114
abbrev m_Md_isBelow : Nat := 115
abbrev m_Md_laterUse : Nat := 116
abbrev m_Md_isUser : Nat := 117
abbrev m_Md_size : Nat := 118
abbrev m_Md_colourOf : Nat := 119
abbrev m_Md_findColours : Nat := 120
abbrev m_Md_isOf : Nat := 121
abbrev m_Md_crossing : Nat := 122
abbrev m_Md_doCross : Nat := 123
abbrev m_Md_usersOf : Nat := 124
abbrev m_Md_costOf : Nat := 125
abbrev m_Md_used : Nat := 126
abbrev m_Md_reuse : Nat := 127
abbrev m_Md_canReuse : Nat := 128
abbrev m_Md_grow : Nat := 129
abbrev m_Md_isAboveOr : Nat := 130
abbrev m_Md_cut : Nat := 131
abbrev m_Md_day : Nat := 132
abbrev m_Md_goDay : Nat := 133
abbrev m_Md_tellDay : Nat := 134
abbrev m_Md_greatestPressure : Nat := 135
abbrev m_Md_manyColours : Nat := 136
abbrev m_Md_findHeld : Nat := 137
abbrev m_Md_holds : Nat := 138
abbrev m_Md_usedBy : Nat := 139
abbrev m_Md_drops : Nat := 140
abbrev m_Md_manyCross : Nat := 141
abbrev m_Md_cross : Nat := 142
abbrev m_Md_most : Nat := 143
abbrev m_Md_next : Nat := 144
abbrev m_Md_hold : Nat := 145
abbrev m_Md_copies : Nat := 146
abbrev m_Md_findMoves : Nat := 147
abbrev m_Md_isWanted : Nat := 148
abbrev m_Md_reading : Nat := 149
abbrev m_Md_back : Nat := 150
abbrev m_Md_kinds : Nat := 151
abbrev m_Md_areSo : Nat := 152
abbrev m_Md_firsts : Nat := 153
abbrev m_Md_odds : Nat := 154
abbrev m_Md_inLeastTerms : Nat := 155
abbrev m_Md_sheet : Nat := 156
abbrev m_Md_lose : Nat := 157
abbrev m_Md_put : Nat := 158
abbrev m_Md_cell : Nat := 159
abbrev m_Md_lost : Nat := 160
abbrev m_Md_copy : Nat := 161
abbrev m_Md_tell : Nat := 162
abbrev m_Md_begins : Nat := 163
abbrev m_Md_label : Nat := 164
abbrev m_Md_as : Nat := 165
abbrev m_Md_trace : Nat := 166
abbrev m_Md_fault : Nat := 167
abbrev m_Md_many : Nat := 168
def x_mts : List x_MT := [
  (⟨"ValuePlacesLaw", "law", "([I)Z"⟩, code, 4, some .boolean, 99, 1),
  (⟨"ValuePlaces", "lines", "(IIII)I"⟩, prog_1_method_2_code, 7, some .int, 6, 4),
  (⟨"ValuePlaces", "isSheet", "(I)Z"⟩, prog_1_method_30_code, 1, some .boolean, 99, 1),
  (⟨"ValuePlaces", "isLane", "(I)Z"⟩, prog_1_method_31_code, 1, some .boolean, 99, 1),
  (⟨"ValuePlaces$Sheet", "faultOfCells", "(III)I"⟩, prog_5_method_5_code, 4, some .int, 3, 3),
  (⟨"ValuePlaces$Sheet", "hasCells", "(II)Z"⟩, prog_5_method_4_code, 3, some .boolean, 3, 2),
  (⟨"ValuePlaces", "faulty", "(I)I"⟩, prog_1_method_39_code, 2, some .int, 6, 1),
  (⟨"ValuePlaces$TextReader", "firstFault", "(LValuePlaces$Sheet;II)I"⟩, prog_6_method_2_code, 5, some .int, 4, 3),
  (⟨"ValuePlaces$Sheet", "read", "(I)I"⟩, prog_5_method_6_code, 2, some .int, 3, 1),
  (⟨"ValuePlaces$TextReader", "goesOnWith", "(I)Z"⟩, prog_6_method_3_code, 2, some .boolean, 4, 1),
  (⟨"ValuePlaces$TextReader", "movesTo", "(IZ)Z"⟩, prog_6_method_4_code, 3, some .boolean, 4, 2),
  (⟨"ValuePlaces$TextReader", "takesKind", "(I)Z"⟩, prog_6_method_5_code, 2, some .boolean, 4, 1),
  (⟨"ValuePlaces$TextReader", "takesAbove", "(I)Z"⟩, prog_6_method_6_code, 5, some .boolean, 4, 1),
  (⟨"ValuePlaces$Tree", "isLine", "(I)Z"⟩, prog_7_method_6_code, 2, some .boolean, 5, 1),
  (⟨"ValuePlaces$Tree", "putOn", "(II)V"⟩, prog_7_method_3_code, 4, none, 5, 2),
  (⟨"ValuePlaces$TextReader", "takesUsed", "(I)Z"⟩, prog_6_method_7_code, 2, some .boolean, 4, 1),
  (⟨"ValuePlaces$Tree", "useToo", "(I)Z"⟩, prog_7_method_4_code, 3, some .boolean, 5, 1),
  (⟨"ValuePlaces$Tree", "isBelow", "(II)Z"⟩, prog_7_method_8_code, 3, some .boolean, 5, 2),
  (⟨"ValuePlaces", "inSet", "(II)Z"⟩, prog_1_method_37_code, 2, some .boolean, 99, 2),
  (⟨"ValuePlaces$Tree", "becomeLike", "(LValuePlaces$Tree;)V"⟩, prog_7_method_2_code, 2, none, 5, 1),
  (⟨"ValuePlaces$Readings", "keepOnly", "(I)V"⟩, prog_4_method_3_code, 2, none, 2, 1),
  (⟨"ValuePlaces", "ofLine", "(II)I"⟩, prog_1_method_3_code, 3, some .int, 6, 2),
  (⟨"ValuePlaces$Tree", "liveBehind", "(I)I"⟩, prog_7_method_17_code, 2, some .int, 5, 1),
  (⟨"ValuePlaces$Tree", "usedBelow", "(I)I"⟩, prog_7_method_16_code, 4, some .int, 5, 1),
  (⟨"ValuePlaces$Tree", "pressure", "(I)I"⟩, prog_7_method_18_code, 2, some .int, 5, 1),
  (⟨"java/lang/Integer", "bitCount", "(I)I"⟩, prog_10_method_49_code, 1, some .int, 99, 1),
  (⟨"ValuePlaces$Tree", "colourOf", "(I)I"⟩, prog_7_method_22_code, 2, some .int, 5, 1),
  (⟨"ValuePlaces$Tree", "giveColours", "()V"⟩, prog_7_method_24_code, 5, none, 5, 0),
  (⟨"java/lang/Integer", "numberOfTrailingZeros", "(I)I"⟩, prog_10_method_48_code, 2, some .int, 99, 1),
  (⟨"ValuePlaces$Tree", "crossing", "(I)I"⟩, prog_7_method_20_code, 5, some .int, 5, 1),
  (⟨"ValuePlaces$Tree", "usersOf", "(I)I"⟩, prog_7_method_12_code, 4, some .int, 5, 1),
  (⟨"ValuePlaces$Tree", "cost", "(I)I"⟩, prog_7_method_15_code, 3, some .int, 5, 1),
  (⟨"ValuePlaces$Tree", "howManyUse", "(I)I"⟩, prog_7_method_13_code, 2, some .int, 5, 1),
  (⟨"ValuePlaces", "used", "(II)I"⟩, prog_1_method_4_code, 3, some .int, 6, 2),
  (⟨"ValuePlaces$Tree", "hasPlace", "(II)Z"⟩, prog_7_method_7_code, 3, some .boolean, 5, 2),
  (⟨"ValuePlaces$Tree", "usedIn", "(II)I"⟩, prog_7_method_9_code, 3, some .int, 5, 2),
  (⟨"ValuePlaces", "reuse", "(III)I"⟩, prog_1_method_5_code, 5, some .int, 6, 3),
  (⟨"ValuePlaces$Tree", "mayUse", "(III)Z"⟩, prog_7_method_10_code, 4, some .boolean, 5, 3),
  (⟨"ValuePlaces$Tree", "useInstead", "(III)V"⟩, prog_7_method_11_code, 4, none, 5, 3),
  (⟨"ValuePlaces", "grow", "(IIII)I"⟩, prog_1_method_6_code, 6, some .int, 6, 4),
  (⟨"ValuePlaces", "isKind", "(I)Z"⟩, prog_1_method_32_code, 1, some .boolean, 99, 1),
  (⟨"ValuePlaces", "isLineOrNone", "(I)Z"⟩, prog_1_method_40_code, 2, some .boolean, 6, 1),
  (⟨"ValuePlaces", "wouldBeBelow", "(II)Z"⟩, prog_1_method_41_code, 3, some .boolean, 6, 2),
  (⟨"ValuePlaces", "cut", "()I"⟩, prog_1_method_7_code, 1, some .int, 6, 0),
  (⟨"ValuePlaces$Tree", "takeLast", "()V"⟩, prog_7_method_5_code, 1, none, 5, 0),
  (⟨"ValuePlaces$Readings", "forget", "(I)V"⟩, prog_4_method_4_code, 4, none, 2, 1),
  (⟨"ValuePlaces", "day", "(IIIII)I"⟩, prog_1_method_8_code, 8, some .int, 6, 5),
  (⟨"ValuePlaces", "isDayQuestion", "(I)Z"⟩, prog_1_method_34_code, 1, some .boolean, 99, 1),
  (⟨"ValuePlaces", "isNumbered", "(II)Z"⟩, prog_1_method_33_code, 2, some .boolean, 99, 2),
  (⟨"ValuePlaces", "firstWrong", "(LValuePlaces$Sheet;II)I"⟩, prog_1_method_42_code, 9, some .int, 6, 3),
  (⟨"ValuePlaces", "ofTrial", "(I)I"⟩, prog_1_method_43_code, 2, some .int, 6, 1),
  (⟨"ValuePlaces$Tree", "greatestPressure", "()I"⟩, prog_7_method_19_code, 3, some .int, 5, 0),
  (⟨"ValuePlaces$Tree", "howManyColours", "()I"⟩, prog_7_method_23_code, 3, some .int, 5, 0),
  (⟨"ValuePlaces$Holding", "goThrough", "(LValuePlaces$Tree;I)V"⟩, prog_2_method_2_code, 5, none, 0, 2),
  (⟨"ValuePlaces$Holding", "passLine", "(LValuePlaces$Tree;II)V"⟩, prog_2_method_3_code, 6, none, 0, 3),
  (⟨"ValuePlaces$Holding", "makeRoom", "(LValuePlaces$Tree;III)V"⟩, prog_2_method_4_code, 10, none, 0, 4),
  (⟨"ValuePlaces$Tree", "laterUse", "(II)I"⟩, prog_7_method_25_code, 6, some .int, 5, 2),
  (⟨"ValuePlaces$Holding", "dropValue", "(IZ)V"⟩, prog_2_method_5_code, 3, none, 0, 2),
  (⟨"ValuePlaces$Tree", "howManyCross", "()I"⟩, prog_7_method_21_code, 3, some .int, 5, 0),
  (⟨"ValuePlaces", "cross", "(II)I"⟩, prog_1_method_9_code, 3, some .int, 6, 2),
  (⟨"ValuePlaces", "most", "(I)I"⟩, prog_1_method_10_code, 2, some .int, 6, 1),
  (⟨"ValuePlaces", "next", "(II)I"⟩, prog_1_method_11_code, 3, some .int, 6, 2),
  (⟨"ValuePlaces", "hold", "(II)I"⟩, prog_1_method_12_code, 3, some .int, 6, 2),
  (⟨"ValuePlaces", "isHoldQuestion", "(I)Z"⟩, prog_1_method_35_code, 1, some .boolean, 99, 1),
  (⟨"ValuePlaces", "copies", "(IIIII)I"⟩, prog_1_method_13_code, 7, some .int, 6, 5),
  (⟨"ValuePlaces", "isCopiesQuestion", "(I)Z"⟩, prog_1_method_36_code, 1, some .boolean, 99, 1),
  (⟨"ValuePlaces$Moves", "areTold", "(LValuePlaces$Sheet;II)Z"⟩, prog_3_method_2_code, 6, some .boolean, 1, 3),
  (⟨"ValuePlaces$Moves", "makeAll", "()V"⟩, prog_3_method_3_code, 3, none, 1, 0),
  (⟨"ValuePlaces$Moves", "allWanted", "()I"⟩, prog_3_method_4_code, 3, some .int, 1, 0),
  (⟨"ValuePlaces$Moves", "fill", "(I)V"⟩, prog_3_method_5_code, 2, none, 1, 1),
  (⟨"ValuePlaces$Moves", "write", "(II)V"⟩, prog_3_method_7_code, 3, none, 1, 2),
  (⟨"ValuePlaces$Moves", "saveToSpare", "(I)V"⟩, prog_3_method_6_code, 3, none, 1, 1),
  (⟨"ValuePlaces$Moves", "inPlace", "(I)I"⟩, prog_3_method_8_code, 2, some .int, 1, 1),
  (⟨"ValuePlaces", "reading", "(II)I"⟩, prog_1_method_14_code, 4, some .int, 6, 2),
  (⟨"ValuePlaces$Readings", "take", "(II)V"⟩, prog_4_method_2_code, 3, none, 2, 2),
  (⟨"ValuePlaces", "back", "(I)I"⟩, prog_1_method_15_code, 2, some .int, 6, 1),
  (⟨"ValuePlaces", "kinds", "(I)I"⟩, prog_1_method_16_code, 4, some .int, 6, 1),
  (⟨"ValuePlaces$Readings", "areSo", "(LValuePlaces$Tree;)Z"⟩, prog_4_method_5_code, 3, some .boolean, 2, 1),
  (⟨"ValuePlaces", "firsts", "(I)I"⟩, prog_1_method_17_code, 4, some .int, 6, 1),
  (⟨"ValuePlaces", "odds", "(I)J"⟩, prog_1_method_18_code, 5, some .long, 6, 1),
  (⟨"ValuePlaces", "greatestShared", "(II)I"⟩, prog_1_method_38_code, 3, some .int, 99, 2),
  (⟨"ValuePlaces", "sheet", "(III)I"⟩, prog_1_method_19_code, 4, some .int, 6, 3),
  (⟨"ValuePlaces$Sheet", "getRow", "(II)V"⟩, prog_5_method_2_code, 3, none, 3, 2),
  (⟨"java/util/Arrays", "fill", "([II)V"⟩, prog_13_method_103_code, 4, none, 99, 2),
  (⟨"ValuePlaces", "lose", "(I)I"⟩, prog_1_method_20_code, 3, some .int, 6, 1),
  (⟨"ValuePlaces$Sheet", "loseRow", "()V"⟩, prog_5_method_3_code, 1, none, 3, 0),
  (⟨"ValuePlaces", "put", "(III)I"⟩, prog_1_method_21_code, 5, some .int, 6, 3),
  (⟨"ValuePlaces$Sheet", "write", "(II)V"⟩, prog_5_method_7_code, 3, none, 3, 2),
  (⟨"ValuePlaces$Sheet", "cutToLane", "(I)I"⟩, prog_5_method_8_code, 2, some .int, 3, 1),
  (⟨"ValuePlaces", "cell", "(III)J"⟩, prog_1_method_22_code, 4, some .long, 6, 3),
  (⟨"ValuePlaces", "copy", "(IIIII)I"⟩, prog_1_method_23_code, 8, some .int, 6, 5),
  (⟨"ValuePlaces", "tell", "(I)I"⟩, prog_1_method_24_code, 2, some .int, 6, 1),
  (⟨"ValuePlaces", "doubleTelling", "(I)I"⟩, prog_1_method_47_code, 3, some .int, 6, 1),
  (⟨"ValuePlaces", "leaveInTrace", "(I)V"⟩, prog_1_method_44_code, 2, none, 6, 1),
  (⟨"ValuePlaces", "bulkyTelling", "(I)I"⟩, prog_1_method_46_code, 2, some .int, 6, 1),
  (⟨"ValuePlaces", "plainTelling", "(I)I"⟩, prog_1_method_45_code, 2, some .int, 6, 1),
  (⟨"ValuePlaces", "label", "(I)I"⟩, prog_1_method_25_code, 2, some .int, 6, 1),
  (⟨"ValuePlaces", "as", "(II)I"⟩, prog_1_method_26_code, 3, some .int, 6, 2),
  (⟨"ValuePlaces", "trace", "()I"⟩, prog_1_method_27_code, 1, some .int, 6, 0),
  (⟨"ValuePlaces", "fault", "()I"⟩, prog_1_method_28_code, 1, some .int, 6, 0),
  (⟨"ValuePlaces", "many", "(I)I"⟩, prog_1_method_29_code, 2, some .int, 6, 1),
  (⟨"ValuePlaces$Tree", "howManyUsedOfAll", "()I"⟩, prog_7_method_14_code, 3, some .int, 5, 0),
  (⟨"ValuePlacesModel", "lines", "(IIII)I"⟩, prog_9_method_13_code, 8, some .int, 7, 4),
  (⟨"ValuePlacesModel", "isSheet", "(I)Z"⟩, prog_9_method_6_code, 1, some .boolean, 99, 1),
  (⟨"ValuePlacesModel", "within", "(III)Z"⟩, prog_9_method_5_code, 3, some .boolean, 99, 3),
  (⟨"ValuePlacesModel", "isSort", "(I)Z"⟩, prog_9_method_7_code, 1, some .boolean, 99, 1),
  (⟨"ValuePlacesModel", "against", "(IIII)I"⟩, prog_9_method_8_code, 5, some .int, 7, 4),
  (⟨"ValuePlacesModel", "fails", "(I)I"⟩, prog_9_method_3_code, 2, some .int, 7, 1),
  (⟨"ValuePlacesModel", "readAll", "(I)Z"⟩, prog_9_method_14_code, 2, some .boolean, 7, 1),
  (⟨"ValuePlacesModel", "isSign", "(II)Z"⟩, prog_9_method_12_code, 3, some .boolean, 7, 2),
  (⟨"ValuePlacesModel", "readLine", "(II)Z"⟩, prog_9_method_15_code, 4, some .boolean, 7, 2),
  (⟨"ValuePlacesModel", "canBeUsed", "(II)Z"⟩, prog_9_method_16_code, 4, some .boolean, 7, 2),
  (⟨"ValuePlacesModel", "ofLine", "(II)I"⟩, prog_9_method_30_code, 3, some .int, 7, 2),
  (⟨"ValuePlacesModel", "isLine", "(I)Z"⟩, prog_9_method_9_code, 2, some .boolean, 7, 1),
  (⟨"ValuePlacesModel", "liveBehind", "(I)I"⟩, prog_9_method_22_code, 4, some .int, 7, 1),
  (⟨"ValuePlacesModel", "isBelow", "(II)Z"⟩, prog_9_method_17_code, 4, some .boolean, 7, 2),
  (⟨"ValuePlacesModel", "laterUse", "(II)I"⟩, prog_9_method_21_code, 7, some .int, 7, 2),
  (⟨"ValuePlacesModel", "isUser", "(II)Z"⟩, prog_9_method_18_code, 4, some .boolean, 7, 2),
  (⟨"ValuePlacesModel", "size", "(I)I"⟩, prog_9_method_11_code, 3, some .int, 99, 1),
  (⟨"ValuePlacesModel", "colourOf", "(I)I"⟩, prog_9_method_29_code, 2, some .int, 7, 1),
  (⟨"ValuePlacesModel", "findColours", "()V"⟩, prog_9_method_25_code, 5, none, 7, 0),
  (⟨"ValuePlacesModel", "isOf", "(II)Z"⟩, prog_9_method_10_code, 2, some .boolean, 99, 2),
  (⟨"ValuePlacesModel", "crossing", "(I)I"⟩, prog_9_method_24_code, 4, some .int, 7, 1),
  (⟨"ValuePlacesModel", "doCross", "(II)Z"⟩, prog_9_method_23_code, 5, some .boolean, 7, 2),
  (⟨"ValuePlacesModel", "usersOf", "(I)I"⟩, prog_9_method_19_code, 4, some .int, 7, 1),
  (⟨"ValuePlacesModel", "costOf", "(I)I"⟩, prog_9_method_20_code, 3, some .int, 7, 1),
  (⟨"ValuePlacesModel", "used", "(II)I"⟩, prog_9_method_31_code, 3, some .int, 7, 2),
  (⟨"ValuePlacesModel", "reuse", "(III)I"⟩, prog_9_method_33_code, 5, some .int, 7, 3),
  (⟨"ValuePlacesModel", "canReuse", "(III)Z"⟩, prog_9_method_32_code, 4, some .boolean, 7, 3),
  (⟨"ValuePlacesModel", "grow", "(IIII)I"⟩, prog_9_method_35_code, 5, some .int, 7, 4),
  (⟨"ValuePlacesModel", "isAboveOr", "(II)Z"⟩, prog_9_method_34_code, 3, some .boolean, 7, 2),
  (⟨"ValuePlacesModel", "cut", "()I"⟩, prog_9_method_36_code, 3, some .int, 7, 0),
  (⟨"ValuePlacesModel", "day", "(IIIII)I"⟩, prog_9_method_38_code, 10, some .int, 7, 5),
  (⟨"ValuePlacesModel", "goDay", "(II)I"⟩, prog_9_method_37_code, 7, some .int, 7, 2),
  (⟨"ValuePlacesModel", "tellDay", "(I)I"⟩, prog_9_method_39_code, 2, some .int, 7, 1),
  (⟨"ValuePlacesModel", "greatestPressure", "()I"⟩, prog_9_method_27_code, 3, some .int, 7, 0),
  (⟨"ValuePlacesModel", "manyColours", "()I"⟩, prog_9_method_26_code, 3, some .int, 7, 0),
  (⟨"ValuePlacesModel", "findHeld", "(I)V"⟩, prog_9_method_46_code, 3, none, 7, 1),
  (⟨"ValuePlacesModel", "holds", "(II)V"⟩, prog_9_method_45_code, 5, none, 7, 2),
  (⟨"ValuePlacesModel", "usedBy", "(I)I"⟩, prog_9_method_44_code, 4, some .int, 7, 1),
  (⟨"ValuePlacesModel", "drops", "(II)V"⟩, prog_9_method_43_code, 7, none, 7, 2),
  (⟨"ValuePlacesModel", "manyCross", "()I"⟩, prog_9_method_28_code, 4, some .int, 7, 0),
  (⟨"ValuePlacesModel", "cross", "(II)I"⟩, prog_9_method_40_code, 3, some .int, 7, 2),
  (⟨"ValuePlacesModel", "most", "(I)I"⟩, prog_9_method_41_code, 2, some .int, 7, 1),
  (⟨"ValuePlacesModel", "next", "(II)I"⟩, prog_9_method_42_code, 3, some .int, 7, 2),
  (⟨"ValuePlacesModel", "hold", "(II)I"⟩, prog_9_method_47_code, 3, some .int, 7, 2),
  (⟨"ValuePlacesModel", "copies", "(IIIII)I"⟩, prog_9_method_50_code, 8, some .int, 7, 5),
  (⟨"ValuePlacesModel", "findMoves", "(I)V"⟩, prog_9_method_49_code, 7, none, 7, 1),
  (⟨"ValuePlacesModel", "isWanted", "(II)Z"⟩, prog_9_method_48_code, 4, some .boolean, 7, 2),
  (⟨"ValuePlacesModel", "reading", "(II)I"⟩, prog_9_method_51_code, 3, some .int, 7, 2),
  (⟨"ValuePlacesModel", "back", "(I)I"⟩, prog_9_method_52_code, 2, some .int, 7, 1),
  (⟨"ValuePlacesModel", "kinds", "(I)I"⟩, prog_9_method_54_code, 5, some .int, 7, 1),
  (⟨"ValuePlacesModel", "areSo", "()Z"⟩, prog_9_method_53_code, 2, some .boolean, 7, 0),
  (⟨"ValuePlacesModel", "firsts", "(I)I"⟩, prog_9_method_55_code, 5, some .int, 7, 1),
  (⟨"ValuePlacesModel", "odds", "(I)J"⟩, prog_9_method_57_code, 2, some .long, 7, 1),
  (⟨"ValuePlacesModel", "inLeastTerms", "(JJI)J"⟩, prog_9_method_56_code, 11, some .long, 99, 3),
  (⟨"ValuePlacesModel", "sheet", "(III)I"⟩, prog_9_method_58_code, 5, some .int, 7, 3),
  (⟨"ValuePlacesModel", "lose", "(I)I"⟩, prog_9_method_59_code, 3, some .int, 7, 1),
  (⟨"ValuePlacesModel", "put", "(III)I"⟩, prog_9_method_60_code, 4, some .int, 7, 3),
  (⟨"ValuePlacesModel", "cell", "(III)J"⟩, prog_9_method_61_code, 4, some .long, 7, 3),
  (⟨"ValuePlacesModel", "lost", "(I)J"⟩, prog_9_method_4_code, 2, some .long, 7, 1),
  (⟨"ValuePlacesModel", "copy", "(IIIII)I"⟩, prog_9_method_62_code, 10, some .int, 7, 5),
  (⟨"ValuePlacesModel", "tell", "(I)I"⟩, prog_9_method_64_code, 3, some .int, 7, 1),
  (⟨"ValuePlacesModel", "begins", "(I)V"⟩, prog_9_method_63_code, 2, none, 7, 1),
  (⟨"ValuePlacesModel", "label", "(I)I"⟩, prog_9_method_65_code, 2, some .int, 7, 1),
  (⟨"ValuePlacesModel", "as", "(II)I"⟩, prog_9_method_66_code, 3, some .int, 7, 2),
  (⟨"ValuePlacesModel", "trace", "()I"⟩, prog_9_method_67_code, 1, some .int, 7, 0),
  (⟨"ValuePlacesModel", "fault", "()I"⟩, prog_9_method_68_code, 1, some .int, 7, 0),
  (⟨"ValuePlacesModel", "many", "(I)I"⟩, prog_9_method_69_code, 4, some .int, 7, 1)]
end
section
abbrev xRow : Type := Instr × Nat × Nat × Nat
def tl_0_0 : List (Nat × xRow) := [(18, .iload_n 3, 0, 0, 0), (19, .aload_n 0, 0, 0, 0), (20, .arraylength, 0, 0, 0), (21, .bipush 6, 0, 0, 0), (23, .isub, 0, 0, 0), (24, .if_icmp .gt 1088, 1112, 0, 0), (27, .aload_n 0, 0, 0, 0), (28, .iload_n 3, 0, 0, 0), (29, .iaload, 0, 0, 0), (30, .bipush 31, 0, 0, 0), (32, .iand, 0, 0, 0), (33, .tableswitch 1073 0 27 #[127, 180, 213, 246, 289, 342, 355, 418, 451, 474, 507, 540, 603, 636, 659, 682, 705, 729, 772, 795, 838, 882, 945, 968, 991, 1024, 1037, 1050], 0, 0, 0), (160, .aload_n 1, 0, 0, 0), (161, .aload_n 0, 0, 0, 0), (162, .iload_n 3, 0, 0, 0), (163, .iconst 1, 0, 0, 0), (164, .iadd, 0, 0, 0), (165, .iaload, 0, 0, 0), (166, .aload_n 0, 0, 0, 0), (167, .iload_n 3, 0, 0, 0), (168, .iconst 2, 0, 0, 0), (169, .iadd, 0, 0, 0), (170, .iaload, 0, 0, 0), (171, .aload_n 0, 0, 0, 0), (172, .iload_n 3, 0, 0, 0), (173, .iconst 3, 0, 0, 0), (174, .iadd, 0, 0, 0), (175, .iaload, 0, 0, 0), (176, .aload_n 0, 0, 0, 0), (177, .iload_n 3, 0, 0, 0), (178, .iconst 4, 0, 0, 0), (179, .iadd, 0, 0, 0), (180, .iaload, 0, 0, 0), (181, .invokevirtual 13, 1, 5, 245), (184, .aload_n 2, 0, 0, 0), (185, .aload_n 0, 0, 0, 0), (186, .iload_n 3, 0, 0, 0), (187, .iconst 1, 0, 0, 0), (188, .iadd, 0, 0, 0), (189, .iaload, 0, 0, 0)]
def tl_0_1 : List (Nat × xRow) := [(190, .aload_n 0, 0, 0, 0), (191, .iload_n 3, 0, 0, 0), (192, .iconst 2, 0, 0, 0), (193, .iadd, 0, 0, 0), (194, .iaload, 0, 0, 0), (195, .aload_n 0, 0, 0, 0), (196, .iload_n 3, 0, 0, 0), (197, .iconst 3, 0, 0, 0), (198, .iadd, 0, 0, 0), (199, .iaload, 0, 0, 0), (200, .aload_n 0, 0, 0, 0), (201, .iload_n 3, 0, 0, 0), (202, .iconst 4, 0, 0, 0), (203, .iadd, 0, 0, 0), (204, .iaload, 0, 0, 0), (205, .invokevirtual 17, 102, 5, 776), (208, .if_icmp .eq 898, 1106, 0, 0), (211, .iconst 0, 0, 0, 0), (212, .ireturn, 1, 0, 0), (213, .aload_n 1, 0, 0, 0), (214, .aload_n 0, 0, 0, 0), (215, .iload_n 3, 0, 0, 0), (216, .iconst 1, 0, 0, 0), (217, .iadd, 0, 0, 0), (218, .iaload, 0, 0, 0), (219, .aload_n 0, 0, 0, 0), (220, .iload_n 3, 0, 0, 0), (221, .iconst 2, 0, 0, 0), (222, .iadd, 0, 0, 0), (223, .iaload, 0, 0, 0), (224, .invokevirtual 18, 21, 3, 326), (227, .aload_n 2, 0, 0, 0), (228, .aload_n 0, 0, 0, 0), (229, .iload_n 3, 0, 0, 0), (230, .iconst 1, 0, 0, 0), (231, .iadd, 0, 0, 0), (232, .iaload, 0, 0, 0), (233, .aload_n 0, 0, 0, 0), (234, .iload_n 3, 0, 0, 0), (235, .iconst 2, 0, 0, 0)]
def tl_0_2 : List (Nat × xRow) := [(236, .iadd, 0, 0, 0), (237, .iaload, 0, 0, 0), (238, .invokevirtual 22, 112, 3, 813), (241, .if_icmp .eq 865, 1106, 0, 0), (244, .iconst 0, 0, 0, 0), (245, .ireturn, 1, 0, 0), (246, .aload_n 1, 0, 0, 0), (247, .aload_n 0, 0, 0, 0), (248, .iload_n 3, 0, 0, 0), (249, .iconst 1, 0, 0, 0), (250, .iadd, 0, 0, 0), (251, .iaload, 0, 0, 0), (252, .aload_n 0, 0, 0, 0), (253, .iload_n 3, 0, 0, 0), (254, .iconst 2, 0, 0, 0), (255, .iadd, 0, 0, 0), (256, .iaload, 0, 0, 0), (257, .invokevirtual 23, 33, 3, 379), (260, .aload_n 2, 0, 0, 0), (261, .aload_n 0, 0, 0, 0), (262, .iload_n 3, 0, 0, 0), (263, .iconst 1, 0, 0, 0), (264, .iadd, 0, 0, 0), (265, .iaload, 0, 0, 0), (266, .aload_n 0, 0, 0, 0), (267, .iload_n 3, 0, 0, 0), (268, .iconst 2, 0, 0, 0), (269, .iadd, 0, 0, 0), (270, .iaload, 0, 0, 0), (271, .invokevirtual 26, 126, 3, 867), (274, .if_icmp .eq 832, 1106, 0, 0), (277, .iconst 0, 0, 0, 0), (278, .ireturn, 1, 0, 0), (279, .aload_n 1, 0, 0, 0), (280, .aload_n 0, 0, 0, 0), (281, .iload_n 3, 0, 0, 0), (282, .iconst 1, 0, 0, 0), (283, .iadd, 0, 0, 0), (284, .iaload, 0, 0, 0), (285, .aload_n 0, 0, 0, 0)]
def tl_0_3 : List (Nat × xRow) := [(286, .iload_n 3, 0, 0, 0), (287, .iconst 2, 0, 0, 0), (288, .iadd, 0, 0, 0), (289, .iaload, 0, 0, 0), (290, .aload_n 0, 0, 0, 0), (291, .iload_n 3, 0, 0, 0), (292, .iconst 3, 0, 0, 0), (293, .iadd, 0, 0, 0), (294, .iaload, 0, 0, 0), (295, .invokevirtual 27, 36, 4, 392), (298, .aload_n 2, 0, 0, 0), (299, .aload_n 0, 0, 0, 0), (300, .iload_n 3, 0, 0, 0), (301, .iconst 1, 0, 0, 0), (302, .iadd, 0, 0, 0), (303, .iaload, 0, 0, 0), (304, .aload_n 0, 0, 0, 0), (305, .iload_n 3, 0, 0, 0), (306, .iconst 2, 0, 0, 0), (307, .iadd, 0, 0, 0), (308, .iaload, 0, 0, 0), (309, .aload_n 0, 0, 0, 0), (310, .iload_n 3, 0, 0, 0), (311, .iconst 3, 0, 0, 0), (312, .iadd, 0, 0, 0), (313, .iaload, 0, 0, 0), (314, .invokevirtual 31, 127, 4, 871), (317, .if_icmp .eq 789, 1106, 0, 0), (320, .iconst 0, 0, 0, 0), (321, .ireturn, 1, 0, 0), (322, .aload_n 1, 0, 0, 0), (323, .aload_n 0, 0, 0, 0), (324, .iload_n 3, 0, 0, 0), (325, .iconst 1, 0, 0, 0), (326, .iadd, 0, 0, 0), (327, .iaload, 0, 0, 0), (328, .aload_n 0, 0, 0, 0), (329, .iload_n 3, 0, 0, 0), (330, .iconst 2, 0, 0, 0), (331, .iadd, 0, 0, 0)]
def tl_0_4 : List (Nat × xRow) := [(332, .iaload, 0, 0, 0), (333, .aload_n 0, 0, 0, 0), (334, .iload_n 3, 0, 0, 0), (335, .iconst 3, 0, 0, 0), (336, .iadd, 0, 0, 0), (337, .iaload, 0, 0, 0), (338, .aload_n 0, 0, 0, 0), (339, .iload_n 3, 0, 0, 0), (340, .iconst 4, 0, 0, 0), (341, .iadd, 0, 0, 0), (342, .iaload, 0, 0, 0), (343, .invokevirtual 32, 39, 5, 406), (346, .aload_n 2, 0, 0, 0), (347, .aload_n 0, 0, 0, 0), (348, .iload_n 3, 0, 0, 0), (349, .iconst 1, 0, 0, 0), (350, .iadd, 0, 0, 0), (351, .iaload, 0, 0, 0), (352, .aload_n 0, 0, 0, 0), (353, .iload_n 3, 0, 0, 0), (354, .iconst 2, 0, 0, 0), (355, .iadd, 0, 0, 0), (356, .iaload, 0, 0, 0), (357, .aload_n 0, 0, 0, 0), (358, .iload_n 3, 0, 0, 0), (359, .iconst 3, 0, 0, 0), (360, .iadd, 0, 0, 0), (361, .iaload, 0, 0, 0), (362, .aload_n 0, 0, 0, 0), (363, .iload_n 3, 0, 0, 0), (364, .iconst 4, 0, 0, 0), (365, .iadd, 0, 0, 0), (366, .iaload, 0, 0, 0), (367, .invokevirtual 35, 129, 5, 879), (370, .if_icmp .eq 736, 1106, 0, 0), (373, .iconst 0, 0, 0, 0), (374, .ireturn, 1, 0, 0), (375, .aload_n 1, 0, 0, 0), (376, .invokevirtual 36, 43, 1, 424), (379, .aload_n 2, 0, 0, 0)]
def tl_0_5 : List (Nat × xRow) := [(380, .invokevirtual 40, 131, 1, 887), (383, .if_icmp .eq 723, 1106, 0, 0), (386, .iconst 0, 0, 0, 0), (387, .ireturn, 1, 0, 0), (388, .aload_n 1, 0, 0, 0), (389, .aload_n 0, 0, 0, 0), (390, .iload_n 3, 0, 0, 0), (391, .iconst 1, 0, 0, 0), (392, .iadd, 0, 0, 0), (393, .iaload, 0, 0, 0), (394, .aload_n 0, 0, 0, 0), (395, .iload_n 3, 0, 0, 0), (396, .iconst 2, 0, 0, 0), (397, .iadd, 0, 0, 0), (398, .iaload, 0, 0, 0), (399, .aload_n 0, 0, 0, 0), (400, .iload_n 3, 0, 0, 0), (401, .iconst 3, 0, 0, 0), (402, .iadd, 0, 0, 0), (403, .iaload, 0, 0, 0), (404, .aload_n 0, 0, 0, 0), (405, .iload_n 3, 0, 0, 0), (406, .iconst 4, 0, 0, 0), (407, .iadd, 0, 0, 0), (408, .iaload, 0, 0, 0), (409, .aload_n 0, 0, 0, 0), (410, .iload_n 3, 0, 0, 0), (411, .iconst 5, 0, 0, 0), (412, .iadd, 0, 0, 0), (413, .iaload, 0, 0, 0), (414, .invokevirtual 41, 46, 6, 436), (417, .aload_n 2, 0, 0, 0), (418, .aload_n 0, 0, 0, 0), (419, .iload_n 3, 0, 0, 0), (420, .iconst 1, 0, 0, 0), (421, .iadd, 0, 0, 0), (422, .iaload, 0, 0, 0), (423, .aload_n 0, 0, 0, 0), (424, .iload_n 3, 0, 0, 0), (425, .iconst 2, 0, 0, 0)]
def tl_0_6 : List (Nat × xRow) := [(426, .iadd, 0, 0, 0), (427, .iaload, 0, 0, 0), (428, .aload_n 0, 0, 0, 0), (429, .iload_n 3, 0, 0, 0), (430, .iconst 3, 0, 0, 0), (431, .iadd, 0, 0, 0), (432, .iaload, 0, 0, 0), (433, .aload_n 0, 0, 0, 0), (434, .iload_n 3, 0, 0, 0), (435, .iconst 4, 0, 0, 0), (436, .iadd, 0, 0, 0), (437, .iaload, 0, 0, 0), (438, .aload_n 0, 0, 0, 0), (439, .iload_n 3, 0, 0, 0), (440, .iconst 5, 0, 0, 0), (441, .iadd, 0, 0, 0), (442, .iaload, 0, 0, 0), (443, .invokevirtual 45, 132, 6, 891), (446, .if_icmp .eq 660, 1106, 0, 0), (449, .iconst 0, 0, 0, 0), (450, .ireturn, 1, 0, 0), (451, .aload_n 1, 0, 0, 0), (452, .aload_n 0, 0, 0, 0), (453, .iload_n 3, 0, 0, 0), (454, .iconst 1, 0, 0, 0), (455, .iadd, 0, 0, 0), (456, .iaload, 0, 0, 0), (457, .aload_n 0, 0, 0, 0), (458, .iload_n 3, 0, 0, 0), (459, .iconst 2, 0, 0, 0), (460, .iadd, 0, 0, 0), (461, .iaload, 0, 0, 0), (462, .invokevirtual 46, 59, 3, 500), (465, .aload_n 2, 0, 0, 0), (466, .aload_n 0, 0, 0, 0), (467, .iload_n 3, 0, 0, 0), (468, .iconst 1, 0, 0, 0), (469, .iadd, 0, 0, 0), (470, .iaload, 0, 0, 0), (471, .aload_n 0, 0, 0, 0)]
def tl_0_7 : List (Nat × xRow) := [(472, .iload_n 3, 0, 0, 0), (473, .iconst 2, 0, 0, 0), (474, .iadd, 0, 0, 0), (475, .iaload, 0, 0, 0), (476, .invokevirtual 49, 142, 3, 931), (479, .if_icmp .eq 627, 1106, 0, 0), (482, .iconst 0, 0, 0, 0), (483, .ireturn, 1, 0, 0), (484, .aload_n 1, 0, 0, 0), (485, .aload_n 0, 0, 0, 0), (486, .iload_n 3, 0, 0, 0), (487, .iconst 1, 0, 0, 0), (488, .iadd, 0, 0, 0), (489, .iaload, 0, 0, 0), (490, .invokevirtual 50, 60, 2, 505), (493, .aload_n 2, 0, 0, 0), (494, .aload_n 0, 0, 0, 0), (495, .iload_n 3, 0, 0, 0), (496, .iconst 1, 0, 0, 0), (497, .iadd, 0, 0, 0), (498, .iaload, 0, 0, 0), (499, .invokevirtual 54, 143, 2, 935), (502, .if_icmp .eq 604, 1106, 0, 0), (505, .iconst 0, 0, 0, 0), (506, .ireturn, 1, 0, 0), (507, .aload_n 1, 0, 0, 0), (508, .aload_n 0, 0, 0, 0), (509, .iload_n 3, 0, 0, 0), (510, .iconst 1, 0, 0, 0), (511, .iadd, 0, 0, 0), (512, .iaload, 0, 0, 0), (513, .aload_n 0, 0, 0, 0), (514, .iload_n 3, 0, 0, 0), (515, .iconst 2, 0, 0, 0), (516, .iadd, 0, 0, 0), (517, .iaload, 0, 0, 0), (518, .invokevirtual 55, 61, 3, 509), (521, .aload_n 2, 0, 0, 0), (522, .aload_n 0, 0, 0, 0), (523, .iload_n 3, 0, 0, 0)]
def tl_0_8 : List (Nat × xRow) := [(524, .iconst 1, 0, 0, 0), (525, .iadd, 0, 0, 0), (526, .iaload, 0, 0, 0), (527, .aload_n 0, 0, 0, 0), (528, .iload_n 3, 0, 0, 0), (529, .iconst 2, 0, 0, 0), (530, .iadd, 0, 0, 0), (531, .iaload, 0, 0, 0), (532, .invokevirtual 58, 144, 3, 939), (535, .if_icmp .eq 571, 1106, 0, 0), (538, .iconst 0, 0, 0, 0), (539, .ireturn, 1, 0, 0), (540, .aload_n 1, 0, 0, 0), (541, .aload_n 0, 0, 0, 0), (542, .iload_n 3, 0, 0, 0), (543, .iconst 1, 0, 0, 0), (544, .iadd, 0, 0, 0), (545, .iaload, 0, 0, 0), (546, .aload_n 0, 0, 0, 0), (547, .iload_n 3, 0, 0, 0), (548, .iconst 2, 0, 0, 0), (549, .iadd, 0, 0, 0), (550, .iaload, 0, 0, 0), (551, .invokevirtual 59, 62, 3, 514), (554, .aload_n 2, 0, 0, 0), (555, .aload_n 0, 0, 0, 0), (556, .iload_n 3, 0, 0, 0), (557, .iconst 1, 0, 0, 0), (558, .iadd, 0, 0, 0), (559, .iaload, 0, 0, 0), (560, .aload_n 0, 0, 0, 0), (561, .iload_n 3, 0, 0, 0), (562, .iconst 2, 0, 0, 0), (563, .iadd, 0, 0, 0), (564, .iaload, 0, 0, 0), (565, .invokevirtual 62, 145, 3, 943), (568, .if_icmp .eq 538, 1106, 0, 0), (571, .iconst 0, 0, 0, 0), (572, .ireturn, 1, 0, 0), (573, .aload_n 1, 0, 0, 0)]
def tl_0_9 : List (Nat × xRow) := [(574, .aload_n 0, 0, 0, 0), (575, .iload_n 3, 0, 0, 0), (576, .iconst 1, 0, 0, 0), (577, .iadd, 0, 0, 0), (578, .iaload, 0, 0, 0), (579, .aload_n 0, 0, 0, 0), (580, .iload_n 3, 0, 0, 0), (581, .iconst 2, 0, 0, 0), (582, .iadd, 0, 0, 0), (583, .iaload, 0, 0, 0), (584, .aload_n 0, 0, 0, 0), (585, .iload_n 3, 0, 0, 0), (586, .iconst 3, 0, 0, 0), (587, .iadd, 0, 0, 0), (588, .iaload, 0, 0, 0), (589, .aload_n 0, 0, 0, 0), (590, .iload_n 3, 0, 0, 0), (591, .iconst 4, 0, 0, 0), (592, .iadd, 0, 0, 0), (593, .iaload, 0, 0, 0), (594, .aload_n 0, 0, 0, 0), (595, .iload_n 3, 0, 0, 0), (596, .iconst 5, 0, 0, 0), (597, .iadd, 0, 0, 0), (598, .iaload, 0, 0, 0), (599, .invokevirtual 63, 64, 6, 521), (602, .aload_n 2, 0, 0, 0), (603, .aload_n 0, 0, 0, 0), (604, .iload_n 3, 0, 0, 0), (605, .iconst 1, 0, 0, 0), (606, .iadd, 0, 0, 0), (607, .iaload, 0, 0, 0), (608, .aload_n 0, 0, 0, 0), (609, .iload_n 3, 0, 0, 0), (610, .iconst 2, 0, 0, 0), (611, .iadd, 0, 0, 0), (612, .iaload, 0, 0, 0), (613, .aload_n 0, 0, 0, 0), (614, .iload_n 3, 0, 0, 0), (615, .iconst 3, 0, 0, 0)]
def tl_0_10 : List (Nat × xRow) := [(616, .iadd, 0, 0, 0), (617, .iaload, 0, 0, 0), (618, .aload_n 0, 0, 0, 0), (619, .iload_n 3, 0, 0, 0), (620, .iconst 4, 0, 0, 0), (621, .iadd, 0, 0, 0), (622, .iaload, 0, 0, 0), (623, .aload_n 0, 0, 0, 0), (624, .iload_n 3, 0, 0, 0), (625, .iconst 5, 0, 0, 0), (626, .iadd, 0, 0, 0), (627, .iaload, 0, 0, 0), (628, .invokevirtual 66, 146, 6, 947), (631, .if_icmp .eq 475, 1106, 0, 0), (634, .iconst 0, 0, 0, 0), (635, .ireturn, 1, 0, 0), (636, .aload_n 1, 0, 0, 0), (637, .aload_n 0, 0, 0, 0), (638, .iload_n 3, 0, 0, 0), (639, .iconst 1, 0, 0, 0), (640, .iadd, 0, 0, 0), (641, .iaload, 0, 0, 0), (642, .aload_n 0, 0, 0, 0), (643, .iload_n 3, 0, 0, 0), (644, .iconst 2, 0, 0, 0), (645, .iadd, 0, 0, 0), (646, .iaload, 0, 0, 0), (647, .invokevirtual 67, 73, 3, 561), (650, .aload_n 2, 0, 0, 0), (651, .aload_n 0, 0, 0, 0), (652, .iload_n 3, 0, 0, 0), (653, .iconst 1, 0, 0, 0), (654, .iadd, 0, 0, 0), (655, .iaload, 0, 0, 0), (656, .aload_n 0, 0, 0, 0), (657, .iload_n 3, 0, 0, 0), (658, .iconst 2, 0, 0, 0), (659, .iadd, 0, 0, 0), (660, .iaload, 0, 0, 0), (661, .invokevirtual 70, 149, 3, 959)]
def tl_0_11 : List (Nat × xRow) := [(664, .if_icmp .eq 442, 1106, 0, 0), (667, .iconst 0, 0, 0, 0), (668, .ireturn, 1, 0, 0), (669, .aload_n 1, 0, 0, 0), (670, .aload_n 0, 0, 0, 0), (671, .iload_n 3, 0, 0, 0), (672, .iconst 1, 0, 0, 0), (673, .iadd, 0, 0, 0), (674, .iaload, 0, 0, 0), (675, .invokevirtual 71, 75, 2, 569), (678, .aload_n 2, 0, 0, 0), (679, .aload_n 0, 0, 0, 0), (680, .iload_n 3, 0, 0, 0), (681, .iconst 1, 0, 0, 0), (682, .iadd, 0, 0, 0), (683, .iaload, 0, 0, 0), (684, .invokevirtual 74, 150, 2, 963), (687, .if_icmp .eq 419, 1106, 0, 0), (690, .iconst 0, 0, 0, 0), (691, .ireturn, 1, 0, 0), (692, .aload_n 1, 0, 0, 0), (693, .aload_n 0, 0, 0, 0), (694, .iload_n 3, 0, 0, 0), (695, .iconst 1, 0, 0, 0), (696, .iadd, 0, 0, 0), (697, .iaload, 0, 0, 0), (698, .invokevirtual 75, 76, 2, 573), (701, .aload_n 2, 0, 0, 0), (702, .aload_n 0, 0, 0, 0), (703, .iload_n 3, 0, 0, 0), (704, .iconst 1, 0, 0, 0), (705, .iadd, 0, 0, 0), (706, .iaload, 0, 0, 0), (707, .invokevirtual 78, 151, 2, 967), (710, .if_icmp .eq 396, 1106, 0, 0), (713, .iconst 0, 0, 0, 0), (714, .ireturn, 1, 0, 0), (715, .aload_n 1, 0, 0, 0), (716, .aload_n 0, 0, 0, 0), (717, .iload_n 3, 0, 0, 0)]
def tl_0_12 : List (Nat × xRow) := [(718, .iconst 1, 0, 0, 0), (719, .iadd, 0, 0, 0), (720, .iaload, 0, 0, 0), (721, .invokevirtual 79, 78, 2, 582), (724, .aload_n 2, 0, 0, 0), (725, .aload_n 0, 0, 0, 0), (726, .iload_n 3, 0, 0, 0), (727, .iconst 1, 0, 0, 0), (728, .iadd, 0, 0, 0), (729, .iaload, 0, 0, 0), (730, .invokevirtual 82, 153, 2, 975), (733, .if_icmp .eq 373, 1106, 0, 0), (736, .iconst 0, 0, 0, 0), (737, .ireturn, 1, 0, 0), (738, .aload_n 1, 0, 0, 0), (739, .aload_n 0, 0, 0, 0), (740, .iload_n 3, 0, 0, 0), (741, .iconst 1, 0, 0, 0), (742, .iadd, 0, 0, 0), (743, .iaload, 0, 0, 0), (744, .invokevirtual 83, 79, 2, 586), (747, .aload_n 2, 0, 0, 0), (748, .aload_n 0, 0, 0, 0), (749, .iload_n 3, 0, 0, 0), (750, .iconst 1, 0, 0, 0), (751, .iadd, 0, 0, 0), (752, .iaload, 0, 0, 0), (753, .invokevirtual 87, 154, 2, 979), (756, .lcmp, 0, 0, 0), (757, .ifCond .eq 349, 1106, 0, 0), (760, .iconst 0, 0, 0, 0), (761, .ireturn, 1, 0, 0), (762, .aload_n 1, 0, 0, 0), (763, .aload_n 0, 0, 0, 0), (764, .iload_n 3, 0, 0, 0), (765, .iconst 1, 0, 0, 0), (766, .iadd, 0, 0, 0), (767, .iaload, 0, 0, 0), (768, .aload_n 0, 0, 0, 0), (769, .iload_n 3, 0, 0, 0)]
def tl_0_13 : List (Nat × xRow) := [(770, .iconst 2, 0, 0, 0), (771, .iadd, 0, 0, 0), (772, .iaload, 0, 0, 0), (773, .aload_n 0, 0, 0, 0), (774, .iload_n 3, 0, 0, 0), (775, .iconst 3, 0, 0, 0), (776, .iadd, 0, 0, 0), (777, .iaload, 0, 0, 0), (778, .invokevirtual 88, 81, 4, 594), (781, .aload_n 2, 0, 0, 0), (782, .aload_n 0, 0, 0, 0), (783, .iload_n 3, 0, 0, 0), (784, .iconst 1, 0, 0, 0), (785, .iadd, 0, 0, 0), (786, .iaload, 0, 0, 0), (787, .aload_n 0, 0, 0, 0), (788, .iload_n 3, 0, 0, 0), (789, .iconst 2, 0, 0, 0), (790, .iadd, 0, 0, 0), (791, .iaload, 0, 0, 0), (792, .aload_n 0, 0, 0, 0), (793, .iload_n 3, 0, 0, 0), (794, .iconst 3, 0, 0, 0), (795, .iadd, 0, 0, 0), (796, .iaload, 0, 0, 0), (797, .invokevirtual 91, 156, 4, 987), (800, .if_icmp .eq 306, 1106, 0, 0), (803, .iconst 0, 0, 0, 0), (804, .ireturn, 1, 0, 0), (805, .aload_n 1, 0, 0, 0), (806, .aload_n 0, 0, 0, 0), (807, .iload_n 3, 0, 0, 0), (808, .iconst 1, 0, 0, 0), (809, .iadd, 0, 0, 0), (810, .iaload, 0, 0, 0), (811, .invokevirtual 92, 84, 2, 607), (814, .aload_n 2, 0, 0, 0), (815, .aload_n 0, 0, 0, 0), (816, .iload_n 3, 0, 0, 0), (817, .iconst 1, 0, 0, 0)]
def tl_0_14 : List (Nat × xRow) := [(818, .iadd, 0, 0, 0), (819, .iaload, 0, 0, 0), (820, .invokevirtual 95, 157, 2, 991), (823, .if_icmp .eq 283, 1106, 0, 0), (826, .iconst 0, 0, 0, 0), (827, .ireturn, 1, 0, 0), (828, .aload_n 1, 0, 0, 0), (829, .aload_n 0, 0, 0, 0), (830, .iload_n 3, 0, 0, 0), (831, .iconst 1, 0, 0, 0), (832, .iadd, 0, 0, 0), (833, .iaload, 0, 0, 0), (834, .aload_n 0, 0, 0, 0), (835, .iload_n 3, 0, 0, 0), (836, .iconst 2, 0, 0, 0), (837, .iadd, 0, 0, 0), (838, .iaload, 0, 0, 0), (839, .aload_n 0, 0, 0, 0), (840, .iload_n 3, 0, 0, 0), (841, .iconst 3, 0, 0, 0), (842, .iadd, 0, 0, 0), (843, .iaload, 0, 0, 0), (844, .invokevirtual 96, 86, 4, 615), (847, .aload_n 2, 0, 0, 0), (848, .aload_n 0, 0, 0, 0), (849, .iload_n 3, 0, 0, 0), (850, .iconst 1, 0, 0, 0), (851, .iadd, 0, 0, 0), (852, .iaload, 0, 0, 0), (853, .aload_n 0, 0, 0, 0), (854, .iload_n 3, 0, 0, 0), (855, .iconst 2, 0, 0, 0), (856, .iadd, 0, 0, 0), (857, .iaload, 0, 0, 0), (858, .aload_n 0, 0, 0, 0), (859, .iload_n 3, 0, 0, 0), (860, .iconst 3, 0, 0, 0), (861, .iadd, 0, 0, 0), (862, .iaload, 0, 0, 0), (863, .invokevirtual 99, 158, 4, 995)]
def tl_0_15 : List (Nat × xRow) := [(866, .if_icmp .eq 240, 1106, 0, 0), (869, .iconst 0, 0, 0, 0), (870, .ireturn, 1, 0, 0), (871, .aload_n 1, 0, 0, 0), (872, .aload_n 0, 0, 0, 0), (873, .iload_n 3, 0, 0, 0), (874, .iconst 1, 0, 0, 0), (875, .iadd, 0, 0, 0), (876, .iaload, 0, 0, 0), (877, .aload_n 0, 0, 0, 0), (878, .iload_n 3, 0, 0, 0), (879, .iconst 2, 0, 0, 0), (880, .iadd, 0, 0, 0), (881, .iaload, 0, 0, 0), (882, .aload_n 0, 0, 0, 0), (883, .iload_n 3, 0, 0, 0), (884, .iconst 3, 0, 0, 0), (885, .iadd, 0, 0, 0), (886, .iaload, 0, 0, 0), (887, .invokevirtual 100, 89, 4, 627), (890, .aload_n 2, 0, 0, 0), (891, .aload_n 0, 0, 0, 0), (892, .iload_n 3, 0, 0, 0), (893, .iconst 1, 0, 0, 0), (894, .iadd, 0, 0, 0), (895, .iaload, 0, 0, 0), (896, .aload_n 0, 0, 0, 0), (897, .iload_n 3, 0, 0, 0), (898, .iconst 2, 0, 0, 0), (899, .iadd, 0, 0, 0), (900, .iaload, 0, 0, 0), (901, .aload_n 0, 0, 0, 0), (902, .iload_n 3, 0, 0, 0), (903, .iconst 3, 0, 0, 0), (904, .iadd, 0, 0, 0), (905, .iaload, 0, 0, 0), (906, .invokevirtual 104, 159, 4, 999), (909, .lcmp, 0, 0, 0), (910, .ifCond .eq 196, 1106, 0, 0), (913, .iconst 0, 0, 0, 0)]
def tl_0_16 : List (Nat × xRow) := [(914, .ireturn, 1, 0, 0), (915, .aload_n 1, 0, 0, 0), (916, .aload_n 0, 0, 0, 0), (917, .iload_n 3, 0, 0, 0), (918, .iconst 1, 0, 0, 0), (919, .iadd, 0, 0, 0), (920, .iaload, 0, 0, 0), (921, .aload_n 0, 0, 0, 0), (922, .iload_n 3, 0, 0, 0), (923, .iconst 2, 0, 0, 0), (924, .iadd, 0, 0, 0), (925, .iaload, 0, 0, 0), (926, .aload_n 0, 0, 0, 0), (927, .iload_n 3, 0, 0, 0), (928, .iconst 3, 0, 0, 0), (929, .iadd, 0, 0, 0), (930, .iaload, 0, 0, 0), (931, .aload_n 0, 0, 0, 0), (932, .iload_n 3, 0, 0, 0), (933, .iconst 4, 0, 0, 0), (934, .iadd, 0, 0, 0), (935, .iaload, 0, 0, 0), (936, .aload_n 0, 0, 0, 0), (937, .iload_n 3, 0, 0, 0), (938, .iconst 5, 0, 0, 0), (939, .iadd, 0, 0, 0), (940, .iaload, 0, 0, 0), (941, .invokevirtual 105, 90, 6, 631), (944, .aload_n 2, 0, 0, 0), (945, .aload_n 0, 0, 0, 0), (946, .iload_n 3, 0, 0, 0), (947, .iconst 1, 0, 0, 0), (948, .iadd, 0, 0, 0), (949, .iaload, 0, 0, 0), (950, .aload_n 0, 0, 0, 0), (951, .iload_n 3, 0, 0, 0), (952, .iconst 2, 0, 0, 0), (953, .iadd, 0, 0, 0), (954, .iaload, 0, 0, 0), (955, .aload_n 0, 0, 0, 0)]
def tl_0_17 : List (Nat × xRow) := [(956, .iload_n 3, 0, 0, 0), (957, .iconst 3, 0, 0, 0), (958, .iadd, 0, 0, 0), (959, .iaload, 0, 0, 0), (960, .aload_n 0, 0, 0, 0), (961, .iload_n 3, 0, 0, 0), (962, .iconst 4, 0, 0, 0), (963, .iadd, 0, 0, 0), (964, .iaload, 0, 0, 0), (965, .aload_n 0, 0, 0, 0), (966, .iload_n 3, 0, 0, 0), (967, .iconst 5, 0, 0, 0), (968, .iadd, 0, 0, 0), (969, .iaload, 0, 0, 0), (970, .invokevirtual 108, 161, 6, 1007), (973, .if_icmp .eq 133, 1106, 0, 0), (976, .iconst 0, 0, 0, 0), (977, .ireturn, 1, 0, 0), (978, .aload_n 1, 0, 0, 0), (979, .aload_n 0, 0, 0, 0), (980, .iload_n 3, 0, 0, 0), (981, .iconst 1, 0, 0, 0), (982, .iadd, 0, 0, 0), (983, .iaload, 0, 0, 0), (984, .invokevirtual 109, 91, 2, 637), (987, .aload_n 2, 0, 0, 0), (988, .aload_n 0, 0, 0, 0), (989, .iload_n 3, 0, 0, 0), (990, .iconst 1, 0, 0, 0), (991, .iadd, 0, 0, 0), (992, .iaload, 0, 0, 0), (993, .invokevirtual 112, 162, 2, 1011), (996, .if_icmp .eq 110, 1106, 0, 0), (999, .iconst 0, 0, 0, 0), (1000, .ireturn, 1, 0, 0), (1001, .aload_n 1, 0, 0, 0), (1002, .aload_n 0, 0, 0, 0), (1003, .iload_n 3, 0, 0, 0), (1004, .iconst 1, 0, 0, 0), (1005, .iadd, 0, 0, 0)]
def tl_0_18 : List (Nat × xRow) := [(1006, .iaload, 0, 0, 0), (1007, .invokevirtual 113, 96, 2, 658), (1010, .aload_n 2, 0, 0, 0), (1011, .aload_n 0, 0, 0, 0), (1012, .iload_n 3, 0, 0, 0), (1013, .iconst 1, 0, 0, 0), (1014, .iadd, 0, 0, 0), (1015, .iaload, 0, 0, 0), (1016, .invokevirtual 116, 164, 2, 1019), (1019, .if_icmp .eq 87, 1106, 0, 0), (1022, .iconst 0, 0, 0, 0), (1023, .ireturn, 1, 0, 0), (1024, .aload_n 1, 0, 0, 0), (1025, .aload_n 0, 0, 0, 0), (1026, .iload_n 3, 0, 0, 0), (1027, .iconst 1, 0, 0, 0), (1028, .iadd, 0, 0, 0), (1029, .iaload, 0, 0, 0), (1030, .aload_n 0, 0, 0, 0), (1031, .iload_n 3, 0, 0, 0), (1032, .iconst 2, 0, 0, 0), (1033, .iadd, 0, 0, 0), (1034, .iaload, 0, 0, 0), (1035, .invokevirtual 117, 97, 3, 662), (1038, .aload_n 2, 0, 0, 0), (1039, .aload_n 0, 0, 0, 0), (1040, .iload_n 3, 0, 0, 0), (1041, .iconst 1, 0, 0, 0), (1042, .iadd, 0, 0, 0), (1043, .iaload, 0, 0, 0), (1044, .aload_n 0, 0, 0, 0), (1045, .iload_n 3, 0, 0, 0), (1046, .iconst 2, 0, 0, 0), (1047, .iadd, 0, 0, 0), (1048, .iaload, 0, 0, 0), (1049, .invokevirtual 120, 165, 3, 1023), (1052, .if_icmp .eq 54, 1106, 0, 0), (1055, .iconst 0, 0, 0, 0), (1056, .ireturn, 1, 0, 0), (1057, .aload_n 1, 0, 0, 0)]
def tl_0_19 : List (Nat × xRow) := [(1058, .invokevirtual 121, 98, 1, 666), (1061, .aload_n 2, 0, 0, 0), (1062, .invokevirtual 124, 166, 1, 1027), (1065, .if_icmp .eq 41, 1106, 0, 0), (1068, .iconst 0, 0, 0, 0), (1069, .ireturn, 1, 0, 0), (1070, .aload_n 1, 0, 0, 0), (1071, .invokevirtual 125, 99, 1, 670), (1074, .aload_n 2, 0, 0, 0), (1075, .invokevirtual 128, 167, 1, 1031), (1078, .if_icmp .eq 28, 1106, 0, 0), (1081, .iconst 0, 0, 0, 0), (1082, .ireturn, 1, 0, 0), (1083, .aload_n 1, 0, 0, 0), (1084, .aload_n 0, 0, 0, 0), (1085, .iload_n 3, 0, 0, 0), (1086, .iconst 1, 0, 0, 0), (1087, .iadd, 0, 0, 0), (1088, .iaload, 0, 0, 0), (1089, .invokevirtual 129, 100, 2, 674), (1092, .aload_n 2, 0, 0, 0), (1093, .aload_n 0, 0, 0, 0), (1094, .iload_n 3, 0, 0, 0), (1095, .iconst 1, 0, 0, 0), (1096, .iadd, 0, 0, 0), (1097, .iaload, 0, 0, 0), (1098, .invokevirtual 132, 168, 2, 1035), (1101, .if_icmp .eq 5, 1106, 0, 0), (1104, .iconst 0, 0, 0, 0), (1105, .ireturn, 1, 0, 0), (1106, .iinc 3 6, 0, 0, 0), (1109, .goto (-1091), 18, 0, 0), (1112, .iconst 1, 0, 0, 0), (1113, .ireturn, 1, 0, 0)]
def tl_0 : List (Nat × xRow) := tl_0_0 ++ tl_0_1 ++ tl_0_2 ++ tl_0_3 ++ tl_0_4 ++ tl_0_5 ++ tl_0_6 ++ tl_0_7 ++ tl_0_8 ++ tl_0_9 ++ tl_0_10 ++ tl_0_11 ++ tl_0_12 ++ tl_0_13 ++ tl_0_14 ++ tl_0_15 ++ tl_0_16 ++ tl_0_17 ++ tl_0_18 ++ tl_0_19
def tl_1 : List (Nat × xRow) := [(0, .aload_n 0, 0, 0, 0), (1, .iconst 0, 0, 0, 0), (2, .putfield 58, 6, 8, 225), (5, .iload_n 1, 0, 0, 0), (6, .invokestatic 62, 2, 1, 249), (9, .ifCond .ne 5, 14, 0, 0), (12, .iconst (-1), 0, 0, 0), (13, .ireturn, 0, 0, 0), (14, .iload_n 2, 0, 0, 0), (15, .invokestatic 66, 3, 1, 252), (18, .ifCond .ne 6, 24, 0, 0), (21, .bipush (-2), 0, 0, 0), (23, .ireturn, 0, 0, 0), (24, .aload_n 0, 0, 0, 0), (25, .getfield 13, 6, 0, 217), (28, .iload_n 1, 0, 0, 0), (29, .aaload, 0, 0, 0), (30, .iload_n 2, 0, 0, 0), (31, .iload_n 3, 0, 0, 0), (32, .iload 4, 0, 0, 0), (34, .invokevirtual 69, 4, 4, 255), (37, .istore 5, 0, 0, 0), (39, .iload 5, 0, 0, 0), (41, .ifCond .eq 10, 51, 0, 0), (44, .aload_n 0, 0, 0, 0), (45, .iload 5, 0, 0, 0), (47, .invokevirtual 73, 6, 2, 263), (50, .ireturn, 0, 0, 0), (51, .aload_n 0, 0, 0, 0), (52, .getfield 33, 6, 3, 220), (55, .aload_n 0, 0, 0, 0), (56, .getfield 13, 6, 0, 217), (59, .iload_n 1, 0, 0, 0), (60, .aaload, 0, 0, 0), (61, .iload_n 3, 0, 0, 0), (62, .iload 4, 0, 0, 0), (64, .invokevirtual 77, 7, 4, 267), (67, .istore 6, 0, 0, 0), (69, .iload 6, 0, 0, 0), (71, .bipush (-9), 0, 0, 0), (73, .if_icmp .eq 9, 82, 0, 0), (76, .bipush (-100), 0, 0, 0), (78, .iload 6, 0, 0, 0), (80, .isub, 0, 0, 0), (81, .ireturn, 0, 0, 0), (82, .aload_n 0, 0, 0, 0), (83, .getfield 21, 6, 1, 218), (86, .aload_n 0, 0, 0, 0), (87, .getfield 25, 6, 2, 219), (90, .invokevirtual 81, 19, 2, 315), (93, .aload_n 0, 0, 0, 0), (94, .getfield 54, 6, 6, 223), (97, .iconst 0, 0, 0, 0), (98, .invokevirtual 84, 20, 2, 322), (101, .aload_n 0, 0, 0, 0), (102, .getfield 21, 6, 1, 218), (105, .getfield 88, 5, 8, 111), (108, .ireturn, 0, 0, 0)]
def tl_2 : List (Nat × xRow) := [(0, .iload_n 0, 0, 0, 0), (1, .ifCond .lt 12, 13, 0, 0), (4, .iload_n 0, 0, 0, 0), (5, .iconst 4, 0, 0, 0), (6, .if_icmp .ge 7, 13, 0, 0), (9, .iconst 1, 0, 0, 0), (10, .goto 4, 14, 0, 0), (13, .iconst 0, 0, 0, 0), (14, .ireturn, 1, 0, 0)]
def tl_3 : List (Nat × xRow) := [(0, .iload_n 0, 0, 0, 0), (1, .ifCond .lt 12, 13, 0, 0), (4, .iload_n 0, 0, 0, 0), (5, .iconst 2, 0, 0, 0), (6, .if_icmp .gt 7, 13, 0, 0), (9, .iconst 1, 0, 0, 0), (10, .goto 4, 14, 0, 0), (13, .iconst 0, 0, 0, 0), (14, .ireturn, 1, 0, 0)]
def tl_4 : List (Nat × xRow) := [(0, .aload_n 0, 0, 0, 0), (1, .getfield 15, 3, 1, 72), (4, .ifCond .eq 13, 17, 0, 0), (7, .aload_n 0, 0, 0, 0), (8, .getfield 19, 3, 2, 74), (11, .iload_n 1, 0, 0, 0), (12, .if_icmp .eq 5, 17, 0, 0), (15, .iconst 2, 0, 0, 0), (16, .ireturn, 0, 0, 0), (17, .aload_n 0, 0, 0, 0), (18, .getfield 15, 3, 1, 72), (21, .ifCond .ne 5, 26, 0, 0), (24, .iconst 1, 0, 0, 0), (25, .ireturn, 0, 0, 0), (26, .iload_n 3, 0, 0, 0), (27, .ifCond .ge 5, 32, 0, 0), (30, .iconst 4, 0, 0, 0), (31, .ireturn, 0, 0, 0), (32, .aload_n 0, 0, 0, 0), (33, .iload_n 2, 0, 0, 0), (34, .iload_n 3, 0, 0, 0), (35, .invokevirtual 41, 5, 3, 259), (38, .ifCond .eq 7, 45, 0, 0), (41, .iconst 0, 0, 0, 0), (42, .goto 4, 46, 0, 0), (45, .iconst 3, 0, 0, 0), (46, .ireturn, 0, 0, 0)]
def tl_5 : List (Nat × xRow) := [(0, .iload_n 2, 0, 0, 0), (1, .ifCond .lt 29, 30, 0, 0), (4, .iload_n 1, 0, 0, 0), (5, .ifCond .lt 25, 30, 0, 0), (8, .iload_n 2, 0, 0, 0), (9, .aload_n 0, 0, 0, 0), (10, .getfield 32, 3, 3, 76), (13, .if_icmp .gt 17, 30, 0, 0), (16, .iload_n 1, 0, 0, 0), (17, .aload_n 0, 0, 0, 0), (18, .getfield 32, 3, 3, 76), (21, .iload_n 2, 0, 0, 0), (22, .isub, 0, 0, 0), (23, .if_icmp .gt 7, 30, 0, 0), (26, .iconst 1, 0, 0, 0), (27, .goto 4, 31, 0, 0), (30, .iconst 0, 0, 0, 0), (31, .ireturn, 1, 0, 0)]
def tl_6 : List (Nat × xRow) := [(0, .aload_n 0, 0, 0, 0), (1, .iload_n 1, 0, 0, 0), (2, .putfield 58, 6, 8, 225), (5, .bipush (-10), 0, 0, 0), (7, .iload_n 1, 0, 0, 0), (8, .isub, 0, 0, 0), (9, .ireturn, 0, 0, 0)]
def tl_7 : List (Nat × xRow) := [(0, .aload_n 0, 0, 0, 0), (1, .iconst 0, 0, 0, 0), (2, .putfield 15, 4, 1, 138), (5, .aload_n 0, 0, 0, 0), (6, .getfield 9, 4, 0, 137), (9, .iconst 0, 0, 0, 0), (10, .putfield 19, 5, 8, 109), (13, .iconst 0, 0, 0, 0), (14, .istore 4, 0, 0, 0), (16, .iload 4, 0, 0, 0), (18, .iload_n 3, 0, 0, 0), (19, .if_icmp .ge 27, 46, 0, 0), (22, .aload_n 0, 0, 0, 0), (23, .aload_n 1, 0, 0, 0), (24, .iload_n 2, 0, 0, 0), (25, .iload 4, 0, 0, 0), (27, .iadd, 0, 0, 0), (28, .invokevirtual 24, 8, 2, 271), (31, .invokevirtual 30, 9, 2, 275), (34, .ifCond .ne 6, 40, 0, 0), (37, .iload 4, 0, 0, 0), (39, .ireturn, 0, 0, 0), (40, .iinc 4 1, 0, 0, 0), (43, .goto (-27), 16, 0, 0), (46, .aload_n 0, 0, 0, 0), (47, .getfield 15, 4, 1, 138), (50, .iconst 4, 0, 0, 0), (51, .if_icmp .ne 8, 59, 0, 0), (54, .bipush (-9), 0, 0, 0), (56, .goto 4, 60, 0, 0), (59, .iload_n 3, 0, 0, 0), (60, .ireturn, 0, 0, 0)]
def tl_8 : List (Nat × xRow) := [(0, .aload_n 0, 0, 0, 0), (1, .iload_n 1, 0, 0, 0), (2, .iconst 1, 0, 0, 0), (3, .invokevirtual 41, 5, 3, 259), (6, .ifCond .eq 12, 18, 0, 0), (9, .aload_n 0, 0, 0, 0), (10, .getfield 9, 3, 0, 70), (13, .iload_n 1, 0, 0, 0), (14, .iaload, 0, 0, 0), (15, .goto 4, 19, 0, 0), (18, .iconst 0, 0, 0, 0), (19, .ireturn, 0, 0, 0)]
def tl_9 : List (Nat × xRow) := [(0, .aload_n 0, 0, 0, 0), (1, .getfield 15, 4, 1, 138), (4, .tableswitch 78 0 3 #[32, 49, 66, 72], 0, 0, 0), (36, .aload_n 0, 0, 0, 0), (37, .iconst 1, 0, 0, 0), (38, .iload_n 1, 0, 0, 0), (39, .bipush 114, 0, 0, 0), (41, .if_icmp .ne 7, 48, 0, 0), (44, .iconst 1, 0, 0, 0), (45, .goto 4, 49, 0, 0), (48, .iconst 0, 0, 0, 0), (49, .invokevirtual 34, 10, 3, 279), (52, .ireturn, 1, 0, 0), (53, .aload_n 0, 0, 0, 0), (54, .iconst 2, 0, 0, 0), (55, .iload_n 1, 0, 0, 0), (56, .bipush 59, 0, 0, 0), (58, .if_icmp .ne 7, 65, 0, 0), (61, .iconst 1, 0, 0, 0), (62, .goto 4, 66, 0, 0), (65, .iconst 0, 0, 0, 0), (66, .invokevirtual 34, 10, 3, 279), (69, .ireturn, 1, 0, 0), (70, .aload_n 0, 0, 0, 0), (71, .iload_n 1, 0, 0, 0), (72, .invokevirtual 38, 11, 2, 283), (75, .ireturn, 1, 0, 0), (76, .aload_n 0, 0, 0, 0), (77, .iload_n 1, 0, 0, 0), (78, .invokevirtual 41, 12, 2, 287), (81, .ireturn, 1, 0, 0), (82, .aload_n 0, 0, 0, 0), (83, .iload_n 1, 0, 0, 0), (84, .invokevirtual 44, 15, 2, 300), (87, .ireturn, 1, 0, 0)]
def tl_10 : List (Nat × xRow) := [(0, .iload_n 2, 0, 0, 0), (1, .ifCond .eq 8, 9, 0, 0), (4, .aload_n 0, 0, 0, 0), (5, .iload_n 1, 0, 0, 0), (6, .putfield 15, 4, 1, 138), (9, .iload_n 2, 0, 0, 0), (10, .ireturn, 1, 0, 0)]
def tl_11 : List (Nat × xRow) := [(0, .iload_n 1, 0, 0, 0), (1, .lookupswitch 59 #[(98, 43), (100, 51), (112, 35)], 0, 0, 0), (36, .aload_n 0, 0, 0, 0), (37, .iconst 0, 0, 0, 0), (38, .putfield 47, 4, 2, 139), (41, .goto 21, 62, 0, 0), (44, .aload_n 0, 0, 0, 0), (45, .iconst 1, 0, 0, 0), (46, .putfield 47, 4, 2, 139), (49, .goto 13, 62, 0, 0), (52, .aload_n 0, 0, 0, 0), (53, .iconst 2, 0, 0, 0), (54, .putfield 47, 4, 2, 139), (57, .goto 5, 62, 0, 0), (60, .iconst 0, 0, 0, 0), (61, .ireturn, 1, 0, 0), (62, .aload_n 0, 0, 0, 0), (63, .iconst 3, 0, 0, 0), (64, .iconst 1, 0, 0, 0), (65, .invokevirtual 34, 10, 3, 279), (68, .ireturn, 1, 0, 0)]
def tl_12 : List (Nat × xRow) := [(0, .aload_n 0, 0, 0, 0), (1, .getfield 9, 4, 0, 137), (4, .getfield 19, 5, 8, 109), (7, .ifCond .ne 7, 14, 0, 0), (10, .iconst 1, 0, 0, 0), (11, .goto 4, 15, 0, 0), (14, .iconst 0, 0, 0, 0), (15, .istore_n 2, 0, 0, 0), (16, .iload_n 1, 0, 0, 0), (17, .bipush 48, 0, 0, 0), (19, .isub, 0, 0, 0), (20, .istore_n 3, 0, 0, 0), (21, .iload_n 2, 0, 0, 0), (22, .ifCond .eq 17, 39, 0, 0), (25, .iload_n 1, 0, 0, 0), (26, .bipush 45, 0, 0, 0), (28, .if_icmp .ne 7, 35, 0, 0), (31, .iconst 1, 0, 0, 0), (32, .goto 15, 47, 0, 0), (35, .iconst 0, 0, 0, 0), (36, .goto 11, 47, 0, 0), (39, .aload_n 0, 0, 0, 0), (40, .getfield 9, 4, 0, 137), (43, .iload_n 3, 0, 0, 0), (44, .invokevirtual 50, 13, 2, 291), (47, .istore 4, 0, 0, 0), (49, .iload 4, 0, 0, 0), (51, .ifCond .eq 24, 75, 0, 0), (54, .aload_n 0, 0, 0, 0), (55, .getfield 9, 4, 0, 137), (58, .aload_n 0, 0, 0, 0), (59, .getfield 47, 4, 2, 139), (62, .iload_n 2, 0, 0, 0), (63, .ifCond .eq 8, 71, 0, 0), (66, .bipush 8, 0, 0, 0), (68, .goto 4, 72, 0, 0), (71, .iload_n 3, 0, 0, 0), (72, .invokevirtual 53, 14, 3, 295), (75, .aload_n 0, 0, 0, 0), (76, .iconst 4, 0, 0, 0), (77, .iload 4, 0, 0, 0), (79, .invokevirtual 34, 10, 3, 279), (82, .ireturn, 1, 0, 0)]
def tl_13 : List (Nat × xRow) := [(0, .iload_n 1, 0, 0, 0), (1, .ifCond .lt 15, 16, 0, 0), (4, .iload_n 1, 0, 0, 0), (5, .aload_n 0, 0, 0, 0), (6, .getfield 36, 5, 8, 108), (9, .if_icmp .ge 7, 16, 0, 0), (12, .iconst 1, 0, 0, 0), (13, .goto 4, 17, 0, 0), (16, .iconst 0, 0, 0, 0), (17, .ireturn, 1, 0, 0)]
def tl_14 : List (Nat × xRow) := [(0, .aload_n 0, 0, 0, 0), (1, .getfield 36, 5, 8, 108), (4, .bipush 8, 0, 0, 0), (6, .if_icmp .lt 4, 10, 0, 0), (9, .return_, 0, 0, 0), (10, .aload_n 0, 0, 0, 0), (11, .iload_n 2, 0, 0, 0), (12, .invokevirtual 46, 13, 2, 299), (15, .ifCond .ne 7, 22, 0, 0), (18, .iconst 1, 0, 0, 0), (19, .goto 4, 23, 0, 0), (22, .iconst 0, 0, 0, 0), (23, .istore_n 3, 0, 0, 0), (24, .aload_n 0, 0, 0, 0), (25, .getfield 9, 5, 0, 93), (28, .aload_n 0, 0, 0, 0), (29, .getfield 36, 5, 8, 108), (32, .iload_n 1, 0, 0, 0), (33, .iastore, 0, 0, 0), (34, .aload_n 0, 0, 0, 0), (35, .getfield 15, 5, 1, 95), (38, .aload_n 0, 0, 0, 0), (39, .getfield 36, 5, 8, 108), (42, .iload_n 3, 0, 0, 0), (43, .ifCond .eq 8, 51, 0, 0), (46, .bipush 8, 0, 0, 0), (48, .goto 4, 52, 0, 0), (51, .iload_n 2, 0, 0, 0), (52, .iastore, 0, 0, 0), (53, .aload_n 0, 0, 0, 0), (54, .getfield 18, 5, 2, 98), (57, .aload_n 0, 0, 0, 0), (58, .getfield 36, 5, 8, 108), (61, .iload_n 3, 0, 0, 0), (62, .ifCond .eq 7, 69, 0, 0), (65, .iconst 0, 0, 0, 0), (66, .goto 13, 79, 0, 0), (69, .aload_n 0, 0, 0, 0), (70, .getfield 18, 5, 2, 98), (73, .iload_n 2, 0, 0, 0), (74, .iaload, 0, 0, 0), (75, .iconst 1, 0, 0, 0), (76, .iload_n 2, 0, 0, 0), (77, .ishl, 0, 0, 0), (78, .ior, 0, 0, 0), (79, .iastore, 0, 0, 0), (80, .aload_n 0, 0, 0, 0), (81, .getfield 21, 5, 3, 99), (84, .aload_n 0, 0, 0, 0), (85, .getfield 36, 5, 8, 108), (88, .iload_n 3, 0, 0, 0), (89, .ifCond .eq 7, 96, 0, 0), (92, .iconst 0, 0, 0, 0), (93, .goto 11, 104, 0, 0), (96, .aload_n 0, 0, 0, 0), (97, .getfield 21, 5, 3, 99), (100, .iload_n 2, 0, 0, 0), (101, .iaload, 0, 0, 0), (102, .iconst 1, 0, 0, 0), (103, .iadd, 0, 0, 0), (104, .iastore, 0, 0, 0), (105, .aload_n 0, 0, 0, 0), (106, .getfield 24, 5, 4, 100), (109, .aload_n 0, 0, 0, 0), (110, .getfield 36, 5, 8, 108), (113, .iconst 0, 0, 0, 0), (114, .iastore, 0, 0, 0), (115, .aload_n 0, 0, 0, 0), (116, .getfield 30, 5, 6, 104), (119, .aload_n 0, 0, 0, 0), (120, .getfield 36, 5, 8, 108), (123, .iconst 0, 0, 0, 0), (124, .iastore, 0, 0, 0), (125, .aload_n 0, 0, 0, 0), (126, .dup, 0, 0, 0), (127, .getfield 36, 5, 8, 108), (130, .iconst 1, 0, 0, 0), (131, .iadd, 0, 0, 0), (132, .putfield 36, 5, 8, 108), (135, .return_, 0, 0, 0)]
def tl_15 : List (Nat × xRow) := [(0, .iload_n 1, 0, 0, 0), (1, .bipush 59, 0, 0, 0), (3, .if_icmp .ne 26, 29, 0, 0), (6, .aload_n 0, 0, 0, 0), (7, .iconst 2, 0, 0, 0), (8, .aload_n 0, 0, 0, 0), (9, .getfield 9, 4, 0, 137), (12, .getfield 19, 5, 8, 109), (15, .bipush 8, 0, 0, 0), (17, .if_icmp .ge 7, 24, 0, 0), (20, .iconst 1, 0, 0, 0), (21, .goto 4, 25, 0, 0), (24, .iconst 0, 0, 0, 0), (25, .invokevirtual 34, 10, 3, 279), (28, .ireturn, 1, 0, 0), (29, .aload_n 0, 0, 0, 0), (30, .getfield 9, 4, 0, 137), (33, .iload_n 1, 0, 0, 0), (34, .bipush 48, 0, 0, 0), (36, .isub, 0, 0, 0), (37, .invokevirtual 57, 16, 2, 304), (40, .ireturn, 1, 0, 0)]
def tl_16 : List (Nat × xRow) := [(0, .aload_n 0, 0, 0, 0), (1, .getfield 36, 5, 8, 108), (4, .iconst 1, 0, 0, 0), (5, .isub, 0, 0, 0), (6, .istore_n 2, 0, 0, 0), (7, .aload_n 0, 0, 0, 0), (8, .iload_n 2, 0, 0, 0), (9, .iload_n 1, 0, 0, 0), (10, .invokevirtual 50, 17, 3, 308), (13, .ifCond .eq 26, 39, 0, 0), (16, .aload_n 0, 0, 0, 0), (17, .getfield 24, 5, 4, 100), (20, .iload_n 2, 0, 0, 0), (21, .iaload, 0, 0, 0), (22, .iconst 2, 0, 0, 0), (23, .if_icmp .ge 16, 39, 0, 0), (26, .aload_n 0, 0, 0, 0), (27, .getfield 30, 5, 6, 104), (30, .iload_n 2, 0, 0, 0), (31, .iaload, 0, 0, 0), (32, .iload_n 1, 0, 0, 0), (33, .invokestatic 54, 18, 2, 312), (36, .ifCond .eq 5, 41, 0, 0), (39, .iconst 0, 0, 0, 0), (40, .ireturn, 1, 0, 0), (41, .aload_n 0, 0, 0, 0), (42, .getfield 27, 5, 5, 103), (45, .iload_n 2, 0, 0, 0), (46, .iconst 2, 0, 0, 0), (47, .imul, 0, 0, 0), (48, .aload_n 0, 0, 0, 0), (49, .getfield 24, 5, 4, 100), (52, .iload_n 2, 0, 0, 0), (53, .iaload, 0, 0, 0), (54, .iadd, 0, 0, 0), (55, .iload_n 1, 0, 0, 0), (56, .iastore, 0, 0, 0), (57, .aload_n 0, 0, 0, 0), (58, .getfield 30, 5, 6, 104), (61, .iload_n 2, 0, 0, 0), (62, .dup2, 0, 0, 0), (63, .iaload, 0, 0, 0), (64, .iconst 1, 0, 0, 0), (65, .iload_n 1, 0, 0, 0), (66, .ishl, 0, 0, 0), (67, .ior, 0, 0, 0), (68, .iastore, 0, 0, 0), (69, .aload_n 0, 0, 0, 0), (70, .getfield 24, 5, 4, 100), (73, .iload_n 2, 0, 0, 0), (74, .dup2, 0, 0, 0), (75, .iaload, 0, 0, 0), (76, .iconst 1, 0, 0, 0), (77, .iadd, 0, 0, 0), (78, .iastore, 0, 0, 0), (79, .iconst 1, 0, 0, 0), (80, .ireturn, 1, 0, 0)]
def tl_17 : List (Nat × xRow) := [(0, .aload_n 0, 0, 0, 0), (1, .iload_n 1, 0, 0, 0), (2, .invokevirtual 46, 13, 2, 299), (5, .ifCond .eq 28, 33, 0, 0), (8, .aload_n 0, 0, 0, 0), (9, .iload_n 2, 0, 0, 0), (10, .invokevirtual 46, 13, 2, 299), (13, .ifCond .eq 20, 33, 0, 0), (16, .aload_n 0, 0, 0, 0), (17, .getfield 18, 5, 2, 98), (20, .iload_n 1, 0, 0, 0), (21, .iaload, 0, 0, 0), (22, .iload_n 2, 0, 0, 0), (23, .invokestatic 54, 18, 2, 312), (26, .ifCond .eq 7, 33, 0, 0), (29, .iconst 1, 0, 0, 0), (30, .goto 4, 34, 0, 0), (33, .iconst 0, 0, 0, 0), (34, .ireturn, 1, 0, 0)]
def tl_18 : List (Nat × xRow) := [(0, .iload_n 0, 0, 0, 0), (1, .iload_n 1, 0, 0, 0), (2, .ishr, 0, 0, 0), (3, .iconst 1, 0, 0, 0), (4, .iand, 0, 0, 0), (5, .iconst 1, 0, 0, 0), (6, .if_icmp .ne 7, 13, 0, 0), (9, .iconst 1, 0, 0, 0), (10, .goto 4, 14, 0, 0), (13, .iconst 0, 0, 0, 0), (14, .ireturn, 1, 0, 0)]
def tl_19 : List (Nat × xRow) := [(0, .aload_n 0, 0, 0, 0), (1, .aload_n 1, 0, 0, 0), (2, .getfield 36, 5, 8, 108), (5, .putfield 36, 5, 8, 108), (8, .aload_n 1, 0, 0, 0), (9, .getfield 9, 5, 0, 93), (12, .iconst 0, 0, 0, 0), (13, .aload_n 0, 0, 0, 0), (14, .getfield 9, 5, 0, 93), (17, .iconst 0, 0, 0, 0), (18, .bipush 8, 0, 0, 0), (20, .invokestatic 40, 9999, 5, 319), (23, .aload_n 1, 0, 0, 0), (24, .getfield 15, 5, 1, 95), (27, .iconst 0, 0, 0, 0), (28, .aload_n 0, 0, 0, 0), (29, .getfield 15, 5, 1, 95), (32, .iconst 0, 0, 0, 0), (33, .bipush 8, 0, 0, 0), (35, .invokestatic 40, 9999, 5, 319), (38, .aload_n 1, 0, 0, 0), (39, .getfield 18, 5, 2, 98), (42, .iconst 0, 0, 0, 0), (43, .aload_n 0, 0, 0, 0), (44, .getfield 18, 5, 2, 98), (47, .iconst 0, 0, 0, 0), (48, .bipush 8, 0, 0, 0), (50, .invokestatic 40, 9999, 5, 319), (53, .aload_n 1, 0, 0, 0), (54, .getfield 21, 5, 3, 99), (57, .iconst 0, 0, 0, 0), (58, .aload_n 0, 0, 0, 0), (59, .getfield 21, 5, 3, 99), (62, .iconst 0, 0, 0, 0), (63, .bipush 8, 0, 0, 0), (65, .invokestatic 40, 9999, 5, 319), (68, .aload_n 1, 0, 0, 0), (69, .getfield 24, 5, 4, 100), (72, .iconst 0, 0, 0, 0), (73, .aload_n 0, 0, 0, 0), (74, .getfield 24, 5, 4, 100), (77, .iconst 0, 0, 0, 0), (78, .bipush 8, 0, 0, 0), (80, .invokestatic 40, 9999, 5, 319), (83, .aload_n 1, 0, 0, 0), (84, .getfield 27, 5, 5, 103), (87, .iconst 0, 0, 0, 0), (88, .aload_n 0, 0, 0, 0), (89, .getfield 27, 5, 5, 103), (92, .iconst 0, 0, 0, 0), (93, .bipush 16, 0, 0, 0), (95, .invokestatic 40, 9999, 5, 319), (98, .aload_n 1, 0, 0, 0), (99, .getfield 30, 5, 6, 104), (102, .iconst 0, 0, 0, 0), (103, .aload_n 0, 0, 0, 0), (104, .getfield 30, 5, 6, 104), (107, .iconst 0, 0, 0, 0), (108, .bipush 8, 0, 0, 0), (110, .invokestatic 40, 9999, 5, 319), (113, .return_, 0, 0, 0)]
def tl_20 : List (Nat × xRow) := [(0, .iload_n 1, 0, 0, 0), (1, .ifCond .lt 16, 17, 0, 0), (4, .iload_n 1, 0, 0, 0), (5, .aload_n 0, 0, 0, 0), (6, .getfield 18, 2, 2, 208), (9, .if_icmp .ge 8, 17, 0, 0), (12, .aload_n 0, 0, 0, 0), (13, .iload_n 1, 0, 0, 0), (14, .putfield 18, 2, 2, 208), (17, .return_, 0, 0, 0)]
def tl_21 : List (Nat × xRow) := [(0, .aload_n 0, 0, 0, 0), (1, .getfield 21, 6, 1, 218), (4, .iload_n 1, 0, 0, 0), (5, .invokevirtual 91, 13, 2, 330), (8, .ifCond .ne 5, 13, 0, 0), (11, .iconst (-1), 0, 0, 0), (12, .ireturn, 0, 0, 0), (13, .iload_n 2, 0, 0, 0), (14, .tableswitch 134 0 8 #[50, 60, 70, 80, 89, 98, 107, 116, 125], 0, 0, 0), (64, .aload_n 0, 0, 0, 0), (65, .getfield 21, 6, 1, 218), (68, .getfield 94, 5, 0, 94), (71, .iload_n 1, 0, 0, 0), (72, .iaload, 0, 0, 0), (73, .ireturn, 0, 0, 0), (74, .aload_n 0, 0, 0, 0), (75, .getfield 21, 6, 1, 218), (78, .getfield 98, 5, 1, 97), (81, .iload_n 1, 0, 0, 0), (82, .iaload, 0, 0, 0), (83, .ireturn, 0, 0, 0), (84, .aload_n 0, 0, 0, 0), (85, .getfield 21, 6, 1, 218), (88, .getfield 101, 5, 4, 102), (91, .iload_n 1, 0, 0, 0), (92, .iaload, 0, 0, 0), (93, .ireturn, 0, 0, 0), (94, .aload_n 0, 0, 0, 0), (95, .getfield 21, 6, 1, 218), (98, .iload_n 1, 0, 0, 0), (99, .invokevirtual 104, 22, 2, 331), (102, .ireturn, 0, 0, 0), (103, .aload_n 0, 0, 0, 0), (104, .getfield 21, 6, 1, 218), (107, .iload_n 1, 0, 0, 0), (108, .invokevirtual 107, 24, 2, 339), (111, .ireturn, 0, 0, 0), (112, .aload_n 0, 0, 0, 0), (113, .getfield 21, 6, 1, 218), (116, .iload_n 1, 0, 0, 0), (117, .invokevirtual 110, 26, 2, 350), (120, .ireturn, 0, 0, 0), (121, .aload_n 0, 0, 0, 0), (122, .getfield 21, 6, 1, 218), (125, .iload_n 1, 0, 0, 0), (126, .invokevirtual 113, 29, 2, 362), (129, .ireturn, 0, 0, 0), (130, .aload_n 0, 0, 0, 0), (131, .getfield 21, 6, 1, 218), (134, .iload_n 1, 0, 0, 0), (135, .invokevirtual 116, 30, 2, 366), (138, .ireturn, 0, 0, 0), (139, .aload_n 0, 0, 0, 0), (140, .getfield 21, 6, 1, 218), (143, .iload_n 1, 0, 0, 0), (144, .invokevirtual 119, 31, 2, 370), (147, .ireturn, 0, 0, 0), (148, .bipush (-2), 0, 0, 0), (150, .ireturn, 0, 0, 0)]
def tl_22 : List (Nat × xRow) := [(0, .aload_n 0, 0, 0, 0), (1, .iload_n 1, 0, 0, 0), (2, .invokevirtual 46, 13, 2, 299), (5, .ifCond .eq 22, 27, 0, 0), (8, .iconst 1, 0, 0, 0), (9, .iload_n 1, 0, 0, 0), (10, .ishl, 0, 0, 0), (11, .aload_n 0, 0, 0, 0), (12, .getfield 18, 5, 2, 98), (15, .iload_n 1, 0, 0, 0), (16, .iaload, 0, 0, 0), (17, .aload_n 0, 0, 0, 0), (18, .iload_n 1, 0, 0, 0), (19, .invokevirtual 80, 23, 2, 335), (22, .iand, 0, 0, 0), (23, .ior, 0, 0, 0), (24, .goto 4, 28, 0, 0), (27, .iconst 0, 0, 0, 0), (28, .ireturn, 0, 0, 0)]
def tl_23 : List (Nat × xRow) := [(0, .iconst 0, 0, 0, 0), (1, .istore_n 2, 0, 0, 0), (2, .iconst 0, 0, 0, 0), (3, .istore_n 3, 0, 0, 0), (4, .iload_n 3, 0, 0, 0), (5, .aload_n 0, 0, 0, 0), (6, .getfield 36, 5, 8, 108), (9, .if_icmp .ge 31, 40, 0, 0), (12, .aload_n 0, 0, 0, 0), (13, .getfield 18, 5, 2, 98), (16, .iload_n 3, 0, 0, 0), (17, .iaload, 0, 0, 0), (18, .iload_n 1, 0, 0, 0), (19, .invokestatic 54, 18, 2, 312), (22, .ifCond .eq 12, 34, 0, 0), (25, .iload_n 2, 0, 0, 0), (26, .aload_n 0, 0, 0, 0), (27, .getfield 30, 5, 6, 104), (30, .iload_n 3, 0, 0, 0), (31, .iaload, 0, 0, 0), (32, .ior, 0, 0, 0), (33, .istore_n 2, 0, 0, 0), (34, .iinc 3 1, 0, 0, 0), (37, .goto (-33), 4, 0, 0), (40, .iload_n 2, 0, 0, 0), (41, .ireturn, 0, 0, 0)]
def tl_24 : List (Nat × xRow) := [(0, .aload_n 0, 0, 0, 0), (1, .iload_n 1, 0, 0, 0), (2, .invokevirtual 83, 22, 2, 343), (5, .invokestatic 72, 25, 1, 344), (8, .ireturn, 0, 0, 0)]
def tl_25 : List (Nat × xRow) := [(0, .iload_n 0, 0, 0, 0), (1, .iload_n 0, 0, 0, 0), (2, .iconst 1, 0, 0, 0), (3, .iushr, 0, 0, 0), (4, .ldc_w 265, 1431655765, 0, 347), (7, .iand, 0, 0, 0), (8, .isub, 0, 0, 0), (9, .istore_n 0, 0, 0, 0), (10, .iload_n 0, 0, 0, 0), (11, .ldc_w 266, 858993459, 0, 348), (14, .iand, 0, 0, 0), (15, .iload_n 0, 0, 0, 0), (16, .iconst 2, 0, 0, 0), (17, .iushr, 0, 0, 0), (18, .ldc_w 266, 858993459, 0, 348), (21, .iand, 0, 0, 0), (22, .iadd, 0, 0, 0), (23, .istore_n 0, 0, 0, 0), (24, .iload_n 0, 0, 0, 0), (25, .iload_n 0, 0, 0, 0), (26, .iconst 4, 0, 0, 0), (27, .iushr, 0, 0, 0), (28, .iadd, 0, 0, 0), (29, .ldc_w 267, 252645135, 0, 349), (32, .iand, 0, 0, 0), (33, .istore_n 0, 0, 0, 0), (34, .iload_n 0, 0, 0, 0), (35, .iload_n 0, 0, 0, 0), (36, .bipush 8, 0, 0, 0), (38, .iushr, 0, 0, 0), (39, .iadd, 0, 0, 0), (40, .istore_n 0, 0, 0, 0), (41, .iload_n 0, 0, 0, 0), (42, .iload_n 0, 0, 0, 0), (43, .bipush 16, 0, 0, 0), (45, .iushr, 0, 0, 0), (46, .iadd, 0, 0, 0), (47, .istore_n 0, 0, 0, 0), (48, .iload_n 0, 0, 0, 0), (49, .bipush 63, 0, 0, 0), (51, .iand, 0, 0, 0), (52, .ireturn, 0, 0, 0)]
def tl_26 : List (Nat × xRow) := [(0, .aload_n 0, 0, 0, 0), (1, .invokevirtual 97, 27, 1, 354), (4, .aload_n 0, 0, 0, 0), (5, .iload_n 1, 0, 0, 0), (6, .invokevirtual 46, 13, 2, 299), (9, .ifCond .eq 12, 21, 0, 0), (12, .aload_n 0, 0, 0, 0), (13, .getfield 33, 5, 7, 107), (16, .iload_n 1, 0, 0, 0), (17, .iaload, 0, 0, 0), (18, .goto 5, 23, 0, 0), (21, .bipush (-9), 0, 0, 0), (23, .ireturn, 0, 0, 0)]
def tl_27 : List (Nat × xRow) := [(0, .iconst 0, 0, 0, 0), (1, .istore_n 1, 0, 0, 0), (2, .iload_n 1, 0, 0, 0), (3, .aload_n 0, 0, 0, 0), (4, .getfield 36, 5, 8, 108), (7, .if_icmp .ge 65, 72, 0, 0), (10, .iconst 0, 0, 0, 0), (11, .istore_n 2, 0, 0, 0), (12, .aload_n 0, 0, 0, 0), (13, .iload_n 1, 0, 0, 0), (14, .invokevirtual 83, 22, 2, 343), (17, .istore_n 3, 0, 0, 0), (18, .iconst 0, 0, 0, 0), (19, .istore 4, 0, 0, 0), (21, .iload 4, 0, 0, 0), (23, .iload_n 1, 0, 0, 0), (24, .if_icmp .ge 30, 54, 0, 0), (27, .iload_n 3, 0, 0, 0), (28, .iload 4, 0, 0, 0), (30, .invokestatic 54, 18, 2, 312), (33, .ifCond .eq 15, 48, 0, 0), (36, .iload_n 2, 0, 0, 0), (37, .iconst 1, 0, 0, 0), (38, .aload_n 0, 0, 0, 0), (39, .getfield 33, 5, 7, 107), (42, .iload 4, 0, 0, 0), (44, .iaload, 0, 0, 0), (45, .ishl, 0, 0, 0), (46, .ior, 0, 0, 0), (47, .istore_n 2, 0, 0, 0), (48, .iinc 4 1, 0, 0, 0), (51, .goto (-30), 21, 0, 0), (54, .aload_n 0, 0, 0, 0), (55, .getfield 33, 5, 7, 107), (58, .iload_n 1, 0, 0, 0), (59, .iload_n 2, 0, 0, 0), (60, .iconst (-1), 0, 0, 0), (61, .ixor, 0, 0, 0), (62, .invokestatic 100, 28, 1, 358), (65, .iastore, 0, 0, 0), (66, .iinc 1 1, 0, 0, 0), (69, .goto (-67), 2, 0, 0), (72, .return_, 0, 0, 0)]
def tl_28 : List (Nat × xRow) := [(0, .iload_n 0, 0, 0, 0), (1, .iconst (-1), 0, 0, 0), (2, .ixor, 0, 0, 0), (3, .iload_n 0, 0, 0, 0), (4, .iconst 1, 0, 0, 0), (5, .isub, 0, 0, 0), (6, .iand, 0, 0, 0), (7, .istore_n 0, 0, 0, 0), (8, .iload_n 0, 0, 0, 0), (9, .ifCond .gt 8, 17, 0, 0), (12, .iload_n 0, 0, 0, 0), (13, .bipush 32, 0, 0, 0), (15, .iand, 0, 0, 0), (16, .ireturn, 0, 0, 0), (17, .iconst 1, 0, 0, 0), (18, .istore_n 1, 0, 0, 0), (19, .iload_n 0, 0, 0, 0), (20, .ldc_w 264, 65536, 0, 361), (23, .if_icmp .le 11, 34, 0, 0), (26, .iinc 1 16, 0, 0, 0), (29, .iload_n 0, 0, 0, 0), (30, .bipush 16, 0, 0, 0), (32, .iushr, 0, 0, 0), (33, .istore_n 0, 0, 0, 0), (34, .iload_n 0, 0, 0, 0), (35, .sipush 256, 0, 0, 0), (38, .if_icmp .le 11, 49, 0, 0), (41, .iinc 1 8, 0, 0, 0), (44, .iload_n 0, 0, 0, 0), (45, .bipush 8, 0, 0, 0), (47, .iushr, 0, 0, 0), (48, .istore_n 0, 0, 0, 0), (49, .iload_n 0, 0, 0, 0), (50, .bipush 16, 0, 0, 0), (52, .if_icmp .le 10, 62, 0, 0), (55, .iinc 1 4, 0, 0, 0), (58, .iload_n 0, 0, 0, 0), (59, .iconst 4, 0, 0, 0), (60, .iushr, 0, 0, 0), (61, .istore_n 0, 0, 0, 0), (62, .iload_n 0, 0, 0, 0), (63, .iconst 4, 0, 0, 0), (64, .if_icmp .le 10, 74, 0, 0), (67, .iinc 1 2, 0, 0, 0), (70, .iload_n 0, 0, 0, 0), (71, .iconst 2, 0, 0, 0), (72, .iushr, 0, 0, 0), (73, .istore_n 0, 0, 0, 0), (74, .iload_n 1, 0, 0, 0), (75, .iload_n 0, 0, 0, 0), (76, .iconst 1, 0, 0, 0), (77, .iushr, 0, 0, 0), (78, .iadd, 0, 0, 0), (79, .ireturn, 0, 0, 0)]
def tl_29 : List (Nat × xRow) := [(0, .iconst 0, 0, 0, 0), (1, .istore_n 2, 0, 0, 0), (2, .iconst 0, 0, 0, 0), (3, .istore_n 3, 0, 0, 0), (4, .iload_n 3, 0, 0, 0), (5, .aload_n 0, 0, 0, 0), (6, .getfield 36, 5, 8, 108), (9, .if_icmp .ge 36, 45, 0, 0), (12, .aload_n 0, 0, 0, 0), (13, .iload_n 3, 0, 0, 0), (14, .invokevirtual 83, 22, 2, 343), (17, .istore 4, 0, 0, 0), (19, .iload 4, 0, 0, 0), (21, .iload_n 1, 0, 0, 0), (22, .invokestatic 54, 18, 2, 312), (25, .ifCond .eq 14, 39, 0, 0), (28, .iload_n 2, 0, 0, 0), (29, .iload 4, 0, 0, 0), (31, .iconst 1, 0, 0, 0), (32, .iload_n 1, 0, 0, 0), (33, .ishl, 0, 0, 0), (34, .iconst (-1), 0, 0, 0), (35, .ixor, 0, 0, 0), (36, .iand, 0, 0, 0), (37, .ior, 0, 0, 0), (38, .istore_n 2, 0, 0, 0), (39, .iinc 3 1, 0, 0, 0), (42, .goto (-38), 4, 0, 0), (45, .iload_n 2, 0, 0, 0), (46, .ireturn, 0, 0, 0)]
def tl_30 : List (Nat × xRow) := [(0, .iconst 0, 0, 0, 0), (1, .istore_n 2, 0, 0, 0), (2, .iconst 0, 0, 0, 0), (3, .istore_n 3, 0, 0, 0), (4, .iload_n 3, 0, 0, 0), (5, .aload_n 0, 0, 0, 0), (6, .getfield 36, 5, 8, 108), (9, .if_icmp .ge 28, 37, 0, 0), (12, .aload_n 0, 0, 0, 0), (13, .getfield 30, 5, 6, 104), (16, .iload_n 3, 0, 0, 0), (17, .iaload, 0, 0, 0), (18, .iload_n 1, 0, 0, 0), (19, .invokestatic 54, 18, 2, 312), (22, .ifCond .eq 9, 31, 0, 0), (25, .iload_n 2, 0, 0, 0), (26, .iconst 1, 0, 0, 0), (27, .iload_n 3, 0, 0, 0), (28, .ishl, 0, 0, 0), (29, .ior, 0, 0, 0), (30, .istore_n 2, 0, 0, 0), (31, .iinc 3 1, 0, 0, 0), (34, .goto (-30), 4, 0, 0), (37, .iload_n 2, 0, 0, 0), (38, .ireturn, 0, 0, 0)]
def tl_31 : List (Nat × xRow) := [(0, .aload_n 0, 0, 0, 0), (1, .iload_n 1, 0, 0, 0), (2, .invokevirtual 46, 13, 2, 299), (5, .ifCond .ne 5, 10, 0, 0), (8, .iconst 0, 0, 0, 0), (9, .ireturn, 0, 0, 0), (10, .aload_n 0, 0, 0, 0), (11, .iload_n 1, 0, 0, 0), (12, .invokevirtual 77, 32, 2, 374), (15, .istore_n 2, 0, 0, 0), (16, .aload_n 0, 0, 0, 0), (17, .getfield 9, 5, 0, 93), (20, .iload_n 1, 0, 0, 0), (21, .iaload, 0, 0, 0), (22, .lookupswitch 34 #[(1, 30), (2, 26)], 0, 0, 0), (48, .iconst 2, 0, 0, 0), (49, .iload_n 2, 0, 0, 0), (50, .imul, 0, 0, 0), (51, .ireturn, 0, 0, 0), (52, .iload_n 2, 0, 0, 0), (53, .iconst 1, 0, 0, 0), (54, .iadd, 0, 0, 0), (55, .ireturn, 0, 0, 0), (56, .iload_n 2, 0, 0, 0), (57, .ireturn, 0, 0, 0)]
def tl_32 : List (Nat × xRow) := [(0, .aload_n 0, 0, 0, 0), (1, .iload_n 1, 0, 0, 0), (2, .invokevirtual 68, 30, 2, 378), (5, .invokestatic 72, 25, 1, 344), (8, .ireturn, 0, 0, 0)]
def tl_33 : List (Nat × xRow) := [(0, .aload_n 0, 0, 0, 0), (1, .getfield 21, 6, 1, 218), (4, .iload_n 1, 0, 0, 0), (5, .iload_n 2, 0, 0, 0), (6, .invokevirtual 122, 34, 3, 383), (9, .ifCond .eq 15, 24, 0, 0), (12, .aload_n 0, 0, 0, 0), (13, .getfield 21, 6, 1, 218), (16, .iload_n 1, 0, 0, 0), (17, .iload_n 2, 0, 0, 0), (18, .invokevirtual 126, 35, 3, 387), (21, .goto 4, 25, 0, 0), (24, .iconst (-1), 0, 0, 0), (25, .ireturn, 0, 0, 0)]
def tl_34 : List (Nat × xRow) := [(0, .aload_n 0, 0, 0, 0), (1, .iload_n 1, 0, 0, 0), (2, .invokevirtual 46, 13, 2, 299), (5, .ifCond .eq 21, 26, 0, 0), (8, .iload_n 2, 0, 0, 0), (9, .ifCond .lt 17, 26, 0, 0), (12, .iload_n 2, 0, 0, 0), (13, .aload_n 0, 0, 0, 0), (14, .getfield 24, 5, 4, 100), (17, .iload_n 1, 0, 0, 0), (18, .iaload, 0, 0, 0), (19, .if_icmp .ge 7, 26, 0, 0), (22, .iconst 1, 0, 0, 0), (23, .goto 4, 27, 0, 0), (26, .iconst 0, 0, 0, 0), (27, .ireturn, 1, 0, 0)]
def tl_35 : List (Nat × xRow) := [(0, .aload_n 0, 0, 0, 0), (1, .iload_n 1, 0, 0, 0), (2, .iload_n 2, 0, 0, 0), (3, .invokevirtual 57, 34, 3, 391), (6, .ifCond .eq 16, 22, 0, 0), (9, .aload_n 0, 0, 0, 0), (10, .getfield 27, 5, 5, 103), (13, .iload_n 1, 0, 0, 0), (14, .iconst 2, 0, 0, 0), (15, .imul, 0, 0, 0), (16, .iload_n 2, 0, 0, 0), (17, .iadd, 0, 0, 0), (18, .iaload, 0, 0, 0), (19, .goto 5, 24, 0, 0), (22, .bipush (-9), 0, 0, 0), (24, .ireturn, 0, 0, 0)]
def tl_36 : List (Nat × xRow) := [(0, .aload_n 0, 0, 0, 0), (1, .getfield 21, 6, 1, 218), (4, .iload_n 1, 0, 0, 0), (5, .iload_n 2, 0, 0, 0), (6, .invokevirtual 122, 34, 3, 383), (9, .ifCond .eq 14, 23, 0, 0), (12, .aload_n 0, 0, 0, 0), (13, .getfield 21, 6, 1, 218), (16, .iload_n 3, 0, 0, 0), (17, .invokevirtual 91, 13, 2, 330), (20, .ifCond .ne 5, 25, 0, 0), (23, .iconst (-1), 0, 0, 0), (24, .ireturn, 0, 0, 0), (25, .aload_n 0, 0, 0, 0), (26, .getfield 21, 6, 1, 218), (29, .iload_n 1, 0, 0, 0), (30, .iload_n 2, 0, 0, 0), (31, .iload_n 3, 0, 0, 0), (32, .invokevirtual 130, 37, 4, 396), (35, .ifCond .ne 6, 41, 0, 0), (38, .bipush (-3), 0, 0, 0), (40, .ireturn, 0, 0, 0), (41, .aload_n 0, 0, 0, 0), (42, .getfield 21, 6, 1, 218), (45, .iload_n 1, 0, 0, 0), (46, .iload_n 2, 0, 0, 0), (47, .invokevirtual 126, 35, 3, 387), (50, .istore 4, 0, 0, 0), (52, .aload_n 0, 0, 0, 0), (53, .getfield 21, 6, 1, 218), (56, .iload_n 1, 0, 0, 0), (57, .iload_n 2, 0, 0, 0), (58, .iload_n 3, 0, 0, 0), (59, .invokevirtual 134, 38, 4, 401), (62, .iload 4, 0, 0, 0), (64, .ireturn, 0, 0, 0)]
def tl_37 : List (Nat × xRow) := [(0, .aload_n 0, 0, 0, 0), (1, .iload_n 1, 0, 0, 0), (2, .iload_n 2, 0, 0, 0), (3, .invokevirtual 57, 34, 3, 391), (6, .ifCond .eq 28, 34, 0, 0), (9, .aload_n 0, 0, 0, 0), (10, .iload_n 1, 0, 0, 0), (11, .iload_n 3, 0, 0, 0), (12, .invokevirtual 50, 17, 3, 308), (15, .ifCond .eq 19, 34, 0, 0), (18, .aload_n 0, 0, 0, 0), (19, .iload_n 1, 0, 0, 0), (20, .iconst 1, 0, 0, 0), (21, .iload_n 2, 0, 0, 0), (22, .isub, 0, 0, 0), (23, .invokevirtual 60, 35, 3, 400), (26, .iload_n 3, 0, 0, 0), (27, .if_icmp .eq 7, 34, 0, 0), (30, .iconst 1, 0, 0, 0), (31, .goto 4, 35, 0, 0), (34, .iconst 0, 0, 0, 0), (35, .ireturn, 1, 0, 0)]
def tl_38 : List (Nat × xRow) := [(0, .aload_n 0, 0, 0, 0), (1, .iload_n 1, 0, 0, 0), (2, .iload_n 2, 0, 0, 0), (3, .iload_n 3, 0, 0, 0), (4, .invokevirtual 64, 37, 4, 405), (7, .ifCond .eq 41, 48, 0, 0), (10, .aload_n 0, 0, 0, 0), (11, .getfield 30, 5, 6, 104), (14, .iload_n 1, 0, 0, 0), (15, .aload_n 0, 0, 0, 0), (16, .getfield 30, 5, 6, 104), (19, .iload_n 1, 0, 0, 0), (20, .iaload, 0, 0, 0), (21, .iconst 1, 0, 0, 0), (22, .aload_n 0, 0, 0, 0), (23, .iload_n 1, 0, 0, 0), (24, .iload_n 2, 0, 0, 0), (25, .invokevirtual 60, 35, 3, 400), (28, .ishl, 0, 0, 0), (29, .iconst (-1), 0, 0, 0), (30, .ixor, 0, 0, 0), (31, .iand, 0, 0, 0), (32, .iconst 1, 0, 0, 0), (33, .iload_n 3, 0, 0, 0), (34, .ishl, 0, 0, 0), (35, .ior, 0, 0, 0), (36, .iastore, 0, 0, 0), (37, .aload_n 0, 0, 0, 0), (38, .getfield 27, 5, 5, 103), (41, .iload_n 1, 0, 0, 0), (42, .iconst 2, 0, 0, 0), (43, .imul, 0, 0, 0), (44, .iload_n 2, 0, 0, 0), (45, .iadd, 0, 0, 0), (46, .iload_n 3, 0, 0, 0), (47, .iastore, 0, 0, 0), (48, .return_, 0, 0, 0)]
def tl_39 : List (Nat × xRow) := [(0, .iload_n 1, 0, 0, 0), (1, .invokestatic 138, 40, 1, 410), (4, .ifCond .ne 6, 10, 0, 0), (7, .bipush (-2), 0, 0, 0), (9, .ireturn, 0, 0, 0), (10, .aload_n 0, 0, 0, 0), (11, .getfield 21, 6, 1, 218), (14, .iload_n 2, 0, 0, 0), (15, .invokevirtual 91, 13, 2, 330), (18, .ifCond .eq 33, 51, 0, 0), (21, .aload_n 0, 0, 0, 0), (22, .iload_n 3, 0, 0, 0), (23, .invokevirtual 141, 41, 2, 413), (26, .ifCond .eq 25, 51, 0, 0), (29, .aload_n 0, 0, 0, 0), (30, .iload 4, 0, 0, 0), (32, .invokevirtual 141, 41, 2, 413), (35, .ifCond .eq 16, 51, 0, 0), (38, .iload_n 3, 0, 0, 0), (39, .bipush (-9), 0, 0, 0), (41, .if_icmp .ne 12, 53, 0, 0), (44, .iload 4, 0, 0, 0), (46, .bipush (-9), 0, 0, 0), (48, .if_icmp .eq 5, 53, 0, 0), (51, .iconst (-1), 0, 0, 0), (52, .ireturn, 0, 0, 0), (53, .aload_n 0, 0, 0, 0), (54, .iload_n 2, 0, 0, 0), (55, .iload_n 3, 0, 0, 0), (56, .invokevirtual 144, 42, 3, 417), (59, .ifCond .eq 25, 84, 0, 0), (62, .aload_n 0, 0, 0, 0), (63, .iload_n 2, 0, 0, 0), (64, .iload 4, 0, 0, 0), (66, .invokevirtual 144, 42, 3, 417), (69, .ifCond .eq 15, 84, 0, 0), (72, .iload_n 3, 0, 0, 0), (73, .bipush (-9), 0, 0, 0), (75, .if_icmp .eq 12, 87, 0, 0), (78, .iload_n 3, 0, 0, 0), (79, .iload 4, 0, 0, 0), (81, .if_icmp .ne 6, 87, 0, 0), (84, .bipush (-3), 0, 0, 0), (86, .ireturn, 0, 0, 0), (87, .aload_n 0, 0, 0, 0), (88, .getfield 21, 6, 1, 218), (91, .getfield 88, 5, 8, 111), (94, .bipush 8, 0, 0, 0), (96, .if_icmp .lt 6, 102, 0, 0), (99, .bipush (-4), 0, 0, 0), (101, .ireturn, 0, 0, 0), (102, .aload_n 0, 0, 0, 0), (103, .getfield 21, 6, 1, 218), (106, .getfield 88, 5, 8, 111), (109, .istore 5, 0, 0, 0), (111, .aload_n 0, 0, 0, 0), (112, .getfield 21, 6, 1, 218), (115, .iload_n 1, 0, 0, 0), (116, .iload_n 2, 0, 0, 0), (117, .invokevirtual 147, 14, 3, 422), (120, .aload_n 0, 0, 0, 0), (121, .getfield 21, 6, 1, 218), (124, .iload_n 3, 0, 0, 0), (125, .invokevirtual 151, 16, 2, 423), (128, .pop, 0, 0, 0), (129, .aload_n 0, 0, 0, 0), (130, .getfield 21, 6, 1, 218), (133, .iload 4, 0, 0, 0), (135, .invokevirtual 151, 16, 2, 423), (138, .pop, 0, 0, 0), (139, .iload 5, 0, 0, 0), (141, .ireturn, 0, 0, 0)]
def tl_40 : List (Nat × xRow) := [(0, .iload_n 0, 0, 0, 0), (1, .ifCond .lt 12, 13, 0, 0), (4, .iload_n 0, 0, 0, 0), (5, .iconst 2, 0, 0, 0), (6, .if_icmp .gt 7, 13, 0, 0), (9, .iconst 1, 0, 0, 0), (10, .goto 4, 14, 0, 0), (13, .iconst 0, 0, 0, 0), (14, .ireturn, 1, 0, 0)]
def tl_41 : List (Nat × xRow) := [(0, .iload_n 1, 0, 0, 0), (1, .bipush (-9), 0, 0, 0), (3, .if_icmp .eq 14, 17, 0, 0), (6, .aload_n 0, 0, 0, 0), (7, .getfield 21, 6, 1, 218), (10, .iload_n 1, 0, 0, 0), (11, .invokevirtual 91, 13, 2, 330), (14, .ifCond .eq 7, 21, 0, 0), (17, .iconst 1, 0, 0, 0), (18, .goto 4, 22, 0, 0), (21, .iconst 0, 0, 0, 0), (22, .ireturn, 1, 0, 0)]
def tl_42 : List (Nat × xRow) := [(0, .iload_n 2, 0, 0, 0), (1, .bipush (-9), 0, 0, 0), (3, .if_icmp .eq 20, 23, 0, 0), (6, .iload_n 2, 0, 0, 0), (7, .iload_n 1, 0, 0, 0), (8, .if_icmp .eq 15, 23, 0, 0), (11, .aload_n 0, 0, 0, 0), (12, .getfield 21, 6, 1, 218), (15, .iload_n 1, 0, 0, 0), (16, .iload_n 2, 0, 0, 0), (17, .invokevirtual 182, 17, 3, 421), (20, .ifCond .eq 7, 27, 0, 0), (23, .iconst 1, 0, 0, 0), (24, .goto 4, 28, 0, 0), (27, .iconst 0, 0, 0, 0), (28, .ireturn, 1, 0, 0)]
def tl_43 : List (Nat × xRow) := [(0, .aload_n 0, 0, 0, 0), (1, .getfield 21, 6, 1, 218), (4, .getfield 88, 5, 8, 111), (7, .iconst 1, 0, 0, 0), (8, .if_icmp .gt 6, 14, 0, 0), (11, .bipush (-3), 0, 0, 0), (13, .ireturn, 0, 0, 0), (14, .aload_n 0, 0, 0, 0), (15, .getfield 21, 6, 1, 218), (18, .invokevirtual 154, 44, 1, 428), (21, .aload_n 0, 0, 0, 0), (22, .getfield 54, 6, 6, 223), (25, .aload_n 0, 0, 0, 0), (26, .getfield 21, 6, 1, 218), (29, .getfield 88, 5, 8, 111), (32, .invokevirtual 157, 45, 2, 432), (35, .aload_n 0, 0, 0, 0), (36, .getfield 21, 6, 1, 218), (39, .getfield 88, 5, 8, 111), (42, .ireturn, 0, 0, 0)]
def tl_44 : List (Nat × xRow) := [(0, .aload_n 0, 0, 0, 0), (1, .getfield 36, 5, 8, 108), (4, .ifCond .le 13, 17, 0, 0), (7, .aload_n 0, 0, 0, 0), (8, .dup, 0, 0, 0), (9, .getfield 36, 5, 8, 108), (12, .iconst 1, 0, 0, 0), (13, .isub, 0, 0, 0), (14, .putfield 36, 5, 8, 108), (17, .return_, 0, 0, 0)]
def tl_45 : List (Nat × xRow) := [(0, .iconst 0, 0, 0, 0), (1, .istore_n 2, 0, 0, 0), (2, .iconst 0, 0, 0, 0), (3, .istore_n 3, 0, 0, 0), (4, .iload_n 3, 0, 0, 0), (5, .aload_n 0, 0, 0, 0), (6, .getfield 18, 2, 2, 208), (9, .if_icmp .ge 46, 55, 0, 0), (12, .aload_n 0, 0, 0, 0), (13, .getfield 9, 2, 0, 206), (16, .iload_n 3, 0, 0, 0), (17, .iaload, 0, 0, 0), (18, .iload_n 1, 0, 0, 0), (19, .if_icmp .eq 30, 49, 0, 0), (22, .aload_n 0, 0, 0, 0), (23, .getfield 9, 2, 0, 206), (26, .iload_n 2, 0, 0, 0), (27, .aload_n 0, 0, 0, 0), (28, .getfield 9, 2, 0, 206), (31, .iload_n 3, 0, 0, 0), (32, .iaload, 0, 0, 0), (33, .iastore, 0, 0, 0), (34, .aload_n 0, 0, 0, 0), (35, .getfield 15, 2, 1, 207), (38, .iload_n 2, 0, 0, 0), (39, .aload_n 0, 0, 0, 0), (40, .getfield 15, 2, 1, 207), (43, .iload_n 3, 0, 0, 0), (44, .iaload, 0, 0, 0), (45, .iastore, 0, 0, 0), (46, .iinc 2 1, 0, 0, 0), (49, .iinc 3 1, 0, 0, 0), (52, .goto (-48), 4, 0, 0), (55, .aload_n 0, 0, 0, 0), (56, .iload_n 2, 0, 0, 0), (57, .putfield 18, 2, 2, 208), (60, .return_, 0, 0, 0)]
def tl_46 : List (Nat × xRow) := [(0, .aload_n 0, 0, 0, 0), (1, .iconst 0, 0, 0, 0), (2, .putfield 58, 6, 8, 225), (5, .iload_n 1, 0, 0, 0), (6, .invokestatic 62, 2, 1, 249), (9, .ifCond .ne 5, 14, 0, 0), (12, .iconst (-1), 0, 0, 0), (13, .ireturn, 0, 0, 0), (14, .iload_n 2, 0, 0, 0), (15, .invokestatic 66, 3, 1, 252), (18, .ifCond .eq 23, 41, 0, 0), (21, .iload 4, 0, 0, 0), (23, .ifCond .lt 18, 41, 0, 0), (26, .iload 4, 0, 0, 0), (28, .bipush 20, 0, 0, 0), (30, .if_icmp .gt 11, 41, 0, 0), (33, .iload 5, 0, 0, 0), (35, .invokestatic 160, 47, 1, 440), (38, .ifCond .ne 6, 44, 0, 0), (41, .bipush (-2), 0, 0, 0), (43, .ireturn, 0, 0, 0), (44, .aload_n 0, 0, 0, 0), (45, .getfield 13, 6, 0, 217), (48, .iload_n 1, 0, 0, 0), (49, .aaload, 0, 0, 0), (50, .iload_n 2, 0, 0, 0), (51, .iload_n 3, 0, 0, 0), (52, .iconst 3, 0, 0, 0), (53, .iload 4, 0, 0, 0), (55, .imul, 0, 0, 0), (56, .invokevirtual 69, 4, 4, 255), (59, .istore 6, 0, 0, 0), (61, .iload 6, 0, 0, 0), (63, .ifCond .eq 10, 73, 0, 0), (66, .aload_n 0, 0, 0, 0), (67, .iload 6, 0, 0, 0), (69, .invokevirtual 73, 6, 2, 263), (72, .ireturn, 0, 0, 0), (73, .aload_n 0, 0, 0, 0), (74, .getfield 21, 6, 1, 218), (77, .getfield 88, 5, 8, 111), (80, .ifCond .ne 6, 86, 0, 0), (83, .bipush (-3), 0, 0, 0), (85, .ireturn, 0, 0, 0), (86, .aload_n 0, 0, 0, 0), (87, .aload_n 0, 0, 0, 0), (88, .getfield 13, 6, 0, 217), (91, .iload_n 1, 0, 0, 0), (92, .aaload, 0, 0, 0), (93, .iload_n 3, 0, 0, 0), (94, .iload 4, 0, 0, 0), (96, .invokevirtual 163, 49, 4, 446), (99, .istore 7, 0, 0, 0), (101, .iload 5, 0, 0, 0), (103, .iconst 1, 0, 0, 0), (104, .if_icmp .ne 6, 110, 0, 0), (107, .iload 7, 0, 0, 0), (109, .ireturn, 0, 0, 0), (110, .iload 7, 0, 0, 0), (112, .bipush (-9), 0, 0, 0), (114, .if_icmp .ne 12, 126, 0, 0), (117, .aload_n 0, 0, 0, 0), (118, .iload 5, 0, 0, 0), (120, .invokevirtual 166, 50, 2, 451), (123, .goto 8, 131, 0, 0), (126, .bipush (-100), 0, 0, 0), (128, .iload 7, 0, 0, 0), (130, .isub, 0, 0, 0), (131, .ireturn, 0, 0, 0)]
def tl_47 : List (Nat × xRow) := [(0, .iload_n 0, 0, 0, 0), (1, .ifCond .lt 8, 9, 0, 0), (4, .iload_n 0, 0, 0, 0), (5, .iconst 4, 0, 0, 0), (6, .if_icmp .le 12, 18, 0, 0), (9, .iload_n 0, 0, 0, 0), (10, .bipush 8, 0, 0, 0), (12, .invokestatic 289, 48, 2, 443), (15, .ifCond .eq 7, 22, 0, 0), (18, .iconst 1, 0, 0, 0), (19, .goto 4, 23, 0, 0), (22, .iconst 0, 0, 0, 0), (23, .ireturn, 1, 0, 0)]
def tl_48 : List (Nat × xRow) := [(0, .iload_n 0, 0, 0, 0), (1, .bipush 10, 0, 0, 0), (3, .if_icmp .lt 15, 18, 0, 0), (6, .iload_n 0, 0, 0, 0), (7, .bipush 10, 0, 0, 0), (9, .iload_n 1, 0, 0, 0), (10, .iadd, 0, 0, 0), (11, .if_icmp .ge 7, 18, 0, 0), (14, .iconst 1, 0, 0, 0), (15, .goto 4, 19, 0, 0), (18, .iconst 0, 0, 0, 0), (19, .ireturn, 1, 0, 0)]
def tl_49 : List (Nat × xRow) := [(0, .aload_n 0, 0, 0, 0), (1, .getfield 25, 6, 2, 219), (4, .aload_n 0, 0, 0, 0), (5, .getfield 21, 6, 1, 218), (8, .invokevirtual 81, 19, 2, 315), (11, .iconst 0, 0, 0, 0), (12, .istore 4, 0, 0, 0), (14, .iload 4, 0, 0, 0), (16, .iload_n 3, 0, 0, 0), (17, .if_icmp .ge 77, 94, 0, 0), (20, .iload_n 2, 0, 0, 0), (21, .iconst 3, 0, 0, 0), (22, .iload 4, 0, 0, 0), (24, .imul, 0, 0, 0), (25, .iadd, 0, 0, 0), (26, .istore 5, 0, 0, 0), (28, .aload_n 1, 0, 0, 0), (29, .iload 5, 0, 0, 0), (31, .invokevirtual 256, 8, 2, 450), (34, .istore 6, 0, 0, 0), (36, .aload_n 1, 0, 0, 0), (37, .iload 5, 0, 0, 0), (39, .iconst 1, 0, 0, 0), (40, .iadd, 0, 0, 0), (41, .invokevirtual 256, 8, 2, 450), (44, .istore 7, 0, 0, 0), (46, .aload_n 1, 0, 0, 0), (47, .iload 5, 0, 0, 0), (49, .iconst 2, 0, 0, 0), (50, .iadd, 0, 0, 0), (51, .invokevirtual 256, 8, 2, 450), (54, .istore 8, 0, 0, 0), (56, .aload_n 0, 0, 0, 0), (57, .getfield 25, 6, 2, 219), (60, .iload 6, 0, 0, 0), (62, .iload 7, 0, 0, 0), (64, .iload 8, 0, 0, 0), (66, .invokevirtual 130, 37, 4, 396), (69, .ifCond .ne 6, 75, 0, 0), (72, .iload 4, 0, 0, 0), (74, .ireturn, 0, 0, 0), (75, .aload_n 0, 0, 0, 0), (76, .getfield 25, 6, 2, 219), (79, .iload 6, 0, 0, 0), (81, .iload 7, 0, 0, 0), (83, .iload 8, 0, 0, 0), (85, .invokevirtual 134, 38, 4, 401), (88, .iinc 4 1, 0, 0, 0), (91, .goto (-77), 14, 0, 0), (94, .bipush (-9), 0, 0, 0), (96, .ireturn, 0, 0, 0)]
def tl_50 : List (Nat × xRow) := [(0, .iload_n 1, 0, 0, 0), (1, .tableswitch 79 0 4 #[35, 79, 43, 51, 71], 0, 0, 0), (36, .aload_n 0, 0, 0, 0), (37, .getfield 25, 6, 2, 219), (40, .invokevirtual 172, 51, 1, 455), (43, .ireturn, 0, 0, 0), (44, .aload_n 0, 0, 0, 0), (45, .getfield 25, 6, 2, 219), (48, .invokevirtual 176, 52, 1, 463), (51, .ireturn, 0, 0, 0), (52, .aload_n 0, 0, 0, 0), (53, .getfield 40, 6, 4, 221), (56, .aload_n 0, 0, 0, 0), (57, .getfield 25, 6, 2, 219), (60, .iconst 3, 0, 0, 0), (61, .invokevirtual 194, 53, 3, 467), (64, .aload_n 0, 0, 0, 0), (65, .getfield 40, 6, 4, 221), (68, .getfield 198, 0, 1, 156), (71, .ireturn, 0, 0, 0), (72, .aload_n 0, 0, 0, 0), (73, .getfield 25, 6, 2, 219), (76, .invokevirtual 179, 58, 1, 495), (79, .ireturn, 0, 0, 0), (80, .aload_n 0, 0, 0, 0), (81, .getfield 25, 6, 2, 219), (84, .iload_n 1, 0, 0, 0), (85, .bipush 10, 0, 0, 0), (87, .isub, 0, 0, 0), (88, .invokevirtual 91, 13, 2, 330), (91, .ifCond .eq 17, 108, 0, 0), (94, .aload_n 0, 0, 0, 0), (95, .getfield 25, 6, 2, 219), (98, .iload_n 1, 0, 0, 0), (99, .bipush 10, 0, 0, 0), (101, .isub, 0, 0, 0), (102, .invokevirtual 110, 26, 2, 350), (105, .goto 5, 110, 0, 0), (108, .bipush (-9), 0, 0, 0), (110, .ireturn, 0, 0, 0)]
def tl_51 : List (Nat × xRow) := [(0, .iconst 0, 0, 0, 0), (1, .istore_n 1, 0, 0, 0), (2, .iconst 0, 0, 0, 0), (3, .istore_n 2, 0, 0, 0), (4, .iload_n 2, 0, 0, 0), (5, .aload_n 0, 0, 0, 0), (6, .getfield 36, 5, 8, 108), (9, .if_icmp .ge 19, 28, 0, 0), (12, .iload_n 1, 0, 0, 0), (13, .aload_n 0, 0, 0, 0), (14, .iload_n 2, 0, 0, 0), (15, .invokevirtual 86, 24, 2, 459), (18, .invokestatic 89, 9998, 2, 460), (21, .istore_n 1, 0, 0, 0), (22, .iinc 2 1, 0, 0, 0), (25, .goto (-21), 4, 0, 0), (28, .iload_n 1, 0, 0, 0), (29, .ireturn, 0, 0, 0)]
def tl_52 : List (Nat × xRow) := [(0, .aload_n 0, 0, 0, 0), (1, .invokevirtual 97, 27, 1, 354), (4, .iconst 0, 0, 0, 0), (5, .istore_n 1, 0, 0, 0), (6, .iconst 0, 0, 0, 0), (7, .istore_n 2, 0, 0, 0), (8, .iload_n 2, 0, 0, 0), (9, .aload_n 0, 0, 0, 0), (10, .getfield 36, 5, 8, 108), (13, .if_icmp .ge 22, 35, 0, 0), (16, .iload_n 1, 0, 0, 0), (17, .aload_n 0, 0, 0, 0), (18, .getfield 33, 5, 7, 107), (21, .iload_n 2, 0, 0, 0), (22, .iaload, 0, 0, 0), (23, .iconst 1, 0, 0, 0), (24, .iadd, 0, 0, 0), (25, .invokestatic 89, 9998, 2, 460), (28, .istore_n 1, 0, 0, 0), (29, .iinc 2 1, 0, 0, 0), (32, .goto (-24), 8, 0, 0), (35, .iload_n 1, 0, 0, 0), (36, .ireturn, 0, 0, 0)]
def tl_53 : List (Nat × xRow) := [(0, .aload_n 0, 0, 0, 0), (1, .iconst 0, 0, 0, 0), (2, .putfield 15, 0, 1, 155), (5, .aload_n 0, 0, 0, 0), (6, .iconst 0, 0, 0, 0), (7, .putfield 19, 0, 2, 157), (10, .aload_n 0, 0, 0, 0), (11, .iconst 0, 0, 0, 0), (12, .putfield 22, 0, 3, 159), (15, .iconst 0, 0, 0, 0), (16, .istore_n 3, 0, 0, 0), (17, .iload_n 3, 0, 0, 0), (18, .aload_n 1, 0, 0, 0), (19, .getfield 25, 5, 8, 110), (22, .if_icmp .ge 58, 80, 0, 0), (25, .aload_n 1, 0, 0, 0), (26, .getfield 30, 5, 1, 96), (29, .iload_n 3, 0, 0, 0), (30, .iaload, 0, 0, 0), (31, .istore 4, 0, 0, 0), (33, .aload_n 0, 0, 0, 0), (34, .aload_n 1, 0, 0, 0), (35, .iload 4, 0, 0, 0), (37, .invokevirtual 33, 13, 2, 471), (40, .ifCond .eq 13, 53, 0, 0), (43, .aload_n 0, 0, 0, 0), (44, .getfield 9, 0, 0, 153), (47, .iload 4, 0, 0, 0), (49, .iaload, 0, 0, 0), (50, .goto 4, 54, 0, 0), (53, .iconst 0, 0, 0, 0), (54, .putfield 37, 0, 4, 161), (57, .aload_n 0, 0, 0, 0), (58, .aload_n 1, 0, 0, 0), (59, .iload_n 3, 0, 0, 0), (60, .iload_n 2, 0, 0, 0), (61, .invokevirtual 40, 54, 4, 472), (64, .aload_n 0, 0, 0, 0), (65, .getfield 9, 0, 0, 153), (68, .iload_n 3, 0, 0, 0), (69, .aload_n 0, 0, 0, 0), (70, .getfield 37, 0, 4, 161), (73, .iastore, 0, 0, 0), (74, .iinc 3 1, 0, 0, 0), (77, .goto (-60), 17, 0, 0), (80, .return_, 0, 0, 0)]
def tl_54 : List (Nat × xRow) := [(0, .iconst 0, 0, 0, 0), (1, .istore 4, 0, 0, 0), (3, .iload 4, 0, 0, 0), (5, .aload_n 1, 0, 0, 0), (6, .getfield 44, 5, 4, 101), (9, .iload_n 2, 0, 0, 0), (10, .iaload, 0, 0, 0), (11, .if_icmp .ge 73, 84, 0, 0), (14, .aload_n 1, 0, 0, 0), (15, .iload_n 2, 0, 0, 0), (16, .iload 4, 0, 0, 0), (18, .invokevirtual 47, 35, 3, 476), (21, .istore 5, 0, 0, 0), (23, .aload_n 0, 0, 0, 0), (24, .getfield 37, 0, 4, 161), (27, .iload 5, 0, 0, 0), (29, .invokestatic 51, 18, 2, 477), (32, .ifCond .ne 46, 78, 0, 0), (35, .aload_n 0, 0, 0, 0), (36, .aload_n 1, 0, 0, 0), (37, .iload_n 2, 0, 0, 0), (38, .iload_n 3, 0, 0, 0), (39, .aload_n 0, 0, 0, 0), (40, .getfield 37, 0, 4, 161), (43, .aload_n 1, 0, 0, 0), (44, .getfield 55, 5, 6, 105), (47, .iload_n 2, 0, 0, 0), (48, .iaload, 0, 0, 0), (49, .iconst (-1), 0, 0, 0), (50, .ixor, 0, 0, 0), (51, .iand, 0, 0, 0), (52, .invokevirtual 58, 55, 5, 478), (55, .aload_n 0, 0, 0, 0), (56, .dup, 0, 0, 0), (57, .getfield 37, 0, 4, 161), (60, .iconst 1, 0, 0, 0), (61, .iload 5, 0, 0, 0), (63, .ishl, 0, 0, 0), (64, .ior, 0, 0, 0), (65, .putfield 37, 0, 4, 161), (68, .aload_n 0, 0, 0, 0), (69, .dup, 0, 0, 0), (70, .getfield 19, 0, 2, 157), (73, .iconst 1, 0, 0, 0), (74, .iadd, 0, 0, 0), (75, .putfield 19, 0, 2, 157), (78, .iinc 4 1, 0, 0, 0), (81, .goto (-78), 3, 0, 0), (84, .aload_n 0, 0, 0, 0), (85, .dup, 0, 0, 0), (86, .getfield 37, 0, 4, 161), (89, .aload_n 1, 0, 0, 0), (90, .iload_n 2, 0, 0, 0), (91, .invokevirtual 62, 23, 2, 494), (94, .iand, 0, 0, 0), (95, .putfield 37, 0, 4, 161), (98, .aload_n 0, 0, 0, 0), (99, .aload_n 1, 0, 0, 0), (100, .iload_n 2, 0, 0, 0), (101, .iload_n 3, 0, 0, 0), (102, .aload_n 0, 0, 0, 0), (103, .getfield 37, 0, 4, 161), (106, .invokevirtual 58, 55, 5, 478), (109, .aload_n 0, 0, 0, 0), (110, .dup, 0, 0, 0), (111, .getfield 37, 0, 4, 161), (114, .iconst 1, 0, 0, 0), (115, .iload_n 2, 0, 0, 0), (116, .ishl, 0, 0, 0), (117, .ior, 0, 0, 0), (118, .putfield 37, 0, 4, 161), (121, .return_, 0, 0, 0)]
def tl_55 : List (Nat × xRow) := [(0, .aload_n 0, 0, 0, 0), (1, .getfield 37, 0, 4, 161), (4, .invokestatic 66, 25, 1, 482), (7, .iload_n 3, 0, 0, 0), (8, .if_icmp .ge 4, 12, 0, 0), (11, .return_, 0, 0, 0), (12, .bipush (-9), 0, 0, 0), (14, .istore 5, 0, 0, 0), (16, .iconst 0, 0, 0, 0), (17, .istore 6, 0, 0, 0), (19, .iconst 0, 0, 0, 0), (20, .istore 7, 0, 0, 0), (22, .iload 7, 0, 0, 0), (24, .aload_n 1, 0, 0, 0), (25, .getfield 25, 5, 8, 110), (28, .if_icmp .ge 60, 88, 0, 0), (31, .iload 4, 0, 0, 0), (33, .iload 7, 0, 0, 0), (35, .invokestatic 51, 18, 2, 477), (38, .ifCond .eq 44, 82, 0, 0), (41, .aload_n 1, 0, 0, 0), (42, .iload 7, 0, 0, 0), (44, .iload_n 2, 0, 0, 0), (45, .invokevirtual 71, 56, 3, 483), (48, .istore 8, 0, 0, 0), (50, .iload 8, 0, 0, 0), (52, .bipush (-9), 0, 0, 0), (54, .if_icmp .ne 9, 63, 0, 0), (57, .sipush 1000, 0, 0, 0), (60, .goto 5, 65, 0, 0), (63, .iload 8, 0, 0, 0), (65, .istore 9, 0, 0, 0), (67, .iload 9, 0, 0, 0), (69, .iload 6, 0, 0, 0), (71, .if_icmp .lt 11, 82, 0, 0), (74, .iload 7, 0, 0, 0), (76, .istore 5, 0, 0, 0), (78, .iload 9, 0, 0, 0), (80, .istore 6, 0, 0, 0), (82, .iinc 7 1, 0, 0, 0), (85, .goto (-63), 22, 0, 0), (88, .iload 5, 0, 0, 0), (90, .bipush (-9), 0, 0, 0), (92, .if_icmp .eq 22, 114, 0, 0), (95, .aload_n 0, 0, 0, 0), (96, .iload 5, 0, 0, 0), (98, .iload 6, 0, 0, 0), (100, .sipush 1000, 0, 0, 0), (103, .if_icmp .eq 7, 110, 0, 0), (106, .iconst 1, 0, 0, 0), (107, .goto 4, 111, 0, 0), (110, .iconst 0, 0, 0, 0), (111, .invokevirtual 74, 57, 3, 490), (114, .return_, 0, 0, 0)]
def tl_56 : List (Nat × xRow) := [(0, .bipush (-9), 0, 0, 0), (2, .istore_n 3, 0, 0, 0), (3, .iconst 0, 0, 0, 0), (4, .istore 4, 0, 0, 0), (6, .iload 4, 0, 0, 0), (8, .aload_n 0, 0, 0, 0), (9, .getfield 36, 5, 8, 108), (12, .if_icmp .ge 71, 83, 0, 0), (15, .aload_n 0, 0, 0, 0), (16, .getfield 18, 5, 2, 98), (19, .iload 4, 0, 0, 0), (21, .iaload, 0, 0, 0), (22, .iload_n 2, 0, 0, 0), (23, .invokestatic 54, 18, 2, 312), (26, .ifCond .eq 51, 77, 0, 0), (29, .aload_n 0, 0, 0, 0), (30, .getfield 30, 5, 6, 104), (33, .iload 4, 0, 0, 0), (35, .iaload, 0, 0, 0), (36, .iload_n 1, 0, 0, 0), (37, .invokestatic 54, 18, 2, 312), (40, .ifCond .eq 37, 77, 0, 0), (43, .aload_n 0, 0, 0, 0), (44, .getfield 21, 5, 3, 99), (47, .iload 4, 0, 0, 0), (49, .iaload, 0, 0, 0), (50, .aload_n 0, 0, 0, 0), (51, .getfield 21, 5, 3, 99), (54, .iload_n 2, 0, 0, 0), (55, .iaload, 0, 0, 0), (56, .isub, 0, 0, 0), (57, .istore 5, 0, 0, 0), (59, .iload_n 3, 0, 0, 0), (60, .bipush (-9), 0, 0, 0), (62, .if_icmp .ne 8, 70, 0, 0), (65, .iload 5, 0, 0, 0), (67, .goto 9, 76, 0, 0), (70, .iload_n 3, 0, 0, 0), (71, .iload 5, 0, 0, 0), (73, .invokestatic 103, 9997, 2, 487), (76, .istore_n 3, 0, 0, 0), (77, .iinc 4 1, 0, 0, 0), (80, .goto (-74), 6, 0, 0), (83, .iload_n 3, 0, 0, 0), (84, .ireturn, 0, 0, 0)]
def tl_57 : List (Nat × xRow) := [(0, .aload_n 0, 0, 0, 0), (1, .dup, 0, 0, 0), (2, .getfield 37, 0, 4, 161), (5, .iconst 1, 0, 0, 0), (6, .iload_n 1, 0, 0, 0), (7, .ishl, 0, 0, 0), (8, .iconst (-1), 0, 0, 0), (9, .ixor, 0, 0, 0), (10, .iand, 0, 0, 0), (11, .putfield 37, 0, 4, 161), (14, .aload_n 0, 0, 0, 0), (15, .dup, 0, 0, 0), (16, .getfield 22, 0, 3, 159), (19, .iconst 1, 0, 0, 0), (20, .iadd, 0, 0, 0), (21, .putfield 22, 0, 3, 159), (24, .iload_n 2, 0, 0, 0), (25, .ifCond .eq 15, 40, 0, 0), (28, .aload_n 0, 0, 0, 0), (29, .dup, 0, 0, 0), (30, .getfield 15, 0, 1, 155), (33, .iconst 1, 0, 0, 0), (34, .iload_n 1, 0, 0, 0), (35, .ishl, 0, 0, 0), (36, .ior, 0, 0, 0), (37, .putfield 15, 0, 1, 155), (40, .return_, 0, 0, 0)]
def tl_58 : List (Nat × xRow) := [(0, .iconst 0, 0, 0, 0), (1, .istore_n 1, 0, 0, 0), (2, .iconst 0, 0, 0, 0), (3, .istore_n 2, 0, 0, 0), (4, .iload_n 2, 0, 0, 0), (5, .aload_n 0, 0, 0, 0), (6, .getfield 36, 5, 8, 108), (9, .if_icmp .ge 20, 29, 0, 0), (12, .iload_n 1, 0, 0, 0), (13, .aload_n 0, 0, 0, 0), (14, .iload_n 2, 0, 0, 0), (15, .invokevirtual 94, 29, 2, 499), (18, .invokestatic 72, 25, 1, 344), (21, .iadd, 0, 0, 0), (22, .istore_n 1, 0, 0, 0), (23, .iinc 2 1, 0, 0, 0), (26, .goto (-22), 4, 0, 0), (29, .iload_n 1, 0, 0, 0), (30, .iconst 2, 0, 0, 0), (31, .idiv, 0, 0, 0), (32, .ireturn, 0, 0, 0)]
def tl_59 : List (Nat × xRow) := [(0, .aload_n 0, 0, 0, 0), (1, .getfield 21, 6, 1, 218), (4, .iload_n 1, 0, 0, 0), (5, .invokevirtual 91, 13, 2, 330), (8, .ifCond .eq 19, 27, 0, 0), (11, .aload_n 0, 0, 0, 0), (12, .getfield 21, 6, 1, 218), (15, .iload_n 2, 0, 0, 0), (16, .invokevirtual 91, 13, 2, 330), (19, .ifCond .eq 8, 27, 0, 0), (22, .iload_n 1, 0, 0, 0), (23, .iload_n 2, 0, 0, 0), (24, .if_icmp .ne 5, 29, 0, 0), (27, .iconst (-1), 0, 0, 0), (28, .ireturn, 0, 0, 0), (29, .aload_n 0, 0, 0, 0), (30, .getfield 21, 6, 1, 218), (33, .iload_n 1, 0, 0, 0), (34, .invokevirtual 113, 29, 2, 362), (37, .iload_n 2, 0, 0, 0), (38, .invokestatic 169, 18, 2, 504), (41, .ifCond .eq 7, 48, 0, 0), (44, .iconst 1, 0, 0, 0), (45, .goto 4, 49, 0, 0), (48, .iconst 0, 0, 0, 0), (49, .ireturn, 0, 0, 0)]
def tl_60 : List (Nat × xRow) := [(0, .iload_n 1, 0, 0, 0), (1, .ifCond .lt 8, 9, 0, 0), (4, .iload_n 1, 0, 0, 0), (5, .iconst 2, 0, 0, 0), (6, .if_icmp .le 6, 12, 0, 0), (9, .bipush (-2), 0, 0, 0), (11, .ireturn, 0, 0, 0), (12, .aload_n 0, 0, 0, 0), (13, .getfield 21, 6, 1, 218), (16, .getfield 88, 5, 8, 111), (19, .ifCond .ne 6, 25, 0, 0), (22, .bipush (-3), 0, 0, 0), (24, .ireturn, 0, 0, 0), (25, .iload_n 1, 0, 0, 0), (26, .ifCond .ne 11, 37, 0, 0), (29, .aload_n 0, 0, 0, 0), (30, .getfield 21, 6, 1, 218), (33, .invokevirtual 172, 51, 1, 455), (36, .ireturn, 0, 0, 0), (37, .iload_n 1, 0, 0, 0), (38, .iconst 1, 0, 0, 0), (39, .if_icmp .ne 13, 52, 0, 0), (42, .aload_n 0, 0, 0, 0), (43, .getfield 21, 6, 1, 218), (46, .invokevirtual 176, 52, 1, 463), (49, .goto 10, 59, 0, 0), (52, .aload_n 0, 0, 0, 0), (53, .getfield 21, 6, 1, 218), (56, .invokevirtual 179, 58, 1, 495), (59, .ireturn, 0, 0, 0)]
def tl_61 : List (Nat × xRow) := [(0, .aload_n 0, 0, 0, 0), (1, .getfield 21, 6, 1, 218), (4, .iload_n 1, 0, 0, 0), (5, .invokevirtual 91, 13, 2, 330), (8, .ifCond .eq 14, 22, 0, 0), (11, .aload_n 0, 0, 0, 0), (12, .getfield 21, 6, 1, 218), (15, .iload_n 2, 0, 0, 0), (16, .invokevirtual 91, 13, 2, 330), (19, .ifCond .ne 5, 24, 0, 0), (22, .iconst (-1), 0, 0, 0), (23, .ireturn, 0, 0, 0), (24, .aload_n 0, 0, 0, 0), (25, .getfield 21, 6, 1, 218), (28, .iload_n 2, 0, 0, 0), (29, .iload_n 1, 0, 0, 0), (30, .invokevirtual 182, 17, 3, 421), (33, .ifCond .ne 6, 39, 0, 0), (36, .bipush (-3), 0, 0, 0), (38, .ireturn, 0, 0, 0), (39, .aload_n 0, 0, 0, 0), (40, .getfield 21, 6, 1, 218), (43, .getfield 185, 5, 6, 106), (46, .iload_n 2, 0, 0, 0), (47, .iaload, 0, 0, 0), (48, .iload_n 1, 0, 0, 0), (49, .invokestatic 169, 18, 2, 504), (52, .ifCond .eq 7, 59, 0, 0), (55, .iconst 0, 0, 0, 0), (56, .goto 12, 68, 0, 0), (59, .aload_n 0, 0, 0, 0), (60, .getfield 21, 6, 1, 218), (63, .iload_n 1, 0, 0, 0), (64, .iload_n 2, 0, 0, 0), (65, .invokevirtual 188, 56, 3, 513), (68, .ireturn, 0, 0, 0)]
def tl_62 : List (Nat × xRow) := [(0, .iload_n 1, 0, 0, 0), (1, .iconst 3, 0, 0, 0), (2, .if_icmp .lt 16, 18, 0, 0), (5, .iload_n 1, 0, 0, 0), (6, .bipush 8, 0, 0, 0), (8, .if_icmp .gt 10, 18, 0, 0), (11, .iload_n 2, 0, 0, 0), (12, .invokestatic 191, 63, 1, 518), (15, .ifCond .ne 6, 21, 0, 0), (18, .bipush (-2), 0, 0, 0), (20, .ireturn, 0, 0, 0), (21, .aload_n 0, 0, 0, 0), (22, .getfield 21, 6, 1, 218), (25, .getfield 88, 5, 8, 111), (28, .ifCond .ne 6, 34, 0, 0), (31, .bipush (-3), 0, 0, 0), (33, .ireturn, 0, 0, 0), (34, .aload_n 0, 0, 0, 0), (35, .getfield 40, 6, 4, 221), (38, .aload_n 0, 0, 0, 0), (39, .getfield 21, 6, 1, 218), (42, .iload_n 1, 0, 0, 0), (43, .invokevirtual 194, 53, 3, 467), (46, .iload_n 2, 0, 0, 0), (47, .tableswitch 49 0 2 #[25, 33, 41], 0, 0, 0), (72, .aload_n 0, 0, 0, 0), (73, .getfield 40, 6, 4, 221), (76, .getfield 198, 0, 1, 156), (79, .ireturn, 0, 0, 0), (80, .aload_n 0, 0, 0, 0), (81, .getfield 40, 6, 4, 221), (84, .getfield 201, 0, 2, 158), (87, .ireturn, 0, 0, 0), (88, .aload_n 0, 0, 0, 0), (89, .getfield 40, 6, 4, 221), (92, .getfield 204, 0, 3, 160), (95, .ireturn, 0, 0, 0), (96, .aload_n 0, 0, 0, 0), (97, .getfield 21, 6, 1, 218), (100, .iload_n 2, 0, 0, 0), (101, .bipush 10, 0, 0, 0), (103, .isub, 0, 0, 0), (104, .invokevirtual 91, 13, 2, 330), (107, .ifCond .eq 18, 125, 0, 0), (110, .aload_n 0, 0, 0, 0), (111, .getfield 40, 6, 4, 221), (114, .getfield 207, 0, 0, 154), (117, .iload_n 2, 0, 0, 0), (118, .bipush 10, 0, 0, 0), (120, .isub, 0, 0, 0), (121, .iaload, 0, 0, 0), (122, .goto 5, 127, 0, 0), (125, .bipush (-9), 0, 0, 0), (127, .ireturn, 0, 0, 0)]
def tl_63 : List (Nat × xRow) := [(0, .iload_n 0, 0, 0, 0), (1, .ifCond .lt 8, 9, 0, 0), (4, .iload_n 0, 0, 0, 0), (5, .iconst 2, 0, 0, 0), (6, .if_icmp .le 12, 18, 0, 0), (9, .iload_n 0, 0, 0, 0), (10, .bipush 8, 0, 0, 0), (12, .invokestatic 289, 48, 2, 443), (15, .ifCond .eq 7, 22, 0, 0), (18, .iconst 1, 0, 0, 0), (19, .goto 4, 23, 0, 0), (22, .iconst 0, 0, 0, 0), (23, .ireturn, 1, 0, 0)]
def tl_64 : List (Nat × xRow) := [(0, .aload_n 0, 0, 0, 0), (1, .iconst 0, 0, 0, 0), (2, .putfield 58, 6, 8, 225), (5, .iload_n 1, 0, 0, 0), (6, .invokestatic 62, 2, 1, 249), (9, .ifCond .ne 5, 14, 0, 0), (12, .iconst (-1), 0, 0, 0), (13, .ireturn, 0, 0, 0), (14, .iload_n 2, 0, 0, 0), (15, .invokestatic 66, 3, 1, 252), (18, .ifCond .eq 23, 41, 0, 0), (21, .iload 4, 0, 0, 0), (23, .ifCond .lt 18, 41, 0, 0), (26, .iload 4, 0, 0, 0), (28, .bipush 8, 0, 0, 0), (30, .if_icmp .gt 11, 41, 0, 0), (33, .iload 5, 0, 0, 0), (35, .invokestatic 210, 65, 1, 525), (38, .ifCond .ne 6, 44, 0, 0), (41, .bipush (-2), 0, 0, 0), (43, .ireturn, 0, 0, 0), (44, .aload_n 0, 0, 0, 0), (45, .getfield 13, 6, 0, 217), (48, .iload_n 1, 0, 0, 0), (49, .aaload, 0, 0, 0), (50, .iload_n 2, 0, 0, 0), (51, .iload_n 3, 0, 0, 0), (52, .iload 4, 0, 0, 0), (54, .invokevirtual 69, 4, 4, 255), (57, .istore 6, 0, 0, 0), (59, .iload 6, 0, 0, 0), (61, .ifCond .eq 10, 71, 0, 0), (64, .aload_n 0, 0, 0, 0), (65, .iload 6, 0, 0, 0), (67, .invokevirtual 73, 6, 2, 263), (70, .ireturn, 0, 0, 0), (71, .aload_n 0, 0, 0, 0), (72, .getfield 47, 6, 5, 222), (75, .aload_n 0, 0, 0, 0), (76, .getfield 13, 6, 0, 217), (79, .iload_n 1, 0, 0, 0), (80, .aaload, 0, 0, 0), (81, .iload_n 3, 0, 0, 0), (82, .iload 4, 0, 0, 0), (84, .invokevirtual 213, 66, 4, 528), (87, .ifCond .ne 6, 93, 0, 0), (90, .bipush (-2), 0, 0, 0), (92, .ireturn, 0, 0, 0), (93, .aload_n 0, 0, 0, 0), (94, .getfield 47, 6, 5, 222), (97, .invokevirtual 217, 67, 1, 535), (100, .iload 5, 0, 0, 0), (102, .ifCond .ne 11, 113, 0, 0), (105, .aload_n 0, 0, 0, 0), (106, .getfield 47, 6, 5, 222), (109, .getfield 220, 1, 4, 184), (112, .ireturn, 0, 0, 0), (113, .iload 5, 0, 0, 0), (115, .iconst 1, 0, 0, 0), (116, .if_icmp .ne 13, 129, 0, 0), (119, .aload_n 0, 0, 0, 0), (120, .getfield 47, 6, 5, 222), (123, .getfield 221, 1, 5, 186), (126, .goto 15, 141, 0, 0), (129, .aload_n 0, 0, 0, 0), (130, .getfield 47, 6, 5, 222), (133, .iload 5, 0, 0, 0), (135, .bipush 10, 0, 0, 0), (137, .isub, 0, 0, 0), (138, .invokevirtual 224, 72, 2, 557), (141, .ireturn, 0, 0, 0)]
def tl_65 : List (Nat × xRow) := [(0, .iload_n 0, 0, 0, 0), (1, .ifCond .eq 17, 18, 0, 0), (4, .iload_n 0, 0, 0, 0), (5, .iconst 1, 0, 0, 0), (6, .if_icmp .eq 12, 18, 0, 0), (9, .iload_n 0, 0, 0, 0), (10, .bipush 20, 0, 0, 0), (12, .invokestatic 289, 48, 2, 443), (15, .ifCond .eq 7, 22, 0, 0), (18, .iconst 1, 0, 0, 0), (19, .goto 4, 23, 0, 0), (22, .iconst 0, 0, 0, 0), (23, .ireturn, 1, 0, 0)]
def tl_66 : List (Nat × xRow) := [(0, .aload_n 0, 0, 0, 0), (1, .iconst 0, 0, 0, 0), (2, .iload_n 3, 0, 0, 0), (3, .bipush 8, 0, 0, 0), (5, .invokestatic 18, 9997, 2, 532), (8, .invokestatic 24, 9998, 2, 533), (11, .putfield 27, 1, 2, 181), (14, .aload_n 0, 0, 0, 0), (15, .iconst 0, 0, 0, 0), (16, .putfield 31, 1, 3, 182), (19, .iconst 0, 0, 0, 0), (20, .istore 4, 0, 0, 0), (22, .iload 4, 0, 0, 0), (24, .aload_n 0, 0, 0, 0), (25, .getfield 27, 1, 2, 181), (28, .if_icmp .ge 64, 92, 0, 0), (31, .aload_n 1, 0, 0, 0), (32, .iload_n 2, 0, 0, 0), (33, .iload 4, 0, 0, 0), (35, .iadd, 0, 0, 0), (36, .invokevirtual 34, 8, 2, 534), (39, .istore 5, 0, 0, 0), (41, .iload 5, 0, 0, 0), (43, .ifCond .lt 12, 55, 0, 0), (46, .iload 5, 0, 0, 0), (48, .aload_n 0, 0, 0, 0), (49, .getfield 27, 1, 2, 181), (52, .if_icmp .lt 5, 57, 0, 0), (55, .iconst 0, 0, 0, 0), (56, .ireturn, 1, 0, 0), (57, .aload_n 0, 0, 0, 0), (58, .getfield 9, 1, 0, 179), (61, .iload 4, 0, 0, 0), (63, .iload 5, 0, 0, 0), (65, .iastore, 0, 0, 0), (66, .iload 5, 0, 0, 0), (68, .iload 4, 0, 0, 0), (70, .if_icmp .eq 16, 86, 0, 0), (73, .aload_n 0, 0, 0, 0), (74, .dup, 0, 0, 0), (75, .getfield 31, 1, 3, 182), (78, .iconst 1, 0, 0, 0), (79, .iload 4, 0, 0, 0), (81, .ishl, 0, 0, 0), (82, .ior, 0, 0, 0), (83, .putfield 31, 1, 3, 182), (86, .iinc 4 1, 0, 0, 0), (89, .goto (-67), 22, 0, 0), (92, .iconst 1, 0, 0, 0), (93, .ireturn, 1, 0, 0)]
def tl_67 : List (Nat × xRow) := [(0, .aload_n 0, 0, 0, 0), (1, .iconst 0, 0, 0, 0), (2, .putfield 40, 1, 4, 183), (5, .aload_n 0, 0, 0, 0), (6, .iconst 0, 0, 0, 0), (7, .putfield 43, 1, 5, 185), (10, .iconst 0, 0, 0, 0), (11, .istore_n 1, 0, 0, 0), (12, .iload_n 1, 0, 0, 0), (13, .bipush 20, 0, 0, 0), (15, .if_icmp .ge 54, 69, 0, 0), (18, .aload_n 0, 0, 0, 0), (19, .getfield 31, 1, 3, 182), (22, .ifCond .eq 47, 69, 0, 0), (25, .aload_n 0, 0, 0, 0), (26, .getfield 31, 1, 3, 182), (29, .aload_n 0, 0, 0, 0), (30, .invokevirtual 46, 68, 1, 539), (33, .iconst (-1), 0, 0, 0), (34, .ixor, 0, 0, 0), (35, .iand, 0, 0, 0), (36, .istore_n 2, 0, 0, 0), (37, .iload_n 2, 0, 0, 0), (38, .ifCond .eq 14, 52, 0, 0), (41, .aload_n 0, 0, 0, 0), (42, .iload_n 2, 0, 0, 0), (43, .invokestatic 50, 28, 1, 544), (46, .invokevirtual 55, 69, 2, 545), (49, .goto 14, 63, 0, 0), (52, .aload_n 0, 0, 0, 0), (53, .aload_n 0, 0, 0, 0), (54, .getfield 31, 1, 3, 182), (57, .invokestatic 50, 28, 1, 544), (60, .invokevirtual 59, 71, 2, 553), (63, .iinc 1 1, 0, 0, 0), (66, .goto (-54), 12, 0, 0), (69, .return_, 0, 0, 0)]
def tl_68 : List (Nat × xRow) := [(0, .iconst 0, 0, 0, 0), (1, .istore_n 1, 0, 0, 0), (2, .iconst 0, 0, 0, 0), (3, .istore_n 2, 0, 0, 0), (4, .iload_n 2, 0, 0, 0), (5, .aload_n 0, 0, 0, 0), (6, .getfield 27, 1, 2, 181), (9, .if_icmp .ge 31, 40, 0, 0), (12, .aload_n 0, 0, 0, 0), (13, .getfield 31, 1, 3, 182), (16, .iload_n 2, 0, 0, 0), (17, .invokestatic 62, 18, 2, 543), (20, .ifCond .eq 14, 34, 0, 0), (23, .iload_n 1, 0, 0, 0), (24, .iconst 1, 0, 0, 0), (25, .aload_n 0, 0, 0, 0), (26, .getfield 9, 1, 0, 179), (29, .iload_n 2, 0, 0, 0), (30, .iaload, 0, 0, 0), (31, .ishl, 0, 0, 0), (32, .ior, 0, 0, 0), (33, .istore_n 1, 0, 0, 0), (34, .iinc 2 1, 0, 0, 0), (37, .goto (-33), 4, 0, 0), (40, .iload_n 1, 0, 0, 0), (41, .ireturn, 0, 0, 0)]
def tl_69 : List (Nat × xRow) := [(0, .iload_n 1, 0, 0, 0), (1, .aload_n 0, 0, 0, 0), (2, .getfield 27, 1, 2, 181), (5, .if_icmp .ge 28, 33, 0, 0), (8, .aload_n 0, 0, 0, 0), (9, .iload_n 1, 0, 0, 0), (10, .aload_n 0, 0, 0, 0), (11, .getfield 9, 1, 0, 179), (14, .iload_n 1, 0, 0, 0), (15, .iaload, 0, 0, 0), (16, .invokevirtual 66, 70, 3, 549), (19, .aload_n 0, 0, 0, 0), (20, .dup, 0, 0, 0), (21, .getfield 31, 1, 3, 182), (24, .iconst 1, 0, 0, 0), (25, .iload_n 1, 0, 0, 0), (26, .ishl, 0, 0, 0), (27, .iconst (-1), 0, 0, 0), (28, .ixor, 0, 0, 0), (29, .iand, 0, 0, 0), (30, .putfield 31, 1, 3, 182), (33, .return_, 0, 0, 0)]
def tl_70 : List (Nat × xRow) := [(0, .aload_n 0, 0, 0, 0), (1, .getfield 40, 1, 4, 183), (4, .bipush 20, 0, 0, 0), (6, .if_icmp .ge 28, 34, 0, 0), (9, .aload_n 0, 0, 0, 0), (10, .getfield 15, 1, 1, 180), (13, .aload_n 0, 0, 0, 0), (14, .getfield 40, 1, 4, 183), (17, .bipush 10, 0, 0, 0), (19, .iload_n 1, 0, 0, 0), (20, .imul, 0, 0, 0), (21, .iload_n 2, 0, 0, 0), (22, .iadd, 0, 0, 0), (23, .iastore, 0, 0, 0), (24, .aload_n 0, 0, 0, 0), (25, .dup, 0, 0, 0), (26, .getfield 40, 1, 4, 183), (29, .iconst 1, 0, 0, 0), (30, .iadd, 0, 0, 0), (31, .putfield 40, 1, 4, 183), (34, .return_, 0, 0, 0)]
def tl_71 : List (Nat × xRow) := [(0, .aload_n 0, 0, 0, 0), (1, .aload_n 0, 0, 0, 0), (2, .getfield 27, 1, 2, 181), (5, .iload_n 1, 0, 0, 0), (6, .invokevirtual 66, 70, 3, 549), (9, .aload_n 0, 0, 0, 0), (10, .dup, 0, 0, 0), (11, .getfield 43, 1, 5, 185), (14, .iconst 1, 0, 0, 0), (15, .iadd, 0, 0, 0), (16, .putfield 43, 1, 5, 185), (19, .iconst 0, 0, 0, 0), (20, .istore_n 2, 0, 0, 0), (21, .iload_n 2, 0, 0, 0), (22, .aload_n 0, 0, 0, 0), (23, .getfield 27, 1, 2, 181), (26, .if_icmp .ge 40, 66, 0, 0), (29, .aload_n 0, 0, 0, 0), (30, .getfield 31, 1, 3, 182), (33, .iload_n 2, 0, 0, 0), (34, .invokestatic 62, 18, 2, 543), (37, .ifCond .eq 23, 60, 0, 0), (40, .aload_n 0, 0, 0, 0), (41, .getfield 9, 1, 0, 179), (44, .iload_n 2, 0, 0, 0), (45, .iaload, 0, 0, 0), (46, .iload_n 1, 0, 0, 0), (47, .if_icmp .ne 13, 60, 0, 0), (50, .aload_n 0, 0, 0, 0), (51, .getfield 9, 1, 0, 179), (54, .iload_n 2, 0, 0, 0), (55, .aload_n 0, 0, 0, 0), (56, .getfield 27, 1, 2, 181), (59, .iastore, 0, 0, 0), (60, .iinc 2 1, 0, 0, 0), (63, .goto (-42), 21, 0, 0), (66, .return_, 0, 0, 0)]
def tl_72 : List (Nat × xRow) := [(0, .iload_n 1, 0, 0, 0), (1, .ifCond .lt 20, 21, 0, 0), (4, .iload_n 1, 0, 0, 0), (5, .aload_n 0, 0, 0, 0), (6, .getfield 40, 1, 4, 183), (9, .if_icmp .ge 12, 21, 0, 0), (12, .aload_n 0, 0, 0, 0), (13, .getfield 15, 1, 1, 180), (16, .iload_n 1, 0, 0, 0), (17, .iaload, 0, 0, 0), (18, .goto 5, 23, 0, 0), (21, .bipush (-9), 0, 0, 0), (23, .ireturn, 0, 0, 0)]
def tl_73 : List (Nat × xRow) := [(0, .aload_n 0, 0, 0, 0), (1, .getfield 21, 6, 1, 218), (4, .iload_n 1, 0, 0, 0), (5, .invokevirtual 91, 13, 2, 330), (8, .ifCond .ne 5, 13, 0, 0), (11, .iconst (-1), 0, 0, 0), (12, .ireturn, 0, 0, 0), (13, .iload_n 2, 0, 0, 0), (14, .ifCond .lt 9, 23, 0, 0), (17, .iload_n 2, 0, 0, 0), (18, .bipush 20, 0, 0, 0), (20, .if_icmp .le 6, 26, 0, 0), (23, .bipush (-2), 0, 0, 0), (25, .ireturn, 0, 0, 0), (26, .aload_n 0, 0, 0, 0), (27, .getfield 54, 6, 6, 223), (30, .getfield 227, 2, 2, 209), (33, .bipush 8, 0, 0, 0), (35, .if_icmp .lt 6, 41, 0, 0), (38, .bipush (-4), 0, 0, 0), (40, .ireturn, 0, 0, 0), (41, .aload_n 0, 0, 0, 0), (42, .getfield 54, 6, 6, 223), (45, .getfield 227, 2, 2, 209), (48, .istore_n 3, 0, 0, 0), (49, .aload_n 0, 0, 0, 0), (50, .getfield 54, 6, 6, 223), (53, .iload_n 1, 0, 0, 0), (54, .iload_n 2, 0, 0, 0), (55, .invokevirtual 228, 74, 3, 565), (58, .iload_n 3, 0, 0, 0), (59, .ireturn, 0, 0, 0)]
def tl_74 : List (Nat × xRow) := [(0, .aload_n 0, 0, 0, 0), (1, .getfield 18, 2, 2, 208), (4, .bipush 8, 0, 0, 0), (6, .if_icmp .ge 33, 39, 0, 0), (9, .aload_n 0, 0, 0, 0), (10, .getfield 9, 2, 0, 206), (13, .aload_n 0, 0, 0, 0), (14, .getfield 18, 2, 2, 208), (17, .iload_n 1, 0, 0, 0), (18, .iastore, 0, 0, 0), (19, .aload_n 0, 0, 0, 0), (20, .getfield 15, 2, 1, 207), (23, .aload_n 0, 0, 0, 0), (24, .getfield 18, 2, 2, 208), (27, .iload_n 2, 0, 0, 0), (28, .iastore, 0, 0, 0), (29, .aload_n 0, 0, 0, 0), (30, .dup, 0, 0, 0), (31, .getfield 18, 2, 2, 208), (34, .iconst 1, 0, 0, 0), (35, .iadd, 0, 0, 0), (36, .putfield 18, 2, 2, 208), (39, .return_, 0, 0, 0)]
def tl_75 : List (Nat × xRow) := [(0, .iload_n 1, 0, 0, 0), (1, .ifCond .lt 14, 15, 0, 0), (4, .iload_n 1, 0, 0, 0), (5, .aload_n 0, 0, 0, 0), (6, .getfield 54, 6, 6, 223), (9, .getfield 227, 2, 2, 209), (12, .if_icmp .le 6, 18, 0, 0), (15, .bipush (-2), 0, 0, 0), (17, .ireturn, 0, 0, 0), (18, .aload_n 0, 0, 0, 0), (19, .getfield 54, 6, 6, 223), (22, .aload_n 0, 0, 0, 0), (23, .getfield 54, 6, 6, 223), (26, .getfield 227, 2, 2, 209), (29, .iload_n 1, 0, 0, 0), (30, .isub, 0, 0, 0), (31, .invokevirtual 84, 20, 2, 322), (34, .aload_n 0, 0, 0, 0), (35, .getfield 54, 6, 6, 223), (38, .getfield 227, 2, 2, 209), (41, .ireturn, 0, 0, 0)]
def tl_76 : List (Nat × xRow) := [(0, .aload_n 0, 0, 0, 0), (1, .getfield 21, 6, 1, 218), (4, .iload_n 1, 0, 0, 0), (5, .invokevirtual 91, 13, 2, 330), (8, .ifCond .ne 5, 13, 0, 0), (11, .iconst (-1), 0, 0, 0), (12, .ireturn, 0, 0, 0), (13, .aload_n 0, 0, 0, 0), (14, .getfield 25, 6, 2, 219), (17, .aload_n 0, 0, 0, 0), (18, .getfield 21, 6, 1, 218), (21, .invokevirtual 81, 19, 2, 315), (24, .iconst 0, 0, 0, 0), (25, .istore_n 2, 0, 0, 0), (26, .iconst 0, 0, 0, 0), (27, .istore_n 3, 0, 0, 0), (28, .iload_n 3, 0, 0, 0), (29, .iconst 2, 0, 0, 0), (30, .if_icmp .gt 39, 69, 0, 0), (33, .aload_n 0, 0, 0, 0), (34, .getfield 25, 6, 2, 219), (37, .getfield 94, 5, 0, 94), (40, .iload_n 1, 0, 0, 0), (41, .iload_n 3, 0, 0, 0), (42, .iastore, 0, 0, 0), (43, .aload_n 0, 0, 0, 0), (44, .getfield 54, 6, 6, 223), (47, .aload_n 0, 0, 0, 0), (48, .getfield 25, 6, 2, 219), (51, .invokevirtual 231, 77, 2, 577), (54, .ifCond .eq 9, 63, 0, 0), (57, .iload_n 2, 0, 0, 0), (58, .iconst 1, 0, 0, 0), (59, .iload_n 3, 0, 0, 0), (60, .ishl, 0, 0, 0), (61, .ior, 0, 0, 0), (62, .istore_n 2, 0, 0, 0), (63, .iinc 3 1, 0, 0, 0), (66, .goto (-38), 28, 0, 0), (69, .iload_n 2, 0, 0, 0), (70, .ireturn, 0, 0, 0)]
def tl_77 : List (Nat × xRow) := [(0, .iconst 0, 0, 0, 0), (1, .istore_n 2, 0, 0, 0), (2, .iload_n 2, 0, 0, 0), (3, .aload_n 0, 0, 0, 0), (4, .getfield 18, 2, 2, 208), (7, .if_icmp .ge 30, 37, 0, 0), (10, .aload_n 1, 0, 0, 0), (11, .aload_n 0, 0, 0, 0), (12, .getfield 9, 2, 0, 206), (15, .iload_n 2, 0, 0, 0), (16, .iaload, 0, 0, 0), (17, .invokevirtual 22, 31, 2, 581), (20, .aload_n 0, 0, 0, 0), (21, .getfield 15, 2, 1, 207), (24, .iload_n 2, 0, 0, 0), (25, .iaload, 0, 0, 0), (26, .if_icmp .eq 5, 31, 0, 0), (29, .iconst 0, 0, 0, 0), (30, .ireturn, 1, 0, 0), (31, .iinc 2 1, 0, 0, 0), (34, .goto (-32), 2, 0, 0), (37, .iconst 1, 0, 0, 0), (38, .ireturn, 1, 0, 0)]
def tl_78 : List (Nat × xRow) := [(0, .aload_n 0, 0, 0, 0), (1, .getfield 21, 6, 1, 218), (4, .iload_n 1, 0, 0, 0), (5, .invokevirtual 91, 13, 2, 330), (8, .ifCond .ne 5, 13, 0, 0), (11, .iconst (-1), 0, 0, 0), (12, .ireturn, 0, 0, 0), (13, .aload_n 0, 0, 0, 0), (14, .getfield 21, 6, 1, 218), (17, .iload_n 1, 0, 0, 0), (18, .iconst 0, 0, 0, 0), (19, .invokevirtual 122, 34, 3, 383), (22, .ifCond .ne 6, 28, 0, 0), (25, .bipush (-3), 0, 0, 0), (27, .ireturn, 0, 0, 0), (28, .aload_n 0, 0, 0, 0), (29, .getfield 25, 6, 2, 219), (32, .aload_n 0, 0, 0, 0), (33, .getfield 21, 6, 1, 218), (36, .invokevirtual 81, 19, 2, 315), (39, .iconst 0, 0, 0, 0), (40, .istore_n 2, 0, 0, 0), (41, .iconst 0, 0, 0, 0), (42, .istore_n 3, 0, 0, 0), (43, .iload_n 3, 0, 0, 0), (44, .aload_n 0, 0, 0, 0), (45, .getfield 21, 6, 1, 218), (48, .getfield 88, 5, 8, 111), (51, .if_icmp .ge 52, 103, 0, 0), (54, .aload_n 0, 0, 0, 0), (55, .getfield 21, 6, 1, 218), (58, .iload_n 1, 0, 0, 0), (59, .iconst 0, 0, 0, 0), (60, .iload_n 3, 0, 0, 0), (61, .invokevirtual 130, 37, 4, 396), (64, .ifCond .eq 33, 97, 0, 0), (67, .aload_n 0, 0, 0, 0), (68, .getfield 25, 6, 2, 219), (71, .iload_n 1, 0, 0, 0), (72, .iconst 0, 0, 0, 0), (73, .iload_n 3, 0, 0, 0), (74, .invokevirtual 134, 38, 4, 401), (77, .aload_n 0, 0, 0, 0), (78, .getfield 54, 6, 6, 223), (81, .aload_n 0, 0, 0, 0), (82, .getfield 25, 6, 2, 219), (85, .invokevirtual 231, 77, 2, 577), (88, .ifCond .eq 9, 97, 0, 0), (91, .iload_n 2, 0, 0, 0), (92, .iconst 1, 0, 0, 0), (93, .iload_n 3, 0, 0, 0), (94, .ishl, 0, 0, 0), (95, .ior, 0, 0, 0), (96, .istore_n 2, 0, 0, 0), (97, .iinc 3 1, 0, 0, 0), (100, .goto (-57), 43, 0, 0), (103, .iload_n 2, 0, 0, 0), (104, .ireturn, 0, 0, 0)]
def tl_79 : List (Nat × xRow) := [(0, .iload_n 1, 0, 0, 0), (1, .ifCond .lt 19, 20, 0, 0), (4, .iload_n 1, 0, 0, 0), (5, .iconst 1, 0, 0, 0), (6, .if_icmp .gt 14, 20, 0, 0), (9, .aload_n 0, 0, 0, 0), (10, .getfield 21, 6, 1, 218), (13, .getfield 88, 5, 8, 111), (16, .iconst 2, 0, 0, 0), (17, .if_icmp .ge 7, 24, 0, 0), (20, .ldc2_w 235, 9223372036854775808, 0, 590), (23, .lreturn, 0, 0, 0), (24, .aload_n 0, 0, 0, 0), (25, .getfield 21, 6, 1, 218), (28, .invokevirtual 179, 58, 1, 495), (31, .istore_n 2, 0, 0, 0), (32, .aload_n 0, 0, 0, 0), (33, .getfield 21, 6, 1, 218), (36, .getfield 88, 5, 8, 111), (39, .aload_n 0, 0, 0, 0), (40, .getfield 21, 6, 1, 218), (43, .getfield 88, 5, 8, 111), (46, .iconst 1, 0, 0, 0), (47, .isub, 0, 0, 0), (48, .imul, 0, 0, 0), (49, .iconst 2, 0, 0, 0), (50, .idiv, 0, 0, 0), (51, .istore_n 3, 0, 0, 0), (52, .iload_n 2, 0, 0, 0), (53, .iload_n 3, 0, 0, 0), (54, .invokestatic 237, 80, 2, 591), (57, .istore 4, 0, 0, 0), (59, .iload_n 1, 0, 0, 0), (60, .ifCond .ne 11, 71, 0, 0), (63, .iload_n 2, 0, 0, 0), (64, .iload 4, 0, 0, 0), (66, .idiv, 0, 0, 0), (67, .i2l, 0, 0, 0), (68, .goto 8, 76, 0, 0), (71, .iload_n 3, 0, 0, 0), (72, .iload 4, 0, 0, 0), (74, .idiv, 0, 0, 0), (75, .i2l, 0, 0, 0), (76, .lreturn, 0, 0, 0)]
def tl_80 : List (Nat × xRow) := [(0, .iload_n 1, 0, 0, 0), (1, .istore_n 2, 0, 0, 0), (2, .iload_n 2, 0, 0, 0), (3, .iconst 1, 0, 0, 0), (4, .if_icmp .le 23, 27, 0, 0), (7, .iload_n 0, 0, 0, 0), (8, .iload_n 2, 0, 0, 0), (9, .irem, 0, 0, 0), (10, .ifCond .ne 11, 21, 0, 0), (13, .iload_n 1, 0, 0, 0), (14, .iload_n 2, 0, 0, 0), (15, .irem, 0, 0, 0), (16, .ifCond .ne 5, 21, 0, 0), (19, .iload_n 2, 0, 0, 0), (20, .ireturn, 0, 0, 0), (21, .iinc 2 (-1), 0, 0, 0), (24, .goto (-22), 2, 0, 0), (27, .iconst 1, 0, 0, 0), (28, .ireturn, 0, 0, 0)]
def tl_81 : List (Nat × xRow) := [(0, .aload_n 0, 0, 0, 0), (1, .iconst 0, 0, 0, 0), (2, .putfield 58, 6, 8, 225), (5, .iload_n 1, 0, 0, 0), (6, .invokestatic 62, 2, 1, 249), (9, .ifCond .ne 5, 14, 0, 0), (12, .iconst (-1), 0, 0, 0), (13, .ireturn, 0, 0, 0), (14, .iload_n 2, 0, 0, 0), (15, .invokestatic 66, 3, 1, 252), (18, .ifCond .eq 9, 27, 0, 0), (21, .iload_n 3, 0, 0, 0), (22, .bipush 60, 0, 0, 0), (24, .if_icmp .le 6, 30, 0, 0), (27, .bipush (-2), 0, 0, 0), (29, .ireturn, 0, 0, 0), (30, .iload_n 3, 0, 0, 0), (31, .ifCond .ge 9, 40, 0, 0), (34, .aload_n 0, 0, 0, 0), (35, .iconst 4, 0, 0, 0), (36, .invokevirtual 73, 6, 2, 263), (39, .ireturn, 0, 0, 0), (40, .aload_n 0, 0, 0, 0), (41, .getfield 13, 6, 0, 217), (44, .iload_n 1, 0, 0, 0), (45, .aaload, 0, 0, 0), (46, .iload_n 2, 0, 0, 0), (47, .iload_n 3, 0, 0, 0), (48, .invokevirtual 240, 82, 3, 598), (51, .iconst 1, 0, 0, 0), (52, .ireturn, 0, 0, 0)]
def tl_82 : List (Nat × xRow) := [(0, .aload_n 0, 0, 0, 0), (1, .iconst 1, 0, 0, 0), (2, .putfield 15, 3, 1, 72), (5, .aload_n 0, 0, 0, 0), (6, .iload_n 1, 0, 0, 0), (7, .putfield 19, 3, 2, 74), (10, .aload_n 0, 0, 0, 0), (11, .iconst 0, 0, 0, 0), (12, .iload_n 2, 0, 0, 0), (13, .bipush 60, 0, 0, 0), (15, .invokestatic 23, 9997, 2, 602), (18, .invokestatic 29, 9998, 2, 603), (21, .putfield 32, 3, 3, 76), (24, .aload_n 0, 0, 0, 0), (25, .getfield 9, 3, 0, 70), (28, .iconst 0, 0, 0, 0), (29, .invokestatic 35, 83, 2, 604), (32, .return_, 0, 0, 0)]
def tl_83 : List (Nat × xRow) := [(0, .iconst 0, 0, 0, 0), (1, .istore_n 2, 0, 0, 0), (2, .aload_n 0, 0, 0, 0), (3, .arraylength, 0, 0, 0), (4, .istore_n 3, 0, 0, 0), (5, .iload_n 2, 0, 0, 0), (6, .iload_n 3, 0, 0, 0), (7, .if_icmp .ge 13, 20, 0, 0), (10, .aload_n 0, 0, 0, 0), (11, .iload_n 2, 0, 0, 0), (12, .iload_n 1, 0, 0, 0), (13, .iastore, 0, 0, 0), (14, .iinc 2 1, 0, 0, 0), (17, .goto (-12), 5, 0, 0), (20, .return_, 0, 0, 0)]
def tl_84 : List (Nat × xRow) := [(0, .iload_n 1, 0, 0, 0), (1, .invokestatic 62, 2, 1, 249), (4, .ifCond .ne 5, 9, 0, 0), (7, .iconst (-1), 0, 0, 0), (8, .ireturn, 0, 0, 0), (9, .aload_n 0, 0, 0, 0), (10, .getfield 13, 6, 0, 217), (13, .iload_n 1, 0, 0, 0), (14, .aaload, 0, 0, 0), (15, .getfield 243, 3, 1, 73), (18, .ifCond .eq 7, 25, 0, 0), (21, .iconst 1, 0, 0, 0), (22, .goto 4, 26, 0, 0), (25, .iconst 0, 0, 0, 0), (26, .istore_n 2, 0, 0, 0), (27, .aload_n 0, 0, 0, 0), (28, .getfield 13, 6, 0, 217), (31, .iload_n 1, 0, 0, 0), (32, .aaload, 0, 0, 0), (33, .invokevirtual 247, 85, 1, 611), (36, .iload_n 2, 0, 0, 0), (37, .ireturn, 0, 0, 0)]
def tl_85 : List (Nat × xRow) := [(0, .aload_n 0, 0, 0, 0), (1, .iconst 0, 0, 0, 0), (2, .putfield 15, 3, 1, 72), (5, .aload_n 0, 0, 0, 0), (6, .iconst 0, 0, 0, 0), (7, .putfield 32, 3, 3, 76), (10, .return_, 0, 0, 0)]
def tl_86 : List (Nat × xRow) := [(0, .aload_n 0, 0, 0, 0), (1, .iconst 0, 0, 0, 0), (2, .putfield 58, 6, 8, 225), (5, .iload_n 1, 0, 0, 0), (6, .invokestatic 62, 2, 1, 249), (9, .ifCond .ne 5, 14, 0, 0), (12, .iconst (-1), 0, 0, 0), (13, .ireturn, 0, 0, 0), (14, .aload_n 0, 0, 0, 0), (15, .getfield 13, 6, 0, 217), (18, .iload_n 1, 0, 0, 0), (19, .aaload, 0, 0, 0), (20, .aload_n 0, 0, 0, 0), (21, .getfield 13, 6, 0, 217), (24, .iload_n 1, 0, 0, 0), (25, .aaload, 0, 0, 0), (26, .getfield 250, 3, 2, 75), (29, .iload_n 2, 0, 0, 0), (30, .iconst 1, 0, 0, 0), (31, .invokevirtual 69, 4, 4, 255), (34, .istore 4, 0, 0, 0), (36, .iload 4, 0, 0, 0), (38, .ifCond .eq 10, 48, 0, 0), (41, .aload_n 0, 0, 0, 0), (42, .iload 4, 0, 0, 0), (44, .invokevirtual 73, 6, 2, 263), (47, .ireturn, 0, 0, 0), (48, .aload_n 0, 0, 0, 0), (49, .getfield 13, 6, 0, 217), (52, .iload_n 1, 0, 0, 0), (53, .aaload, 0, 0, 0), (54, .iload_n 2, 0, 0, 0), (55, .iload_n 3, 0, 0, 0), (56, .invokevirtual 253, 87, 3, 619), (59, .iconst 1, 0, 0, 0), (60, .ireturn, 0, 0, 0)]
def tl_87 : List (Nat × xRow) := [(0, .aload_n 0, 0, 0, 0), (1, .iload_n 1, 0, 0, 0), (2, .iconst 1, 0, 0, 0), (3, .invokevirtual 41, 5, 3, 259), (6, .ifCond .eq 14, 20, 0, 0), (9, .aload_n 0, 0, 0, 0), (10, .getfield 9, 3, 0, 70), (13, .iload_n 1, 0, 0, 0), (14, .aload_n 0, 0, 0, 0), (15, .iload_n 2, 0, 0, 0), (16, .invokevirtual 45, 88, 2, 623), (19, .iastore, 0, 0, 0), (20, .return_, 0, 0, 0)]
def tl_88 : List (Nat × xRow) := [(0, .aload_n 0, 0, 0, 0), (1, .getfield 19, 3, 2, 74), (4, .lookupswitch 34 #[(0, 28), (1, 31)], 0, 0, 0), (32, .iload_n 1, 0, 0, 0), (33, .i2b, 0, 0, 0), (34, .ireturn, 0, 0, 0), (35, .iload_n 1, 0, 0, 0), (36, .i2s, 0, 0, 0), (37, .ireturn, 0, 0, 0), (38, .iload_n 1, 0, 0, 0), (39, .ireturn, 0, 0, 0)]
def tl_89 : List (Nat × xRow) := [(0, .aload_n 0, 0, 0, 0), (1, .iconst 0, 0, 0, 0), (2, .putfield 58, 6, 8, 225), (5, .iload_n 1, 0, 0, 0), (6, .invokestatic 62, 2, 1, 249), (9, .ifCond .eq 10, 19, 0, 0), (12, .iload_n 3, 0, 0, 0), (13, .invokestatic 66, 3, 1, 252), (16, .ifCond .ne 7, 23, 0, 0), (19, .ldc2_w 235, 9223372036854775808, 0, 590), (22, .lreturn, 0, 0, 0), (23, .aload_n 0, 0, 0, 0), (24, .aload_n 0, 0, 0, 0), (25, .getfield 13, 6, 0, 217), (28, .iload_n 1, 0, 0, 0), (29, .aaload, 0, 0, 0), (30, .iload_n 3, 0, 0, 0), (31, .iload_n 2, 0, 0, 0), (32, .iconst 1, 0, 0, 0), (33, .invokevirtual 69, 4, 4, 255), (36, .putfield 58, 6, 8, 225), (39, .aload_n 0, 0, 0, 0), (40, .getfield 58, 6, 8, 225), (43, .ifCond .ne 17, 60, 0, 0), (46, .aload_n 0, 0, 0, 0), (47, .getfield 13, 6, 0, 217), (50, .iload_n 1, 0, 0, 0), (51, .aaload, 0, 0, 0), (52, .iload_n 2, 0, 0, 0), (53, .invokevirtual 256, 8, 2, 450), (56, .i2l, 0, 0, 0), (57, .goto 6, 63, 0, 0), (60, .ldc2_w 235, 9223372036854775808, 0, 590), (63, .lreturn, 0, 0, 0)]
def tl_90 : List (Nat × xRow) := [(0, .aload_n 0, 0, 0, 0), (1, .iconst 0, 0, 0, 0), (2, .putfield 58, 6, 8, 225), (5, .iload_n 1, 0, 0, 0), (6, .invokestatic 62, 2, 1, 249), (9, .ifCond .eq 10, 19, 0, 0), (12, .iload_n 3, 0, 0, 0), (13, .invokestatic 62, 2, 1, 249), (16, .ifCond .ne 5, 21, 0, 0), (19, .iconst (-1), 0, 0, 0), (20, .ireturn, 0, 0, 0), (21, .aload_n 0, 0, 0, 0), (22, .getfield 13, 6, 0, 217), (25, .iload_n 1, 0, 0, 0), (26, .aaload, 0, 0, 0), (27, .astore 6, 0, 0, 0), (29, .aload_n 0, 0, 0, 0), (30, .getfield 13, 6, 0, 217), (33, .iload_n 3, 0, 0, 0), (34, .aaload, 0, 0, 0), (35, .astore 7, 0, 0, 0), (37, .aload 6, 0, 0, 0), (39, .getfield 243, 3, 1, 73), (42, .ifCond .eq 11, 53, 0, 0), (45, .aload 7, 0, 0, 0), (47, .getfield 243, 3, 1, 73), (50, .ifCond .ne 9, 59, 0, 0), (53, .aload_n 0, 0, 0, 0), (54, .iconst 1, 0, 0, 0), (55, .invokevirtual 73, 6, 2, 263), (58, .ireturn, 0, 0, 0), (59, .aload 6, 0, 0, 0), (61, .getfield 250, 3, 2, 75), (64, .aload 7, 0, 0, 0), (66, .getfield 250, 3, 2, 75), (69, .if_icmp .eq 9, 78, 0, 0), (72, .aload_n 0, 0, 0, 0), (73, .iconst 2, 0, 0, 0), (74, .invokevirtual 73, 6, 2, 263), (77, .ireturn, 0, 0, 0), (78, .aload 6, 0, 0, 0), (80, .iload_n 2, 0, 0, 0), (81, .iload 5, 0, 0, 0), (83, .invokevirtual 259, 5, 3, 635), (86, .ifCond .eq 15, 101, 0, 0), (89, .aload 7, 0, 0, 0), (91, .iload 4, 0, 0, 0), (93, .iload 5, 0, 0, 0), (95, .invokevirtual 259, 5, 3, 635), (98, .ifCond .ne 9, 107, 0, 0), (101, .aload_n 0, 0, 0, 0), (102, .iconst 3, 0, 0, 0), (103, .invokevirtual 73, 6, 2, 263), (106, .ireturn, 0, 0, 0), (107, .aload 6, 0, 0, 0), (109, .getfield 262, 3, 0, 71), (112, .iload_n 2, 0, 0, 0), (113, .aload 7, 0, 0, 0), (115, .getfield 262, 3, 0, 71), (118, .iload 4, 0, 0, 0), (120, .iload 5, 0, 0, 0), (122, .invokestatic 265, 9999, 5, 636), (125, .iload 5, 0, 0, 0), (127, .ireturn, 0, 0, 0)]
def tl_91 : List (Nat × xRow) := [(0, .aload_n 0, 0, 0, 0), (1, .getfield 21, 6, 1, 218), (4, .iload_n 1, 0, 0, 0), (5, .invokevirtual 91, 13, 2, 330), (8, .ifCond .ne 5, 13, 0, 0), (11, .iconst (-1), 0, 0, 0), (12, .ireturn, 0, 0, 0), (13, .aload_n 0, 0, 0, 0), (14, .getfield 21, 6, 1, 218), (17, .getfield 94, 5, 0, 94), (20, .iload_n 1, 0, 0, 0), (21, .iaload, 0, 0, 0), (22, .lookupswitch 38 #[(1, 32), (2, 26)], 0, 0, 0), (48, .aload_n 0, 0, 0, 0), (49, .iload_n 1, 0, 0, 0), (50, .invokevirtual 271, 92, 2, 641), (53, .ireturn, 0, 0, 0), (54, .aload_n 0, 0, 0, 0), (55, .iload_n 1, 0, 0, 0), (56, .invokevirtual 274, 94, 2, 649), (59, .ireturn, 0, 0, 0), (60, .aload_n 0, 0, 0, 0), (61, .iload_n 1, 0, 0, 0), (62, .invokevirtual 277, 95, 2, 653), (65, .ireturn, 0, 0, 0)]
def tl_92 : List (Nat × xRow) := [(0, .aload_n 0, 0, 0, 0), (1, .iconst 3, 0, 0, 0), (2, .invokevirtual 280, 93, 2, 645), (5, .aload_n 0, 0, 0, 0), (6, .iload_n 1, 0, 0, 0), (7, .invokevirtual 274, 94, 2, 649), (10, .istore_n 2, 0, 0, 0), (11, .iload_n 2, 0, 0, 0), (12, .aload_n 0, 0, 0, 0), (13, .iload_n 1, 0, 0, 0), (14, .invokevirtual 277, 95, 2, 653), (17, .iadd, 0, 0, 0), (18, .ireturn, 0, 0, 0)]
def tl_93 : List (Nat × xRow) := [(0, .aload_n 0, 0, 0, 0), (1, .bipush 31, 0, 0, 0), (3, .aload_n 0, 0, 0, 0), (4, .getfield 283, 6, 7, 224), (7, .imul, 0, 0, 0), (8, .iload_n 1, 0, 0, 0), (9, .iadd, 0, 0, 0), (10, .putfield 283, 6, 7, 224), (13, .return_, 0, 0, 0)]
def tl_94 : List (Nat × xRow) := [(0, .aload_n 0, 0, 0, 0), (1, .iconst 2, 0, 0, 0), (2, .invokevirtual 280, 93, 2, 645), (5, .aload_n 0, 0, 0, 0), (6, .iload_n 1, 0, 0, 0), (7, .invokevirtual 277, 95, 2, 653), (10, .bipush 100, 0, 0, 0), (12, .iadd, 0, 0, 0), (13, .ireturn, 0, 0, 0)]
def tl_95 : List (Nat × xRow) := [(0, .aload_n 0, 0, 0, 0), (1, .iconst 1, 0, 0, 0), (2, .invokevirtual 280, 93, 2, 645), (5, .aload_n 0, 0, 0, 0), (6, .getfield 21, 6, 1, 218), (9, .iload_n 1, 0, 0, 0), (10, .invokevirtual 292, 32, 2, 657), (13, .ireturn, 0, 0, 0)]
def tl_96 : List (Nat × xRow) := [(0, .aload_n 0, 0, 0, 0), (1, .getfield 21, 6, 1, 218), (4, .iload_n 1, 0, 0, 0), (5, .invokevirtual 91, 13, 2, 330), (8, .ifCond .ne 5, 13, 0, 0), (11, .iconst (-1), 0, 0, 0), (12, .ireturn, 0, 0, 0), (13, .aload_n 0, 0, 0, 0), (14, .getfield 21, 6, 1, 218), (17, .getfield 94, 5, 0, 94), (20, .iload_n 1, 0, 0, 0), (21, .iaload, 0, 0, 0), (22, .iconst 2, 0, 0, 0), (23, .if_icmp .ne 11, 34, 0, 0), (26, .aload_n 0, 0, 0, 0), (27, .iconst 5, 0, 0, 0), (28, .invokevirtual 280, 93, 2, 645), (31, .bipush 90, 0, 0, 0), (33, .ireturn, 0, 0, 0), (34, .aload_n 0, 0, 0, 0), (35, .iconst 4, 0, 0, 0), (36, .invokevirtual 280, 93, 2, 645), (39, .iload_n 1, 0, 0, 0), (40, .ireturn, 0, 0, 0)]
def tl_97 : List (Nat × xRow) := [(0, .aload_n 0, 0, 0, 0), (1, .iconst 0, 0, 0, 0), (2, .putfield 58, 6, 8, 225), (5, .aload_n 0, 0, 0, 0), (6, .getfield 21, 6, 1, 218), (9, .iload_n 1, 0, 0, 0), (10, .invokevirtual 91, 13, 2, 330), (13, .ifCond .ne 5, 18, 0, 0), (16, .iconst (-1), 0, 0, 0), (17, .ireturn, 0, 0, 0), (18, .iload_n 2, 0, 0, 0), (19, .invokestatic 138, 40, 1, 410), (22, .ifCond .ne 6, 28, 0, 0), (25, .bipush (-2), 0, 0, 0), (27, .ireturn, 0, 0, 0), (28, .iload_n 2, 0, 0, 0), (29, .aload_n 0, 0, 0, 0), (30, .getfield 21, 6, 1, 218), (33, .getfield 94, 5, 0, 94), (36, .iload_n 1, 0, 0, 0), (37, .iaload, 0, 0, 0), (38, .if_icmp .gt 7, 45, 0, 0), (41, .iconst 1, 0, 0, 0), (42, .goto 8, 50, 0, 0), (45, .aload_n 0, 0, 0, 0), (46, .iconst 2, 0, 0, 0), (47, .invokevirtual 73, 6, 2, 263), (50, .ireturn, 0, 0, 0)]
def tl_98 : List (Nat × xRow) := [(0, .aload_n 0, 0, 0, 0), (1, .getfield 283, 6, 7, 224), (4, .ireturn, 0, 0, 0)]
def tl_99 : List (Nat × xRow) := [(0, .aload_n 0, 0, 0, 0), (1, .getfield 58, 6, 8, 225), (4, .ireturn, 0, 0, 0)]
def tl_100 : List (Nat × xRow) := [(0, .iload_n 1, 0, 0, 0), (1, .tableswitch 75 0 4 #[35, 43, 51, 59, 67], 0, 0, 0), (36, .aload_n 0, 0, 0, 0), (37, .getfield 21, 6, 1, 218), (40, .getfield 88, 5, 8, 111), (43, .ireturn, 0, 0, 0), (44, .aload_n 0, 0, 0, 0), (45, .getfield 21, 6, 1, 218), (48, .invokevirtual 286, 101, 1, 678), (51, .ireturn, 0, 0, 0), (52, .aload_n 0, 0, 0, 0), (53, .getfield 21, 6, 1, 218), (56, .invokevirtual 172, 51, 1, 455), (59, .ireturn, 0, 0, 0), (60, .aload_n 0, 0, 0, 0), (61, .getfield 21, 6, 1, 218), (64, .invokevirtual 176, 52, 1, 463), (67, .ireturn, 0, 0, 0), (68, .aload_n 0, 0, 0, 0), (69, .getfield 54, 6, 6, 223), (72, .getfield 227, 2, 2, 209), (75, .ireturn, 0, 0, 0), (76, .bipush (-2), 0, 0, 0), (78, .ireturn, 0, 0, 0)]
def tl_101 : List (Nat × xRow) := [(0, .iconst 0, 0, 0, 0), (1, .istore_n 1, 0, 0, 0), (2, .iconst 0, 0, 0, 0), (3, .istore_n 2, 0, 0, 0), (4, .iload_n 2, 0, 0, 0), (5, .aload_n 0, 0, 0, 0), (6, .getfield 36, 5, 8, 108), (9, .if_icmp .ge 18, 27, 0, 0), (12, .iload_n 1, 0, 0, 0), (13, .aload_n 0, 0, 0, 0), (14, .getfield 24, 5, 4, 100), (17, .iload_n 2, 0, 0, 0), (18, .iaload, 0, 0, 0), (19, .iadd, 0, 0, 0), (20, .istore_n 1, 0, 0, 0), (21, .iinc 2 1, 0, 0, 0), (24, .goto (-20), 4, 0, 0), (27, .iload_n 1, 0, 0, 0), (28, .ireturn, 0, 0, 0)]
def tl_102 : List (Nat × xRow) := [(0, .aload_n 0, 0, 0, 0), (1, .iconst 0, 0, 0, 0), (2, .putfield 64, 7, 0, 688), (5, .iload_n 1, 0, 0, 0), (6, .invokestatic 80, 103, 1, 780), (9, .ifCond .ne 5, 14, 0, 0), (12, .iconst (-1), 0, 0, 0), (13, .ireturn, 0, 0, 0), (14, .iload_n 2, 0, 0, 0), (15, .invokestatic 84, 105, 1, 786), (18, .ifCond .ne 6, 24, 0, 0), (21, .bipush (-2), 0, 0, 0), (23, .ireturn, 0, 0, 0), (24, .aload_n 0, 0, 0, 0), (25, .iload_n 1, 0, 0, 0), (26, .iload_n 2, 0, 0, 0), (27, .iload_n 3, 0, 0, 0), (28, .iload 4, 0, 0, 0), (30, .invokevirtual 87, 106, 5, 789), (33, .istore 5, 0, 0, 0), (35, .iload 5, 0, 0, 0), (37, .ifCond .eq 10, 47, 0, 0), (40, .aload_n 0, 0, 0, 0), (41, .iload 5, 0, 0, 0), (43, .invokevirtual 91, 107, 2, 793), (46, .ireturn, 0, 0, 0), (47, .bipush 60, 0, 0, 0), (49, .iload_n 1, 0, 0, 0), (50, .imul, 0, 0, 0), (51, .iload_n 3, 0, 0, 0), (52, .iadd, 0, 0, 0), (53, .istore 6, 0, 0, 0), (55, .aload_n 0, 0, 0, 0), (56, .iload 6, 0, 0, 0), (58, .putfield 77, 7, 10, 698), (61, .aload_n 0, 0, 0, 0), (62, .iload 6, 0, 0, 0), (64, .iload 4, 0, 0, 0), (66, .iadd, 0, 0, 0), (67, .invokevirtual 95, 108, 2, 797), (70, .ifCond .ne 14, 84, 0, 0), (73, .bipush (-100), 0, 0, 0), (75, .aload_n 0, 0, 0, 0), (76, .getfield 77, 7, 10, 698), (79, .iload 6, 0, 0, 0), (81, .isub, 0, 0, 0), (82, .isub, 0, 0, 0), (83, .ireturn, 0, 0, 0), (84, .aload_n 0, 0, 0, 0), (85, .aload_n 0, 0, 0, 0), (86, .getfield 98, 7, 11, 699), (89, .putfield 74, 7, 5, 693), (92, .iconst 0, 0, 0, 0), (93, .istore 7, 0, 0, 0), (95, .iload 7, 0, 0, 0), (97, .aload_n 0, 0, 0, 0), (98, .getfield 74, 7, 5, 693), (101, .if_icmp .ge 91, 192, 0, 0), (104, .aload_n 0, 0, 0, 0), (105, .getfield 19, 7, 6, 694), (108, .iload 7, 0, 0, 0), (110, .aload_n 0, 0, 0, 0), (111, .getfield 31, 7, 12, 700), (114, .iload 7, 0, 0, 0), (116, .iaload, 0, 0, 0), (117, .iastore, 0, 0, 0), (118, .aload_n 0, 0, 0, 0), (119, .getfield 22, 7, 7, 695), (122, .iload 7, 0, 0, 0), (124, .aload_n 0, 0, 0, 0), (125, .getfield 34, 7, 13, 701), (128, .iload 7, 0, 0, 0), (130, .iaload, 0, 0, 0), (131, .iastore, 0, 0, 0), (132, .aload_n 0, 0, 0, 0), (133, .getfield 25, 7, 8, 696), (136, .iload 7, 0, 0, 0), (138, .aload_n 0, 0, 0, 0), (139, .getfield 37, 7, 14, 702), (142, .iload 7, 0, 0, 0), (144, .iaload, 0, 0, 0), (145, .iastore, 0, 0, 0), (146, .aload_n 0, 0, 0, 0), (147, .getfield 28, 7, 9, 697), (150, .iconst 2, 0, 0, 0), (151, .iload 7, 0, 0, 0), (153, .imul, 0, 0, 0), (154, .aload_n 0, 0, 0, 0), (155, .getfield 40, 7, 15, 703), (158, .iconst 2, 0, 0, 0), (159, .iload 7, 0, 0, 0), (161, .imul, 0, 0, 0), (162, .iaload, 0, 0, 0), (163, .iastore, 0, 0, 0), (164, .aload_n 0, 0, 0, 0), (165, .getfield 28, 7, 9, 697), (168, .iconst 2, 0, 0, 0), (169, .iload 7, 0, 0, 0), (171, .imul, 0, 0, 0), (172, .iconst 1, 0, 0, 0), (173, .iadd, 0, 0, 0), (174, .aload_n 0, 0, 0, 0), (175, .getfield 40, 7, 15, 703), (178, .iconst 2, 0, 0, 0), (179, .iload 7, 0, 0, 0), (181, .imul, 0, 0, 0), (182, .iconst 1, 0, 0, 0), (183, .iadd, 0, 0, 0), (184, .iaload, 0, 0, 0), (185, .iastore, 0, 0, 0), (186, .iinc 7 1, 0, 0, 0), (189, .goto (-94), 95, 0, 0), (192, .aload_n 0, 0, 0, 0), (193, .iconst 0, 0, 0, 0), (194, .putfield 101, 7, 26, 714), (197, .aload_n 0, 0, 0, 0), (198, .getfield 74, 7, 5, 693), (201, .ireturn, 0, 0, 0)]
def tl_103 : List (Nat × xRow) := [(0, .iload_n 0, 0, 0, 0), (1, .iconst 0, 0, 0, 0), (2, .iconst 3, 0, 0, 0), (3, .invokestatic 70, 104, 3, 783), (6, .ireturn, 1, 0, 0)]
def tl_104 : List (Nat × xRow) := [(0, .iload_n 0, 0, 0, 0), (1, .iload_n 1, 0, 0, 0), (2, .if_icmp .lt 12, 14, 0, 0), (5, .iload_n 0, 0, 0, 0), (6, .iload_n 2, 0, 0, 0), (7, .if_icmp .gt 7, 14, 0, 0), (10, .iconst 1, 0, 0, 0), (11, .goto 4, 15, 0, 0), (14, .iconst 0, 0, 0, 0), (15, .ireturn, 1, 0, 0)]
def tl_105 : List (Nat × xRow) := [(0, .iload_n 0, 0, 0, 0), (1, .iconst 0, 0, 0, 0), (2, .iconst 2, 0, 0, 0), (3, .invokestatic 70, 104, 3, 783), (6, .ireturn, 1, 0, 0)]
def tl_106 : List (Nat × xRow) := [(0, .aload_n 0, 0, 0, 0), (1, .getfield 9, 7, 2, 690), (4, .iload_n 1, 0, 0, 0), (5, .iaload, 0, 0, 0), (6, .bipush (-9), 0, 0, 0), (8, .if_icmp .eq 15, 23, 0, 0), (11, .aload_n 0, 0, 0, 0), (12, .getfield 9, 7, 2, 690), (15, .iload_n 1, 0, 0, 0), (16, .iaload, 0, 0, 0), (17, .iload_n 2, 0, 0, 0), (18, .if_icmp .eq 5, 23, 0, 0), (21, .iconst 2, 0, 0, 0), (22, .ireturn, 0, 0, 0), (23, .aload_n 0, 0, 0, 0), (24, .getfield 9, 7, 2, 690), (27, .iload_n 1, 0, 0, 0), (28, .iaload, 0, 0, 0), (29, .bipush (-9), 0, 0, 0), (31, .if_icmp .ne 5, 36, 0, 0), (34, .iconst 1, 0, 0, 0), (35, .ireturn, 0, 0, 0), (36, .iload 4, 0, 0, 0), (38, .ifCond .ge 5, 43, 0, 0), (41, .iconst 4, 0, 0, 0), (42, .ireturn, 0, 0, 0), (43, .iload_n 3, 0, 0, 0), (44, .ifCond .lt 26, 70, 0, 0), (47, .iload_n 3, 0, 0, 0), (48, .aload_n 0, 0, 0, 0), (49, .getfield 13, 7, 3, 691), (52, .iload_n 1, 0, 0, 0), (53, .iaload, 0, 0, 0), (54, .if_icmp .gt 16, 70, 0, 0), (57, .iload 4, 0, 0, 0), (59, .aload_n 0, 0, 0, 0), (60, .getfield 13, 7, 3, 691), (63, .iload_n 1, 0, 0, 0), (64, .iaload, 0, 0, 0), (65, .iload_n 3, 0, 0, 0), (66, .isub, 0, 0, 0), (67, .if_icmp .le 7, 74, 0, 0), (70, .iconst 3, 0, 0, 0), (71, .goto 4, 75, 0, 0), (74, .iconst 0, 0, 0, 0), (75, .ireturn, 0, 0, 0)]
def tl_107 : List (Nat × xRow) := [(0, .aload_n 0, 0, 0, 0), (1, .iload_n 1, 0, 0, 0), (2, .putfield 64, 7, 0, 688), (5, .bipush (-10), 0, 0, 0), (7, .iload_n 1, 0, 0, 0), (8, .isub, 0, 0, 0), (9, .ireturn, 0, 0, 0)]
def tl_108 : List (Nat × xRow) := [(0, .aload_n 0, 0, 0, 0), (1, .iconst 0, 0, 0, 0), (2, .putfield 98, 7, 11, 699), (5, .aload_n 0, 0, 0, 0), (6, .iload_n 1, 0, 0, 0), (7, .bipush 114, 0, 0, 0), (9, .invokevirtual 104, 109, 3, 801), (12, .ifCond .ne 5, 17, 0, 0), (15, .iconst 0, 0, 0, 0), (16, .ireturn, 1, 0, 0), (17, .aload_n 0, 0, 0, 0), (18, .getfield 98, 7, 11, 699), (21, .ifCond .eq 20, 41, 0, 0), (24, .aload_n 0, 0, 0, 0), (25, .getfield 98, 7, 11, 699), (28, .bipush 8, 0, 0, 0), (30, .if_icmp .ge 48, 78, 0, 0), (33, .aload_n 0, 0, 0, 0), (34, .getfield 77, 7, 10, 698), (37, .iload_n 1, 0, 0, 0), (38, .if_icmp .ge 40, 78, 0, 0), (41, .aload_n 0, 0, 0, 0), (42, .iload_n 1, 0, 0, 0), (43, .bipush 59, 0, 0, 0), (45, .invokevirtual 104, 109, 3, 801), (48, .ifCond .eq 15, 63, 0, 0), (51, .aload_n 0, 0, 0, 0), (52, .iload_n 1, 0, 0, 0), (53, .aload_n 0, 0, 0, 0), (54, .getfield 98, 7, 11, 699), (57, .invokevirtual 108, 110, 3, 805), (60, .ifCond .ne 5, 65, 0, 0), (63, .iconst 0, 0, 0, 0), (64, .ireturn, 1, 0, 0), (65, .aload_n 0, 0, 0, 0), (66, .dup, 0, 0, 0), (67, .getfield 98, 7, 11, 699), (70, .iconst 1, 0, 0, 0), (71, .iadd, 0, 0, 0), (72, .putfield 98, 7, 11, 699), (75, .goto (-58), 17, 0, 0), (78, .aload_n 0, 0, 0, 0), (79, .getfield 77, 7, 10, 698), (82, .iload_n 1, 0, 0, 0), (83, .if_icmp .ne 7, 90, 0, 0), (86, .iconst 1, 0, 0, 0), (87, .goto 4, 91, 0, 0), (90, .iconst 0, 0, 0, 0), (91, .ireturn, 1, 0, 0)]
def tl_109 : List (Nat × xRow) := [(0, .aload_n 0, 0, 0, 0), (1, .getfield 77, 7, 10, 698), (4, .iload_n 1, 0, 0, 0), (5, .if_icmp .ge 16, 21, 0, 0), (8, .aload_n 0, 0, 0, 0), (9, .getfield 16, 7, 4, 692), (12, .aload_n 0, 0, 0, 0), (13, .getfield 77, 7, 10, 698), (16, .iaload, 0, 0, 0), (17, .iload_n 2, 0, 0, 0), (18, .if_icmp .eq 5, 23, 0, 0), (21, .iconst 0, 0, 0, 0), (22, .ireturn, 1, 0, 0), (23, .aload_n 0, 0, 0, 0), (24, .dup, 0, 0, 0), (25, .getfield 77, 7, 10, 698), (28, .iconst 1, 0, 0, 0), (29, .iadd, 0, 0, 0), (30, .putfield 77, 7, 10, 698), (33, .iconst 1, 0, 0, 0), (34, .ireturn, 1, 0, 0)]
def tl_110 : List (Nat × xRow) := [(0, .aload_n 0, 0, 0, 0), (1, .getfield 77, 7, 10, 698), (4, .iload_n 1, 0, 0, 0), (5, .if_icmp .ge 15, 20, 0, 0), (8, .aload_n 0, 0, 0, 0), (9, .getfield 16, 7, 4, 692), (12, .aload_n 0, 0, 0, 0), (13, .getfield 77, 7, 10, 698), (16, .iaload, 0, 0, 0), (17, .goto 4, 21, 0, 0), (20, .iconst 0, 0, 0, 0), (21, .istore_n 3, 0, 0, 0), (22, .aload_n 0, 0, 0, 0), (23, .getfield 31, 7, 12, 700), (26, .iload_n 2, 0, 0, 0), (27, .iload_n 3, 0, 0, 0), (28, .bipush 112, 0, 0, 0), (30, .if_icmp .ne 7, 37, 0, 0), (33, .iconst 0, 0, 0, 0), (34, .goto 25, 59, 0, 0), (37, .iload_n 3, 0, 0, 0), (38, .bipush 98, 0, 0, 0), (40, .if_icmp .ne 7, 47, 0, 0), (43, .iconst 1, 0, 0, 0), (44, .goto 15, 59, 0, 0), (47, .iload_n 3, 0, 0, 0), (48, .bipush 100, 0, 0, 0), (50, .if_icmp .ne 7, 57, 0, 0), (53, .iconst 2, 0, 0, 0), (54, .goto 5, 59, 0, 0), (57, .bipush (-9), 0, 0, 0), (59, .iastore, 0, 0, 0), (60, .aload_n 0, 0, 0, 0), (61, .getfield 31, 7, 12, 700), (64, .iload_n 2, 0, 0, 0), (65, .iaload, 0, 0, 0), (66, .bipush (-9), 0, 0, 0), (68, .if_icmp .ne 5, 73, 0, 0), (71, .iconst 0, 0, 0, 0), (72, .ireturn, 1, 0, 0), (73, .aload_n 0, 0, 0, 0), (74, .dup, 0, 0, 0), (75, .getfield 77, 7, 10, 698), (78, .iconst 1, 0, 0, 0), (79, .iadd, 0, 0, 0), (80, .putfield 77, 7, 10, 698), (83, .iload_n 2, 0, 0, 0), (84, .ifCond .ne 26, 110, 0, 0), (87, .aload_n 0, 0, 0, 0), (88, .iload_n 1, 0, 0, 0), (89, .bipush 45, 0, 0, 0), (91, .invokevirtual 104, 109, 3, 801), (94, .ifCond .ne 5, 99, 0, 0), (97, .iconst 0, 0, 0, 0), (98, .ireturn, 1, 0, 0), (99, .aload_n 0, 0, 0, 0), (100, .getfield 34, 7, 13, 701), (103, .iconst 0, 0, 0, 0), (104, .bipush 8, 0, 0, 0), (106, .iastore, 0, 0, 0), (107, .goto 62, 169, 0, 0), (110, .aload_n 0, 0, 0, 0), (111, .getfield 77, 7, 10, 698), (114, .iload_n 1, 0, 0, 0), (115, .if_icmp .ge 24, 139, 0, 0), (118, .aload_n 0, 0, 0, 0), (119, .getfield 16, 7, 4, 692), (122, .aload_n 0, 0, 0, 0), (123, .getfield 77, 7, 10, 698), (126, .iaload, 0, 0, 0), (127, .bipush 48, 0, 0, 0), (129, .bipush 47, 0, 0, 0), (131, .iload_n 2, 0, 0, 0), (132, .iadd, 0, 0, 0), (133, .invokestatic 70, 104, 3, 783), (136, .ifCond .ne 5, 141, 0, 0), (139, .iconst 0, 0, 0, 0), (140, .ireturn, 1, 0, 0), (141, .aload_n 0, 0, 0, 0), (142, .getfield 34, 7, 13, 701), (145, .iload_n 2, 0, 0, 0), (146, .aload_n 0, 0, 0, 0), (147, .getfield 16, 7, 4, 692), (150, .aload_n 0, 0, 0, 0), (151, .getfield 77, 7, 10, 698), (154, .iaload, 0, 0, 0), (155, .bipush 48, 0, 0, 0), (157, .isub, 0, 0, 0), (158, .iastore, 0, 0, 0), (159, .aload_n 0, 0, 0, 0), (160, .dup, 0, 0, 0), (161, .getfield 77, 7, 10, 698), (164, .iconst 1, 0, 0, 0), (165, .iadd, 0, 0, 0), (166, .putfield 77, 7, 10, 698), (169, .aload_n 0, 0, 0, 0), (170, .getfield 37, 7, 14, 702), (173, .iload_n 2, 0, 0, 0), (174, .iconst 0, 0, 0, 0), (175, .iastore, 0, 0, 0), (176, .aload_n 0, 0, 0, 0), (177, .getfield 37, 7, 14, 702), (180, .iload_n 2, 0, 0, 0), (181, .iaload, 0, 0, 0), (182, .iconst 2, 0, 0, 0), (183, .if_icmp .ge 81, 264, 0, 0), (186, .aload_n 0, 0, 0, 0), (187, .getfield 77, 7, 10, 698), (190, .iload_n 1, 0, 0, 0), (191, .if_icmp .ge 73, 264, 0, 0), (194, .aload_n 0, 0, 0, 0), (195, .iload_n 2, 0, 0, 0), (196, .aload_n 0, 0, 0, 0), (197, .getfield 16, 7, 4, 692), (200, .aload_n 0, 0, 0, 0), (201, .getfield 77, 7, 10, 698), (204, .iaload, 0, 0, 0), (205, .bipush 48, 0, 0, 0), (207, .isub, 0, 0, 0), (208, .invokevirtual 111, 111, 3, 809), (211, .ifCond .eq 53, 264, 0, 0), (214, .aload_n 0, 0, 0, 0), (215, .getfield 40, 7, 15, 703), (218, .iconst 2, 0, 0, 0), (219, .iload_n 2, 0, 0, 0), (220, .imul, 0, 0, 0), (221, .aload_n 0, 0, 0, 0), (222, .getfield 37, 7, 14, 702), (225, .iload_n 2, 0, 0, 0), (226, .iaload, 0, 0, 0), (227, .iadd, 0, 0, 0), (228, .aload_n 0, 0, 0, 0), (229, .getfield 16, 7, 4, 692), (232, .aload_n 0, 0, 0, 0), (233, .getfield 77, 7, 10, 698), (236, .iaload, 0, 0, 0), (237, .bipush 48, 0, 0, 0), (239, .isub, 0, 0, 0), (240, .iastore, 0, 0, 0), (241, .aload_n 0, 0, 0, 0), (242, .getfield 37, 7, 14, 702), (245, .iload_n 2, 0, 0, 0), (246, .dup2, 0, 0, 0), (247, .iaload, 0, 0, 0), (248, .iconst 1, 0, 0, 0), (249, .iadd, 0, 0, 0), (250, .iastore, 0, 0, 0), (251, .aload_n 0, 0, 0, 0), (252, .dup, 0, 0, 0), (253, .getfield 77, 7, 10, 698), (256, .iconst 1, 0, 0, 0), (257, .iadd, 0, 0, 0), (258, .putfield 77, 7, 10, 698), (261, .goto (-85), 176, 0, 0), (264, .iconst 1, 0, 0, 0), (265, .ireturn, 1, 0, 0)]
def tl_111 : List (Nat × xRow) := [(0, .aload_n 0, 0, 0, 0), (1, .getfield 34, 7, 13, 701), (4, .iload_n 1, 0, 0, 0), (5, .iaload, 0, 0, 0), (6, .istore_n 3, 0, 0, 0), (7, .iload_n 3, 0, 0, 0), (8, .bipush 8, 0, 0, 0), (10, .if_icmp .eq 18, 28, 0, 0), (13, .iload_n 3, 0, 0, 0), (14, .iload_n 2, 0, 0, 0), (15, .if_icmp .eq 13, 28, 0, 0), (18, .aload_n 0, 0, 0, 0), (19, .getfield 34, 7, 13, 701), (22, .iload_n 3, 0, 0, 0), (23, .iaload, 0, 0, 0), (24, .istore_n 3, 0, 0, 0), (25, .goto (-18), 7, 0, 0), (28, .iload_n 3, 0, 0, 0), (29, .iload_n 2, 0, 0, 0), (30, .if_icmp .ne 34, 64, 0, 0), (33, .iload_n 2, 0, 0, 0), (34, .bipush 8, 0, 0, 0), (36, .if_icmp .eq 28, 64, 0, 0), (39, .aload_n 0, 0, 0, 0), (40, .getfield 37, 7, 14, 702), (43, .iload_n 1, 0, 0, 0), (44, .iaload, 0, 0, 0), (45, .ifCond .eq 15, 60, 0, 0), (48, .aload_n 0, 0, 0, 0), (49, .getfield 40, 7, 15, 703), (52, .iconst 2, 0, 0, 0), (53, .iload_n 1, 0, 0, 0), (54, .imul, 0, 0, 0), (55, .iaload, 0, 0, 0), (56, .iload_n 2, 0, 0, 0), (57, .if_icmp .eq 7, 64, 0, 0), (60, .iconst 1, 0, 0, 0), (61, .goto 4, 65, 0, 0), (64, .iconst 0, 0, 0, 0), (65, .ireturn, 1, 0, 0)]
def tl_112 : List (Nat × xRow) := [(0, .aload_n 0, 0, 0, 0), (1, .iload_n 1, 0, 0, 0), (2, .invokevirtual 142, 113, 2, 817), (5, .ifCond .ne 5, 10, 0, 0), (8, .iconst (-1), 0, 0, 0), (9, .ireturn, 0, 0, 0), (10, .iload_n 2, 0, 0, 0), (11, .tableswitch 109 0 8 #[49, 56, 63, 70, 76, 85, 91, 97, 103], 0, 0, 0), (60, .aload_n 0, 0, 0, 0), (61, .getfield 19, 7, 6, 694), (64, .iload_n 1, 0, 0, 0), (65, .iaload, 0, 0, 0), (66, .ireturn, 0, 0, 0), (67, .aload_n 0, 0, 0, 0), (68, .getfield 22, 7, 7, 695), (71, .iload_n 1, 0, 0, 0), (72, .iaload, 0, 0, 0), (73, .ireturn, 0, 0, 0), (74, .aload_n 0, 0, 0, 0), (75, .getfield 25, 7, 8, 696), (78, .iload_n 1, 0, 0, 0), (79, .iaload, 0, 0, 0), (80, .ireturn, 0, 0, 0), (81, .aload_n 0, 0, 0, 0), (82, .iload_n 1, 0, 0, 0), (83, .invokevirtual 130, 114, 2, 821), (86, .ireturn, 0, 0, 0), (87, .aload_n 0, 0, 0, 0), (88, .iload_n 1, 0, 0, 0), (89, .invokevirtual 130, 114, 2, 821), (92, .invokestatic 120, 118, 1, 837), (95, .ireturn, 0, 0, 0), (96, .aload_n 0, 0, 0, 0), (97, .iload_n 1, 0, 0, 0), (98, .invokevirtual 145, 119, 2, 840), (101, .ireturn, 0, 0, 0), (102, .aload_n 0, 0, 0, 0), (103, .iload_n 1, 0, 0, 0), (104, .invokevirtual 148, 122, 2, 851), (107, .ireturn, 0, 0, 0), (108, .aload_n 0, 0, 0, 0), (109, .iload_n 1, 0, 0, 0), (110, .invokevirtual 117, 124, 2, 859), (113, .ireturn, 0, 0, 0), (114, .aload_n 0, 0, 0, 0), (115, .iload_n 1, 0, 0, 0), (116, .invokevirtual 151, 125, 2, 863), (119, .ireturn, 0, 0, 0), (120, .bipush (-2), 0, 0, 0), (122, .ireturn, 0, 0, 0)]
def tl_113 : List (Nat × xRow) := [(0, .iload_n 1, 0, 0, 0), (1, .ifCond .lt 15, 16, 0, 0), (4, .iload_n 1, 0, 0, 0), (5, .aload_n 0, 0, 0, 0), (6, .getfield 74, 7, 5, 693), (9, .if_icmp .ge 7, 16, 0, 0), (12, .iconst 1, 0, 0, 0), (13, .goto 4, 17, 0, 0), (16, .iconst 0, 0, 0, 0), (17, .ireturn, 1, 0, 0)]
def tl_114 : List (Nat × xRow) := [(0, .iconst 1, 0, 0, 0), (1, .iload_n 1, 0, 0, 0), (2, .ishl, 0, 0, 0), (3, .istore_n 2, 0, 0, 0), (4, .iconst 0, 0, 0, 0), (5, .istore_n 3, 0, 0, 0), (6, .iload_n 3, 0, 0, 0), (7, .iload_n 1, 0, 0, 0), (8, .if_icmp .ge 39, 47, 0, 0), (11, .iload_n 2, 0, 0, 0), (12, .aload_n 0, 0, 0, 0), (13, .iload_n 1, 0, 0, 0), (14, .iload_n 3, 0, 0, 0), (15, .invokevirtual 123, 115, 3, 825), (18, .ifCond .eq 20, 38, 0, 0), (21, .aload_n 0, 0, 0, 0), (22, .iload_n 1, 0, 0, 0), (23, .iload_n 3, 0, 0, 0), (24, .invokevirtual 126, 116, 3, 829), (27, .bipush (-9), 0, 0, 0), (29, .if_icmp .eq 9, 38, 0, 0), (32, .iconst 1, 0, 0, 0), (33, .iload_n 3, 0, 0, 0), (34, .ishl, 0, 0, 0), (35, .goto 4, 39, 0, 0), (38, .iconst 0, 0, 0, 0), (39, .ior, 0, 0, 0), (40, .istore_n 2, 0, 0, 0), (41, .iinc 3 1, 0, 0, 0), (44, .goto (-38), 6, 0, 0), (47, .iload_n 2, 0, 0, 0), (48, .ireturn, 0, 0, 0)]
def tl_115 : List (Nat × xRow) := [(0, .aload_n 0, 0, 0, 0), (1, .getfield 22, 7, 7, 695), (4, .iload_n 1, 0, 0, 0), (5, .iaload, 0, 0, 0), (6, .istore_n 3, 0, 0, 0), (7, .iload_n 3, 0, 0, 0), (8, .bipush 8, 0, 0, 0), (10, .if_icmp .eq 18, 28, 0, 0), (13, .iload_n 3, 0, 0, 0), (14, .iload_n 2, 0, 0, 0), (15, .if_icmp .eq 13, 28, 0, 0), (18, .aload_n 0, 0, 0, 0), (19, .getfield 22, 7, 7, 695), (22, .iload_n 3, 0, 0, 0), (23, .iaload, 0, 0, 0), (24, .istore_n 3, 0, 0, 0), (25, .goto (-18), 7, 0, 0), (28, .iload_n 3, 0, 0, 0), (29, .iload_n 2, 0, 0, 0), (30, .if_icmp .ne 13, 43, 0, 0), (33, .iload_n 2, 0, 0, 0), (34, .bipush 8, 0, 0, 0), (36, .if_icmp .eq 7, 43, 0, 0), (39, .iconst 1, 0, 0, 0), (40, .goto 4, 44, 0, 0), (43, .iconst 0, 0, 0, 0), (44, .ireturn, 1, 0, 0)]
def tl_116 : List (Nat × xRow) := [(0, .bipush (-9), 0, 0, 0), (2, .istore_n 3, 0, 0, 0), (3, .iload_n 1, 0, 0, 0), (4, .iconst 1, 0, 0, 0), (5, .iadd, 0, 0, 0), (6, .istore 4, 0, 0, 0), (8, .iload 4, 0, 0, 0), (10, .aload_n 0, 0, 0, 0), (11, .getfield 74, 7, 5, 693), (14, .if_icmp .ge 81, 95, 0, 0), (17, .aload_n 0, 0, 0, 0), (18, .iload 4, 0, 0, 0), (20, .iload_n 2, 0, 0, 0), (21, .invokevirtual 114, 117, 3, 833), (24, .ifCond .eq 65, 89, 0, 0), (27, .aload_n 0, 0, 0, 0), (28, .iload 4, 0, 0, 0), (30, .iload_n 1, 0, 0, 0), (31, .invokevirtual 123, 115, 3, 825), (34, .ifCond .eq 55, 89, 0, 0), (37, .iconst 1, 0, 0, 0), (38, .istore 5, 0, 0, 0), (40, .aload_n 0, 0, 0, 0), (41, .getfield 22, 7, 7, 695), (44, .iload 4, 0, 0, 0), (46, .iaload, 0, 0, 0), (47, .istore 6, 0, 0, 0), (49, .iload 6, 0, 0, 0), (51, .iload_n 1, 0, 0, 0), (52, .if_icmp .eq 18, 70, 0, 0), (55, .iinc 5 1, 0, 0, 0), (58, .aload_n 0, 0, 0, 0), (59, .getfield 22, 7, 7, 695), (62, .iload 6, 0, 0, 0), (64, .iaload, 0, 0, 0), (65, .istore 6, 0, 0, 0), (67, .goto (-18), 49, 0, 0), (70, .iload_n 3, 0, 0, 0), (71, .bipush (-9), 0, 0, 0), (73, .if_icmp .eq 9, 82, 0, 0), (76, .iload 5, 0, 0, 0), (78, .iload_n 3, 0, 0, 0), (79, .if_icmp .ge 8, 87, 0, 0), (82, .iload 5, 0, 0, 0), (84, .goto 4, 88, 0, 0), (87, .iload_n 3, 0, 0, 0), (88, .istore_n 3, 0, 0, 0), (89, .iinc 4 1, 0, 0, 0), (92, .goto (-84), 8, 0, 0), (95, .iload_n 3, 0, 0, 0), (96, .ireturn, 0, 0, 0)]
def tl_117 : List (Nat × xRow) := [(0, .iconst 0, 0, 0, 0), (1, .istore_n 3, 0, 0, 0), (2, .iload_n 3, 0, 0, 0), (3, .aload_n 0, 0, 0, 0), (4, .getfield 25, 7, 8, 696), (7, .iload_n 1, 0, 0, 0), (8, .iaload, 0, 0, 0), (9, .if_icmp .ge 25, 34, 0, 0), (12, .aload_n 0, 0, 0, 0), (13, .getfield 28, 7, 9, 697), (16, .iconst 2, 0, 0, 0), (17, .iload_n 1, 0, 0, 0), (18, .imul, 0, 0, 0), (19, .iload_n 3, 0, 0, 0), (20, .iadd, 0, 0, 0), (21, .iaload, 0, 0, 0), (22, .iload_n 2, 0, 0, 0), (23, .if_icmp .ne 5, 28, 0, 0), (26, .iconst 1, 0, 0, 0), (27, .ireturn, 1, 0, 0), (28, .iinc 3 1, 0, 0, 0), (31, .goto (-29), 2, 0, 0), (34, .iconst 0, 0, 0, 0), (35, .ireturn, 1, 0, 0)]
def tl_118 : List (Nat × xRow) := [(0, .iconst 0, 0, 0, 0), (1, .istore_n 1, 0, 0, 0), (2, .iload_n 0, 0, 0, 0), (3, .istore_n 2, 0, 0, 0), (4, .iload_n 2, 0, 0, 0), (5, .ifCond .le 16, 21, 0, 0), (8, .iload_n 1, 0, 0, 0), (9, .iload_n 2, 0, 0, 0), (10, .iconst 1, 0, 0, 0), (11, .iand, 0, 0, 0), (12, .iadd, 0, 0, 0), (13, .istore_n 1, 0, 0, 0), (14, .iload_n 2, 0, 0, 0), (15, .iconst 1, 0, 0, 0), (16, .ishr, 0, 0, 0), (17, .istore_n 2, 0, 0, 0), (18, .goto (-14), 4, 0, 0), (21, .iload_n 1, 0, 0, 0), (22, .ireturn, 0, 0, 0)]
def tl_119 : List (Nat × xRow) := [(0, .aload_n 0, 0, 0, 0), (1, .invokevirtual 139, 120, 1, 844), (4, .aload_n 0, 0, 0, 0), (5, .getfield 43, 7, 16, 704), (8, .iload_n 1, 0, 0, 0), (9, .iaload, 0, 0, 0), (10, .ireturn, 0, 0, 0)]
def tl_120 : List (Nat × xRow) := [(0, .iconst 0, 0, 0, 0), (1, .istore_n 1, 0, 0, 0), (2, .iload_n 1, 0, 0, 0), (3, .aload_n 0, 0, 0, 0), (4, .getfield 74, 7, 5, 693), (7, .if_icmp .ge 90, 97, 0, 0), (10, .aload_n 0, 0, 0, 0), (11, .iload_n 1, 0, 0, 0), (12, .invokevirtual 130, 114, 2, 821), (15, .istore_n 2, 0, 0, 0), (16, .iconst 0, 0, 0, 0), (17, .istore_n 3, 0, 0, 0), (18, .iconst 0, 0, 0, 0), (19, .istore 4, 0, 0, 0), (21, .iload 4, 0, 0, 0), (23, .iload_n 1, 0, 0, 0), (24, .if_icmp .ge 34, 58, 0, 0), (27, .iload_n 3, 0, 0, 0), (28, .iload_n 2, 0, 0, 0), (29, .iload 4, 0, 0, 0), (31, .invokestatic 133, 121, 2, 848), (34, .ifCond .eq 15, 49, 0, 0), (37, .iconst 1, 0, 0, 0), (38, .aload_n 0, 0, 0, 0), (39, .getfield 43, 7, 16, 704), (42, .iload 4, 0, 0, 0), (44, .iaload, 0, 0, 0), (45, .ishl, 0, 0, 0), (46, .goto 4, 50, 0, 0), (49, .iconst 0, 0, 0, 0), (50, .ior, 0, 0, 0), (51, .istore_n 3, 0, 0, 0), (52, .iinc 4 1, 0, 0, 0), (55, .goto (-34), 21, 0, 0), (58, .aload_n 0, 0, 0, 0), (59, .getfield 43, 7, 16, 704), (62, .iload_n 1, 0, 0, 0), (63, .iconst 0, 0, 0, 0), (64, .iastore, 0, 0, 0), (65, .iload_n 3, 0, 0, 0), (66, .aload_n 0, 0, 0, 0), (67, .getfield 43, 7, 16, 704), (70, .iload_n 1, 0, 0, 0), (71, .iaload, 0, 0, 0), (72, .invokestatic 133, 121, 2, 848), (75, .ifCond .eq 16, 91, 0, 0), (78, .aload_n 0, 0, 0, 0), (79, .getfield 43, 7, 16, 704), (82, .iload_n 1, 0, 0, 0), (83, .dup2, 0, 0, 0), (84, .iaload, 0, 0, 0), (85, .iconst 1, 0, 0, 0), (86, .iadd, 0, 0, 0), (87, .iastore, 0, 0, 0), (88, .goto (-23), 65, 0, 0), (91, .iinc 1 1, 0, 0, 0), (94, .goto (-92), 2, 0, 0), (97, .return_, 0, 0, 0)]
def tl_121 : List (Nat × xRow) := [(0, .iload_n 0, 0, 0, 0), (1, .iload_n 1, 0, 0, 0), (2, .ishr, 0, 0, 0), (3, .iconst 1, 0, 0, 0), (4, .iand, 0, 0, 0), (5, .iconst 1, 0, 0, 0), (6, .if_icmp .ne 7, 13, 0, 0), (9, .iconst 1, 0, 0, 0), (10, .goto 4, 14, 0, 0), (13, .iconst 0, 0, 0, 0), (14, .ireturn, 1, 0, 0)]
def tl_122 : List (Nat × xRow) := [(0, .iconst 0, 0, 0, 0), (1, .istore_n 2, 0, 0, 0), (2, .iconst 0, 0, 0, 0), (3, .istore_n 3, 0, 0, 0), (4, .iload_n 3, 0, 0, 0), (5, .aload_n 0, 0, 0, 0), (6, .getfield 74, 7, 5, 693), (9, .if_icmp .ge 33, 42, 0, 0), (12, .iload_n 2, 0, 0, 0), (13, .iload_n 3, 0, 0, 0), (14, .iload_n 1, 0, 0, 0), (15, .if_icmp .eq 18, 33, 0, 0), (18, .aload_n 0, 0, 0, 0), (19, .iload_n 1, 0, 0, 0), (20, .iload_n 3, 0, 0, 0), (21, .invokevirtual 136, 123, 3, 855), (24, .ifCond .eq 9, 33, 0, 0), (27, .iconst 1, 0, 0, 0), (28, .iload_n 3, 0, 0, 0), (29, .ishl, 0, 0, 0), (30, .goto 4, 34, 0, 0), (33, .iconst 0, 0, 0, 0), (34, .ior, 0, 0, 0), (35, .istore_n 2, 0, 0, 0), (36, .iinc 3 1, 0, 0, 0), (39, .goto (-35), 4, 0, 0), (42, .iload_n 2, 0, 0, 0), (43, .ireturn, 0, 0, 0)]
def tl_123 : List (Nat × xRow) := [(0, .iconst 0, 0, 0, 0), (1, .istore_n 3, 0, 0, 0), (2, .iload_n 3, 0, 0, 0), (3, .aload_n 0, 0, 0, 0), (4, .getfield 74, 7, 5, 693), (7, .if_icmp .ge 36, 43, 0, 0), (10, .aload_n 0, 0, 0, 0), (11, .iload_n 3, 0, 0, 0), (12, .invokevirtual 130, 114, 2, 821), (15, .istore 4, 0, 0, 0), (17, .iload 4, 0, 0, 0), (19, .iload_n 1, 0, 0, 0), (20, .invokestatic 133, 121, 2, 848), (23, .ifCond .eq 14, 37, 0, 0), (26, .iload 4, 0, 0, 0), (28, .iload_n 2, 0, 0, 0), (29, .invokestatic 133, 121, 2, 848), (32, .ifCond .eq 5, 37, 0, 0), (35, .iconst 1, 0, 0, 0), (36, .ireturn, 1, 0, 0), (37, .iinc 3 1, 0, 0, 0), (40, .goto (-38), 2, 0, 0), (43, .iconst 0, 0, 0, 0), (44, .ireturn, 1, 0, 0)]
def tl_124 : List (Nat × xRow) := [(0, .iconst 0, 0, 0, 0), (1, .istore_n 2, 0, 0, 0), (2, .iconst 0, 0, 0, 0), (3, .istore_n 3, 0, 0, 0), (4, .iload_n 3, 0, 0, 0), (5, .aload_n 0, 0, 0, 0), (6, .getfield 74, 7, 5, 693), (9, .if_icmp .ge 28, 37, 0, 0), (12, .iload_n 2, 0, 0, 0), (13, .aload_n 0, 0, 0, 0), (14, .iload_n 3, 0, 0, 0), (15, .iload_n 1, 0, 0, 0), (16, .invokevirtual 114, 117, 3, 833), (19, .ifCond .eq 9, 28, 0, 0), (22, .iconst 1, 0, 0, 0), (23, .iload_n 3, 0, 0, 0), (24, .ishl, 0, 0, 0), (25, .goto 4, 29, 0, 0), (28, .iconst 0, 0, 0, 0), (29, .ior, 0, 0, 0), (30, .istore_n 2, 0, 0, 0), (31, .iinc 3 1, 0, 0, 0), (34, .goto (-30), 4, 0, 0), (37, .iload_n 2, 0, 0, 0), (38, .ireturn, 0, 0, 0)]
def tl_125 : List (Nat × xRow) := [(0, .aload_n 0, 0, 0, 0), (1, .iload_n 1, 0, 0, 0), (2, .invokevirtual 117, 124, 2, 859), (5, .invokestatic 120, 118, 1, 837), (8, .istore_n 2, 0, 0, 0), (9, .aload_n 0, 0, 0, 0), (10, .getfield 19, 7, 6, 694), (13, .iload_n 1, 0, 0, 0), (14, .iaload, 0, 0, 0), (15, .ifCond .ne 7, 22, 0, 0), (18, .iload_n 2, 0, 0, 0), (19, .goto 22, 41, 0, 0), (22, .aload_n 0, 0, 0, 0), (23, .getfield 19, 7, 6, 694), (26, .iload_n 1, 0, 0, 0), (27, .iaload, 0, 0, 0), (28, .iconst 1, 0, 0, 0), (29, .if_icmp .ne 9, 38, 0, 0), (32, .iload_n 2, 0, 0, 0), (33, .iconst 1, 0, 0, 0), (34, .iadd, 0, 0, 0), (35, .goto 6, 41, 0, 0), (38, .iconst 2, 0, 0, 0), (39, .iload_n 2, 0, 0, 0), (40, .imul, 0, 0, 0), (41, .ireturn, 0, 0, 0)]
def tl_126 : List (Nat × xRow) := [(0, .aload_n 0, 0, 0, 0), (1, .iload_n 1, 0, 0, 0), (2, .invokevirtual 142, 113, 2, 817), (5, .ifCond .eq 32, 37, 0, 0), (8, .iload_n 2, 0, 0, 0), (9, .iconst 0, 0, 0, 0), (10, .aload_n 0, 0, 0, 0), (11, .getfield 25, 7, 8, 696), (14, .iload_n 1, 0, 0, 0), (15, .iaload, 0, 0, 0), (16, .iconst 1, 0, 0, 0), (17, .isub, 0, 0, 0), (18, .invokestatic 70, 104, 3, 783), (21, .ifCond .eq 16, 37, 0, 0), (24, .aload_n 0, 0, 0, 0), (25, .getfield 28, 7, 9, 697), (28, .iconst 2, 0, 0, 0), (29, .iload_n 1, 0, 0, 0), (30, .imul, 0, 0, 0), (31, .iload_n 2, 0, 0, 0), (32, .iadd, 0, 0, 0), (33, .iaload, 0, 0, 0), (34, .goto 4, 38, 0, 0), (37, .iconst (-1), 0, 0, 0), (38, .ireturn, 0, 0, 0)]
def tl_127 : List (Nat × xRow) := [(0, .aload_n 0, 0, 0, 0), (1, .iload_n 1, 0, 0, 0), (2, .invokevirtual 142, 113, 2, 817), (5, .ifCond .eq 27, 32, 0, 0), (8, .iload_n 2, 0, 0, 0), (9, .iconst 0, 0, 0, 0), (10, .aload_n 0, 0, 0, 0), (11, .getfield 25, 7, 8, 696), (14, .iload_n 1, 0, 0, 0), (15, .iaload, 0, 0, 0), (16, .iconst 1, 0, 0, 0), (17, .isub, 0, 0, 0), (18, .invokestatic 70, 104, 3, 783), (21, .ifCond .eq 11, 32, 0, 0), (24, .aload_n 0, 0, 0, 0), (25, .iload_n 3, 0, 0, 0), (26, .invokevirtual 142, 113, 2, 817), (29, .ifCond .ne 5, 34, 0, 0), (32, .iconst (-1), 0, 0, 0), (33, .ireturn, 0, 0, 0), (34, .aload_n 0, 0, 0, 0), (35, .iload_n 1, 0, 0, 0), (36, .iload_n 2, 0, 0, 0), (37, .iload_n 3, 0, 0, 0), (38, .invokevirtual 154, 128, 4, 875), (41, .ifCond .ne 6, 47, 0, 0), (44, .bipush (-3), 0, 0, 0), (46, .ireturn, 0, 0, 0), (47, .aload_n 0, 0, 0, 0), (48, .getfield 28, 7, 9, 697), (51, .iconst 2, 0, 0, 0), (52, .iload_n 1, 0, 0, 0), (53, .imul, 0, 0, 0), (54, .iload_n 2, 0, 0, 0), (55, .iadd, 0, 0, 0), (56, .iaload, 0, 0, 0), (57, .istore 4, 0, 0, 0), (59, .aload_n 0, 0, 0, 0), (60, .getfield 28, 7, 9, 697), (63, .iconst 2, 0, 0, 0), (64, .iload_n 1, 0, 0, 0), (65, .imul, 0, 0, 0), (66, .iload_n 2, 0, 0, 0), (67, .iadd, 0, 0, 0), (68, .iload_n 3, 0, 0, 0), (69, .iastore, 0, 0, 0), (70, .iload 4, 0, 0, 0), (72, .ireturn, 0, 0, 0)]
def tl_128 : List (Nat × xRow) := [(0, .aload_n 0, 0, 0, 0), (1, .iload_n 1, 0, 0, 0), (2, .iload_n 3, 0, 0, 0), (3, .invokevirtual 123, 115, 3, 825), (6, .ifCond .eq 33, 39, 0, 0), (9, .aload_n 0, 0, 0, 0), (10, .getfield 25, 7, 8, 696), (13, .iload_n 1, 0, 0, 0), (14, .iaload, 0, 0, 0), (15, .iconst 2, 0, 0, 0), (16, .if_icmp .lt 19, 35, 0, 0), (19, .aload_n 0, 0, 0, 0), (20, .getfield 28, 7, 9, 697), (23, .iconst 2, 0, 0, 0), (24, .iload_n 1, 0, 0, 0), (25, .imul, 0, 0, 0), (26, .iconst 1, 0, 0, 0), (27, .iadd, 0, 0, 0), (28, .iload_n 2, 0, 0, 0), (29, .isub, 0, 0, 0), (30, .iaload, 0, 0, 0), (31, .iload_n 3, 0, 0, 0), (32, .if_icmp .eq 7, 39, 0, 0), (35, .iconst 1, 0, 0, 0), (36, .goto 4, 40, 0, 0), (39, .iconst 0, 0, 0, 0), (40, .ireturn, 1, 0, 0)]
def tl_129 : List (Nat × xRow) := [(0, .iload_n 1, 0, 0, 0), (1, .iconst 0, 0, 0, 0), (2, .iconst 2, 0, 0, 0), (3, .invokestatic 70, 104, 3, 783), (6, .ifCond .ne 6, 12, 0, 0), (9, .bipush (-2), 0, 0, 0), (11, .ireturn, 0, 0, 0), (12, .aload_n 0, 0, 0, 0), (13, .iload_n 2, 0, 0, 0), (14, .invokevirtual 142, 113, 2, 817), (17, .ifCond .eq 39, 56, 0, 0), (20, .iload_n 3, 0, 0, 0), (21, .bipush (-9), 0, 0, 0), (23, .if_icmp .eq 11, 34, 0, 0), (26, .aload_n 0, 0, 0, 0), (27, .iload_n 3, 0, 0, 0), (28, .invokevirtual 142, 113, 2, 817), (31, .ifCond .eq 25, 56, 0, 0), (34, .iload 4, 0, 0, 0), (36, .bipush (-9), 0, 0, 0), (38, .if_icmp .eq 20, 58, 0, 0), (41, .aload_n 0, 0, 0, 0), (42, .iload 4, 0, 0, 0), (44, .invokevirtual 142, 113, 2, 817), (47, .ifCond .eq 9, 56, 0, 0), (50, .iload_n 3, 0, 0, 0), (51, .bipush (-9), 0, 0, 0), (53, .if_icmp .ne 5, 58, 0, 0), (56, .iconst (-1), 0, 0, 0), (57, .ireturn, 0, 0, 0), (58, .iload_n 3, 0, 0, 0), (59, .bipush (-9), 0, 0, 0), (61, .if_icmp .eq 12, 73, 0, 0), (64, .aload_n 0, 0, 0, 0), (65, .iload_n 2, 0, 0, 0), (66, .iload_n 3, 0, 0, 0), (67, .invokevirtual 157, 130, 3, 883), (70, .ifCond .eq 26, 96, 0, 0), (73, .iload 4, 0, 0, 0), (75, .bipush (-9), 0, 0, 0), (77, .if_icmp .eq 22, 99, 0, 0), (80, .aload_n 0, 0, 0, 0), (81, .iload_n 2, 0, 0, 0), (82, .iload 4, 0, 0, 0), (84, .invokevirtual 157, 130, 3, 883), (87, .ifCond .eq 9, 96, 0, 0), (90, .iload_n 3, 0, 0, 0), (91, .iload 4, 0, 0, 0), (93, .if_icmp .ne 6, 99, 0, 0), (96, .bipush (-3), 0, 0, 0), (98, .ireturn, 0, 0, 0), (99, .aload_n 0, 0, 0, 0), (100, .getfield 74, 7, 5, 693), (103, .bipush 8, 0, 0, 0), (105, .if_icmp .ne 6, 111, 0, 0), (108, .bipush (-4), 0, 0, 0), (110, .ireturn, 0, 0, 0), (111, .aload_n 0, 0, 0, 0), (112, .getfield 19, 7, 6, 694), (115, .aload_n 0, 0, 0, 0), (116, .getfield 74, 7, 5, 693), (119, .iload_n 1, 0, 0, 0), (120, .iastore, 0, 0, 0), (121, .aload_n 0, 0, 0, 0), (122, .getfield 22, 7, 7, 695), (125, .aload_n 0, 0, 0, 0), (126, .getfield 74, 7, 5, 693), (129, .iload_n 2, 0, 0, 0), (130, .iastore, 0, 0, 0), (131, .aload_n 0, 0, 0, 0), (132, .getfield 25, 7, 8, 696), (135, .aload_n 0, 0, 0, 0), (136, .getfield 74, 7, 5, 693), (139, .iload_n 3, 0, 0, 0), (140, .bipush (-9), 0, 0, 0), (142, .if_icmp .ne 7, 149, 0, 0), (145, .iconst 0, 0, 0, 0), (146, .goto 15, 161, 0, 0), (149, .iload 4, 0, 0, 0), (151, .bipush (-9), 0, 0, 0), (153, .if_icmp .ne 7, 160, 0, 0), (156, .iconst 1, 0, 0, 0), (157, .goto 4, 161, 0, 0), (160, .iconst 2, 0, 0, 0), (161, .iastore, 0, 0, 0), (162, .aload_n 0, 0, 0, 0), (163, .getfield 28, 7, 9, 697), (166, .iconst 2, 0, 0, 0), (167, .aload_n 0, 0, 0, 0), (168, .getfield 74, 7, 5, 693), (171, .imul, 0, 0, 0), (172, .iload_n 3, 0, 0, 0), (173, .iastore, 0, 0, 0), (174, .aload_n 0, 0, 0, 0), (175, .getfield 28, 7, 9, 697), (178, .iconst 2, 0, 0, 0), (179, .aload_n 0, 0, 0, 0), (180, .getfield 74, 7, 5, 693), (183, .imul, 0, 0, 0), (184, .iconst 1, 0, 0, 0), (185, .iadd, 0, 0, 0), (186, .iload 4, 0, 0, 0), (188, .iastore, 0, 0, 0), (189, .aload_n 0, 0, 0, 0), (190, .dup, 0, 0, 0), (191, .getfield 74, 7, 5, 693), (194, .iconst 1, 0, 0, 0), (195, .iadd, 0, 0, 0), (196, .putfield 74, 7, 5, 693), (199, .aload_n 0, 0, 0, 0), (200, .getfield 74, 7, 5, 693), (203, .iconst 1, 0, 0, 0), (204, .isub, 0, 0, 0), (205, .ireturn, 0, 0, 0)]
def tl_130 : List (Nat × xRow) := [(0, .iload_n 1, 0, 0, 0), (1, .iload_n 2, 0, 0, 0), (2, .if_icmp .eq 12, 14, 0, 0), (5, .aload_n 0, 0, 0, 0), (6, .iload_n 1, 0, 0, 0), (7, .iload_n 2, 0, 0, 0), (8, .invokevirtual 123, 115, 3, 825), (11, .ifCond .eq 7, 18, 0, 0), (14, .iconst 1, 0, 0, 0), (15, .goto 4, 19, 0, 0), (18, .iconst 0, 0, 0, 0), (19, .ireturn, 1, 0, 0)]
def tl_131 : List (Nat × xRow) := [(0, .aload_n 0, 0, 0, 0), (1, .getfield 74, 7, 5, 693), (4, .iconst 2, 0, 0, 0), (5, .if_icmp .ge 6, 11, 0, 0), (8, .bipush (-3), 0, 0, 0), (10, .ireturn, 0, 0, 0), (11, .aload_n 0, 0, 0, 0), (12, .dup, 0, 0, 0), (13, .getfield 74, 7, 5, 693), (16, .iconst 1, 0, 0, 0), (17, .isub, 0, 0, 0), (18, .putfield 74, 7, 5, 693), (21, .iconst 0, 0, 0, 0), (22, .istore_n 1, 0, 0, 0), (23, .iconst 0, 0, 0, 0), (24, .istore_n 2, 0, 0, 0), (25, .iload_n 2, 0, 0, 0), (26, .aload_n 0, 0, 0, 0), (27, .getfield 101, 7, 26, 714), (30, .if_icmp .ge 49, 79, 0, 0), (33, .aload_n 0, 0, 0, 0), (34, .getfield 58, 7, 27, 715), (37, .iload_n 2, 0, 0, 0), (38, .iaload, 0, 0, 0), (39, .aload_n 0, 0, 0, 0), (40, .getfield 74, 7, 5, 693), (43, .if_icmp .eq 30, 73, 0, 0), (46, .aload_n 0, 0, 0, 0), (47, .getfield 58, 7, 27, 715), (50, .iload_n 1, 0, 0, 0), (51, .aload_n 0, 0, 0, 0), (52, .getfield 58, 7, 27, 715), (55, .iload_n 2, 0, 0, 0), (56, .iaload, 0, 0, 0), (57, .iastore, 0, 0, 0), (58, .aload_n 0, 0, 0, 0), (59, .getfield 61, 7, 28, 716), (62, .iload_n 1, 0, 0, 0), (63, .aload_n 0, 0, 0, 0), (64, .getfield 61, 7, 28, 716), (67, .iload_n 2, 0, 0, 0), (68, .iaload, 0, 0, 0), (69, .iastore, 0, 0, 0), (70, .iinc 1 1, 0, 0, 0), (73, .iinc 2 1, 0, 0, 0), (76, .goto (-51), 25, 0, 0), (79, .aload_n 0, 0, 0, 0), (80, .iload_n 1, 0, 0, 0), (81, .putfield 101, 7, 26, 714), (84, .aload_n 0, 0, 0, 0), (85, .getfield 74, 7, 5, 693), (88, .ireturn, 0, 0, 0)]
def tl_132 : List (Nat × xRow) := [(0, .aload_n 0, 0, 0, 0), (1, .iconst 0, 0, 0, 0), (2, .putfield 64, 7, 0, 688), (5, .iload_n 1, 0, 0, 0), (6, .invokestatic 80, 103, 1, 780), (9, .ifCond .ne 5, 14, 0, 0), (12, .iconst (-1), 0, 0, 0), (13, .ireturn, 0, 0, 0), (14, .iload_n 2, 0, 0, 0), (15, .invokestatic 84, 105, 1, 786), (18, .ifCond .eq 36, 54, 0, 0), (21, .iload 4, 0, 0, 0), (23, .iconst 0, 0, 0, 0), (24, .bipush 20, 0, 0, 0), (26, .invokestatic 70, 104, 3, 783), (29, .ifCond .eq 25, 54, 0, 0), (32, .iload 5, 0, 0, 0), (34, .iconst 0, 0, 0, 0), (35, .iconst 4, 0, 0, 0), (36, .invokestatic 70, 104, 3, 783), (39, .ifCond .ne 18, 57, 0, 0), (42, .iload 5, 0, 0, 0), (44, .bipush 10, 0, 0, 0), (46, .bipush 17, 0, 0, 0), (48, .invokestatic 70, 104, 3, 783), (51, .ifCond .ne 6, 57, 0, 0), (54, .bipush (-2), 0, 0, 0), (56, .ireturn, 0, 0, 0), (57, .aload_n 0, 0, 0, 0), (58, .iload_n 1, 0, 0, 0), (59, .iload_n 2, 0, 0, 0), (60, .iload_n 3, 0, 0, 0), (61, .iconst 3, 0, 0, 0), (62, .iload 4, 0, 0, 0), (64, .imul, 0, 0, 0), (65, .invokevirtual 87, 106, 5, 789), (68, .istore 6, 0, 0, 0), (70, .iload 6, 0, 0, 0), (72, .ifCond .eq 10, 82, 0, 0), (75, .aload_n 0, 0, 0, 0), (76, .iload 6, 0, 0, 0), (78, .invokevirtual 91, 107, 2, 793), (81, .ireturn, 0, 0, 0), (82, .aload_n 0, 0, 0, 0), (83, .getfield 74, 7, 5, 693), (86, .ifCond .ne 6, 92, 0, 0), (89, .bipush (-3), 0, 0, 0), (91, .ireturn, 0, 0, 0), (92, .iconst 0, 0, 0, 0), (93, .istore 7, 0, 0, 0), (95, .iload 7, 0, 0, 0), (97, .bipush 16, 0, 0, 0), (99, .if_icmp .ge 23, 122, 0, 0), (102, .aload_n 0, 0, 0, 0), (103, .getfield 46, 7, 17, 705), (106, .iload 7, 0, 0, 0), (108, .aload_n 0, 0, 0, 0), (109, .getfield 28, 7, 9, 697), (112, .iload 7, 0, 0, 0), (114, .iaload, 0, 0, 0), (115, .iastore, 0, 0, 0), (116, .iinc 7 1, 0, 0, 0), (119, .goto (-24), 95, 0, 0), (122, .aload_n 0, 0, 0, 0), (123, .bipush 60, 0, 0, 0), (125, .iload_n 1, 0, 0, 0), (126, .imul, 0, 0, 0), (127, .iload_n 3, 0, 0, 0), (128, .iadd, 0, 0, 0), (129, .iload 4, 0, 0, 0), (131, .invokevirtual 160, 133, 3, 895), (134, .istore 7, 0, 0, 0), (136, .aload_n 0, 0, 0, 0), (137, .iload 5, 0, 0, 0), (139, .invokevirtual 163, 134, 2, 899), (142, .istore 8, 0, 0, 0), (144, .iconst 0, 0, 0, 0), (145, .istore 9, 0, 0, 0), (147, .iload 9, 0, 0, 0), (149, .bipush 16, 0, 0, 0), (151, .if_icmp .ge 23, 174, 0, 0), (154, .aload_n 0, 0, 0, 0), (155, .getfield 28, 7, 9, 697), (158, .iload 9, 0, 0, 0), (160, .aload_n 0, 0, 0, 0), (161, .getfield 46, 7, 17, 705), (164, .iload 9, 0, 0, 0), (166, .iaload, 0, 0, 0), (167, .iastore, 0, 0, 0), (168, .iinc 9 1, 0, 0, 0), (171, .goto (-24), 147, 0, 0), (174, .iload 5, 0, 0, 0), (176, .iconst 1, 0, 0, 0), (177, .if_icmp .ne 8, 185, 0, 0), (180, .iload 7, 0, 0, 0), (182, .goto 20, 202, 0, 0), (185, .iload 7, 0, 0, 0), (187, .bipush (-9), 0, 0, 0), (189, .if_icmp .ne 8, 197, 0, 0), (192, .iload 8, 0, 0, 0), (194, .goto 8, 202, 0, 0), (197, .bipush (-100), 0, 0, 0), (199, .iload 7, 0, 0, 0), (201, .isub, 0, 0, 0), (202, .ireturn, 0, 0, 0)]
def tl_133 : List (Nat × xRow) := [(0, .iconst 0, 0, 0, 0), (1, .istore_n 3, 0, 0, 0), (2, .iload_n 3, 0, 0, 0), (3, .iload_n 2, 0, 0, 0), (4, .if_icmp .ge 114, 118, 0, 0), (7, .aload_n 0, 0, 0, 0), (8, .getfield 16, 7, 4, 692), (11, .iload_n 1, 0, 0, 0), (12, .iconst 3, 0, 0, 0), (13, .iload_n 3, 0, 0, 0), (14, .imul, 0, 0, 0), (15, .iadd, 0, 0, 0), (16, .iaload, 0, 0, 0), (17, .istore 4, 0, 0, 0), (19, .aload_n 0, 0, 0, 0), (20, .getfield 16, 7, 4, 692), (23, .iload_n 1, 0, 0, 0), (24, .iconst 3, 0, 0, 0), (25, .iload_n 3, 0, 0, 0), (26, .imul, 0, 0, 0), (27, .iadd, 0, 0, 0), (28, .iconst 1, 0, 0, 0), (29, .iadd, 0, 0, 0), (30, .iaload, 0, 0, 0), (31, .istore 5, 0, 0, 0), (33, .aload_n 0, 0, 0, 0), (34, .getfield 16, 7, 4, 692), (37, .iload_n 1, 0, 0, 0), (38, .iconst 3, 0, 0, 0), (39, .iload_n 3, 0, 0, 0), (40, .imul, 0, 0, 0), (41, .iadd, 0, 0, 0), (42, .iconst 2, 0, 0, 0), (43, .iadd, 0, 0, 0), (44, .iaload, 0, 0, 0), (45, .istore 6, 0, 0, 0), (47, .aload_n 0, 0, 0, 0), (48, .iload 4, 0, 0, 0), (50, .invokevirtual 142, 113, 2, 817), (53, .ifCond .eq 43, 96, 0, 0), (56, .iload 5, 0, 0, 0), (58, .iconst 0, 0, 0, 0), (59, .aload_n 0, 0, 0, 0), (60, .getfield 25, 7, 8, 696), (63, .iload 4, 0, 0, 0), (65, .iaload, 0, 0, 0), (66, .iconst 1, 0, 0, 0), (67, .isub, 0, 0, 0), (68, .invokestatic 70, 104, 3, 783), (71, .ifCond .eq 25, 96, 0, 0), (74, .aload_n 0, 0, 0, 0), (75, .iload 6, 0, 0, 0), (77, .invokevirtual 142, 113, 2, 817), (80, .ifCond .eq 16, 96, 0, 0), (83, .aload_n 0, 0, 0, 0), (84, .iload 4, 0, 0, 0), (86, .iload 5, 0, 0, 0), (88, .iload 6, 0, 0, 0), (90, .invokevirtual 154, 128, 4, 875), (93, .ifCond .ne 5, 98, 0, 0), (96, .iload_n 3, 0, 0, 0), (97, .ireturn, 0, 0, 0), (98, .aload_n 0, 0, 0, 0), (99, .getfield 28, 7, 9, 697), (102, .iconst 2, 0, 0, 0), (103, .iload 4, 0, 0, 0), (105, .imul, 0, 0, 0), (106, .iload 5, 0, 0, 0), (108, .iadd, 0, 0, 0), (109, .iload 6, 0, 0, 0), (111, .iastore, 0, 0, 0), (112, .iinc 3 1, 0, 0, 0), (115, .goto (-113), 2, 0, 0), (118, .bipush (-9), 0, 0, 0), (120, .ireturn, 0, 0, 0)]
def tl_134 : List (Nat × xRow) := [(0, .iload_n 1, 0, 0, 0), (1, .bipush 10, 0, 0, 0), (3, .if_icmp .lt 28, 31, 0, 0), (6, .aload_n 0, 0, 0, 0), (7, .iload_n 1, 0, 0, 0), (8, .bipush 10, 0, 0, 0), (10, .isub, 0, 0, 0), (11, .invokevirtual 142, 113, 2, 817), (14, .ifCond .eq 14, 28, 0, 0), (17, .aload_n 0, 0, 0, 0), (18, .iload_n 1, 0, 0, 0), (19, .bipush 10, 0, 0, 0), (21, .isub, 0, 0, 0), (22, .invokevirtual 145, 119, 2, 840), (25, .goto 5, 30, 0, 0), (28, .bipush (-9), 0, 0, 0), (30, .ireturn, 0, 0, 0), (31, .iload_n 1, 0, 0, 0), (32, .tableswitch 52 0 3 #[32, 52, 37, 42], 0, 0, 0), (64, .aload_n 0, 0, 0, 0), (65, .invokevirtual 166, 135, 1, 903), (68, .ireturn, 0, 0, 0), (69, .aload_n 0, 0, 0, 0), (70, .invokevirtual 170, 136, 1, 907), (73, .ireturn, 0, 0, 0), (74, .aload_n 0, 0, 0, 0), (75, .iconst 3, 0, 0, 0), (76, .invokevirtual 173, 137, 2, 911), (79, .aload_n 0, 0, 0, 0), (80, .getfield 177, 7, 19, 707), (83, .ireturn, 0, 0, 0), (84, .aload_n 0, 0, 0, 0), (85, .invokevirtual 180, 141, 1, 927), (88, .ireturn, 0, 0, 0)]
def tl_135 : List (Nat × xRow) := [(0, .iconst 0, 0, 0, 0), (1, .istore_n 1, 0, 0, 0), (2, .iconst 0, 0, 0, 0), (3, .istore_n 2, 0, 0, 0), (4, .iload_n 2, 0, 0, 0), (5, .aload_n 0, 0, 0, 0), (6, .getfield 74, 7, 5, 693), (9, .if_icmp .ge 34, 43, 0, 0), (12, .aload_n 0, 0, 0, 0), (13, .iload_n 2, 0, 0, 0), (14, .invokevirtual 130, 114, 2, 821), (17, .invokestatic 120, 118, 1, 837), (20, .iload_n 1, 0, 0, 0), (21, .if_icmp .le 14, 35, 0, 0), (24, .aload_n 0, 0, 0, 0), (25, .iload_n 2, 0, 0, 0), (26, .invokevirtual 130, 114, 2, 821), (29, .invokestatic 120, 118, 1, 837), (32, .goto 4, 36, 0, 0), (35, .iload_n 1, 0, 0, 0), (36, .istore_n 1, 0, 0, 0), (37, .iinc 2 1, 0, 0, 0), (40, .goto (-36), 4, 0, 0), (43, .iload_n 1, 0, 0, 0), (44, .ireturn, 0, 0, 0)]
def tl_136 : List (Nat × xRow) := [(0, .aload_n 0, 0, 0, 0), (1, .invokevirtual 139, 120, 1, 844), (4, .iconst 0, 0, 0, 0), (5, .istore_n 1, 0, 0, 0), (6, .iconst 0, 0, 0, 0), (7, .istore_n 2, 0, 0, 0), (8, .iload_n 2, 0, 0, 0), (9, .aload_n 0, 0, 0, 0), (10, .getfield 74, 7, 5, 693), (13, .if_icmp .ge 34, 47, 0, 0), (16, .aload_n 0, 0, 0, 0), (17, .getfield 43, 7, 16, 704), (20, .iload_n 2, 0, 0, 0), (21, .iaload, 0, 0, 0), (22, .iconst 1, 0, 0, 0), (23, .iadd, 0, 0, 0), (24, .iload_n 1, 0, 0, 0), (25, .if_icmp .le 14, 39, 0, 0), (28, .aload_n 0, 0, 0, 0), (29, .getfield 43, 7, 16, 704), (32, .iload_n 2, 0, 0, 0), (33, .iaload, 0, 0, 0), (34, .iconst 1, 0, 0, 0), (35, .iadd, 0, 0, 0), (36, .goto 4, 40, 0, 0), (39, .iload_n 1, 0, 0, 0), (40, .istore_n 1, 0, 0, 0), (41, .iinc 2 1, 0, 0, 0), (44, .goto (-36), 8, 0, 0), (47, .iload_n 1, 0, 0, 0), (48, .ireturn, 0, 0, 0)]
def tl_137 : List (Nat × xRow) := [(0, .aload_n 0, 0, 0, 0), (1, .iconst 0, 0, 0, 0), (2, .putfield 177, 7, 19, 707), (5, .aload_n 0, 0, 0, 0), (6, .iconst 0, 0, 0, 0), (7, .putfield 193, 7, 20, 708), (10, .aload_n 0, 0, 0, 0), (11, .iconst 0, 0, 0, 0), (12, .putfield 183, 7, 21, 709), (15, .iconst 0, 0, 0, 0), (16, .istore_n 2, 0, 0, 0), (17, .iload_n 2, 0, 0, 0), (18, .aload_n 0, 0, 0, 0), (19, .getfield 74, 7, 5, 693), (22, .if_icmp .ge 15, 37, 0, 0), (25, .aload_n 0, 0, 0, 0), (26, .iload_n 2, 0, 0, 0), (27, .iload_n 1, 0, 0, 0), (28, .invokevirtual 196, 138, 3, 915), (31, .iinc 2 1, 0, 0, 0), (34, .goto (-17), 17, 0, 0), (37, .return_, 0, 0, 0)]
def tl_138 : List (Nat × xRow) := [(0, .aload_n 0, 0, 0, 0), (1, .getfield 49, 7, 18, 706), (4, .iload_n 1, 0, 0, 0), (5, .aload_n 0, 0, 0, 0), (6, .getfield 22, 7, 7, 695), (9, .iload_n 1, 0, 0, 0), (10, .iaload, 0, 0, 0), (11, .bipush 8, 0, 0, 0), (13, .if_icmp .ne 7, 20, 0, 0), (16, .iconst 0, 0, 0, 0), (17, .goto 14, 31, 0, 0), (20, .aload_n 0, 0, 0, 0), (21, .getfield 49, 7, 18, 706), (24, .aload_n 0, 0, 0, 0), (25, .getfield 22, 7, 7, 695), (28, .iload_n 1, 0, 0, 0), (29, .iaload, 0, 0, 0), (30, .iaload, 0, 0, 0), (31, .iastore, 0, 0, 0), (32, .iconst 0, 0, 0, 0), (33, .istore_n 3, 0, 0, 0), (34, .iload_n 3, 0, 0, 0), (35, .aload_n 0, 0, 0, 0), (36, .getfield 25, 7, 8, 696), (39, .iload_n 1, 0, 0, 0), (40, .iaload, 0, 0, 0), (41, .if_icmp .ge 90, 131, 0, 0), (44, .aload_n 0, 0, 0, 0), (45, .getfield 28, 7, 9, 697), (48, .iconst 2, 0, 0, 0), (49, .iload_n 1, 0, 0, 0), (50, .imul, 0, 0, 0), (51, .iload_n 3, 0, 0, 0), (52, .iadd, 0, 0, 0), (53, .iaload, 0, 0, 0), (54, .istore 4, 0, 0, 0), (56, .aload_n 0, 0, 0, 0), (57, .getfield 49, 7, 18, 706), (60, .iload_n 1, 0, 0, 0), (61, .iaload, 0, 0, 0), (62, .iload 4, 0, 0, 0), (64, .invokestatic 133, 121, 2, 848), (67, .ifCond .ne 58, 125, 0, 0), (70, .aload_n 0, 0, 0, 0), (71, .getfield 49, 7, 18, 706), (74, .iload_n 1, 0, 0, 0), (75, .iaload, 0, 0, 0), (76, .invokestatic 120, 118, 1, 837), (79, .iload_n 2, 0, 0, 0), (80, .if_icmp .ne 22, 102, 0, 0), (83, .aload_n 0, 0, 0, 0), (84, .iload_n 1, 0, 0, 0), (85, .aload_n 0, 0, 0, 0), (86, .getfield 49, 7, 18, 706), (89, .iload_n 1, 0, 0, 0), (90, .iaload, 0, 0, 0), (91, .aload_n 0, 0, 0, 0), (92, .iload_n 1, 0, 0, 0), (93, .invokevirtual 186, 139, 2, 919), (96, .iconst (-1), 0, 0, 0), (97, .ixor, 0, 0, 0), (98, .iand, 0, 0, 0), (99, .invokevirtual 189, 140, 3, 923), (102, .aload_n 0, 0, 0, 0), (103, .getfield 49, 7, 18, 706), (106, .iload_n 1, 0, 0, 0), (107, .dup2, 0, 0, 0), (108, .iaload, 0, 0, 0), (109, .iconst 1, 0, 0, 0), (110, .iload 4, 0, 0, 0), (112, .ishl, 0, 0, 0), (113, .ior, 0, 0, 0), (114, .iastore, 0, 0, 0), (115, .aload_n 0, 0, 0, 0), (116, .dup, 0, 0, 0), (117, .getfield 193, 7, 20, 708), (120, .iconst 1, 0, 0, 0), (121, .iadd, 0, 0, 0), (122, .putfield 193, 7, 20, 708), (125, .iinc 3 1, 0, 0, 0), (128, .goto (-94), 34, 0, 0), (131, .iconst 0, 0, 0, 0), (132, .istore_n 3, 0, 0, 0), (133, .iload_n 3, 0, 0, 0), (134, .aload_n 0, 0, 0, 0), (135, .getfield 74, 7, 5, 693), (138, .if_icmp .ge 38, 176, 0, 0), (141, .aload_n 0, 0, 0, 0), (142, .getfield 49, 7, 18, 706), (145, .iload_n 1, 0, 0, 0), (146, .dup2, 0, 0, 0), (147, .iaload, 0, 0, 0), (148, .aload_n 0, 0, 0, 0), (149, .iload_n 1, 0, 0, 0), (150, .iload_n 3, 0, 0, 0), (151, .invokevirtual 126, 116, 3, 829), (154, .bipush (-9), 0, 0, 0), (156, .if_icmp .ne 11, 167, 0, 0), (159, .iconst 1, 0, 0, 0), (160, .iload_n 3, 0, 0, 0), (161, .ishl, 0, 0, 0), (162, .iconst (-1), 0, 0, 0), (163, .ixor, 0, 0, 0), (164, .goto 4, 168, 0, 0), (167, .iconst (-1), 0, 0, 0), (168, .iand, 0, 0, 0), (169, .iastore, 0, 0, 0), (170, .iinc 3 1, 0, 0, 0), (173, .goto (-40), 133, 0, 0), (176, .aload_n 0, 0, 0, 0), (177, .getfield 49, 7, 18, 706), (180, .iload_n 1, 0, 0, 0), (181, .iaload, 0, 0, 0), (182, .invokestatic 120, 118, 1, 837), (185, .iload_n 2, 0, 0, 0), (186, .if_icmp .ne 14, 200, 0, 0), (189, .aload_n 0, 0, 0, 0), (190, .iload_n 1, 0, 0, 0), (191, .aload_n 0, 0, 0, 0), (192, .getfield 49, 7, 18, 706), (195, .iload_n 1, 0, 0, 0), (196, .iaload, 0, 0, 0), (197, .invokevirtual 189, 140, 3, 923), (200, .aload_n 0, 0, 0, 0), (201, .getfield 49, 7, 18, 706), (204, .iload_n 1, 0, 0, 0), (205, .dup2, 0, 0, 0), (206, .iaload, 0, 0, 0), (207, .iconst 1, 0, 0, 0), (208, .iload_n 1, 0, 0, 0), (209, .ishl, 0, 0, 0), (210, .ior, 0, 0, 0), (211, .iastore, 0, 0, 0), (212, .return_, 0, 0, 0)]
def tl_139 : List (Nat × xRow) := [(0, .iconst 0, 0, 0, 0), (1, .istore_n 2, 0, 0, 0), (2, .iconst 0, 0, 0, 0), (3, .istore_n 3, 0, 0, 0), (4, .iload_n 3, 0, 0, 0), (5, .aload_n 0, 0, 0, 0), (6, .getfield 25, 7, 8, 696), (9, .iload_n 1, 0, 0, 0), (10, .iaload, 0, 0, 0), (11, .if_icmp .ge 24, 35, 0, 0), (14, .iload_n 2, 0, 0, 0), (15, .iconst 1, 0, 0, 0), (16, .aload_n 0, 0, 0, 0), (17, .getfield 28, 7, 9, 697), (20, .iconst 2, 0, 0, 0), (21, .iload_n 1, 0, 0, 0), (22, .imul, 0, 0, 0), (23, .iload_n 3, 0, 0, 0), (24, .iadd, 0, 0, 0), (25, .iaload, 0, 0, 0), (26, .ishl, 0, 0, 0), (27, .ior, 0, 0, 0), (28, .istore_n 2, 0, 0, 0), (29, .iinc 3 1, 0, 0, 0), (32, .goto (-28), 4, 0, 0), (35, .iload_n 2, 0, 0, 0), (36, .ireturn, 0, 0, 0)]
def tl_140 : List (Nat × xRow) := [(0, .bipush (-9), 0, 0, 0), (2, .istore_n 3, 0, 0, 0), (3, .bipush (-9), 0, 0, 0), (5, .istore 4, 0, 0, 0), (7, .iconst 0, 0, 0, 0), (8, .istore 5, 0, 0, 0), (10, .iload 5, 0, 0, 0), (12, .aload_n 0, 0, 0, 0), (13, .getfield 74, 7, 5, 693), (16, .if_icmp .ge 74, 90, 0, 0), (19, .iload_n 2, 0, 0, 0), (20, .iload 5, 0, 0, 0), (22, .invokestatic 133, 121, 2, 848), (25, .ifCond .eq 59, 84, 0, 0), (28, .aload_n 0, 0, 0, 0), (29, .iload_n 1, 0, 0, 0), (30, .iload 5, 0, 0, 0), (32, .invokevirtual 126, 116, 3, 829), (35, .bipush (-9), 0, 0, 0), (37, .if_icmp .ne 8, 45, 0, 0), (40, .bipush 9, 0, 0, 0), (42, .goto 10, 52, 0, 0), (45, .aload_n 0, 0, 0, 0), (46, .iload_n 1, 0, 0, 0), (47, .iload 5, 0, 0, 0), (49, .invokevirtual 126, 116, 3, 829), (52, .istore 6, 0, 0, 0), (54, .iload 6, 0, 0, 0), (56, .iload 4, 0, 0, 0), (58, .if_icmp .lt 8, 66, 0, 0), (61, .iload 5, 0, 0, 0), (63, .goto 4, 67, 0, 0), (66, .iload_n 3, 0, 0, 0), (67, .istore_n 3, 0, 0, 0), (68, .iload 6, 0, 0, 0), (70, .iload 4, 0, 0, 0), (72, .if_icmp .lt 8, 80, 0, 0), (75, .iload 6, 0, 0, 0), (77, .goto 5, 82, 0, 0), (80, .iload 4, 0, 0, 0), (82, .istore 4, 0, 0, 0), (84, .iinc 5 1, 0, 0, 0), (87, .goto (-77), 10, 0, 0), (90, .aload_n 0, 0, 0, 0), (91, .getfield 49, 7, 18, 706), (94, .iload_n 1, 0, 0, 0), (95, .dup2, 0, 0, 0), (96, .iaload, 0, 0, 0), (97, .iconst 1, 0, 0, 0), (98, .iload_n 3, 0, 0, 0), (99, .ishl, 0, 0, 0), (100, .iconst (-1), 0, 0, 0), (101, .ixor, 0, 0, 0), (102, .iand, 0, 0, 0), (103, .iastore, 0, 0, 0), (104, .aload_n 0, 0, 0, 0), (105, .dup, 0, 0, 0), (106, .getfield 183, 7, 21, 709), (109, .iconst 1, 0, 0, 0), (110, .iadd, 0, 0, 0), (111, .putfield 183, 7, 21, 709), (114, .aload_n 0, 0, 0, 0), (115, .dup, 0, 0, 0), (116, .getfield 177, 7, 19, 707), (119, .iload 4, 0, 0, 0), (121, .bipush 8, 0, 0, 0), (123, .if_icmp .le 7, 130, 0, 0), (126, .iconst 0, 0, 0, 0), (127, .goto 6, 133, 0, 0), (130, .iconst 1, 0, 0, 0), (131, .iload_n 3, 0, 0, 0), (132, .ishl, 0, 0, 0), (133, .ior, 0, 0, 0), (134, .putfield 177, 7, 19, 707), (137, .return_, 0, 0, 0)]
def tl_141 : List (Nat × xRow) := [(0, .iconst 0, 0, 0, 0), (1, .istore_n 1, 0, 0, 0), (2, .iconst 0, 0, 0, 0), (3, .istore_n 2, 0, 0, 0), (4, .iload_n 2, 0, 0, 0), (5, .aload_n 0, 0, 0, 0), (6, .getfield 74, 7, 5, 693), (9, .if_icmp .ge 44, 53, 0, 0), (12, .iload_n 2, 0, 0, 0), (13, .iconst 1, 0, 0, 0), (14, .iadd, 0, 0, 0), (15, .istore_n 3, 0, 0, 0), (16, .iload_n 3, 0, 0, 0), (17, .aload_n 0, 0, 0, 0), (18, .getfield 74, 7, 5, 693), (21, .if_icmp .ge 26, 47, 0, 0), (24, .iload_n 1, 0, 0, 0), (25, .aload_n 0, 0, 0, 0), (26, .iload_n 2, 0, 0, 0), (27, .iload_n 3, 0, 0, 0), (28, .invokevirtual 136, 123, 3, 855), (31, .ifCond .eq 7, 38, 0, 0), (34, .iconst 1, 0, 0, 0), (35, .goto 4, 39, 0, 0), (38, .iconst 0, 0, 0, 0), (39, .iadd, 0, 0, 0), (40, .istore_n 1, 0, 0, 0), (41, .iinc 3 1, 0, 0, 0), (44, .goto (-28), 16, 0, 0), (47, .iinc 2 1, 0, 0, 0), (50, .goto (-46), 4, 0, 0), (53, .iload_n 1, 0, 0, 0), (54, .ireturn, 0, 0, 0)]
def tl_142 : List (Nat × xRow) := [(0, .aload_n 0, 0, 0, 0), (1, .iload_n 1, 0, 0, 0), (2, .invokevirtual 142, 113, 2, 817), (5, .ifCond .eq 33, 38, 0, 0), (8, .aload_n 0, 0, 0, 0), (9, .iload_n 2, 0, 0, 0), (10, .invokevirtual 142, 113, 2, 817), (13, .ifCond .eq 25, 38, 0, 0), (16, .iload_n 1, 0, 0, 0), (17, .iload_n 2, 0, 0, 0), (18, .if_icmp .eq 20, 38, 0, 0), (21, .aload_n 0, 0, 0, 0), (22, .iload_n 1, 0, 0, 0), (23, .iload_n 2, 0, 0, 0), (24, .invokevirtual 136, 123, 3, 855), (27, .ifCond .eq 7, 34, 0, 0), (30, .iconst 1, 0, 0, 0), (31, .goto 8, 39, 0, 0), (34, .iconst 0, 0, 0, 0), (35, .goto 4, 39, 0, 0), (38, .iconst (-1), 0, 0, 0), (39, .ireturn, 0, 0, 0)]
def tl_143 : List (Nat × xRow) := [(0, .iload_n 1, 0, 0, 0), (1, .iconst 0, 0, 0, 0), (2, .iconst 2, 0, 0, 0), (3, .invokestatic 70, 104, 3, 783), (6, .ifCond .ne 6, 12, 0, 0), (9, .bipush (-2), 0, 0, 0), (11, .ireturn, 0, 0, 0), (12, .aload_n 0, 0, 0, 0), (13, .getfield 74, 7, 5, 693), (16, .ifCond .ne 6, 22, 0, 0), (19, .bipush (-3), 0, 0, 0), (21, .ireturn, 0, 0, 0), (22, .iload_n 1, 0, 0, 0), (23, .ifCond .ne 10, 33, 0, 0), (26, .aload_n 0, 0, 0, 0), (27, .invokevirtual 166, 135, 1, 903), (30, .goto 19, 49, 0, 0), (33, .iload_n 1, 0, 0, 0), (34, .iconst 1, 0, 0, 0), (35, .if_icmp .ne 10, 45, 0, 0), (38, .aload_n 0, 0, 0, 0), (39, .invokevirtual 170, 136, 1, 907), (42, .goto 7, 49, 0, 0), (45, .aload_n 0, 0, 0, 0), (46, .invokevirtual 180, 141, 1, 927), (49, .ireturn, 0, 0, 0)]
def tl_144 : List (Nat × xRow) := [(0, .aload_n 0, 0, 0, 0), (1, .iload_n 1, 0, 0, 0), (2, .invokevirtual 142, 113, 2, 817), (5, .ifCond .eq 11, 16, 0, 0), (8, .aload_n 0, 0, 0, 0), (9, .iload_n 2, 0, 0, 0), (10, .invokevirtual 142, 113, 2, 817), (13, .ifCond .ne 5, 18, 0, 0), (16, .iconst (-1), 0, 0, 0), (17, .ireturn, 0, 0, 0), (18, .aload_n 0, 0, 0, 0), (19, .iload_n 2, 0, 0, 0), (20, .iload_n 1, 0, 0, 0), (21, .invokevirtual 123, 115, 3, 825), (24, .ifCond .ne 6, 30, 0, 0), (27, .bipush (-3), 0, 0, 0), (29, .ireturn, 0, 0, 0), (30, .aload_n 0, 0, 0, 0), (31, .iload_n 2, 0, 0, 0), (32, .iload_n 1, 0, 0, 0), (33, .invokevirtual 114, 117, 3, 833), (36, .ifCond .eq 7, 43, 0, 0), (39, .iconst 0, 0, 0, 0), (40, .goto 9, 49, 0, 0), (43, .aload_n 0, 0, 0, 0), (44, .iload_n 2, 0, 0, 0), (45, .iload_n 1, 0, 0, 0), (46, .invokevirtual 126, 116, 3, 829), (49, .ireturn, 0, 0, 0)]
def tl_145 : List (Nat × xRow) := [(0, .iload_n 1, 0, 0, 0), (1, .iconst 3, 0, 0, 0), (2, .bipush 8, 0, 0, 0), (4, .invokestatic 70, 104, 3, 783), (7, .ifCond .eq 23, 30, 0, 0), (10, .iload_n 2, 0, 0, 0), (11, .iconst 0, 0, 0, 0), (12, .iconst 2, 0, 0, 0), (13, .invokestatic 70, 104, 3, 783), (16, .ifCond .ne 17, 33, 0, 0), (19, .iload_n 2, 0, 0, 0), (20, .bipush 10, 0, 0, 0), (22, .bipush 17, 0, 0, 0), (24, .invokestatic 70, 104, 3, 783), (27, .ifCond .ne 6, 33, 0, 0), (30, .bipush (-2), 0, 0, 0), (32, .ireturn, 0, 0, 0), (33, .aload_n 0, 0, 0, 0), (34, .getfield 74, 7, 5, 693), (37, .ifCond .ne 6, 43, 0, 0), (40, .bipush (-3), 0, 0, 0), (42, .ireturn, 0, 0, 0), (43, .aload_n 0, 0, 0, 0), (44, .iload_n 1, 0, 0, 0), (45, .invokevirtual 173, 137, 2, 911), (48, .iload_n 2, 0, 0, 0), (49, .bipush 10, 0, 0, 0), (51, .if_icmp .lt 29, 80, 0, 0), (54, .aload_n 0, 0, 0, 0), (55, .iload_n 2, 0, 0, 0), (56, .bipush 10, 0, 0, 0), (58, .isub, 0, 0, 0), (59, .invokevirtual 142, 113, 2, 817), (62, .ifCond .eq 15, 77, 0, 0), (65, .aload_n 0, 0, 0, 0), (66, .getfield 49, 7, 18, 706), (69, .iload_n 2, 0, 0, 0), (70, .bipush 10, 0, 0, 0), (72, .isub, 0, 0, 0), (73, .iaload, 0, 0, 0), (74, .goto 5, 79, 0, 0), (77, .bipush (-9), 0, 0, 0), (79, .ireturn, 0, 0, 0), (80, .iload_n 2, 0, 0, 0), (81, .ifCond .ne 10, 91, 0, 0), (84, .aload_n 0, 0, 0, 0), (85, .getfield 177, 7, 19, 707), (88, .goto 19, 107, 0, 0), (91, .iload_n 2, 0, 0, 0), (92, .iconst 1, 0, 0, 0), (93, .if_icmp .ne 10, 103, 0, 0), (96, .aload_n 0, 0, 0, 0), (97, .getfield 193, 7, 20, 708), (100, .goto 7, 107, 0, 0), (103, .aload_n 0, 0, 0, 0), (104, .getfield 183, 7, 21, 709), (107, .ireturn, 0, 0, 0)]
def tl_146 : List (Nat × xRow) := [(0, .aload_n 0, 0, 0, 0), (1, .iconst 0, 0, 0, 0), (2, .putfield 64, 7, 0, 688), (5, .iload_n 1, 0, 0, 0), (6, .invokestatic 80, 103, 1, 780), (9, .ifCond .ne 5, 14, 0, 0), (12, .iconst (-1), 0, 0, 0), (13, .ireturn, 0, 0, 0), (14, .iload_n 2, 0, 0, 0), (15, .invokestatic 84, 105, 1, 786), (18, .ifCond .eq 36, 54, 0, 0), (21, .iload 4, 0, 0, 0), (23, .iconst 0, 0, 0, 0), (24, .bipush 8, 0, 0, 0), (26, .invokestatic 70, 104, 3, 783), (29, .ifCond .eq 25, 54, 0, 0), (32, .iload 5, 0, 0, 0), (34, .iconst 0, 0, 0, 0), (35, .iconst 1, 0, 0, 0), (36, .invokestatic 70, 104, 3, 783), (39, .ifCond .ne 18, 57, 0, 0), (42, .iload 5, 0, 0, 0), (44, .bipush 10, 0, 0, 0), (46, .bipush 29, 0, 0, 0), (48, .invokestatic 70, 104, 3, 783), (51, .ifCond .ne 6, 57, 0, 0), (54, .bipush (-2), 0, 0, 0), (56, .ireturn, 0, 0, 0), (57, .aload_n 0, 0, 0, 0), (58, .iload_n 1, 0, 0, 0), (59, .iload_n 2, 0, 0, 0), (60, .iload_n 3, 0, 0, 0), (61, .iload 4, 0, 0, 0), (63, .invokevirtual 87, 106, 5, 789), (66, .istore 6, 0, 0, 0), (68, .iload 6, 0, 0, 0), (70, .ifCond .eq 10, 80, 0, 0), (73, .aload_n 0, 0, 0, 0), (74, .iload 6, 0, 0, 0), (76, .invokevirtual 91, 107, 2, 793), (79, .ireturn, 0, 0, 0), (80, .iconst 0, 0, 0, 0), (81, .istore 7, 0, 0, 0), (83, .iload 7, 0, 0, 0), (85, .iload 4, 0, 0, 0), (87, .if_icmp .ge 51, 138, 0, 0), (90, .aload_n 0, 0, 0, 0), (91, .getfield 52, 7, 22, 710), (94, .iload 7, 0, 0, 0), (96, .aload_n 0, 0, 0, 0), (97, .getfield 16, 7, 4, 692), (100, .bipush 60, 0, 0, 0), (102, .iload_n 1, 0, 0, 0), (103, .imul, 0, 0, 0), (104, .iload_n 3, 0, 0, 0), (105, .iadd, 0, 0, 0), (106, .iload 7, 0, 0, 0), (108, .iadd, 0, 0, 0), (109, .iaload, 0, 0, 0), (110, .iastore, 0, 0, 0), (111, .aload_n 0, 0, 0, 0), (112, .getfield 52, 7, 22, 710), (115, .iload 7, 0, 0, 0), (117, .iaload, 0, 0, 0), (118, .iconst 0, 0, 0, 0), (119, .iload 4, 0, 0, 0), (121, .iconst 1, 0, 0, 0), (122, .isub, 0, 0, 0), (123, .invokestatic 70, 104, 3, 783), (126, .ifCond .ne 6, 132, 0, 0), (129, .bipush (-2), 0, 0, 0), (131, .ireturn, 0, 0, 0), (132, .iinc 7 1, 0, 0, 0), (135, .goto (-52), 83, 0, 0), (138, .aload_n 0, 0, 0, 0), (139, .iload 4, 0, 0, 0), (141, .invokevirtual 208, 147, 2, 951), (144, .iload 5, 0, 0, 0), (146, .ifCond .ne 10, 156, 0, 0), (149, .aload_n 0, 0, 0, 0), (150, .getfield 199, 7, 24, 712), (153, .goto 43, 196, 0, 0), (156, .iload 5, 0, 0, 0), (158, .iconst 1, 0, 0, 0), (159, .if_icmp .ne 10, 169, 0, 0), (162, .aload_n 0, 0, 0, 0), (163, .getfield 202, 7, 25, 713), (166, .goto 30, 196, 0, 0), (169, .iload 5, 0, 0, 0), (171, .bipush 10, 0, 0, 0), (173, .isub, 0, 0, 0), (174, .aload_n 0, 0, 0, 0), (175, .getfield 199, 7, 24, 712), (178, .if_icmp .ge 16, 194, 0, 0), (181, .aload_n 0, 0, 0, 0), (182, .getfield 55, 7, 23, 711), (185, .iload 5, 0, 0, 0), (187, .bipush 10, 0, 0, 0), (189, .isub, 0, 0, 0), (190, .iaload, 0, 0, 0), (191, .goto 5, 196, 0, 0), (194, .bipush (-9), 0, 0, 0), (196, .ireturn, 0, 0, 0)]
def tl_147 : List (Nat × xRow) := [(0, .aload_n 0, 0, 0, 0), (1, .iconst 0, 0, 0, 0), (2, .putfield 199, 7, 24, 712), (5, .aload_n 0, 0, 0, 0), (6, .iconst 0, 0, 0, 0), (7, .putfield 202, 7, 25, 713), (10, .iconst 1, 0, 0, 0), (11, .istore_n 2, 0, 0, 0), (12, .iload_n 2, 0, 0, 0), (13, .ifCond .eq 235, 248, 0, 0), (16, .bipush (-9), 0, 0, 0), (18, .istore_n 3, 0, 0, 0), (19, .bipush (-9), 0, 0, 0), (21, .istore 4, 0, 0, 0), (23, .iload_n 1, 0, 0, 0), (24, .iconst 1, 0, 0, 0), (25, .isub, 0, 0, 0), (26, .istore 5, 0, 0, 0), (28, .iload 5, 0, 0, 0), (30, .ifCond .lt 64, 94, 0, 0), (33, .aload_n 0, 0, 0, 0), (34, .getfield 52, 7, 22, 710), (37, .iload 5, 0, 0, 0), (39, .iaload, 0, 0, 0), (40, .iload 5, 0, 0, 0), (42, .if_icmp .eq 7, 49, 0, 0), (45, .iconst 1, 0, 0, 0), (46, .goto 4, 50, 0, 0), (49, .iconst 0, 0, 0, 0), (50, .istore 6, 0, 0, 0), (52, .iload 6, 0, 0, 0), (54, .ifCond .eq 8, 62, 0, 0), (57, .iload 5, 0, 0, 0), (59, .goto 5, 64, 0, 0), (62, .iload 4, 0, 0, 0), (64, .istore 4, 0, 0, 0), (66, .iload 6, 0, 0, 0), (68, .ifCond .eq 18, 86, 0, 0), (71, .aload_n 0, 0, 0, 0), (72, .iload 5, 0, 0, 0), (74, .iload_n 1, 0, 0, 0), (75, .invokevirtual 205, 148, 3, 955), (78, .ifCond .ne 8, 86, 0, 0), (81, .iload 5, 0, 0, 0), (83, .goto 4, 87, 0, 0), (86, .iload_n 3, 0, 0, 0), (87, .istore_n 3, 0, 0, 0), (88, .iinc 5 (-1), 0, 0, 0), (91, .goto (-63), 28, 0, 0), (94, .iload 4, 0, 0, 0), (96, .bipush (-9), 0, 0, 0), (98, .if_icmp .eq 7, 105, 0, 0), (101, .iconst 1, 0, 0, 0), (102, .goto 4, 106, 0, 0), (105, .iconst 0, 0, 0, 0), (106, .istore_n 2, 0, 0, 0), (107, .iload_n 3, 0, 0, 0), (108, .bipush (-9), 0, 0, 0), (110, .if_icmp .eq 43, 153, 0, 0), (113, .aload_n 0, 0, 0, 0), (114, .getfield 55, 7, 23, 711), (117, .aload_n 0, 0, 0, 0), (118, .getfield 199, 7, 24, 712), (121, .bipush 10, 0, 0, 0), (123, .iload_n 3, 0, 0, 0), (124, .imul, 0, 0, 0), (125, .aload_n 0, 0, 0, 0), (126, .getfield 52, 7, 22, 710), (129, .iload_n 3, 0, 0, 0), (130, .iaload, 0, 0, 0), (131, .iadd, 0, 0, 0), (132, .iastore, 0, 0, 0), (133, .aload_n 0, 0, 0, 0), (134, .getfield 52, 7, 22, 710), (137, .iload_n 3, 0, 0, 0), (138, .iload_n 3, 0, 0, 0), (139, .iastore, 0, 0, 0), (140, .aload_n 0, 0, 0, 0), (141, .dup, 0, 0, 0), (142, .getfield 199, 7, 24, 712), (145, .iconst 1, 0, 0, 0), (146, .iadd, 0, 0, 0), (147, .putfield 199, 7, 24, 712), (150, .goto 95, 245, 0, 0), (153, .iload_n 2, 0, 0, 0), (154, .ifCond .eq 91, 245, 0, 0), (157, .aload_n 0, 0, 0, 0), (158, .getfield 55, 7, 23, 711), (161, .aload_n 0, 0, 0, 0), (162, .getfield 199, 7, 24, 712), (165, .bipush 10, 0, 0, 0), (167, .iload_n 1, 0, 0, 0), (168, .imul, 0, 0, 0), (169, .iload 4, 0, 0, 0), (171, .iadd, 0, 0, 0), (172, .iastore, 0, 0, 0), (173, .aload_n 0, 0, 0, 0), (174, .dup, 0, 0, 0), (175, .getfield 199, 7, 24, 712), (178, .iconst 1, 0, 0, 0), (179, .iadd, 0, 0, 0), (180, .putfield 199, 7, 24, 712), (183, .aload_n 0, 0, 0, 0), (184, .dup, 0, 0, 0), (185, .getfield 202, 7, 25, 713), (188, .iconst 1, 0, 0, 0), (189, .iadd, 0, 0, 0), (190, .putfield 202, 7, 25, 713), (193, .iconst 0, 0, 0, 0), (194, .istore 5, 0, 0, 0), (196, .iload 5, 0, 0, 0), (198, .iload_n 1, 0, 0, 0), (199, .if_icmp .ge 46, 245, 0, 0), (202, .aload_n 0, 0, 0, 0), (203, .getfield 52, 7, 22, 710), (206, .iload 5, 0, 0, 0), (208, .iload 5, 0, 0, 0), (210, .iload 4, 0, 0, 0), (212, .if_icmp .eq 19, 231, 0, 0), (215, .aload_n 0, 0, 0, 0), (216, .getfield 52, 7, 22, 710), (219, .iload 5, 0, 0, 0), (221, .iaload, 0, 0, 0), (222, .iload 4, 0, 0, 0), (224, .if_icmp .ne 7, 231, 0, 0), (227, .iload_n 1, 0, 0, 0), (228, .goto 10, 238, 0, 0), (231, .aload_n 0, 0, 0, 0), (232, .getfield 52, 7, 22, 710), (235, .iload 5, 0, 0, 0), (237, .iaload, 0, 0, 0), (238, .iastore, 0, 0, 0), (239, .iinc 5 1, 0, 0, 0), (242, .goto (-46), 196, 0, 0), (245, .goto (-233), 12, 0, 0), (248, .return_, 0, 0, 0)]
def tl_148 : List (Nat × xRow) := [(0, .iconst 0, 0, 0, 0), (1, .istore_n 3, 0, 0, 0), (2, .iload_n 3, 0, 0, 0), (3, .iload_n 2, 0, 0, 0), (4, .if_icmp .ge 26, 30, 0, 0), (7, .iload_n 3, 0, 0, 0), (8, .iload_n 1, 0, 0, 0), (9, .if_icmp .eq 15, 24, 0, 0), (12, .aload_n 0, 0, 0, 0), (13, .getfield 52, 7, 22, 710), (16, .iload_n 3, 0, 0, 0), (17, .iaload, 0, 0, 0), (18, .iload_n 1, 0, 0, 0), (19, .if_icmp .ne 5, 24, 0, 0), (22, .iconst 1, 0, 0, 0), (23, .ireturn, 1, 0, 0), (24, .iinc 3 1, 0, 0, 0), (27, .goto (-25), 2, 0, 0), (30, .iconst 0, 0, 0, 0), (31, .ireturn, 1, 0, 0)]
def tl_149 : List (Nat × xRow) := [(0, .aload_n 0, 0, 0, 0), (1, .iload_n 1, 0, 0, 0), (2, .invokevirtual 142, 113, 2, 817), (5, .ifCond .ne 5, 10, 0, 0), (8, .iconst (-1), 0, 0, 0), (9, .ireturn, 0, 0, 0), (10, .iload_n 2, 0, 0, 0), (11, .iconst 0, 0, 0, 0), (12, .bipush 20, 0, 0, 0), (14, .invokestatic 70, 104, 3, 783), (17, .ifCond .ne 6, 23, 0, 0), (20, .bipush (-2), 0, 0, 0), (22, .ireturn, 0, 0, 0), (23, .aload_n 0, 0, 0, 0), (24, .getfield 101, 7, 26, 714), (27, .bipush 8, 0, 0, 0), (29, .if_icmp .ne 6, 35, 0, 0), (32, .bipush (-4), 0, 0, 0), (34, .ireturn, 0, 0, 0), (35, .aload_n 0, 0, 0, 0), (36, .getfield 58, 7, 27, 715), (39, .aload_n 0, 0, 0, 0), (40, .getfield 101, 7, 26, 714), (43, .iload_n 1, 0, 0, 0), (44, .iastore, 0, 0, 0), (45, .aload_n 0, 0, 0, 0), (46, .getfield 61, 7, 28, 716), (49, .aload_n 0, 0, 0, 0), (50, .getfield 101, 7, 26, 714), (53, .iload_n 2, 0, 0, 0), (54, .iastore, 0, 0, 0), (55, .aload_n 0, 0, 0, 0), (56, .dup, 0, 0, 0), (57, .getfield 101, 7, 26, 714), (60, .iconst 1, 0, 0, 0), (61, .iadd, 0, 0, 0), (62, .putfield 101, 7, 26, 714), (65, .aload_n 0, 0, 0, 0), (66, .getfield 101, 7, 26, 714), (69, .iconst 1, 0, 0, 0), (70, .isub, 0, 0, 0), (71, .ireturn, 0, 0, 0)]
def tl_150 : List (Nat × xRow) := [(0, .iload_n 1, 0, 0, 0), (1, .iconst 0, 0, 0, 0), (2, .aload_n 0, 0, 0, 0), (3, .getfield 101, 7, 26, 714), (6, .invokestatic 70, 104, 3, 783), (9, .ifCond .ne 6, 15, 0, 0), (12, .bipush (-2), 0, 0, 0), (14, .ireturn, 0, 0, 0), (15, .aload_n 0, 0, 0, 0), (16, .dup, 0, 0, 0), (17, .getfield 101, 7, 26, 714), (20, .iload_n 1, 0, 0, 0), (21, .isub, 0, 0, 0), (22, .putfield 101, 7, 26, 714), (25, .aload_n 0, 0, 0, 0), (26, .getfield 101, 7, 26, 714), (29, .ireturn, 0, 0, 0)]
def tl_151 : List (Nat × xRow) := [(0, .aload_n 0, 0, 0, 0), (1, .iload_n 1, 0, 0, 0), (2, .invokevirtual 142, 113, 2, 817), (5, .ifCond .ne 5, 10, 0, 0), (8, .iconst (-1), 0, 0, 0), (9, .ireturn, 0, 0, 0), (10, .aload_n 0, 0, 0, 0), (11, .getfield 19, 7, 6, 694), (14, .iload_n 1, 0, 0, 0), (15, .iaload, 0, 0, 0), (16, .istore_n 2, 0, 0, 0), (17, .iconst 0, 0, 0, 0), (18, .istore_n 3, 0, 0, 0), (19, .iconst 0, 0, 0, 0), (20, .istore 4, 0, 0, 0), (22, .iload 4, 0, 0, 0), (24, .iconst 3, 0, 0, 0), (25, .if_icmp .ge 35, 60, 0, 0), (28, .aload_n 0, 0, 0, 0), (29, .getfield 19, 7, 6, 694), (32, .iload_n 1, 0, 0, 0), (33, .iload 4, 0, 0, 0), (35, .iastore, 0, 0, 0), (36, .iload_n 3, 0, 0, 0), (37, .aload_n 0, 0, 0, 0), (38, .invokevirtual 211, 152, 1, 971), (41, .ifCond .eq 10, 51, 0, 0), (44, .iconst 1, 0, 0, 0), (45, .iload 4, 0, 0, 0), (47, .ishl, 0, 0, 0), (48, .goto 4, 52, 0, 0), (51, .iconst 0, 0, 0, 0), (52, .ior, 0, 0, 0), (53, .istore_n 3, 0, 0, 0), (54, .iinc 4 1, 0, 0, 0), (57, .goto (-35), 22, 0, 0), (60, .aload_n 0, 0, 0, 0), (61, .getfield 19, 7, 6, 694), (64, .iload_n 1, 0, 0, 0), (65, .iload_n 2, 0, 0, 0), (66, .iastore, 0, 0, 0), (67, .iload_n 3, 0, 0, 0), (68, .ireturn, 0, 0, 0)]
def tl_152 : List (Nat × xRow) := [(0, .iconst 0, 0, 0, 0), (1, .istore_n 1, 0, 0, 0), (2, .iload_n 1, 0, 0, 0), (3, .aload_n 0, 0, 0, 0), (4, .getfield 101, 7, 26, 714), (7, .if_icmp .ge 30, 37, 0, 0), (10, .aload_n 0, 0, 0, 0), (11, .aload_n 0, 0, 0, 0), (12, .getfield 58, 7, 27, 715), (15, .iload_n 1, 0, 0, 0), (16, .iaload, 0, 0, 0), (17, .invokevirtual 151, 125, 2, 863), (20, .aload_n 0, 0, 0, 0), (21, .getfield 61, 7, 28, 716), (24, .iload_n 1, 0, 0, 0), (25, .iaload, 0, 0, 0), (26, .if_icmp .eq 5, 31, 0, 0), (29, .iconst 0, 0, 0, 0), (30, .ireturn, 1, 0, 0), (31, .iinc 1 1, 0, 0, 0), (34, .goto (-32), 2, 0, 0), (37, .iconst 1, 0, 0, 0), (38, .ireturn, 1, 0, 0)]
def tl_153 : List (Nat × xRow) := [(0, .aload_n 0, 0, 0, 0), (1, .iload_n 1, 0, 0, 0), (2, .invokevirtual 142, 113, 2, 817), (5, .ifCond .ne 5, 10, 0, 0), (8, .iconst (-1), 0, 0, 0), (9, .ireturn, 0, 0, 0), (10, .aload_n 0, 0, 0, 0), (11, .getfield 25, 7, 8, 696), (14, .iload_n 1, 0, 0, 0), (15, .iaload, 0, 0, 0), (16, .ifCond .ne 6, 22, 0, 0), (19, .bipush (-3), 0, 0, 0), (21, .ireturn, 0, 0, 0), (22, .aload_n 0, 0, 0, 0), (23, .getfield 28, 7, 9, 697), (26, .iconst 2, 0, 0, 0), (27, .iload_n 1, 0, 0, 0), (28, .imul, 0, 0, 0), (29, .iaload, 0, 0, 0), (30, .istore_n 2, 0, 0, 0), (31, .iconst 0, 0, 0, 0), (32, .istore_n 3, 0, 0, 0), (33, .iconst 0, 0, 0, 0), (34, .istore 4, 0, 0, 0), (36, .iload 4, 0, 0, 0), (38, .aload_n 0, 0, 0, 0), (39, .getfield 74, 7, 5, 693), (42, .if_icmp .ge 48, 90, 0, 0), (45, .aload_n 0, 0, 0, 0), (46, .iload_n 1, 0, 0, 0), (47, .iconst 0, 0, 0, 0), (48, .iload 4, 0, 0, 0), (50, .invokevirtual 154, 128, 4, 875), (53, .ifCond .eq 31, 84, 0, 0), (56, .aload_n 0, 0, 0, 0), (57, .getfield 28, 7, 9, 697), (60, .iconst 2, 0, 0, 0), (61, .iload_n 1, 0, 0, 0), (62, .imul, 0, 0, 0), (63, .iload 4, 0, 0, 0), (65, .iastore, 0, 0, 0), (66, .iload_n 3, 0, 0, 0), (67, .aload_n 0, 0, 0, 0), (68, .invokevirtual 211, 152, 1, 971), (71, .ifCond .eq 10, 81, 0, 0), (74, .iconst 1, 0, 0, 0), (75, .iload 4, 0, 0, 0), (77, .ishl, 0, 0, 0), (78, .goto 4, 82, 0, 0), (81, .iconst 0, 0, 0, 0), (82, .ior, 0, 0, 0), (83, .istore_n 3, 0, 0, 0), (84, .iinc 4 1, 0, 0, 0), (87, .goto (-51), 36, 0, 0), (90, .aload_n 0, 0, 0, 0), (91, .getfield 28, 7, 9, 697), (94, .iconst 2, 0, 0, 0), (95, .iload_n 1, 0, 0, 0), (96, .imul, 0, 0, 0), (97, .iload_n 2, 0, 0, 0), (98, .iastore, 0, 0, 0), (99, .iload_n 3, 0, 0, 0), (100, .ireturn, 0, 0, 0)]
def tl_154 : List (Nat × xRow) := [(0, .iload_n 1, 0, 0, 0), (1, .iconst 0, 0, 0, 0), (2, .iconst 1, 0, 0, 0), (3, .invokestatic 70, 104, 3, 783), (6, .ifCond .eq 11, 17, 0, 0), (9, .aload_n 0, 0, 0, 0), (10, .getfield 74, 7, 5, 693), (13, .iconst 2, 0, 0, 0), (14, .if_icmp .ge 7, 21, 0, 0), (17, .ldc2_w 68, 9223372036854775808, 0, 983), (20, .lreturn, 0, 0, 0), (21, .aload_n 0, 0, 0, 0), (22, .invokevirtual 180, 141, 1, 927), (25, .i2l, 0, 0, 0), (26, .aload_n 0, 0, 0, 0), (27, .getfield 74, 7, 5, 693), (30, .aload_n 0, 0, 0, 0), (31, .getfield 74, 7, 5, 693), (34, .iconst 1, 0, 0, 0), (35, .isub, 0, 0, 0), (36, .imul, 0, 0, 0), (37, .iconst 2, 0, 0, 0), (38, .idiv, 0, 0, 0), (39, .i2l, 0, 0, 0), (40, .iload_n 1, 0, 0, 0), (41, .invokestatic 215, 155, 3, 984), (44, .lreturn, 0, 0, 0)]
def tl_155 : List (Nat × xRow) := [(0, .lload_n 0, 0, 0, 0), (1, .lstore 5, 0, 0, 0), (3, .lload_n 2, 0, 0, 0), (4, .lstore 7, 0, 0, 0), (6, .lload 7, 0, 0, 0), (8, .lconst 0, 0, 0, 0), (9, .lcmp, 0, 0, 0), (10, .ifCond .eq 21, 31, 0, 0), (13, .lload 5, 0, 0, 0), (15, .lload 7, 0, 0, 0), (17, .lrem, 0, 0, 0), (18, .lstore 9, 0, 0, 0), (20, .lload 7, 0, 0, 0), (22, .lstore 5, 0, 0, 0), (24, .lload 9, 0, 0, 0), (26, .lstore 7, 0, 0, 0), (28, .goto (-22), 6, 0, 0), (31, .iload 4, 0, 0, 0), (33, .ifCond .ne 10, 43, 0, 0), (36, .lload_n 0, 0, 0, 0), (37, .lload 5, 0, 0, 0), (39, .ldiv, 0, 0, 0), (40, .goto 7, 47, 0, 0), (43, .lload_n 2, 0, 0, 0), (44, .lload 5, 0, 0, 0), (46, .ldiv, 0, 0, 0), (47, .lreturn, 0, 0, 0)]
def tl_156 : List (Nat × xRow) := [(0, .aload_n 0, 0, 0, 0), (1, .iconst 0, 0, 0, 0), (2, .putfield 64, 7, 0, 688), (5, .iload_n 1, 0, 0, 0), (6, .invokestatic 80, 103, 1, 780), (9, .ifCond .ne 5, 14, 0, 0), (12, .iconst (-1), 0, 0, 0), (13, .ireturn, 0, 0, 0), (14, .iload_n 2, 0, 0, 0), (15, .invokestatic 84, 105, 1, 786), (18, .ifCond .eq 9, 27, 0, 0), (21, .iload_n 3, 0, 0, 0), (22, .bipush 60, 0, 0, 0), (24, .if_icmp .le 6, 30, 0, 0), (27, .bipush (-2), 0, 0, 0), (29, .ireturn, 0, 0, 0), (30, .iload_n 3, 0, 0, 0), (31, .ifCond .ge 9, 40, 0, 0), (34, .aload_n 0, 0, 0, 0), (35, .iconst 4, 0, 0, 0), (36, .invokevirtual 91, 107, 2, 793), (39, .ireturn, 0, 0, 0), (40, .aload_n 0, 0, 0, 0), (41, .getfield 9, 7, 2, 690), (44, .iload_n 1, 0, 0, 0), (45, .iload_n 2, 0, 0, 0), (46, .iastore, 0, 0, 0), (47, .aload_n 0, 0, 0, 0), (48, .getfield 13, 7, 3, 691), (51, .iload_n 1, 0, 0, 0), (52, .iload_n 3, 0, 0, 0), (53, .iastore, 0, 0, 0), (54, .iconst 0, 0, 0, 0), (55, .istore 4, 0, 0, 0), (57, .iload 4, 0, 0, 0), (59, .bipush 60, 0, 0, 0), (61, .if_icmp .ge 22, 83, 0, 0), (64, .aload_n 0, 0, 0, 0), (65, .getfield 16, 7, 4, 692), (68, .bipush 60, 0, 0, 0), (70, .iload_n 1, 0, 0, 0), (71, .imul, 0, 0, 0), (72, .iload 4, 0, 0, 0), (74, .iadd, 0, 0, 0), (75, .iconst 0, 0, 0, 0), (76, .iastore, 0, 0, 0), (77, .iinc 4 1, 0, 0, 0), (80, .goto (-23), 57, 0, 0), (83, .iconst 1, 0, 0, 0), (84, .ireturn, 0, 0, 0)]
def tl_157 : List (Nat × xRow) := [(0, .iload_n 1, 0, 0, 0), (1, .invokestatic 80, 103, 1, 780), (4, .ifCond .ne 5, 9, 0, 0), (7, .iconst (-1), 0, 0, 0), (8, .ireturn, 0, 0, 0), (9, .aload_n 0, 0, 0, 0), (10, .getfield 9, 7, 2, 690), (13, .iload_n 1, 0, 0, 0), (14, .iaload, 0, 0, 0), (15, .bipush (-9), 0, 0, 0), (17, .if_icmp .ne 7, 24, 0, 0), (20, .iconst 0, 0, 0, 0), (21, .goto 4, 25, 0, 0), (24, .iconst 1, 0, 0, 0), (25, .istore_n 2, 0, 0, 0), (26, .aload_n 0, 0, 0, 0), (27, .getfield 9, 7, 2, 690), (30, .iload_n 1, 0, 0, 0), (31, .bipush (-9), 0, 0, 0), (33, .iastore, 0, 0, 0), (34, .iload_n 2, 0, 0, 0), (35, .ireturn, 0, 0, 0)]
def tl_158 : List (Nat × xRow) := [(0, .aload_n 0, 0, 0, 0), (1, .iconst 0, 0, 0, 0), (2, .putfield 64, 7, 0, 688), (5, .iload_n 1, 0, 0, 0), (6, .invokestatic 80, 103, 1, 780), (9, .ifCond .ne 5, 14, 0, 0), (12, .iconst (-1), 0, 0, 0), (13, .ireturn, 0, 0, 0), (14, .aload_n 0, 0, 0, 0), (15, .getfield 9, 7, 2, 690), (18, .iload_n 1, 0, 0, 0), (19, .iaload, 0, 0, 0), (20, .bipush (-9), 0, 0, 0), (22, .if_icmp .ne 9, 31, 0, 0), (25, .aload_n 0, 0, 0, 0), (26, .iconst 1, 0, 0, 0), (27, .invokevirtual 91, 107, 2, 793), (30, .ireturn, 0, 0, 0), (31, .iload_n 2, 0, 0, 0), (32, .iconst 0, 0, 0, 0), (33, .aload_n 0, 0, 0, 0), (34, .getfield 13, 7, 3, 691), (37, .iload_n 1, 0, 0, 0), (38, .iaload, 0, 0, 0), (39, .iconst 1, 0, 0, 0), (40, .isub, 0, 0, 0), (41, .invokestatic 70, 104, 3, 783), (44, .ifCond .ne 9, 53, 0, 0), (47, .aload_n 0, 0, 0, 0), (48, .iconst 3, 0, 0, 0), (49, .invokevirtual 91, 107, 2, 793), (52, .ireturn, 0, 0, 0), (53, .aload_n 0, 0, 0, 0), (54, .getfield 16, 7, 4, 692), (57, .bipush 60, 0, 0, 0), (59, .iload_n 1, 0, 0, 0), (60, .imul, 0, 0, 0), (61, .iload_n 2, 0, 0, 0), (62, .iadd, 0, 0, 0), (63, .aload_n 0, 0, 0, 0), (64, .getfield 9, 7, 2, 690), (67, .iload_n 1, 0, 0, 0), (68, .iaload, 0, 0, 0), (69, .ifCond .ne 8, 77, 0, 0), (72, .iload_n 3, 0, 0, 0), (73, .i2b, 0, 0, 0), (74, .goto 19, 93, 0, 0), (77, .aload_n 0, 0, 0, 0), (78, .getfield 9, 7, 2, 690), (81, .iload_n 1, 0, 0, 0), (82, .iaload, 0, 0, 0), (83, .iconst 1, 0, 0, 0), (84, .if_icmp .ne 8, 92, 0, 0), (87, .iload_n 3, 0, 0, 0), (88, .i2s, 0, 0, 0), (89, .goto 4, 93, 0, 0), (92, .iload_n 3, 0, 0, 0), (93, .iastore, 0, 0, 0), (94, .iconst 1, 0, 0, 0), (95, .ireturn, 0, 0, 0)]
def tl_159 : List (Nat × xRow) := [(0, .aload_n 0, 0, 0, 0), (1, .iconst 0, 0, 0, 0), (2, .putfield 64, 7, 0, 688), (5, .iload_n 1, 0, 0, 0), (6, .invokestatic 80, 103, 1, 780), (9, .ifCond .eq 10, 19, 0, 0), (12, .iload_n 3, 0, 0, 0), (13, .invokestatic 84, 105, 1, 786), (16, .ifCond .ne 7, 23, 0, 0), (19, .ldc2_w 68, 9223372036854775808, 0, 983), (22, .lreturn, 0, 0, 0), (23, .aload_n 0, 0, 0, 0), (24, .getfield 9, 7, 2, 690), (27, .iload_n 1, 0, 0, 0), (28, .iaload, 0, 0, 0), (29, .bipush (-9), 0, 0, 0), (31, .if_icmp .eq 19, 50, 0, 0), (34, .aload_n 0, 0, 0, 0), (35, .getfield 9, 7, 2, 690), (38, .iload_n 1, 0, 0, 0), (39, .iaload, 0, 0, 0), (40, .iload_n 3, 0, 0, 0), (41, .if_icmp .eq 9, 50, 0, 0), (44, .aload_n 0, 0, 0, 0), (45, .iconst 2, 0, 0, 0), (46, .invokevirtual 219, 160, 2, 1003), (49, .lreturn, 0, 0, 0), (50, .aload_n 0, 0, 0, 0), (51, .getfield 9, 7, 2, 690), (54, .iload_n 1, 0, 0, 0), (55, .iaload, 0, 0, 0), (56, .bipush (-9), 0, 0, 0), (58, .if_icmp .ne 9, 67, 0, 0), (61, .aload_n 0, 0, 0, 0), (62, .iconst 1, 0, 0, 0), (63, .invokevirtual 219, 160, 2, 1003), (66, .lreturn, 0, 0, 0), (67, .iload_n 2, 0, 0, 0), (68, .iconst 0, 0, 0, 0), (69, .aload_n 0, 0, 0, 0), (70, .getfield 13, 7, 3, 691), (73, .iload_n 1, 0, 0, 0), (74, .iaload, 0, 0, 0), (75, .iconst 1, 0, 0, 0), (76, .isub, 0, 0, 0), (77, .invokestatic 70, 104, 3, 783), (80, .ifCond .ne 9, 89, 0, 0), (83, .aload_n 0, 0, 0, 0), (84, .iconst 3, 0, 0, 0), (85, .invokevirtual 219, 160, 2, 1003), (88, .lreturn, 0, 0, 0), (89, .aload_n 0, 0, 0, 0), (90, .getfield 16, 7, 4, 692), (93, .bipush 60, 0, 0, 0), (95, .iload_n 1, 0, 0, 0), (96, .imul, 0, 0, 0), (97, .iload_n 2, 0, 0, 0), (98, .iadd, 0, 0, 0), (99, .iaload, 0, 0, 0), (100, .i2l, 0, 0, 0), (101, .lreturn, 0, 0, 0)]
def tl_160 : List (Nat × xRow) := [(0, .aload_n 0, 0, 0, 0), (1, .iload_n 1, 0, 0, 0), (2, .putfield 64, 7, 0, 688), (5, .ldc2_w 68, 9223372036854775808, 0, 983), (8, .lreturn, 0, 0, 0)]
def tl_161 : List (Nat × xRow) := [(0, .aload_n 0, 0, 0, 0), (1, .iconst 0, 0, 0, 0), (2, .putfield 64, 7, 0, 688), (5, .iload_n 1, 0, 0, 0), (6, .invokestatic 80, 103, 1, 780), (9, .ifCond .eq 10, 19, 0, 0), (12, .iload_n 3, 0, 0, 0), (13, .invokestatic 80, 103, 1, 780), (16, .ifCond .ne 5, 21, 0, 0), (19, .iconst (-1), 0, 0, 0), (20, .ireturn, 0, 0, 0), (21, .aload_n 0, 0, 0, 0), (22, .getfield 9, 7, 2, 690), (25, .iload_n 1, 0, 0, 0), (26, .iaload, 0, 0, 0), (27, .bipush (-9), 0, 0, 0), (29, .if_icmp .eq 14, 43, 0, 0), (32, .aload_n 0, 0, 0, 0), (33, .getfield 9, 7, 2, 690), (36, .iload_n 3, 0, 0, 0), (37, .iaload, 0, 0, 0), (38, .bipush (-9), 0, 0, 0), (40, .if_icmp .ne 9, 49, 0, 0), (43, .aload_n 0, 0, 0, 0), (44, .iconst 1, 0, 0, 0), (45, .invokevirtual 91, 107, 2, 793), (48, .ireturn, 0, 0, 0), (49, .aload_n 0, 0, 0, 0), (50, .getfield 9, 7, 2, 690), (53, .iload_n 1, 0, 0, 0), (54, .iaload, 0, 0, 0), (55, .aload_n 0, 0, 0, 0), (56, .getfield 9, 7, 2, 690), (59, .iload_n 3, 0, 0, 0), (60, .iaload, 0, 0, 0), (61, .if_icmp .eq 9, 70, 0, 0), (64, .aload_n 0, 0, 0, 0), (65, .iconst 2, 0, 0, 0), (66, .invokevirtual 91, 107, 2, 793), (69, .ireturn, 0, 0, 0), (70, .iload_n 2, 0, 0, 0), (71, .ifCond .lt 38, 109, 0, 0), (74, .iload 4, 0, 0, 0), (76, .ifCond .lt 33, 109, 0, 0), (79, .iload 5, 0, 0, 0), (81, .ifCond .lt 28, 109, 0, 0), (84, .iload_n 2, 0, 0, 0), (85, .aload_n 0, 0, 0, 0), (86, .getfield 13, 7, 3, 691), (89, .iload_n 1, 0, 0, 0), (90, .iaload, 0, 0, 0), (91, .if_icmp .gt 18, 109, 0, 0), (94, .iload 4, 0, 0, 0), (96, .aload_n 0, 0, 0, 0), (97, .getfield 13, 7, 3, 691), (100, .iload_n 3, 0, 0, 0), (101, .iaload, 0, 0, 0), (102, .if_icmp .gt 7, 109, 0, 0), (105, .iconst 1, 0, 0, 0), (106, .goto 4, 110, 0, 0), (109, .iconst 0, 0, 0, 0), (110, .istore 6, 0, 0, 0), (112, .iload 6, 0, 0, 0), (114, .ifCond .eq 30, 144, 0, 0), (117, .iload 5, 0, 0, 0), (119, .aload_n 0, 0, 0, 0), (120, .getfield 13, 7, 3, 691), (123, .iload_n 1, 0, 0, 0), (124, .iaload, 0, 0, 0), (125, .iload_n 2, 0, 0, 0), (126, .isub, 0, 0, 0), (127, .if_icmp .gt 17, 144, 0, 0), (130, .iload 5, 0, 0, 0), (132, .aload_n 0, 0, 0, 0), (133, .getfield 13, 7, 3, 691), (136, .iload_n 3, 0, 0, 0), (137, .iaload, 0, 0, 0), (138, .iload 4, 0, 0, 0), (140, .isub, 0, 0, 0), (141, .if_icmp .le 9, 150, 0, 0), (144, .aload_n 0, 0, 0, 0), (145, .iconst 3, 0, 0, 0), (146, .invokevirtual 91, 107, 2, 793), (149, .ireturn, 0, 0, 0), (150, .iload_n 2, 0, 0, 0), (151, .iload 4, 0, 0, 0), (153, .if_icmp .ge 7, 160, 0, 0), (156, .iconst 1, 0, 0, 0), (157, .goto 4, 161, 0, 0), (160, .iconst 0, 0, 0, 0), (161, .istore 7, 0, 0, 0), (163, .iconst 0, 0, 0, 0), (164, .istore 8, 0, 0, 0), (166, .iload 8, 0, 0, 0), (168, .iload 5, 0, 0, 0), (170, .if_icmp .ge 57, 227, 0, 0), (173, .iload 7, 0, 0, 0), (175, .ifCond .eq 13, 188, 0, 0), (178, .iload 5, 0, 0, 0), (180, .iconst 1, 0, 0, 0), (181, .isub, 0, 0, 0), (182, .iload 8, 0, 0, 0), (184, .isub, 0, 0, 0), (185, .goto 5, 190, 0, 0), (188, .iload 8, 0, 0, 0), (190, .istore 9, 0, 0, 0), (192, .aload_n 0, 0, 0, 0), (193, .getfield 16, 7, 4, 692), (196, .bipush 60, 0, 0, 0), (198, .iload_n 3, 0, 0, 0), (199, .imul, 0, 0, 0), (200, .iload 4, 0, 0, 0), (202, .iadd, 0, 0, 0), (203, .iload 9, 0, 0, 0), (205, .iadd, 0, 0, 0), (206, .aload_n 0, 0, 0, 0), (207, .getfield 16, 7, 4, 692), (210, .bipush 60, 0, 0, 0), (212, .iload_n 1, 0, 0, 0), (213, .imul, 0, 0, 0), (214, .iload_n 2, 0, 0, 0), (215, .iadd, 0, 0, 0), (216, .iload 9, 0, 0, 0), (218, .iadd, 0, 0, 0), (219, .iaload, 0, 0, 0), (220, .iastore, 0, 0, 0), (221, .iinc 8 1, 0, 0, 0), (224, .goto (-58), 166, 0, 0), (227, .iload 5, 0, 0, 0), (229, .ireturn, 0, 0, 0)]
def tl_162 : List (Nat × xRow) := [(0, .aload_n 0, 0, 0, 0), (1, .iload_n 1, 0, 0, 0), (2, .invokevirtual 142, 113, 2, 817), (5, .ifCond .ne 5, 10, 0, 0), (8, .iconst (-1), 0, 0, 0), (9, .ireturn, 0, 0, 0), (10, .aload_n 0, 0, 0, 0), (11, .iload_n 1, 0, 0, 0), (12, .invokevirtual 117, 124, 2, 859), (15, .invokestatic 120, 118, 1, 837), (18, .istore_n 2, 0, 0, 0), (19, .aload_n 0, 0, 0, 0), (20, .getfield 19, 7, 6, 694), (23, .iload_n 1, 0, 0, 0), (24, .iaload, 0, 0, 0), (25, .lookupswitch 69 #[(1, 27), (2, 42)], 0, 0, 0), (52, .aload_n 0, 0, 0, 0), (53, .iconst 2, 0, 0, 0), (54, .invokevirtual 226, 163, 2, 1015), (57, .aload_n 0, 0, 0, 0), (58, .iconst 1, 0, 0, 0), (59, .invokevirtual 226, 163, 2, 1015), (62, .iload_n 2, 0, 0, 0), (63, .bipush 100, 0, 0, 0), (65, .iadd, 0, 0, 0), (66, .ireturn, 0, 0, 0), (67, .aload_n 0, 0, 0, 0), (68, .iconst 3, 0, 0, 0), (69, .invokevirtual 226, 163, 2, 1015), (72, .aload_n 0, 0, 0, 0), (73, .iconst 2, 0, 0, 0), (74, .invokevirtual 226, 163, 2, 1015), (77, .aload_n 0, 0, 0, 0), (78, .iconst 1, 0, 0, 0), (79, .invokevirtual 226, 163, 2, 1015), (82, .aload_n 0, 0, 0, 0), (83, .iconst 1, 0, 0, 0), (84, .invokevirtual 226, 163, 2, 1015), (87, .iconst 2, 0, 0, 0), (88, .iload_n 2, 0, 0, 0), (89, .imul, 0, 0, 0), (90, .bipush 100, 0, 0, 0), (92, .iadd, 0, 0, 0), (93, .ireturn, 0, 0, 0), (94, .aload_n 0, 0, 0, 0), (95, .iconst 1, 0, 0, 0), (96, .invokevirtual 226, 163, 2, 1015), (99, .iload_n 2, 0, 0, 0), (100, .ireturn, 0, 0, 0)]
def tl_163 : List (Nat × xRow) := [(0, .aload_n 0, 0, 0, 0), (1, .bipush 31, 0, 0, 0), (3, .aload_n 0, 0, 0, 0), (4, .getfield 223, 7, 1, 689), (7, .imul, 0, 0, 0), (8, .iload_n 1, 0, 0, 0), (9, .iadd, 0, 0, 0), (10, .putfield 223, 7, 1, 689), (13, .return_, 0, 0, 0)]
def tl_164 : List (Nat × xRow) := [(0, .aload_n 0, 0, 0, 0), (1, .iload_n 1, 0, 0, 0), (2, .invokevirtual 142, 113, 2, 817), (5, .ifCond .ne 5, 10, 0, 0), (8, .iconst (-1), 0, 0, 0), (9, .ireturn, 0, 0, 0), (10, .aload_n 0, 0, 0, 0), (11, .aload_n 0, 0, 0, 0), (12, .getfield 19, 7, 6, 694), (15, .iload_n 1, 0, 0, 0), (16, .iaload, 0, 0, 0), (17, .iconst 2, 0, 0, 0), (18, .if_icmp .ne 7, 25, 0, 0), (21, .iconst 5, 0, 0, 0), (22, .goto 4, 26, 0, 0), (25, .iconst 4, 0, 0, 0), (26, .invokevirtual 226, 163, 2, 1015), (29, .aload_n 0, 0, 0, 0), (30, .getfield 19, 7, 6, 694), (33, .iload_n 1, 0, 0, 0), (34, .iaload, 0, 0, 0), (35, .iconst 2, 0, 0, 0), (36, .if_icmp .ne 8, 44, 0, 0), (39, .bipush 90, 0, 0, 0), (41, .goto 4, 45, 0, 0), (44, .iload_n 1, 0, 0, 0), (45, .ireturn, 0, 0, 0)]
def tl_165 : List (Nat × xRow) := [(0, .aload_n 0, 0, 0, 0), (1, .iconst 0, 0, 0, 0), (2, .putfield 64, 7, 0, 688), (5, .aload_n 0, 0, 0, 0), (6, .iload_n 1, 0, 0, 0), (7, .invokevirtual 142, 113, 2, 817), (10, .ifCond .ne 5, 15, 0, 0), (13, .iconst (-1), 0, 0, 0), (14, .ireturn, 0, 0, 0), (15, .iload_n 2, 0, 0, 0), (16, .iconst 0, 0, 0, 0), (17, .iconst 2, 0, 0, 0), (18, .invokestatic 70, 104, 3, 783), (21, .ifCond .ne 6, 27, 0, 0), (24, .bipush (-2), 0, 0, 0), (26, .ireturn, 0, 0, 0), (27, .aload_n 0, 0, 0, 0), (28, .getfield 19, 7, 6, 694), (31, .iload_n 1, 0, 0, 0), (32, .iaload, 0, 0, 0), (33, .iload_n 2, 0, 0, 0), (34, .if_icmp .lt 7, 41, 0, 0), (37, .iconst 1, 0, 0, 0), (38, .goto 8, 46, 0, 0), (41, .aload_n 0, 0, 0, 0), (42, .iconst 2, 0, 0, 0), (43, .invokevirtual 91, 107, 2, 793), (46, .ireturn, 0, 0, 0)]
def tl_166 : List (Nat × xRow) := [(0, .aload_n 0, 0, 0, 0), (1, .getfield 223, 7, 1, 689), (4, .ireturn, 0, 0, 0)]
def tl_167 : List (Nat × xRow) := [(0, .aload_n 0, 0, 0, 0), (1, .getfield 64, 7, 0, 688), (4, .ireturn, 0, 0, 0)]
def tl_168 : List (Nat × xRow) := [(0, .iconst 0, 0, 0, 0), (1, .istore_n 2, 0, 0, 0), (2, .iload_n 1, 0, 0, 0), (3, .tableswitch 80 0 4 #[33, 38, 65, 70, 75], 0, 0, 0), (36, .aload_n 0, 0, 0, 0), (37, .getfield 74, 7, 5, 693), (40, .ireturn, 0, 0, 0), (41, .iconst 0, 0, 0, 0), (42, .istore_n 3, 0, 0, 0), (43, .iload_n 3, 0, 0, 0), (44, .aload_n 0, 0, 0, 0), (45, .getfield 74, 7, 5, 693), (48, .if_icmp .ge 18, 66, 0, 0), (51, .iload_n 2, 0, 0, 0), (52, .aload_n 0, 0, 0, 0), (53, .getfield 25, 7, 8, 696), (56, .iload_n 3, 0, 0, 0), (57, .iaload, 0, 0, 0), (58, .iadd, 0, 0, 0), (59, .istore_n 2, 0, 0, 0), (60, .iinc 3 1, 0, 0, 0), (63, .goto (-20), 43, 0, 0), (66, .iload_n 2, 0, 0, 0), (67, .ireturn, 0, 0, 0), (68, .aload_n 0, 0, 0, 0), (69, .invokevirtual 166, 135, 1, 903), (72, .ireturn, 0, 0, 0), (73, .aload_n 0, 0, 0, 0), (74, .invokevirtual 170, 136, 1, 907), (77, .ireturn, 0, 0, 0), (78, .aload_n 0, 0, 0, 0), (79, .getfield 101, 7, 26, 714), (82, .ireturn, 0, 0, 0), (83, .bipush (-2), 0, 0, 0), (85, .ireturn, 0, 0, 0)]
def x_tls : List (List (Nat × xRow)) := [tl_0, tl_1, tl_2, tl_3, tl_4, tl_5, tl_6, tl_7, tl_8, tl_9, tl_10, tl_11, tl_12, tl_13, tl_14, tl_15, tl_16, tl_17, tl_18, tl_19, tl_20, tl_21, tl_22, tl_23, tl_24, tl_25, tl_26, tl_27, tl_28, tl_29, tl_30, tl_31, tl_32, tl_33, tl_34, tl_35, tl_36, tl_37, tl_38, tl_39, tl_40, tl_41, tl_42, tl_43, tl_44, tl_45, tl_46, tl_47, tl_48, tl_49, tl_50, tl_51, tl_52, tl_53, tl_54, tl_55, tl_56, tl_57, tl_58, tl_59, tl_60, tl_61, tl_62, tl_63, tl_64, tl_65, tl_66, tl_67, tl_68, tl_69, tl_70, tl_71, tl_72, tl_73, tl_74, tl_75, tl_76, tl_77, tl_78, tl_79, tl_80, tl_81, tl_82, tl_83, tl_84, tl_85, tl_86, tl_87, tl_88, tl_89, tl_90, tl_91, tl_92, tl_93, tl_94, tl_95, tl_96, tl_97, tl_98, tl_99, tl_100, tl_101, tl_102, tl_103, tl_104, tl_105, tl_106, tl_107, tl_108, tl_109, tl_110, tl_111, tl_112, tl_113, tl_114, tl_115, tl_116, tl_117, tl_118, tl_119, tl_120, tl_121, tl_122, tl_123, tl_124, tl_125, tl_126, tl_127, tl_128, tl_129, tl_130, tl_131, tl_132, tl_133, tl_134, tl_135, tl_136, tl_137, tl_138, tl_139, tl_140, tl_141, tl_142, tl_143, tl_144, tl_145, tl_146, tl_147, tl_148, tl_149, tl_150, tl_151, tl_152, tl_153, tl_154, tl_155, tl_156, tl_157, tl_158, tl_159, tl_160, tl_161, tl_162, tl_163, tl_164, tl_165, tl_166, tl_167, tl_168]
end
section
/-! THE SMALL MACHINE. Its world is numbers alone: w a j is what cell a holds in place j. All references are fixed once the objects are made. -/
abbrev xMV : Type := Option (Int32 ⊕ (Int64 ⊕ (Nat × Nat)))
abbrev xI (v : Int32) : xMV := some (Sum.inl v)
abbrev xJ (v : Int64) : xMV := some (Sum.inr (Sum.inl v))
abbrev xA (c a : Nat) : xMV := some (Sum.inr (Sum.inr (c, a)))
abbrev xU : xMV := none
abbrev xWd : Type := Nat → Nat → Int32
abbrev xSt : Type := Nat × List xMV × List xMV × xWd
/-- what an instruction does: goes on; goes on under a condition; calls (which method, its arguments, the rest of the stack); returns under a condition -/
abbrev xEff : Type := xSt ⊕ ((Prop × xSt) ⊕ ((Nat × List xMV × List xMV) ⊕ (Prop × xMV)))
def x_put (w : xWd) (a : Nat) (f : Nat → Int32) : xWd := fun b => if b = a then f else w b
def x_set (w : xWd) (a j : Nat) (v : Int32) : xWd := x_put w a (upd (w a) j v)
def x_fv (c a y : Nat) (w : xWd) : xMV := match x_ft c y with
  | none => xI (w a y)
  | some t => xA t (x_gr c a y)
def x_pu (r : xMV) (st : List xMV) : List xMV := match r with
  | none => st
  | some v => some v :: st
def x_cat : xMV → Nat
  | some (.inr (.inl _)) => 2
  | _ => 1
def x_lay : List xMV → List xMV
  | [] => []
  | some (.inr (.inl v)) :: r => some (.inr (.inl v)) :: none :: x_lay r
  | v :: r => v :: x_lay r
def x_nth {α : Type} (d : α) : List α → Nat → α
  | [], _ => d
  | a :: _, 0 => a
  | _ :: r, n + 1 => x_nth d r n
def x_m0 : x_MT := (⟨"", "", ""⟩, code, 0, none, 99, 0)
def x_mt (n : Nat) : x_MT := x_nth x_m0 x_mts n
def x_nl (n : Nat) : Nat := (x_mt n).2.2.1
def x_mc (n : Nat) : Nat := (x_mt n).2.2.2.2.1
def x_pad : List xMV → Nat → List xMV
  | [], 0 => []
  | [], n + 1 => none :: x_pad [] n
  | a :: r, 0 => a :: r
  | a :: r, n + 1 => a :: x_pad r n
def x_ent (n : Nat) (as : List xMV) : List xMV := x_pad (x_lay as) (x_nl n)
def x_lk : List (Nat × xRow) → Nat → Option xRow
  | [], _ => none
  | (k, r) :: t, pc => bif Nat.beq k pc then some r else x_lk t pc
def x_tb (n pc : Nat) : Option xRow := x_lk (x_nth [] x_tls n) pc
def x_g (pc : Nat) (ls st : List xMV) (w : xWd) : Option xEff := some (.inl (pc, ls, st, w))
def x_o (P : Prop) (pc : Nat) (ls st : List xMV) (w : xWd) : Option xEff := some (.inr (.inl (P, pc, ls, st, w)))
/-- the place ahead holds no long -/
def x_nlg (ls : List xMV) : Nat → Bool
  | 0 => true
  | k + 1 => match ls[k]? with
    | some (some (.inr (.inl _))) => false
    | _ => true
def x_ld (ls : List xMV) (i : Nat) (f : xMV → Option xEff) : Option xEff := match ls[i]? with
  | some (some v) => f (some v)
  | _ => none
def x_ldI (ls : List xMV) (i : Nat) (f : xMV → Option xEff) : Option xEff := match ls[i]? with
  | some (some (.inl v)) => f (xI v)
  | _ => none
def x_ldJ (ls : List xMV) (i : Nat) (f : xMV → Option xEff) : Option xEff := match ls[i]? with
  | some (some (.inr (.inl v))) => f (xJ v)
  | _ => none
def x_ldA (ls : List xMV) (i : Nat) (f : xMV → Option xEff) : Option xEff := match ls[i]? with
  | some (some (.inr (.inr v))) => f (xA v.1 v.2)
  | _ => none
def x_p1 (st : List xMV) (f : Int32 → List xMV → Option xEff) : Option xEff := match st with
  | some (.inl b) :: r => f b r
  | _ => none
def x_p2 (st : List xMV) (f : Int32 → Int32 → List xMV → Option xEff) : Option xEff := match st with
  | some (.inl b) :: some (.inl a) :: r => f a b r
  | _ => none
def x_q2 (st : List xMV) (f : Int64 → Int64 → List xMV → Option xEff) : Option xEff := match st with
  | some (.inr (.inl b)) :: some (.inr (.inl a)) :: r => f a b r
  | _ => none
def x_pa (st : List xMV) (f : Nat → Nat → List xMV → Option xEff) : Option xEff := match st with
  | some (.inr (.inr q)) :: r => f q.1 q.2 r
  | _ => none
def x_swt (v : Int32) : List (Int × Int) → Nat → Nat
  | [], d => d
  | (k, t) :: r, d => if v = Int32.ofInt k then t.toNat else x_swt v r d
def x_tsl (pc : Int) : Int → List Int → List (Int × Int)
  | _, [] => []
  | lo, o :: r => (lo, pc + o) :: x_tsl pc (lo + 1) r
def x_psl (pc : Int) : List (Int × Int) → List (Int × Int)
  | [] => []
  | (k, o) :: r => (k, pc + o) :: x_psl pc r
def x_icmp (c : ClassFile.Cond) (a b : Int32) (t f : Nat) : Nat := match c with
  | .eq => if a = b then t else f
  | .ne => if a = b then f else t
  | .lt => if a < b then t else f
  | .ge => if b ≤ a then t else f
  | .gt => if b < a then t else f
  | .le => if a ≤ b then t else f
def x_catS (st : List xMV) : Nat := match st with
  | [] => 0
  | v :: r => x_cat v + x_catS r
def x_rev (st : List xMV) : Nat → List xMV → Option (List xMV × List xMV)
  | 0, acc => some (acc, st)
  | n + 1, acc => match st with
    | [] => none
    | v :: r => x_rev r n (v :: acc)
def x_cl (ν : Nat) (o : Option (List xMV × List xMV)) : Option xEff := match o with
  | none => none
  | some (as, rst) => bif Nat.ble (x_catS rst) 8 && Nat.ble (x_catS as) (x_nl ν) then some (.inr (.inr (.inl (ν, as, rst)))) else none
/-- an instance call: the receiver is of the method's class -/
def x_clv (ν : Nat) (o : Option (List xMV × List xMV)) : Option xEff := match o with
  | some (some (.inr (.inr q)) :: as, rst) => bif Nat.beq q.1 (x_mc ν) then x_cl ν (some (some (.inr (.inr q)) :: as, rst)) else none
  | _ => none
def x_ist (d : Nat) (x y pc : Nat) (ls st : List xMV) (w : xWd) : Option xEff :=
  bif Nat.beq x 9999 then (match st with
    | [some (.inl n), some (.inl dp), some (.inr (.inr q1)), some (.inl sp), some (.inr (.inr q0))] =>
      x_o (1 ≤ d ∧ 100 ≤ q0.1 ∧ 100 ≤ q1.1 ∧ ¬ sp < 0 ∧ ¬ dp < 0 ∧ ¬ n < 0 ∧ sp.toNatClampNeg + n.toNatClampNeg ≤ q0.1 - 100 ∧ dp.toNatClampNeg + n.toNatClampNeg ≤ q1.1 - 100) (pc + 3) ls [] (x_put w q1.2 (va_cpy (w q0.2) (w q1.2) sp.toNatClampNeg dp.toNatClampNeg n.toNatClampNeg))
    | _ => none)
  else bif Nat.beq x 9998 then x_p2 st fun a b r => bif Nat.ble (x_catS r) 8 then x_o (1 ≤ d) (pc + 3) ls (xI (if a < b then b else a) :: r) w else none
  else bif Nat.beq x 9997 then x_p2 st fun a b r => bif Nat.ble (x_catS r) 8 then x_o (1 ≤ d) (pc + 3) ls (xI (if b < a then b else a) :: r) w else none
  else x_cl x (x_rev st y [])
def x_iald (n pc : Nat) (ls st : List xMV) (w : xWd) : Option xEff := match st with
  | some (.inl i) :: some (.inr (.inr q)) :: r =>
    bif Nat.beq q.1 51 then x_o (n = 0 ∧ vp_in i (w 4 0).toNatClampNeg) (pc + 1) ls (xI (w q.2 i.toNatClampNeg) :: r) w
    else bif Nat.ble 100 q.1 then x_o (vp_in i (q.1 - 100)) (pc + 1) ls (xI (w q.2 i.toNatClampNeg) :: r) w else none
  | _ => none
def x_iast (pc : Nat) (ls st : List xMV) (w : xWd) : Option xEff := match st with
  | some (.inl v) :: some (.inl i) :: some (.inr (.inr q)) :: r =>
    bif Nat.ble 100 q.1 then x_o (vp_in i (q.1 - 100)) (pc + 1) ls r (x_set w q.2 i.toNatClampNeg v) else none
  | _ => none
def x_aald (pc : Nat) (ls st : List xMV) (w : xWd) : Option xEff := match st with
  | some (.inl i) :: some (.inr (.inr q)) :: r =>
    bif Nat.beq q.1 50 then x_o (vp_in i 4) (pc + 1) ls (xA 3 (x_gr 50 q.2 i.toNatClampNeg) :: r) w else none
  | _ => none
def x_alen (n pc : Nat) (ls st : List xMV) (w : xWd) : Option xEff := x_pa st fun c a r =>
  bif Nat.beq c 51 then x_o (n = 0) (pc + 1) ls (xI (w 4 0) :: r) w
  else bif Nat.ble 100 c then x_g (pc + 1) ls (xI (nI (c - 100)) :: r) w else none
def x_pf (x y pc : Nat) (ls st : List xMV) (w : xWd) : Option xEff := match st with
  | some (.inl v) :: some (.inr (.inr q)) :: r => bif Nat.beq q.1 x then (match x_ft x y with
    | none => bif x_fz x y then x_o (v = 0 ∨ v = 1) (pc + 3) ls r (x_set w q.2 y v) else x_g (pc + 3) ls r (x_set w q.2 y v)
    | some _ => none) else none
  | _ => none
def x_sto1 (i : Nat) (pc : Nat) (ls : List xMV) (v : xMV) (r : List xMV) (w : xWd) : Option xEff :=
  bif x_nlg ls i then x_g pc (ls.set i v) r w else none
def x_sto2 (i : Nat) (pc : Nat) (ls : List xMV) (v : xMV) (r : List xMV) (w : xWd) : Option xEff :=
  bif x_nlg ls i then x_g pc ((ls.set i v).set (i + 1) none) r w else none
def x_stI (i pc : Nat) (ls st : List xMV) (w : xWd) : Option xEff := match st with
  | some (.inl v) :: r => x_sto1 i pc ls (xI v) r w
  | _ => none
def x_stA (i pc : Nat) (ls st : List xMV) (w : xWd) : Option xEff := match st with
  | some (.inr (.inr v)) :: r => x_sto1 i pc ls (xA v.1 v.2) r w
  | _ => none
def x_stJ (i pc : Nat) (ls st : List xMV) (w : xWd) : Option xEff := match st with
  | some (.inr (.inl v)) :: r => x_sto2 i pc ls (xJ v) r w
  | _ => none
def x_iret (x : Nat) (st : List xMV) : Option xEff := match st with
  | [some (.inl v)] => (match x with
    | 0 => some (.inr (.inr (.inr (True, xI v))))
    | _ => some (.inr (.inr (.inr (v = 0 ∨ v = 1, xI v)))))
  | _ => none
def x_eff (r : xRow) (d n pc : Nat) (ls st : List xMV) (w : xWd) : Option xEff :=
  match r.1 with
  | .iconst k => x_g (pc + 1) ls (xI (Int32.ofInt k) :: st) w
  | .bipush k => x_g (pc + 2) ls (xI (Int32.ofInt k) :: st) w
  | .sipush k => x_g (pc + 3) ls (xI (Int32.ofInt k) :: st) w
  | .ldc_w _ => x_g (pc + 3) ls (xI (Int32.ofNat r.2.1) :: st) w
  | .lconst k => x_g (pc + 1) ls (xJ (Int64.ofNat k.val) :: st) w
  | .ldc2_w _ => x_g (pc + 3) ls (xJ (Int64.ofNat r.2.1) :: st) w
  | .iload_n k => x_ldI ls k.val fun v => x_g (pc + 1) ls (v :: st) w
  | .iload k => x_ldI ls k fun v => x_g (pc + 2) ls (v :: st) w
  | .aload_n k => x_ldA ls k.val fun v => x_g (pc + 1) ls (v :: st) w
  | .aload k => x_ldA ls k fun v => x_g (pc + 2) ls (v :: st) w
  | .lload_n k => x_ldJ ls k.val fun v => x_g (pc + 1) ls (v :: st) w
  | .lload k => x_ldJ ls k fun v => x_g (pc + 2) ls (v :: st) w
  | .istore_n k => x_stI k.val (pc + 1) ls st w
  | .istore k => x_stI k (pc + 2) ls st w
  | .astore_n k => x_stA k.val (pc + 1) ls st w
  | .astore k => x_stA k (pc + 2) ls st w
  | .lstore k => x_stJ k (pc + 2) ls st w
  | .iinc i k => match ls[i]? with
    | some (some (.inl v)) => x_sto1 i (pc + 3) ls (xI (v + Int32.ofInt k)) st w
    | _ => none
  | .iadd => x_p2 st fun a b q => x_g (pc + 1) ls (xI (a + b) :: q) w
  | .isub => x_p2 st fun a b q => x_g (pc + 1) ls (xI (a - b) :: q) w
  | .imul => x_p2 st fun a b q => x_g (pc + 1) ls (xI (a * b) :: q) w
  | .iand => x_p2 st fun a b q => x_g (pc + 1) ls (xI (a &&& b) :: q) w
  | .ior => x_p2 st fun a b q => x_g (pc + 1) ls (xI (a ||| b) :: q) w
  | .ixor => x_p2 st fun a b q => x_g (pc + 1) ls (xI (a ^^^ b) :: q) w
  | .ishl => x_p2 st fun a b q => x_g (pc + 1) ls (xI (a <<< (b &&& 31)) :: q) w
  | .ishr => x_p2 st fun a b q => x_g (pc + 1) ls (xI (a >>> (b &&& 31)) :: q) w
  | .iushr => x_p2 st fun a b q => x_g (pc + 1) ls (xI ((a.toUInt32 >>> (b.toUInt32 &&& Int32.toUInt32 31)).toInt32) :: q) w
  | .idiv => x_p2 st fun a b q => x_o (¬ b = 0) (pc + 1) ls (xI (a / b) :: q) w
  | .irem => x_p2 st fun a b q => x_o (¬ b = 0) (pc + 1) ls (xI (a - a / b * b) :: q) w
  | .i2b => x_p1 st fun a q => x_g (pc + 1) ls (xI a.toInt8.toInt32 :: q) w
  | .i2s => x_p1 st fun a q => x_g (pc + 1) ls (xI a.toInt16.toInt32 :: q) w
  | .i2l => x_p1 st fun a q => x_g (pc + 1) ls (xJ a.toInt64 :: q) w
  | .ldiv => x_q2 st fun a b q => x_o (¬ b = 0) (pc + 1) ls (xJ (a / b) :: q) w
  | .lrem => x_q2 st fun a b q => x_o (¬ b = 0) (pc + 1) ls (xJ (a - a / b * b) :: q) w
  | .lcmp => x_q2 st fun a b q => x_g (pc + 1) ls (xI (lg_cmp a b) :: q) w
  | .dup => match st with
    | some (.inl a) :: q => x_g (pc + 1) ls (xI a :: xI a :: q) w
    | some (.inr (.inr a)) :: q => x_g (pc + 1) ls (xA a.1 a.2 :: xA a.1 a.2 :: q) w
    | _ => none
  | .dup2 => match st with
    | some (.inl a) :: some (.inr (.inr b)) :: q => x_g (pc + 1) ls (xI a :: xA b.1 b.2 :: xI a :: xA b.1 b.2 :: q) w
    | _ => none
  | .pop => x_p1 st fun _ q => x_g (pc + 1) ls q w
  | .ifCond c _ => x_p1 st fun a q => x_g (x_icmp c a 0 r.2.1 (pc + 3)) ls q w
  | .if_icmp c _ => x_p2 st fun a b q => x_g (x_icmp c a b r.2.1 (pc + 3)) ls q w
  | .goto _ => x_g r.2.1 ls st w
  | .tableswitch dft lo _ offs => x_p1 st fun a q => x_g (x_swt a (x_tsl pc lo offs.toList) ((pc : Int) + dft).toNat) ls q w
  | .lookupswitch dft ps => x_p1 st fun a q => x_g (x_swt a (x_psl pc ps.toList) ((pc : Int) + dft).toNat) ls q w
  | .getfield _ => x_pa st fun c a q => bif Nat.beq c r.2.1 then x_g (pc + 3) ls (x_fv r.2.1 a r.2.2.1 w :: q) w else none
  | .putfield _ => x_pf r.2.1 r.2.2.1 pc ls st w
  | .iaload => x_iald n pc ls st w
  | .iastore => x_iast pc ls st w
  | .aaload => x_aald pc ls st w
  | .arraylength => x_alen n pc ls st w
  | .invokevirtual _ => x_clv r.2.1 (x_rev st r.2.2.1 [])
  | .invokestatic _ => x_ist d r.2.1 r.2.2.1 pc ls st w
  | .ireturn => x_iret r.2.1 st
  | .lreturn => (match st with
    | [some (.inr (.inl v))] => some (.inr (.inr (.inr (True, xJ v))))
    | _ => none)
  | .return_ => (match st with
    | [] => some (.inr (.inr (.inr (True, xU))))
    | _ => none)
  | _ => none
/-- the small machine comes to an end with Q (its answer, its world), in n steps, with d calls inside each other -/
def xwp : Nat → Nat → Nat → Nat → List xMV → List xMV → xWd → (xMV → xWd → Prop) → Prop
  | 0, _, _, _, _, _, _, _ => False
  | n + 1, d, k, pc, ls, st, w, Q => match x_tb k pc with
    | none => False
    | some r => match x_eff r d k pc ls st w with
      | none => False
      | some (.inl s) => xwp n d k s.1 s.2.1 s.2.2.1 s.2.2.2 Q
      | some (.inr (.inl (P, s))) => P ∧ xwp n d k s.1 s.2.1 s.2.2.1 s.2.2.2 Q
      | some (.inr (.inr (.inl (y, as, rst)))) => (match d with
        | 0 => False
        | d' + 1 => xwp n d' y 0 (x_ent y as) [] w (fun a w' => xwp n (d' + 1) k (pc + 3) ls (x_pu a rst) w' Q))
      | some (.inr (.inr (.inr (P, a)))) => P ∧ Q a w
end
section
/-! RULES of the small machine -/
theorem xwp_mono : ∀ (n : Nat) (d k pc : Nat) (ls st : List xMV) (w : xWd) (Q Q' : xMV → xWd → Prop) (n' : Nat), n ≤ n' → (∀ a w, Q a w → Q' a w) → xwp n d k pc ls st w Q → xwp n' d k pc ls st w Q' := by
  intro n
  induction n with
  | zero => intro d k pc ls st w Q Q' n' _ _ h; exact h.elim
  | succ n ih =>
    intro d k pc ls st w Q Q' n' hn hQ h
    obtain ⟨n1, rfl⟩ : ∃ n1, n' = n1 + 1 := ⟨n' - 1, by omega⟩
    have hn1 : n ≤ n1 := by omega
    unfold xwp at h ⊢
    cases h1 : x_tb k pc with
    | none => rw [h1] at h; exact h.elim
    | some r =>
      rw [h1] at h
      dsimp only at h ⊢
      cases h2 : x_eff r d k pc ls st w with
      | none => rw [h2] at h; exact h.elim
      | some e =>
        rw [h2] at h
        rcases e with s | ⟨P, s⟩ | ⟨y, as, rst⟩ | ⟨P, a⟩
        · exact ih _ _ _ _ _ _ _ _ _ hn1 hQ h
        · exact ⟨h.1, ih _ _ _ _ _ _ _ _ _ hn1 hQ h.2⟩
        · cases d with
          | zero => exact h.elim
          | succ d => exact ih _ _ _ _ _ _ _ _ _ hn1 (fun a w' h' => ih _ _ _ _ _ _ _ _ _ hn1 hQ h') h
        · exact ⟨h.1, hQ _ _ h.2⟩
theorem xwp_det : ∀ (n : Nat) (d k pc : Nat) (ls st : List xMV) (w : xWd) (Q : xMV → xWd → Prop), xwp n d k pc ls st w Q → ∃ (a : xMV) (w' : xWd), Q a w' ∧ ∀ Q' : xMV → xWd → Prop, Q' a w' → xwp n d k pc ls st w Q' := by
  intro n
  induction n with
  | zero => intro d k pc ls st w Q h; exact h.elim
  | succ n ih =>
    intro d k pc ls st w Q h
    unfold xwp at h
    cases h1 : x_tb k pc with
    | none => rw [h1] at h; exact h.elim
    | some r =>
      rw [h1] at h
      dsimp only at h
      cases h2 : x_eff r d k pc ls st w with
      | none => rw [h2] at h; exact h.elim
      | some e =>
        rw [h2] at h
        rcases e with s | ⟨P, s⟩ | ⟨y, as, rst⟩ | ⟨P, a⟩
        · obtain ⟨a, w', hq, hk⟩ := ih _ _ _ _ _ _ _ h
          refine ⟨a, w', hq, fun Q' h' => ?_⟩
          unfold xwp; rw [h1]; dsimp only; rw [h2]; exact hk Q' h'
        · obtain ⟨a, w', hq, hk⟩ := ih _ _ _ _ _ _ _ h.2
          refine ⟨a, w', hq, fun Q' h' => ?_⟩
          unfold xwp; rw [h1]; dsimp only; rw [h2]; exact ⟨h.1, hk Q' h'⟩
        · cases d with
          | zero => exact h.elim
          | succ d =>
            obtain ⟨a1, w1, hq1, hk1⟩ := ih _ _ _ _ _ _ _ h
            obtain ⟨a2, w2, hq2, hk2⟩ := ih _ _ _ _ _ _ _ hq1
            refine ⟨a2, w2, hq2, fun Q' h' => ?_⟩
            unfold xwp; rw [h1]; dsimp only; rw [h2]; exact hk1 _ (hk2 Q' h')
        · refine ⟨a, w, h.2, fun Q' h' => ?_⟩
          unfold xwp; rw [h1]; dsimp only; rw [h2]; exact ⟨h.1, h'⟩
def xWp (d k pc : Nat) (ls st : List xMV) (w : xWd) (Q : xMV → xWd → Prop) : Prop := ∃ n, xwp n d k pc ls st w Q
def x_one (d k pc : Nat) (ls st : List xMV) (w : xWd) : Option xEff := match x_tb k pc with
  | none => none
  | some r => x_eff r d k pc ls st w
theorem x_one_tb {d k pc : Nat} {ls st : List xMV} {w : xWd} {e : xEff} (h : x_one d k pc ls st w = some e) : ∃ r, x_tb k pc = some r ∧ x_eff r d k pc ls st w = some e := by
  unfold x_one at h
  cases h1 : x_tb k pc with
  | none => rw [h1] at h; cases h
  | some r => rw [h1] at h; exact ⟨r, rfl, h⟩
theorem x_go {d k pc : Nat} {ls st : List xMV} {w : xWd} {Q : xMV → xWd → Prop} {pc' : Nat} {ls' st' : List xMV} {w' : xWd} (h : x_one d k pc ls st w = some (.inl (pc', ls', st', w'))) (kk : xWp d k pc' ls' st' w' Q) : xWp d k pc ls st w Q := by
  obtain ⟨r, h1, h2⟩ := x_one_tb h
  obtain ⟨n, hn⟩ := kk
  exact ⟨n + 1, by unfold xwp; rw [h1]; dsimp only; rw [h2]; exact hn⟩
theorem x_ob {d k pc : Nat} {ls st : List xMV} {w : xWd} {Q : xMV → xWd → Prop} {P : Prop} {pc' : Nat} {ls' st' : List xMV} {w' : xWd} (h : x_one d k pc ls st w = some (.inr (.inl (P, pc', ls', st', w')))) (hp : P) (kk : xWp d k pc' ls' st' w' Q) : xWp d k pc ls st w Q := by
  obtain ⟨r, h1, h2⟩ := x_one_tb h
  obtain ⟨n, hn⟩ := kk
  exact ⟨n + 1, by unfold xwp; rw [h1]; dsimp only; rw [h2]; exact ⟨hp, hn⟩⟩
theorem x_ret {d k pc : Nat} {ls st : List xMV} {w : xWd} {Q : xMV → xWd → Prop} {P : Prop} {a : xMV} (h : x_one d k pc ls st w = some (.inr (.inr (.inr (P, a))))) (hp : P) (kk : Q a w) : xWp d k pc ls st w Q := by
  obtain ⟨r, h1, h2⟩ := x_one_tb h
  exact ⟨1, by unfold xwp; rw [h1]; dsimp only; rw [h2]; exact ⟨hp, kk⟩⟩
theorem x_call {d k pc : Nat} {ls st : List xMV} {w : xWd} {Q : xMV → xWd → Prop} {y : Nat} {as rst : List xMV} (h : x_one (d + 1) k pc ls st w = some (.inr (.inr (.inl (y, as, rst))))) (ls' : List xMV) (hl : x_ent y as = ls')
    (kk : xWp d y 0 ls' [] w (fun a w' => xWp (d + 1) k (pc + 3) ls (x_pu a rst) w' Q)) : xWp (d + 1) k pc ls st w Q := by
  subst hl
  obtain ⟨r, h1, h2⟩ := x_one_tb h
  obtain ⟨n, hn⟩ := kk
  obtain ⟨a, w', ⟨n2, hq⟩, hk⟩ := xwp_det _ _ _ _ _ _ _ _ hn
  refine ⟨max n n2 + 1, ?_⟩
  unfold xwp; rw [h1]; dsimp only; rw [h2]
  exact xwp_mono n _ _ _ _ _ _ _ _ _ (Nat.le_max_left _ _) (fun _ _ h => h) (hk _ (xwp_mono n2 _ _ _ _ _ _ _ _ _ (Nat.le_max_right _ _) (fun _ _ h => h) hq))
theorem xWp_mono {d k pc : Nat} {ls st : List xMV} {w : xWd} {Q Q' : xMV → xWd → Prop} (h : xWp d k pc ls st w Q) (hQ : ∀ a w, Q a w → Q' a w) : xWp d k pc ls st w Q' := by
  obtain ⟨n, hn⟩ := h
  exact ⟨n, xwp_mono n _ _ _ _ _ _ _ _ _ (Nat.le_refl _) hQ hn⟩
theorem x_br {d k : Nat} {ls st : List xMV} {w : xWd} {Q : xMV → xWd → Prop} {c : Prop} [hc : Decidable c] {t f : Nat} (ht : c → xWp d k t ls st w Q) (hf : ¬ c → xWp d k f ls st w Q) : xWp d k (if c then t else f) ls st w Q := by
  by_cases h : c
  · rw [if_pos h]; exact ht h
  · rw [if_neg h]; exact hf h
def x_run : Nat → Nat → Nat → xSt → Option xSt
  | 0, _, _, s => some s
  | n + 1, d, k, s => match x_one d k s.1 s.2.1 s.2.2.1 s.2.2.2 with
    | some (.inl s') => x_run n d k s'
    | _ => none
theorem x_goN (n : Nat) {d k : Nat} {Q : xMV → xWd → Prop} : ∀ {pc : Nat} {ls st : List xMV} {w : xWd} {pc' : Nat} {ls' st' : List xMV} {w' : xWd}, x_run n d k (pc, ls, st, w) = some (pc', ls', st', w') → xWp d k pc' ls' st' w' Q → xWp d k pc ls st w Q := by
  induction n with
  | zero =>
    intro pc ls st w pc' ls' st' w' h kk
    cases h; exact kk
  | succ n ih =>
    intro pc ls st w pc' ls' st' w' h kk
    unfold x_run at h
    dsimp only at h
    cases h1 : x_one d k pc ls st w with
    | none => rw [h1] at h; cases h
    | some e =>
      rw [h1] at h
      rcases e with s | ⟨P, s⟩ | ⟨y, as, rst⟩ | ⟨P, a⟩
      · exact x_go (pc' := s.1) (ls' := s.2.1) (st' := s.2.2.1) (w' := s.2.2.2) h1 (ih h kk)
      · cases h
      · cases h
      · cases h
end
section
/-! THE TABLES, CHECKED: each row is what the bytes decode to, and what it links is among the words -/
def x_len (pc : Nat) : Instr → Nat
  | .bipush _ => 2 | .sipush _ => 3 | .ldc_w _ => 3 | .ldc2_w _ => 3
  | .iload _ => 2 | .aload _ => 2 | .lload _ => 2 | .istore _ => 2 | .astore _ => 2 | .lstore _ => 2 | .iinc _ _ => 3
  | .ifCond _ _ => 3 | .if_icmp _ _ => 3 | .goto _ => 3 | .getfield _ => 3 | .putfield _ => 3 | .invokevirtual _ => 3 | .invokestatic _ => 3
  | .tableswitch _ _ _ offs => 1 + (3 - pc % 4) + 12 + 4 * offs.size
  | .lookupswitch _ ps => 1 + (3 - pc % 4) + 8 + 8 * ps.size
  | _ => 1
def x_c0 : vw_C := ("", fun _ => ("", "", "", false), 0)
def x_cn (n : Nat) : vw_C := x_nth x_c0 x_cls n
def x_F (x y : Nat) : String × String × String × Bool := (x_cn x).2.1 y
def x_wd (k pc : Nat) (r : xRow) : Bool :=
  match r.1 with
  | .bipush v => decide ((Int8.ofInt v).toInt32 = Int32.ofInt v)
  | .sipush v => decide ((Int16.ofInt v).toInt32 = Int32.ofInt v)
  | .ldc_w i => decide (lw_tbl[r.2.2.2]? = some (Cond.constant (x_mt k).1.cls i (Int32.ofNat r.2.1)))
  | .ldc2_w i => decide (lw_tbl[r.2.2.2]? = some (Cond.constantLong (x_mt k).1.cls i (Int64.ofNat r.2.1)))
  | .istore_n i => decide (i.val < x_nl k)
  | .istore i => decide (i < x_nl k)
  | .astore_n i => decide (i.val < x_nl k)
  | .astore i => decide (i < x_nl k)
  | .lstore i => decide (i + 1 < x_nl k)
  | .iinc i _ => decide (i < x_nl k)
  | .ifCond _ o => decide ((pc : Int) + o = (r.2.1 : Int))
  | .if_icmp _ o => decide ((pc : Int) + o = (r.2.1 : Int))
  | .goto o => decide ((pc : Int) + o = (r.2.1 : Int))
  | .tableswitch d lo hi offs => decide (hi = lo + offs.toList.length - 1) && decide (0 ≤ (pc : Int) + d) && offs.toList.all (fun o => decide (0 ≤ (pc : Int) + o)) && decide (-1000 ≤ lo ∧ hi ≤ 1000)
  | .lookupswitch d ps => decide (0 ≤ (pc : Int) + d) && ps.toList.all (fun o => decide (0 ≤ (pc : Int) + o.2) && decide (-1000 ≤ o.1 ∧ o.1 ≤ 1000)) && (ps.toList.zip (ps.toList.drop 1)).all (fun (a, next) => decide (a.1 < next.1))
  | .getfield i => decide (r.2.1 < 8) && decide (r.2.2.1 < x_nf r.2.1) && decide (lw_tbl[r.2.2.2]? = some (Cond.fieldLink (x_mt k).1.cls i (x_F r.2.1 r.2.2.1).1 (x_F r.2.1 r.2.2.1).2.1 (x_F r.2.1 r.2.2.1).2.2.1))
  | .putfield i => decide (r.2.1 < 8) && decide (r.2.2.1 < x_nf r.2.1) && decide (lw_tbl[r.2.2.2]? = some (Cond.fieldLink (x_mt k).1.cls i (x_F r.2.1 r.2.2.1).1 (x_F r.2.1 r.2.2.1).2.1 (x_F r.2.1 r.2.2.1).2.2.1)) && decide ((x_F r.2.1 r.2.2.1).2.2.2 = false) && (if x_fz r.2.1 r.2.2.1 then decide (parseFieldDescriptor (x_F r.2.1 r.2.2.1).2.2.1 = some .boolean) else decide (parseFieldDescriptor (x_F r.2.1 r.2.2.1).2.2.1 = some .int))
  | .invokevirtual i => decide (0 < r.2.1) && decide (r.2.1 < 169) && decide (x_mc r.2.1 < 8) && decide (r.2.2.1 = (x_mt r.2.1).2.2.2.2.2 + 1) && decide (lw_tbl[r.2.2.2]? = some (Cond.methodLink (x_mt k).1.cls i (x_mt r.2.1).1))
  | .invokestatic i =>
    if r.2.1 = 9999 then decide (lw_tbl[r.2.2.2]? = some (Cond.methodLink (x_mt k).1.cls i arraycopyName))
    else if r.2.1 = 9998 then decide (lw_tbl[r.2.2.2]? = some (Cond.methodLink (x_mt k).1.cls i Lib.Math.max.name))
    else if r.2.1 = 9997 then decide (lw_tbl[r.2.2.2]? = some (Cond.methodLink (x_mt k).1.cls i Lib.Math.min.name))
    else decide (0 < r.2.1) && decide (r.2.1 < 169) && decide (x_mc r.2.1 = 99) && decide (r.2.2.1 = (x_mt r.2.1).2.2.2.2.2) && (decide (lw_tbl[r.2.2.2]? = some (Cond.methodLink (x_mt k).1.cls i (x_mt r.2.1).1)) || decide (lw_tbl[r.2.2.2]? = some (Cond.methodLinkNest (x_mt k).1.cls i (x_mt r.2.1).1 "ValuePlaces")))
  | .ireturn => (decide (r.2.1 = 0) && decide ((x_mt k).2.2.2.1 = some .int)) || (decide (r.2.1 = 1) && decide ((x_mt k).2.2.2.1 = some .boolean))
  | .lreturn => decide ((x_mt k).2.2.2.1 = some .long)
  | .return_ => decide ((x_mt k).2.2.2.1 = none)
  | _ => true
def x_rok (k : Nat) (q : Nat × xRow) : Bool := decide (decode (x_mt k).2.1 q.1 = .ok (q.2.1, x_len q.1 q.2.1)) && x_wd k q.1 q.2
theorem rk_0_0 : tl_0_0.all (x_rok 0) = true := by decide +kernel
theorem rk_0_1 : tl_0_1.all (x_rok 0) = true := by decide +kernel
theorem rk_0_2 : tl_0_2.all (x_rok 0) = true := by decide +kernel
theorem rk_0_3 : tl_0_3.all (x_rok 0) = true := by decide +kernel
theorem rk_0_4 : tl_0_4.all (x_rok 0) = true := by decide +kernel
theorem rk_0_5 : tl_0_5.all (x_rok 0) = true := by decide +kernel
theorem rk_0_6 : tl_0_6.all (x_rok 0) = true := by decide +kernel
theorem rk_0_7 : tl_0_7.all (x_rok 0) = true := by decide +kernel
theorem rk_0_8 : tl_0_8.all (x_rok 0) = true := by decide +kernel
theorem rk_0_9 : tl_0_9.all (x_rok 0) = true := by decide +kernel
theorem rk_0_10 : tl_0_10.all (x_rok 0) = true := by decide +kernel
theorem rk_0_11 : tl_0_11.all (x_rok 0) = true := by decide +kernel
theorem rk_0_12 : tl_0_12.all (x_rok 0) = true := by decide +kernel
theorem rk_0_13 : tl_0_13.all (x_rok 0) = true := by decide +kernel
theorem rk_0_14 : tl_0_14.all (x_rok 0) = true := by decide +kernel
theorem rk_0_15 : tl_0_15.all (x_rok 0) = true := by decide +kernel
theorem rk_0_16 : tl_0_16.all (x_rok 0) = true := by decide +kernel
theorem rk_0_17 : tl_0_17.all (x_rok 0) = true := by decide +kernel
theorem rk_0_18 : tl_0_18.all (x_rok 0) = true := by decide +kernel
theorem rk_0_19 : tl_0_19.all (x_rok 0) = true := by decide +kernel
theorem rk_0 : tl_0.all (x_rok 0) = true := by unfold tl_0; simp only [List.all_append, Bool.and_eq_true]; exact ⟨⟨⟨⟨⟨⟨⟨⟨⟨⟨⟨⟨⟨⟨⟨⟨⟨⟨⟨rk_0_0, rk_0_1⟩, rk_0_2⟩, rk_0_3⟩, rk_0_4⟩, rk_0_5⟩, rk_0_6⟩, rk_0_7⟩, rk_0_8⟩, rk_0_9⟩, rk_0_10⟩, rk_0_11⟩, rk_0_12⟩, rk_0_13⟩, rk_0_14⟩, rk_0_15⟩, rk_0_16⟩, rk_0_17⟩, rk_0_18⟩, rk_0_19⟩
theorem rk_1 : tl_1.all (x_rok 1) = true := by decide +kernel
theorem rk_2 : tl_2.all (x_rok 2) = true := by decide +kernel
theorem rk_3 : tl_3.all (x_rok 3) = true := by decide +kernel
theorem rk_4 : tl_4.all (x_rok 4) = true := by decide +kernel
theorem rk_5 : tl_5.all (x_rok 5) = true := by decide +kernel
theorem rk_6 : tl_6.all (x_rok 6) = true := by decide +kernel
theorem rk_7 : tl_7.all (x_rok 7) = true := by decide +kernel
theorem rk_8 : tl_8.all (x_rok 8) = true := by decide +kernel
theorem rk_9 : tl_9.all (x_rok 9) = true := by decide +kernel
theorem rk_10 : tl_10.all (x_rok 10) = true := by decide +kernel
theorem rk_11 : tl_11.all (x_rok 11) = true := by decide +kernel
theorem rk_12 : tl_12.all (x_rok 12) = true := by decide +kernel
theorem rk_13 : tl_13.all (x_rok 13) = true := by decide +kernel
theorem rk_14 : tl_14.all (x_rok 14) = true := by decide +kernel
theorem rk_15 : tl_15.all (x_rok 15) = true := by decide +kernel
theorem rk_16 : tl_16.all (x_rok 16) = true := by decide +kernel
theorem rk_17 : tl_17.all (x_rok 17) = true := by decide +kernel
theorem rk_18 : tl_18.all (x_rok 18) = true := by decide +kernel
theorem rk_19 : tl_19.all (x_rok 19) = true := by decide +kernel
theorem rk_20 : tl_20.all (x_rok 20) = true := by decide +kernel
theorem rk_21 : tl_21.all (x_rok 21) = true := by decide +kernel
theorem rk_22 : tl_22.all (x_rok 22) = true := by decide +kernel
theorem rk_23 : tl_23.all (x_rok 23) = true := by decide +kernel
theorem rk_24 : tl_24.all (x_rok 24) = true := by decide +kernel
theorem rk_25 : tl_25.all (x_rok 25) = true := by decide +kernel
theorem rk_26 : tl_26.all (x_rok 26) = true := by decide +kernel
theorem rk_27 : tl_27.all (x_rok 27) = true := by decide +kernel
theorem rk_28 : tl_28.all (x_rok 28) = true := by decide +kernel
theorem rk_29 : tl_29.all (x_rok 29) = true := by decide +kernel
theorem rk_30 : tl_30.all (x_rok 30) = true := by decide +kernel
theorem rk_31 : tl_31.all (x_rok 31) = true := by decide +kernel
theorem rk_32 : tl_32.all (x_rok 32) = true := by decide +kernel
theorem rk_33 : tl_33.all (x_rok 33) = true := by decide +kernel
theorem rk_34 : tl_34.all (x_rok 34) = true := by decide +kernel
theorem rk_35 : tl_35.all (x_rok 35) = true := by decide +kernel
theorem rk_36 : tl_36.all (x_rok 36) = true := by decide +kernel
theorem rk_37 : tl_37.all (x_rok 37) = true := by decide +kernel
theorem rk_38 : tl_38.all (x_rok 38) = true := by decide +kernel
theorem rk_39 : tl_39.all (x_rok 39) = true := by decide +kernel
theorem rk_40 : tl_40.all (x_rok 40) = true := by decide +kernel
theorem rk_41 : tl_41.all (x_rok 41) = true := by decide +kernel
theorem rk_42 : tl_42.all (x_rok 42) = true := by decide +kernel
theorem rk_43 : tl_43.all (x_rok 43) = true := by decide +kernel
theorem rk_44 : tl_44.all (x_rok 44) = true := by decide +kernel
theorem rk_45 : tl_45.all (x_rok 45) = true := by decide +kernel
theorem rk_46 : tl_46.all (x_rok 46) = true := by decide +kernel
theorem rk_47 : tl_47.all (x_rok 47) = true := by decide +kernel
theorem rk_48 : tl_48.all (x_rok 48) = true := by decide +kernel
theorem rk_49 : tl_49.all (x_rok 49) = true := by decide +kernel
theorem rk_50 : tl_50.all (x_rok 50) = true := by decide +kernel
theorem rk_51 : tl_51.all (x_rok 51) = true := by decide +kernel
theorem rk_52 : tl_52.all (x_rok 52) = true := by decide +kernel
theorem rk_53 : tl_53.all (x_rok 53) = true := by decide +kernel
theorem rk_54 : tl_54.all (x_rok 54) = true := by decide +kernel
theorem rk_55 : tl_55.all (x_rok 55) = true := by decide +kernel
theorem rk_56 : tl_56.all (x_rok 56) = true := by decide +kernel
theorem rk_57 : tl_57.all (x_rok 57) = true := by decide +kernel
theorem rk_58 : tl_58.all (x_rok 58) = true := by decide +kernel
theorem rk_59 : tl_59.all (x_rok 59) = true := by decide +kernel
theorem rk_60 : tl_60.all (x_rok 60) = true := by decide +kernel
theorem rk_61 : tl_61.all (x_rok 61) = true := by decide +kernel
theorem rk_62 : tl_62.all (x_rok 62) = true := by decide +kernel
theorem rk_63 : tl_63.all (x_rok 63) = true := by decide +kernel
theorem rk_64 : tl_64.all (x_rok 64) = true := by decide +kernel
theorem rk_65 : tl_65.all (x_rok 65) = true := by decide +kernel
theorem rk_66 : tl_66.all (x_rok 66) = true := by decide +kernel
theorem rk_67 : tl_67.all (x_rok 67) = true := by decide +kernel
theorem rk_68 : tl_68.all (x_rok 68) = true := by decide +kernel
theorem rk_69 : tl_69.all (x_rok 69) = true := by decide +kernel
theorem rk_70 : tl_70.all (x_rok 70) = true := by decide +kernel
theorem rk_71 : tl_71.all (x_rok 71) = true := by decide +kernel
theorem rk_72 : tl_72.all (x_rok 72) = true := by decide +kernel
theorem rk_73 : tl_73.all (x_rok 73) = true := by decide +kernel
theorem rk_74 : tl_74.all (x_rok 74) = true := by decide +kernel
theorem rk_75 : tl_75.all (x_rok 75) = true := by decide +kernel
theorem rk_76 : tl_76.all (x_rok 76) = true := by decide +kernel
theorem rk_77 : tl_77.all (x_rok 77) = true := by decide +kernel
theorem rk_78 : tl_78.all (x_rok 78) = true := by decide +kernel
theorem rk_79 : tl_79.all (x_rok 79) = true := by decide +kernel
theorem rk_80 : tl_80.all (x_rok 80) = true := by decide +kernel
theorem rk_81 : tl_81.all (x_rok 81) = true := by decide +kernel
theorem rk_82 : tl_82.all (x_rok 82) = true := by decide +kernel
theorem rk_83 : tl_83.all (x_rok 83) = true := by decide +kernel
theorem rk_84 : tl_84.all (x_rok 84) = true := by decide +kernel
theorem rk_85 : tl_85.all (x_rok 85) = true := by decide +kernel
theorem rk_86 : tl_86.all (x_rok 86) = true := by decide +kernel
theorem rk_87 : tl_87.all (x_rok 87) = true := by decide +kernel
theorem rk_88 : tl_88.all (x_rok 88) = true := by decide +kernel
theorem rk_89 : tl_89.all (x_rok 89) = true := by decide +kernel
theorem rk_90 : tl_90.all (x_rok 90) = true := by decide +kernel
theorem rk_91 : tl_91.all (x_rok 91) = true := by decide +kernel
theorem rk_92 : tl_92.all (x_rok 92) = true := by decide +kernel
theorem rk_93 : tl_93.all (x_rok 93) = true := by decide +kernel
theorem rk_94 : tl_94.all (x_rok 94) = true := by decide +kernel
theorem rk_95 : tl_95.all (x_rok 95) = true := by decide +kernel
theorem rk_96 : tl_96.all (x_rok 96) = true := by decide +kernel
theorem rk_97 : tl_97.all (x_rok 97) = true := by decide +kernel
theorem rk_98 : tl_98.all (x_rok 98) = true := by decide +kernel
theorem rk_99 : tl_99.all (x_rok 99) = true := by decide +kernel
theorem rk_100 : tl_100.all (x_rok 100) = true := by decide +kernel
theorem rk_101 : tl_101.all (x_rok 101) = true := by decide +kernel
theorem rk_102 : tl_102.all (x_rok 102) = true := by decide +kernel
theorem rk_103 : tl_103.all (x_rok 103) = true := by decide +kernel
theorem rk_104 : tl_104.all (x_rok 104) = true := by decide +kernel
theorem rk_105 : tl_105.all (x_rok 105) = true := by decide +kernel
theorem rk_106 : tl_106.all (x_rok 106) = true := by decide +kernel
theorem rk_107 : tl_107.all (x_rok 107) = true := by decide +kernel
theorem rk_108 : tl_108.all (x_rok 108) = true := by decide +kernel
theorem rk_109 : tl_109.all (x_rok 109) = true := by decide +kernel
theorem rk_110 : tl_110.all (x_rok 110) = true := by decide +kernel
theorem rk_111 : tl_111.all (x_rok 111) = true := by decide +kernel
theorem rk_112 : tl_112.all (x_rok 112) = true := by decide +kernel
theorem rk_113 : tl_113.all (x_rok 113) = true := by decide +kernel
theorem rk_114 : tl_114.all (x_rok 114) = true := by decide +kernel
theorem rk_115 : tl_115.all (x_rok 115) = true := by decide +kernel
theorem rk_116 : tl_116.all (x_rok 116) = true := by decide +kernel
theorem rk_117 : tl_117.all (x_rok 117) = true := by decide +kernel
theorem rk_118 : tl_118.all (x_rok 118) = true := by decide +kernel
theorem rk_119 : tl_119.all (x_rok 119) = true := by decide +kernel
theorem rk_120 : tl_120.all (x_rok 120) = true := by decide +kernel
theorem rk_121 : tl_121.all (x_rok 121) = true := by decide +kernel
theorem rk_122 : tl_122.all (x_rok 122) = true := by decide +kernel
theorem rk_123 : tl_123.all (x_rok 123) = true := by decide +kernel
theorem rk_124 : tl_124.all (x_rok 124) = true := by decide +kernel
theorem rk_125 : tl_125.all (x_rok 125) = true := by decide +kernel
theorem rk_126 : tl_126.all (x_rok 126) = true := by decide +kernel
theorem rk_127 : tl_127.all (x_rok 127) = true := by decide +kernel
theorem rk_128 : tl_128.all (x_rok 128) = true := by decide +kernel
theorem rk_129 : tl_129.all (x_rok 129) = true := by decide +kernel
theorem rk_130 : tl_130.all (x_rok 130) = true := by decide +kernel
theorem rk_131 : tl_131.all (x_rok 131) = true := by decide +kernel
theorem rk_132 : tl_132.all (x_rok 132) = true := by decide +kernel
theorem rk_133 : tl_133.all (x_rok 133) = true := by decide +kernel
theorem rk_134 : tl_134.all (x_rok 134) = true := by decide +kernel
theorem rk_135 : tl_135.all (x_rok 135) = true := by decide +kernel
theorem rk_136 : tl_136.all (x_rok 136) = true := by decide +kernel
theorem rk_137 : tl_137.all (x_rok 137) = true := by decide +kernel
theorem rk_138 : tl_138.all (x_rok 138) = true := by decide +kernel
theorem rk_139 : tl_139.all (x_rok 139) = true := by decide +kernel
theorem rk_140 : tl_140.all (x_rok 140) = true := by decide +kernel
theorem rk_141 : tl_141.all (x_rok 141) = true := by decide +kernel
theorem rk_142 : tl_142.all (x_rok 142) = true := by decide +kernel
theorem rk_143 : tl_143.all (x_rok 143) = true := by decide +kernel
theorem rk_144 : tl_144.all (x_rok 144) = true := by decide +kernel
theorem rk_145 : tl_145.all (x_rok 145) = true := by decide +kernel
theorem rk_146 : tl_146.all (x_rok 146) = true := by decide +kernel
theorem rk_147 : tl_147.all (x_rok 147) = true := by decide +kernel
theorem rk_148 : tl_148.all (x_rok 148) = true := by decide +kernel
theorem rk_149 : tl_149.all (x_rok 149) = true := by decide +kernel
theorem rk_150 : tl_150.all (x_rok 150) = true := by decide +kernel
theorem rk_151 : tl_151.all (x_rok 151) = true := by decide +kernel
theorem rk_152 : tl_152.all (x_rok 152) = true := by decide +kernel
theorem rk_153 : tl_153.all (x_rok 153) = true := by decide +kernel
theorem rk_154 : tl_154.all (x_rok 154) = true := by decide +kernel
theorem rk_155 : tl_155.all (x_rok 155) = true := by decide +kernel
theorem rk_156 : tl_156.all (x_rok 156) = true := by decide +kernel
theorem rk_157 : tl_157.all (x_rok 157) = true := by decide +kernel
theorem rk_158 : tl_158.all (x_rok 158) = true := by decide +kernel
theorem rk_159 : tl_159.all (x_rok 159) = true := by decide +kernel
theorem rk_160 : tl_160.all (x_rok 160) = true := by decide +kernel
theorem rk_161 : tl_161.all (x_rok 161) = true := by decide +kernel
theorem rk_162 : tl_162.all (x_rok 162) = true := by decide +kernel
theorem rk_163 : tl_163.all (x_rok 163) = true := by decide +kernel
theorem rk_164 : tl_164.all (x_rok 164) = true := by decide +kernel
theorem rk_165 : tl_165.all (x_rok 165) = true := by decide +kernel
theorem rk_166 : tl_166.all (x_rok 166) = true := by decide +kernel
theorem rk_167 : tl_167.all (x_rok 167) = true := by decide +kernel
theorem rk_168 : tl_168.all (x_rok 168) = true := by decide +kernel
def x_oks : List (List (Nat × xRow)) → Nat → Prop
  | [], _ => True
  | l :: r, k => l.all (x_rok k) = true ∧ x_oks r (k + 1)
theorem x_oks_all : x_oks x_tls 0 := ⟨rk_0, rk_1, rk_2, rk_3, rk_4, rk_5, rk_6, rk_7, rk_8, rk_9, rk_10, rk_11, rk_12, rk_13, rk_14, rk_15, rk_16, rk_17, rk_18, rk_19, rk_20, rk_21, rk_22, rk_23, rk_24, rk_25, rk_26, rk_27, rk_28, rk_29, rk_30, rk_31, rk_32, rk_33, rk_34, rk_35, rk_36, rk_37, rk_38, rk_39, rk_40, rk_41, rk_42, rk_43, rk_44, rk_45, rk_46, rk_47, rk_48, rk_49, rk_50, rk_51, rk_52, rk_53, rk_54, rk_55, rk_56, rk_57, rk_58, rk_59, rk_60, rk_61, rk_62, rk_63, rk_64, rk_65, rk_66, rk_67, rk_68, rk_69, rk_70, rk_71, rk_72, rk_73, rk_74, rk_75, rk_76, rk_77, rk_78, rk_79, rk_80, rk_81, rk_82, rk_83, rk_84, rk_85, rk_86, rk_87, rk_88, rk_89, rk_90, rk_91, rk_92, rk_93, rk_94, rk_95, rk_96, rk_97, rk_98, rk_99, rk_100, rk_101, rk_102, rk_103, rk_104, rk_105, rk_106, rk_107, rk_108, rk_109, rk_110, rk_111, rk_112, rk_113, rk_114, rk_115, rk_116, rk_117, rk_118, rk_119, rk_120, rk_121, rk_122, rk_123, rk_124, rk_125, rk_126, rk_127, rk_128, rk_129, rk_130, rk_131, rk_132, rk_133, rk_134, rk_135, rk_136, rk_137, rk_138, rk_139, rk_140, rk_141, rk_142, rk_143, rk_144, rk_145, rk_146, rk_147, rk_148, rk_149, rk_150, rk_151, rk_152, rk_153, rk_154, rk_155, rk_156, rk_157, rk_158, rk_159, rk_160, rk_161, rk_162, rk_163, rk_164, rk_165, rk_166, rk_167, rk_168, trivial⟩
theorem x_oks_nth : ∀ (T : List (List (Nat × xRow))) (k0 : Nat), x_oks T k0 → ∀ k, (x_nth [] T k).all (x_rok (k0 + k)) = true
  | [], _, _, _ => rfl
  | l :: r, k0, h, 0 => h.1
  | l :: r, k0, h, k + 1 => by
    have h1 := x_oks_nth r (k0 + 1) h.2 k
    rw [show k0 + 1 + k = k0 + (k + 1) by omega] at h1
    exact h1
theorem x_lk_mem : ∀ (l : List (Nat × xRow)) (pc : Nat) (r : xRow), x_lk l pc = some r → (pc, r) ∈ l
  | [], pc, r, h => by cases h
  | (k, q) :: t, pc, r, h => by
    unfold x_lk at h
    cases hb : Nat.beq k pc with
    | true =>
      rw [hb] at h
      have e1 : q = r := Option.some.inj h
      have e2 : k = pc := Nat.eq_of_beq_eq_true hb
      subst e1; subst e2
      exact List.mem_cons_self
    | false =>
      rw [hb] at h
      exact List.mem_cons_of_mem _ (x_lk_mem t pc r h)
theorem x_row {k pc : Nat} {r : xRow} (h : x_tb k pc = some r) : decode (x_mt k).2.1 pc = .ok (r.1, x_len pc r.1) ∧ x_wd k pc r = true := by
  have h1 := List.all_eq_true.mp (x_oks_nth x_tls 0 x_oks_all k) _ (x_lk_mem _ _ _ h)
  rw [Nat.zero_add] at h1
  unfold x_rok at h1
  simp only [Bool.and_eq_true, decide_eq_true_eq] at h1
  exact h1
end
section
/-! THE METHODS' WORDS -/
def x_gw : List Cond := lw_tbl.filter goodWord
theorem x_gw_mem {w : Cond} (h : w ∈ lw_tbl) (hg : goodWord w = true) : w ∈ x_gw := List.mem_filter.mpr ⟨h, hg⟩
def x_MOk (m : x_MT) : Prop := Cond.code m.1 m.2.1 m.2.2.1 m.2.2.2.1 ∈ lw_tbl ∧ Cond.initialized m.1.cls ∈ lw_tbl ∧ (plainName m.1.cls = true ∧ m.1.cls ≠ "java/lang/invoke/MethodHandle" ∧ m.1.cls ≠ "java/lang/invoke/VarHandle" ∧ (parseMethodDescriptor m.1.desc).map (fun d => d.parameters.length) = some m.2.2.2.2.2 ∧ m.2.2.1 ≤ 11) ∧ ((m.2.2.2.2.1 = 99 ∧ Cond.static m.1 ∈ lw_tbl) ∨ (m.2.2.2.2.1 < 8 ∧ (x_cls[m.2.2.2.2.1]?).map (fun q => q.1) = some m.1.cls ∧ Cond.instanceMethod m.1 ∈ lw_tbl ∧ Cond.selects m.1.cls m.1 m.1 ∈ lw_tbl))
set_option maxRecDepth 100000 in
theorem mk_1 : x_MOk (x_mt 1) := ⟨List.mem_of_getElem? (i := 248) rfl, List.mem_of_getElem? (i := 43) (by decide +kernel), ⟨by decide +kernel, by decide +kernel, by decide +kernel, by decide +kernel, by decide⟩, Or.inr ⟨by decide, by decide +kernel, List.mem_of_getElem? (i := 246) (by decide +kernel), List.mem_of_getElem? (i := 247) (by decide +kernel)⟩⟩
set_option maxRecDepth 100000 in
theorem mk_2 : x_MOk (x_mt 2) := ⟨List.mem_of_getElem? (i := 251) rfl, List.mem_of_getElem? (i := 43) (by decide +kernel), ⟨by decide +kernel, by decide +kernel, by decide +kernel, by decide +kernel, by decide⟩, Or.inl ⟨rfl, List.mem_of_getElem? (i := 250) (by decide +kernel)⟩⟩
set_option maxRecDepth 100000 in
theorem mk_3 : x_MOk (x_mt 3) := ⟨List.mem_of_getElem? (i := 254) rfl, List.mem_of_getElem? (i := 43) (by decide +kernel), ⟨by decide +kernel, by decide +kernel, by decide +kernel, by decide +kernel, by decide⟩, Or.inl ⟨rfl, List.mem_of_getElem? (i := 253) (by decide +kernel)⟩⟩
set_option maxRecDepth 100000 in
theorem mk_4 : x_MOk (x_mt 4) := ⟨List.mem_of_getElem? (i := 258) rfl, List.mem_of_getElem? (i := 44) (by decide +kernel), ⟨by decide +kernel, by decide +kernel, by decide +kernel, by decide +kernel, by decide⟩, Or.inr ⟨by decide, by decide +kernel, List.mem_of_getElem? (i := 256) (by decide +kernel), List.mem_of_getElem? (i := 257) (by decide +kernel)⟩⟩
set_option maxRecDepth 100000 in
theorem mk_5 : x_MOk (x_mt 5) := ⟨List.mem_of_getElem? (i := 262) rfl, List.mem_of_getElem? (i := 44) (by decide +kernel), ⟨by decide +kernel, by decide +kernel, by decide +kernel, by decide +kernel, by decide⟩, Or.inr ⟨by decide, by decide +kernel, List.mem_of_getElem? (i := 260) (by decide +kernel), List.mem_of_getElem? (i := 261) (by decide +kernel)⟩⟩
set_option maxRecDepth 100000 in
theorem mk_6 : x_MOk (x_mt 6) := ⟨List.mem_of_getElem? (i := 266) rfl, List.mem_of_getElem? (i := 43) (by decide +kernel), ⟨by decide +kernel, by decide +kernel, by decide +kernel, by decide +kernel, by decide⟩, Or.inr ⟨by decide, by decide +kernel, List.mem_of_getElem? (i := 265) (by decide +kernel), List.mem_of_getElem? (i := 0) (by decide +kernel)⟩⟩
set_option maxRecDepth 100000 in
theorem mk_7 : x_MOk (x_mt 7) := ⟨List.mem_of_getElem? (i := 270) rfl, List.mem_of_getElem? (i := 46) (by decide +kernel), ⟨by decide +kernel, by decide +kernel, by decide +kernel, by decide +kernel, by decide⟩, Or.inr ⟨by decide, by decide +kernel, List.mem_of_getElem? (i := 268) (by decide +kernel), List.mem_of_getElem? (i := 269) (by decide +kernel)⟩⟩
set_option maxRecDepth 100000 in
theorem mk_8 : x_MOk (x_mt 8) := ⟨List.mem_of_getElem? (i := 274) rfl, List.mem_of_getElem? (i := 44) (by decide +kernel), ⟨by decide +kernel, by decide +kernel, by decide +kernel, by decide +kernel, by decide⟩, Or.inr ⟨by decide, by decide +kernel, List.mem_of_getElem? (i := 272) (by decide +kernel), List.mem_of_getElem? (i := 273) (by decide +kernel)⟩⟩
set_option maxRecDepth 100000 in
theorem mk_9 : x_MOk (x_mt 9) := ⟨List.mem_of_getElem? (i := 278) rfl, List.mem_of_getElem? (i := 46) (by decide +kernel), ⟨by decide +kernel, by decide +kernel, by decide +kernel, by decide +kernel, by decide⟩, Or.inr ⟨by decide, by decide +kernel, List.mem_of_getElem? (i := 276) (by decide +kernel), List.mem_of_getElem? (i := 277) (by decide +kernel)⟩⟩
set_option maxRecDepth 100000 in
theorem mk_10 : x_MOk (x_mt 10) := ⟨List.mem_of_getElem? (i := 282) rfl, List.mem_of_getElem? (i := 46) (by decide +kernel), ⟨by decide +kernel, by decide +kernel, by decide +kernel, by decide +kernel, by decide⟩, Or.inr ⟨by decide, by decide +kernel, List.mem_of_getElem? (i := 280) (by decide +kernel), List.mem_of_getElem? (i := 281) (by decide +kernel)⟩⟩
set_option maxRecDepth 100000 in
theorem mk_11 : x_MOk (x_mt 11) := ⟨List.mem_of_getElem? (i := 286) rfl, List.mem_of_getElem? (i := 46) (by decide +kernel), ⟨by decide +kernel, by decide +kernel, by decide +kernel, by decide +kernel, by decide⟩, Or.inr ⟨by decide, by decide +kernel, List.mem_of_getElem? (i := 284) (by decide +kernel), List.mem_of_getElem? (i := 285) (by decide +kernel)⟩⟩
set_option maxRecDepth 100000 in
theorem mk_12 : x_MOk (x_mt 12) := ⟨List.mem_of_getElem? (i := 290) rfl, List.mem_of_getElem? (i := 46) (by decide +kernel), ⟨by decide +kernel, by decide +kernel, by decide +kernel, by decide +kernel, by decide⟩, Or.inr ⟨by decide, by decide +kernel, List.mem_of_getElem? (i := 288) (by decide +kernel), List.mem_of_getElem? (i := 289) (by decide +kernel)⟩⟩
set_option maxRecDepth 100000 in
theorem mk_13 : x_MOk (x_mt 13) := ⟨List.mem_of_getElem? (i := 294) rfl, List.mem_of_getElem? (i := 45) (by decide +kernel), ⟨by decide +kernel, by decide +kernel, by decide +kernel, by decide +kernel, by decide⟩, Or.inr ⟨by decide, by decide +kernel, List.mem_of_getElem? (i := 292) (by decide +kernel), List.mem_of_getElem? (i := 293) (by decide +kernel)⟩⟩
set_option maxRecDepth 100000 in
theorem mk_14 : x_MOk (x_mt 14) := ⟨List.mem_of_getElem? (i := 298) rfl, List.mem_of_getElem? (i := 45) (by decide +kernel), ⟨by decide +kernel, by decide +kernel, by decide +kernel, by decide +kernel, by decide⟩, Or.inr ⟨by decide, by decide +kernel, List.mem_of_getElem? (i := 296) (by decide +kernel), List.mem_of_getElem? (i := 297) (by decide +kernel)⟩⟩
set_option maxRecDepth 100000 in
theorem mk_15 : x_MOk (x_mt 15) := ⟨List.mem_of_getElem? (i := 303) rfl, List.mem_of_getElem? (i := 46) (by decide +kernel), ⟨by decide +kernel, by decide +kernel, by decide +kernel, by decide +kernel, by decide⟩, Or.inr ⟨by decide, by decide +kernel, List.mem_of_getElem? (i := 301) (by decide +kernel), List.mem_of_getElem? (i := 302) (by decide +kernel)⟩⟩
set_option maxRecDepth 100000 in
theorem mk_16 : x_MOk (x_mt 16) := ⟨List.mem_of_getElem? (i := 307) rfl, List.mem_of_getElem? (i := 45) (by decide +kernel), ⟨by decide +kernel, by decide +kernel, by decide +kernel, by decide +kernel, by decide⟩, Or.inr ⟨by decide, by decide +kernel, List.mem_of_getElem? (i := 305) (by decide +kernel), List.mem_of_getElem? (i := 306) (by decide +kernel)⟩⟩
set_option maxRecDepth 100000 in
theorem mk_17 : x_MOk (x_mt 17) := ⟨List.mem_of_getElem? (i := 311) rfl, List.mem_of_getElem? (i := 45) (by decide +kernel), ⟨by decide +kernel, by decide +kernel, by decide +kernel, by decide +kernel, by decide⟩, Or.inr ⟨by decide, by decide +kernel, List.mem_of_getElem? (i := 309) (by decide +kernel), List.mem_of_getElem? (i := 310) (by decide +kernel)⟩⟩
set_option maxRecDepth 100000 in
theorem mk_18 : x_MOk (x_mt 18) := ⟨List.mem_of_getElem? (i := 314) rfl, List.mem_of_getElem? (i := 43) (by decide +kernel), ⟨by decide +kernel, by decide +kernel, by decide +kernel, by decide +kernel, by decide⟩, Or.inl ⟨rfl, List.mem_of_getElem? (i := 313) (by decide +kernel)⟩⟩
set_option maxRecDepth 100000 in
theorem mk_19 : x_MOk (x_mt 19) := ⟨List.mem_of_getElem? (i := 318) rfl, List.mem_of_getElem? (i := 45) (by decide +kernel), ⟨by decide +kernel, by decide +kernel, by decide +kernel, by decide +kernel, by decide⟩, Or.inr ⟨by decide, by decide +kernel, List.mem_of_getElem? (i := 316) (by decide +kernel), List.mem_of_getElem? (i := 317) (by decide +kernel)⟩⟩
set_option maxRecDepth 100000 in
theorem mk_20 : x_MOk (x_mt 20) := ⟨List.mem_of_getElem? (i := 325) rfl, List.mem_of_getElem? (i := 49) (by decide +kernel), ⟨by decide +kernel, by decide +kernel, by decide +kernel, by decide +kernel, by decide⟩, Or.inr ⟨by decide, by decide +kernel, List.mem_of_getElem? (i := 323) (by decide +kernel), List.mem_of_getElem? (i := 324) (by decide +kernel)⟩⟩
set_option maxRecDepth 100000 in
theorem mk_21 : x_MOk (x_mt 21) := ⟨List.mem_of_getElem? (i := 329) rfl, List.mem_of_getElem? (i := 43) (by decide +kernel), ⟨by decide +kernel, by decide +kernel, by decide +kernel, by decide +kernel, by decide⟩, Or.inr ⟨by decide, by decide +kernel, List.mem_of_getElem? (i := 327) (by decide +kernel), List.mem_of_getElem? (i := 328) (by decide +kernel)⟩⟩
set_option maxRecDepth 100000 in
theorem mk_22 : x_MOk (x_mt 22) := ⟨List.mem_of_getElem? (i := 334) rfl, List.mem_of_getElem? (i := 45) (by decide +kernel), ⟨by decide +kernel, by decide +kernel, by decide +kernel, by decide +kernel, by decide⟩, Or.inr ⟨by decide, by decide +kernel, List.mem_of_getElem? (i := 332) (by decide +kernel), List.mem_of_getElem? (i := 333) (by decide +kernel)⟩⟩
set_option maxRecDepth 100000 in
theorem mk_23 : x_MOk (x_mt 23) := ⟨List.mem_of_getElem? (i := 338) rfl, List.mem_of_getElem? (i := 45) (by decide +kernel), ⟨by decide +kernel, by decide +kernel, by decide +kernel, by decide +kernel, by decide⟩, Or.inr ⟨by decide, by decide +kernel, List.mem_of_getElem? (i := 336) (by decide +kernel), List.mem_of_getElem? (i := 337) (by decide +kernel)⟩⟩
set_option maxRecDepth 100000 in
theorem mk_24 : x_MOk (x_mt 24) := ⟨List.mem_of_getElem? (i := 342) rfl, List.mem_of_getElem? (i := 45) (by decide +kernel), ⟨by decide +kernel, by decide +kernel, by decide +kernel, by decide +kernel, by decide⟩, Or.inr ⟨by decide, by decide +kernel, List.mem_of_getElem? (i := 340) (by decide +kernel), List.mem_of_getElem? (i := 341) (by decide +kernel)⟩⟩
set_option maxRecDepth 100000 in
theorem mk_25 : x_MOk (x_mt 25) := ⟨List.mem_of_getElem? (i := 346) rfl, List.mem_of_getElem? (i := 52) (by decide +kernel), ⟨by decide +kernel, by decide +kernel, by decide +kernel, by decide +kernel, by decide⟩, Or.inl ⟨rfl, List.mem_of_getElem? (i := 345) (by decide +kernel)⟩⟩
set_option maxRecDepth 100000 in
theorem mk_26 : x_MOk (x_mt 26) := ⟨List.mem_of_getElem? (i := 353) rfl, List.mem_of_getElem? (i := 45) (by decide +kernel), ⟨by decide +kernel, by decide +kernel, by decide +kernel, by decide +kernel, by decide⟩, Or.inr ⟨by decide, by decide +kernel, List.mem_of_getElem? (i := 351) (by decide +kernel), List.mem_of_getElem? (i := 352) (by decide +kernel)⟩⟩
set_option maxRecDepth 100000 in
theorem mk_27 : x_MOk (x_mt 27) := ⟨List.mem_of_getElem? (i := 357) rfl, List.mem_of_getElem? (i := 45) (by decide +kernel), ⟨by decide +kernel, by decide +kernel, by decide +kernel, by decide +kernel, by decide⟩, Or.inr ⟨by decide, by decide +kernel, List.mem_of_getElem? (i := 355) (by decide +kernel), List.mem_of_getElem? (i := 356) (by decide +kernel)⟩⟩
set_option maxRecDepth 100000 in
theorem mk_28 : x_MOk (x_mt 28) := ⟨List.mem_of_getElem? (i := 360) rfl, List.mem_of_getElem? (i := 52) (by decide +kernel), ⟨by decide +kernel, by decide +kernel, by decide +kernel, by decide +kernel, by decide⟩, Or.inl ⟨rfl, List.mem_of_getElem? (i := 359) (by decide +kernel)⟩⟩
set_option maxRecDepth 100000 in
theorem mk_29 : x_MOk (x_mt 29) := ⟨List.mem_of_getElem? (i := 365) rfl, List.mem_of_getElem? (i := 45) (by decide +kernel), ⟨by decide +kernel, by decide +kernel, by decide +kernel, by decide +kernel, by decide⟩, Or.inr ⟨by decide, by decide +kernel, List.mem_of_getElem? (i := 363) (by decide +kernel), List.mem_of_getElem? (i := 364) (by decide +kernel)⟩⟩
set_option maxRecDepth 100000 in
theorem mk_30 : x_MOk (x_mt 30) := ⟨List.mem_of_getElem? (i := 369) rfl, List.mem_of_getElem? (i := 45) (by decide +kernel), ⟨by decide +kernel, by decide +kernel, by decide +kernel, by decide +kernel, by decide⟩, Or.inr ⟨by decide, by decide +kernel, List.mem_of_getElem? (i := 367) (by decide +kernel), List.mem_of_getElem? (i := 368) (by decide +kernel)⟩⟩
set_option maxRecDepth 100000 in
theorem mk_31 : x_MOk (x_mt 31) := ⟨List.mem_of_getElem? (i := 373) rfl, List.mem_of_getElem? (i := 45) (by decide +kernel), ⟨by decide +kernel, by decide +kernel, by decide +kernel, by decide +kernel, by decide⟩, Or.inr ⟨by decide, by decide +kernel, List.mem_of_getElem? (i := 371) (by decide +kernel), List.mem_of_getElem? (i := 372) (by decide +kernel)⟩⟩
set_option maxRecDepth 100000 in
theorem mk_32 : x_MOk (x_mt 32) := ⟨List.mem_of_getElem? (i := 377) rfl, List.mem_of_getElem? (i := 45) (by decide +kernel), ⟨by decide +kernel, by decide +kernel, by decide +kernel, by decide +kernel, by decide⟩, Or.inr ⟨by decide, by decide +kernel, List.mem_of_getElem? (i := 375) (by decide +kernel), List.mem_of_getElem? (i := 376) (by decide +kernel)⟩⟩
set_option maxRecDepth 100000 in
theorem mk_33 : x_MOk (x_mt 33) := ⟨List.mem_of_getElem? (i := 382) rfl, List.mem_of_getElem? (i := 43) (by decide +kernel), ⟨by decide +kernel, by decide +kernel, by decide +kernel, by decide +kernel, by decide⟩, Or.inr ⟨by decide, by decide +kernel, List.mem_of_getElem? (i := 380) (by decide +kernel), List.mem_of_getElem? (i := 381) (by decide +kernel)⟩⟩
set_option maxRecDepth 100000 in
theorem mk_34 : x_MOk (x_mt 34) := ⟨List.mem_of_getElem? (i := 386) rfl, List.mem_of_getElem? (i := 45) (by decide +kernel), ⟨by decide +kernel, by decide +kernel, by decide +kernel, by decide +kernel, by decide⟩, Or.inr ⟨by decide, by decide +kernel, List.mem_of_getElem? (i := 384) (by decide +kernel), List.mem_of_getElem? (i := 385) (by decide +kernel)⟩⟩
set_option maxRecDepth 100000 in
theorem mk_35 : x_MOk (x_mt 35) := ⟨List.mem_of_getElem? (i := 390) rfl, List.mem_of_getElem? (i := 45) (by decide +kernel), ⟨by decide +kernel, by decide +kernel, by decide +kernel, by decide +kernel, by decide⟩, Or.inr ⟨by decide, by decide +kernel, List.mem_of_getElem? (i := 388) (by decide +kernel), List.mem_of_getElem? (i := 389) (by decide +kernel)⟩⟩
set_option maxRecDepth 100000 in
theorem mk_36 : x_MOk (x_mt 36) := ⟨List.mem_of_getElem? (i := 395) rfl, List.mem_of_getElem? (i := 43) (by decide +kernel), ⟨by decide +kernel, by decide +kernel, by decide +kernel, by decide +kernel, by decide⟩, Or.inr ⟨by decide, by decide +kernel, List.mem_of_getElem? (i := 393) (by decide +kernel), List.mem_of_getElem? (i := 394) (by decide +kernel)⟩⟩
set_option maxRecDepth 100000 in
theorem mk_37 : x_MOk (x_mt 37) := ⟨List.mem_of_getElem? (i := 399) rfl, List.mem_of_getElem? (i := 45) (by decide +kernel), ⟨by decide +kernel, by decide +kernel, by decide +kernel, by decide +kernel, by decide⟩, Or.inr ⟨by decide, by decide +kernel, List.mem_of_getElem? (i := 397) (by decide +kernel), List.mem_of_getElem? (i := 398) (by decide +kernel)⟩⟩
set_option maxRecDepth 100000 in
theorem mk_38 : x_MOk (x_mt 38) := ⟨List.mem_of_getElem? (i := 404) rfl, List.mem_of_getElem? (i := 45) (by decide +kernel), ⟨by decide +kernel, by decide +kernel, by decide +kernel, by decide +kernel, by decide⟩, Or.inr ⟨by decide, by decide +kernel, List.mem_of_getElem? (i := 402) (by decide +kernel), List.mem_of_getElem? (i := 403) (by decide +kernel)⟩⟩
set_option maxRecDepth 100000 in
theorem mk_39 : x_MOk (x_mt 39) := ⟨List.mem_of_getElem? (i := 409) rfl, List.mem_of_getElem? (i := 43) (by decide +kernel), ⟨by decide +kernel, by decide +kernel, by decide +kernel, by decide +kernel, by decide⟩, Or.inr ⟨by decide, by decide +kernel, List.mem_of_getElem? (i := 407) (by decide +kernel), List.mem_of_getElem? (i := 408) (by decide +kernel)⟩⟩
set_option maxRecDepth 100000 in
theorem mk_40 : x_MOk (x_mt 40) := ⟨List.mem_of_getElem? (i := 412) rfl, List.mem_of_getElem? (i := 43) (by decide +kernel), ⟨by decide +kernel, by decide +kernel, by decide +kernel, by decide +kernel, by decide⟩, Or.inl ⟨rfl, List.mem_of_getElem? (i := 411) (by decide +kernel)⟩⟩
set_option maxRecDepth 100000 in
theorem mk_41 : x_MOk (x_mt 41) := ⟨List.mem_of_getElem? (i := 416) rfl, List.mem_of_getElem? (i := 43) (by decide +kernel), ⟨by decide +kernel, by decide +kernel, by decide +kernel, by decide +kernel, by decide⟩, Or.inr ⟨by decide, by decide +kernel, List.mem_of_getElem? (i := 415) (by decide +kernel), List.mem_of_getElem? (i := 1) (by decide +kernel)⟩⟩
set_option maxRecDepth 100000 in
theorem mk_42 : x_MOk (x_mt 42) := ⟨List.mem_of_getElem? (i := 420) rfl, List.mem_of_getElem? (i := 43) (by decide +kernel), ⟨by decide +kernel, by decide +kernel, by decide +kernel, by decide +kernel, by decide⟩, Or.inr ⟨by decide, by decide +kernel, List.mem_of_getElem? (i := 419) (by decide +kernel), List.mem_of_getElem? (i := 2) (by decide +kernel)⟩⟩
set_option maxRecDepth 100000 in
theorem mk_43 : x_MOk (x_mt 43) := ⟨List.mem_of_getElem? (i := 427) rfl, List.mem_of_getElem? (i := 43) (by decide +kernel), ⟨by decide +kernel, by decide +kernel, by decide +kernel, by decide +kernel, by decide⟩, Or.inr ⟨by decide, by decide +kernel, List.mem_of_getElem? (i := 425) (by decide +kernel), List.mem_of_getElem? (i := 426) (by decide +kernel)⟩⟩
set_option maxRecDepth 100000 in
theorem mk_44 : x_MOk (x_mt 44) := ⟨List.mem_of_getElem? (i := 431) rfl, List.mem_of_getElem? (i := 45) (by decide +kernel), ⟨by decide +kernel, by decide +kernel, by decide +kernel, by decide +kernel, by decide⟩, Or.inr ⟨by decide, by decide +kernel, List.mem_of_getElem? (i := 429) (by decide +kernel), List.mem_of_getElem? (i := 430) (by decide +kernel)⟩⟩
set_option maxRecDepth 100000 in
theorem mk_45 : x_MOk (x_mt 45) := ⟨List.mem_of_getElem? (i := 435) rfl, List.mem_of_getElem? (i := 49) (by decide +kernel), ⟨by decide +kernel, by decide +kernel, by decide +kernel, by decide +kernel, by decide⟩, Or.inr ⟨by decide, by decide +kernel, List.mem_of_getElem? (i := 433) (by decide +kernel), List.mem_of_getElem? (i := 434) (by decide +kernel)⟩⟩
set_option maxRecDepth 100000 in
theorem mk_46 : x_MOk (x_mt 46) := ⟨List.mem_of_getElem? (i := 439) rfl, List.mem_of_getElem? (i := 43) (by decide +kernel), ⟨by decide +kernel, by decide +kernel, by decide +kernel, by decide +kernel, by decide⟩, Or.inr ⟨by decide, by decide +kernel, List.mem_of_getElem? (i := 437) (by decide +kernel), List.mem_of_getElem? (i := 438) (by decide +kernel)⟩⟩
set_option maxRecDepth 100000 in
theorem mk_47 : x_MOk (x_mt 47) := ⟨List.mem_of_getElem? (i := 442) rfl, List.mem_of_getElem? (i := 43) (by decide +kernel), ⟨by decide +kernel, by decide +kernel, by decide +kernel, by decide +kernel, by decide⟩, Or.inl ⟨rfl, List.mem_of_getElem? (i := 441) (by decide +kernel)⟩⟩
set_option maxRecDepth 100000 in
theorem mk_48 : x_MOk (x_mt 48) := ⟨List.mem_of_getElem? (i := 445) rfl, List.mem_of_getElem? (i := 43) (by decide +kernel), ⟨by decide +kernel, by decide +kernel, by decide +kernel, by decide +kernel, by decide⟩, Or.inl ⟨rfl, List.mem_of_getElem? (i := 444) (by decide +kernel)⟩⟩
set_option maxRecDepth 100000 in
theorem mk_49 : x_MOk (x_mt 49) := ⟨List.mem_of_getElem? (i := 449) rfl, List.mem_of_getElem? (i := 43) (by decide +kernel), ⟨by decide +kernel, by decide +kernel, by decide +kernel, by decide +kernel, by decide⟩, Or.inr ⟨by decide, by decide +kernel, List.mem_of_getElem? (i := 448) (by decide +kernel), List.mem_of_getElem? (i := 3) (by decide +kernel)⟩⟩
set_option maxRecDepth 100000 in
theorem mk_50 : x_MOk (x_mt 50) := ⟨List.mem_of_getElem? (i := 454) rfl, List.mem_of_getElem? (i := 43) (by decide +kernel), ⟨by decide +kernel, by decide +kernel, by decide +kernel, by decide +kernel, by decide⟩, Or.inr ⟨by decide, by decide +kernel, List.mem_of_getElem? (i := 453) (by decide +kernel), List.mem_of_getElem? (i := 4) (by decide +kernel)⟩⟩
set_option maxRecDepth 100000 in
theorem mk_51 : x_MOk (x_mt 51) := ⟨List.mem_of_getElem? (i := 458) rfl, List.mem_of_getElem? (i := 45) (by decide +kernel), ⟨by decide +kernel, by decide +kernel, by decide +kernel, by decide +kernel, by decide⟩, Or.inr ⟨by decide, by decide +kernel, List.mem_of_getElem? (i := 456) (by decide +kernel), List.mem_of_getElem? (i := 457) (by decide +kernel)⟩⟩
set_option maxRecDepth 100000 in
theorem mk_52 : x_MOk (x_mt 52) := ⟨List.mem_of_getElem? (i := 466) rfl, List.mem_of_getElem? (i := 45) (by decide +kernel), ⟨by decide +kernel, by decide +kernel, by decide +kernel, by decide +kernel, by decide⟩, Or.inr ⟨by decide, by decide +kernel, List.mem_of_getElem? (i := 464) (by decide +kernel), List.mem_of_getElem? (i := 465) (by decide +kernel)⟩⟩
set_option maxRecDepth 100000 in
theorem mk_53 : x_MOk (x_mt 53) := ⟨List.mem_of_getElem? (i := 470) rfl, List.mem_of_getElem? (i := 47) (by decide +kernel), ⟨by decide +kernel, by decide +kernel, by decide +kernel, by decide +kernel, by decide⟩, Or.inr ⟨by decide, by decide +kernel, List.mem_of_getElem? (i := 468) (by decide +kernel), List.mem_of_getElem? (i := 469) (by decide +kernel)⟩⟩
set_option maxRecDepth 100000 in
theorem mk_54 : x_MOk (x_mt 54) := ⟨List.mem_of_getElem? (i := 475) rfl, List.mem_of_getElem? (i := 47) (by decide +kernel), ⟨by decide +kernel, by decide +kernel, by decide +kernel, by decide +kernel, by decide⟩, Or.inr ⟨by decide, by decide +kernel, List.mem_of_getElem? (i := 473) (by decide +kernel), List.mem_of_getElem? (i := 474) (by decide +kernel)⟩⟩
set_option maxRecDepth 100000 in
theorem mk_55 : x_MOk (x_mt 55) := ⟨List.mem_of_getElem? (i := 481) rfl, List.mem_of_getElem? (i := 47) (by decide +kernel), ⟨by decide +kernel, by decide +kernel, by decide +kernel, by decide +kernel, by decide⟩, Or.inr ⟨by decide, by decide +kernel, List.mem_of_getElem? (i := 479) (by decide +kernel), List.mem_of_getElem? (i := 480) (by decide +kernel)⟩⟩
set_option maxRecDepth 100000 in
theorem mk_56 : x_MOk (x_mt 56) := ⟨List.mem_of_getElem? (i := 486) rfl, List.mem_of_getElem? (i := 45) (by decide +kernel), ⟨by decide +kernel, by decide +kernel, by decide +kernel, by decide +kernel, by decide⟩, Or.inr ⟨by decide, by decide +kernel, List.mem_of_getElem? (i := 484) (by decide +kernel), List.mem_of_getElem? (i := 485) (by decide +kernel)⟩⟩
set_option maxRecDepth 100000 in
theorem mk_57 : x_MOk (x_mt 57) := ⟨List.mem_of_getElem? (i := 493) rfl, List.mem_of_getElem? (i := 47) (by decide +kernel), ⟨by decide +kernel, by decide +kernel, by decide +kernel, by decide +kernel, by decide⟩, Or.inr ⟨by decide, by decide +kernel, List.mem_of_getElem? (i := 491) (by decide +kernel), List.mem_of_getElem? (i := 492) (by decide +kernel)⟩⟩
set_option maxRecDepth 100000 in
theorem mk_58 : x_MOk (x_mt 58) := ⟨List.mem_of_getElem? (i := 498) rfl, List.mem_of_getElem? (i := 45) (by decide +kernel), ⟨by decide +kernel, by decide +kernel, by decide +kernel, by decide +kernel, by decide⟩, Or.inr ⟨by decide, by decide +kernel, List.mem_of_getElem? (i := 496) (by decide +kernel), List.mem_of_getElem? (i := 497) (by decide +kernel)⟩⟩
set_option maxRecDepth 100000 in
theorem mk_59 : x_MOk (x_mt 59) := ⟨List.mem_of_getElem? (i := 503) rfl, List.mem_of_getElem? (i := 43) (by decide +kernel), ⟨by decide +kernel, by decide +kernel, by decide +kernel, by decide +kernel, by decide⟩, Or.inr ⟨by decide, by decide +kernel, List.mem_of_getElem? (i := 501) (by decide +kernel), List.mem_of_getElem? (i := 502) (by decide +kernel)⟩⟩
set_option maxRecDepth 100000 in
theorem mk_60 : x_MOk (x_mt 60) := ⟨List.mem_of_getElem? (i := 508) rfl, List.mem_of_getElem? (i := 43) (by decide +kernel), ⟨by decide +kernel, by decide +kernel, by decide +kernel, by decide +kernel, by decide⟩, Or.inr ⟨by decide, by decide +kernel, List.mem_of_getElem? (i := 506) (by decide +kernel), List.mem_of_getElem? (i := 507) (by decide +kernel)⟩⟩
set_option maxRecDepth 100000 in
theorem mk_61 : x_MOk (x_mt 61) := ⟨List.mem_of_getElem? (i := 512) rfl, List.mem_of_getElem? (i := 43) (by decide +kernel), ⟨by decide +kernel, by decide +kernel, by decide +kernel, by decide +kernel, by decide⟩, Or.inr ⟨by decide, by decide +kernel, List.mem_of_getElem? (i := 510) (by decide +kernel), List.mem_of_getElem? (i := 511) (by decide +kernel)⟩⟩
set_option maxRecDepth 100000 in
theorem mk_62 : x_MOk (x_mt 62) := ⟨List.mem_of_getElem? (i := 517) rfl, List.mem_of_getElem? (i := 43) (by decide +kernel), ⟨by decide +kernel, by decide +kernel, by decide +kernel, by decide +kernel, by decide⟩, Or.inr ⟨by decide, by decide +kernel, List.mem_of_getElem? (i := 515) (by decide +kernel), List.mem_of_getElem? (i := 516) (by decide +kernel)⟩⟩
set_option maxRecDepth 100000 in
theorem mk_63 : x_MOk (x_mt 63) := ⟨List.mem_of_getElem? (i := 520) rfl, List.mem_of_getElem? (i := 43) (by decide +kernel), ⟨by decide +kernel, by decide +kernel, by decide +kernel, by decide +kernel, by decide⟩, Or.inl ⟨rfl, List.mem_of_getElem? (i := 519) (by decide +kernel)⟩⟩
set_option maxRecDepth 100000 in
theorem mk_64 : x_MOk (x_mt 64) := ⟨List.mem_of_getElem? (i := 524) rfl, List.mem_of_getElem? (i := 43) (by decide +kernel), ⟨by decide +kernel, by decide +kernel, by decide +kernel, by decide +kernel, by decide⟩, Or.inr ⟨by decide, by decide +kernel, List.mem_of_getElem? (i := 522) (by decide +kernel), List.mem_of_getElem? (i := 523) (by decide +kernel)⟩⟩
set_option maxRecDepth 100000 in
theorem mk_65 : x_MOk (x_mt 65) := ⟨List.mem_of_getElem? (i := 527) rfl, List.mem_of_getElem? (i := 43) (by decide +kernel), ⟨by decide +kernel, by decide +kernel, by decide +kernel, by decide +kernel, by decide⟩, Or.inl ⟨rfl, List.mem_of_getElem? (i := 526) (by decide +kernel)⟩⟩
set_option maxRecDepth 100000 in
theorem mk_66 : x_MOk (x_mt 66) := ⟨List.mem_of_getElem? (i := 531) rfl, List.mem_of_getElem? (i := 48) (by decide +kernel), ⟨by decide +kernel, by decide +kernel, by decide +kernel, by decide +kernel, by decide⟩, Or.inr ⟨by decide, by decide +kernel, List.mem_of_getElem? (i := 529) (by decide +kernel), List.mem_of_getElem? (i := 530) (by decide +kernel)⟩⟩
set_option maxRecDepth 100000 in
theorem mk_67 : x_MOk (x_mt 67) := ⟨List.mem_of_getElem? (i := 538) rfl, List.mem_of_getElem? (i := 48) (by decide +kernel), ⟨by decide +kernel, by decide +kernel, by decide +kernel, by decide +kernel, by decide⟩, Or.inr ⟨by decide, by decide +kernel, List.mem_of_getElem? (i := 536) (by decide +kernel), List.mem_of_getElem? (i := 537) (by decide +kernel)⟩⟩
set_option maxRecDepth 100000 in
theorem mk_68 : x_MOk (x_mt 68) := ⟨List.mem_of_getElem? (i := 542) rfl, List.mem_of_getElem? (i := 48) (by decide +kernel), ⟨by decide +kernel, by decide +kernel, by decide +kernel, by decide +kernel, by decide⟩, Or.inr ⟨by decide, by decide +kernel, List.mem_of_getElem? (i := 540) (by decide +kernel), List.mem_of_getElem? (i := 541) (by decide +kernel)⟩⟩
set_option maxRecDepth 100000 in
theorem mk_69 : x_MOk (x_mt 69) := ⟨List.mem_of_getElem? (i := 548) rfl, List.mem_of_getElem? (i := 48) (by decide +kernel), ⟨by decide +kernel, by decide +kernel, by decide +kernel, by decide +kernel, by decide⟩, Or.inr ⟨by decide, by decide +kernel, List.mem_of_getElem? (i := 546) (by decide +kernel), List.mem_of_getElem? (i := 547) (by decide +kernel)⟩⟩
set_option maxRecDepth 100000 in
theorem mk_70 : x_MOk (x_mt 70) := ⟨List.mem_of_getElem? (i := 552) rfl, List.mem_of_getElem? (i := 48) (by decide +kernel), ⟨by decide +kernel, by decide +kernel, by decide +kernel, by decide +kernel, by decide⟩, Or.inr ⟨by decide, by decide +kernel, List.mem_of_getElem? (i := 550) (by decide +kernel), List.mem_of_getElem? (i := 551) (by decide +kernel)⟩⟩
set_option maxRecDepth 100000 in
theorem mk_71 : x_MOk (x_mt 71) := ⟨List.mem_of_getElem? (i := 556) rfl, List.mem_of_getElem? (i := 48) (by decide +kernel), ⟨by decide +kernel, by decide +kernel, by decide +kernel, by decide +kernel, by decide⟩, Or.inr ⟨by decide, by decide +kernel, List.mem_of_getElem? (i := 554) (by decide +kernel), List.mem_of_getElem? (i := 555) (by decide +kernel)⟩⟩
set_option maxRecDepth 100000 in
theorem mk_72 : x_MOk (x_mt 72) := ⟨List.mem_of_getElem? (i := 560) rfl, List.mem_of_getElem? (i := 48) (by decide +kernel), ⟨by decide +kernel, by decide +kernel, by decide +kernel, by decide +kernel, by decide⟩, Or.inr ⟨by decide, by decide +kernel, List.mem_of_getElem? (i := 558) (by decide +kernel), List.mem_of_getElem? (i := 559) (by decide +kernel)⟩⟩
set_option maxRecDepth 100000 in
theorem mk_73 : x_MOk (x_mt 73) := ⟨List.mem_of_getElem? (i := 564) rfl, List.mem_of_getElem? (i := 43) (by decide +kernel), ⟨by decide +kernel, by decide +kernel, by decide +kernel, by decide +kernel, by decide⟩, Or.inr ⟨by decide, by decide +kernel, List.mem_of_getElem? (i := 562) (by decide +kernel), List.mem_of_getElem? (i := 563) (by decide +kernel)⟩⟩
set_option maxRecDepth 100000 in
theorem mk_74 : x_MOk (x_mt 74) := ⟨List.mem_of_getElem? (i := 568) rfl, List.mem_of_getElem? (i := 49) (by decide +kernel), ⟨by decide +kernel, by decide +kernel, by decide +kernel, by decide +kernel, by decide⟩, Or.inr ⟨by decide, by decide +kernel, List.mem_of_getElem? (i := 566) (by decide +kernel), List.mem_of_getElem? (i := 567) (by decide +kernel)⟩⟩
set_option maxRecDepth 100000 in
theorem mk_75 : x_MOk (x_mt 75) := ⟨List.mem_of_getElem? (i := 572) rfl, List.mem_of_getElem? (i := 43) (by decide +kernel), ⟨by decide +kernel, by decide +kernel, by decide +kernel, by decide +kernel, by decide⟩, Or.inr ⟨by decide, by decide +kernel, List.mem_of_getElem? (i := 570) (by decide +kernel), List.mem_of_getElem? (i := 571) (by decide +kernel)⟩⟩
set_option maxRecDepth 100000 in
theorem mk_76 : x_MOk (x_mt 76) := ⟨List.mem_of_getElem? (i := 576) rfl, List.mem_of_getElem? (i := 43) (by decide +kernel), ⟨by decide +kernel, by decide +kernel, by decide +kernel, by decide +kernel, by decide⟩, Or.inr ⟨by decide, by decide +kernel, List.mem_of_getElem? (i := 574) (by decide +kernel), List.mem_of_getElem? (i := 575) (by decide +kernel)⟩⟩
set_option maxRecDepth 100000 in
theorem mk_77 : x_MOk (x_mt 77) := ⟨List.mem_of_getElem? (i := 580) rfl, List.mem_of_getElem? (i := 49) (by decide +kernel), ⟨by decide +kernel, by decide +kernel, by decide +kernel, by decide +kernel, by decide⟩, Or.inr ⟨by decide, by decide +kernel, List.mem_of_getElem? (i := 578) (by decide +kernel), List.mem_of_getElem? (i := 579) (by decide +kernel)⟩⟩
set_option maxRecDepth 100000 in
theorem mk_78 : x_MOk (x_mt 78) := ⟨List.mem_of_getElem? (i := 585) rfl, List.mem_of_getElem? (i := 43) (by decide +kernel), ⟨by decide +kernel, by decide +kernel, by decide +kernel, by decide +kernel, by decide⟩, Or.inr ⟨by decide, by decide +kernel, List.mem_of_getElem? (i := 583) (by decide +kernel), List.mem_of_getElem? (i := 584) (by decide +kernel)⟩⟩
set_option maxRecDepth 100000 in
theorem mk_79 : x_MOk (x_mt 79) := ⟨List.mem_of_getElem? (i := 589) rfl, List.mem_of_getElem? (i := 43) (by decide +kernel), ⟨by decide +kernel, by decide +kernel, by decide +kernel, by decide +kernel, by decide⟩, Or.inr ⟨by decide, by decide +kernel, List.mem_of_getElem? (i := 587) (by decide +kernel), List.mem_of_getElem? (i := 588) (by decide +kernel)⟩⟩
set_option maxRecDepth 100000 in
theorem mk_80 : x_MOk (x_mt 80) := ⟨List.mem_of_getElem? (i := 593) rfl, List.mem_of_getElem? (i := 43) (by decide +kernel), ⟨by decide +kernel, by decide +kernel, by decide +kernel, by decide +kernel, by decide⟩, Or.inl ⟨rfl, List.mem_of_getElem? (i := 592) (by decide +kernel)⟩⟩
set_option maxRecDepth 100000 in
theorem mk_81 : x_MOk (x_mt 81) := ⟨List.mem_of_getElem? (i := 597) rfl, List.mem_of_getElem? (i := 43) (by decide +kernel), ⟨by decide +kernel, by decide +kernel, by decide +kernel, by decide +kernel, by decide⟩, Or.inr ⟨by decide, by decide +kernel, List.mem_of_getElem? (i := 595) (by decide +kernel), List.mem_of_getElem? (i := 596) (by decide +kernel)⟩⟩
set_option maxRecDepth 100000 in
theorem mk_82 : x_MOk (x_mt 82) := ⟨List.mem_of_getElem? (i := 601) rfl, List.mem_of_getElem? (i := 44) (by decide +kernel), ⟨by decide +kernel, by decide +kernel, by decide +kernel, by decide +kernel, by decide⟩, Or.inr ⟨by decide, by decide +kernel, List.mem_of_getElem? (i := 599) (by decide +kernel), List.mem_of_getElem? (i := 600) (by decide +kernel)⟩⟩
set_option maxRecDepth 100000 in
theorem mk_83 : x_MOk (x_mt 83) := ⟨List.mem_of_getElem? (i := 606) rfl, List.mem_of_getElem? (i := 54) (by decide +kernel), ⟨by decide +kernel, by decide +kernel, by decide +kernel, by decide +kernel, by decide⟩, Or.inl ⟨rfl, List.mem_of_getElem? (i := 605) (by decide +kernel)⟩⟩
set_option maxRecDepth 100000 in
theorem mk_84 : x_MOk (x_mt 84) := ⟨List.mem_of_getElem? (i := 610) rfl, List.mem_of_getElem? (i := 43) (by decide +kernel), ⟨by decide +kernel, by decide +kernel, by decide +kernel, by decide +kernel, by decide⟩, Or.inr ⟨by decide, by decide +kernel, List.mem_of_getElem? (i := 608) (by decide +kernel), List.mem_of_getElem? (i := 609) (by decide +kernel)⟩⟩
set_option maxRecDepth 100000 in
theorem mk_85 : x_MOk (x_mt 85) := ⟨List.mem_of_getElem? (i := 614) rfl, List.mem_of_getElem? (i := 44) (by decide +kernel), ⟨by decide +kernel, by decide +kernel, by decide +kernel, by decide +kernel, by decide⟩, Or.inr ⟨by decide, by decide +kernel, List.mem_of_getElem? (i := 612) (by decide +kernel), List.mem_of_getElem? (i := 613) (by decide +kernel)⟩⟩
set_option maxRecDepth 100000 in
theorem mk_86 : x_MOk (x_mt 86) := ⟨List.mem_of_getElem? (i := 618) rfl, List.mem_of_getElem? (i := 43) (by decide +kernel), ⟨by decide +kernel, by decide +kernel, by decide +kernel, by decide +kernel, by decide⟩, Or.inr ⟨by decide, by decide +kernel, List.mem_of_getElem? (i := 616) (by decide +kernel), List.mem_of_getElem? (i := 617) (by decide +kernel)⟩⟩
set_option maxRecDepth 100000 in
theorem mk_87 : x_MOk (x_mt 87) := ⟨List.mem_of_getElem? (i := 622) rfl, List.mem_of_getElem? (i := 44) (by decide +kernel), ⟨by decide +kernel, by decide +kernel, by decide +kernel, by decide +kernel, by decide⟩, Or.inr ⟨by decide, by decide +kernel, List.mem_of_getElem? (i := 620) (by decide +kernel), List.mem_of_getElem? (i := 621) (by decide +kernel)⟩⟩
set_option maxRecDepth 100000 in
theorem mk_88 : x_MOk (x_mt 88) := ⟨List.mem_of_getElem? (i := 626) rfl, List.mem_of_getElem? (i := 44) (by decide +kernel), ⟨by decide +kernel, by decide +kernel, by decide +kernel, by decide +kernel, by decide⟩, Or.inr ⟨by decide, by decide +kernel, List.mem_of_getElem? (i := 624) (by decide +kernel), List.mem_of_getElem? (i := 625) (by decide +kernel)⟩⟩
set_option maxRecDepth 100000 in
theorem mk_89 : x_MOk (x_mt 89) := ⟨List.mem_of_getElem? (i := 630) rfl, List.mem_of_getElem? (i := 43) (by decide +kernel), ⟨by decide +kernel, by decide +kernel, by decide +kernel, by decide +kernel, by decide⟩, Or.inr ⟨by decide, by decide +kernel, List.mem_of_getElem? (i := 628) (by decide +kernel), List.mem_of_getElem? (i := 629) (by decide +kernel)⟩⟩
set_option maxRecDepth 100000 in
theorem mk_90 : x_MOk (x_mt 90) := ⟨List.mem_of_getElem? (i := 634) rfl, List.mem_of_getElem? (i := 43) (by decide +kernel), ⟨by decide +kernel, by decide +kernel, by decide +kernel, by decide +kernel, by decide⟩, Or.inr ⟨by decide, by decide +kernel, List.mem_of_getElem? (i := 632) (by decide +kernel), List.mem_of_getElem? (i := 633) (by decide +kernel)⟩⟩
set_option maxRecDepth 100000 in
theorem mk_91 : x_MOk (x_mt 91) := ⟨List.mem_of_getElem? (i := 640) rfl, List.mem_of_getElem? (i := 43) (by decide +kernel), ⟨by decide +kernel, by decide +kernel, by decide +kernel, by decide +kernel, by decide⟩, Or.inr ⟨by decide, by decide +kernel, List.mem_of_getElem? (i := 638) (by decide +kernel), List.mem_of_getElem? (i := 639) (by decide +kernel)⟩⟩
set_option maxRecDepth 100000 in
theorem mk_92 : x_MOk (x_mt 92) := ⟨List.mem_of_getElem? (i := 644) rfl, List.mem_of_getElem? (i := 43) (by decide +kernel), ⟨by decide +kernel, by decide +kernel, by decide +kernel, by decide +kernel, by decide⟩, Or.inr ⟨by decide, by decide +kernel, List.mem_of_getElem? (i := 643) (by decide +kernel), List.mem_of_getElem? (i := 5) (by decide +kernel)⟩⟩
set_option maxRecDepth 100000 in
theorem mk_93 : x_MOk (x_mt 93) := ⟨List.mem_of_getElem? (i := 648) rfl, List.mem_of_getElem? (i := 43) (by decide +kernel), ⟨by decide +kernel, by decide +kernel, by decide +kernel, by decide +kernel, by decide⟩, Or.inr ⟨by decide, by decide +kernel, List.mem_of_getElem? (i := 647) (by decide +kernel), List.mem_of_getElem? (i := 6) (by decide +kernel)⟩⟩
set_option maxRecDepth 100000 in
theorem mk_94 : x_MOk (x_mt 94) := ⟨List.mem_of_getElem? (i := 652) rfl, List.mem_of_getElem? (i := 43) (by decide +kernel), ⟨by decide +kernel, by decide +kernel, by decide +kernel, by decide +kernel, by decide⟩, Or.inr ⟨by decide, by decide +kernel, List.mem_of_getElem? (i := 651) (by decide +kernel), List.mem_of_getElem? (i := 7) (by decide +kernel)⟩⟩
set_option maxRecDepth 100000 in
theorem mk_95 : x_MOk (x_mt 95) := ⟨List.mem_of_getElem? (i := 656) rfl, List.mem_of_getElem? (i := 43) (by decide +kernel), ⟨by decide +kernel, by decide +kernel, by decide +kernel, by decide +kernel, by decide⟩, Or.inr ⟨by decide, by decide +kernel, List.mem_of_getElem? (i := 655) (by decide +kernel), List.mem_of_getElem? (i := 8) (by decide +kernel)⟩⟩
set_option maxRecDepth 100000 in
theorem mk_96 : x_MOk (x_mt 96) := ⟨List.mem_of_getElem? (i := 661) rfl, List.mem_of_getElem? (i := 43) (by decide +kernel), ⟨by decide +kernel, by decide +kernel, by decide +kernel, by decide +kernel, by decide⟩, Or.inr ⟨by decide, by decide +kernel, List.mem_of_getElem? (i := 659) (by decide +kernel), List.mem_of_getElem? (i := 660) (by decide +kernel)⟩⟩
set_option maxRecDepth 100000 in
theorem mk_97 : x_MOk (x_mt 97) := ⟨List.mem_of_getElem? (i := 665) rfl, List.mem_of_getElem? (i := 43) (by decide +kernel), ⟨by decide +kernel, by decide +kernel, by decide +kernel, by decide +kernel, by decide⟩, Or.inr ⟨by decide, by decide +kernel, List.mem_of_getElem? (i := 663) (by decide +kernel), List.mem_of_getElem? (i := 664) (by decide +kernel)⟩⟩
set_option maxRecDepth 100000 in
theorem mk_98 : x_MOk (x_mt 98) := ⟨List.mem_of_getElem? (i := 669) rfl, List.mem_of_getElem? (i := 43) (by decide +kernel), ⟨by decide +kernel, by decide +kernel, by decide +kernel, by decide +kernel, by decide⟩, Or.inr ⟨by decide, by decide +kernel, List.mem_of_getElem? (i := 667) (by decide +kernel), List.mem_of_getElem? (i := 668) (by decide +kernel)⟩⟩
set_option maxRecDepth 100000 in
theorem mk_99 : x_MOk (x_mt 99) := ⟨List.mem_of_getElem? (i := 673) rfl, List.mem_of_getElem? (i := 43) (by decide +kernel), ⟨by decide +kernel, by decide +kernel, by decide +kernel, by decide +kernel, by decide⟩, Or.inr ⟨by decide, by decide +kernel, List.mem_of_getElem? (i := 671) (by decide +kernel), List.mem_of_getElem? (i := 672) (by decide +kernel)⟩⟩
set_option maxRecDepth 100000 in
theorem mk_100 : x_MOk (x_mt 100) := ⟨List.mem_of_getElem? (i := 677) rfl, List.mem_of_getElem? (i := 43) (by decide +kernel), ⟨by decide +kernel, by decide +kernel, by decide +kernel, by decide +kernel, by decide⟩, Or.inr ⟨by decide, by decide +kernel, List.mem_of_getElem? (i := 675) (by decide +kernel), List.mem_of_getElem? (i := 676) (by decide +kernel)⟩⟩
set_option maxRecDepth 100000 in
theorem mk_101 : x_MOk (x_mt 101) := ⟨List.mem_of_getElem? (i := 681) rfl, List.mem_of_getElem? (i := 45) (by decide +kernel), ⟨by decide +kernel, by decide +kernel, by decide +kernel, by decide +kernel, by decide⟩, Or.inr ⟨by decide, by decide +kernel, List.mem_of_getElem? (i := 679) (by decide +kernel), List.mem_of_getElem? (i := 680) (by decide +kernel)⟩⟩
set_option maxRecDepth 100000 in
theorem mk_102 : x_MOk (x_mt 102) := ⟨List.mem_of_getElem? (i := 779) rfl, List.mem_of_getElem? (i := 50) (by decide +kernel), ⟨by decide +kernel, by decide +kernel, by decide +kernel, by decide +kernel, by decide⟩, Or.inr ⟨by decide, by decide +kernel, List.mem_of_getElem? (i := 777) (by decide +kernel), List.mem_of_getElem? (i := 778) (by decide +kernel)⟩⟩
set_option maxRecDepth 100000 in
theorem mk_103 : x_MOk (x_mt 103) := ⟨List.mem_of_getElem? (i := 782) rfl, List.mem_of_getElem? (i := 50) (by decide +kernel), ⟨by decide +kernel, by decide +kernel, by decide +kernel, by decide +kernel, by decide⟩, Or.inl ⟨rfl, List.mem_of_getElem? (i := 781) (by decide +kernel)⟩⟩
set_option maxRecDepth 100000 in
theorem mk_104 : x_MOk (x_mt 104) := ⟨List.mem_of_getElem? (i := 785) rfl, List.mem_of_getElem? (i := 50) (by decide +kernel), ⟨by decide +kernel, by decide +kernel, by decide +kernel, by decide +kernel, by decide⟩, Or.inl ⟨rfl, List.mem_of_getElem? (i := 784) (by decide +kernel)⟩⟩
set_option maxRecDepth 100000 in
theorem mk_105 : x_MOk (x_mt 105) := ⟨List.mem_of_getElem? (i := 788) rfl, List.mem_of_getElem? (i := 50) (by decide +kernel), ⟨by decide +kernel, by decide +kernel, by decide +kernel, by decide +kernel, by decide⟩, Or.inl ⟨rfl, List.mem_of_getElem? (i := 787) (by decide +kernel)⟩⟩
set_option maxRecDepth 100000 in
theorem mk_106 : x_MOk (x_mt 106) := ⟨List.mem_of_getElem? (i := 792) rfl, List.mem_of_getElem? (i := 50) (by decide +kernel), ⟨by decide +kernel, by decide +kernel, by decide +kernel, by decide +kernel, by decide⟩, Or.inr ⟨by decide, by decide +kernel, List.mem_of_getElem? (i := 791) (by decide +kernel), List.mem_of_getElem? (i := 9) (by decide +kernel)⟩⟩
set_option maxRecDepth 100000 in
theorem mk_107 : x_MOk (x_mt 107) := ⟨List.mem_of_getElem? (i := 796) rfl, List.mem_of_getElem? (i := 50) (by decide +kernel), ⟨by decide +kernel, by decide +kernel, by decide +kernel, by decide +kernel, by decide⟩, Or.inr ⟨by decide, by decide +kernel, List.mem_of_getElem? (i := 795) (by decide +kernel), List.mem_of_getElem? (i := 10) (by decide +kernel)⟩⟩
set_option maxRecDepth 100000 in
theorem mk_108 : x_MOk (x_mt 108) := ⟨List.mem_of_getElem? (i := 800) rfl, List.mem_of_getElem? (i := 50) (by decide +kernel), ⟨by decide +kernel, by decide +kernel, by decide +kernel, by decide +kernel, by decide⟩, Or.inr ⟨by decide, by decide +kernel, List.mem_of_getElem? (i := 799) (by decide +kernel), List.mem_of_getElem? (i := 11) (by decide +kernel)⟩⟩
set_option maxRecDepth 100000 in
theorem mk_109 : x_MOk (x_mt 109) := ⟨List.mem_of_getElem? (i := 804) rfl, List.mem_of_getElem? (i := 50) (by decide +kernel), ⟨by decide +kernel, by decide +kernel, by decide +kernel, by decide +kernel, by decide⟩, Or.inr ⟨by decide, by decide +kernel, List.mem_of_getElem? (i := 803) (by decide +kernel), List.mem_of_getElem? (i := 12) (by decide +kernel)⟩⟩
set_option maxRecDepth 100000 in
theorem mk_110 : x_MOk (x_mt 110) := ⟨List.mem_of_getElem? (i := 808) rfl, List.mem_of_getElem? (i := 50) (by decide +kernel), ⟨by decide +kernel, by decide +kernel, by decide +kernel, by decide +kernel, by decide⟩, Or.inr ⟨by decide, by decide +kernel, List.mem_of_getElem? (i := 807) (by decide +kernel), List.mem_of_getElem? (i := 13) (by decide +kernel)⟩⟩
set_option maxRecDepth 100000 in
theorem mk_111 : x_MOk (x_mt 111) := ⟨List.mem_of_getElem? (i := 812) rfl, List.mem_of_getElem? (i := 50) (by decide +kernel), ⟨by decide +kernel, by decide +kernel, by decide +kernel, by decide +kernel, by decide⟩, Or.inr ⟨by decide, by decide +kernel, List.mem_of_getElem? (i := 811) (by decide +kernel), List.mem_of_getElem? (i := 14) (by decide +kernel)⟩⟩
set_option maxRecDepth 100000 in
theorem mk_112 : x_MOk (x_mt 112) := ⟨List.mem_of_getElem? (i := 816) rfl, List.mem_of_getElem? (i := 50) (by decide +kernel), ⟨by decide +kernel, by decide +kernel, by decide +kernel, by decide +kernel, by decide⟩, Or.inr ⟨by decide, by decide +kernel, List.mem_of_getElem? (i := 814) (by decide +kernel), List.mem_of_getElem? (i := 815) (by decide +kernel)⟩⟩
set_option maxRecDepth 100000 in
theorem mk_113 : x_MOk (x_mt 113) := ⟨List.mem_of_getElem? (i := 820) rfl, List.mem_of_getElem? (i := 50) (by decide +kernel), ⟨by decide +kernel, by decide +kernel, by decide +kernel, by decide +kernel, by decide⟩, Or.inr ⟨by decide, by decide +kernel, List.mem_of_getElem? (i := 819) (by decide +kernel), List.mem_of_getElem? (i := 15) (by decide +kernel)⟩⟩
set_option maxRecDepth 100000 in
theorem mk_114 : x_MOk (x_mt 114) := ⟨List.mem_of_getElem? (i := 824) rfl, List.mem_of_getElem? (i := 50) (by decide +kernel), ⟨by decide +kernel, by decide +kernel, by decide +kernel, by decide +kernel, by decide⟩, Or.inr ⟨by decide, by decide +kernel, List.mem_of_getElem? (i := 823) (by decide +kernel), List.mem_of_getElem? (i := 16) (by decide +kernel)⟩⟩
set_option maxRecDepth 100000 in
theorem mk_115 : x_MOk (x_mt 115) := ⟨List.mem_of_getElem? (i := 828) rfl, List.mem_of_getElem? (i := 50) (by decide +kernel), ⟨by decide +kernel, by decide +kernel, by decide +kernel, by decide +kernel, by decide⟩, Or.inr ⟨by decide, by decide +kernel, List.mem_of_getElem? (i := 827) (by decide +kernel), List.mem_of_getElem? (i := 17) (by decide +kernel)⟩⟩
set_option maxRecDepth 100000 in
theorem mk_116 : x_MOk (x_mt 116) := ⟨List.mem_of_getElem? (i := 832) rfl, List.mem_of_getElem? (i := 50) (by decide +kernel), ⟨by decide +kernel, by decide +kernel, by decide +kernel, by decide +kernel, by decide⟩, Or.inr ⟨by decide, by decide +kernel, List.mem_of_getElem? (i := 831) (by decide +kernel), List.mem_of_getElem? (i := 18) (by decide +kernel)⟩⟩
set_option maxRecDepth 100000 in
theorem mk_117 : x_MOk (x_mt 117) := ⟨List.mem_of_getElem? (i := 836) rfl, List.mem_of_getElem? (i := 50) (by decide +kernel), ⟨by decide +kernel, by decide +kernel, by decide +kernel, by decide +kernel, by decide⟩, Or.inr ⟨by decide, by decide +kernel, List.mem_of_getElem? (i := 835) (by decide +kernel), List.mem_of_getElem? (i := 19) (by decide +kernel)⟩⟩
set_option maxRecDepth 100000 in
theorem mk_118 : x_MOk (x_mt 118) := ⟨List.mem_of_getElem? (i := 839) rfl, List.mem_of_getElem? (i := 50) (by decide +kernel), ⟨by decide +kernel, by decide +kernel, by decide +kernel, by decide +kernel, by decide⟩, Or.inl ⟨rfl, List.mem_of_getElem? (i := 838) (by decide +kernel)⟩⟩
set_option maxRecDepth 100000 in
theorem mk_119 : x_MOk (x_mt 119) := ⟨List.mem_of_getElem? (i := 843) rfl, List.mem_of_getElem? (i := 50) (by decide +kernel), ⟨by decide +kernel, by decide +kernel, by decide +kernel, by decide +kernel, by decide⟩, Or.inr ⟨by decide, by decide +kernel, List.mem_of_getElem? (i := 842) (by decide +kernel), List.mem_of_getElem? (i := 20) (by decide +kernel)⟩⟩
set_option maxRecDepth 100000 in
theorem mk_120 : x_MOk (x_mt 120) := ⟨List.mem_of_getElem? (i := 847) rfl, List.mem_of_getElem? (i := 50) (by decide +kernel), ⟨by decide +kernel, by decide +kernel, by decide +kernel, by decide +kernel, by decide⟩, Or.inr ⟨by decide, by decide +kernel, List.mem_of_getElem? (i := 846) (by decide +kernel), List.mem_of_getElem? (i := 21) (by decide +kernel)⟩⟩
set_option maxRecDepth 100000 in
theorem mk_121 : x_MOk (x_mt 121) := ⟨List.mem_of_getElem? (i := 850) rfl, List.mem_of_getElem? (i := 50) (by decide +kernel), ⟨by decide +kernel, by decide +kernel, by decide +kernel, by decide +kernel, by decide⟩, Or.inl ⟨rfl, List.mem_of_getElem? (i := 849) (by decide +kernel)⟩⟩
set_option maxRecDepth 100000 in
theorem mk_122 : x_MOk (x_mt 122) := ⟨List.mem_of_getElem? (i := 854) rfl, List.mem_of_getElem? (i := 50) (by decide +kernel), ⟨by decide +kernel, by decide +kernel, by decide +kernel, by decide +kernel, by decide⟩, Or.inr ⟨by decide, by decide +kernel, List.mem_of_getElem? (i := 853) (by decide +kernel), List.mem_of_getElem? (i := 22) (by decide +kernel)⟩⟩
set_option maxRecDepth 100000 in
theorem mk_123 : x_MOk (x_mt 123) := ⟨List.mem_of_getElem? (i := 858) rfl, List.mem_of_getElem? (i := 50) (by decide +kernel), ⟨by decide +kernel, by decide +kernel, by decide +kernel, by decide +kernel, by decide⟩, Or.inr ⟨by decide, by decide +kernel, List.mem_of_getElem? (i := 857) (by decide +kernel), List.mem_of_getElem? (i := 23) (by decide +kernel)⟩⟩
set_option maxRecDepth 100000 in
theorem mk_124 : x_MOk (x_mt 124) := ⟨List.mem_of_getElem? (i := 862) rfl, List.mem_of_getElem? (i := 50) (by decide +kernel), ⟨by decide +kernel, by decide +kernel, by decide +kernel, by decide +kernel, by decide⟩, Or.inr ⟨by decide, by decide +kernel, List.mem_of_getElem? (i := 861) (by decide +kernel), List.mem_of_getElem? (i := 24) (by decide +kernel)⟩⟩
set_option maxRecDepth 100000 in
theorem mk_125 : x_MOk (x_mt 125) := ⟨List.mem_of_getElem? (i := 866) rfl, List.mem_of_getElem? (i := 50) (by decide +kernel), ⟨by decide +kernel, by decide +kernel, by decide +kernel, by decide +kernel, by decide⟩, Or.inr ⟨by decide, by decide +kernel, List.mem_of_getElem? (i := 865) (by decide +kernel), List.mem_of_getElem? (i := 25) (by decide +kernel)⟩⟩
set_option maxRecDepth 100000 in
theorem mk_126 : x_MOk (x_mt 126) := ⟨List.mem_of_getElem? (i := 870) rfl, List.mem_of_getElem? (i := 50) (by decide +kernel), ⟨by decide +kernel, by decide +kernel, by decide +kernel, by decide +kernel, by decide⟩, Or.inr ⟨by decide, by decide +kernel, List.mem_of_getElem? (i := 868) (by decide +kernel), List.mem_of_getElem? (i := 869) (by decide +kernel)⟩⟩
set_option maxRecDepth 100000 in
theorem mk_127 : x_MOk (x_mt 127) := ⟨List.mem_of_getElem? (i := 874) rfl, List.mem_of_getElem? (i := 50) (by decide +kernel), ⟨by decide +kernel, by decide +kernel, by decide +kernel, by decide +kernel, by decide⟩, Or.inr ⟨by decide, by decide +kernel, List.mem_of_getElem? (i := 872) (by decide +kernel), List.mem_of_getElem? (i := 873) (by decide +kernel)⟩⟩
set_option maxRecDepth 100000 in
theorem mk_128 : x_MOk (x_mt 128) := ⟨List.mem_of_getElem? (i := 878) rfl, List.mem_of_getElem? (i := 50) (by decide +kernel), ⟨by decide +kernel, by decide +kernel, by decide +kernel, by decide +kernel, by decide⟩, Or.inr ⟨by decide, by decide +kernel, List.mem_of_getElem? (i := 877) (by decide +kernel), List.mem_of_getElem? (i := 26) (by decide +kernel)⟩⟩
set_option maxRecDepth 100000 in
theorem mk_129 : x_MOk (x_mt 129) := ⟨List.mem_of_getElem? (i := 882) rfl, List.mem_of_getElem? (i := 50) (by decide +kernel), ⟨by decide +kernel, by decide +kernel, by decide +kernel, by decide +kernel, by decide⟩, Or.inr ⟨by decide, by decide +kernel, List.mem_of_getElem? (i := 880) (by decide +kernel), List.mem_of_getElem? (i := 881) (by decide +kernel)⟩⟩
set_option maxRecDepth 100000 in
theorem mk_130 : x_MOk (x_mt 130) := ⟨List.mem_of_getElem? (i := 886) rfl, List.mem_of_getElem? (i := 50) (by decide +kernel), ⟨by decide +kernel, by decide +kernel, by decide +kernel, by decide +kernel, by decide⟩, Or.inr ⟨by decide, by decide +kernel, List.mem_of_getElem? (i := 885) (by decide +kernel), List.mem_of_getElem? (i := 27) (by decide +kernel)⟩⟩
set_option maxRecDepth 100000 in
theorem mk_131 : x_MOk (x_mt 131) := ⟨List.mem_of_getElem? (i := 890) rfl, List.mem_of_getElem? (i := 50) (by decide +kernel), ⟨by decide +kernel, by decide +kernel, by decide +kernel, by decide +kernel, by decide⟩, Or.inr ⟨by decide, by decide +kernel, List.mem_of_getElem? (i := 888) (by decide +kernel), List.mem_of_getElem? (i := 889) (by decide +kernel)⟩⟩
set_option maxRecDepth 100000 in
theorem mk_132 : x_MOk (x_mt 132) := ⟨List.mem_of_getElem? (i := 894) rfl, List.mem_of_getElem? (i := 50) (by decide +kernel), ⟨by decide +kernel, by decide +kernel, by decide +kernel, by decide +kernel, by decide⟩, Or.inr ⟨by decide, by decide +kernel, List.mem_of_getElem? (i := 892) (by decide +kernel), List.mem_of_getElem? (i := 893) (by decide +kernel)⟩⟩
set_option maxRecDepth 100000 in
theorem mk_133 : x_MOk (x_mt 133) := ⟨List.mem_of_getElem? (i := 898) rfl, List.mem_of_getElem? (i := 50) (by decide +kernel), ⟨by decide +kernel, by decide +kernel, by decide +kernel, by decide +kernel, by decide⟩, Or.inr ⟨by decide, by decide +kernel, List.mem_of_getElem? (i := 897) (by decide +kernel), List.mem_of_getElem? (i := 28) (by decide +kernel)⟩⟩
set_option maxRecDepth 100000 in
theorem mk_134 : x_MOk (x_mt 134) := ⟨List.mem_of_getElem? (i := 902) rfl, List.mem_of_getElem? (i := 50) (by decide +kernel), ⟨by decide +kernel, by decide +kernel, by decide +kernel, by decide +kernel, by decide⟩, Or.inr ⟨by decide, by decide +kernel, List.mem_of_getElem? (i := 901) (by decide +kernel), List.mem_of_getElem? (i := 29) (by decide +kernel)⟩⟩
set_option maxRecDepth 100000 in
theorem mk_135 : x_MOk (x_mt 135) := ⟨List.mem_of_getElem? (i := 906) rfl, List.mem_of_getElem? (i := 50) (by decide +kernel), ⟨by decide +kernel, by decide +kernel, by decide +kernel, by decide +kernel, by decide⟩, Or.inr ⟨by decide, by decide +kernel, List.mem_of_getElem? (i := 905) (by decide +kernel), List.mem_of_getElem? (i := 30) (by decide +kernel)⟩⟩
set_option maxRecDepth 100000 in
theorem mk_136 : x_MOk (x_mt 136) := ⟨List.mem_of_getElem? (i := 910) rfl, List.mem_of_getElem? (i := 50) (by decide +kernel), ⟨by decide +kernel, by decide +kernel, by decide +kernel, by decide +kernel, by decide⟩, Or.inr ⟨by decide, by decide +kernel, List.mem_of_getElem? (i := 909) (by decide +kernel), List.mem_of_getElem? (i := 31) (by decide +kernel)⟩⟩
set_option maxRecDepth 100000 in
theorem mk_137 : x_MOk (x_mt 137) := ⟨List.mem_of_getElem? (i := 914) rfl, List.mem_of_getElem? (i := 50) (by decide +kernel), ⟨by decide +kernel, by decide +kernel, by decide +kernel, by decide +kernel, by decide⟩, Or.inr ⟨by decide, by decide +kernel, List.mem_of_getElem? (i := 913) (by decide +kernel), List.mem_of_getElem? (i := 32) (by decide +kernel)⟩⟩
set_option maxRecDepth 100000 in
theorem mk_138 : x_MOk (x_mt 138) := ⟨List.mem_of_getElem? (i := 918) rfl, List.mem_of_getElem? (i := 50) (by decide +kernel), ⟨by decide +kernel, by decide +kernel, by decide +kernel, by decide +kernel, by decide⟩, Or.inr ⟨by decide, by decide +kernel, List.mem_of_getElem? (i := 917) (by decide +kernel), List.mem_of_getElem? (i := 33) (by decide +kernel)⟩⟩
set_option maxRecDepth 100000 in
theorem mk_139 : x_MOk (x_mt 139) := ⟨List.mem_of_getElem? (i := 922) rfl, List.mem_of_getElem? (i := 50) (by decide +kernel), ⟨by decide +kernel, by decide +kernel, by decide +kernel, by decide +kernel, by decide⟩, Or.inr ⟨by decide, by decide +kernel, List.mem_of_getElem? (i := 921) (by decide +kernel), List.mem_of_getElem? (i := 34) (by decide +kernel)⟩⟩
set_option maxRecDepth 100000 in
theorem mk_140 : x_MOk (x_mt 140) := ⟨List.mem_of_getElem? (i := 926) rfl, List.mem_of_getElem? (i := 50) (by decide +kernel), ⟨by decide +kernel, by decide +kernel, by decide +kernel, by decide +kernel, by decide⟩, Or.inr ⟨by decide, by decide +kernel, List.mem_of_getElem? (i := 925) (by decide +kernel), List.mem_of_getElem? (i := 35) (by decide +kernel)⟩⟩
set_option maxRecDepth 100000 in
theorem mk_141 : x_MOk (x_mt 141) := ⟨List.mem_of_getElem? (i := 930) rfl, List.mem_of_getElem? (i := 50) (by decide +kernel), ⟨by decide +kernel, by decide +kernel, by decide +kernel, by decide +kernel, by decide⟩, Or.inr ⟨by decide, by decide +kernel, List.mem_of_getElem? (i := 929) (by decide +kernel), List.mem_of_getElem? (i := 36) (by decide +kernel)⟩⟩
set_option maxRecDepth 100000 in
theorem mk_142 : x_MOk (x_mt 142) := ⟨List.mem_of_getElem? (i := 934) rfl, List.mem_of_getElem? (i := 50) (by decide +kernel), ⟨by decide +kernel, by decide +kernel, by decide +kernel, by decide +kernel, by decide⟩, Or.inr ⟨by decide, by decide +kernel, List.mem_of_getElem? (i := 932) (by decide +kernel), List.mem_of_getElem? (i := 933) (by decide +kernel)⟩⟩
set_option maxRecDepth 100000 in
theorem mk_143 : x_MOk (x_mt 143) := ⟨List.mem_of_getElem? (i := 938) rfl, List.mem_of_getElem? (i := 50) (by decide +kernel), ⟨by decide +kernel, by decide +kernel, by decide +kernel, by decide +kernel, by decide⟩, Or.inr ⟨by decide, by decide +kernel, List.mem_of_getElem? (i := 936) (by decide +kernel), List.mem_of_getElem? (i := 937) (by decide +kernel)⟩⟩
set_option maxRecDepth 100000 in
theorem mk_144 : x_MOk (x_mt 144) := ⟨List.mem_of_getElem? (i := 942) rfl, List.mem_of_getElem? (i := 50) (by decide +kernel), ⟨by decide +kernel, by decide +kernel, by decide +kernel, by decide +kernel, by decide⟩, Or.inr ⟨by decide, by decide +kernel, List.mem_of_getElem? (i := 940) (by decide +kernel), List.mem_of_getElem? (i := 941) (by decide +kernel)⟩⟩
set_option maxRecDepth 100000 in
theorem mk_145 : x_MOk (x_mt 145) := ⟨List.mem_of_getElem? (i := 946) rfl, List.mem_of_getElem? (i := 50) (by decide +kernel), ⟨by decide +kernel, by decide +kernel, by decide +kernel, by decide +kernel, by decide⟩, Or.inr ⟨by decide, by decide +kernel, List.mem_of_getElem? (i := 944) (by decide +kernel), List.mem_of_getElem? (i := 945) (by decide +kernel)⟩⟩
set_option maxRecDepth 100000 in
theorem mk_146 : x_MOk (x_mt 146) := ⟨List.mem_of_getElem? (i := 950) rfl, List.mem_of_getElem? (i := 50) (by decide +kernel), ⟨by decide +kernel, by decide +kernel, by decide +kernel, by decide +kernel, by decide⟩, Or.inr ⟨by decide, by decide +kernel, List.mem_of_getElem? (i := 948) (by decide +kernel), List.mem_of_getElem? (i := 949) (by decide +kernel)⟩⟩
set_option maxRecDepth 100000 in
theorem mk_147 : x_MOk (x_mt 147) := ⟨List.mem_of_getElem? (i := 954) rfl, List.mem_of_getElem? (i := 50) (by decide +kernel), ⟨by decide +kernel, by decide +kernel, by decide +kernel, by decide +kernel, by decide⟩, Or.inr ⟨by decide, by decide +kernel, List.mem_of_getElem? (i := 953) (by decide +kernel), List.mem_of_getElem? (i := 37) (by decide +kernel)⟩⟩
set_option maxRecDepth 100000 in
theorem mk_148 : x_MOk (x_mt 148) := ⟨List.mem_of_getElem? (i := 958) rfl, List.mem_of_getElem? (i := 50) (by decide +kernel), ⟨by decide +kernel, by decide +kernel, by decide +kernel, by decide +kernel, by decide⟩, Or.inr ⟨by decide, by decide +kernel, List.mem_of_getElem? (i := 957) (by decide +kernel), List.mem_of_getElem? (i := 38) (by decide +kernel)⟩⟩
set_option maxRecDepth 100000 in
theorem mk_149 : x_MOk (x_mt 149) := ⟨List.mem_of_getElem? (i := 962) rfl, List.mem_of_getElem? (i := 50) (by decide +kernel), ⟨by decide +kernel, by decide +kernel, by decide +kernel, by decide +kernel, by decide⟩, Or.inr ⟨by decide, by decide +kernel, List.mem_of_getElem? (i := 960) (by decide +kernel), List.mem_of_getElem? (i := 961) (by decide +kernel)⟩⟩
set_option maxRecDepth 100000 in
theorem mk_150 : x_MOk (x_mt 150) := ⟨List.mem_of_getElem? (i := 966) rfl, List.mem_of_getElem? (i := 50) (by decide +kernel), ⟨by decide +kernel, by decide +kernel, by decide +kernel, by decide +kernel, by decide⟩, Or.inr ⟨by decide, by decide +kernel, List.mem_of_getElem? (i := 964) (by decide +kernel), List.mem_of_getElem? (i := 965) (by decide +kernel)⟩⟩
set_option maxRecDepth 100000 in
theorem mk_151 : x_MOk (x_mt 151) := ⟨List.mem_of_getElem? (i := 970) rfl, List.mem_of_getElem? (i := 50) (by decide +kernel), ⟨by decide +kernel, by decide +kernel, by decide +kernel, by decide +kernel, by decide⟩, Or.inr ⟨by decide, by decide +kernel, List.mem_of_getElem? (i := 968) (by decide +kernel), List.mem_of_getElem? (i := 969) (by decide +kernel)⟩⟩
set_option maxRecDepth 100000 in
theorem mk_152 : x_MOk (x_mt 152) := ⟨List.mem_of_getElem? (i := 974) rfl, List.mem_of_getElem? (i := 50) (by decide +kernel), ⟨by decide +kernel, by decide +kernel, by decide +kernel, by decide +kernel, by decide⟩, Or.inr ⟨by decide, by decide +kernel, List.mem_of_getElem? (i := 973) (by decide +kernel), List.mem_of_getElem? (i := 39) (by decide +kernel)⟩⟩
set_option maxRecDepth 100000 in
theorem mk_153 : x_MOk (x_mt 153) := ⟨List.mem_of_getElem? (i := 978) rfl, List.mem_of_getElem? (i := 50) (by decide +kernel), ⟨by decide +kernel, by decide +kernel, by decide +kernel, by decide +kernel, by decide⟩, Or.inr ⟨by decide, by decide +kernel, List.mem_of_getElem? (i := 976) (by decide +kernel), List.mem_of_getElem? (i := 977) (by decide +kernel)⟩⟩
set_option maxRecDepth 100000 in
theorem mk_154 : x_MOk (x_mt 154) := ⟨List.mem_of_getElem? (i := 982) rfl, List.mem_of_getElem? (i := 50) (by decide +kernel), ⟨by decide +kernel, by decide +kernel, by decide +kernel, by decide +kernel, by decide⟩, Or.inr ⟨by decide, by decide +kernel, List.mem_of_getElem? (i := 980) (by decide +kernel), List.mem_of_getElem? (i := 981) (by decide +kernel)⟩⟩
set_option maxRecDepth 100000 in
theorem mk_155 : x_MOk (x_mt 155) := ⟨List.mem_of_getElem? (i := 986) rfl, List.mem_of_getElem? (i := 50) (by decide +kernel), ⟨by decide +kernel, by decide +kernel, by decide +kernel, by decide +kernel, by decide⟩, Or.inl ⟨rfl, List.mem_of_getElem? (i := 985) (by decide +kernel)⟩⟩
set_option maxRecDepth 100000 in
theorem mk_156 : x_MOk (x_mt 156) := ⟨List.mem_of_getElem? (i := 990) rfl, List.mem_of_getElem? (i := 50) (by decide +kernel), ⟨by decide +kernel, by decide +kernel, by decide +kernel, by decide +kernel, by decide⟩, Or.inr ⟨by decide, by decide +kernel, List.mem_of_getElem? (i := 988) (by decide +kernel), List.mem_of_getElem? (i := 989) (by decide +kernel)⟩⟩
set_option maxRecDepth 100000 in
theorem mk_157 : x_MOk (x_mt 157) := ⟨List.mem_of_getElem? (i := 994) rfl, List.mem_of_getElem? (i := 50) (by decide +kernel), ⟨by decide +kernel, by decide +kernel, by decide +kernel, by decide +kernel, by decide⟩, Or.inr ⟨by decide, by decide +kernel, List.mem_of_getElem? (i := 992) (by decide +kernel), List.mem_of_getElem? (i := 993) (by decide +kernel)⟩⟩
set_option maxRecDepth 100000 in
theorem mk_158 : x_MOk (x_mt 158) := ⟨List.mem_of_getElem? (i := 998) rfl, List.mem_of_getElem? (i := 50) (by decide +kernel), ⟨by decide +kernel, by decide +kernel, by decide +kernel, by decide +kernel, by decide⟩, Or.inr ⟨by decide, by decide +kernel, List.mem_of_getElem? (i := 996) (by decide +kernel), List.mem_of_getElem? (i := 997) (by decide +kernel)⟩⟩
set_option maxRecDepth 100000 in
theorem mk_159 : x_MOk (x_mt 159) := ⟨List.mem_of_getElem? (i := 1002) rfl, List.mem_of_getElem? (i := 50) (by decide +kernel), ⟨by decide +kernel, by decide +kernel, by decide +kernel, by decide +kernel, by decide⟩, Or.inr ⟨by decide, by decide +kernel, List.mem_of_getElem? (i := 1000) (by decide +kernel), List.mem_of_getElem? (i := 1001) (by decide +kernel)⟩⟩
set_option maxRecDepth 100000 in
theorem mk_160 : x_MOk (x_mt 160) := ⟨List.mem_of_getElem? (i := 1006) rfl, List.mem_of_getElem? (i := 50) (by decide +kernel), ⟨by decide +kernel, by decide +kernel, by decide +kernel, by decide +kernel, by decide⟩, Or.inr ⟨by decide, by decide +kernel, List.mem_of_getElem? (i := 1005) (by decide +kernel), List.mem_of_getElem? (i := 40) (by decide +kernel)⟩⟩
set_option maxRecDepth 100000 in
theorem mk_161 : x_MOk (x_mt 161) := ⟨List.mem_of_getElem? (i := 1010) rfl, List.mem_of_getElem? (i := 50) (by decide +kernel), ⟨by decide +kernel, by decide +kernel, by decide +kernel, by decide +kernel, by decide⟩, Or.inr ⟨by decide, by decide +kernel, List.mem_of_getElem? (i := 1008) (by decide +kernel), List.mem_of_getElem? (i := 1009) (by decide +kernel)⟩⟩
set_option maxRecDepth 100000 in
theorem mk_162 : x_MOk (x_mt 162) := ⟨List.mem_of_getElem? (i := 1014) rfl, List.mem_of_getElem? (i := 50) (by decide +kernel), ⟨by decide +kernel, by decide +kernel, by decide +kernel, by decide +kernel, by decide⟩, Or.inr ⟨by decide, by decide +kernel, List.mem_of_getElem? (i := 1012) (by decide +kernel), List.mem_of_getElem? (i := 1013) (by decide +kernel)⟩⟩
set_option maxRecDepth 100000 in
theorem mk_163 : x_MOk (x_mt 163) := ⟨List.mem_of_getElem? (i := 1018) rfl, List.mem_of_getElem? (i := 50) (by decide +kernel), ⟨by decide +kernel, by decide +kernel, by decide +kernel, by decide +kernel, by decide⟩, Or.inr ⟨by decide, by decide +kernel, List.mem_of_getElem? (i := 1017) (by decide +kernel), List.mem_of_getElem? (i := 41) (by decide +kernel)⟩⟩
set_option maxRecDepth 100000 in
theorem mk_164 : x_MOk (x_mt 164) := ⟨List.mem_of_getElem? (i := 1022) rfl, List.mem_of_getElem? (i := 50) (by decide +kernel), ⟨by decide +kernel, by decide +kernel, by decide +kernel, by decide +kernel, by decide⟩, Or.inr ⟨by decide, by decide +kernel, List.mem_of_getElem? (i := 1020) (by decide +kernel), List.mem_of_getElem? (i := 1021) (by decide +kernel)⟩⟩
set_option maxRecDepth 100000 in
theorem mk_165 : x_MOk (x_mt 165) := ⟨List.mem_of_getElem? (i := 1026) rfl, List.mem_of_getElem? (i := 50) (by decide +kernel), ⟨by decide +kernel, by decide +kernel, by decide +kernel, by decide +kernel, by decide⟩, Or.inr ⟨by decide, by decide +kernel, List.mem_of_getElem? (i := 1024) (by decide +kernel), List.mem_of_getElem? (i := 1025) (by decide +kernel)⟩⟩
set_option maxRecDepth 100000 in
theorem mk_166 : x_MOk (x_mt 166) := ⟨List.mem_of_getElem? (i := 1030) rfl, List.mem_of_getElem? (i := 50) (by decide +kernel), ⟨by decide +kernel, by decide +kernel, by decide +kernel, by decide +kernel, by decide⟩, Or.inr ⟨by decide, by decide +kernel, List.mem_of_getElem? (i := 1028) (by decide +kernel), List.mem_of_getElem? (i := 1029) (by decide +kernel)⟩⟩
set_option maxRecDepth 100000 in
theorem mk_167 : x_MOk (x_mt 167) := ⟨List.mem_of_getElem? (i := 1034) rfl, List.mem_of_getElem? (i := 50) (by decide +kernel), ⟨by decide +kernel, by decide +kernel, by decide +kernel, by decide +kernel, by decide⟩, Or.inr ⟨by decide, by decide +kernel, List.mem_of_getElem? (i := 1032) (by decide +kernel), List.mem_of_getElem? (i := 1033) (by decide +kernel)⟩⟩
set_option maxRecDepth 100000 in
theorem mk_168 : x_MOk (x_mt 168) := ⟨List.mem_of_getElem? (i := 1038) rfl, List.mem_of_getElem? (i := 50) (by decide +kernel), ⟨by decide +kernel, by decide +kernel, by decide +kernel, by decide +kernel, by decide⟩, Or.inr ⟨by decide, by decide +kernel, List.mem_of_getElem? (i := 1036) (by decide +kernel), List.mem_of_getElem? (i := 1037) (by decide +kernel)⟩⟩
def x_moks : Nat → Nat → Prop
  | 0, _ => True
  | n + 1, k => x_MOk (x_mt k) ∧ x_moks n (k + 1)
theorem x_moks_nth : ∀ (n k0 : Nat), x_moks n k0 → ∀ k, k0 ≤ k → k < k0 + n → x_MOk (x_mt k)
  | 0, k0, _, k, h1, h2 => by omega
  | n + 1, k0, h, k, h1, h2 => by
    by_cases e : k = k0
    · subst e; exact h.1
    · exact x_moks_nth n (k0 + 1) h.2 k (by omega) (by omega)
theorem x_moks_all : x_moks 168 1 := ⟨mk_1, mk_2, mk_3, mk_4, mk_5, mk_6, mk_7, mk_8, mk_9, mk_10, mk_11, mk_12, mk_13, mk_14, mk_15, mk_16, mk_17, mk_18, mk_19, mk_20, mk_21, mk_22, mk_23, mk_24, mk_25, mk_26, mk_27, mk_28, mk_29, mk_30, mk_31, mk_32, mk_33, mk_34, mk_35, mk_36, mk_37, mk_38, mk_39, mk_40, mk_41, mk_42, mk_43, mk_44, mk_45, mk_46, mk_47, mk_48, mk_49, mk_50, mk_51, mk_52, mk_53, mk_54, mk_55, mk_56, mk_57, mk_58, mk_59, mk_60, mk_61, mk_62, mk_63, mk_64, mk_65, mk_66, mk_67, mk_68, mk_69, mk_70, mk_71, mk_72, mk_73, mk_74, mk_75, mk_76, mk_77, mk_78, mk_79, mk_80, mk_81, mk_82, mk_83, mk_84, mk_85, mk_86, mk_87, mk_88, mk_89, mk_90, mk_91, mk_92, mk_93, mk_94, mk_95, mk_96, mk_97, mk_98, mk_99, mk_100, mk_101, mk_102, mk_103, mk_104, mk_105, mk_106, mk_107, mk_108, mk_109, mk_110, mk_111, mk_112, mk_113, mk_114, mk_115, mk_116, mk_117, mk_118, mk_119, mk_120, mk_121, mk_122, mk_123, mk_124, mk_125, mk_126, mk_127, mk_128, mk_129, mk_130, mk_131, mk_132, mk_133, mk_134, mk_135, mk_136, mk_137, mk_138, mk_139, mk_140, mk_141, mk_142, mk_143, mk_144, mk_145, mk_146, mk_147, mk_148, mk_149, mk_150, mk_151, mk_152, mk_153, mk_154, mk_155, mk_156, mk_157, mk_158, mk_159, mk_160, mk_161, mk_162, mk_163, mk_164, mk_165, mk_166, mk_167, mk_168, trivial⟩
theorem x_mok {k : Nat} (h0 : 0 < k) (h : k < 169) : x_MOk (x_mt k) := x_moks_nth 168 1 x_moks_all k h0 (by omega)
end
section
/-! THE SMALL MACHINE'S WORLD ON THE HEAP -/
/-- the tables' numbers, where each cell lies, each array's class, the script, its length -/
abbrev xG : Type := va_G × (Nat → Nat) × (Nat → ClassId) × (Nat → Int32) × Nat
def x_ce (g : xG) (w : xWd) (q : Nat × Nat) : Nat × va_E := (g.2.1 q.1,
  if q.2 < 8 then .inr (q.2, (List.range (x_nf q.2)).map (fun j => match x_ft q.2 j with
    | none => Value.int (w q.1 j)
    | some _ => Value.ref (g.2.1 (x_gr q.2 q.1 j))))
  else if q.2 = 50 then .inl (g.2.2.1 q.1, 4, .inr (.inr (.inr (.inr (fun j => some (g.2.1 (x_gr 50 q.1 j)))))))
  else .inl (g.2.2.1 q.1, q.2 - 100, .inl (w q.1)))
def x_wl (g : xG) (w : xWd) : va_W := x_cells.map (x_ce g w)
def x_ty (g : xG) : List (ClassId × FieldType) := x_cells.filterMap (fun q => if q.2 < 8 then none else if q.2 = 50 then some (g.2.2.1 q.1, .object "ValuePlaces$Sheet") else some (g.2.2.1 q.1, .int))
def x_rv (g : xG) : xMV → Value
  | some (.inl v) => .int v
  | some (.inr (.inl v)) => .long v
  | some (.inr (.inr q)) => .ref (g.2.1 q.2)
  | none => .null
def x_vok : xMV → Prop
  | some (.inl _) => True
  | some (.inr (.inl _)) => True
  | some (.inr (.inr q)) => q = (51, 0) ∨ (q.2, q.1) ∈ x_cells
  | none => False
def x_nests : List Cond := [Cond.methodLinkNest "ValuePlaces$Tree" 54 ⟨"ValuePlaces", "inSet", "(II)Z"⟩ "ValuePlaces", Cond.methodLinkNest "ValuePlaces$Holding" 51 ⟨"ValuePlaces", "inSet", "(II)Z"⟩ "ValuePlaces", Cond.methodLinkNest "ValuePlaces$Moves" 62 ⟨"ValuePlaces", "inSet", "(II)Z"⟩ "ValuePlaces"]
def x_KW (g : xG) (s : State) : Prop := va_K g.1 x_cls (x_ty g) s ∧ ∀ q ∈ x_nests, va_Nw q s
theorem x_KW.warm {g : xG} {s U : State} (h : x_KW g s) (hW : s.WarmedH U.vm) : x_KW g U := by
  refine ⟨va_K.moved hW.alike h.1, fun q hq => ?_⟩
  have h1 := h.2 q hq
  simp only [x_nests, List.mem_cons, List.not_mem_nil, or_false] at hq
  rcases hq with rfl | rfl | rfl <;> exact va_Nw.warmM hW h1
theorem x_KW.same {g : xG} {s U : State} (h : x_KW g s) (hv : s.vm = U.vm) : x_KW g U := by
  refine ⟨va_K.moved (hv ▸ Vm.Alike.refl s.vm) h.1, fun q hq => ?_⟩
  have h1 := h.2 q hq
  simp only [x_nests, List.mem_cons, List.not_mem_nil, or_false] at hq
  rcases hq with rfl | rfl | rfl <;> exact va_Nw.same rfl hv h1
theorem x_cells_apart : ∀ i, i < x_cells.length → ∀ j, j < x_cells.length → (x_nth (0, 0) x_cells i).1 = (x_nth (0, 0) x_cells j).1 → i = j := by decide +kernel
theorem x_nth_get {α : Type} (d : α) : ∀ (l : List α) (i : Nat) (a : α), l[i]? = some a → i < l.length ∧ x_nth d l i = a
  | [], i, a, h => by simp at h
  | b :: r, 0, a, h => ⟨Nat.succ_pos _, Option.some.inj h⟩
  | b :: r, i + 1, a, h => by
    obtain ⟨h1, h2⟩ := x_nth_get d r i a (by simpa using h)
    exact ⟨Nat.succ_lt_succ h1, h2⟩
theorem x_cells_inj {i j : Nat} {p q : Nat × Nat} (hi : x_cells[i]? = some p) (hj : x_cells[j]? = some q) (h : p.1 = q.1) : i = j := by
  obtain ⟨a1, a2⟩ := x_nth_get (0, 0) _ _ _ hi
  obtain ⟨b1, b2⟩ := x_nth_get (0, 0) _ _ _ hj
  exact x_cells_apart i a1 j b1 (by rw [a2, b2]; exact h)
theorem x_cells_no : x_cells.all (fun q => decide (q.1 ≠ 0 ∧ q.1 ≠ 4 ∧ q.2 ≠ 51)) = true := by decide +kernel
theorem x_cell_ne {a c : Nat} (h : (a, c) ∈ x_cells) : a ≠ 0 ∧ a ≠ 4 ∧ c ≠ 51 := by
  have := List.all_eq_true.mp x_cells_no _ h
  simpa using this
theorem x_cells_fld : x_cells.all (fun q => (List.range (x_nf q.2)).all (fun y => match x_ft q.2 y with
  | none => true
  | some t => decide ((x_gr q.2 q.1 y, t) ∈ x_cells))) = true := by decide +kernel
theorem x_cell_fld {a c y t : Nat} (h : (a, c) ∈ x_cells) (hy : y < x_nf c) (ht : x_ft c y = some t) : (x_gr c a y, t) ∈ x_cells := by
  have h1 := List.all_eq_true.mp (List.all_eq_true.mp x_cells_fld _ h) y (List.mem_range.mpr hy)
  dsimp only at h1
  rw [ht] at h1
  simpa using h1
theorem x_cells_row : x_cells.all (fun q => (List.range 4).all (fun y => decide (q.2 = 50 → (x_gr 50 q.1 y, 3) ∈ x_cells))) = true := by decide +kernel
theorem x_cell_row {a y : Nat} (h : (a, 50) ∈ x_cells) (hy : y < 4) : (x_gr 50 a y, 3) ∈ x_cells := by
  have h1 := List.all_eq_true.mp (List.all_eq_true.mp x_cells_row _ h) y (List.mem_range.mpr hy)
  simpa using h1
theorem x_wl_at {g : xG} {w : xWd} {a c : Nat} (h : (a, c) ∈ x_cells) : ∃ k : Nat, x_cells[k]? = some (a, c) ∧ (x_wl g w)[k]? = some (x_ce g w (a, c)) := by
  obtain ⟨k, hk⟩ := List.mem_iff_getElem?.mp h
  exact ⟨k, hk, by unfold x_wl; rw [List.getElem?_map, hk]; rfl⟩
theorem x_ce_obj {g : xG} {w : xWd} {a c : Nat} (h : c < 8) : x_ce g w (a, c) = (g.2.1 a, .inr (c, (List.range (x_nf c)).map (fun j => match x_ft c j with
    | none => Value.int (w a j)
    | some _ => Value.ref (g.2.1 (x_gr c a j))))) := by
  unfold x_ce; dsimp only; rw [if_pos h]
theorem x_ce_arr {g : xG} {w : xWd} {a c : Nat} (h : 100 ≤ c) : x_ce g w (a, c) = (g.2.1 a, .inl (g.2.2.1 a, c - 100, .inl (w a))) := by
  unfold x_ce; dsimp only; rw [if_neg (by omega), if_neg (by omega)]
theorem x_ce_row {g : xG} {w : xWd} {a : Nat} : x_ce g w (a, 50) = (g.2.1 a, .inl (g.2.2.1 a, 4, .inr (.inr (.inr (.inr (fun j => some (g.2.1 (x_gr 50 a j)))))))) := by
  unfold x_ce; dsimp only; rw [if_neg (by omega), if_pos rfl]
theorem x_ce_off {g : xG} {w : xWd} {a : Nat} {f : Nat → Int32} {q : Nat × Nat} (h : q.1 ≠ a) : x_ce g (x_put w a f) q = x_ce g w q := by
  unfold x_ce x_put; simp only [if_neg h]
theorem x_wl_set {g : xG} {w : xWd} {a c k : Nat} {f : Nat → Int32} (hk : x_cells[k]? = some (a, c)) : (x_wl g w).set k (x_ce g (x_put w a f) (a, c)) = x_wl g (x_put w a f) := by
  apply List.ext_getElem?
  intro i
  unfold x_wl
  rw [List.getElem?_set]
  by_cases e : k = i
  · subst e
    have hl : k < (x_cells.map (x_ce g w)).length := by rw [List.length_map]; exact (List.getElem?_eq_some_iff.mp hk).1
    rw [if_pos rfl, if_pos hl, List.getElem?_map, hk]; rfl
  · rw [if_neg e, List.getElem?_map, List.getElem?_map]
    cases hi : x_cells[i]? with
    | none => rfl
    | some q =>
      have hq : q.1 ≠ a := fun h => e (x_cells_inj hk hi h.symm)
      show some (x_ce g w q) = some (x_ce g (x_put w a f) q)
      rw [x_ce_off hq]
theorem x_wl_D {g : xG} {w w' : xWd} {A : Nat → Prop} (h : va_D A (x_wl g w)) : va_D A (x_wl g w') := by
  have key : ∀ (k : Nat) (q : Nat × va_E), (x_wl g w')[k]? = some q → ∃ q0, (x_wl g w)[k]? = some q0 ∧ q0.1 = q.1 := by
    intro k q hk
    unfold x_wl at hk ⊢
    rw [List.getElem?_map] at hk ⊢
    cases hc : x_cells[k]? with
    | none => rw [hc] at hk; cases hk
    | some r =>
      rw [hc] at hk
      cases hk
      exact ⟨_, rfl, rfl⟩
  refine ⟨fun i j p q hi hj e => ?_, fun k q hk => ?_⟩
  · obtain ⟨p0, a1, a2⟩ := key i p hi
    obtain ⟨q0, b1, b2⟩ := key j q hj
    exact h.1 i j p0 q0 a1 b1 (by rw [a2, b2, e])
  · obtain ⟨q0, a1, a2⟩ := key k q hk
    rw [← a2]; exact h.2 k q0 a1
theorem x_wl_A {g : xG} {w w' : xWd} {sz q : Nat} (h : va_A (x_wl g w) sz q) : va_A (x_wl g w') sz q := by
  rcases h with ⟨k, e, hk⟩ | h
  · left
    unfold x_wl at hk ⊢
    rw [List.getElem?_map] at hk
    cases hc : x_cells[k]? with
    | none => rw [hc] at hk; cases hk
    | some r =>
      rw [hc] at hk
      have e1 : x_ce g w r = (q, e) := Option.some.inj hk
      have e2 : g.2.1 r.1 = q := congrArg Prod.fst e1
      exact ⟨k, (x_ce g w' r).2, by rw [List.getElem?_map, hc]; show some (x_ce g w' r) = _; rw [← e2]; rfl⟩
  · exact Or.inr h
theorem x_ty_arr {g : xG} {a c : Nat} (h : (a, c) ∈ x_cells) (hc : 100 ≤ c) : ∃ t : Nat, (x_ty g)[t]? = some (g.2.2.1 a, FieldType.int) := by
  refine List.mem_iff_getElem?.mp (List.mem_filterMap.mpr ⟨_, h, ?_⟩)
  dsimp only; rw [if_neg (by omega), if_neg (by omega)]
theorem x_ty_row {g : xG} {a : Nat} (h : (a, 50) ∈ x_cells) : ∃ t : Nat, (x_ty g)[t]? = some (g.2.2.1 a, FieldType.object "ValuePlaces$Sheet") := by
  refine List.mem_iff_getElem?.mp (List.mem_filterMap.mpr ⟨_, h, ?_⟩)
  dsimp only; rw [if_neg (by omega), if_pos rfl]
theorem x_fs_at {g : xG} {w : xWd} {a c y : Nat} (hy : y < x_nf c) : ((List.range (x_nf c)).map (fun j => match x_ft c j with
    | none => Value.int (w a j)
    | some _ => Value.ref (g.2.1 (x_gr c a j))))[y]? = some (x_rv g (x_fv c a y w)) := by
  rw [List.getElem?_map, List.getElem?_range hy]
  unfold x_fv
  cases h : x_ft c y <;> simp [h, x_rv]
theorem x_fs_set {g : xG} {w : xWd} {a c y : Nat} {v : Int32} (ht : x_ft c y = none) : ((List.range (x_nf c)).map (fun j => match x_ft c j with
    | none => Value.int (w a j)
    | some _ => Value.ref (g.2.1 (x_gr c a j)))).set y (.int v) = (List.range (x_nf c)).map (fun j => match x_ft c j with
    | none => Value.int ((x_set w a y v) a j)
    | some _ => Value.ref (g.2.1 (x_gr c a j))) := by
  apply List.ext_getElem?
  intro i
  rw [List.getElem?_set, List.getElem?_map, List.getElem?_map]
  by_cases e : y = i
  · subst e
    by_cases hl : y < x_nf c
    · rw [if_pos rfl, if_pos (by simpa using hl), List.getElem?_range hl]
      simp [ht, x_set, x_put, upd]
    · rw [if_pos rfl, if_neg (by simpa using hl), List.getElem?_eq_none (by simpa using hl)]; rfl
  · rw [if_neg e]
    cases hr : (List.range (x_nf c))[i]? with
    | none => rfl
    | some j =>
      have hj : j = i := by
        obtain ⟨h1, h2⟩ := List.getElem?_eq_some_iff.mp hr
        simpa using h2.symm
      subst hj
      have h1 : (x_set w a y v) a j = w a j := by simp [x_set, x_put, upd, Ne.symm e]
      simp [h1]
theorem x_cls_at : ∀ c, c < 8 → x_cls[c]? = some (x_cn c) ∧ (x_cn c).2.2 = x_nf c
  | 0, _ => ⟨rfl, rfl⟩ | 1, _ => ⟨rfl, rfl⟩ | 2, _ => ⟨rfl, rfl⟩ | 3, _ => ⟨rfl, rfl⟩ | 4, _ => ⟨rfl, rfl⟩ | 5, _ => ⟨rfl, rfl⟩ | 6, _ => ⟨rfl, rfl⟩ | 7, _ => ⟨rfl, rfl⟩
  | n + 8, h => absurd h (by omega)
theorem x_good {ws : List Cond} (h : ∀ w ∈ ws, w ∈ lw_tbl) (hg : ws.all goodWord = true) : ∀ w ∈ ws, w ∈ x_gw := fun w hw => x_gw_mem (h w hw) (List.all_eq_true.mp hg w hw)
theorem x_cls_in : ∀ c, c < 8 → ∀ w ∈ u_ws (x_cn c).1 (x_cn c).2.1 (x_cn c).2.2, w ∈ x_gw
  | 0, _ => x_good inX0 (by decide +kernel) | 1, _ => x_good inX1 (by decide +kernel) | 2, _ => x_good inX2 (by decide +kernel) | 3, _ => x_good inX3 (by decide +kernel)
  | 4, _ => x_good inX4 (by decide +kernel) | 5, _ => x_good inX5 (by decide +kernel) | 6, _ => x_good inX6 (by decide +kernel) | 7, _ => x_good inX7 (by decide +kernel)
  | n + 8, h => absurd h (by omega)
theorem x_cls_put : ∀ c, c < 8 → ∃ ty0 : Nat → FieldType, (∀ k, k < (x_cn c).2.2 → parseFieldDescriptor ((x_cn c).2.1 k).2.2.1 = some (ty0 k)) ∧ (∀ a, a < (x_cn c).2.2 → ∀ b, b < (x_cn c).2.2 → a ≠ b → ((x_cn c).2.1 a).2.1 ≠ ((x_cn c).2.1 b).2.1)
  | 0, _ => ⟨tyX0, tyX0_ok, nmX0⟩ | 1, _ => ⟨tyX1, tyX1_ok, nmX1⟩ | 2, _ => ⟨tyX2, tyX2_ok, nmX2⟩ | 3, _ => ⟨tyX3, tyX3_ok, nmX3⟩
  | 4, _ => ⟨tyX4, tyX4_ok, nmX4⟩ | 5, _ => ⟨tyX5, tyX5_ok, nmX5⟩ | 6, _ => ⟨tyX6, tyX6_ok, nmX6⟩ | 7, _ => ⟨tyX7, tyX7_ok, nmX7⟩
  | n + 8, h => absurd h (by omega)
/-! locals -/
def x_lvl (g : xG) (ls : List xMV) : List (Nat × Value) := (List.range ls.length).filterMap (fun j => match ls[j]? with
  | some (some u) => some (j, x_rv g (some u))
  | _ => none)
theorem x_lvl_mem {g : xG} {ls : List xMV} {j : Nat} {v : Value} : (j, v) ∈ x_lvl g ls ↔ ∃ u, ls[j]? = some (some u) ∧ v = x_rv g (some u) := by
  unfold x_lvl
  rw [List.mem_filterMap]
  constructor
  · rintro ⟨i, -, hi⟩
    cases h : ls[i]? with
    | none => rw [h] at hi; cases hi
    | some o =>
      cases o with
      | none => rw [h] at hi; cases hi
      | some u => rw [h] at hi; cases hi; exact ⟨u, h, rfl⟩
  · rintro ⟨u, h, rfl⟩
    exact ⟨j, List.mem_range.mpr (List.getElem?_eq_some_iff.mp h).1, by rw [h]⟩
def xLR (g : xG) (k : Nat) (ls : List xMV) (als : Array Slot) : Prop := ls.length = x_nl k ∧ als.size = x_nl k ∧ lv_wf als ∧ ∀ (i : Nat) (u : Int32 ⊕ (Int64 ⊕ (Nat × Nat))), ls[i]? = some (some u) → als[i]? = some (.val (x_rv g (some u))) ∧ x_vok (some u)
theorem xLR.has {g : xG} {k : Nat} {ls : List xMV} {als : Array Slot} (h : xLR g k ls als) : lv_has als (x_nl k) (x_lvl g ls) := by
  refine ⟨h.2.1, h.2.2.1, fun q hq => ?_⟩
  obtain ⟨u, h1, h2⟩ := x_lvl_mem.mp (show (q.1, q.2) ∈ x_lvl g ls from hq)
  rw [h2]; exact (h.2.2.2 _ _ h1).1
theorem x_rv_cat {g : xG} {u : Int32 ⊕ (Int64 ⊕ (Nat × Nat))} (h : (x_rv g (some u)).category = 2) : ∃ v, u = .inr (.inl v) := by
  rcases u with v | v | v
  · simp [x_rv, Value.category] at h
  · exact ⟨v, rfl⟩
  · simp [x_rv, Value.category] at h
theorem x_nlg_ok {g : xG} {ls : List xMV} {i j : Nat} {u : Int32 ⊕ (Int64 ⊕ (Nat × Nat))} (hn : x_nlg ls i = true) (hj : ls[j]? = some (some u)) (e : j + 1 = i) : ¬ (x_rv g (some u)).category = 2 := by
  intro hc
  obtain ⟨v, rfl⟩ := x_rv_cat hc
  subst e
  have hn : (match ls[j]? with
    | some (some (.inr (.inl _))) => false
    | _ => true) = true := hn
  rw [hj] at hn
  cases hn
theorem xLR.st1 {g : xG} {k i : Nat} {ls : List xMV} {als als' : Array Slot} {u : Int32 ⊕ (Int64 ⊕ (Nat × Nat))} (h : xLR g k ls als) (hn : x_nlg ls i = true) (hu : x_vok (some u)) (hi : i < x_nl k)
    (h' : lv_has als' (x_nl k) ((i, x_rv g (some u)) :: (x_lvl g ls).filter (fun q => !(q.1 == i) && !(q.1 + 1 == i && q.2.category == 2)))) : xLR g k (ls.set i (some u)) als' := by
  refine ⟨by rw [List.length_set]; exact h.1, h'.1, h'.2.1, fun j v hj => ?_⟩
  rw [List.getElem?_set] at hj
  by_cases e : i = j
  · subst e
    rw [if_pos rfl, if_pos (by rw [h.1]; exact hi)] at hj
    cases hj
    exact ⟨h'.2.2 _ List.mem_cons_self, hu⟩
  · rw [if_neg e] at hj
    refine ⟨?_, (h.2.2.2 _ _ hj).2⟩
    refine h'.2.2 (j, x_rv g (some v)) (List.mem_cons_of_mem _ (List.mem_filter.mpr ⟨x_lvl_mem.mpr ⟨v, hj, rfl⟩, ?_⟩))
    have h1 : (j == i) = false := by simpa using Ne.symm e
    have h2 : (j + 1 == i && (x_rv g (some v)).category == 2) = false := by
      by_cases e2 : j + 1 = i
      · have := x_nlg_ok (g := g) hn hj e2
        simp [this]
      · simp [e2]
    simp [h1, h2]
theorem xLR.st2 {g : xG} {k i : Nat} {ls : List xMV} {als als' : Array Slot} {u : Int32 ⊕ (Int64 ⊕ (Nat × Nat))} (h : xLR g k ls als) (hn : x_nlg ls i = true) (hu : x_vok (some u)) (hi : i + 1 < x_nl k)
    (h' : lv_has als' (x_nl k) ((i, x_rv g (some u)) :: (x_lvl g ls).filter (fun q => !(q.1 == i) && (!(q.1 == i + 1) && !(q.1 + 1 == i && q.2.category == 2))))) : xLR g k ((ls.set i (some u)).set (i + 1) none) als' := by
  refine ⟨by rw [List.length_set, List.length_set]; exact h.1, h'.1, h'.2.1, fun j v hj => ?_⟩
  rw [List.getElem?_set] at hj
  by_cases e1 : i + 1 = j
  · subst e1
    rw [if_pos rfl] at hj
    split at hj <;> cases hj
  rw [if_neg e1, List.getElem?_set] at hj
  by_cases e : i = j
  · subst e
    rw [if_pos rfl, if_pos (by rw [h.1]; omega)] at hj
    cases hj
    exact ⟨h'.2.2 _ List.mem_cons_self, hu⟩
  · rw [if_neg e] at hj
    refine ⟨?_, (h.2.2.2 _ _ hj).2⟩
    refine h'.2.2 (j, x_rv g (some v)) (List.mem_cons_of_mem _ (List.mem_filter.mpr ⟨x_lvl_mem.mpr ⟨v, hj, rfl⟩, ?_⟩))
    have h1 : (j == i) = false := by simpa using Ne.symm e
    have h3 : (j == i + 1) = false := by simpa using Ne.symm e1
    have h2 : (j + 1 == i && (x_rv g (some v)).category == 2) = false := by
      by_cases e2 : j + 1 = i
      · have := x_nlg_ok (g := g) hn hj e2
        simp [this]
      · simp [e2]
    simp [h1, h2, h3]
end
section
/-! ONE STEP of the small machine is a step of the machine -/
abbrev xPt (g : xG) (A : Nat → Prop) (s : State) (w : xWd) (H : Heap) (locs : List Loc) : Prop := va_P g.1 x_cls (x_wl g w) H ∧ va_D A (x_wl g w) ∧ va_S A s.heap H locs ∧ w 0 = g.2.2.2.1 ∧ w 4 = (fun _ => nI g.2.2.2.2)
abbrev xSR (st : List xMV) : Prop := ∀ v ∈ st, x_vok v
def xW (g : xG) (A : Nat → Prop) (k : Nat) (p : Program) (l : Launch) (e : Env) (R : Room) (s : State) (m : MethodId) (args : Array Value) (below : List Frame) (meth : Method) (c : Code) (cells slots : Nat) (Q : State → Prop) (pc : Nat) (ls st : List xMV) (w : xWd) : Prop :=
  ∀ (H : Heap) (locs : List Loc) (als : Array Slot), xPt g A s w H locs → xLR g k ls als → xSR st → W p l e R s m args below meth c H locs cells slots Q (F0 m pc als (st.map (x_rv g)))
/-- what holds of the machine in a method of number k, with room for d calls -/
def xCx (g : xG) (A : Nat → Prop) (k d : Nat) (p : Program) (R : Room) (s : State) (m : MethodId) (args : Array Value) (c : Code) (cells slots : Nat) : Prop :=
  p.tables.exec = Jvm.exec ∧ c.code = (x_mt k).2.1 ∧ c.maxLocals = x_nl k ∧ s.vm.findClass (x_mt k).1.cls = some m.cls ∧ (∀ w ∈ x_gw, w.before args s = true) ∧ x_KW g s ∧ (∀ q, s.heap.size ≤ q → A q) ∧ (cells ≤ R.cells ∧ slots ≤ R.slots) ∧ (d ≤ R.frames ∧ 30 * d ≤ R.locals) ∧
  (k = 0 → va_X (g.2.1 0) g.2.2.2.2 g.2.2.2.1 s s.heap ∧ g.2.1 0 < s.heap.size ∧ ¬ A (g.2.1 0) ∧ g.2.2.2.2 < 2 ^ 31)
theorem x_p1_inv {st : List xMV} {f : Int32 → List xMV → Option xEff} {e : xEff} (h : x_p1 st f = some e) : ∃ b q, st = xI b :: q ∧ f b q = some e := by
  unfold x_p1 at h
  split at h
  · exact ⟨_, _, rfl, h⟩
  · cases h
theorem x_p2_inv {st : List xMV} {f : Int32 → Int32 → List xMV → Option xEff} {e : xEff} (h : x_p2 st f = some e) : ∃ a b q, st = xI b :: xI a :: q ∧ f a b q = some e := by
  unfold x_p2 at h
  split at h
  · exact ⟨_, _, _, rfl, h⟩
  · cases h
theorem x_q2_inv {st : List xMV} {f : Int64 → Int64 → List xMV → Option xEff} {e : xEff} (h : x_q2 st f = some e) : ∃ a b q, st = xJ b :: xJ a :: q ∧ f a b q = some e := by
  unfold x_q2 at h
  split at h
  · exact ⟨_, _, _, rfl, h⟩
  · cases h
theorem x_pa_inv {st : List xMV} {f : Nat → Nat → List xMV → Option xEff} {e : xEff} (h : x_pa st f = some e) : ∃ c a q, st = xA c a :: q ∧ f c a q = some e := by
  unfold x_pa at h
  split at h
  · exact ⟨_, _, _, rfl, h⟩
  · cases h
theorem x_ldI_inv {ls : List xMV} {i : Nat} {f : xMV → Option xEff} {e : xEff} (h : x_ldI ls i f = some e) : ∃ v, ls[i]? = some (xI v) ∧ f (xI v) = some e := by
  unfold x_ldI at h
  split at h
  · next h1 => exact ⟨_, h1, h⟩
  · cases h
theorem x_ldJ_inv {ls : List xMV} {i : Nat} {f : xMV → Option xEff} {e : xEff} (h : x_ldJ ls i f = some e) : ∃ v, ls[i]? = some (xJ v) ∧ f (xJ v) = some e := by
  unfold x_ldJ at h
  split at h
  · next h1 => exact ⟨_, h1, h⟩
  · cases h
theorem x_ldA_inv {ls : List xMV} {i : Nat} {f : xMV → Option xEff} {e : xEff} (h : x_ldA ls i f = some e) : ∃ c a, ls[i]? = some (xA c a) ∧ f (xA c a) = some e := by
  unfold x_ldA at h
  split at h
  · next h1 => exact ⟨_, _, h1, h⟩
  · cases h
theorem x_sto1_inv {i pc : Nat} {ls r : List xMV} {v : xMV} {w : xWd} {e : xEff} (h : x_sto1 i pc ls v r w = some e) : x_nlg ls i = true ∧ e = .inl (pc, ls.set i v, r, w) := by
  unfold x_sto1 at h
  cases hn : x_nlg ls i with
  | true => rw [hn] at h; cases h; exact ⟨rfl, rfl⟩
  | false => rw [hn] at h; cases h
theorem x_sto2_inv {i pc : Nat} {ls r : List xMV} {v : xMV} {w : xWd} {e : xEff} (h : x_sto2 i pc ls v r w = some e) : x_nlg ls i = true ∧ e = .inl (pc, (ls.set i v).set (i + 1) none, r, w) := by
  unfold x_sto2 at h
  cases hn : x_nlg ls i with
  | true => rw [hn] at h; cases h; exact ⟨rfl, rfl⟩
  | false => rw [hn] at h; cases h
theorem x_stI_inv {i pc : Nat} {ls st : List xMV} {w : xWd} {e : xEff} (h : x_stI i pc ls st w = some e) : ∃ v r, st = xI v :: r ∧ x_nlg ls i = true ∧ e = .inl (pc, ls.set i (xI v), r, w) := by
  unfold x_stI at h
  split at h
  · exact ⟨_, _, rfl, x_sto1_inv h⟩
  · cases h
theorem x_stA_inv {i pc : Nat} {ls st : List xMV} {w : xWd} {e : xEff} (h : x_stA i pc ls st w = some e) : ∃ c a r, st = xA c a :: r ∧ x_nlg ls i = true ∧ e = .inl (pc, ls.set i (xA c a), r, w) := by
  unfold x_stA at h
  split at h
  · exact ⟨_, _, _, rfl, x_sto1_inv h⟩
  · cases h
theorem x_stJ_inv {i pc : Nat} {ls st : List xMV} {w : xWd} {e : xEff} (h : x_stJ i pc ls st w = some e) : ∃ v r, st = xJ v :: r ∧ x_nlg ls i = true ∧ e = .inl (pc, (ls.set i (xJ v)).set (i + 1) none, r, w) := by
  unfold x_stJ at h
  split at h
  · exact ⟨_, _, rfl, x_sto2_inv h⟩
  · cases h
theorem x_bif {α : Type} {b : Bool} {x : Option α} {e : α} (h : (bif b then x else none) = some e) : b = true ∧ x = some e := by
  cases b with
  | true => exact ⟨rfl, h⟩
  | false => cases h
theorem xSR.tl {v : xMV} {st : List xMV} (h : xSR (v :: st)) : xSR st := fun u hu => h u (List.mem_cons_of_mem _ hu)
theorem xSR.cons {v : xMV} {st : List xMV} (h : xSR st) (hv : x_vok v) : xSR (v :: st) := by
  intro u hu
  rcases List.mem_cons.mp hu with rfl | hu
  · exact hv
  · exact h u hu
/-! switches -/
theorem x_ofInt {a : Int32} {k : Int} (h1 : -1000 ≤ k) (h2 : k ≤ 1000) : a = Int32.ofInt k ↔ a.toInt = k := by
  have e : (Int32.ofInt k).toInt = k := Int32.toInt_ofInt_of_le (by omega) (by omega)
  constructor
  · intro h; rw [h, e]
  · intro h; exact Int32.toInt_inj.mp (by rw [e]; exact h)
theorem x_tsl_out {a : Int32} {pc : Int} {d : Nat} : ∀ (offs : List Int) (lo : Int), -1000 ≤ lo → lo + offs.length ≤ 1001 → (a.toInt < lo ∨ lo + offs.length - 1 < a.toInt) → x_swt a (x_tsl pc lo offs) d = d
  | [], lo, _, _, _ => rfl
  | o :: r, lo, h1, h2, h => by
    have hl : ((o :: r).length : Int) = r.length + 1 := by simp
    rw [hl] at h2 h
    unfold x_tsl x_swt
    rw [if_neg (fun q => by have := (x_ofInt (a := a) h1 (by omega)).mp q; omega)]
    exact x_tsl_out r (lo + 1) (by omega) (by omega) (by omega)
theorem x_tsl_in {a : Int32} {pc : Int} {d : Nat} : ∀ (offs : List Int) (lo : Int), -1000 ≤ lo → lo + offs.length ≤ 1001 → ¬ a.toInt < lo → ¬ lo + offs.length - 1 < a.toInt → ∃ o, offs[(a.toInt - lo).toNat]? = some o ∧ x_swt a (x_tsl pc lo offs) d = (pc + o).toNat
  | [], lo, h1, h2, h3, h4 => by simp at h4; omega
  | o :: r, lo, h1, h2, h3, h4 => by
    have hl : ((o :: r).length : Int) = r.length + 1 := by simp
    rw [hl] at h2 h4
    by_cases e : a.toInt = lo
    · refine ⟨o, ?_, ?_⟩
      · rw [e, Int.sub_self]; rfl
      · unfold x_tsl x_swt
        rw [if_pos ((x_ofInt (a := a) h1 (by omega)).mpr e)]
    · obtain ⟨o1, a1, a2⟩ := x_tsl_in (a := a) (pc := pc) (d := d) r (lo + 1) (by omega) (by omega) (by omega) (by omega)
      refine ⟨o1, ?_, ?_⟩
      · rw [show (a.toInt - lo).toNat = (a.toInt - (lo + 1)).toNat + 1 by omega, List.getElem?_cons_succ]
        exact a1
      · unfold x_tsl x_swt
        rw [if_neg (fun q => e ((x_ofInt (a := a) h1 (by omega)).mp q))]
        exact a2
theorem x_psl_t {a : Int32} {pc d : Int} (hd : 0 ≤ pc + d) : ∀ (ps : List (Int × Int)), (∀ o ∈ ps, 0 ≤ pc + o.2 ∧ -1000 ≤ o.1 ∧ o.1 ≤ 1000) → pc + Op.lookupswitch.offset ps d a.toInt = (x_swt a (x_psl pc ps) (pc + d).toNat : Int)
  | [], _ => by
    rw [Op.lookupswitch.offset_nil]
    unfold x_psl x_swt
    omega
  | (k, o) :: r, h => by
    have h1 := h (k, o) List.mem_cons_self
    have ih := x_psl_t (a := a) hd r (fun q hq => h q (List.mem_cons_of_mem _ hq))
    rw [Op.lookupswitch.offset_cons]
    unfold x_psl x_swt
    by_cases e : a.toInt = k
    · rw [if_pos e.symm, if_pos ((x_ofInt h1.2.1 h1.2.2).mpr e)]
      have := h1.1
      dsimp only at this ⊢
      omega
    · rw [if_neg (fun q => e q.symm), if_neg (fun q => e ((x_ofInt h1.2.1 h1.2.2).mp q))]
      exact ih
theorem x_gwW {z : Nat} {w : Cond} {args : Array Value} {s : State} (hts : ∀ w ∈ x_gw, w.before args s = true) (h : lw_tbl[z]? = some w) (hg : goodWord w = true) : w.before args s = true := hts w (x_gw_mem (List.mem_of_getElem? h) hg)
theorem x_g_inv {pc : Nat} {ls st : List xMV} {w : xWd} {e : xEff} (h : x_g pc ls st w = some e) : e = .inl (pc, ls, st, w) := (Option.some.inj h).symm
theorem x_o_inv {P : Prop} {pc : Nat} {ls st : List xMV} {w : xWd} {e : xEff} (h : x_o P pc ls st w = some e) : e = .inr (.inl (P, pc, ls, st, w)) := (Option.some.inj h).symm
theorem x_s1 {v u : xMV} {st : List xMV} (h : xSR (u :: st)) (hv : x_vok v) : xSR (v :: st) := xSR.cons (xSR.tl h) hv
theorem x_s2 {v u u' : xMV} {st : List xMV} (h : xSR (u :: u' :: st)) (hv : x_vok v) : xSR (v :: st) := xSR.cons (xSR.tl (xSR.tl h)) hv
theorem x_vokA {c a : Nat} (h : x_vok (xA c a)) (hc : c ≠ 51) : (a, c) ∈ x_cells := by
  rcases h with h | h
  · exact absurd (congrArg Prod.fst h) hc
  · exact h
theorem x_put_scr {w : xWd} {a : Nat} {f : Nat → Int32} (h0 : a ≠ 0) (h4 : a ≠ 4) : (x_put w a f) 0 = w 0 ∧ (x_put w a f) 4 = w 4 := ⟨if_neg (Ne.symm h0), if_neg (Ne.symm h4)⟩
theorem x_put_self {w : xWd} {a : Nat} {f : Nat → Int32} : (x_put w a f) a = f := if_pos rfl
theorem x_beq {a b : Nat} (h : Nat.beq a b = true) : a = b := Nat.eq_of_beq_eq_true h
theorem x_ble {a b : Nat} (h : Nat.ble a b = true) : a ≤ b := Nat.le_of_ble_eq_true h
theorem x_pf_inv {x y pc : Nat} {ls st : List xMV} {w : xWd} {e : xEff} (h : x_pf x y pc ls st w = some e) : ∃ v a r, st = xI v :: xA x a :: r ∧ x_ft x y = none ∧ ((x_fz x y = true ∧ e = .inr (.inl (v = 0 ∨ v = 1, pc + 3, ls, r, x_set w a y v))) ∨ (x_fz x y = false ∧ e = .inl (pc + 3, ls, r, x_set w a y v))) := by
  unfold x_pf at h
  split at h
  · rename_i v q r
    obtain ⟨hc, h⟩ := x_bif h
    obtain ⟨c, a⟩ := q
    have hc : c = x := x_beq hc
    subst hc
    split at h
    · rename_i hf
      refine ⟨v, a, r, rfl, hf, ?_⟩
      cases hz : x_fz c y with
      | true => rw [hz] at h; exact Or.inl ⟨rfl, x_o_inv h⟩
      | false => rw [hz] at h; exact Or.inr ⟨rfl, x_g_inv h⟩
    · cases h
  · cases h
theorem x_iald_inv {n pc : Nat} {ls st : List xMV} {w : xWd} {e : xEff} (h : x_iald n pc ls st w = some e) : ∃ i c a r, st = xI i :: xA c a :: r ∧ ((c = 51 ∧ e = .inr (.inl (n = 0 ∧ vp_in i (w 4 0).toNatClampNeg, pc + 1, ls, xI (w a i.toNatClampNeg) :: r, w))) ∨ (100 ≤ c ∧ e = .inr (.inl (vp_in i (c - 100), pc + 1, ls, xI (w a i.toNatClampNeg) :: r, w)))) := by
  unfold x_iald at h
  split at h
  · rename_i i q r
    obtain ⟨c, a⟩ := q
    refine ⟨i, c, a, r, rfl, ?_⟩
    cases hc : Nat.beq c 51 with
    | true => rw [hc] at h; exact Or.inl ⟨x_beq hc, x_o_inv h⟩
    | false => rw [hc] at h; obtain ⟨h1, h⟩ := x_bif h; exact Or.inr ⟨x_ble h1, x_o_inv h⟩
  · cases h
theorem x_iast_inv {pc : Nat} {ls st : List xMV} {w : xWd} {e : xEff} (h : x_iast pc ls st w = some e) : ∃ v i c a r, st = xI v :: xI i :: xA c a :: r ∧ 100 ≤ c ∧ e = .inr (.inl (vp_in i (c - 100), pc + 1, ls, r, x_set w a i.toNatClampNeg v)) := by
  unfold x_iast at h
  split at h
  · rename_i v i q r
    obtain ⟨c, a⟩ := q
    obtain ⟨h1, h⟩ := x_bif h
    exact ⟨v, i, c, a, r, rfl, x_ble h1, x_o_inv h⟩
  · cases h
theorem x_aald_inv {pc : Nat} {ls st : List xMV} {w : xWd} {e : xEff} (h : x_aald pc ls st w = some e) : ∃ i a r, st = xI i :: xA 50 a :: r ∧ e = .inr (.inl (vp_in i 4, pc + 1, ls, xA 3 (x_gr 50 a i.toNatClampNeg) :: r, w)) := by
  unfold x_aald at h
  split at h
  · rename_i i q r
    obtain ⟨c, a⟩ := q
    obtain ⟨h1, h⟩ := x_bif h
    have h1 : c = 50 := x_beq h1
    subst h1
    exact ⟨i, a, r, rfl, x_o_inv h⟩
  · cases h
theorem x_ist_inv {d x y pc : Nat} {ls st : List xMV} {w : xWd} {e : xEff} (h : x_ist d x y pc ls st w = some e) :
    (x = 9999 ∧ ∃ n dp c1 a1 sp c0 a0, st = [xI n, xI dp, xA c1 a1, xI sp, xA c0 a0] ∧ e = .inr (.inl ((1 ≤ d ∧ 100 ≤ c0 ∧ 100 ≤ c1 ∧ ¬ sp < 0 ∧ ¬ dp < 0 ∧ ¬ n < 0 ∧ sp.toNatClampNeg + n.toNatClampNeg ≤ c0 - 100 ∧ dp.toNatClampNeg + n.toNatClampNeg ≤ c1 - 100), pc + 3, ls, [], x_put w a1 (va_cpy (w a0) (w a1) sp.toNatClampNeg dp.toNatClampNeg n.toNatClampNeg)))) ∨
    (x = 9998 ∧ ∃ a b r, st = xI b :: xI a :: r ∧ x_catS r ≤ 8 ∧ e = .inr (.inl (1 ≤ d, pc + 3, ls, xI (if a < b then b else a) :: r, w))) ∨
    (x = 9997 ∧ ∃ a b r, st = xI b :: xI a :: r ∧ x_catS r ≤ 8 ∧ e = .inr (.inl (1 ≤ d, pc + 3, ls, xI (if b < a then b else a) :: r, w))) ∨
    (∃ q, e = .inr (.inr q)) := by
  unfold x_ist at h
  cases h1 : Nat.beq x 9999 with
  | true =>
    rw [h1] at h
    left
    refine ⟨x_beq h1, ?_⟩
    dsimp only [cond_true] at h
    split at h
    · rename_i n dp q1 sp q0
      obtain ⟨c1, a1⟩ := q1
      obtain ⟨c0, a0⟩ := q0
      exact ⟨n, dp, c1, a1, sp, c0, a0, rfl, x_o_inv h⟩
    · cases h
  | false =>
    rw [h1] at h
    right
    cases h2 : Nat.beq x 9998 with
    | true =>
      rw [h2] at h
      left
      refine ⟨x_beq h2, ?_⟩
      dsimp only [cond_true, cond_false] at h
      obtain ⟨a, b, r, e1, h⟩ := x_p2_inv h
      obtain ⟨h3, h⟩ := x_bif h
      exact ⟨a, b, r, e1, x_ble h3, x_o_inv h⟩
    | false =>
      rw [h2] at h
      right
      cases h4 : Nat.beq x 9997 with
      | true =>
        rw [h4] at h
        left
        refine ⟨x_beq h4, ?_⟩
        dsimp only [cond_true, cond_false] at h
        obtain ⟨a, b, r, e1, h⟩ := x_p2_inv h
        obtain ⟨h3, h⟩ := x_bif h
        exact ⟨a, b, r, e1, x_ble h3, x_o_inv h⟩
      | false =>
        rw [h4] at h
        right
        dsimp only [cond_true, cond_false] at h
        unfold x_cl at h
        split at h
        · cases h
        · obtain ⟨-, h⟩ := x_bif h
          exact ⟨_, (Option.some.inj h).symm⟩
theorem x_w_native : Cond.native arraycopyName ∈ x_gw := x_gw_mem (by decide +kernel) rfl
theorem x_w_static : Cond.static arraycopyName ∈ x_gw := x_gw_mem (by decide +kernel) rfl
theorem x_w_sysinit : Cond.initialized "java/lang/System" ∈ x_gw := x_gw_mem (by decide +kernel) rfl
theorem x_w_mathI : Cond.initialized "java/lang/Math" ∈ x_gw := x_gw_mem (by decide +kernel) rfl
theorem x_w_maxS : Cond.static Lib.Math.max.name ∈ x_gw := x_gw_mem (by decide +kernel) rfl
theorem x_w_minS : Cond.static Lib.Math.min.name ∈ x_gw := x_gw_mem (by decide +kernel) rfl
theorem x_w_maxC : Cond.code Lib.Math.max.name Lib.Math.max.code 2 (some .int) ∈ x_gw := x_gw_mem (by decide +kernel) rfl
theorem x_w_minC : Cond.code Lib.Math.min.name Lib.Math.min.code 2 (some .int) ∈ x_gw := x_gw_mem (by decide +kernel) rfl
theorem x_catS_map {g : xG} : ∀ (r : List xMV), ((r.map (x_rv g)).map fun v => v.category).sum = x_catS r
  | [] => rfl
  | v :: r => by
    have h1 : (x_rv g v).category = x_cat v := by rcases v with _ | v | v | v <;> rfl
    rw [List.map_cons, List.map_cons, List.sum_cons, x_catS_map r, h1]; rfl
set_option maxHeartbeats 4000000 in
/-- the numbers' instructions -/
theorem x_step {g : xG} {A : Nat → Prop} {k d : Nat} {p : Program} {l : Launch} {e0 : Env} {R : Room} {s : State} {m : MethodId} {args : Array Value} {below : List Frame} {meth : Method} {c : Code} {cells slots : Nat} {Q : State → Prop} (C : xCx g A k d p R s m args c cells slots)
    {pc : Nat} {r : xRow} (hr : x_tb k pc = some r) {ls st : List xMV} {w : xWd} {e : xEff} (he : x_eff r d k pc ls st w = some e)
    (hk1 : ∀ s', e = .inl s' → xW g A k p l e0 R s m args below meth c cells slots Q s'.1 s'.2.1 s'.2.2.1 s'.2.2.2)
    (hk2 : ∀ P s', e = .inr (.inl (P, s')) → P ∧ xW g A k p l e0 R s m args below meth c cells slots Q s'.1 s'.2.1 s'.2.2.1 s'.2.2.2)
    (hk3 : ∀ q, e ≠ .inr (.inr q)) : xW g A k p l e0 R s m args below meth c cells slots Q pc ls st w := by
  obtain ⟨hx, hb, hml, hown, hts, hKW, hA, hcs, hR, hX⟩ := C
  obtain ⟨hd, hw⟩ := x_row hr
  obtain ⟨ins, x, y, z⟩ := r
  cases ins with
  | iconst v =>
    obtain rfl := x_g_inv he
    intro H locs als hp hl hs
    exact lv_iconst hx hb hd rfl (hk1 _ rfl H locs als hp hl (xSR.cons hs trivial))
  | bipush v =>
    obtain rfl := x_g_inv he
    intro H locs als hp hl hs
    exact lv_bipush hx hb hd (of_decide_eq_true hw) (hk1 _ rfl H locs als hp hl (xSR.cons hs trivial))
  | sipush v =>
    obtain rfl := x_g_inv he
    intro H locs als hp hl hs
    exact lv_sipush hx hb hd (of_decide_eq_true hw) (hk1 _ rfl H locs als hp hl (xSR.cons hs trivial))
  | ldc_w v =>
    obtain rfl := x_g_inv he
    intro H locs als hp hl hs
    exact lv_ldcw hx hb hown (x_gwW hts (of_decide_eq_true hw) rfl) hd (hk1 _ rfl H locs als hp hl (xSR.cons hs trivial))
  | lconst v =>
    obtain rfl := x_g_inv he
    intro H locs als hp hl hs
    exact lv_lconst hx hb hd rfl (hk1 _ rfl H locs als hp hl (xSR.cons hs trivial))
  | ldc2_w v =>
    obtain rfl := x_g_inv he
    intro H locs als hp hl hs
    exact lv_ldc2 hx hb hown (x_gwW hts (of_decide_eq_true hw) rfl) hd (hk1 _ rfl H locs als hp hl (xSR.cons hs trivial))
  | iload_n i =>
    have he : x_ldI ls i.val (fun v => x_g (pc + 1) ls (v :: st) w) = some e := he
    obtain ⟨v, hv, h⟩ := x_ldI_inv he
    obtain rfl := x_g_inv h
    intro H locs als hp hl hs
    exact lv_iload_n hx hb hd rfl (hl.2.2.2 _ _ hv).1 (hk1 _ rfl H locs als hp hl (xSR.cons hs trivial))
  | iload i =>
    have he : x_ldI ls i (fun v => x_g (pc + 2) ls (v :: st) w) = some e := he
    obtain ⟨v, hv, h⟩ := x_ldI_inv he
    obtain rfl := x_g_inv h
    intro H locs als hp hl hs
    exact lv_iload hx hb hd (hl.2.2.2 _ _ hv).1 (hk1 _ rfl H locs als hp hl (xSR.cons hs trivial))
  | lload_n i =>
    have he : x_ldJ ls i.val (fun v => x_g (pc + 1) ls (v :: st) w) = some e := he
    obtain ⟨v, hv, h⟩ := x_ldJ_inv he
    obtain rfl := x_g_inv h
    intro H locs als hp hl hs
    exact lv_lload_n hx hb hd rfl (hl.2.2.2 _ _ hv).1 (hk1 _ rfl H locs als hp hl (xSR.cons hs trivial))
  | lload i =>
    have he : x_ldJ ls i (fun v => x_g (pc + 2) ls (v :: st) w) = some e := he
    obtain ⟨v, hv, h⟩ := x_ldJ_inv he
    obtain rfl := x_g_inv h
    intro H locs als hp hl hs
    exact lv_lload hx hb hd (hl.2.2.2 _ _ hv).1 (hk1 _ rfl H locs als hp hl (xSR.cons hs trivial))
  | aload_n i =>
    have he : x_ldA ls i.val (fun v => x_g (pc + 1) ls (v :: st) w) = some e := he
    obtain ⟨c1, a1, hv, h⟩ := x_ldA_inv he
    obtain rfl := x_g_inv h
    intro H locs als hp hl hs
    exact lv_aload_n hx hb hd rfl (hl.2.2.2 _ _ hv).1 (hk1 _ rfl H locs als hp hl (xSR.cons hs (hl.2.2.2 _ _ hv).2))
  | aload i =>
    have he : x_ldA ls i (fun v => x_g (pc + 2) ls (v :: st) w) = some e := he
    obtain ⟨c1, a1, hv, h⟩ := x_ldA_inv he
    obtain rfl := x_g_inv h
    intro H locs als hp hl hs
    exact lv_aload hx hb hd (hl.2.2.2 _ _ hv).1 (hk1 _ rfl H locs als hp hl (xSR.cons hs (hl.2.2.2 _ _ hv).2))
  | istore_n i =>
    obtain ⟨v, q, rfl, hn, rfl⟩ := x_stI_inv he
    intro H locs als hp hl hs
    exact lv_istore_n hx hb hd rfl hl.has (of_decide_eq_true hw) rfl (fun als' hl' => hk1 _ rfl H locs als' hp (hl.st1 hn trivial (of_decide_eq_true hw) hl') (xSR.tl hs))
  | istore i =>
    obtain ⟨v, q, rfl, hn, rfl⟩ := x_stI_inv he
    intro H locs als hp hl hs
    exact lv_istore hx hb hd hl.has (of_decide_eq_true hw) rfl (fun als' hl' => hk1 _ rfl H locs als' hp (hl.st1 hn trivial (of_decide_eq_true hw) hl') (xSR.tl hs))
  | astore_n i =>
    obtain ⟨c1, a1, q, rfl, hn, rfl⟩ := x_stA_inv he
    intro H locs als hp hl hs
    exact lv_astore_n hx hb hd rfl hl.has (of_decide_eq_true hw) rfl (fun als' hl' => hk1 _ rfl H locs als' hp (hl.st1 hn (hs _ List.mem_cons_self) (of_decide_eq_true hw) hl') (xSR.tl hs))
  | astore i =>
    obtain ⟨c1, a1, q, rfl, hn, rfl⟩ := x_stA_inv he
    intro H locs als hp hl hs
    exact lv_astore hx hb hd hl.has (of_decide_eq_true hw) rfl (fun als' hl' => hk1 _ rfl H locs als' hp (hl.st1 hn (hs _ List.mem_cons_self) (of_decide_eq_true hw) hl') (xSR.tl hs))
  | lstore i =>
    obtain ⟨v, q, rfl, hn, rfl⟩ := x_stJ_inv he
    intro H locs als hp hl hs
    exact lv_lstore hx hb hd hl.has (of_decide_eq_true hw) rfl (fun als' hl' => hk1 _ rfl H locs als' hp (hl.st2 hn trivial (of_decide_eq_true hw) hl') (xSR.tl hs))
  | iinc i v =>
    have he : (match ls[i]? with | some (some (.inl v1)) => x_sto1 i (pc + 3) ls (xI (v1 + Int32.ofInt v)) st w | _ => none) = some e := he
    split at he
    · next v1 hv =>
      obtain ⟨hn, rfl⟩ := x_sto1_inv he
      intro H locs als hp hl hs
      obtain ⟨j, hj⟩ := List.mem_iff_getElem?.mp (x_lvl_mem (g := g).mpr ⟨_, hv, rfl⟩)
      exact lv_iinc hx hb hd hl.has hj rfl (of_decide_eq_true hw) rfl (fun als' hl' => hk1 _ rfl H locs als' hp (hl.st1 hn trivial (of_decide_eq_true hw) hl') hs)
    · cases he
  | iadd =>
    obtain ⟨a, b, q, rfl, h⟩ := x_p2_inv he
    obtain rfl := x_g_inv h
    intro H locs als hp hl hs
    exact lv_iadd hx hb hd (hk1 _ rfl H locs als hp hl (x_s2 hs trivial))
  | isub =>
    obtain ⟨a, b, q, rfl, h⟩ := x_p2_inv he
    obtain rfl := x_g_inv h
    intro H locs als hp hl hs
    exact lv_isub hx hb hd (hk1 _ rfl H locs als hp hl (x_s2 hs trivial))
  | imul =>
    obtain ⟨a, b, q, rfl, h⟩ := x_p2_inv he
    obtain rfl := x_g_inv h
    intro H locs als hp hl hs
    exact lv_imul hx hb hd (hk1 _ rfl H locs als hp hl (x_s2 hs trivial))
  | iand =>
    obtain ⟨a, b, q, rfl, h⟩ := x_p2_inv he
    obtain rfl := x_g_inv h
    intro H locs als hp hl hs
    exact lv_iand hx hb hd (hk1 _ rfl H locs als hp hl (x_s2 hs trivial))
  | ior =>
    obtain ⟨a, b, q, rfl, h⟩ := x_p2_inv he
    obtain rfl := x_g_inv h
    intro H locs als hp hl hs
    exact lv_ior hx hb hd (hk1 _ rfl H locs als hp hl (x_s2 hs trivial))
  | ixor =>
    obtain ⟨a, b, q, rfl, h⟩ := x_p2_inv he
    obtain rfl := x_g_inv h
    intro H locs als hp hl hs
    exact lv_ixor hx hb hd (hk1 _ rfl H locs als hp hl (x_s2 hs trivial))
  | ishl =>
    obtain ⟨a, b, q, rfl, h⟩ := x_p2_inv he
    obtain rfl := x_g_inv h
    intro H locs als hp hl hs
    exact lv_ishl hx hb hd (hk1 _ rfl H locs als hp hl (x_s2 hs trivial))
  | ishr =>
    obtain ⟨a, b, q, rfl, h⟩ := x_p2_inv he
    obtain rfl := x_g_inv h
    intro H locs als hp hl hs
    exact lv_ishr hx hb hd (hk1 _ rfl H locs als hp hl (x_s2 hs trivial))
  | iushr =>
    obtain ⟨a, b, q, rfl, h⟩ := x_p2_inv he
    obtain rfl := x_g_inv h
    intro H locs als hp hl hs
    exact lv_iushr hx hb hd rfl (hk1 _ rfl H locs als hp hl (x_s2 hs trivial))
  | idiv =>
    obtain ⟨a, b, q, rfl, h⟩ := x_p2_inv he
    obtain rfl := x_o_inv h
    obtain ⟨hp0, hk⟩ := hk2 _ _ rfl
    intro H locs als hp hl hs
    exact lv_idiv hx hb hd hp0 (hk H locs als hp hl (x_s2 hs trivial))
  | irem =>
    obtain ⟨a, b, q, rfl, h⟩ := x_p2_inv he
    obtain rfl := x_o_inv h
    obtain ⟨hp0, hk⟩ := hk2 _ _ rfl
    intro H locs als hp hl hs
    exact lv_irem hx hb hd hp0 (hk H locs als hp hl (x_s2 hs trivial))
  | i2b =>
    obtain ⟨a, q, rfl, h⟩ := x_p1_inv he
    obtain rfl := x_g_inv h
    intro H locs als hp hl hs
    exact lv_i2b hx hb hd rfl (hk1 _ rfl H locs als hp hl (x_s1 hs trivial))
  | i2s =>
    obtain ⟨a, q, rfl, h⟩ := x_p1_inv he
    obtain rfl := x_g_inv h
    intro H locs als hp hl hs
    exact lv_i2s hx hb hd rfl (hk1 _ rfl H locs als hp hl (x_s1 hs trivial))
  | i2l =>
    obtain ⟨a, q, rfl, h⟩ := x_p1_inv he
    obtain rfl := x_g_inv h
    intro H locs als hp hl hs
    exact lv_i2l hx hb hd rfl (hk1 _ rfl H locs als hp hl (x_s1 hs trivial))
  | ldiv =>
    obtain ⟨a, b, q, rfl, h⟩ := x_q2_inv he
    obtain rfl := x_o_inv h
    obtain ⟨hp0, hk⟩ := hk2 _ _ rfl
    intro H locs als hp hl hs
    exact lv_ldiv hx hb hd hp0 (hk H locs als hp hl (x_s2 hs trivial))
  | lrem =>
    obtain ⟨a, b, q, rfl, h⟩ := x_q2_inv he
    obtain rfl := x_o_inv h
    obtain ⟨hp0, hk⟩ := hk2 _ _ rfl
    intro H locs als hp hl hs
    exact lv_lrem hx hb hd hp0 (hk H locs als hp hl (x_s2 hs trivial))
  | lcmp =>
    obtain ⟨a, b, q, rfl, h⟩ := x_q2_inv he
    obtain rfl := x_g_inv h
    intro H locs als hp hl hs
    exact W.lcmp hx hb hd (hk1 _ rfl H locs als hp hl (x_s2 hs trivial))
  | dup =>
    unfold x_eff at he
    dsimp only at he
    split at he
    · obtain rfl := x_g_inv he
      intro H locs als hp hl hs
      exact lv_dup hx hb hd rfl (hk1 _ rfl H locs als hp hl (xSR.cons hs trivial))
    · obtain rfl := x_g_inv he
      intro H locs als hp hl hs
      exact lv_dup hx hb hd rfl (hk1 _ rfl H locs als hp hl (xSR.cons hs (hs _ List.mem_cons_self)))
    · cases he
  | dup2 =>
    unfold x_eff at he
    dsimp only at he
    split at he
    · obtain rfl := x_g_inv he
      intro H locs als hp hl hs
      exact lv_dup2_11 hx hb hd rfl rfl (hk1 _ rfl H locs als hp hl (xSR.cons (xSR.cons hs (hs _ (List.mem_cons_of_mem _ List.mem_cons_self))) trivial))
    · cases he
  | pop =>
    obtain ⟨a, q, rfl, h⟩ := x_p1_inv he
    obtain rfl := x_g_inv h
    intro H locs als hp hl hs
    exact lv_pop hx hb hd rfl (hk1 _ rfl H locs als hp hl (xSR.tl hs))
  | ifCond cc o =>
    obtain ⟨a, q, rfl, h⟩ := x_p1_inv he
    obtain rfl := x_g_inv h
    have ht := of_decide_eq_true hw
    intro H locs als hp hl hs
    have hk := hk1 _ rfl H locs als hp hl (xSR.tl hs)
    dsimp only at hk
    cases cc with
    | eq => exact lv_if_eq hx hb hd ht (fun q => by rw [show x_icmp .eq a 0 x (pc + 3) = x from if_pos q] at hk; exact hk) (fun q => by rw [show x_icmp .eq a 0 x (pc + 3) = pc + 3 from if_neg q] at hk; exact hk)
    | ne => exact lv_if_ne hx hb hd ht (fun q => by rw [show x_icmp .ne a 0 x (pc + 3) = x from if_neg q] at hk; exact hk) (fun q => by rw [show x_icmp .ne a 0 x (pc + 3) = pc + 3 from if_pos q] at hk; exact hk)
    | lt => exact lv_if_lt hx hb hd ht (fun q => by rw [show x_icmp .lt a 0 x (pc + 3) = x from if_pos q] at hk; exact hk) (fun q => by rw [show x_icmp .lt a 0 x (pc + 3) = pc + 3 from if_neg q] at hk; exact hk)
    | ge => exact lv_if_ge hx hb hd ht (fun q => by rw [show x_icmp .ge a 0 x (pc + 3) = x from if_pos q] at hk; exact hk) (fun q => by rw [show x_icmp .ge a 0 x (pc + 3) = pc + 3 from if_neg q] at hk; exact hk)
    | gt => exact lv_if_gt hx hb hd ht (fun q => by rw [show x_icmp .gt a 0 x (pc + 3) = x from if_pos q] at hk; exact hk) (fun q => by rw [show x_icmp .gt a 0 x (pc + 3) = pc + 3 from if_neg q] at hk; exact hk)
    | le => exact lv_if_le hx hb hd ht (fun q => by rw [show x_icmp .le a 0 x (pc + 3) = x from if_pos q] at hk; exact hk) (fun q => by rw [show x_icmp .le a 0 x (pc + 3) = pc + 3 from if_neg q] at hk; exact hk)
  | if_icmp cc o =>
    obtain ⟨a, b, q, rfl, h⟩ := x_p2_inv he
    obtain rfl := x_g_inv h
    have ht := of_decide_eq_true hw
    intro H locs als hp hl hs
    have hk := hk1 _ rfl H locs als hp hl (xSR.tl (xSR.tl hs))
    dsimp only at hk
    cases cc with
    | eq => exact lv_icmp_eq hx hb hd ht (fun q => by rw [show x_icmp .eq a b x (pc + 3) = x from if_pos q] at hk; exact hk) (fun q => by rw [show x_icmp .eq a b x (pc + 3) = pc + 3 from if_neg q] at hk; exact hk)
    | ne => exact lv_icmp_ne hx hb hd ht (fun q => by rw [show x_icmp .ne a b x (pc + 3) = x from if_neg q] at hk; exact hk) (fun q => by rw [show x_icmp .ne a b x (pc + 3) = pc + 3 from if_pos q] at hk; exact hk)
    | lt => exact lv_icmp_lt hx hb hd ht (fun q => by rw [show x_icmp .lt a b x (pc + 3) = x from if_pos q] at hk; exact hk) (fun q => by rw [show x_icmp .lt a b x (pc + 3) = pc + 3 from if_neg q] at hk; exact hk)
    | ge => exact lv_icmp_ge hx hb hd ht (fun q => by rw [show x_icmp .ge a b x (pc + 3) = x from if_pos q] at hk; exact hk) (fun q => by rw [show x_icmp .ge a b x (pc + 3) = pc + 3 from if_neg q] at hk; exact hk)
    | gt => exact lv_icmp_gt hx hb hd ht (fun q => by rw [show x_icmp .gt a b x (pc + 3) = x from if_pos q] at hk; exact hk) (fun q => by rw [show x_icmp .gt a b x (pc + 3) = pc + 3 from if_neg q] at hk; exact hk)
    | le => exact lv_icmp_le hx hb hd ht (fun q => by rw [show x_icmp .le a b x (pc + 3) = x from if_pos q] at hk; exact hk) (fun q => by rw [show x_icmp .le a b x (pc + 3) = pc + 3 from if_neg q] at hk; exact hk)
  | goto o =>
    obtain rfl := x_g_inv he
    intro H locs als hp hl hs
    exact lv_goto hx hb hd (of_decide_eq_true hw) (hk1 _ rfl H locs als hp hl hs)
  | tableswitch dft lo hi offs =>
    obtain ⟨a, q, rfl, h⟩ := x_p1_inv he
    obtain rfl := x_g_inv h
    have hw : (decide (hi = lo + offs.toList.length - 1) && decide (0 ≤ (pc : Int) + dft) && offs.toList.all (fun o => decide (0 ≤ (pc : Int) + o)) && decide (-1000 ≤ lo ∧ hi ≤ 1000)) = true := hw
    simp only [Bool.and_eq_true, decide_eq_true_eq] at hw
    obtain ⟨⟨⟨hhi, hdn⟩, hall⟩, hlo, hhi2⟩ := hw
    intro H locs als hp hl hs
    have hk := hk1 _ rfl H locs als hp hl (xSR.tl hs)
    dsimp only at hk
    by_cases h1 : a.toInt < lo ∨ hi < a.toInt
    · rw [x_tsl_out offs.toList lo hlo (by omega) (by omega)] at hk
      exact lv_tableOut hx hb hd h1 (by omega) hk
    · obtain ⟨o, ho, e1⟩ := x_tsl_in (a := a) (pc := (pc : Int)) (d := ((pc : Int) + dft).toNat) offs.toList lo hlo (by omega) (by omega) (by omega)
      rw [e1] at hk
      have ho2 : 0 ≤ (pc : Int) + o := by
        have := List.all_eq_true.mp hall o (List.mem_of_getElem? ho)
        simpa using this
      exact lv_tableIn hx hb hd (by omega) (by omega) (by rw [← Array.getElem?_toList]; exact ho) (by omega) hk
  | lookupswitch dft ps =>
    obtain ⟨a, q, rfl, h⟩ := x_p1_inv he
    obtain rfl := x_g_inv h
    have hw : (decide (0 ≤ (pc : Int) + dft) && ps.toList.all (fun o => decide (0 ≤ (pc : Int) + o.2) && decide (-1000 ≤ o.1 ∧ o.1 ≤ 1000)) && (ps.toList.zip (ps.toList.drop 1)).all (fun (a, next) => decide (a.1 < next.1))) = true := hw
    rw [Bool.and_eq_true, Bool.and_eq_true] at hw
    obtain ⟨⟨hdn, hall⟩, hsort⟩ := hw
    intro H locs als hp hl hs
    have hk := hk1 _ rfl H locs als hp hl (xSR.tl hs)
    dsimp only at hk
    exact lv_lookup hx hb hd hsort rfl (x_psl_t (of_decide_eq_true hdn) ps.toList (fun o ho => by
      have := List.all_eq_true.mp hall o ho
      simpa [Bool.and_eq_true] using this)) hk
  | getfield i =>
    have he : x_pa st (fun c a q => bif Nat.beq c x then x_g (pc + 3) ls (x_fv x a y w :: q) w else none) = some e := he
    obtain ⟨c1, a1, q, rfl, h⟩ := x_pa_inv he
    obtain ⟨hc, h⟩ := x_bif h
    obtain rfl := x_beq hc
    obtain rfl := x_g_inv h
    have hw : (decide (c1 < 8) && decide (y < x_nf c1) && decide (lw_tbl[z]? = some (Cond.fieldLink (x_mt k).1.cls i (x_F c1 y).1 (x_F c1 y).2.1 (x_F c1 y).2.2.1))) = true := hw
    simp only [Bool.and_eq_true, decide_eq_true_eq] at hw
    obtain ⟨⟨hc8, hy⟩, hlk⟩ := hw
    intro H locs als hp hl hs
    have hcell := x_vokA (hs _ List.mem_cons_self) (by omega : c1 ≠ 51)
    obtain ⟨q0, -, he0⟩ := x_wl_at (g := g) (w := w) hcell
    rw [x_ce_obj hc8] at he0
    obtain ⟨hcl, hN⟩ := x_cls_at c1 hc8
    refine va_get (D := g.1) (C := (x_cn c1).1) (T := (x_cn c1).2.1) (N := (x_cn c1).2.2) hx hb hts (x_cls_in c1 hc8) hown hKW.1 hp.1 q0 he0 hcl y (by rw [hN]; exact hy) (x_gwW hts hlk rfl) (fun _ h9 => h9) (x_fs_at hy) hd (hk1 _ rfl H locs als hp hl (x_s1 hs ?_))
    unfold x_fv
    cases hft : x_ft c1 y with
    | none => exact trivial
    | some t => exact Or.inr (x_cell_fld hcell hy hft)
  | putfield i =>
    obtain ⟨v, a1, r, rfl, hft, h⟩ := x_pf_inv (show x_pf x y pc ls st w = some e from he)
    clear he
    have hw : (decide (x < 8) && decide (y < x_nf x) && decide (lw_tbl[z]? = some (Cond.fieldLink (x_mt k).1.cls i (x_F x y).1 (x_F x y).2.1 (x_F x y).2.2.1)) && decide ((x_F x y).2.2.2 = false) && (if x_fz x y then decide (parseFieldDescriptor (x_F x y).2.2.1 = some .boolean) else decide (parseFieldDescriptor (x_F x y).2.2.1 = some .int))) = true := hw
    rw [Bool.and_eq_true, Bool.and_eq_true, Bool.and_eq_true, Bool.and_eq_true] at hw
    obtain ⟨⟨⟨⟨hc8, hy⟩, hlk⟩, hfin⟩, hty⟩ := hw
    have hc8 := of_decide_eq_true hc8
    have hy := of_decide_eq_true hy
    have hlk := of_decide_eq_true hlk
    have hfin := of_decide_eq_true hfin
    obtain ⟨hcl, hN⟩ := x_cls_at x hc8
    obtain ⟨ty0, hty0, hnm⟩ := x_cls_put x hc8
    have fin : ∀ (ty : FieldType), parseFieldDescriptor (x_F x y).2.2.1 = some ty → narrow ty (.int v) = .int v → fits ty (.int v) = true → xW g A k p l e0 R s m args below meth c cells slots Q (pc + 3) ls r (x_set w a1 y v) → xW g A k p l e0 R s m args below meth c cells slots Q pc ls (xI v :: xA x a1 :: r) w := by
      intro ty hd1 hn1 hf1 hk H locs als hp hl hs
      have hcell := x_vokA (hs _ (List.mem_cons_of_mem _ List.mem_cons_self)) (by omega : x ≠ 51)
      obtain ⟨q0, hq0, he0⟩ := x_wl_at (g := g) (w := w) hcell
      rw [x_ce_obj hc8] at he0
      obtain ⟨n0, n4, -⟩ := x_cell_ne hcell
      refine va_put (v := .int v) (D := g.1) (C := (x_cn x).1) (T := (x_cn x).2.1) (N := (x_cn x).2.2) hx hb hts (x_cls_in x hc8) ty0 hty0 hnm hown hKW.1 hp.1 hp.2.1 hp.2.2.1 q0 he0 hcl y (by rw [hN]; exact hy) (x_gwW hts hlk rfl) (fun _ h9 => h9) hfin hd1 hn1 hf1 (by simpa using hy) hd (fun H1 locs1 hP1 hD1 hS1 => ?_)
      rw [x_fs_set hft, ← x_ce_obj (g := g) (w := x_set w a1 y v) (a := a1) hc8] at hP1
      have e1 : (x_wl g w).set q0 (x_ce g (x_set w a1 y v) (a1, x)) = x_wl g (x_set w a1 y v) := x_wl_set hq0
      rw [e1] at hP1
      obtain ⟨s0, s4⟩ := x_put_scr (w := w) (f := upd (w a1) y v) n0 n4
      exact hk H1 locs1 als ⟨hP1, x_wl_D hp.2.1, hS1, s0.trans hp.2.2.2.1, s4.trans hp.2.2.2.2⟩ hl (xSR.tl (xSR.tl hs))
    rcases h with ⟨hz, rfl⟩ | ⟨hz, rfl⟩
    · rw [hz] at hty
      obtain ⟨hv, hk⟩ := hk2 _ _ rfl
      exact fin .boolean (of_decide_eq_true hty) (by rcases hv with rfl | rfl <;> rfl) (by rcases hv with rfl | rfl <;> rfl) hk
    · rw [hz] at hty
      exact fin .int (of_decide_eq_true hty) rfl rfl (hk1 _ rfl)
  | iaload =>
    obtain ⟨i, c1, a1, r, rfl, h⟩ := x_iald_inv (show x_iald k pc ls st w = some e from he)
    clear he
    rcases h with ⟨rfl, rfl⟩ | ⟨hc1, rfl⟩
    · obtain ⟨⟨hk0, hin⟩, hk⟩ := hk2 _ _ rfl
      obtain ⟨hXX, hbl, hbA, hL⟩ := hX hk0
      intro H locs als hp hl hs
      have ha : a1 = 0 := by
        rcases hs _ (List.mem_cons_of_mem _ List.mem_cons_self) with h | h
        · exact congrArg Prod.snd h
        · exact absurd rfl (x_cell_ne h).2.2
      subst ha
      rw [hp.2.2.2.2] at hin
      dsimp only at hin
      rw [nI_clamp hL] at hin
      have hk := hk H locs als hp hl (x_s2 hs trivial)
      dsimp only at hk
      have e1 : w 0 i.toNatClampNeg = g.2.2.2.1 i.toNatClampNeg := by rw [hp.2.2.2.1]
      rw [e1] at hk
      exact va_sld hx hb hXX hbl hbA hp.2.2.1 hin hd hk
    · obtain ⟨hin, hk⟩ := hk2 _ _ rfl
      intro H locs als hp hl hs
      have hcell := x_vokA (hs _ (List.mem_cons_of_mem _ List.mem_cons_self)) (by omega : c1 ≠ 51)
      obtain ⟨q0, -, he0⟩ := x_wl_at (g := g) (w := w) hcell
      rw [x_ce_arr hc1] at he0
      obtain ⟨t0, ht0⟩ := x_ty_arr (g := g) hcell hc1
      exact va_iald hx hb hKW.1 hp.1 q0 t0 he0 ht0 hin hd (hk H locs als hp hl (x_s2 hs trivial))
  | iastore =>
    obtain ⟨v, i, c1, a1, r, rfl, hc1, rfl⟩ := x_iast_inv (show x_iast pc ls st w = some e from he)
    obtain ⟨hin, hk⟩ := hk2 _ _ rfl
    intro H locs als hp hl hs
    have hcell := x_vokA (hs _ (List.mem_cons_of_mem _ (List.mem_cons_of_mem _ List.mem_cons_self))) (by omega : c1 ≠ 51)
    obtain ⟨q0, hq0, he0⟩ := x_wl_at (g := g) (w := w) hcell
    rw [x_ce_arr hc1] at he0
    obtain ⟨n0, n4, -⟩ := x_cell_ne hcell
    obtain ⟨t0, ht0⟩ := x_ty_arr (g := g) hcell hc1
    refine va_iast hx hb hKW.1 hp.1 hp.2.1 hp.2.2.1 q0 t0 he0 ht0 hin hd (fun H1 locs1 hP1 hD1 hS1 => ?_)
    have e0 : x_ce g (x_set w a1 i.toNatClampNeg v) (a1, c1) = (g.2.1 a1, .inl (g.2.2.1 a1, c1 - 100, .inl (upd (w a1) i.toNatClampNeg v))) := by
      rw [x_ce_arr hc1]; unfold x_set; rw [x_put_self]
    rw [← e0] at hP1
    have e1 : (x_wl g w).set q0 (x_ce g (x_set w a1 i.toNatClampNeg v) (a1, c1)) = x_wl g (x_set w a1 i.toNatClampNeg v) := x_wl_set hq0
    rw [e1] at hP1
    obtain ⟨s0, s4⟩ := x_put_scr (w := w) (f := upd (w a1) i.toNatClampNeg v) n0 n4
    exact hk H1 locs1 als ⟨hP1, x_wl_D hp.2.1, hS1, s0.trans hp.2.2.2.1, s4.trans hp.2.2.2.2⟩ hl (xSR.tl (xSR.tl (xSR.tl hs)))
  | aaload =>
    obtain ⟨i, a1, r, rfl, rfl⟩ := x_aald_inv (show x_aald pc ls st w = some e from he)
    obtain ⟨hin, hk⟩ := hk2 _ _ rfl
    intro H locs als hp hl hs
    have hcell := x_vokA (hs _ (List.mem_cons_of_mem _ List.mem_cons_self)) (by omega : 50 ≠ 51)
    obtain ⟨q0, -, he0⟩ := x_wl_at (g := g) (w := w) hcell
    rw [x_ce_row] at he0
    obtain ⟨t0, ht0⟩ := x_ty_row (g := g) hcell
    have hlt : i.toNatClampNeg < 4 := Nat.not_le.mp fun q => hin (Or.inr q)
    exact va_aldq hx hb hKW.1 hp.1 q0 t0 he0 ht0 hin hd (hk H locs als hp hl (x_s2 hs (Or.inr (x_cell_row hcell hlt))))
  | arraylength =>
    have he : x_alen k pc ls st w = some e := he
    unfold x_alen at he
    obtain ⟨c1, a1, q, rfl, h⟩ := x_pa_inv he
    clear he
    cases hc : Nat.beq c1 51 with
    | true =>
      rw [hc] at h
      have hc := x_beq hc
      subst hc
      obtain rfl := x_o_inv h
      obtain ⟨hk0, hk⟩ := hk2 _ _ rfl
      obtain ⟨hXX, hbl, hbA, hL⟩ := hX hk0
      intro H locs als hp hl hs
      have ha : a1 = 0 := by
        rcases hs _ List.mem_cons_self with h | h
        · exact congrArg Prod.snd h
        · exact absurd rfl (x_cell_ne h).2.2
      subst ha
      have hk := hk H locs als hp hl (x_s1 hs trivial)
      dsimp only at hk
      rw [hp.2.2.2.2] at hk
      exact va_slen hx hb hXX hbl hbA hp.2.2.1 hd hk
    | false =>
      rw [hc] at h
      obtain ⟨hc1, h⟩ := x_bif h
      have hc1 := x_ble hc1
      obtain rfl := x_g_inv h
      intro H locs als hp hl hs
      have hcell := x_vokA (hs _ List.mem_cons_self) (by omega : c1 ≠ 51)
      obtain ⟨q0, -, he0⟩ := x_wl_at (g := g) (w := w) hcell
      rw [x_ce_arr hc1] at he0
      obtain ⟨t0, ht0⟩ := x_ty_arr (g := g) hcell hc1
      exact va_alen hx hb hKW.1 hp.1 q0 t0 he0 ht0 rfl hd (hk1 _ rfl H locs als hp hl (x_s1 hs trivial))
  | invokevirtual i =>
    exfalso
    have he : x_clv x (x_rev st y []) = some e := he
    unfold x_clv at he
    split at he
    · obtain ⟨-, he⟩ := x_bif he
      unfold x_cl at he
      try dsimp only at he
      obtain ⟨-, he⟩ := x_bif he
      exact hk3 _ (Option.some.inj he).symm
    · cases he
  | invokestatic i =>
    obtain h := x_ist_inv (show x_ist d x y pc ls st w = some e from he)
    clear he
    rcases h with ⟨rfl, n, dp, c1, a1, sp, c0, a0, rfl, rfl⟩ | ⟨rfl, a, b, r, rfl, hc8, rfl⟩ | ⟨rfl, a, b, r, rfl, hc8, rfl⟩ | ⟨q, h⟩
    · obtain ⟨⟨hd1, h100, h101, hsp, hdp, hn, hle0, hle1⟩, hk⟩ := hk2 _ _ rfl
      have hw : lw_tbl[z]? = some (Cond.methodLink (x_mt k).1.cls i arraycopyName) := of_decide_eq_true hw
      intro H locs als hp hl hs
      have hcell1 := x_vokA (hs _ (List.mem_cons_of_mem _ (List.mem_cons_of_mem _ List.mem_cons_self))) (by omega : c1 ≠ 51)
      have hcell0 := x_vokA (hs _ (List.mem_cons_of_mem _ (List.mem_cons_of_mem _ (List.mem_cons_of_mem _ (List.mem_cons_of_mem _ List.mem_cons_self))))) (by omega : c0 ≠ 51)
      obtain ⟨q0, -, he0⟩ := x_wl_at (g := g) (w := w) hcell0
      obtain ⟨q1, hq1, he1⟩ := x_wl_at (g := g) (w := w) hcell1
      rw [x_ce_arr h100] at he0
      rw [x_ce_arr h101] at he1
      obtain ⟨t0, ht0⟩ := x_ty_arr (g := g) hcell0 h100
      obtain ⟨t1, ht1⟩ := x_ty_arr (g := g) hcell1 h101
      obtain ⟨n0, n4, -⟩ := x_cell_ne hcell1
      have hlo : (([] : List Value).map fun v => v.category).sum + (nativeFrameWords "java/lang/System" "arraycopy" 5 + 11) ≤ R.locals := by
        have e1 : (([] : List Value).map fun v => v.category).sum + (nativeFrameWords "java/lang/System" "arraycopy" 5 + 11) = 18 := by decide +kernel
        rw [e1]; omega
      refine va_copyi (rest := []) (ty := .int) hx hb (by rw [hml]; exact hl.2.1.symm) hown (x_gwW hts hw rfl) (hts _ x_w_native) (hts _ x_w_static) (hts _ x_w_sysinit) hKW.1 hp.1 hp.2.1 hp.2.2.1 q0 q1 t0 t1 he0 he1 ht0 ht1 rfl hsp hdp hn hle0 hle1 (fun _ _ => rfl) (by omega) hlo hd (fun H1 locs1 hP1 hD1 hS1 => ?_)
      have e0 : x_ce g (x_put w a1 (va_cpy (w a0) (w a1) sp.toNatClampNeg dp.toNatClampNeg n.toNatClampNeg)) (a1, c1) = (g.2.1 a1, .inl (g.2.2.1 a1, c1 - 100, .inl (va_cpy (w a0) (w a1) sp.toNatClampNeg dp.toNatClampNeg n.toNatClampNeg))) := by
        rw [x_ce_arr h101, x_put_self]
      rw [← e0, x_wl_set hq1] at hP1
      obtain ⟨s0, s4⟩ := x_put_scr (w := w) (f := va_cpy (w a0) (w a1) sp.toNatClampNeg dp.toNatClampNeg n.toNatClampNeg) n0 n4
      exact hk H1 locs1 als ⟨hP1, x_wl_D hp.2.1, hS1, s0.trans hp.2.2.2.1, s4.trans hp.2.2.2.2⟩ hl (fun _ h => by cases h)
    · obtain ⟨hd1, hk⟩ := hk2 _ _ rfl
      have hw : lw_tbl[z]? = some (Cond.methodLink (x_mt k).1.cls i Lib.Math.max.name) := of_decide_eq_true hw
      intro H locs als hp hl hs
      exact va_mmax hx hb (by rw [hml]; exact hl.2.1.symm) hown (x_gwW hts hw rfl) (hts _ x_w_maxS) (hts _ x_w_mathI) (hts _ x_w_maxC) (by omega) (by rw [x_catS_map]; omega) hcs.1 hcs.2 hd (hk H locs als hp hl (x_s2 hs trivial))
    · obtain ⟨hd1, hk⟩ := hk2 _ _ rfl
      have hw : lw_tbl[z]? = some (Cond.methodLink (x_mt k).1.cls i Lib.Math.min.name) := of_decide_eq_true hw
      intro H locs als hp hl hs
      exact va_mmin hx hb (by rw [hml]; exact hl.2.1.symm) hown (x_gwW hts hw rfl) (hts _ x_w_minS) (hts _ x_w_mathI) (hts _ x_w_minC) (by omega) (by rw [x_catS_map]; omega) hcs.1 hcs.2 hd (hk H locs als hp hl (x_s2 hs trivial))
    · exact absurd h (hk3 _)
  | ireturn =>
    exfalso
    have he : x_iret x st = some e := he
    unfold x_iret at he
    split at he
    · split at he <;> exact hk3 _ (Option.some.inj he).symm
    · cases he
  | lreturn =>
    exfalso
    unfold x_eff at he
    dsimp only at he
    split at he
    · exact hk3 _ (Option.some.inj he).symm
    · cases he
  | return_ =>
    exfalso
    unfold x_eff at he
    dsimp only at he
    split at he
    · exact hk3 _ (Option.some.inj he).symm
    · cases he
  | _ => cases he
end
section
/-! CALLS, RETURNS, and the whole: what the small machine comes to, the machine comes to -/
theorem x_rev_inv : ∀ (n : Nat) (st acc as rst : List xMV), x_rev st n acc = some (as, rst) → ∃ pre : List xMV, pre.length = n ∧ st = pre ++ rst ∧ as = pre.reverse ++ acc
  | 0, st, acc, as, rst, h => by
    rw [x_rev] at h
    cases h; exact ⟨[], rfl, rfl, rfl⟩
  | n + 1, [], acc, as, rst, h => by
    have h : (none : Option (List xMV × List xMV)) = some (as, rst) := h
    cases h
  | n + 1, v :: r, acc, as, rst, h => by
    obtain ⟨pre, h1, h2, h3⟩ := x_rev_inv n r (v :: acc) as rst h
    exact ⟨v :: pre, by rw [List.length_cons, h1], by rw [h2]; rfl, by rw [h3]; simp⟩
theorem x_rev_inv0 {n : Nat} {st as rst : List xMV} (h : x_rev st n [] = some (as, rst)) : as.length = n ∧ st = as.reverse ++ rst := by
  obtain ⟨pre, h1, h2, h3⟩ := x_rev_inv n st [] as rst h
  rw [List.append_nil] at h3
  subst h3
  exact ⟨by rw [List.length_reverse]; exact h1, by rw [List.reverse_reverse]; exact h2⟩
def xB (g : xG) (A1 : Nat → Prop) (u : xWd) (t : State) : Prop := va_P g.1 x_cls (x_wl g u) t.heap ∧ x_KW g t ∧ va_D A1 (x_wl g u) ∧ u 0 = g.2.2.2.1 ∧ u 4 = (fun _ => nI g.2.2.2.2)
def xQC (g : xG) (ret : Option FieldType) (Q : xMV → xWd → Prop) (A1 : Nat → Prop) : Array Value → State → Outcome → State → Prop := match ret with
  | none => va_Qv (fun u : xWd => Q xU u) (xB g A1) A1
  | some .long => va_Ql (fun a (u : xWd) => Q (xJ a) u) (xB g A1) A1
  | some _ => va_Qi (fun a (u : xWd) => Q (xI a) u) (xB g A1) A1
def x_ws (k : Nat) : List Cond := Cond.code (x_mt k).1 (x_mt k).2.1 (x_mt k).2.2.1 (x_mt k).2.2.2.1 :: x_gw
def x_rm (d : Nat) : Room := { frames := d, cells := 0, slots := 0, locals := 30 * d }
def xPc (g : xG) (as : List xMV) (w : xWd) (sz : Nat) : Array Value → State → Prop := va_Pc (as.map (x_rv g)) (fun U => U.heap.size = sz ∧ va_P g.1 x_cls (x_wl g w) U.heap ∧ x_KW g U ∧ va_D (fun _ => True) (x_wl g w) ∧ w 0 = g.2.2.2.1 ∧ w 4 = (fun _ => nI g.2.2.2.2))
def xMet (l : Launch) (g : xG) (d k : Nat) (as : List xMV) (w : xWd) (Q : xMV → xWd → Prop) : Prop := ∀ sz : Nat, Met l (x_mt k).1 (x_ws k) (x_rm d) (xPc g as w sz) (xQC g (x_mt k).2.2.2.1 Q (va_A (x_wl g w) sz)) 0 0 (va_A (x_wl g w) sz)
theorem x_GI {ws : List Cond} (h : ∀ w ∈ ws, w ∈ x_gw) : GoodIn x_gw ws := fun w hw => ⟨h w hw, good_of_word (List.mem_filter.mp (h w hw)).2⟩
theorem x_ws_in {k : Nat} (h : x_MOk (x_mt k)) : ∀ w ∈ x_ws k, w ∈ x_gw := by
  intro w hw
  rcases List.mem_cons.mp hw with rfl | hw
  · exact x_gw_mem h.1 rfl
  · exact hw
theorem x_nest_all : lw_tbl.all (fun w => match w with
  | .methodLinkNest a i y h => decide (y.name = "<init>") || decide (Cond.methodLinkNest a i y h ∈ x_nests)
  | _ => true) = true := by decide +kernel
theorem x_noinit : x_mts.all (fun m => decide (m.1.name ≠ "<init>")) = true := by decide +kernel
theorem x_nth_mem {α : Type} {d : α} : ∀ (l : List α) (n : Nat), n < l.length → x_nth d l n ∈ l
  | [], n, h => absurd h (Nat.not_lt_zero _)
  | a :: r, 0, _ => List.mem_cons_self
  | a :: r, n + 1, h => List.mem_cons_of_mem _ (x_nth_mem r n (Nat.lt_of_succ_lt_succ h))
theorem x_mts_len : x_mts.length = 169 := by decide +kernel
theorem x_nest {k y i z : Nat} (hy : y < 169) (h : lw_tbl[z]? = some (Cond.methodLinkNest (x_mt k).1.cls i (x_mt y).1 "ValuePlaces")) : Cond.methodLinkNest (x_mt k).1.cls i (x_mt y).1 "ValuePlaces" ∈ x_nests := by
  have h1 := List.all_eq_true.mp x_nest_all _ (List.mem_of_getElem? h)
  dsimp only at h1
  have h2 := List.all_eq_true.mp x_noinit _ (x_nth_mem (d := x_m0) x_mts y (by rw [x_mts_len]; exact hy))
  have h3 : (x_mt y).1.name ≠ "<init>" := of_decide_eq_true h2
  rw [Bool.or_eq_true] at h1
  rcases h1 with h1 | h1
  · exact absurd (of_decide_eq_true h1) h3
  · exact of_decide_eq_true h1
theorem xPc_blind {g : xG} {as : List xMV} {w : xWd} {sz : Nat} : FrameBlind (xPc g as w sz) := by
  intro a U f mk q
  obtain ⟨q0, q1, qP, qK, qD, q4, q5⟩ := q
  exact ⟨q0, q1, qP, qK.same rfl, qD, q4, q5⟩
theorem xPc_at {g : xG} {as : List xMV} {w : xWd} {A : Nat → Prop} {s U : State} {H : Heap} {locs : List Loc} (hp : xPt g A s w H locs) (hK : x_KW g s) (hU : U.heap = H) (hW : s.WarmedH U.vm) : xPc g as w H.size (as.map (x_rv g)).toArray U :=
  ⟨rfl, by rw [hU], by rw [hU]; exact hp.1, hK.warm hW, hp.2.1.weaken (fun _ _ _ _ => trivial), hp.2.2.2.1, hp.2.2.2.2⟩
set_option maxHeartbeats 4000000 in
theorem x_ins_inv {r : xRow} {d k pc : Nat} {ls st : List xMV} {w : xWd} {q : (Nat × List xMV × List xMV) ⊕ (Prop × xMV)} (he : x_eff r d k pc ls st w = some (.inr (.inr q))) : (∃ i, r.1 = .invokevirtual i) ∨ (∃ i, r.1 = .invokestatic i) ∨ r.1 = .ireturn ∨ r.1 = .lreturn ∨ r.1 = .return_ := by
  obtain ⟨ins, x, y, z⟩ := r
  cases ins with
  | invokevirtual i => exact Or.inl ⟨_, rfl⟩
  | invokestatic i => exact Or.inr (Or.inl ⟨_, rfl⟩)
  | ireturn => exact Or.inr (Or.inr (Or.inl rfl))
  | lreturn => exact Or.inr (Or.inr (Or.inr (Or.inl rfl)))
  | return_ => exact Or.inr (Or.inr (Or.inr (Or.inr rfl)))
  | iload_n i => obtain ⟨_, _, h⟩ := x_ldI_inv (show x_ldI ls i.val (fun v => x_g (pc + 1) ls (v :: st) w) = _ from he); cases (x_g_inv h)
  | iload i => obtain ⟨_, _, h⟩ := x_ldI_inv (show x_ldI ls i (fun v => x_g (pc + 2) ls (v :: st) w) = _ from he); cases (x_g_inv h)
  | lload_n i => obtain ⟨_, _, h⟩ := x_ldJ_inv (show x_ldJ ls i.val (fun v => x_g (pc + 1) ls (v :: st) w) = _ from he); cases (x_g_inv h)
  | lload i => obtain ⟨_, _, h⟩ := x_ldJ_inv (show x_ldJ ls i (fun v => x_g (pc + 2) ls (v :: st) w) = _ from he); cases (x_g_inv h)
  | aload_n i => obtain ⟨_, _, _, h⟩ := x_ldA_inv (show x_ldA ls i.val (fun v => x_g (pc + 1) ls (v :: st) w) = _ from he); cases (x_g_inv h)
  | aload i => obtain ⟨_, _, _, h⟩ := x_ldA_inv (show x_ldA ls i (fun v => x_g (pc + 2) ls (v :: st) w) = _ from he); cases (x_g_inv h)
  | istore_n i => obtain ⟨_, _, _, _, h⟩ := x_stI_inv he; cases h
  | istore i => obtain ⟨_, _, _, _, h⟩ := x_stI_inv he; cases h
  | astore_n i => obtain ⟨_, _, _, _, _, h⟩ := x_stA_inv he; cases h
  | astore i => obtain ⟨_, _, _, _, _, h⟩ := x_stA_inv he; cases h
  | lstore i => obtain ⟨_, _, _, _, h⟩ := x_stJ_inv he; cases h
  | iinc i v =>
    unfold x_eff at he
    dsimp only at he
    split at he
    · obtain ⟨_, h⟩ := x_sto1_inv he; cases h
    · cases he
  | dup =>
    unfold x_eff at he
    dsimp only at he
    split at he
    · cases (x_g_inv he)
    · cases (x_g_inv he)
    · cases he
  | dup2 =>
    unfold x_eff at he
    dsimp only at he
    split at he
    · cases (x_g_inv he)
    · cases he
  | getfield i =>
    obtain ⟨_, _, _, _, h⟩ := x_pa_inv (show x_pa st (fun c a q => bif Nat.beq c x then x_g (pc + 3) ls (x_fv x a y w :: q) w else none) = _ from he)
    obtain ⟨_, h⟩ := x_bif h
    cases (x_g_inv h)
  | putfield i =>
    obtain ⟨_, _, _, _, _, h⟩ := x_pf_inv (show x_pf x y pc ls st w = _ from he)
    rcases h with ⟨_, h⟩ | ⟨_, h⟩ <;> cases h
  | iaload =>
    obtain ⟨_, _, _, _, _, h⟩ := x_iald_inv (show x_iald k pc ls st w = _ from he)
    rcases h with ⟨_, h⟩ | ⟨_, h⟩ <;> cases h
  | iastore =>
    obtain ⟨_, _, _, _, _, _, _, h⟩ := x_iast_inv (show x_iast pc ls st w = _ from he)
    cases h
  | aaload =>
    obtain ⟨_, _, _, _, h⟩ := x_aald_inv (show x_aald pc ls st w = _ from he)
    cases h
  | arraylength =>
    have he : x_alen k pc ls st w = some (.inr (.inr q)) := he
    unfold x_alen at he
    obtain ⟨c1, a1, q1, -, h⟩ := x_pa_inv he
    cases hc : Nat.beq c1 51 with
    | true => rw [hc] at h; cases (x_o_inv h)
    | false => rw [hc] at h; obtain ⟨_, h⟩ := x_bif h; cases (x_g_inv h)
  | _ =>
    exfalso
    first
      | (cases he; done)
      | (cases (x_g_inv he); done)
      | (obtain ⟨_, _, _, _, h⟩ := x_p2_inv he; first | (cases (x_g_inv h); done) | (cases (x_o_inv h); done))
      | (obtain ⟨_, _, _, h⟩ := x_p1_inv he; cases (x_g_inv h); done)
      | (obtain ⟨_, _, _, _, h⟩ := x_q2_inv he; first | (cases (x_g_inv h); done) | (cases (x_o_inv h); done))
set_option maxHeartbeats 4000000 in
theorem x_runC {g : xG} {A : Nat → Prop} {k d : Nat} {p : Program} {l : Launch} {e0 : Env} {R : Room} {s : State} {m : MethodId} {args : Array Value} {below : List Frame} {meth : Method} {c : Code} {cells slots : Nat} (C : xCx g A k (d + 1) p R s m args c cells slots)
    {pc : Nat} {r : xRow} (hr : x_tb k pc = some r) {ls st : List xMV} {w : xWd} {y : Nat} {as rst : List xMV} (he : x_eff r (d + 1) k pc ls st w = some (.inr (.inr (.inl (y, as, rst)))))
    {Q' : xMV → xWd → Prop} {H : Heap} {locs : List Loc} {als : Array Slot} (hp : xPt g A s w H locs) (hl : xLR g k ls als) (hs : xSR st)
    (hM : 0 < y → y < 169 → xSR as → x_catS as ≤ x_nl y → xMet l g d y as w Q') :
    st = as.reverse ++ rst ∧ va_Run p l e0 R s m args below meth c H locs cells slots 0 0 (F0 m pc als (st.map (x_rv g))) (rst.map (x_rv g)) (xQC g (x_mt y).2.2.2.1 Q' (va_A (x_wl g w) H.size) (as.map (x_rv g)).toArray) (va_A (x_wl g w) H.size) := by
  obtain ⟨hx, hb, hml, hown, hts, hKW, hA, hcs, hR, hX⟩ := C
  obtain ⟨hd, hw⟩ := x_row hr
  obtain ⟨ins, x, y0, z⟩ := r
  cases ins with
  | invokevirtual i =>
    have he : x_clv x (x_rev st y0 []) = some (.inr (.inr (.inl (y, as, rst)))) := he
    unfold x_clv at he
    split at he
    · rename_i q as1 rst1 hrev
      obtain ⟨hq, he⟩ := x_bif he
      unfold x_cl at he
      dsimp only at he
      obtain ⟨hcat, he⟩ := x_bif he
      rw [Bool.and_eq_true] at hcat
      have e1 := Option.some.inj he
      simp only [Sum.inr.injEq, Sum.inl.injEq, Prod.mk.injEq] at e1
      obtain ⟨rfl, rfl, rfl⟩ := e1
      obtain ⟨hlen, hst⟩ := x_rev_inv0 hrev
      obtain ⟨c1, a1⟩ := q
      have hq : c1 = x_mc x := x_beq hq
      have hw : (decide (0 < x) && decide (x < 169) && decide (x_mc x < 8) && decide (y0 = (x_mt x).2.2.2.2.2 + 1) && decide (lw_tbl[z]? = some (Cond.methodLink (x_mt k).1.cls i (x_mt x).1))) = true := hw
      simp only [Bool.and_eq_true, decide_eq_true_eq] at hw
      obtain ⟨⟨⟨⟨h0, h169⟩, hc8⟩, hy0⟩, hlk⟩ := hw
      have hsa : xSR (some (Sum.inr (Sum.inr (c1, a1))) :: as1) := fun v hv => hs v (by rw [hst]; exact List.mem_append_left _ (List.mem_reverse.mpr hv))
      have hMM := hM h0 h169 hsa (x_ble hcat.2)
      have hok := x_mok h0 h169
      obtain ⟨ok1, ok2, ⟨ok3, ok4, ok5, ok6, ok7⟩, ok8⟩ := id hok
      have hmc : x_mc x = (x_mt x).2.2.2.2.1 := rfl
      rcases ok8 with ⟨e99, -⟩ | ⟨-, okc, oki, oks⟩
      · rw [hmc, e99] at hc8; omega
      have hc18 : c1 < 8 := by rw [hq]; exact hc8
      have hcell := x_vokA (hsa _ List.mem_cons_self) (by omega : c1 ≠ 51)
      obtain ⟨q0, -, he0⟩ := x_wl_at (g := g) (w := w) hcell
      rw [x_ce_obj hc18] at he0
      obtain ⟨hcl, -⟩ := x_cls_at c1 hc18
      have hcn : (x_cn c1).1 = (x_mt x).1.cls := by
        rw [← hmc, ← hq, hcl] at okc
        exact Option.some.inj okc
      have hrecv := va_recv hKW.1 hp.1 hcl he0
      rw [hcn] at hrecv
      have hsl : x_catS rst1 ≤ 8 := x_ble hcat.1
      refine ⟨hst, ?_⟩
      refine va_runV (As := as1.map (x_rv g)) (b := g.2.1 a1) (nL := x_nl k) (n := (x_mt x).2.2.2.2.2) (maxL := (x_mt x).2.2.1) (bytes := (x_mt x).2.1) (ret := (x_mt x).2.2.2.1) (C := (x_mt x).1.cls) (index := i) (own := (x_mt k).1.cls) ⟨hx, hb, hml, hown, hts⟩ (hMM H.size) (cwV _ hts (x_GI ?_) rfl rfl rfl ⟨rfl, ok4, ok5, ok6⟩ ⟨hR.1, ?_⟩) ⟨xPc_blind, hrecv, fun U hU hW => xPc_at hp hKW hU hW⟩ rfl ?_ hl.2.1 ?_ (lv_room (by rw [x_catS_map]; exact hsl)) hd hcs
      · intro wd hwd
        simp only [wsV, List.cons_append, List.nil_append, List.mem_cons] at hwd
        rcases hwd with rfl | rfl | rfl | rfl | hwd
        · exact x_gw_mem (List.mem_of_getElem? hlk) rfl
        · exact x_gw_mem oki rfl
        · exact x_gw_mem oks rfl
        · exact x_gw_mem ok2 rfl
        · exact x_ws_in hok wd hwd
      · have h1 := hR.2
        show 8 + ((x_mt x).2.2.1 + 11) + 30 * d ≤ R.locals
        omega
      · rw [List.length_map]
        rw [List.length_cons] at hlen
        omega
      · show st.map (x_rv g) = _
        rw [hst, List.map_append, List.reverse_cons, List.map_append, List.map_reverse, List.append_assoc]
        rfl
    · cases he
  | invokestatic i =>
    have he : x_ist (d + 1) x y0 pc ls st w = some (.inr (.inr (.inl (y, as, rst)))) := he
    have hw : (if x = 9999 then decide (lw_tbl[z]? = some (Cond.methodLink (x_mt k).1.cls i arraycopyName))
      else if x = 9998 then decide (lw_tbl[z]? = some (Cond.methodLink (x_mt k).1.cls i Lib.Math.max.name))
      else if x = 9997 then decide (lw_tbl[z]? = some (Cond.methodLink (x_mt k).1.cls i Lib.Math.min.name))
      else decide (0 < x) && decide (x < 169) && decide (x_mc x = 99) && decide (y0 = (x_mt x).2.2.2.2.2) && (decide (lw_tbl[z]? = some (Cond.methodLink (x_mt k).1.cls i (x_mt x).1)) || decide (lw_tbl[z]? = some (Cond.methodLinkNest (x_mt k).1.cls i (x_mt x).1 "ValuePlaces")))) = true := hw
    have h9 := x_ist_inv he
    have n1 : x ≠ 9999 := by
      rintro rfl
      rcases h9 with ⟨-, n, dp, c1, a1, sp, c0, a0, -, h⟩ | ⟨h, -⟩ | ⟨h, -⟩ | -
      · cases h
      · cases h
      · cases h
      · unfold x_ist at he
        rw [show Nat.beq 9999 9999 = true from rfl] at he
        dsimp only [cond_true] at he
        split at he <;> cases he
    have n2 : x ≠ 9998 := by
      rintro rfl
      unfold x_ist at he
      rw [show Nat.beq 9998 9999 = false from rfl, show Nat.beq 9998 9998 = true from rfl] at he
      dsimp only [cond_true, cond_false] at he
      obtain ⟨a, b, r, -, he⟩ := x_p2_inv he
      obtain ⟨-, he⟩ := x_bif he
      cases he
    have n3 : x ≠ 9997 := by
      rintro rfl
      unfold x_ist at he
      rw [show Nat.beq 9997 9999 = false from rfl, show Nat.beq 9997 9998 = false from rfl, show Nat.beq 9997 9997 = true from rfl] at he
      dsimp only [cond_true, cond_false] at he
      obtain ⟨a, b, r, -, he⟩ := x_p2_inv he
      obtain ⟨-, he⟩ := x_bif he
      cases he
    rw [if_neg n1, if_neg n2, if_neg n3] at hw
    unfold x_ist at he
    have b1 : Nat.beq x 9999 = false := by cases hb1 : Nat.beq x 9999 with | true => exact absurd (x_beq hb1) n1 | false => rfl
    have b2 : Nat.beq x 9998 = false := by cases hb1 : Nat.beq x 9998 with | true => exact absurd (x_beq hb1) n2 | false => rfl
    have b3 : Nat.beq x 9997 = false := by cases hb1 : Nat.beq x 9997 with | true => exact absurd (x_beq hb1) n3 | false => rfl
    rw [b1, b2, b3] at he
    dsimp only [cond_true, cond_false] at he
    unfold x_cl at he
    split at he
    · cases he
    · rename_i as1 rst1 hrev
      obtain ⟨hcat, he⟩ := x_bif he
      rw [Bool.and_eq_true] at hcat
      have e1 := Option.some.inj he
      simp only [Sum.inr.injEq, Sum.inl.injEq, Prod.mk.injEq] at e1
      obtain ⟨rfl, rfl, rfl⟩ := e1
      obtain ⟨hlen, hst⟩ := x_rev_inv0 hrev
      rw [Bool.and_eq_true, Bool.and_eq_true, Bool.and_eq_true, Bool.and_eq_true, Bool.or_eq_true] at hw
      obtain ⟨⟨⟨⟨h0, h169⟩, hc99⟩, hy0⟩, hlk⟩ := hw
      have h0 := of_decide_eq_true h0
      have h169 := of_decide_eq_true h169
      have hc99 : x_mc x = 99 := of_decide_eq_true hc99
      have hy0 := of_decide_eq_true hy0
      have hsa : xSR as1 := fun v hv => hs v (by rw [hst]; exact List.mem_append_left _ (List.mem_reverse.mpr hv))
      have hMM := hM h0 h169 hsa (x_ble hcat.2)
      have hok := x_mok h0 h169
      obtain ⟨ok1, ok2, ⟨ok3, ok4, ok5, ok6, ok7⟩, ok8⟩ := id hok
      have hmc : x_mc x = (x_mt x).2.2.2.2.1 := rfl
      have okst : Cond.static (x_mt x).1 ∈ lw_tbl := by
        rcases ok8 with ⟨-, okst⟩ | ⟨e8, -⟩
        · exact okst
        · rw [← hmc, hc99] at e8; omega
      have hsl : x_catS rst1 ≤ 8 := x_ble hcat.1
      have hlo : 8 + ((x_mt x).2.2.1 + 11) + (x_rm d).locals ≤ R.locals := by
        have h1 := hR.2
        show 8 + ((x_mt x).2.2.1 + 11) + 30 * d ≤ R.locals
        omega
      refine ⟨hst, ?_⟩
      have hst2 : (F0 m pc als (st.map (x_rv g))).stack = (as1.map (x_rv g)).reverse ++ rst1.map (x_rv g) := by
        show st.map (x_rv g) = _
        rw [hst, List.map_append, List.map_reverse]
      rcases hlk with hlk | hlk
      · refine va_runS (As := as1.map (x_rv g)) (nL := x_nl k) (n := (x_mt x).2.2.2.2.2) (maxL := (x_mt x).2.2.1) (bytes := (x_mt x).2.1) (ret := (x_mt x).2.2.2.1) (index := i) (own := (x_mt k).1.cls) ⟨hx, hb, hml, hown, hts⟩ (hMM H.size) (va_cwS _ hts (x_GI ?_) rfl rfl rfl ⟨ok4, ok5, ok6⟩ ⟨hR.1, hlo⟩) ⟨xPc_blind, fun U hU hW => xPc_at hp hKW hU hW⟩ rfl (by rw [List.length_map]; omega) hl.2.1 hst2 (lv_room (by rw [x_catS_map]; exact hsl)) hd hcs
        intro wd hwd
        simp only [va_wsS, List.cons_append, List.nil_append, List.mem_cons] at hwd
        rcases hwd with rfl | rfl | rfl | hwd
        · exact x_gw_mem (List.mem_of_getElem? (of_decide_eq_true hlk)) rfl
        · exact x_gw_mem okst rfl
        · exact x_gw_mem ok2 rfl
        · exact x_ws_in hok wd hwd
      · have hnest := hKW.2 _ (x_nest h169 (of_decide_eq_true hlk))
        exact va_runSN (As := as1.map (x_rv g)) (nL := x_nl k) (n := (x_mt x).2.2.2.2.2) (maxL := (x_mt x).2.2.1) (bytes := (x_mt x).2.1) (ret := (x_mt x).2.2.2.1) (index := i) (own := (x_mt k).1.cls) ⟨hx, hb, hml, hown, hts⟩ (hMM H.size) ⟨va_cnB _ hts (x_GI (x_ws_in hok)) rfl rfl rfl hnest (hts _ (x_gw_mem ok2 rfl)) ⟨ok4, ok5, ok6⟩ ⟨hR.1, hlo⟩, hts _ (x_gw_mem okst rfl), trivial⟩ ⟨xPc_blind, fun U hU hW => xPc_at hp hKW hU hW⟩ rfl (by rw [List.length_map]; omega) hl.2.1 hst2 (lv_room (by rw [x_catS_map]; exact hsl)) hd hcs
  | ireturn =>
    exfalso
    have he : x_iret x st = some (.inr (.inr (.inl (y, as, rst)))) := he
    unfold x_iret at he
    split at he
    · split at he <;> cases he
    · cases he
  | lreturn =>
    exfalso
    unfold x_eff at he
    dsimp only at he
    split at he <;> cases he
  | return_ =>
    exfalso
    unfold x_eff at he
    dsimp only at he
    split at he <;> cases he
  | _ => 
    exfalso
    rcases x_ins_inv he with ⟨i, h⟩ | ⟨i, h⟩ | h | h | h <;> cases h
theorem x_A_in {g : xG} {A : Nat → Prop} {s : State} {w : xWd} {H : Heap} {locs : List Loc} (hp : xPt g A s w H locs) (hA : ∀ q, s.heap.size ≤ q → A q) : ∀ q, va_A (x_wl g w) H.size q → A q := by
  intro q hq
  rcases hq with ⟨k, e, hk⟩ | hq
  · exact hp.2.1.2 k _ hk
  · exact hA q (Nat.le_trans hp.2.2.1.1 hq)
set_option maxHeartbeats 4000000 in
theorem x_stepC {g : xG} {A : Nat → Prop} {k d : Nat} {p : Program} {l : Launch} {e0 : Env} {R : Room} {s : State} {m : MethodId} {args : Array Value} {below : List Frame} {meth : Method} {c : Code} {cells slots : Nat} {Q : State → Prop} (C : xCx g A k (d + 1) p R s m args c cells slots)
    {pc : Nat} {r : xRow} (hr : x_tb k pc = some r) {ls st : List xMV} {w : xWd} {y : Nat} {as rst : List xMV} (he : x_eff r (d + 1) k pc ls st w = some (.inr (.inr (.inl (y, as, rst)))))
    {Q' : xMV → xWd → Prop} (hM : 0 < y → y < 169 → xSR as → x_catS as ≤ x_nl y → xMet l g d y as w Q')
    (hk : ∀ a w', Q' a w' → xW g A k p l e0 R s m args below meth c cells slots Q (pc + 3) ls (x_pu a rst) w') : xW g A k p l e0 R s m args below meth c cells slots Q pc ls st w := by
  intro H locs als hp hl hs
  obtain ⟨hst, hrun⟩ := x_runC (e0 := e0) (below := below) (meth := meth) C hr he hp hl hs hM
  have hsr : xSR rst := fun v hv => hs v (by rw [hst]; exact List.mem_append_right _ hv)
  obtain ⟨-, -, -, -, -, -, hA, -⟩ := C
  have hF := x_A_in hp hA
  cases hret : (x_mt y).2.2.2.1 with
  | none =>
    rw [hret] at hrun
    refine va_callv (a := (as.map (x_rv g)).toArray) (S := xWd) (post := fun u => Q' xU u) (B := xB g (va_A (x_wl g w) H.size)) hrun hp.2.2.1 (fun q _ h => hF q h) hF (fun u t H1 locs1 ht hvm hw hB hz1 hk1 hS1 => ?_)
    exact hk xU u hw H1 locs1 als ⟨by rw [← ht]; exact hB.1, x_wl_D hp.2.1, hS1, hB.2.2.2⟩ hl hsr
  | some ty =>
    have hi : xQC g (some ty) Q' (va_A (x_wl g w) H.size) = va_Qi (fun a (u : xWd) => Q' (xI a) u) (xB g (va_A (x_wl g w) H.size)) (va_A (x_wl g w) H.size) → W p l e0 R s m args below meth c H locs cells slots Q (F0 m pc als (st.map (x_rv g))) := by
      intro hq
      rw [hret, hq] at hrun
      refine va_calli (a := (as.map (x_rv g)).toArray) (S := xWd) hrun hp.2.2.1 (fun q _ h => hF q h) hF (fun a u t H1 locs1 ht hvm hw hB hz1 hk1 hS1 => ?_)
      exact hk (xI a) u hw H1 locs1 als ⟨by rw [← ht]; exact hB.1, x_wl_D hp.2.1, hS1, hB.2.2.2⟩ hl (xSR.cons hsr trivial)
    cases ty with
    | long =>
      rw [hret] at hrun
      refine va_calll (a := (as.map (x_rv g)).toArray) (S := xWd) (post := fun a u => Q' (xJ a) u) (B := xB g (va_A (x_wl g w) H.size)) hrun hp.2.2.1 (fun q _ h => hF q h) hF (fun a u t H1 locs1 ht hvm hw hB hz1 hk1 hS1 => ?_)
      exact hk (xJ a) u hw H1 locs1 als ⟨by rw [← ht]; exact hB.1, x_wl_D hp.2.1, hS1, hB.2.2.2⟩ hl (xSR.cons hsr trivial)
    | _ => exact hi rfl
/-- how a method stands at its end: its answer on the stack, at a return of its kind -/
def xRet (k pc : Nat) (a : xMV) (st : List xMV) : Prop :=
  (∃ v, a = xI v ∧ st = [xI v] ∧ decode (x_mt k).2.1 pc = .ok (.ireturn, 1) ∧ ((x_mt k).2.2.2.1 = some .int ∨ ((x_mt k).2.2.2.1 = some .boolean ∧ (v = 0 ∨ v = 1)))) ∨
  (∃ v, a = xJ v ∧ st = [xJ v] ∧ decode (x_mt k).2.1 pc = .ok (.lreturn, 1) ∧ (x_mt k).2.2.2.1 = some .long) ∨
  (a = xU ∧ st = [] ∧ decode (x_mt k).2.1 pc = .ok (.return_, 1) ∧ (x_mt k).2.2.2.1 = none)
theorem x_stepR {k d pc : Nat} {r : xRow} (hr : x_tb k pc = some r) {ls st : List xMV} {w : xWd} {P : Prop} {a : xMV} (he : x_eff r d k pc ls st w = some (.inr (.inr (.inr (P, a))))) (hP : P) : xRet k pc a st := by
  obtain ⟨hd, hw⟩ := x_row hr
  obtain ⟨ins, x, y, z⟩ := r
  rcases x_ins_inv he with ⟨i, h⟩ | ⟨i, h⟩ | h | h | h
  · dsimp only at h
    subst h
    have he : x_clv x (x_rev st y []) = some (.inr (.inr (.inr (P, a)))) := he
    unfold x_clv at he
    split at he
    · obtain ⟨-, he⟩ := x_bif he
      unfold x_cl at he
      dsimp only at he
      obtain ⟨-, he⟩ := x_bif he
      cases he
    · cases he
  · dsimp only at h
    subst h
    have he : x_ist d x y pc ls st w = some (.inr (.inr (.inr (P, a)))) := he
    unfold x_ist at he
    cases h1 : Nat.beq x 9999 with
    | true =>
      rw [h1] at he
      dsimp only [cond_true] at he
      split at he <;> cases he
    | false =>
      rw [h1] at he
      cases h2 : Nat.beq x 9998 with
      | true =>
        rw [h2] at he
        dsimp only [cond_true, cond_false] at he
        obtain ⟨_, _, _, _, he⟩ := x_p2_inv he
        obtain ⟨-, he⟩ := x_bif he
        cases he
      | false =>
        rw [h2] at he
        cases h3 : Nat.beq x 9997 with
        | true =>
          rw [h3] at he
          dsimp only [cond_true, cond_false] at he
          obtain ⟨_, _, _, _, he⟩ := x_p2_inv he
          obtain ⟨-, he⟩ := x_bif he
          cases he
        | false =>
          rw [h3] at he
          dsimp only [cond_true, cond_false] at he
          unfold x_cl at he
          split at he
          · cases he
          · obtain ⟨-, he⟩ := x_bif he
            cases he
  · dsimp only at h
    subst h
    left
    have he : x_iret x st = some (.inr (.inr (.inr (P, a)))) := he
    have hw : ((decide (x = 0) && decide ((x_mt k).2.2.2.1 = some .int)) || (decide (x = 1) && decide ((x_mt k).2.2.2.1 = some .boolean))) = true := hw
    rw [Bool.or_eq_true, Bool.and_eq_true, Bool.and_eq_true] at hw
    unfold x_iret at he
    split at he
    · split at he
      · have e1 := Option.some.inj he
        simp only [Sum.inr.injEq, Prod.mk.injEq] at e1
        obtain ⟨-, rfl⟩ := e1
        refine ⟨_, rfl, rfl, hd, ?_⟩
        rcases hw with ⟨-, h⟩ | ⟨h, -⟩
        · exact Or.inl (of_decide_eq_true h)
        · exact absurd (of_decide_eq_true h) (by omega)
      · rename_i hx0
        have e1 := Option.some.inj he
        simp only [Sum.inr.injEq, Prod.mk.injEq] at e1
        obtain ⟨rfl, rfl⟩ := e1
        refine ⟨_, rfl, rfl, hd, ?_⟩
        rcases hw with ⟨h, -⟩ | ⟨-, h⟩
        · exact absurd (of_decide_eq_true h) (fun q => hx0 q)
        · exact Or.inr ⟨of_decide_eq_true h, hP⟩
    · cases he
  · dsimp only at h
    subst h
    right; left
    have hw : decide ((x_mt k).2.2.2.1 = some .long) = true := hw
    unfold x_eff at he
    dsimp only at he
    split at he
    · have e1 := Option.some.inj he
      simp only [Sum.inr.injEq, Prod.mk.injEq] at e1
      obtain ⟨-, rfl⟩ := e1
      exact ⟨_, rfl, rfl, hd, of_decide_eq_true hw⟩
    · cases he
  · dsimp only at h
    subst h
    right; right
    have hw : decide ((x_mt k).2.2.2.1 = none) = true := hw
    unfold x_eff at he
    dsimp only at he
    split at he
    · have e1 := Option.some.inj he
      simp only [Sum.inr.injEq, Prod.mk.injEq] at e1
      obtain ⟨-, rfl⟩ := e1
      exact ⟨rfl, rfl, hd, of_decide_eq_true hw⟩
    · cases he
end
section
/-! a method's entry -/
theorem x_lay_len : ∀ (as : List xMV), (x_lay as).length = x_catS as
  | [] => rfl
  | v :: r => by
    have ih := x_lay_len r
    rcases v with _ | v | v | v
    · show (x_lay r).length + 1 = 1 + x_catS r; omega
    · show (x_lay r).length + 1 = 1 + x_catS r; omega
    · show (x_lay r).length + 1 + 1 = 2 + x_catS r; omega
    · show (x_lay r).length + 1 = 1 + x_catS r; omega
theorem x_pad_len : ∀ (l : List xMV) (n : Nat), l.length ≤ n → (x_pad l n).length = n
  | [], 0, _ => rfl
  | [], n + 1, _ => by
    have ih := x_pad_len [] n (Nat.zero_le _)
    show (x_pad [] n).length + 1 = n + 1
    omega
  | a :: r, 0, h => by simp at h
  | a :: r, n + 1, h => by
    have ih := x_pad_len r n (by simpa using h)
    show (x_pad r n).length + 1 = n + 1
    omega
theorem x_pad_at : ∀ (l : List xMV) (n i : Nat) (u : Int32 ⊕ (Int64 ⊕ (Nat × Nat))), (x_pad l n)[i]? = some (some u) → l[i]? = some (some u)
  | [], 0, i, u, h => h
  | [], n + 1, 0, u, h => by
    have h : some (none : xMV) = some (some u) := h
    cases h
  | [], n + 1, i + 1, u, h => by
    have h1 := x_pad_at [] n i u (by simpa [x_pad] using h)
    simp at h1
  | a :: r, 0, i, u, h => h
  | a :: r, n + 1, 0, u, h => by simpa [x_pad] using h
  | a :: r, n + 1, i + 1, u, h => by
    have h1 := x_pad_at r n i u (by simpa [x_pad] using h)
    simpa using h1
theorem x_lay_args {g : xG} : ∀ (as : List xMV) (off i : Nat) (u : Int32 ⊕ (Int64 ⊕ (Nat × Nat))), (x_lay as)[i]? = some (some u) → (off + i, x_rv g (some u)) ∈ lv_args off (as.map (x_rv g)) ∧ some u ∈ as
  | [], off, i, u, h => by simp [x_lay] at h
  | v :: r, off, i, u, h => by
    have one : x_lay (v :: r) = v :: x_lay r → (x_rv g v).category ≠ 2 → (off + i, x_rv g (some u)) ∈ lv_args off ((v :: r).map (x_rv g)) ∧ some u ∈ v :: r := by
      intro e hc
      rw [e] at h
      rw [List.map_cons]
      unfold lv_args
      rw [if_neg hc]
      cases i with
      | zero =>
        have h1 : v = some u := by simpa using h
        subst h1
        exact ⟨List.mem_cons_self, List.mem_cons_self⟩
      | succ i =>
        have h1 : (x_lay r)[i]? = some (some u) := by simpa using h
        obtain ⟨a1, a2⟩ := x_lay_args r (off + 1) i u h1
        exact ⟨List.mem_cons_of_mem _ (by rw [show off + (i + 1) = off + 1 + i by omega]; exact a1), List.mem_cons_of_mem _ a2⟩
    rcases v with _ | v | v | v
    · exact one rfl (by simp [x_rv, Value.category])
    · exact one rfl (by simp [x_rv, Value.category])
    · have e : x_lay (some (Sum.inr (Sum.inl v)) :: r) = some (Sum.inr (Sum.inl v)) :: none :: x_lay r := rfl
      rw [e] at h
      rw [List.map_cons]
      unfold lv_args
      rw [if_pos (show (x_rv g (some (Sum.inr (Sum.inl v)))).category = 2 from rfl)]
      match i, h with
      | 0, h =>
        have h1 : (some (Sum.inr (Sum.inl v)) : xMV) = some u := by simpa using h
        cases h1
        exact ⟨List.mem_cons_self, List.mem_cons_self⟩
      | 1, h => simp at h
      | i + 2, h =>
        have h1 : (x_lay r)[i]? = some (some u) := by simpa using h
        obtain ⟨a1, a2⟩ := x_lay_args r (off + 2) i u h1
        exact ⟨List.mem_cons_of_mem _ (by rw [show off + (i + 2) = off + 2 + i by omega]; exact a1), List.mem_cons_of_mem _ a2⟩
    · exact one rfl (by simp [x_rv, Value.category])
theorem x_sl_len {g : xG} : ∀ (as : List xMV), (lg_sl (as.map (x_rv g))).length = x_catS as
  | [] => rfl
  | v :: r => by
    have ih := x_sl_len (g := g) r
    unfold lg_sl at ih ⊢
    rw [List.map_cons, List.flatMap_cons, List.length_append, ih]
    rcases v with _ | v | v | v <;> rfl
theorem x_ent_LR {g : xG} {k : Nat} {as : List xMV} (hs : xSR as) (hc : x_catS as ≤ x_nl k) : xLR g k (x_ent k as) ((lg_sl (as.map (x_rv g)) ++ List.replicate (x_nl k - (lg_sl (as.map (x_rv g))).length) Slot.unset).toArray) := by
  have h := lv_entry (as.map (x_rv g)) (n := x_nl k) (by rw [x_sl_len]; exact hc)
  refine ⟨x_pad_len _ _ (by rw [x_lay_len]; exact hc), h.1, h.2.1, fun i u hi => ?_⟩
  obtain ⟨a1, a2⟩ := x_lay_args (g := g) as 0 i u (x_pad_at _ _ _ _ hi)
  rw [Nat.zero_add] at a1
  exact ⟨h.2.2 _ a1, hs _ a2⟩
def xSound (l : Launch) (g : xG) (n : Nat) : Prop := ∀ (d k pc : Nat) (ls st : List xMV) (w : xWd) (Q' : xMV → xWd → Prop), xwp n d k pc ls st w Q' →
  ∀ (A : Nat → Prop) (p : Program) (e0 : Env) (R : Room) (s : State) (m : MethodId) (args : Array Value) (below : List Frame) (meth : Method) (c : Code) (cells slots : Nat) (Q : State → Prop), xCx g A k d p R s m args c cells slots →
  (∀ (a : xMV) (w' : xWd) (pc' : Nat) (ls' st' : List xMV), Q' a w' → xRet k pc' a st' → xW g A k p l e0 R s m args below meth c cells slots Q pc' ls' st' w') → xW g A k p l e0 R s m args below meth c cells slots Q pc ls st w
set_option maxHeartbeats 4000000 in
theorem x_con {l : Launch} {g : xG} {n : Nat} (hS : xSound l g n) {d k : Nat} {as : List xMV} {w : xWd} {Q' : xMV → xWd → Prop} (h : xwp n d k 0 (x_ent k as) [] w Q') (h0 : 0 < k) (h169 : k < 169) (hs : xSR as) (hc : x_catS as ≤ x_nl k) : xMet l g d k as w Q' := by
  intro sz
  have hok := x_mok h0 h169
  obtain ⟨ok1, ok2, ⟨ok3, -⟩, -⟩ := id hok
  refine Met.ofW (cc := (x_mt k).2.1) (maxL := (x_mt k).2.2.1) (ret := (x_mt k).2.2.2.1) ok3 rfl ?_
  intro p e s m args below meth c s₁ B hml hv
  obtain ⟨rfl, hsz, hP, hK, hD0, hw0, hw4⟩ := hv
  subst hsz
  have hx := B.exec
  have hb := B.bytes
  have hr := B.returns
  have hts0 := atoms_spec (ws := x_ws k) B.pre
  have hts : ∀ w ∈ x_gw, w.before (as.map (x_rv g)).toArray s = true := fun w hw => hts0 w (List.mem_cons_of_mem _ hw)
  have hown : s.vm.findClass (x_mt k).1.cls = some m.cls := findClass_of_methodNamed B.named
  have hlocks := B.notSynchronized
  rw [lg_entry_eq]
  refine hS d k 0 (x_ent k as) [] w Q' h (va_A (x_wl g w) s.heap.size) p e _ s m _ below meth c 0 0 _ ⟨hx, hb, hml, hown, hts, hK, fun q hq => Or.inr hq, ⟨Nat.zero_le _, Nat.zero_le _⟩, ⟨Nat.le_refl _, Nat.le_refl _⟩, fun q => by omega⟩ ?_ s.heap [] _ ⟨hP, hD0.self, va_S.rf, hw0, hw4⟩ (x_ent_LR hs hc) (fun _ q => by cases q)
  intro a w' pc' ls' st' hq hret H locs als hp hl hs'
  have hB : ∀ t : State, t.heap = H → s.WarmedH t.vm → xB g (va_A (x_wl g w) s.heap.size) w' t := fun t ht hW => ⟨by rw [ht]; exact hp.1, hK.warm hW, hp.2.1, hp.2.2.2.1, hp.2.2.2.2⟩
  rcases hret with ⟨v, rfl, rfl, hd, hty⟩ | ⟨v, rfl, rfl, hd, hty⟩ | ⟨rfl, rfl, hd, hty⟩
  · rcases hty with hty | ⟨hty, hv⟩
    · rw [hty] at hr ⊢
      exact W.iret (v := v) hx hb hr (fun t ht hW => ⟨⟨v, w', rfl, hq, hB t ht hW⟩, hp.2.2.1.F ht⟩) hp.2.2.1.2.2 hd
    · rw [hty] at hr ⊢
      exact W.zret (v := v) hx hb hr (by rcases hv with rfl | rfl <;> rfl) (fun t ht hW => ⟨⟨v, w', rfl, hq, hB t ht hW⟩, hp.2.2.1.F ht⟩) hp.2.2.1.2.2 hd
  · rw [hty] at hr ⊢
    exact W.lret (v := v) hx hb hr (fun t ht hW => ⟨⟨v, w', rfl, hq, hB t ht hW⟩, hp.2.2.1.F ht⟩) hp.2.2.1.2.2 hd
  · rw [hty] at hr ⊢
    exact W.vret hx hb hr (fun t ht hW => ⟨⟨w', rfl, hq, hB t ht hW⟩, hp.2.2.1.F ht⟩) hp.2.2.1.2.2 hd
set_option maxHeartbeats 4000000 in
/-- what the small machine comes to, the machine comes to -/
theorem x_sound (l : Launch) (g : xG) : ∀ n : Nat, xSound l g n := by
  intro n
  induction n with
  | zero => intro d k pc ls st w Q' h; exact h.elim
  | succ n ih =>
    intro d k pc ls st w Q' h A p e0 R s m args below meth c cells slots Q C hret
    unfold xwp at h
    cases h1 : x_tb k pc with
    | none => rw [h1] at h; exact h.elim
    | some r =>
      rw [h1] at h
      dsimp only at h
      cases h2 : x_eff r d k pc ls st w with
      | none => rw [h2] at h; exact h.elim
      | some e =>
        rw [h2] at h
        rcases e with s' | ⟨P, s'⟩ | ⟨y, as, rst⟩ | ⟨P, a⟩
        · refine x_step C h1 h2 (fun s2 e2 => ?_) (fun P s2 e2 => by cases e2) (fun q e2 => by cases e2)
          cases e2
          exact ih d k _ _ _ _ Q' h A p e0 R s m args below meth c cells slots Q C hret
        · refine x_step C h1 h2 (fun s2 e2 => by cases e2) (fun P s2 e2 => ?_) (fun q e2 => by cases e2)
          cases e2
          exact ⟨h.1, ih d k _ _ _ _ Q' h.2 A p e0 R s m args below meth c cells slots Q C hret⟩
        · cases d with
          | zero => exact h.elim
          | succ d =>
            exact x_stepC C h1 h2 (fun h0 h169 hs hc => x_con ih h h0 h169 hs hc) (fun a w' hq => ih (d + 1) k _ _ _ _ Q' hq A p e0 R s m args below meth c cells slots Q C hret)
        · exact hret a w pc ls st h.2 (x_stepR h1 h2 h.1)
end
section
/-! locals may be forgotten -/
def x_le : List xMV → List xMV → Prop
  | [], [] => True
  | a :: r, b :: r' => (a = b ∨ (a = none ∧ x_cat b = 1)) ∧ x_le r r'
  | _, _ => False
theorem x_le_rf : ∀ l : List xMV, x_le l l
  | [] => trivial
  | _ :: r => ⟨Or.inl rfl, x_le_rf r⟩
theorem x_le_at : ∀ {l l' : List xMV} {i : Nat} {u : Int32 ⊕ (Int64 ⊕ (Nat × Nat))}, x_le l l' → l[i]? = some (some u) → l'[i]? = some (some u)
  | [], [], i, u, _, h => h
  | [], b :: r', _, _, h, _ => h.elim
  | a :: r, [], _, _, h, _ => h.elim
  | a :: r, b :: r', 0, u, h, e => by
    have e1 : a = some u := by simpa using e
    rcases h.1 with q | ⟨q, -⟩
    · rw [← q, e1]; rfl
    · rw [q] at e1; cases e1
  | a :: r, b :: r', i + 1, u, h, e => by
    have e1 : r[i]? = some (some u) := by simpa using e
    have := x_le_at h.2 e1
    simpa using this
theorem x_le_set : ∀ {l l' : List xMV} (i : Nat) (v : xMV), x_le l l' → x_le (l.set i v) (l'.set i v)
  | [], [], i, v, _ => trivial
  | [], b :: r', _, _, h => h.elim
  | a :: r, [], _, _, h => h.elim
  | a :: r, b :: r', 0, v, h => ⟨Or.inl rfl, h.2⟩
  | a :: r, b :: r', i + 1, v, h => ⟨h.1, x_le_set i v h.2⟩
theorem x_le_long : ∀ {l l' : List xMV} {i : Nat} {u : Int64}, x_le l l' → l'[i]? = some (xJ u) → l[i]? = some (xJ u)
  | [], [], i, u, _, h => h
  | [], b :: r', _, _, h, _ => h.elim
  | a :: r, [], _, _, h, _ => h.elim
  | a :: r, b :: r', 0, u, h, e => by
    have e1 : b = xJ u := by simpa using e
    rcases h.1 with q | ⟨-, q⟩
    · rw [q, e1]; rfl
    · rw [e1] at q; cases q
  | a :: r, b :: r', i + 1, u, h, e => by
    have e1 : r'[i]? = some (xJ u) := by simpa using e
    have := x_le_long h.2 e1
    simpa using this
theorem x_nlg_le {l l' : List xMV} (h : x_le l l') : ∀ i, x_nlg l i = true → x_nlg l' i = true
  | 0, _ => rfl
  | k + 1, hn => by
    have hn : (match l[k]? with
      | some (some (.inr (.inl _))) => false
      | _ => true) = true := hn
    show (match l'[k]? with
      | some (some (.inr (.inl _))) => false
      | _ => true) = true
    split
    · rename_i v hv
      have := x_le_long h hv
      rw [this] at hn
      exact hn
    · rfl
def x_er (e e' : xEff) : Prop :=
  (∃ pc ls ls' st w, e = .inl (pc, ls, st, w) ∧ e' = .inl (pc, ls', st, w) ∧ x_le ls ls') ∨
  (∃ P pc ls ls' st w, e = .inr (.inl (P, pc, ls, st, w)) ∧ e' = .inr (.inl (P, pc, ls', st, w)) ∧ x_le ls ls') ∨
  (∃ q, e = .inr (.inr q) ∧ e' = .inr (.inr q))
theorem x_er_g {pc : Nat} {ls ls' st : List xMV} {w : xWd} {e : xEff} (h : x_g pc ls st w = some e) (hl : x_le ls ls') : ∃ e', x_g pc ls' st w = some e' ∧ x_er e e' := ⟨_, rfl, Or.inl ⟨_, _, _, _, _, x_g_inv h, rfl, hl⟩⟩
theorem x_er_o {P : Prop} {pc : Nat} {ls ls' st : List xMV} {w : xWd} {e : xEff} (h : x_o P pc ls st w = some e) (hl : x_le ls ls') : ∃ e', x_o P pc ls' st w = some e' ∧ x_er e e' := ⟨_, rfl, Or.inr (Or.inl ⟨_, _, _, _, _, _, x_o_inv h, rfl, hl⟩)⟩
theorem x_er_bif {b : Bool} {x x' : Option xEff} {e : xEff} (h : (bif b then x else none) = some e) (k : x = some e → ∃ e', x' = some e' ∧ x_er e e') : ∃ e', (bif b then x' else none) = some e' ∧ x_er e e' := by
  obtain ⟨rfl, h⟩ := x_bif h
  exact k h
theorem x_er_sto1 {i pc : Nat} {ls ls' r : List xMV} {v : xMV} {w : xWd} {e : xEff} (h : x_sto1 i pc ls v r w = some e) (hl : x_le ls ls') : ∃ e', x_sto1 i pc ls' v r w = some e' ∧ x_er e e' := by
  obtain ⟨hn, rfl⟩ := x_sto1_inv h
  refine ⟨.inl (pc, ls'.set i v, r, w), ?_, Or.inl ⟨_, _, _, _, _, rfl, rfl, x_le_set i v hl⟩⟩
  unfold x_sto1
  rw [x_nlg_le hl i hn]; rfl
theorem x_er_sto2 {i pc : Nat} {ls ls' r : List xMV} {v : xMV} {w : xWd} {e : xEff} (h : x_sto2 i pc ls v r w = some e) (hl : x_le ls ls') : ∃ e', x_sto2 i pc ls' v r w = some e' ∧ x_er e e' := by
  obtain ⟨hn, rfl⟩ := x_sto2_inv h
  refine ⟨.inl (pc, (ls'.set i v).set (i + 1) none, r, w), ?_, Or.inl ⟨_, _, _, _, _, rfl, rfl, x_le_set _ _ (x_le_set i v hl)⟩⟩
  unfold x_sto2
  rw [x_nlg_le hl i hn]; rfl
theorem x_er_cl {y : Nat} {o : Option (List xMV × List xMV)} {e : xEff} (h : x_cl y o = some e) : x_er e e := by
  unfold x_cl at h
  split at h
  · cases h
  · obtain ⟨-, h⟩ := x_bif h
    exact Or.inr (Or.inr ⟨_, (Option.some.inj h).symm, (Option.some.inj h).symm⟩)
set_option maxHeartbeats 4000000 in
theorem x_eff_le {r : xRow} {d k pc : Nat} {ls ls' st : List xMV} {w : xWd} {e : xEff} (he : x_eff r d k pc ls st w = some e) (hl : x_le ls ls') : ∃ e', x_eff r d k pc ls' st w = some e' ∧ x_er e e' := by
  obtain ⟨ins, x, y, z⟩ := r
  cases ins with
  | iload_n i =>
    obtain ⟨v, hv, h⟩ := x_ldI_inv (show x_ldI ls i.val (fun v => x_g (pc + 1) ls (v :: st) w) = _ from he)
    obtain ⟨e', h1, h2⟩ := x_er_g h hl
    refine ⟨e', ?_, h2⟩
    show x_ldI ls' i.val (fun v => x_g (pc + 1) ls' (v :: st) w) = _
    unfold x_ldI; rw [x_le_at hl hv]; exact h1
  | iload i =>
    obtain ⟨v, hv, h⟩ := x_ldI_inv (show x_ldI ls i (fun v => x_g (pc + 2) ls (v :: st) w) = _ from he)
    obtain ⟨e', h1, h2⟩ := x_er_g h hl
    refine ⟨e', ?_, h2⟩
    show x_ldI ls' i (fun v => x_g (pc + 2) ls' (v :: st) w) = _
    unfold x_ldI; rw [x_le_at hl hv]; exact h1
  | lload_n i =>
    obtain ⟨v, hv, h⟩ := x_ldJ_inv (show x_ldJ ls i.val (fun v => x_g (pc + 1) ls (v :: st) w) = _ from he)
    obtain ⟨e', h1, h2⟩ := x_er_g h hl
    refine ⟨e', ?_, h2⟩
    show x_ldJ ls' i.val (fun v => x_g (pc + 1) ls' (v :: st) w) = _
    unfold x_ldJ; rw [x_le_at hl hv]; exact h1
  | lload i =>
    obtain ⟨v, hv, h⟩ := x_ldJ_inv (show x_ldJ ls i (fun v => x_g (pc + 2) ls (v :: st) w) = _ from he)
    obtain ⟨e', h1, h2⟩ := x_er_g h hl
    refine ⟨e', ?_, h2⟩
    show x_ldJ ls' i (fun v => x_g (pc + 2) ls' (v :: st) w) = _
    unfold x_ldJ; rw [x_le_at hl hv]; exact h1
  | aload_n i =>
    obtain ⟨c, a, hv, h⟩ := x_ldA_inv (show x_ldA ls i.val (fun v => x_g (pc + 1) ls (v :: st) w) = _ from he)
    obtain ⟨e', h1, h2⟩ := x_er_g h hl
    refine ⟨e', ?_, h2⟩
    show x_ldA ls' i.val (fun v => x_g (pc + 1) ls' (v :: st) w) = _
    unfold x_ldA; rw [x_le_at hl hv]; exact h1
  | aload i =>
    obtain ⟨c, a, hv, h⟩ := x_ldA_inv (show x_ldA ls i (fun v => x_g (pc + 2) ls (v :: st) w) = _ from he)
    obtain ⟨e', h1, h2⟩ := x_er_g h hl
    refine ⟨e', ?_, h2⟩
    show x_ldA ls' i (fun v => x_g (pc + 2) ls' (v :: st) w) = _
    unfold x_ldA; rw [x_le_at hl hv]; exact h1
  | istore_n i =>
    have he : x_stI i.val (pc + 1) ls st w = some e := he
    show ∃ e', x_stI i.val (pc + 1) ls' st w = some e' ∧ _
    unfold x_stI at he ⊢
    split at he
    · exact x_er_sto1 he hl
    · cases he
  | istore i =>
    have he : x_stI i (pc + 2) ls st w = some e := he
    show ∃ e', x_stI i (pc + 2) ls' st w = some e' ∧ _
    unfold x_stI at he ⊢
    split at he
    · exact x_er_sto1 he hl
    · cases he
  | astore_n i =>
    have he : x_stA i.val (pc + 1) ls st w = some e := he
    show ∃ e', x_stA i.val (pc + 1) ls' st w = some e' ∧ _
    unfold x_stA at he ⊢
    split at he
    · exact x_er_sto1 he hl
    · cases he
  | astore i =>
    have he : x_stA i (pc + 2) ls st w = some e := he
    show ∃ e', x_stA i (pc + 2) ls' st w = some e' ∧ _
    unfold x_stA at he ⊢
    split at he
    · exact x_er_sto1 he hl
    · cases he
  | lstore i =>
    have he : x_stJ i (pc + 2) ls st w = some e := he
    show ∃ e', x_stJ i (pc + 2) ls' st w = some e' ∧ _
    unfold x_stJ at he ⊢
    split at he
    · exact x_er_sto2 he hl
    · cases he
  | iinc i v =>
    unfold x_eff at he ⊢
    dsimp only at he ⊢
    split at he
    · rename_i v1 hv
      rw [x_le_at hl hv]
      exact x_er_sto1 he hl
    · cases he
  | dup =>
    unfold x_eff at he ⊢
    dsimp only at he ⊢
    split at he
    · exact x_er_g he hl
    · exact x_er_g he hl
    · cases he
  | dup2 =>
    unfold x_eff at he ⊢
    dsimp only at he ⊢
    split at he
    · exact x_er_g he hl
    · cases he
  | getfield i =>
    obtain ⟨c, a, q, rfl, h⟩ := x_pa_inv (show x_pa st (fun c a q => bif Nat.beq c x then x_g (pc + 3) ls (x_fv x a y w :: q) w else none) = _ from he)
    exact x_er_bif h (fun h => x_er_g h hl)
  | putfield i =>
    have he : x_pf x y pc ls st w = some e := he
    show ∃ e', x_pf x y pc ls' st w = some e' ∧ _
    obtain ⟨v, a, r, rfl, hft, h⟩ := x_pf_inv he
    have hb : Nat.beq x x = true := Nat.beq_refl x
    rcases h with ⟨hz, rfl⟩ | ⟨hz, rfl⟩
    · refine ⟨_, ?_, Or.inr (Or.inl ⟨_, _, _, _, _, _, rfl, rfl, hl⟩)⟩
      unfold x_pf; dsimp only; rw [hb, hft, hz]; rfl
    · refine ⟨_, ?_, Or.inl ⟨_, _, _, _, _, rfl, rfl, hl⟩⟩
      unfold x_pf; dsimp only; rw [hb, hft, hz]; rfl
  | iaload =>
    have he : x_iald k pc ls st w = some e := he
    show ∃ e', x_iald k pc ls' st w = some e' ∧ _
    obtain ⟨i, c, a, r, rfl, h⟩ := x_iald_inv he
    rcases h with ⟨rfl, rfl⟩ | ⟨hc, rfl⟩
    · exact ⟨_, rfl, Or.inr (Or.inl ⟨_, _, _, _, _, _, rfl, rfl, hl⟩)⟩
    · refine ⟨_, ?_, Or.inr (Or.inl ⟨_, _, _, _, _, _, rfl, rfl, hl⟩)⟩
      have b1 : Nat.beq c 51 = false := by
        cases hb : Nat.beq c 51 with
        | true => have := x_beq hb; omega
        | false => rfl
      have b2 : Nat.ble 100 c = true := Nat.ble_eq.mpr hc
      unfold x_iald; dsimp only; rw [b1, b2]; rfl
  | iastore =>
    have he : x_iast pc ls st w = some e := he
    show ∃ e', x_iast pc ls' st w = some e' ∧ _
    obtain ⟨v, i, c, a, r, rfl, hc, rfl⟩ := x_iast_inv he
    refine ⟨_, ?_, Or.inr (Or.inl ⟨_, _, _, _, _, _, rfl, rfl, hl⟩)⟩
    have b2 : Nat.ble 100 c = true := Nat.ble_eq.mpr hc
    unfold x_iast; dsimp only; rw [b2]; rfl
  | aaload =>
    have he : x_aald pc ls st w = some e := he
    show ∃ e', x_aald pc ls' st w = some e' ∧ _
    obtain ⟨i, a, r, rfl, rfl⟩ := x_aald_inv he
    exact ⟨_, rfl, Or.inr (Or.inl ⟨_, _, _, _, _, _, rfl, rfl, hl⟩)⟩
  | arraylength =>
    have he : x_alen k pc ls st w = some e := he
    show ∃ e', x_alen k pc ls' st w = some e' ∧ _
    unfold x_alen at he ⊢
    obtain ⟨c, a, q, rfl, h⟩ := x_pa_inv he
    clear he
    show ∃ e', (bif Nat.beq c 51 then x_o (k = 0) (pc + 1) ls' (xI (w 4 0) :: q) w else bif Nat.ble 100 c then x_g (pc + 1) ls' (xI (nI (c - 100)) :: q) w else none) = some e' ∧ _
    cases hc : Nat.beq c 51 with
    | true => rw [hc] at h; exact x_er_o h hl
    | false => rw [hc] at h; exact x_er_bif h (fun h => x_er_g h hl)
  | invokevirtual i =>
    have he : x_clv x (x_rev st y []) = some e := he
    refine ⟨e, he, ?_⟩
    unfold x_clv at he
    split at he
    · obtain ⟨-, he⟩ := x_bif he
      exact x_er_cl he
    · cases he
  | invokestatic i =>
    have he : x_ist d x y pc ls st w = some e := he
    show ∃ e', x_ist d x y pc ls' st w = some e' ∧ _
    unfold x_ist at he ⊢
    cases h1 : Nat.beq x 9999 with
    | true =>
      rw [h1] at he
      dsimp only [cond_true] at he ⊢
      split at he
      · exact x_er_o he hl
      · cases he
    | false =>
      rw [h1] at he
      cases h2 : Nat.beq x 9998 with
      | true =>
        rw [h2] at he
        dsimp only [cond_true, cond_false] at he ⊢
        obtain ⟨a, b, r, rfl, h⟩ := x_p2_inv he
        exact x_er_bif h (fun h => x_er_o h hl)
      | false =>
        rw [h2] at he
        cases h3 : Nat.beq x 9997 with
        | true =>
          rw [h3] at he
          dsimp only [cond_true, cond_false] at he ⊢
          obtain ⟨a, b, r, rfl, h⟩ := x_p2_inv he
          exact x_er_bif h (fun h => x_er_o h hl)
        | false =>
          rw [h3] at he
          dsimp only [cond_true, cond_false] at he ⊢
          exact ⟨e, he, x_er_cl he⟩
  | ireturn =>
    have he : x_iret x st = some e := he
    refine ⟨e, he, ?_⟩
    unfold x_iret at he
    split at he
    · split at he
      · exact Or.inr (Or.inr ⟨_, (Option.some.inj he).symm, (Option.some.inj he).symm⟩)
      · exact Or.inr (Or.inr ⟨_, (Option.some.inj he).symm, (Option.some.inj he).symm⟩)
    · cases he
  | lreturn =>
    refine ⟨e, he, ?_⟩
    unfold x_eff at he
    dsimp only at he
    split at he
    · exact Or.inr (Or.inr ⟨_, (Option.some.inj he).symm, (Option.some.inj he).symm⟩)
    · cases he
  | return_ =>
    refine ⟨e, he, ?_⟩
    unfold x_eff at he
    dsimp only at he
    split at he
    · exact Or.inr (Or.inr ⟨_, (Option.some.inj he).symm, (Option.some.inj he).symm⟩)
    · cases he
  | _ =>
    first
      | (cases he; done)
      | exact x_er_g he hl
      | (obtain ⟨a, b, q, rfl, h⟩ := x_p2_inv he; first | exact x_er_g h hl | exact x_er_o h hl)
      | (obtain ⟨a, q, rfl, h⟩ := x_p1_inv he; exact x_er_g h hl)
      | (obtain ⟨a, b, q, rfl, h⟩ := x_q2_inv he; first | exact x_er_g h hl | exact x_er_o h hl)
theorem xwp_weak : ∀ (n d k pc : Nat) (ls ls' st : List xMV) (w : xWd) (Q : xMV → xWd → Prop), x_le ls ls' → xwp n d k pc ls st w Q → xwp n d k pc ls' st w Q := by
  intro n
  induction n with
  | zero => intro d k pc ls ls' st w Q _ h; exact h.elim
  | succ n ih =>
    intro d k pc ls ls' st w Q hl h
    unfold xwp at h ⊢
    cases h1 : x_tb k pc with
    | none => rw [h1] at h; exact h.elim
    | some r =>
      rw [h1] at h
      dsimp only at h ⊢
      cases h2 : x_eff r d k pc ls st w with
      | none => rw [h2] at h; exact h.elim
      | some e =>
        rw [h2] at h
        obtain ⟨e', h3, h4⟩ := x_eff_le h2 hl
        rw [h3]
        rcases h4 with ⟨pc1, l1, l1', st1, w1, rfl, rfl, hl1⟩ | ⟨P, pc1, l1, l1', st1, w1, rfl, rfl, hl1⟩ | ⟨q, rfl, rfl⟩
        · exact ih _ _ _ _ _ _ _ _ hl1 h
        · exact ⟨h.1, ih _ _ _ _ _ _ _ _ hl1 h.2⟩
        · rcases q with ⟨y, as, rst⟩ | ⟨P, a⟩
          · cases d with
            | zero => exact h.elim
            | succ d => exact xwp_mono n _ _ _ _ _ _ _ _ _ (Nat.le_refl _) (fun a w' hq => ih _ _ _ _ _ _ _ _ hl hq) h
          · exact h
theorem x_weak {d k pc : Nat} {ls ls' st : List xMV} {w : xWd} {Q : xMV → xWd → Prop} (h : xWp d k pc ls st w Q) (hl : x_le ls ls') : xWp d k pc ls' st w Q := by
  obtain ⟨n, hn⟩ := h
  exact ⟨n, xwp_weak n _ _ _ _ _ _ _ _ hl hn⟩
theorem x_goW {d k pc : Nat} {ls st : List xMV} {w : xWd} {Q : xMV → xWd → Prop} {pc' : Nat} {ls' st' : List xMV} {w' : xWd} (h : x_one d k pc ls st w = some (.inl (pc', ls', st', w'))) (kk : ∀ w1, w1 = w' → xWp d k pc' ls' st' w1 Q) : xWp d k pc ls st w Q := x_go h (kk _ rfl)
theorem x_obW {d k pc : Nat} {ls st : List xMV} {w : xWd} {Q : xMV → xWd → Prop} {P : Prop} {pc' : Nat} {ls' st' : List xMV} {w' : xWd} (h : x_one d k pc ls st w = some (.inr (.inl (P, pc', ls', st', w')))) (hp : P) (kk : ∀ w1, w1 = w' → xWp d k pc' ls' st' w1 Q) : xWp d k pc ls st w Q := x_ob h hp (kk _ rfl)
theorem x_brT {d k : Nat} {ls st : List xMV} {w : xWd} {Q : xMV → xWd → Prop} {c : Prop} [hc : Decidable c] {t f : Nat} (h : c) (ht : xWp d k t ls st w Q) : xWp d k (if c then t else f) ls st w Q := by rw [if_pos h]; exact ht
theorem x_brF {d k : Nat} {ls st : List xMV} {w : xWd} {Q : xMV → xWd → Prop} {c : Prop} [hc : Decidable c] {t f : Nat} (h : ¬ c) (hf : xWp d k f ls st w Q) : xWp d k (if c then t else f) ls st w Q := by rw [if_neg h]; exact hf
end
section
/-! NUMBERS, MASKS -/
theorem fa_lt (a b : Int32) : a < b ↔ a.toInt < b.toInt := Int32.lt_iff_toInt_lt
theorem fa_le (a b : Int32) : a ≤ b ↔ a.toInt ≤ b.toInt := Int32.le_iff_toInt_le
theorem fa_eq (a b : Int32) : a = b ↔ a.toInt = b.toInt := Int32.toInt_inj.symm
theorem fa_lit (n : Nat) : (OfNat.ofNat n : Int32) = nI n := rfl
theorem fa_and (a b : Nat) : nI a &&& nI b = nI (a &&& b) := by
  apply Int32.toBitVec_inj.1
  show BitVec.ofNat 32 a &&& BitVec.ofNat 32 b = BitVec.ofNat 32 (a &&& b)
  apply BitVec.eq_of_getLsbD_eq
  intro i hi
  simp [hi]
theorem fa_or (a b : Nat) : nI a ||| nI b = nI (a ||| b) := by
  apply Int32.toBitVec_inj.1
  show BitVec.ofNat 32 a ||| BitVec.ofNat 32 b = BitVec.ofNat 32 (a ||| b)
  apply BitVec.eq_of_getLsbD_eq
  intro i hi
  simp [hi]
theorem z_lt {a b : Nat} (ha : a < 2 ^ 31) (hb : b < 2 ^ 31) : nI a < nI b ↔ a < b := nI_ltI ha hb
theorem z_le {a b : Nat} (ha : a < 2 ^ 31) (hb : b < 2 ^ 31) : nI a ≤ nI b ↔ a ≤ b := nI_leI ha hb
theorem z_eq {a b : Nat} (ha : a < 2 ^ 31) (hb : b < 2 ^ 31) : nI a = nI b ↔ a = b := nI_eq ha hb
theorem z_neg {a : Nat} (ha : a < 2 ^ 31) : ¬ nI a < 0 := nI_pos ha
theorem z_shl : ∀ k, k < 31 → (1 : Int32) <<< (nI k &&& 31) = nI (2 ^ k) := by decide +kernel
theorem z_bit : ∀ m, m < 256 → ∀ k, k < 8 → decide ((nI m >>> (nI k &&& 31)) &&& 1 = 1) = m.testBit k := by decide +kernel
theorem z_bit' {m k : Nat} (hm : m < 256) (hk : k < 8) : (nI m >>> (nI k &&& 31)) &&& 1 = 1 ↔ m.testBit k = true := by
  rw [← z_bit m hm k hk, decide_eq_true_eq]
/-- one number taken out of a set -/
def z_cl (m k : Nat) : Nat := if m.testBit k then m - 2 ^ k else m
theorem z_clr : ∀ m, m < 256 → ∀ k, k < 8 → nI m &&& (nI (2 ^ k) ^^^ (-1)) = nI (z_cl m k) := by decide +kernel
theorem z_cl_tb : ∀ m, m < 256 → ∀ k, k < 8 → ∀ j, j < 8 → (z_cl m k).testBit j = (m.testBit j && decide (j ≠ k)) := by decide +kernel
theorem z_cl_lt : ∀ m, m < 256 → ∀ k, k < 8 → z_cl m k < 256 := by decide +kernel
theorem z_ext : ∀ {a b : Nat}, a < 256 → b < 256 → (∀ j, j < 8 → a.testBit j = b.testBit j) → a = b := by
  intro a b ha hb h
  apply Nat.eq_of_testBit_eq
  intro i
  by_cases hi : i < 8
  · exact h i hi
  · rw [Nat.testBit_lt_two_pow (Nat.lt_of_lt_of_le ha (show 2 ^ 8 ≤ 2 ^ i from Nat.pow_le_pow_right (by decide) (by omega))), Nat.testBit_lt_two_pow (Nat.lt_of_lt_of_le hb (show 2 ^ 8 ≤ 2 ^ i from Nat.pow_le_pow_right (by decide) (by omega)))]
/-- the set of those below k with p -/
def z_mk : Nat → (Nat → Bool) → Nat
  | 0, _ => 0
  | k + 1, p => (if p k then 2 ^ k else 0) + z_mk k p
theorem z_mk_s (k : Nat) (p : Nat → Bool) : z_mk (k + 1) p = (if p k then 2 ^ k else 0) + z_mk k p := rfl
theorem z_mk_lt : ∀ (k : Nat) (p : Nat → Bool), z_mk k p < 2 ^ k
  | 0, _ => Nat.one_pos
  | k + 1, p => by
    have h := z_mk_lt k p
    rw [z_mk_s]
    rw [Nat.pow_succ]
    split <;> omega
theorem z_mk_tb : ∀ (k : Nat) (p : Nat → Bool) (j : Nat), (z_mk k p).testBit j = (decide (j < k) && p j)
  | 0, p, j => by simp [z_mk]
  | k + 1, p, j => by
    have h := z_mk_lt k p
    have ih := z_mk_tb k p j
    unfold z_mk
    rcases Nat.lt_trichotomy j k with hj | hj | hj
    · have e1 : decide (j < k + 1) = true := decide_eq_true (by omega)
      have e2 : decide (j < k) = true := decide_eq_true hj
      rw [e1]; rw [e2] at ih
      split
      · rw [Nat.testBit_two_pow_add_gt hj, ih]
      · rw [Nat.zero_add, ih]
    · subst hj
      have e1 : decide (j < j + 1) = true := decide_eq_true (by omega)
      rw [e1, Bool.true_and]
      cases hp : p j with
      | true => rw [if_pos rfl, Nat.testBit_two_pow_add_eq, Nat.testBit_lt_two_pow h]; rfl
      | false => simp [Nat.testBit_lt_two_pow h]
    · have e1 : decide (j < k + 1) = false := decide_eq_false (by omega)
      rw [e1, Bool.false_and]
      apply Nat.testBit_lt_two_pow
      have h2 : 2 ^ (k + 1) ≤ 2 ^ j := Nat.pow_le_pow_right (by decide) hj
      rw [Nat.pow_succ] at h2
      split <;> omega
theorem z_mk_lt8 {k : Nat} (hk : k ≤ 8) (p : Nat → Bool) : z_mk k p < 256 := Nat.lt_of_lt_of_le (z_mk_lt k p) (Nat.pow_le_pow_right (by decide) hk : 2 ^ k ≤ 2 ^ 8)
/-- one more number comes to a set -/
theorem z_mk_or {k : Nat} {p : Nat → Bool} (h : p k = true) : nI (z_mk k p) ||| nI (2 ^ k) = nI (z_mk (k + 1) p) := by
  rw [fa_or]
  congr 1
  have h1 := z_mk_lt k p
  rw [z_mk_s, if_pos h]
  have := Nat.two_pow_add_eq_or_of_lt h1 1
  rw [Nat.mul_one] at this
  rw [this, Nat.or_comm]
theorem z_mk_no {k : Nat} {p : Nat → Bool} (h : ¬ p k = true) : nI (z_mk k p) = nI (z_mk (k + 1) p) := by
  rw [z_mk_s, if_neg h, Nat.zero_add]
theorem z_mk_congr : ∀ (k : Nat) {p q : Nat → Bool}, (∀ j, j < k → p j = q j) → z_mk k p = z_mk k q
  | 0, _, _, _ => rfl
  | k + 1, p, q, h => by
    unfold z_mk
    rw [h k (by omega), z_mk_congr k (fun j hj => h j (by omega))]
/-- a longer range adds nothing where p is empty -/
theorem z_mk_up {k n : Nat} (hk : k ≤ 8) (hn : n ≤ 8) {p q : Nat → Bool} (h : ∀ j, j < 8 → (decide (j < k) && p j) = (decide (j < n) && q j)) : z_mk k p = z_mk n q := by
  apply z_ext (z_mk_lt8 hk p) (z_mk_lt8 hn q)
  intro j hj
  rw [z_mk_tb, z_mk_tb, h j hj]
def z_any : Nat → (Nat → Bool) → Bool
  | 0, _ => false
  | k + 1, p => z_any k p || p k
theorem z_any_iff : ∀ (k : Nat) (p : Nat → Bool), z_any k p = true ↔ ∃ j, j < k ∧ p j = true
  | 0, p => by simp [z_any]
  | k + 1, p => by
    unfold z_any
    rw [Bool.or_eq_true, z_any_iff k p]
    constructor
    · rintro (⟨j, h1, h2⟩ | h)
      · exact ⟨j, by omega, h2⟩
      · exact ⟨k, by omega, h⟩
    · rintro ⟨j, h1, h2⟩
      by_cases e : j = k
      · subst e; exact Or.inr h2
      · exact Or.inl ⟨j, by omega, h2⟩
/-- how many below k have p -/
def z_cn : Nat → (Nat → Bool) → Nat
  | 0, _ => 0
  | k + 1, p => z_cn k p + (if p k then 1 else 0)
theorem z_cn_s (k : Nat) (p : Nat → Bool) : z_cn (k + 1) p = z_cn k p + (if p k then 1 else 0) := rfl
theorem z_cn_congr : ∀ (k : Nat) {p q : Nat → Bool}, (∀ j, j < k → p j = q j) → z_cn k p = z_cn k q
  | 0, _, _, _ => rfl
  | k + 1, p, q, h => by
    unfold z_cn
    rw [h k (by omega), z_cn_congr k (fun j hj => h j (by omega))]
theorem z_cn_le : ∀ (k : Nat) (p : Nat → Bool), z_cn k p ≤ k
  | 0, _ => Nat.le_refl _
  | k + 1, p => by
    have := z_cn_le k p
    unfold z_cn
    split <;> omega
/-- how many numbers a set has -/
def z_pc (m : Nat) : Nat := z_cn 8 m.testBit
theorem z_pc_mk {k : Nat} (hk : k ≤ 8) (p : Nat → Bool) : z_pc (z_mk k p) = z_cn 8 (fun j => decide (j < k) && p j) := z_cn_congr 8 (fun j _ => z_mk_tb k p j)
theorem z_cn_up {k : Nat} {p : Nat → Bool} : ∀ (n : Nat), k ≤ n → z_cn n (fun j => decide (j < k) && p j) = z_cn k p
  | 0, h => by
    have : k = 0 := by omega
    subst this; rfl
  | n + 1, h => by
    by_cases e : k = n + 1
    · subst e
      exact z_cn_congr _ (fun j hj => by simp [hj])
    · have ih := z_cn_up (k := k) (p := p) n (by omega)
      rw [z_cn_s, ih]
      have : decide (n < k) = false := decide_eq_false (by omega)
      simp [this]
theorem z_pc_le (m : Nat) : z_pc m ≤ 8 := z_cn_le 8 _
/-- the greatest of f below k -/
def z_mx : Nat → (Nat → Nat) → Nat
  | 0, _ => 0
  | k + 1, f => max (z_mx k f) (f k)
theorem z_mx_congr : ∀ (k : Nat) {f g : Nat → Nat}, (∀ j, j < k → f j = g j) → z_mx k f = z_mx k g
  | 0, _, _, _ => rfl
  | k + 1, f, g, h => by
    unfold z_mx
    rw [h k (by omega), z_mx_congr k (fun j hj => h j (by omega))]
theorem z_mx_le : ∀ (k B : Nat) (f : Nat → Nat), (∀ j, j < k → f j ≤ B) → z_mx k f ≤ B
  | 0, B, f, _ => Nat.zero_le _
  | k + 1, B, f, h => by
    unfold z_mx
    exact Nat.max_le.mpr ⟨z_mx_le k B f (fun j hj => h j (by omega)), h k (by omega)⟩
def z_sm : Nat → (Nat → Nat) → Nat
  | 0, _ => 0
  | k + 1, f => z_sm k f + f k
theorem z_sm_congr : ∀ (k : Nat) {f g : Nat → Nat}, (∀ j, j < k → f j = g j) → z_sm k f = z_sm k g
  | 0, _, _, _ => rfl
  | k + 1, f, g, h => by
    unfold z_sm
    rw [h k (by omega), z_sm_congr k (fun j hj => h j (by omega))]
theorem z_sm_le : ∀ (k B : Nat) (f : Nat → Nat), (∀ j, j < k → f j ≤ B) → z_sm k f ≤ k * B
  | 0, B, f, _ => by simp [z_sm]
  | k + 1, B, f, h => by
    have := z_sm_le k B f (fun j hj => h j (by omega))
    have h2 := h k (by omega)
    unfold z_sm
    rw [Nat.succ_mul]
    omega
/-- an int that isn't below 0 -/
theorem z_of {v : Int32} (h : 0 ≤ v.toInt) : ∃ j : Nat, v = nI j ∧ (j : Int) = v.toInt ∧ j < 2 ^ 31 ∧ v.toNatClampNeg = j := by
  obtain ⟨j, h1, h2⟩ := nI_of (x := v) (fun q => by have := (fa_lt v 0).mp q; have e : (0 : Int32).toInt = 0 := rfl; omega)
  subst h2
  exact ⟨j, rfl, (nI_toInt h1).symm, h1, nI_clamp h1⟩
theorem z_in {n N : Nat} (h : n < N) (hN : N ≤ 1000) : vp_in (nI n) N := vp_in_nI h (by omega)
theorem z_cl' {n : Nat} (h : n < 2 ^ 31) : (nI n).toNatClampNeg = n := nI_clamp h
end
section
/-! LINES, as numbers: how many, kinds, aboves, how many used, used ones (2 places a line) -/
abbrev xT : Type := Nat × (Nat → Nat) × (Nat → Nat) × (Nat → Nat) × (Nat → Nat)
def tn (T : xT) : Nat := T.1
def tk (T : xT) : Nat → Nat := T.2.1
def ta (T : xT) : Nat → Nat := T.2.2.1
def tm (T : xT) : Nat → Nat := T.2.2.2.1
def tu (T : xT) : Nat → Nat := T.2.2.2.2
def t_bl (ab : Nat → Nat) : Nat → Nat → Nat → Bool
  | 0, _, _ => false
  | f + 1, l, v => decide (ab l < 8) && (decide (ab l = v) || t_bl ab f (ab l) v)
/-- line l is below v -/
def tb (T : xT) (l v : Nat) : Bool := t_bl (ta T) 8 l v
def t_dp (ab : Nat → Nat) : Nat → Nat → Nat
  | 0, _ => 0
  | f + 1, l => if ab l < 8 then t_dp ab f (ab l) + 1 else 0
def td (T : xT) (l : Nat) : Nat := t_dp (ta T) 8 l
/-- line l uses v -/
def tr (T : xT) (l v : Nat) : Bool := (decide (0 < tm T l) && decide (tu T (2 * l) = v)) || (decide (1 < tm T l) && decide (tu T (2 * l + 1) = v))
def tCh (T : xT) : Prop := tn T ≤ 8 ∧ ∀ l, l < tn T → (l = 0 → ta T l = 8) ∧ (0 < l → ta T l < l)
def tW (T : xT) : Prop := tCh T ∧ ∀ l, l < tn T → tk T l ≤ 2 ∧ tm T l ≤ 2 ∧ (∀ i, i < tm T l → tb T l (tu T (2 * l + i)) = true) ∧ (tm T l = 2 → tu T (2 * l) ≠ tu T (2 * l + 1))
theorem t_bl_s (ab : Nat → Nat) (f l v : Nat) : t_bl ab (f + 1) l v = (decide (ab l < 8) && (decide (ab l = v) || t_bl ab f (ab l) v)) := rfl
theorem t_dp_s (ab : Nat → Nat) (f l : Nat) : t_dp ab (f + 1) l = if ab l < 8 then t_dp ab f (ab l) + 1 else 0 := rfl
theorem t_bl_fuel {T : xT} (h : tCh T) : ∀ (f l v : Nat), l < tn T → l ≤ f → t_bl (ta T) f l v = t_bl (ta T) (f + 1) l v
  | 0, l, v, hl, hf => by
    have e : l = 0 := by omega
    subst e
    rw [t_bl_s, (h.2 0 hl).1 rfl]; rfl
  | f + 1, l, v, hl, hf => by
    rw [t_bl_s, t_bl_s]
    by_cases e : l = 0
    · subst e; rw [(h.2 0 hl).1 rfl]; rfl
    · have h1 := (h.2 l hl).2 (by omega)
      rw [t_bl_fuel h f (ta T l) v (by omega) (by omega)]
theorem t_dp_fuel {T : xT} (h : tCh T) : ∀ (f l : Nat), l < tn T → l ≤ f → t_dp (ta T) f l = t_dp (ta T) (f + 1) l
  | 0, l, hl, hf => by
    have e : l = 0 := by omega
    subst e
    rw [t_dp_s, (h.2 0 hl).1 rfl]; rfl
  | f + 1, l, hl, hf => by
    rw [t_dp_s, t_dp_s]
    by_cases e : l = 0
    · subst e; rw [(h.2 0 hl).1 rfl]; rfl
    · have h1 := (h.2 l hl).2 (by omega)
      rw [t_dp_fuel h f (ta T l) (by omega) (by omega)]
theorem tb_0 {T : xT} (h : tCh T) (h0 : 0 < tn T) (v : Nat) : tb T 0 v = false := by
  unfold tb; rw [t_bl_s, (h.2 0 h0).1 rfl]; rfl
theorem tb_s {T : xT} (h : tCh T) {l : Nat} (hl : l < tn T) (h0 : 0 < l) (v : Nat) : tb T l v = (decide (ta T l = v) || tb T (ta T l) v) := by
  have h1 := (h.2 l hl).2 h0
  have h2 := h.1
  unfold tb
  rw [t_bl_s, t_bl_fuel h 7 (ta T l) v (by omega) (by omega), decide_eq_true (show ta T l < 8 by omega), Bool.true_and]
theorem td_0 {T : xT} (h : tCh T) (h0 : 0 < tn T) : td T 0 = 0 := by
  unfold td; rw [t_dp_s, (h.2 0 h0).1 rfl]; rfl
theorem td_s {T : xT} (h : tCh T) {l : Nat} (hl : l < tn T) (h0 : 0 < l) : td T l = td T (ta T l) + 1 := by
  have h1 := (h.2 l hl).2 h0
  have h2 := h.1
  unfold td
  rw [t_dp_s, t_dp_fuel h 7 (ta T l) (by omega) (by omega), if_pos (show ta T l < 8 by omega)]
theorem tb_lt {T : xT} (h : tCh T) : ∀ (f l v : Nat), l ≤ f → l < tn T → tb T l v = true → v < l
  | 0, l, v, hf, hl, hb => by
    have e : l = 0 := by omega
    subst e
    rw [tb_0 h hl] at hb; cases hb
  | f + 1, l, v, hf, hl, hb => by
    by_cases e : l = 0
    · subst e; rw [tb_0 h hl] at hb; cases hb
    · have h1 := (h.2 l hl).2 (by omega)
      rw [tb_s h hl (by omega), Bool.or_eq_true] at hb
      rcases hb with hb | hb
      · have := of_decide_eq_true hb; omega
      · have := tb_lt h f (ta T l) v (by omega) (by omega) hb; omega
theorem tb_lt' {T : xT} (h : tCh T) {l v : Nat} (hl : l < tn T) (hb : tb T l v = true) : v < l := tb_lt h l l v (Nat.le_refl _) hl hb
theorem td_le {T : xT} (h : tCh T) : ∀ (f l : Nat), l ≤ f → l < tn T → td T l ≤ l
  | 0, l, hf, hl => by
    have e : l = 0 := by omega
    subst e
    rw [td_0 h hl]; exact Nat.le_refl _
  | f + 1, l, hf, hl => by
    by_cases e : l = 0
    · subst e; rw [td_0 h hl]; exact Nat.le_refl _
    · have h1 := (h.2 l hl).2 (by omega)
      rw [td_s h hl (by omega)]
      have := td_le h f (ta T l) (by omega) (by omega)
      omega
theorem td_lt8 {T : xT} (h : tCh T) {l : Nat} (hl : l < tn T) : td T l < 8 := by
  have := td_le h l l (Nat.le_refl _) hl
  have := h.1
  omega
/-- below, it stands deeper -/
theorem tb_td {T : xT} (h : tCh T) : ∀ (f l v : Nat), l ≤ f → l < tn T → tb T l v = true → td T v < td T l
  | 0, l, v, hf, hl, hb => by
    have e : l = 0 := by omega
    subst e
    rw [tb_0 h hl] at hb; cases hb
  | f + 1, l, v, hf, hl, hb => by
    by_cases e : l = 0
    · subst e; rw [tb_0 h hl] at hb; cases hb
    · have h1 := (h.2 l hl).2 (by omega)
      rw [tb_s h hl (by omega), Bool.or_eq_true] at hb
      rw [td_s h hl (by omega)]
      rcases hb with hb | hb
      · have e2 := of_decide_eq_true hb; rw [e2]; omega
      · have := tb_td h f (ta T l) v (by omega) (by omega) hb; omega
/-- the set of those that l is below; of those that it uses -/
def tO (T : xT) (l : Nat) : Nat := z_mk 8 (tb T l)
def tU (T : xT) (l : Nat) : Nat := z_mk 8 (tr T l)
theorem tO_lt (T : xT) (l : Nat) : tO T l < 256 := z_mk_lt8 (Nat.le_refl _) _
theorem tU_lt (T : xT) (l : Nat) : tU T l < 256 := z_mk_lt8 (Nat.le_refl _) _
theorem tO_tb (T : xT) (l : Nat) {v : Nat} (hv : v < 8) : (tO T l).testBit v = tb T l v := by
  unfold tO; rw [z_mk_tb, decide_eq_true hv, Bool.true_and]
theorem tU_tb (T : xT) (l : Nat) {v : Nat} (hv : v < 8) : (tU T l).testBit v = tr T l v := by
  unfold tU; rw [z_mk_tb, decide_eq_true hv, Bool.true_and]
/-- what a line uses stands above it -/
theorem tr_tb {T : xT} (h : tW T) {l v : Nat} (hl : l < tn T) (hr : tr T l v = true) : tb T l v = true := by
  obtain ⟨-, hm, hu, -⟩ := h.2 l hl
  unfold tr at hr
  rw [Bool.or_eq_true, Bool.and_eq_true, Bool.and_eq_true] at hr
  rcases hr with ⟨h1, h2⟩ | ⟨h1, h2⟩
  · have := hu 0 (of_decide_eq_true h1)
    rw [Nat.add_zero, of_decide_eq_true h2] at this
    exact this
  · have := hu 1 (of_decide_eq_true h1)
    rw [of_decide_eq_true h2] at this
    exact this
theorem tr_lt {T : xT} (h : tW T) {l v : Nat} (hl : l < tn T) (hr : tr T l v = true) : v < l := tb_lt' h.1 hl (tr_tb h hl hr)
/-! the class's tree t; the model's lines -/
def tC (w : xWd) (t : Nat) (T : xT) : Prop := w t 8 = nI (tn T) ∧ ∀ l, l < tn T → w (32 * t + 1) l = nI (tk T l) ∧ w (32 * t + 2) l = nI (ta T l) ∧ w (32 * t + 3) l = nI (tO T l) ∧ w (32 * t + 4) l = nI (td T l) ∧ w (32 * t + 5) l = nI (tm T l) ∧ (∀ i, i < tm T l → w (32 * t + 6) (2 * l + i) = nI (tu T (2 * l + i))) ∧ w (32 * t + 7) l = nI (tU T l)
def tM (w : xWd) (T : xT) : Prop := w 2 5 = nI (tn T) ∧ ∀ l, l < tn T → w 71 l = nI (tk T l) ∧ w 72 l = nI (ta T l) ∧ w 73 l = nI (tm T l) ∧ ∀ i, i < tm T l → w 74 (2 * l + i) = nI (tu T (2 * l + i))
/-! what is told of lines -/
def mUs (T : xT) (v : Nat) : Nat := z_mk (tn T) (fun l => tr T l v)
def ub (T : xT) (l v : Nat) : Bool := z_any (tn T) (fun m => tb T m l && tr T m v)
def mUb (T : xT) (l : Nat) : Nat := z_mk 8 (ub T l)
def mLv (T : xT) (l : Nat) : Nat := z_mk 8 (fun v => decide (v = l) || (tb T l v && ub T l v))
def cr (T : xT) (a b : Nat) : Bool := z_any (tn T) (fun l => (mLv T l).testBit a && (mLv T l).testBit b)
def mCr (T : xT) (v : Nat) : Nat := z_mk 8 (fun u => decide (u ≠ v) && cr T v u)
def tCo (T : xT) (v : Nat) : Nat := if tk T v = 2 then 2 * z_pc (mUs T v) else if tk T v = 1 then z_pc (mUs T v) + 1 else z_pc (mUs T v)
/-- the least of f where p, below k; 0: none (f is above 0 there) -/
def z_mn (p : Nat → Bool) (f : Nat → Nat) : Nat → Nat
  | 0 => 0
  | k + 1 => if p k then (if z_mn p f k = 0 then f k else min (z_mn p f k) (f k)) else z_mn p f k
theorem z_mn_s (p : Nat → Bool) (f : Nat → Nat) (k : Nat) : z_mn p f (k + 1) = if p k then (if z_mn p f k = 0 then f k else min (z_mn p f k) (f k)) else z_mn p f k := rfl
def tL (T : xT) (l v : Nat) : Nat := z_mn (fun m => tb T m l && tr T m v) (fun m => td T m - td T l) (tn T)
def luI (x : Nat) : Int32 := if x = 0 then -9 else nI x
theorem mUs_lt {T : xT} (h : tn T ≤ 8) (v : Nat) : mUs T v < 256 := z_mk_lt8 h _
theorem mUb_lt (T : xT) (l : Nat) : mUb T l < 256 := z_mk_lt8 (Nat.le_refl _) _
theorem mLv_lt (T : xT) (l : Nat) : mLv T l < 256 := z_mk_lt8 (Nat.le_refl _) _
theorem mCr_lt (T : xT) (l : Nat) : mCr T l < 256 := z_mk_lt8 (Nat.le_refl _) _
theorem mLv_tb (T : xT) (l : Nat) {v : Nat} (hv : v < 8) : (mLv T l).testBit v = (decide (v = l) || (tb T l v && ub T l v)) := by
  unfold mLv; rw [z_mk_tb, decide_eq_true hv, Bool.true_and]
theorem mLv_le {T : xT} (h : tCh T) {l v : Nat} (hl : l < tn T) (hb : (mLv T l).testBit v = true) : v ≤ l := by
  by_cases hv : v < 8
  · rw [mLv_tb T l hv, Bool.or_eq_true, Bool.and_eq_true] at hb
    rcases hb with hb | ⟨hb, -⟩
    · have := of_decide_eq_true hb; omega
    · have := tb_lt' h hl hb; omega
  · unfold mLv at hb
    rw [z_mk_tb, decide_eq_false hv] at hb
    cases hb
end
section
/-! LEAVES: methods without loops and calls -/
def p_rg (v : Int32) (a b : Int) : Prop := a ≤ v.toInt ∧ v.toInt ≤ b
def p_wi (v a b : Int32) : Prop := a.toInt ≤ v.toInt ∧ v.toInt ≤ b.toInt
def p_lt (v n : Int32) : Prop := 0 ≤ v.toInt ∧ v.toInt < n.toInt
def p_in (m v : Int32) : Prop := (m >>> (v &&& 31)) &&& 1 = 1
/-- n cells from i on are there, of s -/
def p_hc (s i n : Int32) : Prop := 0 ≤ n.toInt ∧ 0 ≤ i.toInt ∧ n.toInt ≤ s.toInt ∧ i.toInt ≤ (s - n).toInt
theorem e_l0 : (0 : Int32).toInt = 0 := rfl
theorem e_l1 : (1 : Int32).toInt = 1 := rfl
theorem e_l2 : (2 : Int32).toInt = 2 := rfl
theorem e_l3 : (3 : Int32).toInt = 3 := rfl
theorem e_l4 : (4 : Int32).toInt = 4 := rfl
theorem e_l8 : (8 : Int32).toInt = 8 := rfl
theorem e_l10 : (10 : Int32).toInt = 10 := rfl
theorem e_l17 : (17 : Int32).toInt = 17 := rfl
theorem e_l20 : (20 : Int32).toInt = 20 := rfl
theorem e_l60 : (60 : Int32).toInt = 60 := rfl
theorem G_Vp_isSheet_0 {d : Nat} {x0 : Int32} {w : xWd} {Q : xMV → xWd → Prop} (h : ((x0 < 0 → Q (xI 0) w) ∧ (¬ (x0 < 0) → ((4 ≤ x0 → Q (xI 0) w) ∧ (¬ (4 ≤ x0) → Q (xI 1) w))))) : xWp d m_Vp_isSheet 0 [xI x0] [] w Q := by
  refine x_goN 2 (pc' := if x0 < 0 then 13 else 4) (ls' := [xI x0]) (st' := []) (w' := w) rfl ?_
  refine x_br (fun c1 => ?_) (fun c1 => ?_)
  · skip
    refine x_goN 1 (pc' := 14) (ls' := [xI x0]) (st' := [xI 0]) (w' := w) rfl ?_
    exact x_ret (P := (0 : Int32) = 0 ∨ (0 : Int32) = 1) rfl (by decide) (h.1 c1)
  · skip
    refine x_goN 3 (pc' := if 4 ≤ x0 then 13 else 9) (ls' := [xI x0]) (st' := []) (w' := w) rfl ?_
    refine x_br (fun c2 => ?_) (fun c2 => ?_)
    · skip
      refine x_goN 1 (pc' := 14) (ls' := [xI x0]) (st' := [xI 0]) (w' := w) rfl ?_
      exact x_ret (P := (0 : Int32) = 0 ∨ (0 : Int32) = 1) rfl (by decide) ((h.2 c1).1 c2)
    · skip
      refine x_goN 2 (pc' := 14) (ls' := [xI x0]) (st' := [xI 1]) (w' := w) rfl ?_
      exact x_ret (P := (1 : Int32) = 0 ∨ (1 : Int32) = 1) rfl (by decide) ((h.2 c1).2 c2)
theorem S_Vp_isSheet {d : Nat} {v : Int32} {w : xWd} {Q : xMV → xWd → Prop} (h1 : p_rg v 0 3 → Q (xI 1) w) (h2 : ¬ p_rg v 0 3 → Q (xI 0) w) : xWp d m_Vp_isSheet 0 [xI v] [] w Q := by
  refine G_Vp_isSheet_0 ⟨fun c => ?_, fun c => ⟨fun c2 => ?_, fun c2 => ?_⟩⟩ <;> simp only [fa_lt, fa_le, e_l0, e_l4] at *
  · exact h2 (fun q => by unfold p_rg at q; omega)
  · exact h2 (fun q => by unfold p_rg at q; omega)
  · exact h1 (by unfold p_rg; omega)
theorem G_Vp_isLane_0 {d : Nat} {x0 : Int32} {w : xWd} {Q : xMV → xWd → Prop} (h : ((x0 < 0 → Q (xI 0) w) ∧ (¬ (x0 < 0) → ((2 < x0 → Q (xI 0) w) ∧ (¬ (2 < x0) → Q (xI 1) w))))) : xWp d m_Vp_isLane 0 [xI x0] [] w Q := by
  refine x_goN 2 (pc' := if x0 < 0 then 13 else 4) (ls' := [xI x0]) (st' := []) (w' := w) rfl ?_
  refine x_br (fun c1 => ?_) (fun c1 => ?_)
  · skip
    refine x_goN 1 (pc' := 14) (ls' := [xI x0]) (st' := [xI 0]) (w' := w) rfl ?_
    exact x_ret (P := (0 : Int32) = 0 ∨ (0 : Int32) = 1) rfl (by decide) (h.1 c1)
  · skip
    refine x_goN 3 (pc' := if 2 < x0 then 13 else 9) (ls' := [xI x0]) (st' := []) (w' := w) rfl ?_
    refine x_br (fun c2 => ?_) (fun c2 => ?_)
    · skip
      refine x_goN 1 (pc' := 14) (ls' := [xI x0]) (st' := [xI 0]) (w' := w) rfl ?_
      exact x_ret (P := (0 : Int32) = 0 ∨ (0 : Int32) = 1) rfl (by decide) ((h.2 c1).1 c2)
    · skip
      refine x_goN 2 (pc' := 14) (ls' := [xI x0]) (st' := [xI 1]) (w' := w) rfl ?_
      exact x_ret (P := (1 : Int32) = 0 ∨ (1 : Int32) = 1) rfl (by decide) ((h.2 c1).2 c2)
theorem S_Vp_isLane {d : Nat} {v : Int32} {w : xWd} {Q : xMV → xWd → Prop} (h1 : p_rg v 0 2 → Q (xI 1) w) (h2 : ¬ p_rg v 0 2 → Q (xI 0) w) : xWp d m_Vp_isLane 0 [xI v] [] w Q := by
  refine G_Vp_isLane_0 ⟨fun c => ?_, fun c => ⟨fun c2 => ?_, fun c2 => ?_⟩⟩ <;> simp only [fa_lt, fa_le, e_l0, e_l2] at *
  · exact h2 (fun q => by unfold p_rg at q; omega)
  · exact h2 (fun q => by unfold p_rg at q; omega)
  · exact h1 (by unfold p_rg; omega)
theorem G_Vp_isKind_0 {d : Nat} {x0 : Int32} {w : xWd} {Q : xMV → xWd → Prop} (h : ((x0 < 0 → Q (xI 0) w) ∧ (¬ (x0 < 0) → ((2 < x0 → Q (xI 0) w) ∧ (¬ (2 < x0) → Q (xI 1) w))))) : xWp d m_Vp_isKind 0 [xI x0] [] w Q := by
  refine x_goN 2 (pc' := if x0 < 0 then 13 else 4) (ls' := [xI x0]) (st' := []) (w' := w) rfl ?_
  refine x_br (fun c1 => ?_) (fun c1 => ?_)
  · skip
    refine x_goN 1 (pc' := 14) (ls' := [xI x0]) (st' := [xI 0]) (w' := w) rfl ?_
    exact x_ret (P := (0 : Int32) = 0 ∨ (0 : Int32) = 1) rfl (by decide) (h.1 c1)
  · skip
    refine x_goN 3 (pc' := if 2 < x0 then 13 else 9) (ls' := [xI x0]) (st' := []) (w' := w) rfl ?_
    refine x_br (fun c2 => ?_) (fun c2 => ?_)
    · skip
      refine x_goN 1 (pc' := 14) (ls' := [xI x0]) (st' := [xI 0]) (w' := w) rfl ?_
      exact x_ret (P := (0 : Int32) = 0 ∨ (0 : Int32) = 1) rfl (by decide) ((h.2 c1).1 c2)
    · skip
      refine x_goN 2 (pc' := 14) (ls' := [xI x0]) (st' := [xI 1]) (w' := w) rfl ?_
      exact x_ret (P := (1 : Int32) = 0 ∨ (1 : Int32) = 1) rfl (by decide) ((h.2 c1).2 c2)
theorem S_Vp_isKind {d : Nat} {v : Int32} {w : xWd} {Q : xMV → xWd → Prop} (h1 : p_rg v 0 2 → Q (xI 1) w) (h2 : ¬ p_rg v 0 2 → Q (xI 0) w) : xWp d m_Vp_isKind 0 [xI v] [] w Q := by
  refine G_Vp_isKind_0 ⟨fun c => ?_, fun c => ⟨fun c2 => ?_, fun c2 => ?_⟩⟩ <;> simp only [fa_lt, fa_le, e_l0, e_l2] at *
  · exact h2 (fun q => by unfold p_rg at q; omega)
  · exact h2 (fun q => by unfold p_rg at q; omega)
  · exact h1 (by unfold p_rg; omega)
theorem G_Md_within_0 {d : Nat} {x0 : Int32} {x1 : Int32} {x2 : Int32} {w : xWd} {Q : xMV → xWd → Prop} (h : ((x0 < x1 → Q (xI 0) w) ∧ (¬ (x0 < x1) → ((x2 < x0 → Q (xI 0) w) ∧ (¬ (x2 < x0) → Q (xI 1) w))))) : xWp d m_Md_within 0 [xI x0, xI x1, xI x2] [] w Q := by
  refine x_goN 3 (pc' := if x0 < x1 then 14 else 5) (ls' := [xI x0, xI x1, xI x2]) (st' := []) (w' := w) rfl ?_
  refine x_br (fun c1 => ?_) (fun c1 => ?_)
  · skip
    refine x_goN 1 (pc' := 15) (ls' := [xI x0, xI x1, xI x2]) (st' := [xI 0]) (w' := w) rfl ?_
    exact x_ret (P := (0 : Int32) = 0 ∨ (0 : Int32) = 1) rfl (by decide) (h.1 c1)
  · skip
    refine x_goN 3 (pc' := if x2 < x0 then 14 else 10) (ls' := [xI x0, xI x1, xI x2]) (st' := []) (w' := w) rfl ?_
    refine x_br (fun c2 => ?_) (fun c2 => ?_)
    · skip
      refine x_goN 1 (pc' := 15) (ls' := [xI x0, xI x1, xI x2]) (st' := [xI 0]) (w' := w) rfl ?_
      exact x_ret (P := (0 : Int32) = 0 ∨ (0 : Int32) = 1) rfl (by decide) ((h.2 c1).1 c2)
    · skip
      refine x_goN 2 (pc' := 15) (ls' := [xI x0, xI x1, xI x2]) (st' := [xI 1]) (w' := w) rfl ?_
      exact x_ret (P := (1 : Int32) = 0 ∨ (1 : Int32) = 1) rfl (by decide) ((h.2 c1).2 c2)
theorem S_Md_within {d : Nat} {v a b : Int32} {w : xWd} {Q : xMV → xWd → Prop} (h1 : p_wi v a b → Q (xI 1) w) (h2 : ¬ p_wi v a b → Q (xI 0) w) : xWp d m_Md_within 0 [xI v, xI a, xI b] [] w Q := by
  refine G_Md_within_0 ⟨fun c => ?_, fun c => ⟨fun c2 => ?_, fun c2 => ?_⟩⟩ <;> simp only [fa_lt, fa_le] at *
  · exact h2 (fun q => by unfold p_wi at q; omega)
  · exact h2 (fun q => by unfold p_wi at q; omega)
  · exact h1 (by unfold p_wi; omega)
theorem G_Md_isSheet_0 {d : Nat} {x0 : Int32} {w : xWd} {Q : xMV → xWd → Prop} (h : ((p_wi x0 0 3 → Q (xI 1) w) ∧ (¬ (p_wi x0 0 3) → Q (xI 0) w))) : xWp (d + 1) m_Md_isSheet 0 [xI x0] [] w Q := by
  refine x_goN 3 (pc' := 3) (ls' := [xI x0]) (st' := [xI 3, xI 0, xI x0]) (w' := w) rfl ?_
  refine x_call (y := m_Md_within) (as := [xI x0, xI 0, xI 3]) (rst := []) rfl [xI x0, xI 0, xI 3] rfl ?_
  refine S_Md_within (fun c1 => ?_) (fun c1 => ?_)
  · skip
    exact x_ret (P := (1 : Int32) = 0 ∨ (1 : Int32) = 1) rfl (by decide) (h.1 c1)
  · skip
    exact x_ret (P := (0 : Int32) = 0 ∨ (0 : Int32) = 1) rfl (by decide) (h.2 c1)
theorem S_Md_isSheet {d : Nat} {v : Int32} {w : xWd} {Q : xMV → xWd → Prop} (h1 : p_rg v 0 3 → Q (xI 1) w) (h2 : ¬ p_rg v 0 3 → Q (xI 0) w) : xWp (d + 1) m_Md_isSheet 0 [xI v] [] w Q := by
  refine G_Md_isSheet_0 ⟨fun c => h1 ?_, fun c => h2 (fun q => c ?_)⟩
  · unfold p_wi at c; unfold p_rg; rw [e_l0, e_l3] at c; exact c
  · unfold p_rg at q; unfold p_wi; rw [e_l0, e_l3]; exact q
theorem G_Md_isSort_0 {d : Nat} {x0 : Int32} {w : xWd} {Q : xMV → xWd → Prop} (h : ((p_wi x0 0 2 → Q (xI 1) w) ∧ (¬ (p_wi x0 0 2) → Q (xI 0) w))) : xWp (d + 1) m_Md_isSort 0 [xI x0] [] w Q := by
  refine x_goN 3 (pc' := 3) (ls' := [xI x0]) (st' := [xI 2, xI 0, xI x0]) (w' := w) rfl ?_
  refine x_call (y := m_Md_within) (as := [xI x0, xI 0, xI 2]) (rst := []) rfl [xI x0, xI 0, xI 2] rfl ?_
  refine S_Md_within (fun c1 => ?_) (fun c1 => ?_)
  · skip
    exact x_ret (P := (1 : Int32) = 0 ∨ (1 : Int32) = 1) rfl (by decide) (h.1 c1)
  · skip
    exact x_ret (P := (0 : Int32) = 0 ∨ (0 : Int32) = 1) rfl (by decide) (h.2 c1)
theorem S_Md_isSort {d : Nat} {v : Int32} {w : xWd} {Q : xMV → xWd → Prop} (h1 : p_rg v 0 2 → Q (xI 1) w) (h2 : ¬ p_rg v 0 2 → Q (xI 0) w) : xWp (d + 1) m_Md_isSort 0 [xI v] [] w Q := by
  refine G_Md_isSort_0 ⟨fun c => h1 ?_, fun c => h2 (fun q => c ?_)⟩
  · unfold p_wi at c; unfold p_rg; rw [e_l0, e_l2] at c; exact c
  · unfold p_rg at q; unfold p_wi; rw [e_l0, e_l2]; exact q
theorem G_Vp_inSet_0 {d : Nat} {x0 : Int32} {x1 : Int32} {w : xWd} {Q : xMV → xWd → Prop} (h : (((x0 >>> (x1 &&& 31)) &&& 1 = 1 → Q (xI 1) w) ∧ (¬ ((x0 >>> (x1 &&& 31)) &&& 1 = 1) → Q (xI 0) w))) : xWp d m_Vp_inSet 0 [xI x0, xI x1] [] w Q := by
  refine x_goN 7 (pc' := if (x0 >>> (x1 &&& 31)) &&& 1 = 1 then 9 else 13) (ls' := [xI x0, xI x1]) (st' := []) (w' := w) rfl ?_
  refine x_br (fun c1 => ?_) (fun c1 => ?_)
  · skip
    refine x_goN 2 (pc' := 14) (ls' := [xI x0, xI x1]) (st' := [xI 1]) (w' := w) rfl ?_
    exact x_ret (P := (1 : Int32) = 0 ∨ (1 : Int32) = 1) rfl (by decide) (h.1 c1)
  · skip
    refine x_goN 1 (pc' := 14) (ls' := [xI x0, xI x1]) (st' := [xI 0]) (w' := w) rfl ?_
    exact x_ret (P := (0 : Int32) = 0 ∨ (0 : Int32) = 1) rfl (by decide) (h.2 c1)
theorem S_Vp_inSet {d : Nat} {m v : Int32} {w : xWd} {Q : xMV → xWd → Prop} (h1 : p_in m v → Q (xI 1) w) (h2 : ¬ p_in m v → Q (xI 0) w) : xWp d m_Vp_inSet 0 [xI m, xI v] [] w Q := G_Vp_inSet_0 ⟨h1, h2⟩
theorem G_Md_isOf_0 {d : Nat} {x0 : Int32} {x1 : Int32} {w : xWd} {Q : xMV → xWd → Prop} (h : (((x0 >>> (x1 &&& 31)) &&& 1 = 1 → Q (xI 1) w) ∧ (¬ ((x0 >>> (x1 &&& 31)) &&& 1 = 1) → Q (xI 0) w))) : xWp d m_Md_isOf 0 [xI x0, xI x1] [] w Q := by
  refine x_goN 7 (pc' := if (x0 >>> (x1 &&& 31)) &&& 1 = 1 then 9 else 13) (ls' := [xI x0, xI x1]) (st' := []) (w' := w) rfl ?_
  refine x_br (fun c1 => ?_) (fun c1 => ?_)
  · skip
    refine x_goN 2 (pc' := 14) (ls' := [xI x0, xI x1]) (st' := [xI 1]) (w' := w) rfl ?_
    exact x_ret (P := (1 : Int32) = 0 ∨ (1 : Int32) = 1) rfl (by decide) (h.1 c1)
  · skip
    refine x_goN 1 (pc' := 14) (ls' := [xI x0, xI x1]) (st' := [xI 0]) (w' := w) rfl ?_
    exact x_ret (P := (0 : Int32) = 0 ∨ (0 : Int32) = 1) rfl (by decide) (h.2 c1)
theorem S_Md_isOf {d : Nat} {m v : Int32} {w : xWd} {Q : xMV → xWd → Prop} (h1 : p_in m v → Q (xI 1) w) (h2 : ¬ p_in m v → Q (xI 0) w) : xWp d m_Md_isOf 0 [xI m, xI v] [] w Q := G_Md_isOf_0 ⟨h1, h2⟩
theorem G_Tr_isLine_0 {d : Nat} {a0 : Nat} {x1 : Int32} {w : xWd} {Q : xMV → xWd → Prop} (h : ((x1 < 0 → Q (xI 0) w) ∧ (¬ (x1 < 0) → ((w a0 8 ≤ x1 → Q (xI 0) w) ∧ (¬ (w a0 8 ≤ x1) → Q (xI 1) w))))) : xWp d m_Tr_isLine 0 [xA 5 a0, xI x1] [] w Q := by
  refine x_goN 2 (pc' := if x1 < 0 then 16 else 4) (ls' := [xA 5 a0, xI x1]) (st' := []) (w' := w) rfl ?_
  refine x_br (fun c1 => ?_) (fun c1 => ?_)
  · skip
    refine x_goN 1 (pc' := 17) (ls' := [xA 5 a0, xI x1]) (st' := [xI 0]) (w' := w) rfl ?_
    exact x_ret (P := (0 : Int32) = 0 ∨ (0 : Int32) = 1) rfl (by decide) (h.1 c1)
  · skip
    refine x_goN 4 (pc' := if w a0 8 ≤ x1 then 16 else 12) (ls' := [xA 5 a0, xI x1]) (st' := []) (w' := w) rfl ?_
    refine x_br (fun c2 => ?_) (fun c2 => ?_)
    · skip
      refine x_goN 1 (pc' := 17) (ls' := [xA 5 a0, xI x1]) (st' := [xI 0]) (w' := w) rfl ?_
      exact x_ret (P := (0 : Int32) = 0 ∨ (0 : Int32) = 1) rfl (by decide) ((h.2 c1).1 c2)
    · skip
      refine x_goN 2 (pc' := 17) (ls' := [xA 5 a0, xI x1]) (st' := [xI 1]) (w' := w) rfl ?_
      exact x_ret (P := (1 : Int32) = 0 ∨ (1 : Int32) = 1) rfl (by decide) ((h.2 c1).2 c2)
theorem S_Tr_isLine {d t : Nat} {v : Int32} {w : xWd} {Q : xMV → xWd → Prop} (h1 : p_lt v (w t 8) → Q (xI 1) w) (h2 : ¬ p_lt v (w t 8) → Q (xI 0) w) : xWp d m_Tr_isLine 0 [xA 5 t, xI v] [] w Q := by
  refine G_Tr_isLine_0 ⟨fun c => ?_, fun c => ⟨fun c2 => ?_, fun c2 => ?_⟩⟩ <;> simp only [fa_lt, fa_le, e_l0] at *
  · exact h2 (fun q => by unfold p_lt at q; omega)
  · exact h2 (fun q => by unfold p_lt at q; omega)
  · exact h1 (by unfold p_lt; omega)
theorem G_Md_isLine_0 {d : Nat} {x1 : Int32} {w : xWd} {Q : xMV → xWd → Prop} (h : ((x1 < 0 → Q (xI 0) w) ∧ (¬ (x1 < 0) → ((w 2 5 ≤ x1 → Q (xI 0) w) ∧ (¬ (w 2 5 ≤ x1) → Q (xI 1) w))))) : xWp d m_Md_isLine 0 [xA 7 2, xI x1] [] w Q := by
  refine x_goN 2 (pc' := if x1 < 0 then 16 else 4) (ls' := [xA 7 2, xI x1]) (st' := []) (w' := w) rfl ?_
  refine x_br (fun c1 => ?_) (fun c1 => ?_)
  · skip
    refine x_goN 1 (pc' := 17) (ls' := [xA 7 2, xI x1]) (st' := [xI 0]) (w' := w) rfl ?_
    exact x_ret (P := (0 : Int32) = 0 ∨ (0 : Int32) = 1) rfl (by decide) (h.1 c1)
  · skip
    refine x_goN 4 (pc' := if w 2 5 ≤ x1 then 16 else 12) (ls' := [xA 7 2, xI x1]) (st' := []) (w' := w) rfl ?_
    refine x_br (fun c2 => ?_) (fun c2 => ?_)
    · skip
      refine x_goN 1 (pc' := 17) (ls' := [xA 7 2, xI x1]) (st' := [xI 0]) (w' := w) rfl ?_
      exact x_ret (P := (0 : Int32) = 0 ∨ (0 : Int32) = 1) rfl (by decide) ((h.2 c1).1 c2)
    · skip
      refine x_goN 2 (pc' := 17) (ls' := [xA 7 2, xI x1]) (st' := [xI 1]) (w' := w) rfl ?_
      exact x_ret (P := (1 : Int32) = 0 ∨ (1 : Int32) = 1) rfl (by decide) ((h.2 c1).2 c2)
theorem S_Md_isLine {d : Nat} {v : Int32} {w : xWd} {Q : xMV → xWd → Prop} (h1 : p_lt v (w 2 5) → Q (xI 1) w) (h2 : ¬ p_lt v (w 2 5) → Q (xI 0) w) : xWp d m_Md_isLine 0 [xA 7 2, xI v] [] w Q := by
  refine G_Md_isLine_0 ⟨fun c => ?_, fun c => ⟨fun c2 => ?_, fun c2 => ?_⟩⟩ <;> simp only [fa_lt, fa_le, e_l0] at *
  · exact h2 (fun q => by unfold p_lt at q; omega)
  · exact h2 (fun q => by unfold p_lt at q; omega)
  · exact h1 (by unfold p_lt; omega)
theorem G_Sh_hasCells_0 {d : Nat} {a0 : Nat} {x1 : Int32} {x2 : Int32} {w : xWd} {Q : xMV → xWd → Prop} (h : ((x2 < 0 → Q (xI 0) w) ∧ (¬ (x2 < 0) → ((x1 < 0 → Q (xI 0) w) ∧ (¬ (x1 < 0) → ((w a0 3 < x2 → Q (xI 0) w) ∧ (¬ (w a0 3 < x2) → (((w a0 3) - x2 < x1 → Q (xI 0) w) ∧ (¬ ((w a0 3) - x2 < x1) → Q (xI 1) w))))))))) : xWp d m_Sh_hasCells 0 [xA 3 a0, xI x1, xI x2] [] w Q := by
  refine x_goN 2 (pc' := if x2 < 0 then 30 else 4) (ls' := [xA 3 a0, xI x1, xI x2]) (st' := []) (w' := w) rfl ?_
  refine x_br (fun c1 => ?_) (fun c1 => ?_)
  · skip
    refine x_goN 1 (pc' := 31) (ls' := [xA 3 a0, xI x1, xI x2]) (st' := [xI 0]) (w' := w) rfl ?_
    exact x_ret (P := (0 : Int32) = 0 ∨ (0 : Int32) = 1) rfl (by decide) (h.1 c1)
  · skip
    refine x_goN 2 (pc' := if x1 < 0 then 30 else 8) (ls' := [xA 3 a0, xI x1, xI x2]) (st' := []) (w' := w) rfl ?_
    refine x_br (fun c2 => ?_) (fun c2 => ?_)
    · skip
      refine x_goN 1 (pc' := 31) (ls' := [xA 3 a0, xI x1, xI x2]) (st' := [xI 0]) (w' := w) rfl ?_
      exact x_ret (P := (0 : Int32) = 0 ∨ (0 : Int32) = 1) rfl (by decide) ((h.2 c1).1 c2)
    · skip
      refine x_goN 4 (pc' := if w a0 3 < x2 then 30 else 16) (ls' := [xA 3 a0, xI x1, xI x2]) (st' := []) (w' := w) rfl ?_
      refine x_br (fun c3 => ?_) (fun c3 => ?_)
      · skip
        refine x_goN 1 (pc' := 31) (ls' := [xA 3 a0, xI x1, xI x2]) (st' := [xI 0]) (w' := w) rfl ?_
        exact x_ret (P := (0 : Int32) = 0 ∨ (0 : Int32) = 1) rfl (by decide) (((h.2 c1).2 c2).1 c3)
      · skip
        refine x_goN 6 (pc' := if (w a0 3) - x2 < x1 then 30 else 26) (ls' := [xA 3 a0, xI x1, xI x2]) (st' := []) (w' := w) rfl ?_
        refine x_br (fun c4 => ?_) (fun c4 => ?_)
        · skip
          refine x_goN 1 (pc' := 31) (ls' := [xA 3 a0, xI x1, xI x2]) (st' := [xI 0]) (w' := w) rfl ?_
          exact x_ret (P := (0 : Int32) = 0 ∨ (0 : Int32) = 1) rfl (by decide) ((((h.2 c1).2 c2).2 c3).1 c4)
        · skip
          refine x_goN 2 (pc' := 31) (ls' := [xA 3 a0, xI x1, xI x2]) (st' := [xI 1]) (w' := w) rfl ?_
          exact x_ret (P := (1 : Int32) = 0 ∨ (1 : Int32) = 1) rfl (by decide) ((((h.2 c1).2 c2).2 c3).2 c4)
theorem S_Sh_hasCells {d t : Nat} {i n : Int32} {w : xWd} {Q : xMV → xWd → Prop} (h1 : p_hc (w t 3) i n → Q (xI 1) w) (h2 : ¬ p_hc (w t 3) i n → Q (xI 0) w) : xWp d m_Sh_hasCells 0 [xA 3 t, xI i, xI n] [] w Q := by
  refine G_Sh_hasCells_0 ⟨fun c => ?_, fun c => ⟨fun c2 => ?_, fun c2 => ⟨fun c3 => ?_, fun c3 => ⟨fun c4 => ?_, fun c4 => ?_⟩⟩⟩⟩ <;> simp only [fa_lt, fa_le, e_l0] at *
  · exact h2 (fun q => by unfold p_hc at q; omega)
  · exact h2 (fun q => by unfold p_hc at q; omega)
  · exact h2 (fun q => by unfold p_hc at q; omega)
  · exact h2 (fun q => by unfold p_hc at q; omega)
  · exact h1 (by unfold p_hc; omega)
theorem G_Vp_faulty_0 {d : Nat} {x1 : Int32} {w : xWd} {Q : xMV → xWd → Prop} (h : (∀ w1 : xWd, w1 = x_set w 1 8 x1 → Q (xI ((-10) - x1)) w1)) : xWp d m_Vp_faulty 0 [xA 6 1, xI x1] [] w Q := by
  refine x_goN 2 (pc' := 2) (ls' := [xA 6 1, xI x1]) (st' := [xI x1, xA 6 1]) (w' := w) rfl ?_
  refine x_goW (pc' := 5) (ls' := [xA 6 1, xI x1]) (st' := []) (w' := x_set w 1 8 x1) rfl (fun w1 ew1 => ?_)
  refine x_goN 3 (pc' := 9) (ls' := [xA 6 1, xI x1]) (st' := [xI ((-10) - x1)]) (w' := w1) rfl ?_
  exact x_ret (P := True) rfl trivial (h w1 ew1)
theorem S_Vp_faulty {d : Nat} {v : Int32} {w : xWd} {Q : xMV → xWd → Prop} (h : ∀ w1, w1 = x_set w 1 8 v → Q (xI ((-10) - v)) w1) : xWp d m_Vp_faulty 0 [xA 6 1, xI v] [] w Q := G_Vp_faulty_0 h
theorem G_Md_fails_0 {d : Nat} {x1 : Int32} {w : xWd} {Q : xMV → xWd → Prop} (h : (∀ w1 : xWd, w1 = x_set w 2 0 x1 → Q (xI ((-10) - x1)) w1)) : xWp d m_Md_fails 0 [xA 7 2, xI x1] [] w Q := by
  refine x_goN 2 (pc' := 2) (ls' := [xA 7 2, xI x1]) (st' := [xI x1, xA 7 2]) (w' := w) rfl ?_
  refine x_goW (pc' := 5) (ls' := [xA 7 2, xI x1]) (st' := []) (w' := x_set w 2 0 x1) rfl (fun w1 ew1 => ?_)
  refine x_goN 3 (pc' := 9) (ls' := [xA 7 2, xI x1]) (st' := [xI ((-10) - x1)]) (w' := w1) rfl ?_
  exact x_ret (P := True) rfl trivial (h w1 ew1)
theorem S_Md_fails {d : Nat} {v : Int32} {w : xWd} {Q : xMV → xWd → Prop} (h : ∀ w1, w1 = x_set w 2 0 v → Q (xI ((-10) - v)) w1) : xWp d m_Md_fails 0 [xA 7 2, xI v] [] w Q := G_Md_fails_0 h
theorem G_Md_lost_0 {d : Nat} {x1 : Int32} {w : xWd} {Q : xMV → xWd → Prop} (h : (∀ w1 : xWd, w1 = x_set w 2 0 x1 → Q (xJ (-9223372036854775808)) w1)) : xWp d m_Md_lost 0 [xA 7 2, xI x1] [] w Q := by
  refine x_goN 2 (pc' := 2) (ls' := [xA 7 2, xI x1]) (st' := [xI x1, xA 7 2]) (w' := w) rfl ?_
  refine x_goW (pc' := 5) (ls' := [xA 7 2, xI x1]) (st' := []) (w' := x_set w 2 0 x1) rfl (fun w1 ew1 => ?_)
  refine x_goN 1 (pc' := 8) (ls' := [xA 7 2, xI x1]) (st' := [xJ (-9223372036854775808)]) (w' := w1) rfl ?_
  exact x_ret (P := True) rfl trivial (h w1 ew1)
theorem S_Md_lost {d : Nat} {v : Int32} {w : xWd} {Q : xMV → xWd → Prop} (h : ∀ w1, w1 = x_set w 2 0 v → Q (xJ (-9223372036854775808)) w1) : xWp d m_Md_lost 0 [xA 7 2, xI v] [] w Q := G_Md_lost_0 h
theorem G_Vp_leaveInTrace_0 {d : Nat} {x1 : Int32} {w : xWd} {Q : xMV → xWd → Prop} (h : (∀ w1 : xWd, w1 = x_set w 1 7 ((31 * (w 1 7)) + x1) → Q xU w1)) : xWp d m_Vp_leaveInTrace 0 [xA 6 1, xI x1] [] w Q := by
  refine x_goN 7 (pc' := 10) (ls' := [xA 6 1, xI x1]) (st' := [xI ((31 * (w 1 7)) + x1), xA 6 1]) (w' := w) rfl ?_
  refine x_goW (pc' := 13) (ls' := [xA 6 1, xI x1]) (st' := []) (w' := x_set w 1 7 ((31 * (w 1 7)) + x1)) rfl (fun w1 ew1 => ?_)
  exact x_ret (P := True) rfl trivial (h w1 ew1)
theorem S_Vp_leaveInTrace {d : Nat} {v : Int32} {w : xWd} {Q : xMV → xWd → Prop} (h : ∀ w1, w1 = x_set w 1 7 (31 * w 1 7 + v) → Q xU w1) : xWp d m_Vp_leaveInTrace 0 [xA 6 1, xI v] [] w Q := G_Vp_leaveInTrace_0 h
theorem G_Md_begins_0 {d : Nat} {x1 : Int32} {w : xWd} {Q : xMV → xWd → Prop} (h : (∀ w1 : xWd, w1 = x_set w 2 1 ((31 * (w 2 1)) + x1) → Q xU w1)) : xWp d m_Md_begins 0 [xA 7 2, xI x1] [] w Q := by
  refine x_goN 7 (pc' := 10) (ls' := [xA 7 2, xI x1]) (st' := [xI ((31 * (w 2 1)) + x1), xA 7 2]) (w' := w) rfl ?_
  refine x_goW (pc' := 13) (ls' := [xA 7 2, xI x1]) (st' := []) (w' := x_set w 2 1 ((31 * (w 2 1)) + x1)) rfl (fun w1 ew1 => ?_)
  exact x_ret (P := True) rfl trivial (h w1 ew1)
theorem S_Md_begins {d : Nat} {v : Int32} {w : xWd} {Q : xMV → xWd → Prop} (h : ∀ w1, w1 = x_set w 2 1 (31 * w 2 1 + v) → Q xU w1) : xWp d m_Md_begins 0 [xA 7 2, xI v] [] w Q := G_Md_begins_0 h
theorem G_Vp_isNumbered_0 {d : Nat} {x0 : Int32} {x1 : Int32} {w : xWd} {Q : xMV → xWd → Prop} (h : ((x0 < 10 → Q (xI 0) w) ∧ (¬ (x0 < 10) → ((10 + x1 ≤ x0 → Q (xI 0) w) ∧ (¬ (10 + x1 ≤ x0) → Q (xI 1) w))))) : xWp d m_Vp_isNumbered 0 [xI x0, xI x1] [] w Q := by
  refine x_goN 3 (pc' := if x0 < 10 then 18 else 6) (ls' := [xI x0, xI x1]) (st' := []) (w' := w) rfl ?_
  refine x_br (fun c1 => ?_) (fun c1 => ?_)
  · skip
    refine x_goN 1 (pc' := 19) (ls' := [xI x0, xI x1]) (st' := [xI 0]) (w' := w) rfl ?_
    exact x_ret (P := (0 : Int32) = 0 ∨ (0 : Int32) = 1) rfl (by decide) (h.1 c1)
  · skip
    refine x_goN 5 (pc' := if 10 + x1 ≤ x0 then 18 else 14) (ls' := [xI x0, xI x1]) (st' := []) (w' := w) rfl ?_
    refine x_br (fun c2 => ?_) (fun c2 => ?_)
    · skip
      refine x_goN 1 (pc' := 19) (ls' := [xI x0, xI x1]) (st' := [xI 0]) (w' := w) rfl ?_
      exact x_ret (P := (0 : Int32) = 0 ∨ (0 : Int32) = 1) rfl (by decide) ((h.2 c1).1 c2)
    · skip
      refine x_goN 2 (pc' := 19) (ls' := [xI x0, xI x1]) (st' := [xI 1]) (w' := w) rfl ?_
      exact x_ret (P := (1 : Int32) = 0 ∨ (1 : Int32) = 1) rfl (by decide) ((h.2 c1).2 c2)
/-- a question's number: 0 .. a, or 10 .. b -/
def p_qn (v : Int32) (a b : Int) : Prop := (0 ≤ v.toInt ∧ v.toInt ≤ a) ∨ (10 ≤ v.toInt ∧ v.toInt ≤ b)
def p_q4 (v : Int32) : Prop := p_qn v 4 17
def p_q2 (v : Int32) : Prop := p_qn v 2 17
def p_q1 (v : Int32) : Prop := p_qn v 1 29
theorem S_Vp_isNumbered {d m : Nat} (hm : m ≤ 100) {v x : Int32} (hx : x = nI m) {w : xWd} {Q : xMV → xWd → Prop} (h1 : 10 ≤ v.toInt ∧ v.toInt < 10 + m → Q (xI 1) w) (h2 : ¬ (10 ≤ v.toInt ∧ v.toInt < 10 + m) → Q (xI 0) w) : xWp d m_Vp_isNumbered 0 [xI v, xI x] [] w Q := by
  have e : (10 + x).toInt = 10 + (m : Int) := by
    rw [hx, show (10 : Int32) + nI m = nI (10 + m) from nI_add 10 m, nI_toInt (by omega)]; omega
  refine G_Vp_isNumbered_0 ⟨fun c => ?_, fun c => ⟨fun c2 => ?_, fun c2 => ?_⟩⟩ <;> simp only [fa_lt, fa_le, e_l10, e] at *
  · exact h2 (fun q => by omega)
  · exact h2 (fun q => by omega)
  · exact h1 (by omega)
theorem G_Vp_isDayQuestion_0 {d : Nat} {x0 : Int32} {w : xWd} {Q : xMV → xWd → Prop} (h : ((x0 < 0 → xWp d m_Vp_isNumbered 0 [xI x0, xI 8] [] w (fun a w' => xWp (d + 1) m_Vp_isDayQuestion 15 [xI x0] (x_pu a []) w' Q)) ∧ (¬ (x0 < 0) → ((x0 ≤ 4 → Q (xI 1) w) ∧ (¬ (x0 ≤ 4) → xWp d m_Vp_isNumbered 0 [xI x0, xI 8] [] w (fun a w' => xWp (d + 1) m_Vp_isDayQuestion 15 [xI x0] (x_pu a []) w' Q)))))) : xWp (d + 1) m_Vp_isDayQuestion 0 [xI x0] [] w Q := by
  refine x_goN 2 (pc' := if x0 < 0 then 9 else 4) (ls' := [xI x0]) (st' := []) (w' := w) rfl ?_
  refine x_br (fun c1 => ?_) (fun c1 => ?_)
  · skip
    refine x_goN 2 (pc' := 12) (ls' := [xI x0]) (st' := [xI 8, xI x0]) (w' := w) rfl ?_
    refine x_call (y := m_Vp_isNumbered) (as := [xI x0, xI 8]) (rst := []) rfl [xI x0, xI 8] rfl ?_
    exact (h.1 c1)
  · skip
    refine x_goN 3 (pc' := if x0 ≤ 4 then 18 else 9) (ls' := [xI x0]) (st' := []) (w' := w) rfl ?_
    refine x_br (fun c2 => ?_) (fun c2 => ?_)
    · skip
      refine x_goN 2 (pc' := 23) (ls' := [xI x0]) (st' := [xI 1]) (w' := w) rfl ?_
      exact x_ret (P := (1 : Int32) = 0 ∨ (1 : Int32) = 1) rfl (by decide) ((h.2 c1).1 c2)
    · skip
      refine x_goN 2 (pc' := 12) (ls' := [xI x0]) (st' := [xI 8, xI x0]) (w' := w) rfl ?_
      refine x_call (y := m_Vp_isNumbered) (as := [xI x0, xI 8]) (rst := []) rfl [xI x0, xI 8] rfl ?_
      exact ((h.2 c1).2 c2)
theorem G_Vp_isDayQuestion_15 {d : Nat} {x0 : Int32} {s0 : Int32} {w : xWd} {Q : xMV → xWd → Prop} (h : ((s0 = 0 → Q (xI 0) w) ∧ (¬ (s0 = 0) → Q (xI 1) w))) : xWp (d + 1) m_Vp_isDayQuestion 15 [xI x0] [xI s0] w Q := by
  refine x_goN 1 (pc' := if s0 = 0 then 22 else 18) (ls' := [xI x0]) (st' := []) (w' := w) rfl ?_
  refine x_br (fun c1 => ?_) (fun c1 => ?_)
  · skip
    refine x_goN 1 (pc' := 23) (ls' := [xI x0]) (st' := [xI 0]) (w' := w) rfl ?_
    exact x_ret (P := (0 : Int32) = 0 ∨ (0 : Int32) = 1) rfl (by decide) (h.1 c1)
  · skip
    refine x_goN 2 (pc' := 23) (ls' := [xI x0]) (st' := [xI 1]) (w' := w) rfl ?_
    exact x_ret (P := (1 : Int32) = 0 ∨ (1 : Int32) = 1) rfl (by decide) (h.2 c1)
theorem S_Vp_isDayQuestion {d : Nat} {v : Int32} {w : xWd} {Q : xMV → xWd → Prop} (h1 : p_q4 v → Q (xI 1) w) (h2 : ¬ p_q4 v → Q (xI 0) w) : xWp (d + 1) m_Vp_isDayQuestion 0 [xI v] [] w Q := by
  have fin : (v.toInt < 0 ∨ 4 < v.toInt) → xWp d m_Vp_isNumbered 0 [xI v, xI 8] [] w (fun a w' => xWp (d + 1) m_Vp_isDayQuestion 15 [xI v] (x_pu a []) w' Q) := fun c => by
    refine S_Vp_isNumbered (m := 8) (by decide) rfl (fun q => ?_) (fun q => ?_)
    · exact G_Vp_isDayQuestion_15 ⟨fun c => absurd c (by decide), fun _ => h1 (Or.inr (by omega))⟩
    · exact G_Vp_isDayQuestion_15 ⟨fun _ => h2 (fun r => by unfold p_q4 p_qn at r; omega), fun c => absurd rfl c⟩
  refine G_Vp_isDayQuestion_0 ⟨fun c => ?_, fun c => ⟨fun c2 => ?_, fun c2 => ?_⟩⟩ <;> simp only [fa_lt, fa_le, e_l0, e_l4] at c
  · exact fin (by omega)
  · exact h1 (Or.inl ⟨by omega, by simpa only [fa_le, e_l4] using c2⟩)
  · exact fin (Or.inr (by simp only [fa_le, e_l4] at c2; omega))
theorem G_Vp_isHoldQuestion_0 {d : Nat} {x0 : Int32} {w : xWd} {Q : xMV → xWd → Prop} (h : ((x0 < 0 → xWp d m_Vp_isNumbered 0 [xI x0, xI 8] [] w (fun a w' => xWp (d + 1) m_Vp_isHoldQuestion 15 [xI x0] (x_pu a []) w' Q)) ∧ (¬ (x0 < 0) → ((x0 ≤ 2 → Q (xI 1) w) ∧ (¬ (x0 ≤ 2) → xWp d m_Vp_isNumbered 0 [xI x0, xI 8] [] w (fun a w' => xWp (d + 1) m_Vp_isHoldQuestion 15 [xI x0] (x_pu a []) w' Q)))))) : xWp (d + 1) m_Vp_isHoldQuestion 0 [xI x0] [] w Q := by
  refine x_goN 2 (pc' := if x0 < 0 then 9 else 4) (ls' := [xI x0]) (st' := []) (w' := w) rfl ?_
  refine x_br (fun c1 => ?_) (fun c1 => ?_)
  · skip
    refine x_goN 2 (pc' := 12) (ls' := [xI x0]) (st' := [xI 8, xI x0]) (w' := w) rfl ?_
    refine x_call (y := m_Vp_isNumbered) (as := [xI x0, xI 8]) (rst := []) rfl [xI x0, xI 8] rfl ?_
    exact (h.1 c1)
  · skip
    refine x_goN 3 (pc' := if x0 ≤ 2 then 18 else 9) (ls' := [xI x0]) (st' := []) (w' := w) rfl ?_
    refine x_br (fun c2 => ?_) (fun c2 => ?_)
    · skip
      refine x_goN 2 (pc' := 23) (ls' := [xI x0]) (st' := [xI 1]) (w' := w) rfl ?_
      exact x_ret (P := (1 : Int32) = 0 ∨ (1 : Int32) = 1) rfl (by decide) ((h.2 c1).1 c2)
    · skip
      refine x_goN 2 (pc' := 12) (ls' := [xI x0]) (st' := [xI 8, xI x0]) (w' := w) rfl ?_
      refine x_call (y := m_Vp_isNumbered) (as := [xI x0, xI 8]) (rst := []) rfl [xI x0, xI 8] rfl ?_
      exact ((h.2 c1).2 c2)
theorem G_Vp_isHoldQuestion_15 {d : Nat} {x0 : Int32} {s0 : Int32} {w : xWd} {Q : xMV → xWd → Prop} (h : ((s0 = 0 → Q (xI 0) w) ∧ (¬ (s0 = 0) → Q (xI 1) w))) : xWp (d + 1) m_Vp_isHoldQuestion 15 [xI x0] [xI s0] w Q := by
  refine x_goN 1 (pc' := if s0 = 0 then 22 else 18) (ls' := [xI x0]) (st' := []) (w' := w) rfl ?_
  refine x_br (fun c1 => ?_) (fun c1 => ?_)
  · skip
    refine x_goN 1 (pc' := 23) (ls' := [xI x0]) (st' := [xI 0]) (w' := w) rfl ?_
    exact x_ret (P := (0 : Int32) = 0 ∨ (0 : Int32) = 1) rfl (by decide) (h.1 c1)
  · skip
    refine x_goN 2 (pc' := 23) (ls' := [xI x0]) (st' := [xI 1]) (w' := w) rfl ?_
    exact x_ret (P := (1 : Int32) = 0 ∨ (1 : Int32) = 1) rfl (by decide) (h.2 c1)
theorem S_Vp_isHoldQuestion {d : Nat} {v : Int32} {w : xWd} {Q : xMV → xWd → Prop} (h1 : p_q2 v → Q (xI 1) w) (h2 : ¬ p_q2 v → Q (xI 0) w) : xWp (d + 1) m_Vp_isHoldQuestion 0 [xI v] [] w Q := by
  have fin : (v.toInt < 0 ∨ 2 < v.toInt) → xWp d m_Vp_isNumbered 0 [xI v, xI 8] [] w (fun a w' => xWp (d + 1) m_Vp_isHoldQuestion 15 [xI v] (x_pu a []) w' Q) := fun c => by
    refine S_Vp_isNumbered (m := 8) (by decide) rfl (fun q => ?_) (fun q => ?_)
    · exact G_Vp_isHoldQuestion_15 ⟨fun c => absurd c (by decide), fun _ => h1 (Or.inr (by omega))⟩
    · exact G_Vp_isHoldQuestion_15 ⟨fun _ => h2 (fun r => by unfold p_q2 p_qn at r; omega), fun c => absurd rfl c⟩
  refine G_Vp_isHoldQuestion_0 ⟨fun c => ?_, fun c => ⟨fun c2 => ?_, fun c2 => ?_⟩⟩ <;> simp only [fa_lt, fa_le, e_l0] at c
  · exact fin (by omega)
  · exact h1 (Or.inl ⟨by omega, by simpa only [fa_le, e_l2] using c2⟩)
  · exact fin (Or.inr (by simp only [fa_le, e_l2] at c2; omega))
theorem G_Vp_isCopiesQuestion_0 {d : Nat} {x0 : Int32} {w : xWd} {Q : xMV → xWd → Prop} (h : ((x0 = 0 → Q (xI 1) w) ∧ (¬ (x0 = 0) → ((x0 = 1 → Q (xI 1) w) ∧ (¬ (x0 = 1) → xWp d m_Vp_isNumbered 0 [xI x0, xI 20] [] w (fun a w' => xWp (d + 1) m_Vp_isCopiesQuestion 15 [xI x0] (x_pu a []) w' Q)))))) : xWp (d + 1) m_Vp_isCopiesQuestion 0 [xI x0] [] w Q := by
  refine x_goN 2 (pc' := if x0 = 0 then 18 else 4) (ls' := [xI x0]) (st' := []) (w' := w) rfl ?_
  refine x_br (fun c1 => ?_) (fun c1 => ?_)
  · skip
    refine x_goN 2 (pc' := 23) (ls' := [xI x0]) (st' := [xI 1]) (w' := w) rfl ?_
    exact x_ret (P := (1 : Int32) = 0 ∨ (1 : Int32) = 1) rfl (by decide) (h.1 c1)
  · skip
    refine x_goN 3 (pc' := if x0 = 1 then 18 else 9) (ls' := [xI x0]) (st' := []) (w' := w) rfl ?_
    refine x_br (fun c2 => ?_) (fun c2 => ?_)
    · skip
      refine x_goN 2 (pc' := 23) (ls' := [xI x0]) (st' := [xI 1]) (w' := w) rfl ?_
      exact x_ret (P := (1 : Int32) = 0 ∨ (1 : Int32) = 1) rfl (by decide) ((h.2 c1).1 c2)
    · skip
      refine x_goN 2 (pc' := 12) (ls' := [xI x0]) (st' := [xI 20, xI x0]) (w' := w) rfl ?_
      refine x_call (y := m_Vp_isNumbered) (as := [xI x0, xI 20]) (rst := []) rfl [xI x0, xI 20] rfl ?_
      exact ((h.2 c1).2 c2)
theorem G_Vp_isCopiesQuestion_15 {d : Nat} {x0 : Int32} {s0 : Int32} {w : xWd} {Q : xMV → xWd → Prop} (h : ((s0 = 0 → Q (xI 0) w) ∧ (¬ (s0 = 0) → Q (xI 1) w))) : xWp (d + 1) m_Vp_isCopiesQuestion 15 [xI x0] [xI s0] w Q := by
  refine x_goN 1 (pc' := if s0 = 0 then 22 else 18) (ls' := [xI x0]) (st' := []) (w' := w) rfl ?_
  refine x_br (fun c1 => ?_) (fun c1 => ?_)
  · skip
    refine x_goN 1 (pc' := 23) (ls' := [xI x0]) (st' := [xI 0]) (w' := w) rfl ?_
    exact x_ret (P := (0 : Int32) = 0 ∨ (0 : Int32) = 1) rfl (by decide) (h.1 c1)
  · skip
    refine x_goN 2 (pc' := 23) (ls' := [xI x0]) (st' := [xI 1]) (w' := w) rfl ?_
    exact x_ret (P := (1 : Int32) = 0 ∨ (1 : Int32) = 1) rfl (by decide) (h.2 c1)
theorem S_Vp_isCopiesQuestion {d : Nat} {v : Int32} {w : xWd} {Q : xMV → xWd → Prop} (h1 : p_q1 v → Q (xI 1) w) (h2 : ¬ p_q1 v → Q (xI 0) w) : xWp (d + 1) m_Vp_isCopiesQuestion 0 [xI v] [] w Q := by
  refine G_Vp_isCopiesQuestion_0 ⟨fun c => ?_, fun c => ⟨fun c2 => ?_, fun c2 => ?_⟩⟩
  · exact h1 (Or.inl (by rw [c, e_l0]; omega))
  · exact h1 (Or.inl (by rw [c2, e_l1]; omega))
  · rw [fa_eq, e_l0] at c
    rw [fa_eq, e_l1] at c2
    refine S_Vp_isNumbered (m := 20) (by decide) rfl (fun q => ?_) (fun q => ?_)
    · exact G_Vp_isCopiesQuestion_15 ⟨fun c => absurd c (by decide), fun _ => h1 (Or.inr (by omega))⟩
    · exact G_Vp_isCopiesQuestion_15 ⟨fun _ => h2 (fun r => by unfold p_q1 p_qn at r; omega), fun c => absurd rfl c⟩
def v_us (x : Int32) (k : Int32) : Int32 := (x.toUInt32 >>> (k.toUInt32 &&& Int32.toUInt32 31)).toInt32
def v_bc1 (x : Int32) : Int32 := x - (v_us x 1 &&& 1431655765)
def v_bc2 (x : Int32) : Int32 := (x &&& 858993459) + (v_us x 2 &&& 858993459)
def v_bc3 (x : Int32) : Int32 := (x + v_us x 4) &&& 252645135
def v_bc4 (x : Int32) : Int32 := x + v_us x 8
def v_bc5 (x : Int32) : Int32 := (x + v_us x 16) &&& 63
def v_bc (x : Int32) : Int32 := v_bc5 (v_bc4 (v_bc3 (v_bc2 (v_bc1 x))))
theorem v_bc_ok : ∀ m, m < 256 → v_bc (nI m) = nI (z_pc m) := by decide +kernel
theorem S_Jn_bitCount {d : Nat} {x : Int32} {w : xWd} {Q : xMV → xWd → Prop} (h : Q (xI (v_bc x)) w) : xWp d m_Jn_bitCount 0 [xI x] [] w Q := by
  refine x_goN 8 (pc' := 10) (ls' := [xI (v_bc1 x)]) (st' := []) (w' := w) rfl ?_
  refine x_goN 10 (pc' := 24) (ls' := [xI (v_bc2 (v_bc1 x))]) (st' := []) (w' := w) rfl ?_
  refine x_goN 8 (pc' := 34) (ls' := [xI (v_bc3 (v_bc2 (v_bc1 x)))]) (st' := []) (w' := w) rfl ?_
  refine x_goN 6 (pc' := 41) (ls' := [xI (v_bc4 (v_bc3 (v_bc2 (v_bc1 x))))]) (st' := []) (w' := w) rfl ?_
  refine x_goN 9 (pc' := 52) (ls' := [xI (v_bc4 (v_bc3 (v_bc2 (v_bc1 x))) + v_us (v_bc4 (v_bc3 (v_bc2 (v_bc1 x)))) 16)]) (st' := [xI (v_bc x)]) (w' := w) rfl ?_
  exact x_ret (P := True) rfl trivial h
/-- the least number that is not in a set, from k on -/
def z_lzf (m : Nat) : Nat → Nat → Nat
  | 0, k => k
  | f + 1, k => if m.testBit k then z_lzf m f (k + 1) else k
def z_lz (m : Nat) : Nat := z_lzf m 8 0
def z_tzf (m : Nat) : Nat → Nat → Nat
  | 0, k => k
  | f + 1, k => if m.testBit k then k else z_tzf m f (k + 1)
def z_tz (m : Nat) : Nat := z_tzf m 8 0
theorem z_lz_ok : ∀ m, m < 256 → ((nI m ^^^ (-1)) ^^^ (-1)) &&& ((nI m ^^^ (-1)) - 1) = nI (2 ^ z_lz m - 1) ∧ z_lz m ≤ 8 := by decide +kernel
theorem z_tz_ok : ∀ m, m < 256 → m ≠ 0 → (nI m ^^^ (-1)) &&& (nI m - 1) = nI (2 ^ z_tz m - 1) ∧ z_tz m < 8 := by decide +kernel
theorem S8_tz_0 {d : Nat} {w : xWd} {Q : xMV → xWd → Prop} (h : Q (xI 0) w) : xWp d m_Jn_numberOfTrailingZeros 8 [xI 0, xU] [] w Q := by
  refine x_goN 5 (pc' := 16) (ls' := [xI 0, xU]) (st' := [xI 0]) (w' := w) rfl ?_
  exact x_ret (P := True) rfl trivial h
theorem S8_tz_1 {d : Nat} {w : xWd} {Q : xMV → xWd → Prop} (h : Q (xI 1) w) : xWp d m_Jn_numberOfTrailingZeros 8 [xI 1, xU] [] w Q := by
  refine x_goN 21 (pc' := 79) (ls' := [xI 1, xI 1]) (st' := [xI 1]) (w' := w) rfl ?_
  exact x_ret (P := True) rfl trivial h
theorem S8_tz_2 {d : Nat} {w : xWd} {Q : xMV → xWd → Prop} (h : Q (xI 2) w) : xWp d m_Jn_numberOfTrailingZeros 8 [xI 3, xU] [] w Q := by
  refine x_goN 21 (pc' := 79) (ls' := [xI 3, xI 1]) (st' := [xI 2]) (w' := w) rfl ?_
  exact x_ret (P := True) rfl trivial h
theorem S8_tz_3 {d : Nat} {w : xWd} {Q : xMV → xWd → Prop} (h : Q (xI 3) w) : xWp d m_Jn_numberOfTrailingZeros 8 [xI 7, xU] [] w Q := by
  refine x_goN 26 (pc' := 79) (ls' := [xI 1, xI 3]) (st' := [xI 3]) (w' := w) rfl ?_
  exact x_ret (P := True) rfl trivial h
theorem S8_tz_4 {d : Nat} {w : xWd} {Q : xMV → xWd → Prop} (h : Q (xI 4) w) : xWp d m_Jn_numberOfTrailingZeros 8 [xI 15, xU] [] w Q := by
  refine x_goN 26 (pc' := 79) (ls' := [xI 3, xI 3]) (st' := [xI 4]) (w' := w) rfl ?_
  exact x_ret (P := True) rfl trivial h
theorem S8_tz_5 {d : Nat} {w : xWd} {Q : xMV → xWd → Prop} (h : Q (xI 5) w) : xWp d m_Jn_numberOfTrailingZeros 8 [xI 31, xU] [] w Q := by
  refine x_goN 26 (pc' := 79) (ls' := [xI 1, xI 5]) (st' := [xI 5]) (w' := w) rfl ?_
  exact x_ret (P := True) rfl trivial h
theorem S8_tz_6 {d : Nat} {w : xWd} {Q : xMV → xWd → Prop} (h : Q (xI 6) w) : xWp d m_Jn_numberOfTrailingZeros 8 [xI 63, xU] [] w Q := by
  refine x_goN 26 (pc' := 79) (ls' := [xI 3, xI 5]) (st' := [xI 6]) (w' := w) rfl ?_
  exact x_ret (P := True) rfl trivial h
theorem S8_tz_7 {d : Nat} {w : xWd} {Q : xMV → xWd → Prop} (h : Q (xI 7) w) : xWp d m_Jn_numberOfTrailingZeros 8 [xI 127, xU] [] w Q := by
  refine x_goN 31 (pc' := 79) (ls' := [xI 1, xI 7]) (st' := [xI 7]) (w' := w) rfl ?_
  exact x_ret (P := True) rfl trivial h
theorem S8_tz_8 {d : Nat} {w : xWd} {Q : xMV → xWd → Prop} (h : Q (xI 8) w) : xWp d m_Jn_numberOfTrailingZeros 8 [xI 255, xU] [] w Q := by
  refine x_goN 31 (pc' := 79) (ls' := [xI 3, xI 7]) (st' := [xI 8]) (w' := w) rfl ?_
  exact x_ret (P := True) rfl trivial h
theorem S_tz {d k : Nat} (hk : k ≤ 8) {x : Int32} (hx : (x ^^^ (-1)) &&& (x - 1) = nI (2 ^ k - 1)) {w : xWd} {Q : xMV → xWd → Prop} (h : Q (xI (nI k)) w) : xWp d m_Jn_numberOfTrailingZeros 0 [xI x, xU] [] w Q := by
  refine x_goN 8 (pc' := 8) (ls' := [xI ((x ^^^ (-1)) &&& (x - 1)), xU]) (st' := []) (w' := w) rfl ?_
  rw [hx]
  match k, hk, h with
  | 0, _, h => exact S8_tz_0 h
  | 1, _, h => exact S8_tz_1 h
  | 2, _, h => exact S8_tz_2 h
  | 3, _, h => exact S8_tz_3 h
  | 4, _, h => exact S8_tz_4 h
  | 5, _, h => exact S8_tz_5 h
  | 6, _, h => exact S8_tz_6 h
  | 7, _, h => exact S8_tz_7 h
  | 8, _, h => exact S8_tz_8 h
  | k + 9, hk, _ => omega
end
section
/-! THE CLASS'S LINES: what its tree tells -/
def tR (w : xWd) (t : Nat) (T : xT) : Prop := tC w t T ∧ tW T
theorem tR_n8 {w : xWd} {t : Nat} {T : xT} (h : tR w t T) : tn T ≤ 8 := h.2.1.1
theorem tR_ln {w : xWd} {t : Nat} {T : xT} {x : Int32} (h : tR w t T) (c : p_lt x (w t 8)) : ∃ j, j < tn T ∧ x = nI j := by
  have h8 := tR_n8 h
  unfold p_lt at c
  rw [h.1.1, nI_toInt (by omega)] at c
  obtain ⟨j, e1, e2, -⟩ := z_of c.1
  exact ⟨j, by omega, e1⟩
theorem tR_lt {w : xWd} {t j : Nat} {T : xT} (h : tR w t T) (hj : j < tn T) : p_lt (nI j) (w t 8) := by
  have h8 := tR_n8 h
  unfold p_lt
  rw [h.1.1, nI_toInt (by omega), nI_toInt (by omega)]
  omega
section TC
variable {w : xWd} {t l v : Nat} {T : xT}
theorem tC_k (h : tR w t T) (hl : l < tn T) : w (32 * t + 1) (nI l).toNatClampNeg = nI (tk T l) := by
  rw [z_cl' (by have := tR_n8 h; omega)]; exact (h.1.2 l hl).1
theorem tC_a (h : tR w t T) (hl : l < tn T) : w (32 * t + 2) (nI l).toNatClampNeg = nI (ta T l) := by
  rw [z_cl' (by have := tR_n8 h; omega)]; exact (h.1.2 l hl).2.1
theorem tC_o (h : tR w t T) (hl : l < tn T) : w (32 * t + 3) (nI l).toNatClampNeg = nI (tO T l) := by
  rw [z_cl' (by have := tR_n8 h; omega)]; exact (h.1.2 l hl).2.2.1
theorem tC_d (h : tR w t T) (hl : l < tn T) : w (32 * t + 4) (nI l).toNatClampNeg = nI (td T l) := by
  rw [z_cl' (by have := tR_n8 h; omega)]; exact (h.1.2 l hl).2.2.2.1
theorem tC_m (h : tR w t T) (hl : l < tn T) : w (32 * t + 5) (nI l).toNatClampNeg = nI (tm T l) := by
  rw [z_cl' (by have := tR_n8 h; omega)]; exact (h.1.2 l hl).2.2.2.2.1
theorem tC_s (h : tR w t T) (hl : l < tn T) : w (32 * t + 7) (nI l).toNatClampNeg = nI (tU T l) := by
  rw [z_cl' (by have := tR_n8 h; omega)]; exact (h.1.2 l hl).2.2.2.2.2.2
theorem tC_u (h : tR w t T) (hl : l < tn T) {i : Nat} (hi : i < tm T l) : w (32 * t + 6) (2 * l + i) = nI (tu T (2 * l + i)) := (h.1.2 l hl).2.2.2.2.2.1 i hi
theorem tC_op (h : tR w t T) (hl : l < tn T) (hv : v < 8) : p_in (w (32 * t + 3) (nI l).toNatClampNeg) (nI v) ↔ tb T l v = true := by
  unfold p_in; rw [tC_o h hl, z_bit' (tO_lt T l) hv, tO_tb T l hv]
theorem tC_sp (h : tR w t T) (hl : l < tn T) (hv : v < 8) : p_in (w (32 * t + 7) (nI l).toNatClampNeg) (nI v) ↔ tr T l v = true := by
  unfold p_in; rw [tC_s h hl, z_bit' (tU_lt T l) hv, tU_tb T l hv]
theorem tR_ge (h : tR w t T) (hl : l < tn T) : ¬ w t 8 ≤ nI l := by
  have h8 := tR_n8 h
  rw [h.1.1, z_le (by omega) (by omega)]; omega
theorem tR_end (h : tR w t T) : w t 8 ≤ nI (tn T) := by
  have h8 := tR_n8 h
  rw [h.1.1, z_le (by omega) (by omega)]; omega
theorem tR_m2 (h : tR w t T) (hl : l < tn T) : tm T l ≤ 2 := (h.2.2 l hl).2.1
end TC
/-- line l has a place i -/
def pP (T : xT) (l i : Int32) : Prop := ∃ a b : Nat, l = nI a ∧ i = nI b ∧ a < tn T ∧ b < tm T a
def pB (T : xT) (l v : Int32) : Prop := ∃ a b : Nat, l = nI a ∧ v = nI b ∧ a < tn T ∧ b < tn T ∧ tb T a b = true
def pU (T : xT) (l i v : Int32) : Prop := ∃ a b c : Nat, l = nI a ∧ i = nI b ∧ v = nI c ∧ a < tn T ∧ b < tm T a ∧ c < tn T ∧ tb T a c = true ∧ (tm T a = 2 → tu T (2 * a + (1 - b)) ≠ c)
noncomputable def vUs (T : xT) (l i : Int32) : Int32 := @ite Int32 (pP T l i) (Classical.propDecidable _) (nI (tu T (2 * l.toNatClampNeg + i.toNatClampNeg))) (-9)
theorem vUs_p {T : xT} (h8 : tn T ≤ 8) {a b : Nat} (ha : a < tn T) (hb : b < tm T a) (hm : tm T a ≤ 2) : vUs T (nI a) (nI b) = nI (tu T (2 * a + b)) := by
  unfold vUs
  rw [if_pos ⟨a, b, rfl, rfl, ha, hb⟩, z_cl' (by omega), z_cl' (by omega)]
theorem vUs_n {T : xT} {l i : Int32} (h : ¬ pP T l i) : vUs T l i = -9 := by
  unfold vUs; rw [if_neg h]
theorem z_n9 {n : Nat} (h : n < 2 ^ 31) : ¬ (-9 : Int32) = nI n := by
  rw [fa_eq, nI_toInt h]
  have : (-9 : Int32).toInt = -9 := rfl
  omega
theorem G_Tr_hasPlace_0 {d : Nat} {a0 : Nat} {x1 : Int32} {x2 : Int32} {w : xWd} {Q : xMV → xWd → Prop} (h : ((p_lt x1 (w a0 8) → ((x2 < 0 → Q (xI 0) w) ∧ (¬ (x2 < 0) → (vp_in x1 8 ∧ ((w (32 * a0 + 5) x1.toNatClampNeg ≤ x2 → Q (xI 0) w) ∧ (¬ (w (32 * a0 + 5) x1.toNatClampNeg ≤ x2) → Q (xI 1) w)))))) ∧ (¬ (p_lt x1 (w a0 8)) → Q (xI 0) w))) : xWp (d + 1) m_Tr_hasPlace 0 [xA 5 a0, xI x1, xI x2] [] w Q := by
  refine x_goN 2 (pc' := 2) (ls' := [xA 5 a0, xI x1, xI x2]) (st' := [xI x1, xA 5 a0]) (w' := w) rfl ?_
  refine x_call (y := m_Tr_isLine) (as := [xA 5 a0, xI x1]) (rst := []) rfl [xA 5 a0, xI x1] rfl ?_
  refine S_Tr_isLine (fun c1 => ?_) (fun c1 => ?_)
  · skip
    refine x_goN 1 (pc' := if (1 : Int32) = (0 : Int32) then 26 else 8) (ls' := [xA 5 a0, xI x1, xI x2]) (st' := []) (w' := w) rfl ?_
    refine x_brF (by decide) ?_
    refine x_goN 2 (pc' := if x2 < 0 then 26 else 12) (ls' := [xA 5 a0, xI x1, xI x2]) (st' := []) (w' := w) rfl ?_
    refine x_br (fun c2 => ?_) (fun c2 => ?_)
    · skip
      refine x_goN 1 (pc' := 27) (ls' := [xA 5 a0, xI x1, xI x2]) (st' := [xI 0]) (w' := w) rfl ?_
      exact x_ret (P := (0 : Int32) = 0 ∨ (0 : Int32) = 1) rfl (by decide) ((h.1 c1).1 c2)
    · skip
      refine x_goN 4 (pc' := 18) (ls' := [xA 5 a0, xI x1, xI x2]) (st' := [xI x1, xA 108 (32 * a0 + 5), xI x2]) (w' := w) rfl ?_
      refine x_ob (P := vp_in x1 8) (pc' := 19) (ls' := [xA 5 a0, xI x1, xI x2]) (st' := [xI (w (32 * a0 + 5) x1.toNatClampNeg), xI x2]) (w' := w) rfl ((h.1 c1).2 c2).1 ?_
      refine x_goN 1 (pc' := if w (32 * a0 + 5) x1.toNatClampNeg ≤ x2 then 26 else 22) (ls' := [xA 5 a0, xI x1, xI x2]) (st' := []) (w' := w) rfl ?_
      refine x_br (fun c3 => ?_) (fun c3 => ?_)
      · skip
        refine x_goN 1 (pc' := 27) (ls' := [xA 5 a0, xI x1, xI x2]) (st' := [xI 0]) (w' := w) rfl ?_
        exact x_ret (P := (0 : Int32) = 0 ∨ (0 : Int32) = 1) rfl (by decide) (((h.1 c1).2 c2).2.1 c3)
      · skip
        refine x_goN 2 (pc' := 27) (ls' := [xA 5 a0, xI x1, xI x2]) (st' := [xI 1]) (w' := w) rfl ?_
        exact x_ret (P := (1 : Int32) = 0 ∨ (1 : Int32) = 1) rfl (by decide) (((h.1 c1).2 c2).2.2 c3)
  · skip
    refine x_goN 1 (pc' := if (0 : Int32) = (0 : Int32) then 26 else 8) (ls' := [xA 5 a0, xI x1, xI x2]) (st' := []) (w' := w) rfl ?_
    refine x_brT (by decide) ?_
    refine x_goN 1 (pc' := 27) (ls' := [xA 5 a0, xI x1, xI x2]) (st' := [xI 0]) (w' := w) rfl ?_
    exact x_ret (P := (0 : Int32) = 0 ∨ (0 : Int32) = 1) rfl (by decide) (h.2 c1)
theorem S_Tr_hasPlace {d t : Nat} {T : xT} {l i : Int32} {w : xWd} {Q : xMV → xWd → Prop} (hR : tR w t T) (h1 : pP T l i → Q (xI 1) w) (h2 : ¬ pP T l i → Q (xI 0) w) : xWp (d + 1) m_Tr_hasPlace 0 [xA 5 t, xI l, xI i] [] w Q := by
  have h8 := tR_n8 hR
  refine G_Tr_hasPlace_0 ⟨fun c => ?_, fun c => h2 (fun ⟨a, b, e1, e2, ha, hb⟩ => c (by rw [e1]; exact tR_lt hR ha))⟩
  obtain ⟨a, ha, rfl⟩ := tR_ln hR c
  have hm := tR_m2 hR ha
  refine ⟨fun c2 => h2 (fun ⟨a', b, e1, e2, ha', hb⟩ => ?_), fun c2 => ⟨z_in (by omega) (by decide), fun c3 => h2 (fun ⟨a', b, e1, e2, ha', hb⟩ => ?_), fun c3 => h1 ?_⟩⟩
  · have e := (z_eq (by omega) (by omega)).mp e1
    subst e
    rw [e2] at c2
    exact z_neg (by omega) c2
  · have e := (z_eq (by omega) (by omega)).mp e1
    subst e
    rw [tC_m hR ha, e2, z_le (by omega) (by omega)] at c3
    omega
  · obtain ⟨b, hb, rfl⟩ := nI_of c2
    rw [tC_m hR ha, z_le (by omega) hb] at c3
    exact ⟨a, b, rfl, rfl, ha, by omega⟩
theorem G_Tr_isBelow_0 {d : Nat} {a0 : Nat} {x1 : Int32} {x2 : Int32} {w : xWd} {Q : xMV → xWd → Prop} (h : ((p_lt x1 (w a0 8) → ((p_lt x2 (w a0 8) → (vp_in x1 8 ∧ ((p_in (w (32 * a0 + 3) x1.toNatClampNeg) x2 → Q (xI 1) w) ∧ (¬ (p_in (w (32 * a0 + 3) x1.toNatClampNeg) x2) → Q (xI 0) w)))) ∧ (¬ (p_lt x2 (w a0 8)) → Q (xI 0) w))) ∧ (¬ (p_lt x1 (w a0 8)) → Q (xI 0) w))) : xWp (d + 1) m_Tr_isBelow 0 [xA 5 a0, xI x1, xI x2] [] w Q := by
  refine x_goN 2 (pc' := 2) (ls' := [xA 5 a0, xI x1, xI x2]) (st' := [xI x1, xA 5 a0]) (w' := w) rfl ?_
  refine x_call (y := m_Tr_isLine) (as := [xA 5 a0, xI x1]) (rst := []) rfl [xA 5 a0, xI x1] rfl ?_
  refine S_Tr_isLine (fun c1 => ?_) (fun c1 => ?_)
  · skip
    refine x_goN 1 (pc' := if (1 : Int32) = (0 : Int32) then 33 else 8) (ls' := [xA 5 a0, xI x1, xI x2]) (st' := []) (w' := w) rfl ?_
    refine x_brF (by decide) ?_
    refine x_goN 2 (pc' := 10) (ls' := [xA 5 a0, xI x1, xI x2]) (st' := [xI x2, xA 5 a0]) (w' := w) rfl ?_
    refine x_call (y := m_Tr_isLine) (as := [xA 5 a0, xI x2]) (rst := []) rfl [xA 5 a0, xI x2] rfl ?_
    refine S_Tr_isLine (fun c2 => ?_) (fun c2 => ?_)
    · skip
      refine x_goN 1 (pc' := if (1 : Int32) = (0 : Int32) then 33 else 16) (ls' := [xA 5 a0, xI x1, xI x2]) (st' := []) (w' := w) rfl ?_
      refine x_brF (by decide) ?_
      refine x_goN 3 (pc' := 21) (ls' := [xA 5 a0, xI x1, xI x2]) (st' := [xI x1, xA 108 (32 * a0 + 3)]) (w' := w) rfl ?_
      refine x_ob (P := vp_in x1 8) (pc' := 22) (ls' := [xA 5 a0, xI x1, xI x2]) (st' := [xI (w (32 * a0 + 3) x1.toNatClampNeg)]) (w' := w) rfl ((h.1 c1).1 c2).1 ?_
      refine x_goN 1 (pc' := 23) (ls' := [xA 5 a0, xI x1, xI x2]) (st' := [xI x2, xI (w (32 * a0 + 3) x1.toNatClampNeg)]) (w' := w) rfl ?_
      refine x_call (y := m_Vp_inSet) (as := [xI (w (32 * a0 + 3) x1.toNatClampNeg), xI x2]) (rst := []) rfl [xI (w (32 * a0 + 3) x1.toNatClampNeg), xI x2] rfl ?_
      refine S_Vp_inSet (fun c3 => ?_) (fun c3 => ?_)
      · skip
        refine x_goN 1 (pc' := if (1 : Int32) = (0 : Int32) then 33 else 29) (ls' := [xA 5 a0, xI x1, xI x2]) (st' := []) (w' := w) rfl ?_
        refine x_brF (by decide) ?_
        refine x_goN 2 (pc' := 34) (ls' := [xA 5 a0, xI x1, xI x2]) (st' := [xI 1]) (w' := w) rfl ?_
        exact x_ret (P := (1 : Int32) = 0 ∨ (1 : Int32) = 1) rfl (by decide) (((h.1 c1).1 c2).2.1 c3)
      · skip
        refine x_goN 1 (pc' := if (0 : Int32) = (0 : Int32) then 33 else 29) (ls' := [xA 5 a0, xI x1, xI x2]) (st' := []) (w' := w) rfl ?_
        refine x_brT (by decide) ?_
        refine x_goN 1 (pc' := 34) (ls' := [xA 5 a0, xI x1, xI x2]) (st' := [xI 0]) (w' := w) rfl ?_
        exact x_ret (P := (0 : Int32) = 0 ∨ (0 : Int32) = 1) rfl (by decide) (((h.1 c1).1 c2).2.2 c3)
    · skip
      refine x_goN 1 (pc' := if (0 : Int32) = (0 : Int32) then 33 else 16) (ls' := [xA 5 a0, xI x1, xI x2]) (st' := []) (w' := w) rfl ?_
      refine x_brT (by decide) ?_
      refine x_goN 1 (pc' := 34) (ls' := [xA 5 a0, xI x1, xI x2]) (st' := [xI 0]) (w' := w) rfl ?_
      exact x_ret (P := (0 : Int32) = 0 ∨ (0 : Int32) = 1) rfl (by decide) ((h.1 c1).2 c2)
  · skip
    refine x_goN 1 (pc' := if (0 : Int32) = (0 : Int32) then 33 else 8) (ls' := [xA 5 a0, xI x1, xI x2]) (st' := []) (w' := w) rfl ?_
    refine x_brT (by decide) ?_
    refine x_goN 1 (pc' := 34) (ls' := [xA 5 a0, xI x1, xI x2]) (st' := [xI 0]) (w' := w) rfl ?_
    exact x_ret (P := (0 : Int32) = 0 ∨ (0 : Int32) = 1) rfl (by decide) (h.2 c1)
theorem S_Tr_isBelow {d t : Nat} {T : xT} {l v : Int32} {w : xWd} {Q : xMV → xWd → Prop} (hR : tR w t T) (h1 : pB T l v → Q (xI 1) w) (h2 : ¬ pB T l v → Q (xI 0) w) : xWp (d + 1) m_Tr_isBelow 0 [xA 5 t, xI l, xI v] [] w Q := by
  have h8 := tR_n8 hR
  refine G_Tr_isBelow_0 ⟨fun c => ⟨fun c2 => ?_, fun c2 => h2 (fun ⟨a, b, e1, e2, ha, hb, _⟩ => c2 (by rw [e2]; exact tR_lt hR hb))⟩, fun c => h2 (fun ⟨a, b, e1, e2, ha, hb, _⟩ => c (by rw [e1]; exact tR_lt hR ha))⟩
  obtain ⟨a, ha, rfl⟩ := tR_ln hR c
  obtain ⟨b, hb, rfl⟩ := tR_ln hR c2
  refine ⟨z_in (by omega) (by decide), fun c3 => h1 ⟨a, b, rfl, rfl, ha, hb, (tC_op hR ha (by omega)).mp c3⟩, fun c3 => h2 (fun ⟨a', b', e1, e2, ha', hb', hh⟩ => c3 ?_)⟩
  have e := (z_eq (by omega) (by omega)).mp e1
  have e' := (z_eq (by omega) (by omega)).mp e2
  subst e; subst e'
  exact (tC_op hR ha (by omega)).mpr hh
theorem G_Tr_usedIn_0 {d : Nat} {T : xT} {a0 : Nat} {x1 : Int32} {x2 : Int32} {w : xWd} {Q : xMV → xWd → Prop} (h : ((tR w a0 T) ∧ ((pP T x1 x2 → (vp_in ((x1 * 2) + x2) 16 ∧ Q (xI (w (32 * a0 + 6) ((x1 * 2) + x2).toNatClampNeg)) w)) ∧ (¬ (pP T x1 x2) → Q (xI (-9)) w)))) : xWp (d + 2) m_Tr_usedIn 0 [xA 5 a0, xI x1, xI x2] [] w Q := by
  refine x_goN 3 (pc' := 3) (ls' := [xA 5 a0, xI x1, xI x2]) (st' := [xI x2, xI x1, xA 5 a0]) (w' := w) rfl ?_
  refine x_call (y := m_Tr_hasPlace) (as := [xA 5 a0, xI x1, xI x2]) (rst := []) rfl [xA 5 a0, xI x1, xI x2] rfl ?_
  refine S_Tr_hasPlace h.1 (fun c1 => ?_) (fun c1 => ?_)
  · skip
    refine x_goN 1 (pc' := if (1 : Int32) = (0 : Int32) then 22 else 9) (ls' := [xA 5 a0, xI x1, xI x2]) (st' := []) (w' := w) rfl ?_
    refine x_brF (by decide) ?_
    refine x_goN 7 (pc' := 18) (ls' := [xA 5 a0, xI x1, xI x2]) (st' := [xI ((x1 * 2) + x2), xA 116 (32 * a0 + 6)]) (w' := w) rfl ?_
    refine x_ob (P := vp_in ((x1 * 2) + x2) 16) (pc' := 19) (ls' := [xA 5 a0, xI x1, xI x2]) (st' := [xI (w (32 * a0 + 6) ((x1 * 2) + x2).toNatClampNeg)]) (w' := w) rfl (h.2.1 c1).1 ?_
    refine x_goN 1 (pc' := 24) (ls' := [xA 5 a0, xI x1, xI x2]) (st' := [xI (w (32 * a0 + 6) ((x1 * 2) + x2).toNatClampNeg)]) (w' := w) rfl ?_
    exact x_ret (P := True) rfl trivial (h.2.1 c1).2
  · skip
    refine x_goN 1 (pc' := if (0 : Int32) = (0 : Int32) then 22 else 9) (ls' := [xA 5 a0, xI x1, xI x2]) (st' := []) (w' := w) rfl ?_
    refine x_brT (by decide) ?_
    refine x_goN 1 (pc' := 24) (ls' := [xA 5 a0, xI x1, xI x2]) (st' := [xI (-9)]) (w' := w) rfl ?_
    exact x_ret (P := True) rfl trivial (h.2.2 c1)
theorem S_Tr_usedIn {d t : Nat} {T : xT} {l i : Int32} {w : xWd} {Q : xMV → xWd → Prop} (hR : tR w t T) (h : Q (xI (vUs T l i)) w) : xWp (d + 2) m_Tr_usedIn 0 [xA 5 t, xI l, xI i] [] w Q := by
  have h8 := tR_n8 hR
  refine G_Tr_usedIn_0 ⟨hR, fun c => ?_, fun c => by rw [vUs_n c] at h; exact h⟩
  obtain ⟨a, b, rfl, rfl, ha, hb⟩ := c
  have hm := tR_m2 hR ha
  have e : nI a * 2 + nI b = nI (2 * a + b) := by
    rw [show nI a * 2 = nI (a * 2) from pk_mul a 2, nI_add, Nat.mul_comm]
  rw [e, z_cl' (by omega), tC_u hR ha hb]
  rw [vUs_p h8 ha hb hm] at h
  exact ⟨z_in (by omega) (by decide), h⟩
theorem G_Tr_mayUse_0 {d : Nat} {T : xT} {a0 : Nat} {x1 : Int32} {x2 : Int32} {x3 : Int32} {w : xWd} {Q : xMV → xWd → Prop} (h : ((tR w a0 T) ∧ ((pP T x1 x2 → ((tR w a0 T) ∧ ((pB T x1 x3 → ((tR w a0 T) ∧ ((vUs T x1 (1 - x2) = x3 → Q (xI 0) w) ∧ (¬ (vUs T x1 (1 - x2) = x3) → Q (xI 1) w)))) ∧ (¬ (pB T x1 x3) → Q (xI 0) w)))) ∧ (¬ (pP T x1 x2) → Q (xI 0) w)))) : xWp (d + 3) m_Tr_mayUse 0 [xA 5 a0, xI x1, xI x2, xI x3] [] w Q := by
  refine x_goN 3 (pc' := 3) (ls' := [xA 5 a0, xI x1, xI x2, xI x3]) (st' := [xI x2, xI x1, xA 5 a0]) (w' := w) rfl ?_
  refine x_call (y := m_Tr_hasPlace) (as := [xA 5 a0, xI x1, xI x2]) (rst := []) rfl [xA 5 a0, xI x1, xI x2] rfl ?_
  refine S_Tr_hasPlace h.1 (fun c1 => ?_) (fun c1 => ?_)
  · skip
    refine x_goN 1 (pc' := if (1 : Int32) = (0 : Int32) then 34 else 9) (ls' := [xA 5 a0, xI x1, xI x2, xI x3]) (st' := []) (w' := w) rfl ?_
    refine x_brF (by decide) ?_
    refine x_goN 3 (pc' := 12) (ls' := [xA 5 a0, xI x1, xI x2, xI x3]) (st' := [xI x3, xI x1, xA 5 a0]) (w' := w) rfl ?_
    refine x_call (y := m_Tr_isBelow) (as := [xA 5 a0, xI x1, xI x3]) (rst := []) rfl [xA 5 a0, xI x1, xI x3] rfl ?_
    refine S_Tr_isBelow (h.2.1 c1).1 (fun c2 => ?_) (fun c2 => ?_)
    · skip
      refine x_goN 1 (pc' := if (1 : Int32) = (0 : Int32) then 34 else 18) (ls' := [xA 5 a0, xI x1, xI x2, xI x3]) (st' := []) (w' := w) rfl ?_
      refine x_brF (by decide) ?_
      refine x_goN 5 (pc' := 23) (ls' := [xA 5 a0, xI x1, xI x2, xI x3]) (st' := [xI (1 - x2), xI x1, xA 5 a0]) (w' := w) rfl ?_
      refine x_call (y := m_Tr_usedIn) (as := [xA 5 a0, xI x1, xI (1 - x2)]) (rst := []) rfl [xA 5 a0, xI x1, xI (1 - x2)] rfl ?_
      refine S_Tr_usedIn ((h.2.1 c1).2.1 c2).1 ?_
      refine x_goN 2 (pc' := if vUs T x1 (1 - x2) = x3 then 34 else 30) (ls' := [xA 5 a0, xI x1, xI x2, xI x3]) (st' := []) (w' := w) rfl ?_
      refine x_br (fun c3 => ?_) (fun c3 => ?_)
      · skip
        refine x_goN 1 (pc' := 35) (ls' := [xA 5 a0, xI x1, xI x2, xI x3]) (st' := [xI 0]) (w' := w) rfl ?_
        exact x_ret (P := (0 : Int32) = 0 ∨ (0 : Int32) = 1) rfl (by decide) (((h.2.1 c1).2.1 c2).2.1 c3)
      · skip
        refine x_goN 2 (pc' := 35) (ls' := [xA 5 a0, xI x1, xI x2, xI x3]) (st' := [xI 1]) (w' := w) rfl ?_
        exact x_ret (P := (1 : Int32) = 0 ∨ (1 : Int32) = 1) rfl (by decide) (((h.2.1 c1).2.1 c2).2.2 c3)
    · skip
      refine x_goN 1 (pc' := if (0 : Int32) = (0 : Int32) then 34 else 18) (ls' := [xA 5 a0, xI x1, xI x2, xI x3]) (st' := []) (w' := w) rfl ?_
      refine x_brT (by decide) ?_
      refine x_goN 1 (pc' := 35) (ls' := [xA 5 a0, xI x1, xI x2, xI x3]) (st' := [xI 0]) (w' := w) rfl ?_
      exact x_ret (P := (0 : Int32) = 0 ∨ (0 : Int32) = 1) rfl (by decide) ((h.2.1 c1).2.2 c2)
  · skip
    refine x_goN 1 (pc' := if (0 : Int32) = (0 : Int32) then 34 else 9) (ls' := [xA 5 a0, xI x1, xI x2, xI x3]) (st' := []) (w' := w) rfl ?_
    refine x_brT (by decide) ?_
    refine x_goN 1 (pc' := 35) (ls' := [xA 5 a0, xI x1, xI x2, xI x3]) (st' := [xI 0]) (w' := w) rfl ?_
    exact x_ret (P := (0 : Int32) = 0 ∨ (0 : Int32) = 1) rfl (by decide) (h.2.2 c1)
theorem S_Tr_mayUse {d t : Nat} {T : xT} {l i v : Int32} {w : xWd} {Q : xMV → xWd → Prop} (hR : tR w t T) (h1 : pU T l i v → Q (xI 1) w) (h2 : ¬ pU T l i v → Q (xI 0) w) : xWp (d + 3) m_Tr_mayUse 0 [xA 5 t, xI l, xI i, xI v] [] w Q := by
  have h8 := tR_n8 hR
  refine G_Tr_mayUse_0 ⟨hR, fun c => ⟨hR, fun c2 => ⟨hR, fun c3 => ?_, fun c3 => ?_⟩, fun c2 => h2 (fun ⟨a, b, k, e1, e2, e3, ha, hb, hk, hh, _⟩ => c2 ⟨a, k, e1, e3, ha, hk, hh⟩)⟩, fun c => h2 (fun ⟨a, b, k, e1, e2, e3, ha, hb, hk, hh, _⟩ => c ⟨a, b, e1, e2, ha, hb⟩)⟩
  all_goals
    obtain ⟨a, b, rfl, rfl, ha, hb⟩ := c
    obtain ⟨a', k, e1, rfl, ha', hk, hh⟩ := c2
    have e := (z_eq (by omega) (by omega)).mp e1
    subst e
    have hm := tR_m2 hR ha
    have ei : (1 : Int32) - nI b = nI (1 - b) := pk_sub (a := 1) (by omega)
    rw [ei] at c3
  · by_cases hm2 : tm T a = 2
    · rw [vUs_p h8 ha (by omega) hm] at c3
      refine h2 (fun ⟨a2, b2, k2, f1, f2, f3, _, _, _, _, hne⟩ => ?_)
      have e := (z_eq (by omega) (by omega)).mp f1
      subst e
      have e := (z_eq (by omega) (by omega)).mp f2
      subst e
      have e := (z_eq (by omega) (by omega)).mp f3
      subst e
      have hu := (hR.2.2 a ha).2.2.1 (1 - b) (by omega)
      have hlt := tb_lt' hR.2.1 ha hu
      exact hne hm2 ((z_eq (by omega) (by omega)).mp c3)
    · have hn : ¬ pP T (nI a) (nI (1 - b)) := by
        rintro ⟨a2, b2, f1, f2, ha2, hb2⟩
        have e := (z_eq (by omega) (by omega)).mp f1
        subst e
        have e := (z_eq (by omega) (by omega)).mp f2
        omega
      rw [vUs_n hn] at c3
      exact absurd c3 (z_n9 (by omega))
  · refine h1 ⟨a, b, k, rfl, rfl, rfl, ha, hb, hk, hh, fun hm2 he => c3 ?_⟩
    rw [vUs_p h8 ha (by omega) hm, he]
theorem G_Tr_usersOf_0 {d : Nat} {a0 : Nat} {x1 : Int32} {w : xWd} {Q : xMV → xWd → Prop} (h : xWp (d + 1) m_Tr_usersOf 4 [xA 5 a0, xI x1, xI 0, xI 0] [] w Q) : xWp (d + 1) m_Tr_usersOf 0 [xA 5 a0, xI x1, xU, xU] [] w Q := by
  refine x_goN 4 (pc' := 4) (ls' := [xA 5 a0, xI x1, xI 0, xI 0]) (st' := []) (w' := w) rfl ?_
  exact h
theorem G_Tr_usersOf_4 {d : Nat} {a0 : Nat} {x1 : Int32} {x2 : Int32} {x3 : Int32} {w : xWd} {Q : xMV → xWd → Prop} (h : ((w a0 8 ≤ x3 → Q (xI x2) w) ∧ (¬ (w a0 8 ≤ x3) → (vp_in x3 8 ∧ ((p_in (w (32 * a0 + 7) x3.toNatClampNeg) x1 → xWp (d + 1) m_Tr_usersOf 4 [xA 5 a0, xI x1, xI (x2 ||| ((1 : Int32) <<< (x3 &&& 31))), xI (x3 + 1)] [] w Q) ∧ (¬ (p_in (w (32 * a0 + 7) x3.toNatClampNeg) x1) → xWp (d + 1) m_Tr_usersOf 4 [xA 5 a0, xI x1, xI x2, xI (x3 + 1)] [] w Q)))))) : xWp (d + 1) m_Tr_usersOf 4 [xA 5 a0, xI x1, xI x2, xI x3] [] w Q := by
  refine x_goN 4 (pc' := if w a0 8 ≤ x3 then 37 else 12) (ls' := [xA 5 a0, xI x1, xI x2, xI x3]) (st' := []) (w' := w) rfl ?_
  refine x_br (fun c1 => ?_) (fun c1 => ?_)
  · skip
    refine x_goN 1 (pc' := 38) (ls' := [xA 5 a0, xI x1, xI x2, xI x3]) (st' := [xI x2]) (w' := w) rfl ?_
    exact x_ret (P := True) rfl trivial (h.1 c1)
  · skip
    refine x_goN 3 (pc' := 17) (ls' := [xA 5 a0, xI x1, xI x2, xI x3]) (st' := [xI x3, xA 108 (32 * a0 + 7)]) (w' := w) rfl ?_
    refine x_ob (P := vp_in x3 8) (pc' := 18) (ls' := [xA 5 a0, xI x1, xI x2, xI x3]) (st' := [xI (w (32 * a0 + 7) x3.toNatClampNeg)]) (w' := w) rfl (h.2 c1).1 ?_
    refine x_goN 1 (pc' := 19) (ls' := [xA 5 a0, xI x1, xI x2, xI x3]) (st' := [xI x1, xI (w (32 * a0 + 7) x3.toNatClampNeg)]) (w' := w) rfl ?_
    refine x_call (y := m_Vp_inSet) (as := [xI (w (32 * a0 + 7) x3.toNatClampNeg), xI x1]) (rst := []) rfl [xI (w (32 * a0 + 7) x3.toNatClampNeg), xI x1] rfl ?_
    refine S_Vp_inSet (fun c2 => ?_) (fun c2 => ?_)
    · skip
      refine x_goN 1 (pc' := if (1 : Int32) = (0 : Int32) then 31 else 25) (ls' := [xA 5 a0, xI x1, xI x2, xI x3]) (st' := []) (w' := w) rfl ?_
      refine x_brF (by decide) ?_
      refine x_goN 8 (pc' := 4) (ls' := [xA 5 a0, xI x1, xI (x2 ||| ((1 : Int32) <<< (x3 &&& 31))), xI (x3 + 1)]) (st' := []) (w' := w) rfl ?_
      exact ((h.2 c1).2.1 c2)
    · skip
      refine x_goN 1 (pc' := if (0 : Int32) = (0 : Int32) then 31 else 25) (ls' := [xA 5 a0, xI x1, xI x2, xI x3]) (st' := []) (w' := w) rfl ?_
      refine x_brT (by decide) ?_
      refine x_goN 2 (pc' := 4) (ls' := [xA 5 a0, xI x1, xI x2, xI (x3 + 1)]) (st' := []) (w' := w) rfl ?_
      exact ((h.2 c1).2.2 c2)
theorem L_Tr_usersOf {d t v : Nat} {T : xT} {w : xWd} {Q : xMV → xWd → Prop} (hR : tR w t T) (hv : v < 8) (h : Q (xI (nI (mUs T v))) w) : ∀ k l : Nat, l + k = tn T → xWp (d + 1) m_Tr_usersOf 4 [xA 5 t, xI (nI v), xI (nI (z_mk l (fun m => tr T m v))), xI (nI l)] [] w Q := by
  have h8 := tR_n8 hR
  intro k
  induction k with
  | zero =>
    intro l hl
    have e : l = tn T := by omega
    subst e
    exact G_Tr_usersOf_4 ⟨fun _ => h, fun c => absurd (tR_end hR) c⟩
  | succ k ih =>
    intro l hl
    have hlt : l < tn T := by omega
    refine G_Tr_usersOf_4 ⟨fun c => absurd c (tR_ge hR hlt), fun c => ⟨z_in (by omega) (by decide), fun c1 => ?_, fun c1 => ?_⟩⟩
    · have hp := (tC_sp hR hlt hv).mp c1
      rw [z_shl l (by omega), z_mk_or (p := fun m => tr T m v) hp, nI_1]
      exact ih (l + 1) (by omega)
    · have hp := fun q => c1 ((tC_sp hR hlt hv).mpr q)
      rw [z_mk_no (p := fun m => tr T m v) hp, nI_1]
      exact ih (l + 1) (by omega)
theorem S_Tr_usersOf {d t v : Nat} {T : xT} {w : xWd} {Q : xMV → xWd → Prop} (hR : tR w t T) (hv : v < 8) (h : Q (xI (nI (mUs T v))) w) : xWp (d + 1) m_Tr_usersOf 0 [xA 5 t, xI (nI v), xU, xU] [] w Q :=
  G_Tr_usersOf_0 (L_Tr_usersOf hR hv h (tn T) 0 (Nat.zero_add _))
theorem G_Tr_howManyUse_0 {d : Nat} {a0 : Nat} {x1 : Int32} {w : xWd} {Q : xMV → xWd → Prop} (h : xWp (d + 1) m_Tr_usersOf 0 [xA 5 a0, xI x1, xU, xU] [] w (fun a w' => xWp (d + 2) m_Tr_howManyUse 5 [xA 5 a0, xI x1] (x_pu a []) w' Q)) : xWp (d + 2) m_Tr_howManyUse 0 [xA 5 a0, xI x1] [] w Q := by
  refine x_goN 2 (pc' := 2) (ls' := [xA 5 a0, xI x1]) (st' := [xI x1, xA 5 a0]) (w' := w) rfl ?_
  refine x_call (y := m_Tr_usersOf) (as := [xA 5 a0, xI x1]) (rst := []) rfl [xA 5 a0, xI x1, xU, xU] rfl ?_
  exact h
theorem G_Tr_howManyUse_5 {d : Nat} {a0 : Nat} {x1 : Int32} {s0 : Int32} {w : xWd} {Q : xMV → xWd → Prop} (h : xWp (d + 1) m_Jn_bitCount 0 [xI s0] [] w (fun a w' => xWp (d + 2) m_Tr_howManyUse 8 [xA 5 a0, xI x1] (x_pu a []) w' Q)) : xWp (d + 2) m_Tr_howManyUse 5 [xA 5 a0, xI x1] [xI s0] w Q := by
  refine x_call (y := m_Jn_bitCount) (as := [xI s0]) (rst := []) rfl [xI s0] rfl ?_
  exact h
theorem G_Tr_howManyUse_8 {d : Nat} {a0 : Nat} {x1 : Int32} {s0 : Int32} {w : xWd} {Q : xMV → xWd → Prop} (h : Q (xI s0) w) : xWp (d + 2) m_Tr_howManyUse 8 [xA 5 a0, xI x1] [xI s0] w Q := by
  exact x_ret (P := True) rfl trivial h
theorem S_Tr_howManyUse {d t v : Nat} {T : xT} {w : xWd} {Q : xMV → xWd → Prop} (hR : tR w t T) (hv : v < 8) (h : Q (xI (nI (z_pc (mUs T v)))) w) : xWp (d + 2) m_Tr_howManyUse 0 [xA 5 t, xI (nI v)] [] w Q := by
  refine G_Tr_howManyUse_0 (S_Tr_usersOf hR hv ?_)
  refine G_Tr_howManyUse_5 (S_Jn_bitCount ?_)
  rw [v_bc_ok _ (mUs_lt (tR_n8 hR) v)]
  exact G_Tr_howManyUse_8 h
theorem G_Tr_howManyUsedOfAll_0 {d : Nat} {a0 : Nat} {w : xWd} {Q : xMV → xWd → Prop} (h : xWp d m_Tr_howManyUsedOfAll 4 [xA 5 a0, xI 0, xI 0] [] w Q) : xWp d m_Tr_howManyUsedOfAll 0 [xA 5 a0, xU, xU] [] w Q := by
  refine x_goN 4 (pc' := 4) (ls' := [xA 5 a0, xI 0, xI 0]) (st' := []) (w' := w) rfl ?_
  exact h
theorem G_Tr_howManyUsedOfAll_4 {d : Nat} {a0 : Nat} {x1 : Int32} {x2 : Int32} {w : xWd} {Q : xMV → xWd → Prop} (h : ((w a0 8 ≤ x2 → Q (xI x1) w) ∧ (¬ (w a0 8 ≤ x2) → (vp_in x2 8 ∧ xWp d m_Tr_howManyUsedOfAll 4 [xA 5 a0, xI (x1 + (w (32 * a0 + 5) x2.toNatClampNeg)), xI (x2 + 1)] [] w Q)))) : xWp d m_Tr_howManyUsedOfAll 4 [xA 5 a0, xI x1, xI x2] [] w Q := by
  refine x_goN 4 (pc' := if w a0 8 ≤ x2 then 27 else 12) (ls' := [xA 5 a0, xI x1, xI x2]) (st' := []) (w' := w) rfl ?_
  refine x_br (fun c1 => ?_) (fun c1 => ?_)
  · skip
    refine x_goN 1 (pc' := 28) (ls' := [xA 5 a0, xI x1, xI x2]) (st' := [xI x1]) (w' := w) rfl ?_
    exact x_ret (P := True) rfl trivial (h.1 c1)
  · skip
    refine x_goN 4 (pc' := 18) (ls' := [xA 5 a0, xI x1, xI x2]) (st' := [xI x2, xA 108 (32 * a0 + 5), xI x1]) (w' := w) rfl ?_
    refine x_ob (P := vp_in x2 8) (pc' := 19) (ls' := [xA 5 a0, xI x1, xI x2]) (st' := [xI (w (32 * a0 + 5) x2.toNatClampNeg), xI x1]) (w' := w) rfl (h.2 c1).1 ?_
    refine x_goN 4 (pc' := 4) (ls' := [xA 5 a0, xI (x1 + (w (32 * a0 + 5) x2.toNatClampNeg)), xI (x2 + 1)]) (st' := []) (w' := w) rfl ?_
    exact (h.2 c1).2
theorem L_Tr_howManyUsedOfAll {d t : Nat} {T : xT} {w : xWd} {Q : xMV → xWd → Prop} (hR : tR w t T) (h : Q (xI (nI (z_sm (tn T) (tm T)))) w) : ∀ k l : Nat, l + k = tn T → xWp d m_Tr_howManyUsedOfAll 4 [xA 5 t, xI (nI (z_sm l (tm T))), xI (nI l)] [] w Q := by
  have h8 := tR_n8 hR
  intro k
  induction k with
  | zero =>
    intro l hl
    have e : l = tn T := by omega
    subst e
    exact G_Tr_howManyUsedOfAll_4 ⟨fun _ => h, fun c => absurd (tR_end hR) c⟩
  | succ k ih =>
    intro l hl
    have hlt : l < tn T := by omega
    refine G_Tr_howManyUsedOfAll_4 ⟨fun c => absurd c (tR_ge hR hlt), fun c => ⟨z_in (by omega) (by decide), ?_⟩⟩
    rw [tC_m hR hlt, nI_add, nI_1]
    exact ih (l + 1) (by omega)
theorem S_Tr_howManyUsedOfAll {d t : Nat} {T : xT} {w : xWd} {Q : xMV → xWd → Prop} (hR : tR w t T) (h : Q (xI (nI (z_sm (tn T) (tm T)))) w) : xWp d m_Tr_howManyUsedOfAll 0 [xA 5 t, xU, xU] [] w Q :=
  G_Tr_howManyUsedOfAll_0 (L_Tr_howManyUsedOfAll hR h (tn T) 0 (Nat.zero_add _))
theorem G_Tr_cost_0 {d : Nat} {a0 : Nat} {x1 : Int32} {w : xWd} {Q : xMV → xWd → Prop} (h : ((p_lt x1 (w a0 8) → xWp (d + 2) m_Tr_howManyUse 0 [xA 5 a0, xI x1] [] w (fun a w' => xWp (d + 3) m_Tr_cost 15 [xA 5 a0, xI x1, xU] (x_pu a []) w' Q)) ∧ (¬ (p_lt x1 (w a0 8)) → Q (xI 0) w))) : xWp (d + 3) m_Tr_cost 0 [xA 5 a0, xI x1, xU] [] w Q := by
  refine x_goN 2 (pc' := 2) (ls' := [xA 5 a0, xI x1, xU]) (st' := [xI x1, xA 5 a0]) (w' := w) rfl ?_
  refine x_call (y := m_Tr_isLine) (as := [xA 5 a0, xI x1]) (rst := []) rfl [xA 5 a0, xI x1] rfl ?_
  refine S_Tr_isLine (fun c1 => ?_) (fun c1 => ?_)
  · skip
    refine x_goN 1 (pc' := if (1 : Int32) = (0 : Int32) then 8 else 10) (ls' := [xA 5 a0, xI x1, xU]) (st' := []) (w' := w) rfl ?_
    refine x_brF (by decide) ?_
    refine x_goN 2 (pc' := 12) (ls' := [xA 5 a0, xI x1, xU]) (st' := [xI x1, xA 5 a0]) (w' := w) rfl ?_
    refine x_call (y := m_Tr_howManyUse) (as := [xA 5 a0, xI x1]) (rst := []) rfl [xA 5 a0, xI x1] rfl ?_
    exact (h.1 c1)
  · skip
    refine x_goN 1 (pc' := if (0 : Int32) = (0 : Int32) then 8 else 10) (ls' := [xA 5 a0, xI x1, xU]) (st' := []) (w' := w) rfl ?_
    refine x_brT (by decide) ?_
    refine x_goN 1 (pc' := 9) (ls' := [xA 5 a0, xI x1, xU]) (st' := [xI 0]) (w' := w) rfl ?_
    exact x_ret (P := True) rfl trivial (h.2 c1)
theorem G_Tr_cost_15 {d : Nat} {a0 : Nat} {x1 : Int32} {s0 : Int32} {w : xWd} {Q : xMV → xWd → Prop} (h : (vp_in x1 8 ∧ ((w (32 * a0 + 1) x1.toNatClampNeg = 1 → Q (xI (s0 + 1)) w) ∧ (¬ (w (32 * a0 + 1) x1.toNatClampNeg = 1) → ((w (32 * a0 + 1) x1.toNatClampNeg = 2 → Q (xI (2 * s0)) w) ∧ (¬ (w (32 * a0 + 1) x1.toNatClampNeg = 2) → Q (xI s0) w)))))) : xWp (d + 3) m_Tr_cost 15 [xA 5 a0, xI x1, xU] [xI s0] w Q := by
  refine x_goN 4 (pc' := 21) (ls' := [xA 5 a0, xI x1, xI s0]) (st' := [xI x1, xA 108 (32 * a0 + 1)]) (w' := w) rfl ?_
  refine x_ob (P := vp_in x1 8) (pc' := 22) (ls' := [xA 5 a0, xI x1, xI s0]) (st' := [xI (w (32 * a0 + 1) x1.toNatClampNeg)]) (w' := w) rfl h.1 ?_
  refine x_goN 1 (pc' := if w (32 * a0 + 1) x1.toNatClampNeg = 1 then 52 else if w (32 * a0 + 1) x1.toNatClampNeg = 2 then 48 else 56) (ls' := [xA 5 a0, xI x1, xI s0]) (st' := []) (w' := w) rfl ?_
  refine x_br (fun c1 => ?_) (fun c1 => ?_)
  · skip
    refine x_goN 3 (pc' := 55) (ls' := [xA 5 a0, xI x1, xI s0]) (st' := [xI (s0 + 1)]) (w' := w) rfl ?_
    exact x_ret (P := True) rfl trivial (h.2.1 c1)
  · skip
    refine x_br (fun c2 => ?_) (fun c2 => ?_)
    · skip
      refine x_goN 3 (pc' := 51) (ls' := [xA 5 a0, xI x1, xI s0]) (st' := [xI (2 * s0)]) (w' := w) rfl ?_
      exact x_ret (P := True) rfl trivial ((h.2.2 c1).1 c2)
    · skip
      refine x_goN 1 (pc' := 57) (ls' := [xA 5 a0, xI x1, xI s0]) (st' := [xI s0]) (w' := w) rfl ?_
      exact x_ret (P := True) rfl trivial ((h.2.2 c1).2 c2)
theorem S_Tr_cost {d t v : Nat} {T : xT} {w : xWd} {Q : xMV → xWd → Prop} (hR : tR w t T) (hv : v < tn T) (h : Q (xI (nI (tCo T v))) w) : xWp (d + 3) m_Tr_cost 0 [xA 5 t, xI (nI v), xU] [] w Q := by
  have h8 := tR_n8 hR
  have hk := (hR.2.2 v hv).1
  refine G_Tr_cost_0 ⟨fun _ => S_Tr_howManyUse hR (by omega) ?_, fun c => absurd (tR_lt hR hv) c⟩
  refine G_Tr_cost_15 ⟨z_in (by omega) (by decide), ?_⟩
  rw [tC_k hR hv]
  unfold tCo at h
  refine ⟨fun c => ?_, fun c => ⟨fun c2 => ?_, fun c2 => ?_⟩⟩
  · have e : tk T v = 1 := (z_eq (b := 1) (by omega) (by decide)).mp c
    rw [if_neg (by omega), if_pos e] at h
    rw [nI_1]; exact h
  · have e : tk T v = 2 := (z_eq (b := 2) (by omega) (by decide)).mp c2
    rw [if_pos e] at h
    rw [show (2 : Int32) * nI (z_pc (mUs T v)) = nI (2 * z_pc (mUs T v)) from pk_mul 2 _]; exact h
  · rw [if_neg (fun e => c2 (by rw [e]; rfl)), if_neg (fun e => c (by rw [e]; rfl))] at h
    exact h
theorem G_Tr_usedBelow_0 {d : Nat} {a0 : Nat} {x1 : Int32} {w : xWd} {Q : xMV → xWd → Prop} (h : xWp (d + 1) m_Tr_usedBelow 4 [xA 5 a0, xI x1, xI 0, xI 0] [] w Q) : xWp (d + 1) m_Tr_usedBelow 0 [xA 5 a0, xI x1, xU, xU] [] w Q := by
  refine x_goN 4 (pc' := 4) (ls' := [xA 5 a0, xI x1, xI 0, xI 0]) (st' := []) (w' := w) rfl ?_
  exact h
theorem G_Tr_usedBelow_4 {d : Nat} {a0 : Nat} {x1 : Int32} {x2 : Int32} {x3 : Int32} {w : xWd} {Q : xMV → xWd → Prop} (h : ((w a0 8 ≤ x3 → Q (xI x2) w) ∧ (¬ (w a0 8 ≤ x3) → (vp_in x3 8 ∧ ((p_in (w (32 * a0 + 3) x3.toNatClampNeg) x1 → (vp_in x3 8 ∧ xWp (d + 1) m_Tr_usedBelow 4 [xA 5 a0, xI x1, xI (x2 ||| (w (32 * a0 + 7) x3.toNatClampNeg)), xI (x3 + 1)] [] w Q)) ∧ (¬ (p_in (w (32 * a0 + 3) x3.toNatClampNeg) x1) → xWp (d + 1) m_Tr_usedBelow 4 [xA 5 a0, xI x1, xI x2, xI (x3 + 1)] [] w Q)))))) : xWp (d + 1) m_Tr_usedBelow 4 [xA 5 a0, xI x1, xI x2, xI x3] [] w Q := by
  refine x_goN 4 (pc' := if w a0 8 ≤ x3 then 40 else 12) (ls' := [xA 5 a0, xI x1, xI x2, xI x3]) (st' := []) (w' := w) rfl ?_
  refine x_br (fun c1 => ?_) (fun c1 => ?_)
  · skip
    refine x_goN 1 (pc' := 41) (ls' := [xA 5 a0, xI x1, xI x2, xI x3]) (st' := [xI x2]) (w' := w) rfl ?_
    exact x_ret (P := True) rfl trivial (h.1 c1)
  · skip
    refine x_goN 3 (pc' := 17) (ls' := [xA 5 a0, xI x1, xI x2, xI x3]) (st' := [xI x3, xA 108 (32 * a0 + 3)]) (w' := w) rfl ?_
    refine x_ob (P := vp_in x3 8) (pc' := 18) (ls' := [xA 5 a0, xI x1, xI x2, xI x3]) (st' := [xI (w (32 * a0 + 3) x3.toNatClampNeg)]) (w' := w) rfl (h.2 c1).1 ?_
    refine x_goN 1 (pc' := 19) (ls' := [xA 5 a0, xI x1, xI x2, xI x3]) (st' := [xI x1, xI (w (32 * a0 + 3) x3.toNatClampNeg)]) (w' := w) rfl ?_
    refine x_call (y := m_Vp_inSet) (as := [xI (w (32 * a0 + 3) x3.toNatClampNeg), xI x1]) (rst := []) rfl [xI (w (32 * a0 + 3) x3.toNatClampNeg), xI x1] rfl ?_
    refine S_Vp_inSet (fun c2 => ?_) (fun c2 => ?_)
    · skip
      refine x_goN 1 (pc' := if (1 : Int32) = (0 : Int32) then 34 else 25) (ls' := [xA 5 a0, xI x1, xI x2, xI x3]) (st' := []) (w' := w) rfl ?_
      refine x_brF (by decide) ?_
      refine x_goN 4 (pc' := 31) (ls' := [xA 5 a0, xI x1, xI x2, xI x3]) (st' := [xI x3, xA 108 (32 * a0 + 7), xI x2]) (w' := w) rfl ?_
      refine x_ob (P := vp_in x3 8) (pc' := 32) (ls' := [xA 5 a0, xI x1, xI x2, xI x3]) (st' := [xI (w (32 * a0 + 7) x3.toNatClampNeg), xI x2]) (w' := w) rfl ((h.2 c1).2.1 c2).1 ?_
      refine x_goN 4 (pc' := 4) (ls' := [xA 5 a0, xI x1, xI (x2 ||| (w (32 * a0 + 7) x3.toNatClampNeg)), xI (x3 + 1)]) (st' := []) (w' := w) rfl ?_
      exact ((h.2 c1).2.1 c2).2
    · skip
      refine x_goN 1 (pc' := if (0 : Int32) = (0 : Int32) then 34 else 25) (ls' := [xA 5 a0, xI x1, xI x2, xI x3]) (st' := []) (w' := w) rfl ?_
      refine x_brT (by decide) ?_
      refine x_goN 2 (pc' := 4) (ls' := [xA 5 a0, xI x1, xI x2, xI (x3 + 1)]) (st' := []) (w' := w) rfl ?_
      exact ((h.2 c1).2.2 c2)
theorem mUb_or {T : xT} {l m : Nat} : nI (z_mk 8 (fun v => z_any m (fun q => tb T q l && tr T q v))) ||| nI (tU T m) = nI (z_mk 8 (fun v => z_any m (fun q => tb T q l && tr T q v) || tr T m v)) := by
  rw [fa_or]
  congr 1
  apply Nat.eq_of_testBit_eq
  intro i
  unfold tU
  rw [Nat.testBit_or, z_mk_tb, z_mk_tb, z_mk_tb]
  cases decide (i < 8) <;> rfl
theorem L_Tr_usedBelow {d t l : Nat} {T : xT} {w : xWd} {Q : xMV → xWd → Prop} (hR : tR w t T) (hl : l < 8) (h : Q (xI (nI (mUb T l))) w) : ∀ k m : Nat, m + k = tn T → xWp (d + 1) m_Tr_usedBelow 4 [xA 5 t, xI (nI l), xI (nI (z_mk 8 (fun v => z_any m (fun q => tb T q l && tr T q v)))), xI (nI m)] [] w Q := by
  have h8 := tR_n8 hR
  intro k
  induction k with
  | zero =>
    intro m hm
    have e : m = tn T := by omega
    subst e
    exact G_Tr_usedBelow_4 ⟨fun _ => h, fun c => absurd (tR_end hR) c⟩
  | succ k ih =>
    intro m hm
    have hlt : m < tn T := by omega
    refine G_Tr_usedBelow_4 ⟨fun c => absurd c (tR_ge hR hlt), fun c => ⟨z_in (by omega) (by decide), fun c1 => ⟨z_in (by omega) (by decide), ?_⟩, fun c1 => ?_⟩⟩
    · have hp := (tC_op hR hlt hl).mp c1
      rw [tC_s hR hlt, mUb_or, nI_1]
      have := ih (m + 1) (by omega)
      rw [show (fun v => z_any (m + 1) (fun q => tb T q l && tr T q v)) = (fun v => z_any m (fun q => tb T q l && tr T q v) || tr T m v) from by funext v; show (z_any m _ || (tb T m l && tr T m v)) = _; rw [hp, Bool.true_and]] at this
      exact this
    · have hp : tb T m l = false := by
        cases hb : tb T m l with
        | true => exact absurd ((tC_op hR hlt hl).mpr hb) c1
        | false => rfl
      rw [nI_1]
      have := ih (m + 1) (by omega)
      rw [show (fun v => z_any (m + 1) (fun q => tb T q l && tr T q v)) = (fun v => z_any m (fun q => tb T q l && tr T q v)) from by funext v; show (z_any m _ || (tb T m l && tr T m v)) = _; rw [hp, Bool.false_and, Bool.or_false]] at this
      exact this
theorem z_mk_0 (k : Nat) : z_mk k (fun _ => false) = 0 := by
  induction k with
  | zero => rfl
  | succ k ih => rw [z_mk_s, ih]; rfl
theorem S_Tr_usedBelow {d t l : Nat} {T : xT} {w : xWd} {Q : xMV → xWd → Prop} (hR : tR w t T) (hl : l < 8) (h : Q (xI (nI (mUb T l))) w) : xWp (d + 1) m_Tr_usedBelow 0 [xA 5 t, xI (nI l), xU, xU] [] w Q := by
  have := L_Tr_usedBelow (d := d) hR hl h (tn T) 0 (Nat.zero_add _)
  rw [show z_mk 8 (fun v => z_any 0 (fun q => tb T q l && tr T q v)) = 0 from z_mk_0 8] at this
  exact G_Tr_usedBelow_0 this
theorem G_Tr_liveBehind_0 {d : Nat} {a0 : Nat} {x1 : Int32} {w : xWd} {Q : xMV → xWd → Prop} (h : ((p_lt x1 (w a0 8) → (vp_in x1 8 ∧ xWp (d + 1) m_Tr_usedBelow 0 [xA 5 a0, xI x1, xU, xU] [] w (fun a w' => xWp (d + 2) m_Tr_liveBehind 22 [xA 5 a0, xI x1] (x_pu a [xI (w (32 * a0 + 3) x1.toNatClampNeg), xI ((1 : Int32) <<< (x1 &&& 31))]) w' Q))) ∧ (¬ (p_lt x1 (w a0 8)) → Q (xI 0) w))) : xWp (d + 2) m_Tr_liveBehind 0 [xA 5 a0, xI x1] [] w Q := by
  refine x_goN 2 (pc' := 2) (ls' := [xA 5 a0, xI x1]) (st' := [xI x1, xA 5 a0]) (w' := w) rfl ?_
  refine x_call (y := m_Tr_isLine) (as := [xA 5 a0, xI x1]) (rst := []) rfl [xA 5 a0, xI x1] rfl ?_
  refine S_Tr_isLine (fun c1 => ?_) (fun c1 => ?_)
  · skip
    refine x_goN 1 (pc' := if (1 : Int32) = (0 : Int32) then 27 else 8) (ls' := [xA 5 a0, xI x1]) (st' := []) (w' := w) rfl ?_
    refine x_brF (by decide) ?_
    refine x_goN 6 (pc' := 16) (ls' := [xA 5 a0, xI x1]) (st' := [xI x1, xA 108 (32 * a0 + 3), xI ((1 : Int32) <<< (x1 &&& 31))]) (w' := w) rfl ?_
    refine x_ob (P := vp_in x1 8) (pc' := 17) (ls' := [xA 5 a0, xI x1]) (st' := [xI (w (32 * a0 + 3) x1.toNatClampNeg), xI ((1 : Int32) <<< (x1 &&& 31))]) (w' := w) rfl (h.1 c1).1 ?_
    refine x_goN 2 (pc' := 19) (ls' := [xA 5 a0, xI x1]) (st' := [xI x1, xA 5 a0, xI (w (32 * a0 + 3) x1.toNatClampNeg), xI ((1 : Int32) <<< (x1 &&& 31))]) (w' := w) rfl ?_
    refine x_call (y := m_Tr_usedBelow) (as := [xA 5 a0, xI x1]) (rst := [xI (w (32 * a0 + 3) x1.toNatClampNeg), xI ((1 : Int32) <<< (x1 &&& 31))]) rfl [xA 5 a0, xI x1, xU, xU] rfl ?_
    exact (h.1 c1).2
  · skip
    refine x_goN 1 (pc' := if (0 : Int32) = (0 : Int32) then 27 else 8) (ls' := [xA 5 a0, xI x1]) (st' := []) (w' := w) rfl ?_
    refine x_brT (by decide) ?_
    refine x_goN 1 (pc' := 28) (ls' := [xA 5 a0, xI x1]) (st' := [xI 0]) (w' := w) rfl ?_
    exact x_ret (P := True) rfl trivial (h.2 c1)
theorem G_Tr_liveBehind_22 {d : Nat} {a0 : Nat} {x1 : Int32} {s2 : Int32} {s1 : Int32} {s0 : Int32} {w : xWd} {Q : xMV → xWd → Prop} (h : Q (xI (s0 ||| (s1 &&& s2))) w) : xWp (d + 2) m_Tr_liveBehind 22 [xA 5 a0, xI x1] [xI s2, xI s1, xI s0] w Q := by
  refine x_goN 3 (pc' := 28) (ls' := [xA 5 a0, xI x1]) (st' := [xI (s0 ||| (s1 &&& s2))]) (w' := w) rfl ?_
  exact x_ret (P := True) rfl trivial h
theorem mLv_eq {T : xT} {l : Nat} (hl : l < 8) : nI (2 ^ l) ||| (nI (tO T l) &&& nI (mUb T l)) = nI (mLv T l) := by
  rw [fa_and, fa_or]
  congr 1
  apply Nat.eq_of_testBit_eq
  intro i
  unfold mLv tO mUb
  rw [Nat.testBit_or, Nat.testBit_and, Nat.testBit_two_pow, z_mk_tb, z_mk_tb, z_mk_tb]
  by_cases hi : i < 8
  · rw [decide_eq_true hi, Bool.true_and, Bool.true_and, Bool.true_and]
    congr 1
    exact decide_eq_decide.mpr eq_comm
  · rw [decide_eq_false hi, decide_eq_false (by omega)]; rfl
theorem S_Tr_liveBehind {d t l : Nat} {T : xT} {w : xWd} {Q : xMV → xWd → Prop} (hR : tR w t T) (hl : l < tn T) (h : Q (xI (nI (mLv T l))) w) : xWp (d + 2) m_Tr_liveBehind 0 [xA 5 t, xI (nI l)] [] w Q := by
  have h8 := tR_n8 hR
  refine G_Tr_liveBehind_0 ⟨fun _ => ⟨z_in (by omega) (by decide), S_Tr_usedBelow hR (by omega) ?_⟩, fun c => absurd (tR_lt hR hl) c⟩
  refine G_Tr_liveBehind_22 ?_
  rw [tC_o hR hl, z_shl l (by omega), mLv_eq (by omega)]
  exact h
theorem G_Tr_pressure_0 {d : Nat} {a0 : Nat} {x1 : Int32} {w : xWd} {Q : xMV → xWd → Prop} (h : xWp (d + 2) m_Tr_liveBehind 0 [xA 5 a0, xI x1] [] w (fun a w' => xWp (d + 3) m_Tr_pressure 5 [xA 5 a0, xI x1] (x_pu a []) w' Q)) : xWp (d + 3) m_Tr_pressure 0 [xA 5 a0, xI x1] [] w Q := by
  refine x_goN 2 (pc' := 2) (ls' := [xA 5 a0, xI x1]) (st' := [xI x1, xA 5 a0]) (w' := w) rfl ?_
  refine x_call (y := m_Tr_liveBehind) (as := [xA 5 a0, xI x1]) (rst := []) rfl [xA 5 a0, xI x1] rfl ?_
  exact h
theorem G_Tr_pressure_5 {d : Nat} {a0 : Nat} {x1 : Int32} {s0 : Int32} {w : xWd} {Q : xMV → xWd → Prop} (h : xWp (d + 2) m_Jn_bitCount 0 [xI s0] [] w (fun a w' => xWp (d + 3) m_Tr_pressure 8 [xA 5 a0, xI x1] (x_pu a []) w' Q)) : xWp (d + 3) m_Tr_pressure 5 [xA 5 a0, xI x1] [xI s0] w Q := by
  refine x_call (y := m_Jn_bitCount) (as := [xI s0]) (rst := []) rfl [xI s0] rfl ?_
  exact h
theorem G_Tr_pressure_8 {d : Nat} {a0 : Nat} {x1 : Int32} {s0 : Int32} {w : xWd} {Q : xMV → xWd → Prop} (h : Q (xI s0) w) : xWp (d + 3) m_Tr_pressure 8 [xA 5 a0, xI x1] [xI s0] w Q := by
  exact x_ret (P := True) rfl trivial h
theorem S_Tr_pressure {d t l : Nat} {T : xT} {w : xWd} {Q : xMV → xWd → Prop} (hR : tR w t T) (hl : l < tn T) (h : Q (xI (nI (z_pc (mLv T l)))) w) : xWp (d + 3) m_Tr_pressure 0 [xA 5 t, xI (nI l)] [] w Q := by
  refine G_Tr_pressure_0 (S_Tr_liveBehind hR hl ?_)
  refine G_Tr_pressure_5 (S_Jn_bitCount ?_)
  rw [v_bc_ok _ (mLv_lt T l)]
  exact G_Tr_pressure_8 h
end
section
/-! THE CLASS'S LINES: pressure, crossings, colours, later uses -/
theorem z_max {a b : Nat} (ha : a < 2 ^ 31) (hb : b < 2 ^ 31) : (if nI a < nI b then nI b else nI a) = nI (max a b) := by
  by_cases h : a < b
  · rw [if_pos ((z_lt ha hb).mpr h), Nat.max_eq_right (by omega)]
  · rw [if_neg (fun q => h ((z_lt ha hb).mp q)), Nat.max_eq_left (by omega)]
theorem z_min {a b : Nat} (ha : a < 2 ^ 31) (hb : b < 2 ^ 31) : (if nI b < nI a then nI b else nI a) = nI (min a b) := by
  by_cases h : b < a
  · rw [if_pos ((z_lt hb ha).mpr h), Nat.min_eq_right (by omega)]
  · rw [if_neg (fun q => h ((z_lt hb ha).mp q)), Nat.min_eq_left (by omega)]
theorem z_mx_s (k : Nat) (f : Nat → Nat) : z_mx (k + 1) f = max (z_mx k f) (f k) := rfl
theorem z_sm_s (k : Nat) (f : Nat → Nat) : z_sm (k + 1) f = z_sm k f + f k := rfl
def fMx (T : xT) : Nat := z_mx (tn T) (fun l => z_pc (mLv T l))
theorem G_Tr_greatestPressure_0 {d : Nat} {a0 : Nat} {w : xWd} {Q : xMV → xWd → Prop} (h : xWp (d + 4) m_Tr_greatestPressure 4 [xA 5 a0, xI 0, xI 0] [] w Q) : xWp (d + 4) m_Tr_greatestPressure 0 [xA 5 a0, xU, xU] [] w Q := by
  refine x_goN 4 (pc' := 4) (ls' := [xA 5 a0, xI 0, xI 0]) (st' := []) (w' := w) rfl ?_
  exact h
theorem G_Tr_greatestPressure_4 {d : Nat} {a0 : Nat} {x1 : Int32} {x2 : Int32} {w : xWd} {Q : xMV → xWd → Prop} (h : ((w a0 8 ≤ x2 → Q (xI x1) w) ∧ (¬ (w a0 8 ≤ x2) → xWp (d + 3) m_Tr_pressure 0 [xA 5 a0, xI x2] [] w (fun a w' => xWp (d + 4) m_Tr_greatestPressure 18 [xA 5 a0, xI x1, xI x2] (x_pu a [xI x1]) w' Q)))) : xWp (d + 4) m_Tr_greatestPressure 4 [xA 5 a0, xI x1, xI x2] [] w Q := by
  refine x_goN 4 (pc' := if w a0 8 ≤ x2 then 28 else 12) (ls' := [xA 5 a0, xI x1, xI x2]) (st' := []) (w' := w) rfl ?_
  refine x_br (fun c1 => ?_) (fun c1 => ?_)
  · skip
    refine x_goN 1 (pc' := 29) (ls' := [xA 5 a0, xI x1, xI x2]) (st' := [xI x1]) (w' := w) rfl ?_
    exact x_ret (P := True) rfl trivial (h.1 c1)
  · skip
    refine x_goN 3 (pc' := 15) (ls' := [xA 5 a0, xI x1, xI x2]) (st' := [xI x2, xA 5 a0, xI x1]) (w' := w) rfl ?_
    refine x_call (y := m_Tr_pressure) (as := [xA 5 a0, xI x2]) (rst := [xI x1]) rfl [xA 5 a0, xI x2] rfl ?_
    exact (h.2 c1)
theorem G_Tr_greatestPressure_18 {d : Nat} {a0 : Nat} {x1 : Int32} {x2 : Int32} {s1 : Int32} {s0 : Int32} {w : xWd} {Q : xMV → xWd → Prop} (h : xWp (d + 4) m_Tr_greatestPressure 4 [xA 5 a0, xI (if s0 < s1 then s1 else s0), xI (x2 + 1)] [] w Q) : xWp (d + 4) m_Tr_greatestPressure 18 [xA 5 a0, xI x1, xI x2] [xI s1, xI s0] w Q := by
  refine x_ob (P := 1 ≤ (d + 4)) (pc' := 21) (ls' := [xA 5 a0, xI x1, xI x2]) (st' := [xI (if s0 < s1 then s1 else s0)]) (w' := w) rfl (Nat.succ_le_succ (Nat.zero_le _)) ?_
  refine x_goN 3 (pc' := 4) (ls' := [xA 5 a0, xI (if s0 < s1 then s1 else s0), xI (x2 + 1)]) (st' := []) (w' := w) rfl ?_
  exact h
theorem L_Tr_greatestPressure {d t : Nat} {T : xT} {w : xWd} {Q : xMV → xWd → Prop} (hR : tR w t T) (h : Q (xI (nI (fMx T))) w) : ∀ k l : Nat, l + k = tn T → xWp (d + 4) m_Tr_greatestPressure 4 [xA 5 t, xI (nI (z_mx l (fun l => z_pc (mLv T l)))), xI (nI l)] [] w Q := by
  have h8 := tR_n8 hR
  intro k
  induction k with
  | zero =>
    intro l hl
    have e : l = tn T := by omega
    subst e
    exact G_Tr_greatestPressure_4 ⟨fun _ => h, fun c => absurd (tR_end hR) c⟩
  | succ k ih =>
    intro l hl
    have hlt : l < tn T := by omega
    refine G_Tr_greatestPressure_4 ⟨fun c => absurd c (tR_ge hR hlt), fun c => S_Tr_pressure hR hlt ?_⟩
    refine G_Tr_greatestPressure_18 ?_
    have b1 := z_mx_le l 8 (fun l => z_pc (mLv T l)) (fun j _ => z_pc_le _)
    have b2 := z_pc_le (mLv T l)
    rw [z_max (by omega) (by omega), nI_1]
    exact ih (l + 1) (by omega)
theorem S_Tr_greatestPressure {d t : Nat} {T : xT} {w : xWd} {Q : xMV → xWd → Prop} (hR : tR w t T) (h : Q (xI (nI (fMx T))) w) : xWp (d + 4) m_Tr_greatestPressure 0 [xA 5 t, xU, xU] [] w Q :=
  G_Tr_greatestPressure_0 (L_Tr_greatestPressure hR h (tn T) 0 (Nat.zero_add _))
theorem G_Tr_crossing_0 {d : Nat} {a0 : Nat} {x1 : Int32} {w : xWd} {Q : xMV → xWd → Prop} (h : xWp (d + 3) m_Tr_crossing 4 [xA 5 a0, xI x1, xI 0, xI 0, xU] [] w Q) : xWp (d + 3) m_Tr_crossing 0 [xA 5 a0, xI x1, xU, xU, xU] [] w Q := by
  refine x_goN 4 (pc' := 4) (ls' := [xA 5 a0, xI x1, xI 0, xI 0, xU]) (st' := []) (w' := w) rfl ?_
  exact h
theorem G_Tr_crossing_4 {d : Nat} {a0 : Nat} {x1 : Int32} {x2 : Int32} {x3 : Int32} {w : xWd} {Q : xMV → xWd → Prop} (h : ((w a0 8 ≤ x3 → Q (xI x2) w) ∧ (¬ (w a0 8 ≤ x3) → xWp (d + 2) m_Tr_liveBehind 0 [xA 5 a0, xI x3] [] w (fun a w' => xWp (d + 3) m_Tr_crossing 17 [xA 5 a0, xI x1, xI x2, xI x3, xU] (x_pu a []) w' Q)))) : xWp (d + 3) m_Tr_crossing 4 [xA 5 a0, xI x1, xI x2, xI x3, xU] [] w Q := by
  refine x_goN 4 (pc' := if w a0 8 ≤ x3 then 45 else 12) (ls' := [xA 5 a0, xI x1, xI x2, xI x3, xU]) (st' := []) (w' := w) rfl ?_
  refine x_br (fun c1 => ?_) (fun c1 => ?_)
  · skip
    refine x_goN 1 (pc' := 46) (ls' := [xA 5 a0, xI x1, xI x2, xI x3, xU]) (st' := [xI x2]) (w' := w) rfl ?_
    exact x_ret (P := True) rfl trivial (h.1 c1)
  · skip
    refine x_goN 2 (pc' := 14) (ls' := [xA 5 a0, xI x1, xI x2, xI x3, xU]) (st' := [xI x3, xA 5 a0]) (w' := w) rfl ?_
    refine x_call (y := m_Tr_liveBehind) (as := [xA 5 a0, xI x3]) (rst := []) rfl [xA 5 a0, xI x3] rfl ?_
    exact (h.2 c1)
theorem G_Tr_crossing_17 {d : Nat} {a0 : Nat} {x1 : Int32} {x2 : Int32} {x3 : Int32} {s0 : Int32} {w : xWd} {Q : xMV → xWd → Prop} (h : ((p_in s0 x1 → xWp (d + 3) m_Tr_crossing 4 [xA 5 a0, xI x1, xI (x2 ||| (s0 &&& (((1 : Int32) <<< (x1 &&& 31)) ^^^ (-1)))), xI (x3 + 1), xU] [] w Q) ∧ (¬ (p_in s0 x1) → xWp (d + 3) m_Tr_crossing 4 [xA 5 a0, xI x1, xI x2, xI (x3 + 1), xU] [] w Q))) : xWp (d + 3) m_Tr_crossing 17 [xA 5 a0, xI x1, xI x2, xI x3, xU] [xI s0] w Q := by
  refine x_goN 3 (pc' := 22) (ls' := [xA 5 a0, xI x1, xI x2, xI x3, xI s0]) (st' := [xI x1, xI s0]) (w' := w) rfl ?_
  refine x_call (y := m_Vp_inSet) (as := [xI s0, xI x1]) (rst := []) rfl [xI s0, xI x1] rfl ?_
  refine S_Vp_inSet (fun c1 => ?_) (fun c1 => ?_)
  · skip
    refine x_goN 1 (pc' := if (1 : Int32) = (0 : Int32) then 39 else 28) (ls' := [xA 5 a0, xI x1, xI x2, xI x3, xI s0]) (st' := []) (w' := w) rfl ?_
    refine x_brF (by decide) ?_
    refine x_goN 12 (pc' := 4) (ls' := [xA 5 a0, xI x1, xI (x2 ||| (s0 &&& (((1 : Int32) <<< (x1 &&& 31)) ^^^ (-1)))), xI (x3 + 1), xI s0]) (st' := []) (w' := w) rfl ?_
    exact x_weak ((h.1 c1)) ⟨Or.inl rfl, Or.inl rfl, Or.inl rfl, Or.inl rfl, Or.inr ⟨rfl, rfl⟩, trivial⟩
  · skip
    refine x_goN 1 (pc' := if (0 : Int32) = (0 : Int32) then 39 else 28) (ls' := [xA 5 a0, xI x1, xI x2, xI x3, xI s0]) (st' := []) (w' := w) rfl ?_
    refine x_brT (by decide) ?_
    refine x_goN 2 (pc' := 4) (ls' := [xA 5 a0, xI x1, xI x2, xI (x3 + 1), xI s0]) (st' := []) (w' := w) rfl ?_
    exact x_weak ((h.2 c1)) ⟨Or.inl rfl, Or.inl rfl, Or.inl rfl, Or.inl rfl, Or.inr ⟨rfl, rfl⟩, trivial⟩
def mCrn (T : xT) (v m : Nat) : Nat := z_mk 8 (fun u => decide (u ≠ v) && z_any m (fun l => (mLv T l).testBit v && (mLv T l).testBit u))
theorem mCrn_s {T : xT} {v m : Nat} (hv : v < 8) (h : (mLv T m).testBit v = true) : nI (mCrn T v m) ||| nI (z_cl (mLv T m) v) = nI (mCrn T v (m + 1)) := by
  rw [fa_or]
  congr 1
  have b1 : mCrn T v m < 256 := z_mk_lt8 (Nat.le_refl _) _
  have b2 : mCrn T v (m + 1) < 256 := z_mk_lt8 (Nat.le_refl _) _
  have b3 := z_cl_lt (mLv T m) (mLv_lt T m) v hv
  apply z_ext (Nat.or_lt_two_pow (n := 8) b1 b3) b2
  intro j hj
  unfold mCrn
  rw [Nat.testBit_or, z_mk_tb, z_mk_tb, z_cl_tb _ (mLv_lt T m) v hv j hj, decide_eq_true hj, Bool.true_and, Bool.true_and]
  show _ = (decide (j ≠ v) && (z_any m _ || ((mLv T m).testBit v && (mLv T m).testBit j)))
  rw [h, Bool.true_and]
  cases decide (j ≠ v) <;> cases (mLv T m).testBit j <;> cases z_any m (fun l => (mLv T l).testBit v && (mLv T l).testBit j) <;> rfl
theorem mCrn_n {T : xT} {v m : Nat} (h : ¬ (mLv T m).testBit v = true) : mCrn T v m = mCrn T v (m + 1) := by
  unfold mCrn
  apply z_mk_congr
  intro j _
  show _ = (decide (j ≠ v) && (z_any m _ || ((mLv T m).testBit v && (mLv T m).testBit j)))
  rw [Bool.eq_false_iff.mpr h, Bool.false_and, Bool.or_false]
theorem L_Tr_crossing {d t v : Nat} {T : xT} {w : xWd} {Q : xMV → xWd → Prop} (hR : tR w t T) (hv : v < 8) (h : Q (xI (nI (mCr T v))) w) : ∀ k m : Nat, m + k = tn T → xWp (d + 3) m_Tr_crossing 4 [xA 5 t, xI (nI v), xI (nI (mCrn T v m)), xI (nI m), xU] [] w Q := by
  have h8 := tR_n8 hR
  intro k
  induction k with
  | zero =>
    intro m hm
    have e : m = tn T := by omega
    subst e
    exact G_Tr_crossing_4 ⟨fun _ => h, fun c => absurd (tR_end hR) c⟩
  | succ k ih =>
    intro m hm
    have hlt : m < tn T := by omega
    refine G_Tr_crossing_4 ⟨fun c => absurd c (tR_ge hR hlt), fun c => S_Tr_liveBehind hR hlt ?_⟩
    refine G_Tr_crossing_17 ⟨fun c1 => ?_, fun c1 => ?_⟩
    · have hp := (z_bit' (mLv_lt T m) hv).mp c1
      rw [z_shl v (by omega), z_clr _ (mLv_lt T m) v hv, mCrn_s hv hp, nI_1]
      exact ih (m + 1) (by omega)
    · have hp := fun q => c1 ((z_bit' (mLv_lt T m) hv).mpr q)
      rw [mCrn_n hp, nI_1]
      exact ih (m + 1) (by omega)
theorem S_Tr_crossing {d t v : Nat} {T : xT} {w : xWd} {Q : xMV → xWd → Prop} (hR : tR w t T) (hv : v < 8) (h : Q (xI (nI (mCr T v))) w) : xWp (d + 3) m_Tr_crossing 0 [xA 5 t, xI (nI v), xU, xU, xU] [] w Q := by
  have := L_Tr_crossing (d := d) hR hv h (tn T) 0 (Nat.zero_add _)
  rw [show mCrn T v 0 = 0 from (z_mk_congr 8 (q := fun _ => false) (fun j _ => Bool.and_false _)).trans (z_mk_0 8)] at this
  exact G_Tr_crossing_0 this
theorem G_Tr_howManyCross_0 {d : Nat} {a0 : Nat} {w : xWd} {Q : xMV → xWd → Prop} (h : xWp (d + 4) m_Tr_howManyCross 4 [xA 5 a0, xI 0, xI 0] [] w Q) : xWp (d + 4) m_Tr_howManyCross 0 [xA 5 a0, xU, xU] [] w Q := by
  refine x_goN 4 (pc' := 4) (ls' := [xA 5 a0, xI 0, xI 0]) (st' := []) (w' := w) rfl ?_
  exact h
theorem G_Tr_howManyCross_4 {d : Nat} {a0 : Nat} {x1 : Int32} {x2 : Int32} {w : xWd} {Q : xMV → xWd → Prop} (h : ((w a0 8 ≤ x2 → Q (xI (x1 / 2)) w) ∧ (¬ (w a0 8 ≤ x2) → xWp (d + 3) m_Tr_crossing 0 [xA 5 a0, xI x2, xU, xU, xU] [] w (fun a w' => xWp (d + 4) m_Tr_howManyCross 18 [xA 5 a0, xI x1, xI x2] (x_pu a [xI x1]) w' Q)))) : xWp (d + 4) m_Tr_howManyCross 4 [xA 5 a0, xI x1, xI x2] [] w Q := by
  refine x_goN 4 (pc' := if w a0 8 ≤ x2 then 29 else 12) (ls' := [xA 5 a0, xI x1, xI x2]) (st' := []) (w' := w) rfl ?_
  refine x_br (fun c1 => ?_) (fun c1 => ?_)
  · skip
    refine x_goN 2 (pc' := 31) (ls' := [xA 5 a0, xI x1, xI x2]) (st' := [xI 2, xI x1]) (w' := w) rfl ?_
    refine x_ob (P := ¬ (2 : Int32) = 0) (pc' := 32) (ls' := [xA 5 a0, xI x1, xI x2]) (st' := [xI (x1 / 2)]) (w' := w) rfl (by decide) ?_
    exact x_ret (P := True) rfl trivial (h.1 c1)
  · skip
    refine x_goN 3 (pc' := 15) (ls' := [xA 5 a0, xI x1, xI x2]) (st' := [xI x2, xA 5 a0, xI x1]) (w' := w) rfl ?_
    refine x_call (y := m_Tr_crossing) (as := [xA 5 a0, xI x2]) (rst := [xI x1]) rfl [xA 5 a0, xI x2, xU, xU, xU] rfl ?_
    exact (h.2 c1)
theorem G_Tr_howManyCross_18 {d : Nat} {a0 : Nat} {x1 : Int32} {x2 : Int32} {s1 : Int32} {s0 : Int32} {w : xWd} {Q : xMV → xWd → Prop} (h : xWp (d + 3) m_Jn_bitCount 0 [xI s1] [] w (fun a w' => xWp (d + 4) m_Tr_howManyCross 21 [xA 5 a0, xI x1, xI x2] (x_pu a [xI s0]) w' Q)) : xWp (d + 4) m_Tr_howManyCross 18 [xA 5 a0, xI x1, xI x2] [xI s1, xI s0] w Q := by
  refine x_call (y := m_Jn_bitCount) (as := [xI s1]) (rst := [xI s0]) rfl [xI s1] rfl ?_
  exact h
theorem G_Tr_howManyCross_21 {d : Nat} {a0 : Nat} {x1 : Int32} {x2 : Int32} {s1 : Int32} {s0 : Int32} {w : xWd} {Q : xMV → xWd → Prop} (h : xWp (d + 4) m_Tr_howManyCross 4 [xA 5 a0, xI (s0 + s1), xI (x2 + 1)] [] w Q) : xWp (d + 4) m_Tr_howManyCross 21 [xA 5 a0, xI x1, xI x2] [xI s1, xI s0] w Q := by
  refine x_goN 4 (pc' := 4) (ls' := [xA 5 a0, xI (s0 + s1), xI (x2 + 1)]) (st' := []) (w' := w) rfl ?_
  exact h
def nCr (T : xT) : Nat := z_sm (tn T) (fun v => z_pc (mCr T v)) / 2
theorem L_Tr_howManyCross {d t : Nat} {T : xT} {w : xWd} {Q : xMV → xWd → Prop} (hR : tR w t T) (h : Q (xI (nI (nCr T))) w) : ∀ k v : Nat, v + k = tn T → xWp (d + 4) m_Tr_howManyCross 4 [xA 5 t, xI (nI (z_sm v (fun v => z_pc (mCr T v)))), xI (nI v)] [] w Q := by
  have h8 := tR_n8 hR
  intro k
  induction k with
  | zero =>
    intro v hv
    have e : v = tn T := by omega
    subst e
    have b := z_sm_le (tn T) 8 (fun v => z_pc (mCr T v)) (fun j _ => z_pc_le _)
    refine G_Tr_howManyCross_4 ⟨fun _ => ?_, fun c => absurd (tR_end hR) c⟩
    rw [show nI (z_sm (tn T) (fun v => z_pc (mCr T v))) / 2 = nI (nCr T) from pk_div (d := 2) (by omega) (by decide) (by decide)]
    exact h
  | succ k ih =>
    intro v hv
    have hlt : v < tn T := by omega
    refine G_Tr_howManyCross_4 ⟨fun c => absurd c (tR_ge hR hlt), fun c => S_Tr_crossing hR (by omega) ?_⟩
    refine G_Tr_howManyCross_18 (S_Jn_bitCount ?_)
    refine G_Tr_howManyCross_21 ?_
    rw [v_bc_ok _ (mCr_lt T v), nI_add, nI_1]
    exact ih (v + 1) (by omega)
theorem S_Tr_howManyCross {d t : Nat} {T : xT} {w : xWd} {Q : xMV → xWd → Prop} (hR : tR w t T) (h : Q (xI (nI (nCr T))) w) : xWp (d + 4) m_Tr_howManyCross 0 [xA 5 t, xU, xU] [] w Q :=
  G_Tr_howManyCross_0 (L_Tr_howManyCross hR h (tn T) 0 (Nat.zero_add _))
/-! colours -/
def tTk (T : xT) (l : Nat) (c : Nat → Nat) (m : Nat) : Nat := z_mk 8 (fun q => z_any m (fun v => (mLv T l).testBit v && decide (c v = q)))
def t_cl (T : xT) : Nat → Nat → Nat
  | 0, _ => 0
  | k + 1, j => if j = k then z_lz (tTk T k (t_cl T k) k) else t_cl T k j
/-- the colour of line l -/
def tCl (T : xT) (l : Nat) : Nat := t_cl T (l + 1) l
theorem t_cl_lt {T : xT} : ∀ (k j : Nat), j < k → t_cl T k j = tCl T j
  | 0, j, h => absurd h (Nat.not_lt_zero _)
  | k + 1, j, h => by
    by_cases e : j = k
    · subst e; rfl
    · show (if j = k then _ else t_cl T k j) = _
      rw [if_neg e]
      exact t_cl_lt k j (by omega)
theorem z_any_congr : ∀ (k : Nat) {p q : Nat → Bool}, (∀ j, j < k → p j = q j) → z_any k p = z_any k q
  | 0, _, _, _ => rfl
  | k + 1, p, q, h => by
    show (z_any k p || p k) = (z_any k q || q k)
    rw [h k (by omega), z_any_congr k (fun j hj => h j (by omega))]
theorem tTk_congr {T : xT} {l m : Nat} {c c' : Nat → Nat} (h : ∀ v, v < m → c v = c' v) : tTk T l c m = tTk T l c' m := by
  unfold tTk
  exact z_mk_congr 8 (fun q _ => z_any_congr m (fun v hv => by rw [h v hv]))
theorem tCl_eq (T : xT) (l : Nat) : tCl T l = z_lz (tTk T l (tCl T) l) := by
  show (if l = l then z_lz (tTk T l (t_cl T l) l) else _) = _
  rw [if_pos rfl, tTk_congr (c' := tCl T) (fun v hv => t_cl_lt l v hv)]
theorem z_lz_le : ∀ m, m < 256 → ∀ k, k < 8 → m.testBit k = false → z_lz m ≤ k := by decide +kernel
theorem tTk_lt (T : xT) (l m : Nat) (c : Nat → Nat) : tTk T l c m < 256 := z_mk_lt8 (Nat.le_refl _) _
theorem tCl_le {T : xT} : ∀ (f l : Nat), l ≤ f → l < 8 → tCl T l ≤ l
  | f, l, hf, h8 => by
    rw [tCl_eq]
    apply z_lz_le _ (tTk_lt _ _ _ _) l h8
    unfold tTk
    rw [z_mk_tb, Bool.and_eq_false_iff]
    right
    apply Bool.eq_false_iff.mpr
    intro hq
    obtain ⟨v, hv, hh⟩ := (z_any_iff _ _).mp hq
    rw [Bool.and_eq_true] at hh
    have e := of_decide_eq_true hh.2
    cases f with
    | zero => omega
    | succ f =>
      have := tCl_le (T := T) f v (by omega) (by omega)
      omega
theorem tCl_lt {T : xT} {l : Nat} (h : l < 8) : tCl T l < 8 := by
  have := tCl_le (T := T) l l (Nat.le_refl _) h
  omega
theorem tTk_s {T : xT} {l m : Nat} (hm : m < 8) (h : (mLv T l).testBit m = true) : nI (tTk T l (tCl T) m) ||| nI (2 ^ tCl T m) = nI (tTk T l (tCl T) (m + 1)) := by
  rw [fa_or]
  congr 1
  apply Nat.eq_of_testBit_eq
  intro i
  unfold tTk
  have hc := tCl_lt (T := T) hm
  rw [Nat.testBit_or, z_mk_tb, z_mk_tb, Nat.testBit_two_pow]
  show _ = (decide (i < 8) && (z_any m _ || ((mLv T l).testBit m && decide (tCl T m = i))))
  rw [h, Bool.true_and]
  by_cases hi : i < 8
  · rw [decide_eq_true hi, Bool.true_and, Bool.true_and]
  · rw [decide_eq_false hi, Bool.false_and, Bool.false_and, Bool.false_or]
    exact decide_eq_false (by omega)
theorem tTk_n {T : xT} {l m : Nat} (h : ¬ (mLv T l).testBit m = true) : tTk T l (tCl T) m = tTk T l (tCl T) (m + 1) := by
  unfold tTk
  apply z_mk_congr
  intro j _
  show _ = (z_any m _ || ((mLv T l).testBit m && _))
  rw [Bool.eq_false_iff.mpr h, Bool.false_and, Bool.or_false]
/-- the tree is told by its cells alone -/
theorem tR_fr {w w' : xWd} {t : Nat} {T : xT} (h : tR w t T) (he : w' t = w t) (ha : ∀ i, i < 7 → w' (32 * t + (i + 1)) = w (32 * t + (i + 1))) : tR w' t T := by
  refine ⟨⟨by rw [he]; exact h.1.1, fun l hl => ?_⟩, h.2⟩
  have e1 : w' (32 * t + 1) = _ := ha 0 (by decide)
  have e2 : w' (32 * t + 2) = _ := ha 1 (by decide)
  have e3 : w' (32 * t + 3) = _ := ha 2 (by decide)
  have e4 : w' (32 * t + 4) = _ := ha 3 (by decide)
  have e5 : w' (32 * t + 5) = _ := ha 4 (by decide)
  have e6 : w' (32 * t + 6) = _ := ha 5 (by decide)
  have e7 : w' (32 * t + 7) = _ := ha 6 (by decide)
  rw [e1, e2, e3, e4, e5, e6, e7]
  exact h.1.2 l hl
theorem x_set_o {w : xWd} {a b j : Nat} {v : Int32} (h : b ≠ a) : (x_set w a j v) b = w b := if_neg h
theorem x_set_s {w : xWd} {a j : Nat} {v : Int32} : (x_set w a j v) a = upd (w a) j v := if_pos rfl
theorem x_put_o {w : xWd} {a b : Nat} {f : Nat → Int32} (h : b ≠ a) : (x_put w a f) b = w b := if_neg h
theorem upd_s {f : Nat → Int32} {k : Nat} {v : Int32} : upd f k v k = v := if_pos rfl
theorem upd_o {f : Nat → Int32} {k j : Nat} {v : Int32} (h : j ≠ k) : upd f k v j = f j := if_neg h
theorem G_Tr_giveColours_0 {d : Nat} {a0 : Nat} {w : xWd} {Q : xMV → xWd → Prop} (h : xWp (d + 3) m_Tr_giveColours 2 [xA 5 a0, xI 0, xU, xU, xU] [] w Q) : xWp (d + 3) m_Tr_giveColours 0 [xA 5 a0, xU, xU, xU, xU] [] w Q := by
  refine x_goN 2 (pc' := 2) (ls' := [xA 5 a0, xI 0, xU, xU, xU]) (st' := []) (w' := w) rfl ?_
  exact h
theorem G_Tr_giveColours_2 {d : Nat} {a0 : Nat} {x1 : Int32} {w : xWd} {Q : xMV → xWd → Prop} (h : ((w a0 8 ≤ x1 → Q xU w) ∧ (¬ (w a0 8 ≤ x1) → xWp (d + 2) m_Tr_liveBehind 0 [xA 5 a0, xI x1] [] w (fun a w' => xWp (d + 3) m_Tr_giveColours 17 [xA 5 a0, xI x1, xI 0, xU, xU] (x_pu a []) w' Q)))) : xWp (d + 3) m_Tr_giveColours 2 [xA 5 a0, xI x1, xU, xU, xU] [] w Q := by
  refine x_goN 4 (pc' := if w a0 8 ≤ x1 then 72 else 10) (ls' := [xA 5 a0, xI x1, xU, xU, xU]) (st' := []) (w' := w) rfl ?_
  refine x_br (fun c1 => ?_) (fun c1 => ?_)
  · skip
    exact x_ret (P := True) rfl trivial (h.1 c1)
  · skip
    refine x_goN 4 (pc' := 14) (ls' := [xA 5 a0, xI x1, xI 0, xU, xU]) (st' := [xI x1, xA 5 a0]) (w' := w) rfl ?_
    refine x_call (y := m_Tr_liveBehind) (as := [xA 5 a0, xI x1]) (rst := []) rfl [xA 5 a0, xI x1] rfl ?_
    exact (h.2 c1)
theorem G_Tr_giveColours_17 {d : Nat} {a0 : Nat} {x1 : Int32} {x2 : Int32} {s0 : Int32} {w : xWd} {Q : xMV → xWd → Prop} (h : xWp (d + 3) m_Tr_giveColours 21 [xA 5 a0, xI x1, xI x2, xI s0, xI 0] [] w Q) : xWp (d + 3) m_Tr_giveColours 17 [xA 5 a0, xI x1, xI x2, xU, xU] [xI s0] w Q := by
  refine x_goN 3 (pc' := 21) (ls' := [xA 5 a0, xI x1, xI x2, xI s0, xI 0]) (st' := []) (w' := w) rfl ?_
  exact h
theorem G_Tr_giveColours_21 {d : Nat} {a0 : Nat} {x1 : Int32} {x2 : Int32} {x3 : Int32} {x4 : Int32} {w : xWd} {Q : xMV → xWd → Prop} (h : ((x1 ≤ x4 → xWp (d + 2) m_Jn_numberOfTrailingZeros 0 [xI (x2 ^^^ (-1)), xU] [] w (fun a w' => xWp (d + 3) m_Tr_giveColours 65 [xA 5 a0, xI x1, xI x2, xI x3, xI x4] (x_pu a [xI x1, xA 108 (32 * a0 + 8)]) w' Q)) ∧ (¬ (x1 ≤ x4) → ((p_in x3 x4 → (vp_in x4 8 ∧ xWp (d + 3) m_Tr_giveColours 21 [xA 5 a0, xI x1, xI (x2 ||| ((1 : Int32) <<< ((w (32 * a0 + 8) x4.toNatClampNeg) &&& 31))), xI x3, xI (x4 + 1)] [] w Q)) ∧ (¬ (p_in x3 x4) → xWp (d + 3) m_Tr_giveColours 21 [xA 5 a0, xI x1, xI x2, xI x3, xI (x4 + 1)] [] w Q))))) : xWp (d + 3) m_Tr_giveColours 21 [xA 5 a0, xI x1, xI x2, xI x3, xI x4] [] w Q := by
  refine x_goN 3 (pc' := if x1 ≤ x4 then 54 else 27) (ls' := [xA 5 a0, xI x1, xI x2, xI x3, xI x4]) (st' := []) (w' := w) rfl ?_
  refine x_br (fun c1 => ?_) (fun c1 => ?_)
  · skip
    refine x_goN 6 (pc' := 62) (ls' := [xA 5 a0, xI x1, xI x2, xI x3, xI x4]) (st' := [xI (x2 ^^^ (-1)), xI x1, xA 108 (32 * a0 + 8)]) (w' := w) rfl ?_
    refine x_call (y := m_Jn_numberOfTrailingZeros) (as := [xI (x2 ^^^ (-1))]) (rst := [xI x1, xA 108 (32 * a0 + 8)]) rfl [xI (x2 ^^^ (-1)), xU] rfl ?_
    exact (h.1 c1)
  · skip
    refine x_goN 2 (pc' := 30) (ls' := [xA 5 a0, xI x1, xI x2, xI x3, xI x4]) (st' := [xI x4, xI x3]) (w' := w) rfl ?_
    refine x_call (y := m_Vp_inSet) (as := [xI x3, xI x4]) (rst := []) rfl [xI x3, xI x4] rfl ?_
    refine S_Vp_inSet (fun c2 => ?_) (fun c2 => ?_)
    · skip
      refine x_goN 1 (pc' := if (1 : Int32) = (0 : Int32) then 48 else 36) (ls' := [xA 5 a0, xI x1, xI x2, xI x3, xI x4]) (st' := []) (w' := w) rfl ?_
      refine x_brF (by decide) ?_
      refine x_goN 5 (pc' := 44) (ls' := [xA 5 a0, xI x1, xI x2, xI x3, xI x4]) (st' := [xI x4, xA 108 (32 * a0 + 8), xI 1, xI x2]) (w' := w) rfl ?_
      refine x_ob (P := vp_in x4 8) (pc' := 45) (ls' := [xA 5 a0, xI x1, xI x2, xI x3, xI x4]) (st' := [xI (w (32 * a0 + 8) x4.toNatClampNeg), xI 1, xI x2]) (w' := w) rfl ((h.2 c1).1 c2).1 ?_
      refine x_goN 5 (pc' := 21) (ls' := [xA 5 a0, xI x1, xI (x2 ||| ((1 : Int32) <<< ((w (32 * a0 + 8) x4.toNatClampNeg) &&& 31))), xI x3, xI (x4 + 1)]) (st' := []) (w' := w) rfl ?_
      exact ((h.2 c1).1 c2).2
    · skip
      refine x_goN 1 (pc' := if (0 : Int32) = (0 : Int32) then 48 else 36) (ls' := [xA 5 a0, xI x1, xI x2, xI x3, xI x4]) (st' := []) (w' := w) rfl ?_
      refine x_brT (by decide) ?_
      refine x_goN 2 (pc' := 21) (ls' := [xA 5 a0, xI x1, xI x2, xI x3, xI (x4 + 1)]) (st' := []) (w' := w) rfl ?_
      exact ((h.2 c1).2 c2)
theorem G_Tr_giveColours_65 {d : Nat} {a0 : Nat} {x1 : Int32} {x2 : Int32} {x3 : Int32} {x4 : Int32} {s2 : Int32} {s1 : Int32} {b0 : Nat} {w : xWd} {Q : xMV → xWd → Prop} (h : (vp_in s1 8 ∧ ∀ w1 : xWd, w1 = x_set w b0 s1.toNatClampNeg s2 → xWp (d + 3) m_Tr_giveColours 2 [xA 5 a0, xI (x1 + 1), xU, xU, xU] [] w1 Q)) : xWp (d + 3) m_Tr_giveColours 65 [xA 5 a0, xI x1, xI x2, xI x3, xI x4] [xI s2, xI s1, xA 108 b0] w Q := by
  refine x_obW (P := vp_in s1 8) (pc' := 66) (ls' := [xA 5 a0, xI x1, xI x2, xI x3, xI x4]) (st' := []) (w' := x_set w b0 s1.toNatClampNeg s2) rfl h.1 (fun w1 ew1 => ?_)
  refine x_goN 2 (pc' := 2) (ls' := [xA 5 a0, xI (x1 + 1), xI x2, xI x3, xI x4]) (st' := []) (w' := w1) rfl ?_
  exact x_weak ((h.2 w1 ew1)) ⟨Or.inl rfl, Or.inl rfl, Or.inr ⟨rfl, rfl⟩, Or.inr ⟨rfl, rfl⟩, Or.inr ⟨rfl, rfl⟩, trivial⟩
/-- what the colours change: one row, told by tCl -/
def cG (t : Nat) (T : xT) (w w' : xWd) (k : Nat) : Prop := (∀ a, a ≠ 32 * t + 8 → w' a = w a) ∧ ∀ l, l < k → w' (32 * t + 8) l = nI (tCl T l)
theorem cG_R {t k : Nat} {T : xT} {w w' : xWd} (hR : tR w t T) (h : cG t T w w' k) : tR w' t T := tR_fr hR (h.1 _ (by omega)) (fun i hi => h.1 _ (by omega))
theorem L_Tr_giveColours_in {d t l : Nat} {T : xT} {w : xWd} {Q : xMV → xWd → Prop} (hl8 : l < 8) (hc : ∀ v, v < l → w (32 * t + 8) v = nI (tCl T v))
    (h : xWp (d + 3) m_Tr_giveColours 21 [xA 5 t, xI (nI l), xI (nI (tTk T l (tCl T) l)), xI (nI (mLv T l)), xI (nI l)] [] w Q) : ∀ k v : Nat, v + k = l → xWp (d + 3) m_Tr_giveColours 21 [xA 5 t, xI (nI l), xI (nI (tTk T l (tCl T) v)), xI (nI (mLv T l)), xI (nI v)] [] w Q := by
  intro k
  induction k with
  | zero =>
    intro v hv
    have e : v = l := by omega
    subst e
    exact h
  | succ k ih =>
    intro v hv
    refine G_Tr_giveColours_21 ⟨fun c => absurd ((z_le (by omega) (by omega)).mp c) (by omega), fun c => ⟨fun c1 => ⟨z_in (by omega) (by decide), ?_⟩, fun c1 => ?_⟩⟩
    · have hp := (z_bit' (mLv_lt T l) (by omega)).mp c1
      have hlt := tCl_lt (T := T) (show v < 8 by omega)
      rw [z_cl' (by omega), hc v (by omega), z_shl _ (by omega), tTk_s (by omega) hp, nI_1]
      exact ih (v + 1) (by omega)
    · have hp := fun q => c1 ((z_bit' (mLv_lt T l) (by omega)).mpr q)
      rw [tTk_n hp, nI_1]
      exact ih (v + 1) (by omega)
theorem L_Tr_giveColours {d t : Nat} {T : xT} {w0 : xWd} {Q : xMV → xWd → Prop} (hR : tR w0 t T) (h : ∀ w, cG t T w0 w (tn T) → Q xU w) : ∀ (k l : Nat) (w : xWd), l + k = tn T → cG t T w0 w l → xWp (d + 3) m_Tr_giveColours 2 [xA 5 t, xI (nI l), xU, xU, xU] [] w Q := by
  have h8 := tR_n8 hR
  intro k
  induction k with
  | zero =>
    intro l w hl hg
    have e : l = tn T := by omega
    subst e
    exact G_Tr_giveColours_2 ⟨fun _ => h w hg, fun c => absurd (tR_end (cG_R hR hg)) c⟩
  | succ k ih =>
    intro l w hl hg
    have hlt : l < tn T := by omega
    have hR' := cG_R hR hg
    refine G_Tr_giveColours_2 ⟨fun c => absurd c (tR_ge hR' hlt), fun c => S_Tr_liveBehind hR' hlt ?_⟩
    refine G_Tr_giveColours_17 ?_
    have e0 : tTk T l (tCl T) 0 = 0 := by unfold tTk; exact z_mk_0 8
    have key := L_Tr_giveColours_in (d := d) (t := t) (T := T) (w := w) (Q := Q) (show l < 8 by omega) hg.2 ?_ l 0 (Nat.zero_add _)
    · rw [e0] at key; exact key
    · refine G_Tr_giveColours_21 ⟨fun _ => ?_, fun c => absurd ((z_le (by omega) (by omega)).mpr (Nat.le_refl l)) c⟩
      obtain ⟨z1, z2⟩ := z_lz_ok _ (tTk_lt T l l (tCl T))
      refine S_tz z2 z1 ?_
      refine G_Tr_giveColours_65 ⟨z_in (by omega) (by decide), fun w1 ew1 => ?_⟩
      rw [nI_1]
      refine ih (l + 1) w1 (by omega) ?_
      subst ew1
      refine ⟨fun a ha => by rw [x_set_o ha]; exact hg.1 a ha, fun j hj => ?_⟩
      rw [x_set_s, z_cl' (by omega)]
      by_cases e : j = l
      · subst e; rw [upd_s, ← tCl_eq]
      · rw [upd_o e]; exact hg.2 j (by omega)
theorem S_Tr_giveColours {d t : Nat} {T : xT} {w : xWd} {Q : xMV → xWd → Prop} (hR : tR w t T) (h : ∀ w', cG t T w w' (tn T) → Q xU w') : xWp (d + 3) m_Tr_giveColours 0 [xA 5 t, xU, xU, xU, xU] [] w Q :=
  G_Tr_giveColours_0 (L_Tr_giveColours hR h (tn T) 0 w (Nat.zero_add _) ⟨fun _ _ => rfl, fun _ q => absurd q (Nat.not_lt_zero _)⟩)
theorem G_Tr_colourOf_0 {d : Nat} {a0 : Nat} {x1 : Int32} {w : xWd} {Q : xMV → xWd → Prop} (h : xWp (d + 3) m_Tr_giveColours 0 [xA 5 a0, xU, xU, xU, xU] [] w (fun a w' => xWp (d + 4) m_Tr_colourOf 4 [xA 5 a0, xI x1] (x_pu a []) w' Q)) : xWp (d + 4) m_Tr_colourOf 0 [xA 5 a0, xI x1] [] w Q := by
  refine x_goN 1 (pc' := 1) (ls' := [xA 5 a0, xI x1]) (st' := [xA 5 a0]) (w' := w) rfl ?_
  refine x_call (y := m_Tr_giveColours) (as := [xA 5 a0]) (rst := []) rfl [xA 5 a0, xU, xU, xU, xU] rfl ?_
  exact h
theorem G_Tr_colourOf_4 {d : Nat} {a0 : Nat} {x1 : Int32} {w : xWd} {Q : xMV → xWd → Prop} (h : ((p_lt x1 (w a0 8) → (vp_in x1 8 ∧ Q (xI (w (32 * a0 + 8) x1.toNatClampNeg)) w)) ∧ (¬ (p_lt x1 (w a0 8)) → Q (xI (-9)) w))) : xWp (d + 4) m_Tr_colourOf 4 [xA 5 a0, xI x1] [] w Q := by
  refine x_goN 2 (pc' := 6) (ls' := [xA 5 a0, xI x1]) (st' := [xI x1, xA 5 a0]) (w' := w) rfl ?_
  refine x_call (y := m_Tr_isLine) (as := [xA 5 a0, xI x1]) (rst := []) rfl [xA 5 a0, xI x1] rfl ?_
  refine S_Tr_isLine (fun c1 => ?_) (fun c1 => ?_)
  · skip
    refine x_goN 1 (pc' := if (1 : Int32) = (0 : Int32) then 21 else 12) (ls' := [xA 5 a0, xI x1]) (st' := []) (w' := w) rfl ?_
    refine x_brF (by decide) ?_
    refine x_goN 3 (pc' := 17) (ls' := [xA 5 a0, xI x1]) (st' := [xI x1, xA 108 (32 * a0 + 8)]) (w' := w) rfl ?_
    refine x_ob (P := vp_in x1 8) (pc' := 18) (ls' := [xA 5 a0, xI x1]) (st' := [xI (w (32 * a0 + 8) x1.toNatClampNeg)]) (w' := w) rfl (h.1 c1).1 ?_
    refine x_goN 1 (pc' := 23) (ls' := [xA 5 a0, xI x1]) (st' := [xI (w (32 * a0 + 8) x1.toNatClampNeg)]) (w' := w) rfl ?_
    exact x_ret (P := True) rfl trivial (h.1 c1).2
  · skip
    refine x_goN 1 (pc' := if (0 : Int32) = (0 : Int32) then 21 else 12) (ls' := [xA 5 a0, xI x1]) (st' := []) (w' := w) rfl ?_
    refine x_brT (by decide) ?_
    refine x_goN 1 (pc' := 23) (ls' := [xA 5 a0, xI x1]) (st' := [xI (-9)]) (w' := w) rfl ?_
    exact x_ret (P := True) rfl trivial (h.2 c1)
theorem S_Tr_colourOf {d t l : Nat} {T : xT} {w : xWd} {Q : xMV → xWd → Prop} (hR : tR w t T) (hl : l < tn T) (h : ∀ w', cG t T w w' (tn T) → Q (xI (nI (tCl T l))) w') : xWp (d + 4) m_Tr_colourOf 0 [xA 5 t, xI (nI l)] [] w Q := by
  have h8 := tR_n8 hR
  refine G_Tr_colourOf_0 (S_Tr_giveColours hR (fun w' hg => ?_))
  refine G_Tr_colourOf_4 ⟨fun _ => ⟨z_in (by omega) (by decide), ?_⟩, fun c => absurd (tR_lt (cG_R hR hg) hl) c⟩
  rw [z_cl' (by omega), hg.2 l hl]
  exact h w' hg
theorem G_Tr_howManyColours_0 {d : Nat} {a0 : Nat} {w : xWd} {Q : xMV → xWd → Prop} (h : xWp (d + 3) m_Tr_giveColours 0 [xA 5 a0, xU, xU, xU, xU] [] w (fun a w' => xWp (d + 4) m_Tr_howManyColours 4 [xA 5 a0, xU, xU] (x_pu a []) w' Q)) : xWp (d + 4) m_Tr_howManyColours 0 [xA 5 a0, xU, xU] [] w Q := by
  refine x_goN 1 (pc' := 1) (ls' := [xA 5 a0, xU, xU]) (st' := [xA 5 a0]) (w' := w) rfl ?_
  refine x_call (y := m_Tr_giveColours) (as := [xA 5 a0]) (rst := []) rfl [xA 5 a0, xU, xU, xU, xU] rfl ?_
  exact h
theorem G_Tr_howManyColours_4 {d : Nat} {a0 : Nat} {w : xWd} {Q : xMV → xWd → Prop} (h : xWp (d + 4) m_Tr_howManyColours 8 [xA 5 a0, xI 0, xI 0] [] w Q) : xWp (d + 4) m_Tr_howManyColours 4 [xA 5 a0, xU, xU] [] w Q := by
  refine x_goN 4 (pc' := 8) (ls' := [xA 5 a0, xI 0, xI 0]) (st' := []) (w' := w) rfl ?_
  exact h
theorem G_Tr_howManyColours_8 {d : Nat} {a0 : Nat} {x1 : Int32} {x2 : Int32} {w : xWd} {Q : xMV → xWd → Prop} (h : ((w a0 8 ≤ x2 → Q (xI x1) w) ∧ (¬ (w a0 8 ≤ x2) → (vp_in x2 8 ∧ xWp (d + 4) m_Tr_howManyColours 8 [xA 5 a0, xI (if x1 < (w (32 * a0 + 8) x2.toNatClampNeg) + 1 then (w (32 * a0 + 8) x2.toNatClampNeg) + 1 else x1), xI (x2 + 1)] [] w Q)))) : xWp (d + 4) m_Tr_howManyColours 8 [xA 5 a0, xI x1, xI x2] [] w Q := by
  refine x_goN 4 (pc' := if w a0 8 ≤ x2 then 35 else 16) (ls' := [xA 5 a0, xI x1, xI x2]) (st' := []) (w' := w) rfl ?_
  refine x_br (fun c1 => ?_) (fun c1 => ?_)
  · skip
    refine x_goN 1 (pc' := 36) (ls' := [xA 5 a0, xI x1, xI x2]) (st' := [xI x1]) (w' := w) rfl ?_
    exact x_ret (P := True) rfl trivial (h.1 c1)
  · skip
    refine x_goN 4 (pc' := 22) (ls' := [xA 5 a0, xI x1, xI x2]) (st' := [xI x2, xA 108 (32 * a0 + 8), xI x1]) (w' := w) rfl ?_
    refine x_ob (P := vp_in x2 8) (pc' := 23) (ls' := [xA 5 a0, xI x1, xI x2]) (st' := [xI (w (32 * a0 + 8) x2.toNatClampNeg), xI x1]) (w' := w) rfl (h.2 c1).1 ?_
    refine x_goN 2 (pc' := 25) (ls' := [xA 5 a0, xI x1, xI x2]) (st' := [xI ((w (32 * a0 + 8) x2.toNatClampNeg) + 1), xI x1]) (w' := w) rfl ?_
    refine x_ob (P := 1 ≤ (d + 4)) (pc' := 28) (ls' := [xA 5 a0, xI x1, xI x2]) (st' := [xI (if x1 < (w (32 * a0 + 8) x2.toNatClampNeg) + 1 then (w (32 * a0 + 8) x2.toNatClampNeg) + 1 else x1)]) (w' := w) rfl (Nat.succ_le_succ (Nat.zero_le _)) ?_
    refine x_goN 3 (pc' := 8) (ls' := [xA 5 a0, xI (if x1 < (w (32 * a0 + 8) x2.toNatClampNeg) + 1 then (w (32 * a0 + 8) x2.toNatClampNeg) + 1 else x1), xI (x2 + 1)]) (st' := []) (w' := w) rfl ?_
    exact (h.2 c1).2
def nCo (T : xT) : Nat := z_mx (tn T) (fun l => tCl T l + 1)
theorem L_Tr_howManyColours {d t : Nat} {T : xT} {w : xWd} {Q : xMV → xWd → Prop} (hR : tR w t T) (hc : ∀ l, l < tn T → w (32 * t + 8) l = nI (tCl T l)) (h : Q (xI (nI (nCo T))) w) : ∀ k l : Nat, l + k = tn T → xWp (d + 4) m_Tr_howManyColours 8 [xA 5 t, xI (nI (z_mx l (fun l => tCl T l + 1))), xI (nI l)] [] w Q := by
  have h8 := tR_n8 hR
  intro k
  induction k with
  | zero =>
    intro l hl
    have e : l = tn T := by omega
    subst e
    exact G_Tr_howManyColours_8 ⟨fun _ => h, fun c => absurd (tR_end hR) c⟩
  | succ k ih =>
    intro l hl
    have hlt : l < tn T := by omega
    refine G_Tr_howManyColours_8 ⟨fun c => absurd c (tR_ge hR hlt), fun c => ⟨z_in (by omega) (by decide), ?_⟩⟩
    have b1 := z_mx_le l 8 (fun l => tCl T l + 1) (fun j hj => by have := tCl_lt (T := T) (show j < 8 by omega); omega)
    have b2 := tCl_lt (T := T) (show l < 8 by omega)
    rw [z_cl' (by omega), hc l hlt, nI_1, nI_1, z_max (by omega) (by omega)]
    exact ih (l + 1) (by omega)
theorem S_Tr_howManyColours {d t : Nat} {T : xT} {w : xWd} {Q : xMV → xWd → Prop} (hR : tR w t T) (h : ∀ w', cG t T w w' (tn T) → Q (xI (nI (nCo T))) w') : xWp (d + 4) m_Tr_howManyColours 0 [xA 5 t, xU, xU] [] w Q := by
  refine G_Tr_howManyColours_0 (S_Tr_giveColours hR (fun w' hg => ?_))
  exact G_Tr_howManyColours_4 (L_Tr_howManyColours (cG_R hR hg) hg.2 (h w' hg) (tn T) 0 (Nat.zero_add _))
/-! later uses -/
theorem luI_9 {x : Nat} (h : x < 2 ^ 31) : luI x = -9 ↔ x = 0 := by
  unfold luI
  by_cases e : x = 0
  · rw [if_pos e]; exact ⟨fun _ => e, fun _ => rfl⟩
  · rw [if_neg e]; exact ⟨fun q => absurd q.symm (z_n9 h), fun q => absurd q e⟩
theorem luI_p {x : Nat} (h : x ≠ 0) : luI x = nI x := if_neg h
theorem z_mn_le {p : Nat → Bool} {f : Nat → Nat} {B : Nat} : ∀ (k : Nat), (∀ j, j < k → f j ≤ B) → z_mn p f k ≤ B
  | 0, _ => Nat.zero_le _
  | k + 1, h => by
    have ih := z_mn_le (p := p) k (fun j hj => h j (by omega))
    have h1 := h k (by omega)
    rw [z_mn_s]
    split
    · split
      · exact h1
      · exact Nat.le_trans (Nat.min_le_right _ _) h1
    · exact ih
theorem G_Tr_laterUse_0 {d : Nat} {a0 : Nat} {x1 : Int32} {x2 : Int32} {w : xWd} {Q : xMV → xWd → Prop} (h : xWp (d + 1) m_Tr_laterUse 6 [xA 5 a0, xI x1, xI x2, xI (-9), xI 0, xU] [] w Q) : xWp (d + 1) m_Tr_laterUse 0 [xA 5 a0, xI x1, xI x2, xU, xU, xU] [] w Q := by
  refine x_goN 4 (pc' := 6) (ls' := [xA 5 a0, xI x1, xI x2, xI (-9), xI 0, xU]) (st' := []) (w' := w) rfl ?_
  exact h
theorem G_Tr_laterUse_6 {d : Nat} {a0 : Nat} {x1 : Int32} {x2 : Int32} {x3 : Int32} {x4 : Int32} {w : xWd} {Q : xMV → xWd → Prop} (h : ((w a0 8 ≤ x4 → Q (xI x3) w) ∧ (¬ (w a0 8 ≤ x4) → (vp_in x4 8 ∧ ((p_in (w (32 * a0 + 3) x4.toNatClampNeg) x2 → (vp_in x4 8 ∧ ((p_in (w (32 * a0 + 7) x4.toNatClampNeg) x1 → (vp_in x4 8 ∧ (vp_in x2 8 ∧ ((x3 = (-9) → xWp (d + 1) m_Tr_laterUse 6 [xA 5 a0, xI x1, xI x2, xI ((w (32 * a0 + 4) x4.toNatClampNeg) - (w (32 * a0 + 4) x2.toNatClampNeg)), xI (x4 + 1), xU] [] w Q) ∧ (¬ (x3 = (-9)) → xWp (d + 1) m_Tr_laterUse 6 [xA 5 a0, xI x1, xI x2, xI (if (w (32 * a0 + 4) x4.toNatClampNeg) - (w (32 * a0 + 4) x2.toNatClampNeg) < x3 then (w (32 * a0 + 4) x4.toNatClampNeg) - (w (32 * a0 + 4) x2.toNatClampNeg) else x3), xI (x4 + 1), xU] [] w Q))))) ∧ (¬ (p_in (w (32 * a0 + 7) x4.toNatClampNeg) x1) → xWp (d + 1) m_Tr_laterUse 6 [xA 5 a0, xI x1, xI x2, xI x3, xI (x4 + 1), xU] [] w Q)))) ∧ (¬ (p_in (w (32 * a0 + 3) x4.toNatClampNeg) x2) → xWp (d + 1) m_Tr_laterUse 6 [xA 5 a0, xI x1, xI x2, xI x3, xI (x4 + 1), xU] [] w Q)))))) : xWp (d + 1) m_Tr_laterUse 6 [xA 5 a0, xI x1, xI x2, xI x3, xI x4, xU] [] w Q := by
  refine x_goN 4 (pc' := if w a0 8 ≤ x4 then 83 else 15) (ls' := [xA 5 a0, xI x1, xI x2, xI x3, xI x4, xU]) (st' := []) (w' := w) rfl ?_
  refine x_br (fun c1 => ?_) (fun c1 => ?_)
  · skip
    refine x_goN 1 (pc' := 84) (ls' := [xA 5 a0, xI x1, xI x2, xI x3, xI x4, xU]) (st' := [xI x3]) (w' := w) rfl ?_
    exact x_ret (P := True) rfl trivial (h.1 c1)
  · skip
    refine x_goN 3 (pc' := 21) (ls' := [xA 5 a0, xI x1, xI x2, xI x3, xI x4, xU]) (st' := [xI x4, xA 108 (32 * a0 + 3)]) (w' := w) rfl ?_
    refine x_ob (P := vp_in x4 8) (pc' := 22) (ls' := [xA 5 a0, xI x1, xI x2, xI x3, xI x4, xU]) (st' := [xI (w (32 * a0 + 3) x4.toNatClampNeg)]) (w' := w) rfl (h.2 c1).1 ?_
    refine x_goN 1 (pc' := 23) (ls' := [xA 5 a0, xI x1, xI x2, xI x3, xI x4, xU]) (st' := [xI x2, xI (w (32 * a0 + 3) x4.toNatClampNeg)]) (w' := w) rfl ?_
    refine x_call (y := m_Vp_inSet) (as := [xI (w (32 * a0 + 3) x4.toNatClampNeg), xI x2]) (rst := []) rfl [xI (w (32 * a0 + 3) x4.toNatClampNeg), xI x2] rfl ?_
    refine S_Vp_inSet (fun c2 => ?_) (fun c2 => ?_)
    · skip
      refine x_goN 1 (pc' := if (1 : Int32) = (0 : Int32) then 77 else 29) (ls' := [xA 5 a0, xI x1, xI x2, xI x3, xI x4, xU]) (st' := []) (w' := w) rfl ?_
      refine x_brF (by decide) ?_
      refine x_goN 3 (pc' := 35) (ls' := [xA 5 a0, xI x1, xI x2, xI x3, xI x4, xU]) (st' := [xI x4, xA 108 (32 * a0 + 7)]) (w' := w) rfl ?_
      refine x_ob (P := vp_in x4 8) (pc' := 36) (ls' := [xA 5 a0, xI x1, xI x2, xI x3, xI x4, xU]) (st' := [xI (w (32 * a0 + 7) x4.toNatClampNeg)]) (w' := w) rfl ((h.2 c1).2.1 c2).1 ?_
      refine x_goN 1 (pc' := 37) (ls' := [xA 5 a0, xI x1, xI x2, xI x3, xI x4, xU]) (st' := [xI x1, xI (w (32 * a0 + 7) x4.toNatClampNeg)]) (w' := w) rfl ?_
      refine x_call (y := m_Vp_inSet) (as := [xI (w (32 * a0 + 7) x4.toNatClampNeg), xI x1]) (rst := []) rfl [xI (w (32 * a0 + 7) x4.toNatClampNeg), xI x1] rfl ?_
      refine S_Vp_inSet (fun c3 => ?_) (fun c3 => ?_)
      · skip
        refine x_goN 1 (pc' := if (1 : Int32) = (0 : Int32) then 77 else 43) (ls' := [xA 5 a0, xI x1, xI x2, xI x3, xI x4, xU]) (st' := []) (w' := w) rfl ?_
        refine x_brF (by decide) ?_
        refine x_goN 3 (pc' := 49) (ls' := [xA 5 a0, xI x1, xI x2, xI x3, xI x4, xU]) (st' := [xI x4, xA 108 (32 * a0 + 4)]) (w' := w) rfl ?_
        refine x_ob (P := vp_in x4 8) (pc' := 50) (ls' := [xA 5 a0, xI x1, xI x2, xI x3, xI x4, xU]) (st' := [xI (w (32 * a0 + 4) x4.toNatClampNeg)]) (w' := w) rfl (((h.2 c1).2.1 c2).2.1 c3).1 ?_
        refine x_goN 3 (pc' := 55) (ls' := [xA 5 a0, xI x1, xI x2, xI x3, xI x4, xU]) (st' := [xI x2, xA 108 (32 * a0 + 4), xI (w (32 * a0 + 4) x4.toNatClampNeg)]) (w' := w) rfl ?_
        refine x_ob (P := vp_in x2 8) (pc' := 56) (ls' := [xA 5 a0, xI x1, xI x2, xI x3, xI x4, xU]) (st' := [xI (w (32 * a0 + 4) x2.toNatClampNeg), xI (w (32 * a0 + 4) x4.toNatClampNeg)]) (w' := w) rfl (((h.2 c1).2.1 c2).2.1 c3).2.1 ?_
        refine x_goN 5 (pc' := if x3 = (-9) then 65 else 70) (ls' := [xA 5 a0, xI x1, xI x2, xI x3, xI x4, xI ((w (32 * a0 + 4) x4.toNatClampNeg) - (w (32 * a0 + 4) x2.toNatClampNeg))]) (st' := []) (w' := w) rfl ?_
        refine x_br (fun c4 => ?_) (fun c4 => ?_)
        · skip
          refine x_goN 5 (pc' := 6) (ls' := [xA 5 a0, xI x1, xI x2, xI ((w (32 * a0 + 4) x4.toNatClampNeg) - (w (32 * a0 + 4) x2.toNatClampNeg)), xI (x4 + 1), xI ((w (32 * a0 + 4) x4.toNatClampNeg) - (w (32 * a0 + 4) x2.toNatClampNeg))]) (st' := []) (w' := w) rfl ?_
          exact x_weak (((((h.2 c1).2.1 c2).2.1 c3).2.2.1 c4)) ⟨Or.inl rfl, Or.inl rfl, Or.inl rfl, Or.inl rfl, Or.inl rfl, Or.inr ⟨rfl, rfl⟩, trivial⟩
        · skip
          refine x_goN 2 (pc' := 73) (ls' := [xA 5 a0, xI x1, xI x2, xI x3, xI x4, xI ((w (32 * a0 + 4) x4.toNatClampNeg) - (w (32 * a0 + 4) x2.toNatClampNeg))]) (st' := [xI ((w (32 * a0 + 4) x4.toNatClampNeg) - (w (32 * a0 + 4) x2.toNatClampNeg)), xI x3]) (w' := w) rfl ?_
          refine x_ob (P := 1 ≤ (d + 1)) (pc' := 76) (ls' := [xA 5 a0, xI x1, xI x2, xI x3, xI x4, xI ((w (32 * a0 + 4) x4.toNatClampNeg) - (w (32 * a0 + 4) x2.toNatClampNeg))]) (st' := [xI (if (w (32 * a0 + 4) x4.toNatClampNeg) - (w (32 * a0 + 4) x2.toNatClampNeg) < x3 then (w (32 * a0 + 4) x4.toNatClampNeg) - (w (32 * a0 + 4) x2.toNatClampNeg) else x3)]) (w' := w) rfl (Nat.succ_le_succ (Nat.zero_le _)) ?_
          refine x_goN 3 (pc' := 6) (ls' := [xA 5 a0, xI x1, xI x2, xI (if (w (32 * a0 + 4) x4.toNatClampNeg) - (w (32 * a0 + 4) x2.toNatClampNeg) < x3 then (w (32 * a0 + 4) x4.toNatClampNeg) - (w (32 * a0 + 4) x2.toNatClampNeg) else x3), xI (x4 + 1), xI ((w (32 * a0 + 4) x4.toNatClampNeg) - (w (32 * a0 + 4) x2.toNatClampNeg))]) (st' := []) (w' := w) rfl ?_
          exact x_weak (((((h.2 c1).2.1 c2).2.1 c3).2.2.2 c4)) ⟨Or.inl rfl, Or.inl rfl, Or.inl rfl, Or.inl rfl, Or.inl rfl, Or.inr ⟨rfl, rfl⟩, trivial⟩
      · skip
        refine x_goN 1 (pc' := if (0 : Int32) = (0 : Int32) then 77 else 43) (ls' := [xA 5 a0, xI x1, xI x2, xI x3, xI x4, xU]) (st' := []) (w' := w) rfl ?_
        refine x_brT (by decide) ?_
        refine x_goN 2 (pc' := 6) (ls' := [xA 5 a0, xI x1, xI x2, xI x3, xI (x4 + 1), xU]) (st' := []) (w' := w) rfl ?_
        exact (((h.2 c1).2.1 c2).2.2 c3)
    · skip
      refine x_goN 1 (pc' := if (0 : Int32) = (0 : Int32) then 77 else 29) (ls' := [xA 5 a0, xI x1, xI x2, xI x3, xI x4, xU]) (st' := []) (w' := w) rfl ?_
      refine x_brT (by decide) ?_
      refine x_goN 2 (pc' := 6) (ls' := [xA 5 a0, xI x1, xI x2, xI x3, xI (x4 + 1), xU]) (st' := []) (w' := w) rfl ?_
      exact ((h.2 c1).2.2 c2)
theorem L_Tr_laterUse {d t v l : Nat} {T : xT} {w : xWd} {Q : xMV → xWd → Prop} (hR : tR w t T) (hv : v < 8) (hl : l < tn T) (h : Q (xI (luI (tL T l v))) w) : ∀ k m : Nat, m + k = tn T → xWp (d + 1) m_Tr_laterUse 6 [xA 5 t, xI (nI v), xI (nI l), xI (luI (z_mn (fun m => tb T m l && tr T m v) (fun m => td T m - td T l) m)), xI (nI m), xU] [] w Q := by
  have h8 := tR_n8 hR
  intro k
  induction k with
  | zero =>
    intro m hm
    have e : m = tn T := by omega
    subst e
    exact G_Tr_laterUse_6 ⟨fun _ => h, fun c => absurd (tR_end hR) c⟩
  | succ k ih =>
    intro m hm
    have hlt : m < tn T := by omega
    have hb := z_mn_le (p := fun m => tb T m l && tr T m v) (f := fun m => td T m - td T l) (B := 8) m (fun j hj => by have := td_lt8 hR.2.1 (show j < tn T by omega); omega)
    have hskip : ¬ ((tb T m l && tr T m v) = true) → xWp (d + 1) m_Tr_laterUse 6 [xA 5 t, xI (nI v), xI (nI l), xI (luI (z_mn (fun m => tb T m l && tr T m v) (fun m => td T m - td T l) m)), xI (nI m + 1), xU] [] w Q := by
      intro hp
      have := ih (m + 1) (by omega)
      rw [z_mn_s, if_neg hp] at this
      rw [nI_1]; exact this
    refine G_Tr_laterUse_6 ⟨fun c => absurd c (tR_ge hR hlt), fun c => ⟨z_in (by omega) (by decide), fun c1 => ⟨z_in (by omega) (by decide), fun c2 => ⟨z_in (by omega) (by decide), z_in (by omega) (by decide), ?_⟩, fun c2 => hskip ?_⟩, fun c1 => hskip ?_⟩⟩
    · have p1 := (tC_op hR hlt (by omega)).mp c1
      have p2 := (tC_sp hR hlt hv).mp c2
      have hd := tb_td hR.2.1 m m l (Nat.le_refl _) hlt p1
      have hd8 := td_lt8 hR.2.1 hlt
      have := ih (m + 1) (by omega)
      rw [z_mn_s, if_pos (by rw [p1, p2]; rfl)] at this
      rw [tC_d hR hlt, tC_d hR hl, pk_sub (by omega), nI_1]
      refine ⟨fun c3 => ?_, fun c3 => ?_⟩
      · have e := (luI_9 (by omega)).mp c3
        rw [if_pos e, luI_p (by omega)] at this
        exact this
      · have e : z_mn (fun m => tb T m l && tr T m v) (fun m => td T m - td T l) m ≠ 0 := fun q => c3 ((luI_9 (by omega)).mpr q)
        rw [if_neg e, luI_p (by omega)] at this
        rw [luI_p e, z_min (by omega) (by omega)]
        exact this
    · intro q
      rw [Bool.and_eq_true] at q
      exact c2 ((tC_sp hR hlt hv).mpr q.2)
    · intro q
      rw [Bool.and_eq_true] at q
      exact c1 ((tC_op hR hlt (by omega)).mpr q.1)
theorem S_Tr_laterUse {d t v l : Nat} {T : xT} {w : xWd} {Q : xMV → xWd → Prop} (hR : tR w t T) (hv : v < 8) (hl : l < tn T) (h : Q (xI (luI (tL T l v))) w) : xWp (d + 1) m_Tr_laterUse 0 [xA 5 t, xI (nI v), xI (nI l), xU, xU, xU] [] w Q :=
  G_Tr_laterUse_0 (L_Tr_laterUse hR hv hl h (tn T) 0 (Nat.zero_add _))
end
section
/-! THE MODEL'S LINES -/
def tS (w : xWd) (T : xT) : Prop := tM w T ∧ tW T
theorem tS_n8 {w : xWd} {T : xT} (h : tS w T) : tn T ≤ 8 := h.2.1.1
section TM
variable {w : xWd} {l v : Nat} {T : xT}
theorem tM_k (h : tS w T) (hl : l < tn T) : w 71 (nI l).toNatClampNeg = nI (tk T l) := by
  rw [z_cl' (by have := tS_n8 h; omega)]; exact (h.1.2 l hl).1
theorem tM_a (h : tS w T) (hl : l < tn T) : w 72 (nI l).toNatClampNeg = nI (ta T l) := by
  rw [z_cl' (by have := tS_n8 h; omega)]; exact (h.1.2 l hl).2.1
theorem tM_m (h : tS w T) (hl : l < tn T) : w 73 (nI l).toNatClampNeg = nI (tm T l) := by
  rw [z_cl' (by have := tS_n8 h; omega)]; exact (h.1.2 l hl).2.2.1
theorem tM_u (h : tS w T) (hl : l < tn T) {i : Nat} (hi : i < tm T l) : w 74 (2 * l + i) = nI (tu T (2 * l + i)) := (h.1.2 l hl).2.2.2 i hi
theorem tS_ge (h : tS w T) (hl : l < tn T) : ¬ w 2 5 ≤ nI l := by
  have h8 := tS_n8 h
  rw [h.1.1, z_le (by omega) (by omega)]; omega
theorem tS_end (h : tS w T) : w 2 5 ≤ nI (tn T) := by
  have h8 := tS_n8 h
  rw [h.1.1, z_le (by omega) (by omega)]; omega
theorem tS_m2 (h : tS w T) (hl : l < tn T) : tm T l ≤ 2 := (h.2.2 l hl).2.1
theorem tS_ln {x : Int32} (h : tS w T) (c : p_lt x (w 2 5)) : ∃ j, j < tn T ∧ x = nI j := by
  have h8 := tS_n8 h
  unfold p_lt at c
  rw [h.1.1, nI_toInt (by omega)] at c
  obtain ⟨j, e1, e2, -⟩ := z_of c.1
  exact ⟨j, by omega, e1⟩
theorem tS_lt {j : Nat} (h : tS w T) (hj : j < tn T) : p_lt (nI j) (w 2 5) := by
  have h8 := tS_n8 h
  unfold p_lt
  rw [h.1.1, nI_toInt (by omega), nI_toInt (by omega)]
  omega
end TM
theorem G_Md_isBelow_0 {d : Nat} {x1 : Int32} {x2 : Int32} {w : xWd} {Q : xMV → xWd → Prop} (h : (vp_in x1 8 ∧ xWp d m_Md_isBelow 7 [xA 7 2, xI x1, xI x2, xI (w 72 x1.toNatClampNeg)] [] w Q)) : xWp d m_Md_isBelow 0 [xA 7 2, xI x1, xI x2, xU] [] w Q := by
  refine x_goN 3 (pc' := 5) (ls' := [xA 7 2, xI x1, xI x2, xU]) (st' := [xI x1, xA 108 72]) (w' := w) rfl ?_
  refine x_ob (P := vp_in x1 8) (pc' := 6) (ls' := [xA 7 2, xI x1, xI x2, xU]) (st' := [xI (w 72 x1.toNatClampNeg)]) (w' := w) rfl h.1 ?_
  refine x_goN 1 (pc' := 7) (ls' := [xA 7 2, xI x1, xI x2, xI (w 72 x1.toNatClampNeg)]) (st' := []) (w' := w) rfl ?_
  exact h.2
theorem G_Md_isBelow_7 {d : Nat} {x1 : Int32} {x2 : Int32} {x3 : Int32} {w : xWd} {Q : xMV → xWd → Prop} (h : ((x3 = 8 → ((x3 = x2 → ((x2 = 8 → Q (xI 0) w) ∧ (¬ (x2 = 8) → Q (xI 1) w))) ∧ (¬ (x3 = x2) → Q (xI 0) w))) ∧ (¬ (x3 = 8) → ((x3 = x2 → ((x3 = x2 → ((x2 = 8 → Q (xI 0) w) ∧ (¬ (x2 = 8) → Q (xI 1) w))) ∧ (¬ (x3 = x2) → Q (xI 0) w))) ∧ (¬ (x3 = x2) → (vp_in x3 8 ∧ xWp d m_Md_isBelow 7 [xA 7 2, xI x1, xI x2, xI (w 72 x3.toNatClampNeg)] [] w Q)))))) : xWp d m_Md_isBelow 7 [xA 7 2, xI x1, xI x2, xI x3] [] w Q := by
  refine x_goN 3 (pc' := if x3 = 8 then 28 else 13) (ls' := [xA 7 2, xI x1, xI x2, xI x3]) (st' := []) (w' := w) rfl ?_
  refine x_br (fun c1 => ?_) (fun c1 => ?_)
  · skip
    refine x_goN 3 (pc' := if x3 = x2 then 33 else 43) (ls' := [xA 7 2, xI x1, xI x2, xI x3]) (st' := []) (w' := w) rfl ?_
    refine x_br (fun c2 => ?_) (fun c2 => ?_)
    · skip
      refine x_goN 3 (pc' := if x2 = 8 then 43 else 39) (ls' := [xA 7 2, xI x1, xI x2, xI x3]) (st' := []) (w' := w) rfl ?_
      refine x_br (fun c3 => ?_) (fun c3 => ?_)
      · skip
        refine x_goN 1 (pc' := 44) (ls' := [xA 7 2, xI x1, xI x2, xI x3]) (st' := [xI 0]) (w' := w) rfl ?_
        exact x_ret (P := (0 : Int32) = 0 ∨ (0 : Int32) = 1) rfl (by decide) (((h.1 c1).1 c2).1 c3)
      · skip
        refine x_goN 2 (pc' := 44) (ls' := [xA 7 2, xI x1, xI x2, xI x3]) (st' := [xI 1]) (w' := w) rfl ?_
        exact x_ret (P := (1 : Int32) = 0 ∨ (1 : Int32) = 1) rfl (by decide) (((h.1 c1).1 c2).2 c3)
    · skip
      refine x_goN 1 (pc' := 44) (ls' := [xA 7 2, xI x1, xI x2, xI x3]) (st' := [xI 0]) (w' := w) rfl ?_
      exact x_ret (P := (0 : Int32) = 0 ∨ (0 : Int32) = 1) rfl (by decide) ((h.1 c1).2 c2)
  · skip
    refine x_goN 3 (pc' := if x3 = x2 then 28 else 18) (ls' := [xA 7 2, xI x1, xI x2, xI x3]) (st' := []) (w' := w) rfl ?_
    refine x_br (fun c4 => ?_) (fun c4 => ?_)
    · skip
      refine x_goN 3 (pc' := if x3 = x2 then 33 else 43) (ls' := [xA 7 2, xI x1, xI x2, xI x3]) (st' := []) (w' := w) rfl ?_
      refine x_br (fun c5 => ?_) (fun c5 => ?_)
      · skip
        refine x_goN 3 (pc' := if x2 = 8 then 43 else 39) (ls' := [xA 7 2, xI x1, xI x2, xI x3]) (st' := []) (w' := w) rfl ?_
        refine x_br (fun c6 => ?_) (fun c6 => ?_)
        · skip
          refine x_goN 1 (pc' := 44) (ls' := [xA 7 2, xI x1, xI x2, xI x3]) (st' := [xI 0]) (w' := w) rfl ?_
          exact x_ret (P := (0 : Int32) = 0 ∨ (0 : Int32) = 1) rfl (by decide) ((((h.2 c1).1 c4).1 c5).1 c6)
        · skip
          refine x_goN 2 (pc' := 44) (ls' := [xA 7 2, xI x1, xI x2, xI x3]) (st' := [xI 1]) (w' := w) rfl ?_
          exact x_ret (P := (1 : Int32) = 0 ∨ (1 : Int32) = 1) rfl (by decide) ((((h.2 c1).1 c4).1 c5).2 c6)
      · skip
        refine x_goN 1 (pc' := 44) (ls' := [xA 7 2, xI x1, xI x2, xI x3]) (st' := [xI 0]) (w' := w) rfl ?_
        exact x_ret (P := (0 : Int32) = 0 ∨ (0 : Int32) = 1) rfl (by decide) (((h.2 c1).1 c4).2 c5)
    · skip
      refine x_goN 3 (pc' := 23) (ls' := [xA 7 2, xI x1, xI x2, xI x3]) (st' := [xI x3, xA 108 72]) (w' := w) rfl ?_
      refine x_ob (P := vp_in x3 8) (pc' := 24) (ls' := [xA 7 2, xI x1, xI x2, xI x3]) (st' := [xI (w 72 x3.toNatClampNeg)]) (w' := w) rfl ((h.2 c1).2 c4).1 ?_
      refine x_goN 2 (pc' := 7) (ls' := [xA 7 2, xI x1, xI x2, xI (w 72 x3.toNatClampNeg)]) (st' := []) (w' := w) rfl ?_
      exact ((h.2 c1).2 c4).2
theorem L_Md_isBelow {d l v : Nat} {T : xT} {w : xWd} {Q : xMV → xWd → Prop} (hS : tS w T) (hv : v < 8) : ∀ (f s : Nat), (s = 8 ∨ (s < tn T ∧ s ≤ f)) → (s < 8 ∧ (s = v ∨ tb T s v = true) → Q (xI 1) w) → (¬ (s < 8 ∧ (s = v ∨ tb T s v = true)) → Q (xI 0) w) → xWp d m_Md_isBelow 7 [xA 7 2, xI (nI l), xI (nI v), xI (nI s)] [] w Q := by
  have h8 := tS_n8 hS
  intro f
  induction f with
  | zero =>
    intro s hs h1 h2
    have e8 : (nI s = 8 ↔ s = 8) := z_eq (b := 8) (by omega) (by decide)
    have ev : (nI s = nI v ↔ s = v) := z_eq (by omega) (by omega)
    have ev8 : (nI v = 8 ↔ v = 8) := z_eq (b := 8) (by omega) (by decide)
    refine G_Md_isBelow_7 ⟨fun c => ⟨fun c2 => absurd (ev.mp c2) (by have := e8.mp c; omega), fun c2 => h2 (by have := e8.mp c; omega)⟩, fun c => ⟨fun c2 => ⟨fun c3 => ⟨fun c4 => absurd (ev8.mp c4) (by omega), fun c4 => h1 ?_⟩, fun c3 => absurd c2 c3⟩, fun c2 => ?_⟩⟩
    · have := ev.mp c2; exact ⟨by omega, Or.inl this⟩
    · have hs8 : s ≠ 8 := fun q => c (e8.mpr q)
      have hs0 : s = 0 := by omega
      have hn : 0 < tn T := by omega
      subst hs0
      refine ⟨z_in (by omega) (by decide), ?_⟩
      rw [tM_a hS hn, (hS.2.1.2 0 hn).1 rfl]
      have e8' : nI 8 = 8 := rfl
      have ev' : (nI 8 = nI v ↔ 8 = v) := z_eq (by omega) (by omega)
      exact G_Md_isBelow_7 ⟨fun _ => ⟨fun c4 => absurd (ev'.mp c4) (by omega), fun _ => h2 (fun ⟨_, q⟩ => by
        rcases q with q | q
        · exact c2 (ev.mpr q)
        · rw [tb_0 hS.2.1 hn] at q; cases q)⟩, fun c4 => absurd e8' c4⟩
  | succ f ih =>
    intro s hs h1 h2
    have e8 : (nI s = 8 ↔ s = 8) := z_eq (b := 8) (by omega) (by decide)
    have ev : (nI s = nI v ↔ s = v) := z_eq (by omega) (by omega)
    have ev8 : (nI v = 8 ↔ v = 8) := z_eq (b := 8) (by omega) (by decide)
    refine G_Md_isBelow_7 ⟨fun c => ⟨fun c2 => absurd (ev.mp c2) (by have := e8.mp c; omega), fun c2 => h2 (by have := e8.mp c; omega)⟩, fun c => ⟨fun c2 => ⟨fun c3 => ⟨fun c4 => absurd (ev8.mp c4) (by omega), fun c4 => h1 ?_⟩, fun c3 => absurd c2 c3⟩, fun c2 => ?_⟩⟩
    · have := ev.mp c2; exact ⟨by omega, Or.inl this⟩
    · have hs8 : s ≠ 8 := fun q => c (e8.mpr q)
      have hsv : s ≠ v := fun q => c2 (ev.mpr q)
      have hn : s < tn T := by omega
      refine ⟨z_in (by omega) (by decide), ?_⟩
      rw [tM_a hS hn]
      by_cases e0 : s = 0
      · subst e0
        have hta := (hS.2.1.2 0 hn).1 rfl
        refine ih (ta T 0) (Or.inl hta) (fun ⟨q, _⟩ => by omega) (fun _ => h2 (fun ⟨_, q⟩ => ?_))
        rcases q with q | q
        · exact hsv q
        · rw [tb_0 hS.2.1 hn] at q; cases q
      · have hta := (hS.2.1.2 s hn).2 (by omega)
        have hrec := tb_s hS.2.1 hn (by omega) v
        refine ih (ta T s) (Or.inr ⟨by omega, by omega⟩) (fun ⟨_, q⟩ => h1 ⟨by omega, Or.inr ?_⟩) (fun q => h2 (fun ⟨_, r⟩ => q ⟨by omega, ?_⟩))
        · rw [hrec, Bool.or_eq_true]
          rcases q with q | q
          · exact Or.inl (decide_eq_true q)
          · exact Or.inr q
        · rcases r with r | r
          · exact absurd r hsv
          · rw [hrec, Bool.or_eq_true] at r
            rcases r with r | r
            · exact Or.inl (of_decide_eq_true r)
            · exact Or.inr r
theorem S_Md_isBelow {d l v : Nat} {T : xT} {w : xWd} {Q : xMV → xWd → Prop} (hS : tS w T) (hl : l < tn T) (hv : v < 8) (h1 : tb T l v = true → Q (xI 1) w) (h2 : ¬ tb T l v = true → Q (xI 0) w) : xWp d m_Md_isBelow 0 [xA 7 2, xI (nI l), xI (nI v), xU] [] w Q := by
  have h8 := tS_n8 hS
  refine G_Md_isBelow_0 ⟨z_in (by omega) (by decide), ?_⟩
  rw [tM_a hS hl]
  by_cases e0 : l = 0
  · subst e0
    have hta := (hS.2.1.2 0 hl).1 rfl
    exact L_Md_isBelow hS hv 8 _ (Or.inl hta) (fun ⟨q, _⟩ => by omega) (fun _ => h2 (by rw [tb_0 hS.2.1 hl]; exact Bool.false_ne_true))
  · have hta := (hS.2.1.2 l hl).2 (by omega)
    have hrec := tb_s hS.2.1 hl (by omega) v
    refine L_Md_isBelow hS hv 8 _ (Or.inr ⟨by omega, by omega⟩) (fun ⟨_, q⟩ => h1 ?_) (fun q => h2 (fun r => q ⟨by omega, ?_⟩))
    · rw [hrec, Bool.or_eq_true]
      rcases q with q | q
      · exact Or.inl (decide_eq_true q)
      · exact Or.inr q
    · rw [hrec, Bool.or_eq_true] at r
      rcases r with r | r
      · exact Or.inl (of_decide_eq_true r)
      · exact Or.inr r
theorem G_Md_isUser_0 {d : Nat} {x1 : Int32} {x2 : Int32} {w : xWd} {Q : xMV → xWd → Prop} (h : xWp d m_Md_isUser 2 [xA 7 2, xI x1, xI x2, xI 0] [] w Q) : xWp d m_Md_isUser 0 [xA 7 2, xI x1, xI x2, xU] [] w Q := by
  refine x_goN 2 (pc' := 2) (ls' := [xA 7 2, xI x1, xI x2, xI 0]) (st' := []) (w' := w) rfl ?_
  exact h
theorem G_Md_isUser_2 {d : Nat} {x1 : Int32} {x2 : Int32} {x3 : Int32} {w : xWd} {Q : xMV → xWd → Prop} (h : (vp_in x1 8 ∧ ((w 73 x1.toNatClampNeg ≤ x3 → Q (xI 0) w) ∧ (¬ (w 73 x1.toNatClampNeg ≤ x3) → (vp_in ((2 * x1) + x3) 16 ∧ ((w 74 ((2 * x1) + x3).toNatClampNeg = x2 → Q (xI 1) w) ∧ (¬ (w 74 ((2 * x1) + x3).toNatClampNeg = x2) → xWp d m_Md_isUser 2 [xA 7 2, xI x1, xI x2, xI (x3 + 1)] [] w Q))))))) : xWp d m_Md_isUser 2 [xA 7 2, xI x1, xI x2, xI x3] [] w Q := by
  refine x_goN 4 (pc' := 8) (ls' := [xA 7 2, xI x1, xI x2, xI x3]) (st' := [xI x1, xA 108 73, xI x3]) (w' := w) rfl ?_
  refine x_ob (P := vp_in x1 8) (pc' := 9) (ls' := [xA 7 2, xI x1, xI x2, xI x3]) (st' := [xI (w 73 x1.toNatClampNeg), xI x3]) (w' := w) rfl h.1 ?_
  refine x_goN 1 (pc' := if w 73 x1.toNatClampNeg ≤ x3 then 34 else 12) (ls' := [xA 7 2, xI x1, xI x2, xI x3]) (st' := []) (w' := w) rfl ?_
  refine x_br (fun c1 => ?_) (fun c1 => ?_)
  · skip
    refine x_goN 1 (pc' := 35) (ls' := [xA 7 2, xI x1, xI x2, xI x3]) (st' := [xI 0]) (w' := w) rfl ?_
    exact x_ret (P := (0 : Int32) = 0 ∨ (0 : Int32) = 1) rfl (by decide) (h.2.1 c1)
  · skip
    refine x_goN 7 (pc' := 21) (ls' := [xA 7 2, xI x1, xI x2, xI x3]) (st' := [xI ((2 * x1) + x3), xA 116 74]) (w' := w) rfl ?_
    refine x_ob (P := vp_in ((2 * x1) + x3) 16) (pc' := 22) (ls' := [xA 7 2, xI x1, xI x2, xI x3]) (st' := [xI (w 74 ((2 * x1) + x3).toNatClampNeg)]) (w' := w) rfl (h.2.2 c1).1 ?_
    refine x_goN 2 (pc' := if w 74 ((2 * x1) + x3).toNatClampNeg = x2 then 26 else 28) (ls' := [xA 7 2, xI x1, xI x2, xI x3]) (st' := []) (w' := w) rfl ?_
    refine x_br (fun c2 => ?_) (fun c2 => ?_)
    · skip
      refine x_goN 1 (pc' := 27) (ls' := [xA 7 2, xI x1, xI x2, xI x3]) (st' := [xI 1]) (w' := w) rfl ?_
      exact x_ret (P := (1 : Int32) = 0 ∨ (1 : Int32) = 1) rfl (by decide) ((h.2.2 c1).2.1 c2)
    · skip
      refine x_goN 2 (pc' := 2) (ls' := [xA 7 2, xI x1, xI x2, xI (x3 + 1)]) (st' := []) (w' := w) rfl ?_
      exact ((h.2.2 c1).2.2 c2)
theorem tr_iff {T : xT} {l v : Nat} (hm : tm T l ≤ 2) : tr T l v = true ↔ ∃ j, j < tm T l ∧ tu T (2 * l + j) = v := by
  unfold tr
  rw [Bool.or_eq_true, Bool.and_eq_true, Bool.and_eq_true]
  simp only [decide_eq_true_eq]
  constructor
  · rintro (⟨a, b⟩ | ⟨a, b⟩)
    · exact ⟨0, a, b⟩
    · exact ⟨1, a, b⟩
  · rintro ⟨j, a, b⟩
    rcases (show j = 0 ∨ j = 1 by omega) with rfl | rfl
    · exact Or.inl ⟨a, b⟩
    · exact Or.inr ⟨a, b⟩
theorem z_2l {l i : Nat} : (2 : Int32) * nI l + nI i = nI (2 * l + i) := by
  rw [show (2 : Int32) * nI l = nI (2 * l) from pk_mul 2 l, nI_add]
theorem tu_lt {T : xT} (h : tW T) {l i : Nat} (hl : l < tn T) (hi : i < tm T l) : tu T (2 * l + i) < 8 := by
  have := tb_lt' h.1 hl ((h.2 l hl).2.2.1 i hi)
  have := h.1.1
  omega
theorem L_Md_isUser {d l v : Nat} {T : xT} {w : xWd} {Q : xMV → xWd → Prop} (hS : tS w T) (hl : l < tn T) (hv : v < 8) (h1 : tr T l v = true → Q (xI 1) w) (h2 : ¬ tr T l v = true → Q (xI 0) w) : ∀ k i : Nat, i + k = tm T l → (∀ j, j < i → tu T (2 * l + j) ≠ v) → xWp d m_Md_isUser 2 [xA 7 2, xI (nI l), xI (nI v), xI (nI i)] [] w Q := by
  have h8 := tS_n8 hS
  have hm := tS_m2 hS hl
  intro k
  induction k with
  | zero =>
    intro i hi hb
    refine G_Md_isUser_2 ⟨z_in (by omega) (by decide), fun _ => h2 (fun q => ?_), fun c => absurd ?_ c⟩
    · obtain ⟨j, a, b⟩ := (tr_iff hm).mp q
      exact hb j (by omega) b
    · rw [tM_m hS hl, z_le (by omega) (by omega)]; omega
  | succ k ih =>
    intro i hi hb
    have hu := tu_lt hS.2 hl (show i < tm T l by omega)
    refine G_Md_isUser_2 ⟨z_in (by omega) (by decide), fun c => absurd c ?_, fun c => ?_⟩
    · rw [tM_m hS hl, z_le (by omega) (by omega)]; omega
    · rw [z_2l, z_cl' (by omega), tM_u hS hl (by omega), nI_1]
      refine ⟨z_in (by omega) (by decide), fun c2 => h1 ((tr_iff hm).mpr ⟨i, by omega, (z_eq (by omega) (by omega)).mp c2⟩), fun c2 => ih (i + 1) (by omega) (fun j hj => ?_)⟩
      by_cases e : j = i
      · subst e; exact fun q => c2 ((z_eq (by omega) (by omega)).mpr q)
      · exact hb j (by omega)
theorem S_Md_isUser {d l v : Nat} {T : xT} {w : xWd} {Q : xMV → xWd → Prop} (hS : tS w T) (hl : l < tn T) (hv : v < 8) (h1 : tr T l v = true → Q (xI 1) w) (h2 : ¬ tr T l v = true → Q (xI 0) w) : xWp d m_Md_isUser 0 [xA 7 2, xI (nI l), xI (nI v), xU] [] w Q :=
  G_Md_isUser_0 (L_Md_isUser hS hl hv h1 h2 (tm T l) 0 (Nat.zero_add _) (fun j hj => absurd hj (Nat.not_lt_zero _)))
theorem z_or0 (x : Int32) : x ||| 0 = x := by
  apply Int32.toBitVec_inj.1
  show x.toBitVec ||| 0#32 = x.toBitVec
  exact BitVec.or_zero
theorem z_add0 (x : Int32) : x + 0 = x := Int32.add_zero x
theorem n_10 : ¬ (1 : Int32) = 0 := by decide
theorem G_Md_usersOf_0 {d : Nat} {x1 : Int32} {w : xWd} {Q : xMV → xWd → Prop} (h : xWp (d + 1) m_Md_usersOf 4 [xA 7 2, xI x1, xI 0, xI 0] [] w Q) : xWp (d + 1) m_Md_usersOf 0 [xA 7 2, xI x1, xU, xU] [] w Q := by
  refine x_goN 4 (pc' := 4) (ls' := [xA 7 2, xI x1, xI 0, xI 0]) (st' := []) (w' := w) rfl ?_
  exact h
theorem G_Md_usersOf_4 {d : Nat} {x1 : Int32} {x2 : Int32} {x3 : Int32} {w : xWd} {Q : xMV → xWd → Prop} (h : ((w 2 5 ≤ x3 → Q (xI x2) w) ∧ (¬ (w 2 5 ≤ x3) → xWp d m_Md_isUser 0 [xA 7 2, xI x3, xI x1, xU] [] w (fun a w' => xWp (d + 1) m_Md_usersOf 19 [xA 7 2, xI x1, xI x2, xI x3] (x_pu a [xI x2]) w' Q)))) : xWp (d + 1) m_Md_usersOf 4 [xA 7 2, xI x1, xI x2, xI x3] [] w Q := by
  refine x_goN 4 (pc' := if w 2 5 ≤ x3 then 37 else 12) (ls' := [xA 7 2, xI x1, xI x2, xI x3]) (st' := []) (w' := w) rfl ?_
  refine x_br (fun c1 => ?_) (fun c1 => ?_)
  · skip
    refine x_goN 1 (pc' := 38) (ls' := [xA 7 2, xI x1, xI x2, xI x3]) (st' := [xI x2]) (w' := w) rfl ?_
    exact x_ret (P := True) rfl trivial (h.1 c1)
  · skip
    refine x_goN 4 (pc' := 16) (ls' := [xA 7 2, xI x1, xI x2, xI x3]) (st' := [xI x1, xI x3, xA 7 2, xI x2]) (w' := w) rfl ?_
    refine x_call (y := m_Md_isUser) (as := [xA 7 2, xI x3, xI x1]) (rst := [xI x2]) rfl [xA 7 2, xI x3, xI x1, xU] rfl ?_
    exact (h.2 c1)
theorem G_Md_usersOf_19 {d : Nat} {x1 : Int32} {x2 : Int32} {x3 : Int32} {s1 : Int32} {s0 : Int32} {w : xWd} {Q : xMV → xWd → Prop} (h : ((s1 = 0 → xWp (d + 1) m_Md_usersOf 4 [xA 7 2, xI x1, xI (s0 ||| 0), xI (x3 + 1)] [] w Q) ∧ (¬ (s1 = 0) → xWp (d + 1) m_Md_usersOf 4 [xA 7 2, xI x1, xI (s0 ||| ((1 : Int32) <<< (x3 &&& 31))), xI (x3 + 1)] [] w Q))) : xWp (d + 1) m_Md_usersOf 19 [xA 7 2, xI x1, xI x2, xI x3] [xI s1, xI s0] w Q := by
  refine x_goN 1 (pc' := if s1 = 0 then 28 else 22) (ls' := [xA 7 2, xI x1, xI x2, xI x3]) (st' := [xI s0]) (w' := w) rfl ?_
  refine x_br (fun c1 => ?_) (fun c1 => ?_)
  · skip
    refine x_goN 5 (pc' := 4) (ls' := [xA 7 2, xI x1, xI (s0 ||| 0), xI (x3 + 1)]) (st' := []) (w' := w) rfl ?_
    exact (h.1 c1)
  · skip
    refine x_goN 8 (pc' := 4) (ls' := [xA 7 2, xI x1, xI (s0 ||| ((1 : Int32) <<< (x3 &&& 31))), xI (x3 + 1)]) (st' := []) (w' := w) rfl ?_
    exact (h.2 c1)
theorem L_Md_usersOf {d v : Nat} {T : xT} {w : xWd} {Q : xMV → xWd → Prop} (hS : tS w T) (hv : v < 8) (h : Q (xI (nI (mUs T v))) w) : ∀ k l : Nat, l + k = tn T → xWp (d + 1) m_Md_usersOf 4 [xA 7 2, xI (nI v), xI (nI (z_mk l (fun m => tr T m v))), xI (nI l)] [] w Q := by
  have h8 := tS_n8 hS
  intro k
  induction k with
  | zero =>
    intro l hl
    have e : l = tn T := by omega
    subst e
    exact G_Md_usersOf_4 ⟨fun _ => h, fun c => absurd (tS_end hS) c⟩
  | succ k ih =>
    intro l hl
    have hlt : l < tn T := by omega
    refine G_Md_usersOf_4 ⟨fun c => absurd c (tS_ge hS hlt), fun c => S_Md_isUser hS hlt hv (fun hp => ?_) (fun hp => ?_)⟩
    · refine G_Md_usersOf_19 ⟨fun c => absurd c n_10, fun _ => ?_⟩
      rw [z_shl l (by omega), z_mk_or (p := fun m => tr T m v) hp, nI_1]
      exact ih (l + 1) (by omega)
    · refine G_Md_usersOf_19 ⟨fun _ => ?_, fun c => absurd rfl c⟩
      rw [z_or0, z_mk_no (p := fun m => tr T m v) hp, nI_1]
      exact ih (l + 1) (by omega)
theorem S_Md_usersOf {d v : Nat} {T : xT} {w : xWd} {Q : xMV → xWd → Prop} (hS : tS w T) (hv : v < 8) (h : Q (xI (nI (mUs T v))) w) : xWp (d + 1) m_Md_usersOf 0 [xA 7 2, xI (nI v), xU, xU] [] w Q :=
  G_Md_usersOf_0 (L_Md_usersOf hS hv h (tn T) 0 (Nat.zero_add _))
theorem G_Md_size_0 {d : Nat} {x0 : Int32} {w : xWd} {Q : xMV → xWd → Prop} (h : xWp d m_Md_size 4 [xI x0, xI 0, xI x0] [] w Q) : xWp d m_Md_size 0 [xI x0, xU, xU] [] w Q := by
  refine x_goN 4 (pc' := 4) (ls' := [xI x0, xI 0, xI x0]) (st' := []) (w' := w) rfl ?_
  exact h
theorem G_Md_size_4 {d : Nat} {x0 : Int32} {x1 : Int32} {x2 : Int32} {w : xWd} {Q : xMV → xWd → Prop} (h : ((x2 ≤ 0 → Q (xI x1) w) ∧ (¬ (x2 ≤ 0) → xWp d m_Md_size 4 [xI x0, xI (x1 + (x2 &&& 1)), xI (x2 >>> ((1 : Int32) &&& 31))] [] w Q))) : xWp d m_Md_size 4 [xI x0, xI x1, xI x2] [] w Q := by
  refine x_goN 2 (pc' := if x2 ≤ 0 then 21 else 8) (ls' := [xI x0, xI x1, xI x2]) (st' := []) (w' := w) rfl ?_
  refine x_br (fun c1 => ?_) (fun c1 => ?_)
  · skip
    refine x_goN 1 (pc' := 22) (ls' := [xI x0, xI x1, xI x2]) (st' := [xI x1]) (w' := w) rfl ?_
    exact x_ret (P := True) rfl trivial (h.1 c1)
  · skip
    refine x_goN 11 (pc' := 4) (ls' := [xI x0, xI (x1 + (x2 &&& 1)), xI (x2 >>> ((1 : Int32) &&& 31))]) (st' := []) (w' := w) rfl ?_
    exact (h.2 c1)
theorem z_pc_half : ∀ r, r < 256 → z_pc r = r % 2 + z_pc (r / 2) := by decide +kernel
theorem z_half {r : Nat} (h : r < 256) : nI r >>> ((1 : Int32) &&& 31) = nI (r / 2) := by
  have := pk_shrN (n := r) (by omega) ((1 : Int32) &&& 31) 1 (by decide)
  rw [Nat.pow_one] at this
  exact this
theorem z_low (r : Nat) : nI r &&& 1 = nI (r % 2) := by
  rw [show nI r &&& 1 = nI (r &&& 1) from fa_and r 1, Nat.and_one_is_mod]
theorem L_Md_size {d : Nat} {x : Int32} {w : xWd} {Q : xMV → xWd → Prop} : ∀ (f r a : Nat), r < 2 ^ f → r < 256 → Q (xI (nI (a + z_pc r))) w → xWp d m_Md_size 4 [xI x, xI (nI a), xI (nI r)] [] w Q := by
  intro f
  induction f with
  | zero =>
    intro r a hr h8 hq
    have e : r = 0 := by omega
    subst e
    exact G_Md_size_4 ⟨fun _ => hq, fun c => absurd (by decide) c⟩
  | succ f ih =>
    intro r a hr h8 hq
    refine G_Md_size_4 ⟨fun c => ?_, fun c => ?_⟩
    · have e : r = 0 := by have := (z_le (b := 0) (by omega) (by decide)).mp c; omega
      subst e
      exact hq
    · rw [z_low, z_half h8, nI_add]
      refine ih (r / 2) (a + r % 2) (by rw [Nat.pow_succ] at hr; omega) (by omega) ?_
      rw [Nat.add_assoc, ← z_pc_half r h8]
      exact hq
theorem S_Md_size {d m : Nat} (hm : m < 256) {w : xWd} {Q : xMV → xWd → Prop} (h : Q (xI (nI (z_pc m))) w) : xWp d m_Md_size 0 [xI (nI m), xU, xU] [] w Q :=
  G_Md_size_0 (L_Md_size 8 m 0 hm hm (by rw [Nat.zero_add]; exact h))
theorem G_Md_costOf_0 {d : Nat} {x1 : Int32} {w : xWd} {Q : xMV → xWd → Prop} (h : xWp (d + 1) m_Md_usersOf 0 [xA 7 2, xI x1, xU, xU] [] w (fun a w' => xWp (d + 2) m_Md_costOf 5 [xA 7 2, xI x1, xU] (x_pu a []) w' Q)) : xWp (d + 2) m_Md_costOf 0 [xA 7 2, xI x1, xU] [] w Q := by
  refine x_goN 2 (pc' := 2) (ls' := [xA 7 2, xI x1, xU]) (st' := [xI x1, xA 7 2]) (w' := w) rfl ?_
  refine x_call (y := m_Md_usersOf) (as := [xA 7 2, xI x1]) (rst := []) rfl [xA 7 2, xI x1, xU, xU] rfl ?_
  exact h
theorem G_Md_costOf_5 {d : Nat} {x1 : Int32} {s0 : Int32} {w : xWd} {Q : xMV → xWd → Prop} (h : xWp (d + 1) m_Md_size 0 [xI s0, xU, xU] [] w (fun a w' => xWp (d + 2) m_Md_costOf 8 [xA 7 2, xI x1, xU] (x_pu a []) w' Q)) : xWp (d + 2) m_Md_costOf 5 [xA 7 2, xI x1, xU] [xI s0] w Q := by
  refine x_call (y := m_Md_size) (as := [xI s0]) (rst := []) rfl [xI s0, xU, xU] rfl ?_
  exact h
theorem G_Md_costOf_8 {d : Nat} {x1 : Int32} {s0 : Int32} {w : xWd} {Q : xMV → xWd → Prop} (h : (vp_in x1 8 ∧ ((w 71 x1.toNatClampNeg = 0 → Q (xI s0) w) ∧ (¬ (w 71 x1.toNatClampNeg = 0) → (vp_in x1 8 ∧ ((w 71 x1.toNatClampNeg = 1 → Q (xI (s0 + 1)) w) ∧ (¬ (w 71 x1.toNatClampNeg = 1) → Q (xI (2 * s0)) w))))))) : xWp (d + 2) m_Md_costOf 8 [xA 7 2, xI x1, xU] [xI s0] w Q := by
  refine x_goN 4 (pc' := 14) (ls' := [xA 7 2, xI x1, xI s0]) (st' := [xI x1, xA 108 71]) (w' := w) rfl ?_
  refine x_ob (P := vp_in x1 8) (pc' := 15) (ls' := [xA 7 2, xI x1, xI s0]) (st' := [xI (w 71 x1.toNatClampNeg)]) (w' := w) rfl h.1 ?_
  refine x_goN 1 (pc' := if w 71 x1.toNatClampNeg = 0 then 18 else 22) (ls' := [xA 7 2, xI x1, xI s0]) (st' := []) (w' := w) rfl ?_
  refine x_br (fun c1 => ?_) (fun c1 => ?_)
  · skip
    refine x_goN 2 (pc' := 41) (ls' := [xA 7 2, xI x1, xI s0]) (st' := [xI s0]) (w' := w) rfl ?_
    exact x_ret (P := True) rfl trivial (h.2.1 c1)
  · skip
    refine x_goN 3 (pc' := 27) (ls' := [xA 7 2, xI x1, xI s0]) (st' := [xI x1, xA 108 71]) (w' := w) rfl ?_
    refine x_ob (P := vp_in x1 8) (pc' := 28) (ls' := [xA 7 2, xI x1, xI s0]) (st' := [xI (w 71 x1.toNatClampNeg)]) (w' := w) rfl (h.2.2 c1).1 ?_
    refine x_goN 2 (pc' := if w 71 x1.toNatClampNeg = 1 then 32 else 38) (ls' := [xA 7 2, xI x1, xI s0]) (st' := []) (w' := w) rfl ?_
    refine x_br (fun c2 => ?_) (fun c2 => ?_)
    · skip
      refine x_goN 4 (pc' := 41) (ls' := [xA 7 2, xI x1, xI s0]) (st' := [xI (s0 + 1)]) (w' := w) rfl ?_
      exact x_ret (P := True) rfl trivial ((h.2.2 c1).2.1 c2)
    · skip
      refine x_goN 3 (pc' := 41) (ls' := [xA 7 2, xI x1, xI s0]) (st' := [xI (2 * s0)]) (w' := w) rfl ?_
      exact x_ret (P := True) rfl trivial ((h.2.2 c1).2.2 c2)
theorem S_Md_costOf {d v : Nat} {T : xT} {w : xWd} {Q : xMV → xWd → Prop} (hS : tS w T) (hv : v < tn T) (h : Q (xI (nI (tCo T v))) w) : xWp (d + 2) m_Md_costOf 0 [xA 7 2, xI (nI v), xU] [] w Q := by
  have h8 := tS_n8 hS
  have hk := (hS.2.2 v hv).1
  refine G_Md_costOf_0 (S_Md_usersOf hS (by omega) ?_)
  refine G_Md_costOf_5 (S_Md_size (mUs_lt h8 v) ?_)
  refine G_Md_costOf_8 ⟨z_in (by omega) (by decide), ?_⟩
  rw [tM_k hS hv]
  unfold tCo at h
  refine ⟨fun c => ?_, fun c => ⟨z_in (by omega) (by decide), fun c2 => ?_, fun c2 => ?_⟩⟩
  · have e : tk T v = 0 := (z_eq (b := 0) (by omega) (by decide)).mp c
    rw [if_neg (by omega), if_neg (by omega)] at h
    exact h
  · have e : tk T v = 1 := (z_eq (b := 1) (by omega) (by decide)).mp c2
    rw [if_neg (by omega), if_pos e] at h
    rw [nI_1]; exact h
  · have e : tk T v = 2 := by
      have h0 : tk T v ≠ 0 := fun e => c (by rw [e]; rfl)
      have h1 : tk T v ≠ 1 := fun e => c2 (by rw [e]; rfl)
      omega
    rw [if_pos e] at h
    rw [show (2 : Int32) * nI (z_pc (mUs T v)) = nI (2 * z_pc (mUs T v)) from pk_mul 2 _]; exact h
end
section
/-! THE MODEL'S LINES: later uses, live values, crossings, colours -/
theorem G_Md_laterUse_0 {d : Nat} {x1 : Int32} {x2 : Int32} {w : xWd} {Q : xMV → xWd → Prop} (h : xWp (d + 1) m_Md_laterUse 8 [xA 7 2, xI x1, xI x2, xI (-9), xI (x1 + 1), xU, xU] [] w Q) : xWp (d + 1) m_Md_laterUse 0 [xA 7 2, xI x1, xI x2, xU, xU, xU, xU] [] w Q := by
  refine x_goN 6 (pc' := 8) (ls' := [xA 7 2, xI x1, xI x2, xI (-9), xI (x1 + 1), xU, xU]) (st' := []) (w' := w) rfl ?_
  exact h
theorem G_Md_laterUse_8 {d : Nat} {x1 : Int32} {x2 : Int32} {x3 : Int32} {x4 : Int32} {w : xWd} {Q : xMV → xWd → Prop} (h : ((w 2 5 ≤ x4 → Q (xI x3) w) ∧ (¬ (w 2 5 ≤ x4) → xWp d m_Md_isUser 0 [xA 7 2, xI x4, xI x2, xU] [] w (fun a w' => xWp (d + 1) m_Md_laterUse 24 [xA 7 2, xI x1, xI x2, xI x3, xI x4, xU, xU] (x_pu a []) w' Q)))) : xWp (d + 1) m_Md_laterUse 8 [xA 7 2, xI x1, xI x2, xI x3, xI x4, xU, xU] [] w Q := by
  refine x_goN 4 (pc' := if w 2 5 ≤ x4 then 95 else 17) (ls' := [xA 7 2, xI x1, xI x2, xI x3, xI x4, xU, xU]) (st' := []) (w' := w) rfl ?_
  refine x_br (fun c1 => ?_) (fun c1 => ?_)
  · skip
    refine x_goN 1 (pc' := 96) (ls' := [xA 7 2, xI x1, xI x2, xI x3, xI x4, xU, xU]) (st' := [xI x3]) (w' := w) rfl ?_
    exact x_ret (P := True) rfl trivial (h.1 c1)
  · skip
    refine x_goN 3 (pc' := 21) (ls' := [xA 7 2, xI x1, xI x2, xI x3, xI x4, xU, xU]) (st' := [xI x2, xI x4, xA 7 2]) (w' := w) rfl ?_
    refine x_call (y := m_Md_isUser) (as := [xA 7 2, xI x4, xI x2]) (rst := []) rfl [xA 7 2, xI x4, xI x2, xU] rfl ?_
    exact (h.2 c1)
theorem G_Md_laterUse_24 {d : Nat} {x1 : Int32} {x2 : Int32} {x3 : Int32} {x4 : Int32} {s0 : Int32} {w : xWd} {Q : xMV → xWd → Prop} (h : ((s0 = 0 → xWp (d + 1) m_Md_laterUse 8 [xA 7 2, xI x1, xI x2, xI x3, xI (x4 + 1), xU, xU] [] w Q) ∧ (¬ (s0 = 0) → xWp d m_Md_isBelow 0 [xA 7 2, xI x4, xI x1, xU] [] w (fun a w' => xWp (d + 1) m_Md_laterUse 34 [xA 7 2, xI x1, xI x2, xI x3, xI x4, xU, xU] (x_pu a []) w' Q)))) : xWp (d + 1) m_Md_laterUse 24 [xA 7 2, xI x1, xI x2, xI x3, xI x4, xU, xU] [xI s0] w Q := by
  refine x_goN 1 (pc' := if s0 = 0 then 89 else 27) (ls' := [xA 7 2, xI x1, xI x2, xI x3, xI x4, xU, xU]) (st' := []) (w' := w) rfl ?_
  refine x_br (fun c1 => ?_) (fun c1 => ?_)
  · skip
    refine x_goN 2 (pc' := 8) (ls' := [xA 7 2, xI x1, xI x2, xI x3, xI (x4 + 1), xU, xU]) (st' := []) (w' := w) rfl ?_
    exact (h.1 c1)
  · skip
    refine x_goN 3 (pc' := 31) (ls' := [xA 7 2, xI x1, xI x2, xI x3, xI x4, xU, xU]) (st' := [xI x1, xI x4, xA 7 2]) (w' := w) rfl ?_
    refine x_call (y := m_Md_isBelow) (as := [xA 7 2, xI x4, xI x1]) (rst := []) rfl [xA 7 2, xI x4, xI x1, xU] rfl ?_
    exact (h.2 c1)
theorem G_Md_laterUse_34 {d : Nat} {x1 : Int32} {x2 : Int32} {x3 : Int32} {x4 : Int32} {s0 : Int32} {w : xWd} {Q : xMV → xWd → Prop} (h : ((s0 = 0 → xWp (d + 1) m_Md_laterUse 8 [xA 7 2, xI x1, xI x2, xI x3, xI (x4 + 1), xU, xU] [] w Q) ∧ (¬ (s0 = 0) → (vp_in x4 8 ∧ xWp (d + 1) m_Md_laterUse 49 [xA 7 2, xI x1, xI x2, xI x3, xI x4, xI 1, xI (w 72 x4.toNatClampNeg)] [] w Q)))) : xWp (d + 1) m_Md_laterUse 34 [xA 7 2, xI x1, xI x2, xI x3, xI x4, xU, xU] [xI s0] w Q := by
  refine x_goN 1 (pc' := if s0 = 0 then 89 else 37) (ls' := [xA 7 2, xI x1, xI x2, xI x3, xI x4, xU, xU]) (st' := []) (w' := w) rfl ?_
  refine x_br (fun c1 => ?_) (fun c1 => ?_)
  · skip
    refine x_goN 2 (pc' := 8) (ls' := [xA 7 2, xI x1, xI x2, xI x3, xI (x4 + 1), xU, xU]) (st' := []) (w' := w) rfl ?_
    exact (h.1 c1)
  · skip
    refine x_goN 5 (pc' := 46) (ls' := [xA 7 2, xI x1, xI x2, xI x3, xI x4, xI 1, xU]) (st' := [xI x4, xA 108 72]) (w' := w) rfl ?_
    refine x_ob (P := vp_in x4 8) (pc' := 47) (ls' := [xA 7 2, xI x1, xI x2, xI x3, xI x4, xI 1, xU]) (st' := [xI (w 72 x4.toNatClampNeg)]) (w' := w) rfl (h.2 c1).1 ?_
    refine x_goN 1 (pc' := 49) (ls' := [xA 7 2, xI x1, xI x2, xI x3, xI x4, xI 1, xI (w 72 x4.toNatClampNeg)]) (st' := []) (w' := w) rfl ?_
    exact (h.2 c1).2
theorem G_Md_laterUse_49 {d : Nat} {x1 : Int32} {x2 : Int32} {x3 : Int32} {x4 : Int32} {x5 : Int32} {x6 : Int32} {w : xWd} {Q : xMV → xWd → Prop} (h : ((x6 = x1 → ((x3 = (-9) → xWp (d + 1) m_Md_laterUse 8 [xA 7 2, xI x1, xI x2, xI x5, xI (x4 + 1), xU, xU] [] w Q) ∧ (¬ (x3 = (-9)) → ((x3 ≤ x5 → xWp (d + 1) m_Md_laterUse 8 [xA 7 2, xI x1, xI x2, xI x3, xI (x4 + 1), xU, xU] [] w Q) ∧ (¬ (x3 ≤ x5) → xWp (d + 1) m_Md_laterUse 8 [xA 7 2, xI x1, xI x2, xI x5, xI (x4 + 1), xU, xU] [] w Q))))) ∧ (¬ (x6 = x1) → (vp_in x6 8 ∧ xWp (d + 1) m_Md_laterUse 49 [xA 7 2, xI x1, xI x2, xI x3, xI x4, xI (x5 + 1), xI (w 72 x6.toNatClampNeg)] [] w Q)))) : xWp (d + 1) m_Md_laterUse 49 [xA 7 2, xI x1, xI x2, xI x3, xI x4, xI x5, xI x6] [] w Q := by
  refine x_goN 3 (pc' := if x6 = x1 then 70 else 55) (ls' := [xA 7 2, xI x1, xI x2, xI x3, xI x4, xI x5, xI x6]) (st' := []) (w' := w) rfl ?_
  refine x_br (fun c1 => ?_) (fun c1 => ?_)
  · skip
    refine x_goN 3 (pc' := if x3 = (-9) then 82 else 76) (ls' := [xA 7 2, xI x1, xI x2, xI x3, xI x4, xI x5, xI x6]) (st' := []) (w' := w) rfl ?_
    refine x_br (fun c2 => ?_) (fun c2 => ?_)
    · skip
      refine x_goN 5 (pc' := 8) (ls' := [xA 7 2, xI x1, xI x2, xI x5, xI (x4 + 1), xI x5, xI x6]) (st' := []) (w' := w) rfl ?_
      exact x_weak (((h.1 c1).1 c2)) ⟨Or.inl rfl, Or.inl rfl, Or.inl rfl, Or.inl rfl, Or.inl rfl, Or.inr ⟨rfl, rfl⟩, Or.inr ⟨rfl, rfl⟩, trivial⟩
    · skip
      refine x_goN 3 (pc' := if x3 ≤ x5 then 87 else 82) (ls' := [xA 7 2, xI x1, xI x2, xI x3, xI x4, xI x5, xI x6]) (st' := []) (w' := w) rfl ?_
      refine x_br (fun c3 => ?_) (fun c3 => ?_)
      · skip
        refine x_goN 4 (pc' := 8) (ls' := [xA 7 2, xI x1, xI x2, xI x3, xI (x4 + 1), xI x5, xI x6]) (st' := []) (w' := w) rfl ?_
        exact x_weak ((((h.1 c1).2 c2).1 c3)) ⟨Or.inl rfl, Or.inl rfl, Or.inl rfl, Or.inl rfl, Or.inl rfl, Or.inr ⟨rfl, rfl⟩, Or.inr ⟨rfl, rfl⟩, trivial⟩
      · skip
        refine x_goN 5 (pc' := 8) (ls' := [xA 7 2, xI x1, xI x2, xI x5, xI (x4 + 1), xI x5, xI x6]) (st' := []) (w' := w) rfl ?_
        exact x_weak ((((h.1 c1).2 c2).2 c3)) ⟨Or.inl rfl, Or.inl rfl, Or.inl rfl, Or.inl rfl, Or.inl rfl, Or.inr ⟨rfl, rfl⟩, Or.inr ⟨rfl, rfl⟩, trivial⟩
  · skip
    refine x_goN 4 (pc' := 64) (ls' := [xA 7 2, xI x1, xI x2, xI x3, xI x4, xI (x5 + 1), xI x6]) (st' := [xI x6, xA 108 72]) (w' := w) rfl ?_
    refine x_ob (P := vp_in x6 8) (pc' := 65) (ls' := [xA 7 2, xI x1, xI x2, xI x3, xI x4, xI (x5 + 1), xI x6]) (st' := [xI (w 72 x6.toNatClampNeg)]) (w' := w) rfl (h.2 c1).1 ?_
    refine x_goN 2 (pc' := 49) (ls' := [xA 7 2, xI x1, xI x2, xI x3, xI x4, xI (x5 + 1), xI (w 72 x6.toNatClampNeg)]) (st' := []) (w' := w) rfl ?_
    exact (h.2 c1).2
/-- up from s to l: as many steps as the depths differ by -/
theorem L_Md_laterUse_up {d l v q : Nat} {T : xT} {w : xWd} {Q : xMV → xWd → Prop} {x3 : Int32} (hS : tS w T) (hl : l < tn T) {D : Nat}
    (h : xWp (d + 1) m_Md_laterUse 49 [xA 7 2, xI (nI l), xI (nI v), xI x3, xI (nI q), xI (nI D), xI (nI l)] [] w Q) : ∀ (f s a : Nat), s ≤ f → s < tn T → (s = l ∨ tb T s l = true) → a + td T s = D + td T l → xWp (d + 1) m_Md_laterUse 49 [xA 7 2, xI (nI l), xI (nI v), xI x3, xI (nI q), xI (nI a), xI (nI s)] [] w Q := by
  have h8 := tS_n8 hS
  intro f
  induction f with
  | zero =>
    intro s a hf hs hb ha
    have e : s = 0 := by omega
    subst e
    have : 0 = l := by
      rcases hb with hb | hb
      · exact hb
      · rw [tb_0 hS.2.1 hs] at hb; cases hb
    subst this
    have : a = D := by omega
    subst this
    exact h
  | succ f ih =>
    intro s a hf hs hb ha
    by_cases e : s = l
    · subst e
      have : a = D := by omega
      subst this
      exact h
    · have hb : tb T s l = true := by
        rcases hb with hb | hb
        · exact absurd hb e
        · exact hb
      have hsl := tb_lt' hS.2.1 hs hb
      have hta := (hS.2.1.2 s hs).2 (by omega)
      have htd := td_s hS.2.1 hs (by omega)
      have hrec := tb_s hS.2.1 hs (by omega) l
      rw [hb] at hrec
      have hrec := hrec.symm
      rw [Bool.or_eq_true] at hrec
      refine G_Md_laterUse_49 ⟨fun c => absurd ((z_eq (by omega) (by omega)).mp c) e, fun c => ⟨z_in (by omega) (by decide), ?_⟩⟩
      rw [tM_a hS hs, nI_1]
      refine ih (ta T s) (a + 1) (by omega) (by omega) ?_ (by omega)
      rcases hrec with r | r
      · exact Or.inl (of_decide_eq_true r)
      · exact Or.inr r
theorem L_Md_laterUse {d l v : Nat} {T : xT} {w : xWd} {Q : xMV → xWd → Prop} (hS : tS w T) (hv : v < 8) (hl : l < tn T) (h : Q (xI (luI (tL T l v))) w) : ∀ k m : Nat, m + k = tn T → xWp (d + 1) m_Md_laterUse 8 [xA 7 2, xI (nI l), xI (nI v), xI (luI (z_mn (fun m => tb T m l && tr T m v) (fun m => td T m - td T l) m)), xI (nI m), xU, xU] [] w Q := by
  have h8 := tS_n8 hS
  intro k
  induction k with
  | zero =>
    intro m hm
    have e : m = tn T := by omega
    subst e
    exact G_Md_laterUse_8 ⟨fun _ => h, fun c => absurd (tS_end hS) c⟩
  | succ k ih =>
    intro m hm
    have hlt : m < tn T := by omega
    have hb := z_mn_le (p := fun m => tb T m l && tr T m v) (f := fun m => td T m - td T l) (B := 8) m (fun j hj => by have := td_lt8 hS.2.1 (show j < tn T by omega); omega)
    have hskip : ¬ ((tb T m l && tr T m v) = true) → xWp (d + 1) m_Md_laterUse 8 [xA 7 2, xI (nI l), xI (nI v), xI (luI (z_mn (fun m => tb T m l && tr T m v) (fun m => td T m - td T l) m)), xI (nI m + 1), xU, xU] [] w Q := by
      intro hp
      have := ih (m + 1) (by omega)
      rw [z_mn_s, if_neg hp] at this
      rw [nI_1]; exact this
    refine G_Md_laterUse_8 ⟨fun c => absurd c (tS_ge hS hlt), fun c => S_Md_isUser hS hlt hv (fun p2 => ?_) (fun p2 => ?_)⟩
    · refine G_Md_laterUse_24 ⟨fun c => absurd c n_10, fun _ => S_Md_isBelow hS hlt (by omega) (fun p1 => ?_) (fun p1 => ?_)⟩
      · refine G_Md_laterUse_34 ⟨fun c => absurd c n_10, fun _ => ⟨z_in (by omega) (by decide), ?_⟩⟩
        have hd := tb_td hS.2.1 m m l (Nat.le_refl _) hlt p1
        have hd8 := td_lt8 hS.2.1 hlt
        have hml := tb_lt' hS.2.1 hlt p1
        have hta := (hS.2.1.2 m hlt).2 (by omega)
        have htd := td_s hS.2.1 hlt (by omega)
        have hrec := tb_s hS.2.1 hlt (by omega) l
        rw [p1] at hrec
        have hrec := hrec.symm
        rw [Bool.or_eq_true] at hrec
        rw [tM_a hS hlt]
        refine L_Md_laterUse_up (D := td T m - td T l) hS hl ?_ 8 (ta T m) 1 (by omega) (by omega) ?_ (by omega)
        · have := ih (m + 1) (by omega)
          rw [z_mn_s, if_pos (by rw [p1, p2]; rfl)] at this
          refine G_Md_laterUse_49 ⟨fun _ => ⟨fun c3 => ?_, fun c3 => ?_⟩, fun c => absurd rfl c⟩
          · have e := (luI_9 (by omega)).mp c3
            rw [if_pos e, luI_p (by omega)] at this
            rw [nI_1]; exact this
          · have e : z_mn (fun m => tb T m l && tr T m v) (fun m => td T m - td T l) m ≠ 0 := fun q => c3 ((luI_9 (by omega)).mpr q)
            rw [if_neg e, luI_p (by omega)] at this
            rw [luI_p e, nI_1]
            refine ⟨fun c4 => ?_, fun c4 => ?_⟩
            · rw [z_le (by omega) (by omega)] at c4
              rw [Nat.min_eq_left c4] at this
              exact this
            · rw [z_le (by omega) (by omega)] at c4
              rw [Nat.min_eq_right (by omega)] at this
              exact this
        · rcases hrec with r | r
          · exact Or.inl (of_decide_eq_true r)
          · exact Or.inr r
      · refine G_Md_laterUse_34 ⟨fun _ => hskip (fun q => ?_), fun c => absurd rfl c⟩
        rw [Bool.and_eq_true] at q
        exact p1 q.1
    · refine G_Md_laterUse_24 ⟨fun _ => hskip (fun q => ?_), fun c => absurd rfl c⟩
      rw [Bool.and_eq_true] at q
      exact p2 q.2
theorem z_mn_0 {p : Nat → Bool} {f : Nat → Nat} : ∀ k, (∀ j, j < k → p j = false) → z_mn p f k = 0
  | 0, _ => rfl
  | k + 1, h => by
    rw [z_mn_s, h k (by omega)]
    exact z_mn_0 k (fun j hj => h j (by omega))
theorem z_mn_ne {p : Nat → Bool} {f : Nat → Nat} : ∀ k, (∀ j, j < k → p j = true → 0 < f j) → (z_mn p f k ≠ 0 ↔ z_any k p = true)
  | 0, _ => ⟨fun q => absurd rfl q, fun q => by cases q⟩
  | k + 1, h => by
    have ih := z_mn_ne (p := p) (f := f) k (fun j hj => h j (by omega))
    have hk := h k (by omega)
    show _ ↔ (z_any k p || p k) = true
    rw [Bool.or_eq_true, z_mn_s]
    cases hp : p k with
    | false =>
      rw [if_neg Bool.false_ne_true, ih]
      exact ⟨Or.inl, fun q => q.elim id (fun r => by cases r)⟩
    | true =>
      have := hk hp
      rw [if_pos rfl]
      refine ⟨fun _ => Or.inr rfl, fun _ => ?_⟩
      split <;> omega
theorem S_Md_laterUse {d l v : Nat} {T : xT} {w : xWd} {Q : xMV → xWd → Prop} (hS : tS w T) (hv : v < 8) (hl : l < tn T) (h : Q (xI (luI (tL T l v))) w) : xWp (d + 1) m_Md_laterUse 0 [xA 7 2, xI (nI l), xI (nI v), xU, xU, xU, xU] [] w Q := by
  have := L_Md_laterUse (d := d) hS hv hl h (tn T - (l + 1)) (l + 1) (by omega)
  rw [z_mn_0 (l + 1) (fun j hj => ?_)] at this
  · refine G_Md_laterUse_0 ?_
    rw [nI_1]; exact this
  · show (tb T j l && tr T j v) = false
    cases hb : tb T j l with
    | false => rfl
    | true => have := tb_lt' hS.2.1 (show j < tn T by omega) hb; omega
theorem tL_ub {T : xT} (h : tCh T) {l v : Nat} : tL T l v ≠ 0 ↔ ub T l v = true := by
  unfold tL ub
  apply z_mn_ne
  intro j hj hp
  rw [Bool.and_eq_true] at hp
  have := tb_td h j j l (Nat.le_refl _) hj hp.1
  omega
theorem tL_le {T : xT} (h : tCh T) {l v : Nat} : tL T l v ≤ 8 := by
  unfold tL
  apply z_mn_le
  intro j hj
  have := td_lt8 h hj
  omega
theorem G_Md_liveBehind_0 {d : Nat} {x1 : Int32} {w : xWd} {Q : xMV → xWd → Prop} (h : xWp (d + 2) m_Md_liveBehind 6 [xA 7 2, xI x1, xI ((1 : Int32) <<< (x1 &&& 31)), xI 0] [] w Q) : xWp (d + 2) m_Md_liveBehind 0 [xA 7 2, xI x1, xU, xU] [] w Q := by
  refine x_goN 6 (pc' := 6) (ls' := [xA 7 2, xI x1, xI ((1 : Int32) <<< (x1 &&& 31)), xI 0]) (st' := []) (w' := w) rfl ?_
  exact h
theorem G_Md_liveBehind_6 {d : Nat} {x1 : Int32} {x2 : Int32} {x3 : Int32} {w : xWd} {Q : xMV → xWd → Prop} (h : ((x1 ≤ x3 → Q (xI x2) w) ∧ (¬ (x1 ≤ x3) → xWp (d + 1) m_Md_isBelow 0 [xA 7 2, xI x1, xI x3, xU] [] w (fun a w' => xWp (d + 2) m_Md_liveBehind 18 [xA 7 2, xI x1, xI x2, xI x3] (x_pu a [xI x2]) w' Q)))) : xWp (d + 2) m_Md_liveBehind 6 [xA 7 2, xI x1, xI x2, xI x3] [] w Q := by
  refine x_goN 3 (pc' := if x1 ≤ x3 then 47 else 11) (ls' := [xA 7 2, xI x1, xI x2, xI x3]) (st' := []) (w' := w) rfl ?_
  refine x_br (fun c1 => ?_) (fun c1 => ?_)
  · skip
    refine x_goN 1 (pc' := 48) (ls' := [xA 7 2, xI x1, xI x2, xI x3]) (st' := [xI x2]) (w' := w) rfl ?_
    exact x_ret (P := True) rfl trivial (h.1 c1)
  · skip
    refine x_goN 4 (pc' := 15) (ls' := [xA 7 2, xI x1, xI x2, xI x3]) (st' := [xI x3, xI x1, xA 7 2, xI x2]) (w' := w) rfl ?_
    refine x_call (y := m_Md_isBelow) (as := [xA 7 2, xI x1, xI x3]) (rst := [xI x2]) rfl [xA 7 2, xI x1, xI x3, xU] rfl ?_
    exact (h.2 c1)
theorem G_Md_liveBehind_18 {d : Nat} {x1 : Int32} {x2 : Int32} {x3 : Int32} {s1 : Int32} {s0 : Int32} {w : xWd} {Q : xMV → xWd → Prop} (h : ((s1 = 0 → xWp (d + 2) m_Md_liveBehind 6 [xA 7 2, xI x1, xI (s0 ||| 0), xI (x3 + 1)] [] w Q) ∧ (¬ (s1 = 0) → xWp (d + 1) m_Md_laterUse 0 [xA 7 2, xI x1, xI x3, xU, xU, xU, xU] [] w (fun a w' => xWp (d + 2) m_Md_liveBehind 27 [xA 7 2, xI x1, xI x2, xI x3] (x_pu a [xI s0]) w' Q)))) : xWp (d + 2) m_Md_liveBehind 18 [xA 7 2, xI x1, xI x2, xI x3] [xI s1, xI s0] w Q := by
  refine x_goN 1 (pc' := if s1 = 0 then 38 else 21) (ls' := [xA 7 2, xI x1, xI x2, xI x3]) (st' := [xI s0]) (w' := w) rfl ?_
  refine x_br (fun c1 => ?_) (fun c1 => ?_)
  · skip
    refine x_goN 5 (pc' := 6) (ls' := [xA 7 2, xI x1, xI (s0 ||| 0), xI (x3 + 1)]) (st' := []) (w' := w) rfl ?_
    exact (h.1 c1)
  · skip
    refine x_goN 3 (pc' := 24) (ls' := [xA 7 2, xI x1, xI x2, xI x3]) (st' := [xI x3, xI x1, xA 7 2, xI s0]) (w' := w) rfl ?_
    refine x_call (y := m_Md_laterUse) (as := [xA 7 2, xI x1, xI x3]) (rst := [xI s0]) rfl [xA 7 2, xI x1, xI x3, xU, xU, xU, xU] rfl ?_
    exact (h.2 c1)
theorem G_Md_liveBehind_27 {d : Nat} {x1 : Int32} {x2 : Int32} {x3 : Int32} {s1 : Int32} {s0 : Int32} {w : xWd} {Q : xMV → xWd → Prop} (h : ((s1 = (-9) → xWp (d + 2) m_Md_liveBehind 6 [xA 7 2, xI x1, xI (s0 ||| 0), xI (x3 + 1)] [] w Q) ∧ (¬ (s1 = (-9)) → xWp (d + 2) m_Md_liveBehind 6 [xA 7 2, xI x1, xI (s0 ||| ((1 : Int32) <<< (x3 &&& 31))), xI (x3 + 1)] [] w Q))) : xWp (d + 2) m_Md_liveBehind 27 [xA 7 2, xI x1, xI x2, xI x3] [xI s1, xI s0] w Q := by
  refine x_goN 2 (pc' := if s1 = (-9) then 38 else 32) (ls' := [xA 7 2, xI x1, xI x2, xI x3]) (st' := [xI s0]) (w' := w) rfl ?_
  refine x_br (fun c1 => ?_) (fun c1 => ?_)
  · skip
    refine x_goN 5 (pc' := 6) (ls' := [xA 7 2, xI x1, xI (s0 ||| 0), xI (x3 + 1)]) (st' := []) (w' := w) rfl ?_
    exact (h.1 c1)
  · skip
    refine x_goN 8 (pc' := 6) (ls' := [xA 7 2, xI x1, xI (s0 ||| ((1 : Int32) <<< (x3 &&& 31))), xI (x3 + 1)]) (st' := []) (w' := w) rfl ?_
    exact (h.2 c1)
theorem mLv_up {T : xT} (h : tCh T) {l : Nat} (hl : l < tn T) : nI (2 ^ l) ||| nI (z_mk l (fun v => tb T l v && ub T l v)) = nI (mLv T l) := by
  rw [fa_or]
  congr 1
  apply Nat.eq_of_testBit_eq
  intro i
  unfold mLv
  rw [Nat.testBit_or, Nat.testBit_two_pow, z_mk_tb, z_mk_tb]
  have h8 := h.1
  by_cases hi : i < 8
  · rw [decide_eq_true hi, Bool.true_and]
    rw [show decide (l = i) = decide (i = l) from decide_eq_decide.mpr eq_comm]
    congr 1
    cases hb : tb T l i with
    | false => rw [Bool.false_and, Bool.and_false]
    | true => rw [decide_eq_true (tb_lt' h hl hb), Bool.true_and]
  · rw [decide_eq_false hi, decide_eq_false (by omega), decide_eq_false (by omega)]; rfl
theorem L_Md_liveBehind {d l : Nat} {T : xT} {w : xWd} {Q : xMV → xWd → Prop} (hS : tS w T) (hl : l < tn T) (h : Q (xI (nI (mLv T l))) w) : ∀ k v : Nat, v + k = l → xWp (d + 2) m_Md_liveBehind 6 [xA 7 2, xI (nI l), xI (nI (2 ^ l) ||| nI (z_mk v (fun v => tb T l v && ub T l v))), xI (nI v)] [] w Q := by
  have h8 := tS_n8 hS
  intro k
  induction k with
  | zero =>
    intro v hv
    have e : v = l := by omega
    subst e
    refine G_Md_liveBehind_6 ⟨fun _ => by rw [mLv_up hS.2.1 hl]; exact h, fun c => absurd ((z_le (by omega) (by omega)).mpr (Nat.le_refl v)) c⟩
  | succ k ih =>
    intro v hv
    have step : ∀ {x : Int32}, (tb T l v && ub T l v) = true → x = nI (2 ^ l) ||| nI (z_mk v (fun v => tb T l v && ub T l v)) → xWp (d + 2) m_Md_liveBehind 6 [xA 7 2, xI (nI l), xI (x ||| nI (2 ^ v)), xI (nI (v + 1))] [] w Q := by
      intro x hp hx
      have := ih (v + 1) (by omega)
      rw [← z_mk_or (p := fun v => tb T l v && ub T l v) hp] at this
      rw [hx, show (nI (2 ^ l) ||| nI (z_mk v (fun v => tb T l v && ub T l v))) ||| nI (2 ^ v) = nI (2 ^ l) ||| (nI (z_mk v (fun v => tb T l v && ub T l v)) ||| nI (2 ^ v)) from by rw [fa_or, fa_or, fa_or, fa_or, Nat.or_assoc]]
      exact this
    have skip : ¬ (tb T l v && ub T l v) = true → xWp (d + 2) m_Md_liveBehind 6 [xA 7 2, xI (nI l), xI ((nI (2 ^ l) ||| nI (z_mk v (fun v => tb T l v && ub T l v))) ||| 0), xI (nI v + 1)] [] w Q := by
      intro hp
      rw [z_or0, nI_1, z_mk_no (p := fun v => tb T l v && ub T l v) hp]
      exact ih (v + 1) (by omega)
    refine G_Md_liveBehind_6 ⟨fun c => absurd ((z_le (by omega) (by omega)).mp c) (by omega), fun c => S_Md_isBelow hS hl (by omega) (fun p1 => ?_) (fun p1 => ?_)⟩
    · refine G_Md_liveBehind_18 ⟨fun c => absurd c n_10, fun _ => S_Md_laterUse hS (by omega) hl ?_⟩
      have hle := tL_le hS.2.1 (l := l) (v := v)
      refine G_Md_liveBehind_27 ⟨fun c2 => skip (fun q => ?_), fun c2 => ?_⟩
      · rw [Bool.and_eq_true] at q
        exact (tL_ub hS.2.1).mpr q.2 ((luI_9 (by omega)).mp c2)
      · rw [z_shl v (by omega), nI_1]
        refine step ?_ rfl
        rw [p1, (tL_ub hS.2.1).mp (fun q => c2 ((luI_9 (by omega)).mpr q))]; rfl
    · refine G_Md_liveBehind_18 ⟨fun _ => skip (fun q => ?_), fun c => absurd rfl c⟩
      rw [Bool.and_eq_true] at q
      exact p1 q.1
theorem S_Md_liveBehind {d l : Nat} {T : xT} {w : xWd} {Q : xMV → xWd → Prop} (hS : tS w T) (hl : l < tn T) (h : Q (xI (nI (mLv T l))) w) : xWp (d + 2) m_Md_liveBehind 0 [xA 7 2, xI (nI l), xU, xU] [] w Q := by
  have h8 := tS_n8 hS
  have := L_Md_liveBehind (d := d) hS hl h l 0 (Nat.zero_add _)
  refine G_Md_liveBehind_0 ?_
  rw [z_shl l (by omega)]
  rw [show nI (z_mk 0 (fun v => tb T l v && ub T l v)) = 0 from rfl, z_or0] at this
  exact this
theorem G_Md_doCross_0 {d : Nat} {x1 : Int32} {x2 : Int32} {w : xWd} {Q : xMV → xWd → Prop} (h : xWp (d + 3) m_Md_doCross 2 [xA 7 2, xI x1, xI x2, xI 0, xU] [] w Q) : xWp (d + 3) m_Md_doCross 0 [xA 7 2, xI x1, xI x2, xU, xU] [] w Q := by
  refine x_goN 2 (pc' := 2) (ls' := [xA 7 2, xI x1, xI x2, xI 0, xU]) (st' := []) (w' := w) rfl ?_
  exact h
theorem G_Md_doCross_2 {d : Nat} {x1 : Int32} {x2 : Int32} {x3 : Int32} {w : xWd} {Q : xMV → xWd → Prop} (h : ((w 2 5 ≤ x3 → Q (xI 0) w) ∧ (¬ (w 2 5 ≤ x3) → xWp (d + 2) m_Md_liveBehind 0 [xA 7 2, xI x3, xU, xU] [] w (fun a w' => xWp (d + 3) m_Md_doCross 15 [xA 7 2, xI x1, xI x2, xI x3, xU] (x_pu a []) w' Q)))) : xWp (d + 3) m_Md_doCross 2 [xA 7 2, xI x1, xI x2, xI x3, xU] [] w Q := by
  refine x_goN 4 (pc' := if w 2 5 ≤ x3 then 43 else 10) (ls' := [xA 7 2, xI x1, xI x2, xI x3, xU]) (st' := []) (w' := w) rfl ?_
  refine x_br (fun c1 => ?_) (fun c1 => ?_)
  · skip
    refine x_goN 1 (pc' := 44) (ls' := [xA 7 2, xI x1, xI x2, xI x3, xU]) (st' := [xI 0]) (w' := w) rfl ?_
    exact x_ret (P := (0 : Int32) = 0 ∨ (0 : Int32) = 1) rfl (by decide) (h.1 c1)
  · skip
    refine x_goN 2 (pc' := 12) (ls' := [xA 7 2, xI x1, xI x2, xI x3, xU]) (st' := [xI x3, xA 7 2]) (w' := w) rfl ?_
    refine x_call (y := m_Md_liveBehind) (as := [xA 7 2, xI x3]) (rst := []) rfl [xA 7 2, xI x3, xU, xU] rfl ?_
    exact (h.2 c1)
theorem G_Md_doCross_15 {d : Nat} {x1 : Int32} {x2 : Int32} {x3 : Int32} {s0 : Int32} {w : xWd} {Q : xMV → xWd → Prop} (h : ((p_in s0 x1 → ((p_in s0 x2 → Q (xI 1) w) ∧ (¬ (p_in s0 x2) → xWp (d + 3) m_Md_doCross 2 [xA 7 2, xI x1, xI x2, xI (x3 + 1), xU] [] w Q))) ∧ (¬ (p_in s0 x1) → xWp (d + 3) m_Md_doCross 2 [xA 7 2, xI x1, xI x2, xI (x3 + 1), xU] [] w Q))) : xWp (d + 3) m_Md_doCross 15 [xA 7 2, xI x1, xI x2, xI x3, xU] [xI s0] w Q := by
  refine x_goN 3 (pc' := 20) (ls' := [xA 7 2, xI x1, xI x2, xI x3, xI s0]) (st' := [xI x1, xI s0]) (w' := w) rfl ?_
  refine x_call (y := m_Md_isOf) (as := [xI s0, xI x1]) (rst := []) rfl [xI s0, xI x1] rfl ?_
  refine S_Md_isOf (fun c1 => ?_) (fun c1 => ?_)
  · skip
    refine x_goN 1 (pc' := if (1 : Int32) = (0 : Int32) then 37 else 26) (ls' := [xA 7 2, xI x1, xI x2, xI x3, xI s0]) (st' := []) (w' := w) rfl ?_
    refine x_brF (by decide) ?_
    refine x_goN 2 (pc' := 29) (ls' := [xA 7 2, xI x1, xI x2, xI x3, xI s0]) (st' := [xI x2, xI s0]) (w' := w) rfl ?_
    refine x_call (y := m_Md_isOf) (as := [xI s0, xI x2]) (rst := []) rfl [xI s0, xI x2] rfl ?_
    refine S_Md_isOf (fun c2 => ?_) (fun c2 => ?_)
    · skip
      refine x_goN 1 (pc' := if (1 : Int32) = (0 : Int32) then 37 else 35) (ls' := [xA 7 2, xI x1, xI x2, xI x3, xI s0]) (st' := []) (w' := w) rfl ?_
      refine x_brF (by decide) ?_
      refine x_goN 1 (pc' := 36) (ls' := [xA 7 2, xI x1, xI x2, xI x3, xI s0]) (st' := [xI 1]) (w' := w) rfl ?_
      exact x_ret (P := (1 : Int32) = 0 ∨ (1 : Int32) = 1) rfl (by decide) ((h.1 c1).1 c2)
    · skip
      refine x_goN 1 (pc' := if (0 : Int32) = (0 : Int32) then 37 else 35) (ls' := [xA 7 2, xI x1, xI x2, xI x3, xI s0]) (st' := []) (w' := w) rfl ?_
      refine x_brT (by decide) ?_
      refine x_goN 2 (pc' := 2) (ls' := [xA 7 2, xI x1, xI x2, xI (x3 + 1), xI s0]) (st' := []) (w' := w) rfl ?_
      exact x_weak (((h.1 c1).2 c2)) ⟨Or.inl rfl, Or.inl rfl, Or.inl rfl, Or.inl rfl, Or.inr ⟨rfl, rfl⟩, trivial⟩
  · skip
    refine x_goN 1 (pc' := if (0 : Int32) = (0 : Int32) then 37 else 26) (ls' := [xA 7 2, xI x1, xI x2, xI x3, xI s0]) (st' := []) (w' := w) rfl ?_
    refine x_brT (by decide) ?_
    refine x_goN 2 (pc' := 2) (ls' := [xA 7 2, xI x1, xI x2, xI (x3 + 1), xI s0]) (st' := []) (w' := w) rfl ?_
    exact x_weak ((h.2 c1)) ⟨Or.inl rfl, Or.inl rfl, Or.inl rfl, Or.inl rfl, Or.inr ⟨rfl, rfl⟩, trivial⟩
theorem L_Md_doCross {d a b : Nat} {T : xT} {w : xWd} {Q : xMV → xWd → Prop} (hS : tS w T) (ha : a < 8) (hb : b < 8) (h1 : cr T a b = true → Q (xI 1) w) (h2 : ¬ cr T a b = true → Q (xI 0) w) : ∀ k l : Nat, l + k = tn T → (∀ j, j < l → ¬ ((mLv T j).testBit a && (mLv T j).testBit b) = true) → xWp (d + 3) m_Md_doCross 2 [xA 7 2, xI (nI a), xI (nI b), xI (nI l), xU] [] w Q := by
  have h8 := tS_n8 hS
  intro k
  induction k with
  | zero =>
    intro l hl hn
    have e : l = tn T := by omega
    subst e
    refine G_Md_doCross_2 ⟨fun _ => h2 (fun q => ?_), fun c => absurd (tS_end hS) c⟩
    obtain ⟨j, hj, hp⟩ := (z_any_iff _ _).mp q
    exact hn j hj hp
  | succ k ih =>
    intro l hl hn
    have hlt : l < tn T := by omega
    have next : ¬ ((mLv T l).testBit a && (mLv T l).testBit b) = true → xWp (d + 3) m_Md_doCross 2 [xA 7 2, xI (nI a), xI (nI b), xI (nI l + 1), xU] [] w Q := by
      intro hp
      rw [nI_1]
      refine ih (l + 1) (by omega) (fun j hj => ?_)
      by_cases e : j = l
      · subst e; exact hp
      · exact hn j (by omega)
    refine G_Md_doCross_2 ⟨fun c => absurd c (tS_ge hS hlt), fun c => S_Md_liveBehind hS hlt ?_⟩
    refine G_Md_doCross_15 ⟨fun c1 => ⟨fun c2 => h1 ?_, fun c2 => next (fun q => ?_)⟩, fun c1 => next (fun q => ?_)⟩
    · exact (z_any_iff _ _).mpr ⟨l, hlt, by rw [(z_bit' (mLv_lt T l) ha).mp c1, (z_bit' (mLv_lt T l) hb).mp c2]; rfl⟩
    · rw [Bool.and_eq_true] at q
      exact c2 ((z_bit' (mLv_lt T l) hb).mpr q.2)
    · rw [Bool.and_eq_true] at q
      exact c1 ((z_bit' (mLv_lt T l) ha).mpr q.1)
theorem S_Md_doCross {d a b : Nat} {T : xT} {w : xWd} {Q : xMV → xWd → Prop} (hS : tS w T) (ha : a < 8) (hb : b < 8) (h1 : cr T a b = true → Q (xI 1) w) (h2 : ¬ cr T a b = true → Q (xI 0) w) : xWp (d + 3) m_Md_doCross 0 [xA 7 2, xI (nI a), xI (nI b), xU, xU] [] w Q :=
  G_Md_doCross_0 (L_Md_doCross hS ha hb h1 h2 (tn T) 0 (Nat.zero_add _) (fun j hj => absurd hj (Nat.not_lt_zero _)))
theorem cr_lt {T : xT} (h : tCh T) {a b : Nat} (hc : cr T a b = true) : a < tn T ∧ b < tn T := by
  obtain ⟨j, hj, hp⟩ := (z_any_iff _ _).mp hc
  rw [Bool.and_eq_true] at hp
  have := mLv_le h hj hp.1
  have := mLv_le h hj hp.2
  omega
theorem cr_sym (T : xT) (a b : Nat) : cr T a b = cr T b a := by
  unfold cr
  exact z_any_congr _ (fun j _ => Bool.and_comm _ _)
theorem mCr_n {T : xT} (h : tCh T) (v : Nat) : z_mk (tn T) (fun u => decide (u ≠ v) && cr T v u) = mCr T v := by
  unfold mCr
  apply z_mk_up h.1 (Nat.le_refl _)
  intro j hj
  rw [decide_eq_true hj, Bool.true_and]
  cases hc : cr T v j with
  | false => rw [Bool.and_false, Bool.and_false]
  | true => rw [decide_eq_true (cr_lt h hc).2, Bool.true_and]
theorem G_Md_crossing_0 {d : Nat} {x1 : Int32} {w : xWd} {Q : xMV → xWd → Prop} (h : xWp (d + 4) m_Md_crossing 4 [xA 7 2, xI x1, xI 0, xI 0] [] w Q) : xWp (d + 4) m_Md_crossing 0 [xA 7 2, xI x1, xU, xU] [] w Q := by
  refine x_goN 4 (pc' := 4) (ls' := [xA 7 2, xI x1, xI 0, xI 0]) (st' := []) (w' := w) rfl ?_
  exact h
theorem G_Md_crossing_4 {d : Nat} {x1 : Int32} {x2 : Int32} {x3 : Int32} {w : xWd} {Q : xMV → xWd → Prop} (h : ((w 2 5 ≤ x3 → Q (xI x2) w) ∧ (¬ (w 2 5 ≤ x3) → ((x3 = x1 → xWp (d + 4) m_Md_crossing 4 [xA 7 2, xI x1, xI (x2 ||| 0), xI (x3 + 1)] [] w Q) ∧ (¬ (x3 = x1) → xWp (d + 3) m_Md_doCross 0 [xA 7 2, xI x1, xI x3, xU, xU] [] w (fun a w' => xWp (d + 4) m_Md_crossing 24 [xA 7 2, xI x1, xI x2, xI x3] (x_pu a [xI x2]) w' Q)))))) : xWp (d + 4) m_Md_crossing 4 [xA 7 2, xI x1, xI x2, xI x3] [] w Q := by
  refine x_goN 4 (pc' := if w 2 5 ≤ x3 then 42 else 12) (ls' := [xA 7 2, xI x1, xI x2, xI x3]) (st' := []) (w' := w) rfl ?_
  refine x_br (fun c1 => ?_) (fun c1 => ?_)
  · skip
    refine x_goN 1 (pc' := 43) (ls' := [xA 7 2, xI x1, xI x2, xI x3]) (st' := [xI x2]) (w' := w) rfl ?_
    exact x_ret (P := True) rfl trivial (h.1 c1)
  · skip
    refine x_goN 4 (pc' := if x3 = x1 then 33 else 18) (ls' := [xA 7 2, xI x1, xI x2, xI x3]) (st' := [xI x2]) (w' := w) rfl ?_
    refine x_br (fun c2 => ?_) (fun c2 => ?_)
    · skip
      refine x_goN 5 (pc' := 4) (ls' := [xA 7 2, xI x1, xI (x2 ||| 0), xI (x3 + 1)]) (st' := []) (w' := w) rfl ?_
      exact ((h.2 c1).1 c2)
    · skip
      refine x_goN 3 (pc' := 21) (ls' := [xA 7 2, xI x1, xI x2, xI x3]) (st' := [xI x3, xI x1, xA 7 2, xI x2]) (w' := w) rfl ?_
      refine x_call (y := m_Md_doCross) (as := [xA 7 2, xI x1, xI x3]) (rst := [xI x2]) rfl [xA 7 2, xI x1, xI x3, xU, xU] rfl ?_
      exact ((h.2 c1).2 c2)
theorem G_Md_crossing_24 {d : Nat} {x1 : Int32} {x2 : Int32} {x3 : Int32} {s1 : Int32} {s0 : Int32} {w : xWd} {Q : xMV → xWd → Prop} (h : ((s1 = 0 → xWp (d + 4) m_Md_crossing 4 [xA 7 2, xI x1, xI (s0 ||| 0), xI (x3 + 1)] [] w Q) ∧ (¬ (s1 = 0) → xWp (d + 4) m_Md_crossing 4 [xA 7 2, xI x1, xI (s0 ||| ((1 : Int32) <<< (x3 &&& 31))), xI (x3 + 1)] [] w Q))) : xWp (d + 4) m_Md_crossing 24 [xA 7 2, xI x1, xI x2, xI x3] [xI s1, xI s0] w Q := by
  refine x_goN 1 (pc' := if s1 = 0 then 33 else 27) (ls' := [xA 7 2, xI x1, xI x2, xI x3]) (st' := [xI s0]) (w' := w) rfl ?_
  refine x_br (fun c1 => ?_) (fun c1 => ?_)
  · skip
    refine x_goN 5 (pc' := 4) (ls' := [xA 7 2, xI x1, xI (s0 ||| 0), xI (x3 + 1)]) (st' := []) (w' := w) rfl ?_
    exact (h.1 c1)
  · skip
    refine x_goN 8 (pc' := 4) (ls' := [xA 7 2, xI x1, xI (s0 ||| ((1 : Int32) <<< (x3 &&& 31))), xI (x3 + 1)]) (st' := []) (w' := w) rfl ?_
    exact (h.2 c1)
theorem L_Md_crossing {d v : Nat} {T : xT} {w : xWd} {Q : xMV → xWd → Prop} (hS : tS w T) (hv : v < 8) (h : Q (xI (nI (mCr T v))) w) : ∀ k m : Nat, m + k = tn T → xWp (d + 4) m_Md_crossing 4 [xA 7 2, xI (nI v), xI (nI (z_mk m (fun u => decide (u ≠ v) && cr T v u))), xI (nI m)] [] w Q := by
  have h8 := tS_n8 hS
  intro k
  induction k with
  | zero =>
    intro m hm
    have e : m = tn T := by omega
    subst e
    exact G_Md_crossing_4 ⟨fun _ => by rw [mCr_n hS.2.1]; exact h, fun c => absurd (tS_end hS) c⟩
  | succ k ih =>
    intro m hm
    have hlt : m < tn T := by omega
    have skip : ¬ (decide (m ≠ v) && cr T v m) = true → xWp (d + 4) m_Md_crossing 4 [xA 7 2, xI (nI v), xI (nI (z_mk m (fun u => decide (u ≠ v) && cr T v u)) ||| 0), xI (nI m + 1)] [] w Q := by
      intro hp
      rw [z_or0, nI_1, z_mk_no (p := fun u => decide (u ≠ v) && cr T v u) hp]
      exact ih (m + 1) (by omega)
    refine G_Md_crossing_4 ⟨fun c => absurd c (tS_ge hS hlt), fun c => ⟨fun c1 => skip (fun q => ?_), fun c1 => S_Md_doCross hS hv (by omega) (fun p => ?_) (fun p => ?_)⟩⟩
    · rw [Bool.and_eq_true] at q
      exact of_decide_eq_true q.1 ((z_eq (by omega) (by omega)).mp c1)
    · have hne : m ≠ v := fun q => c1 ((z_eq (by omega) (by omega)).mpr q)
      refine G_Md_crossing_24 ⟨fun c => absurd c n_10, fun _ => ?_⟩
      rw [z_shl m (by omega), z_mk_or (p := fun u => decide (u ≠ v) && cr T v u) (by rw [p, decide_eq_true hne]; rfl), nI_1]
      exact ih (m + 1) (by omega)
    · refine G_Md_crossing_24 ⟨fun _ => skip (fun q => ?_), fun c => absurd rfl c⟩
      rw [Bool.and_eq_true] at q
      exact p q.2
theorem S_Md_crossing {d v : Nat} {T : xT} {w : xWd} {Q : xMV → xWd → Prop} (hS : tS w T) (hv : v < 8) (h : Q (xI (nI (mCr T v))) w) : xWp (d + 4) m_Md_crossing 0 [xA 7 2, xI (nI v), xU, xU] [] w Q :=
  G_Md_crossing_0 (L_Md_crossing hS hv h (tn T) 0 (Nat.zero_add _))
/-! colours of the model -/
theorem tS_fr {w w' : xWd} {T : xT} (h : tS w T) (e2 : w' 2 5 = w 2 5) (e71 : w' 71 = w 71) (e72 : w' 72 = w 72) (e73 : w' 73 = w 73) (e74 : w' 74 = w 74) : tS w' T := by
  refine ⟨⟨by rw [e2]; exact h.1.1, fun l hl => ?_⟩, h.2⟩
  rw [e71, e72, e73, e74]
  exact h.1.2 l hl
def cH (T : xT) (w w' : xWd) (k : Nat) : Prop := (∀ a, a ≠ 81 → w' a = w a) ∧ ∀ l, l < k → w' 81 l = nI (tCl T l)
theorem cH_S {k : Nat} {T : xT} {w w' : xWd} (hS : tS w T) (h : cH T w w' k) : tS w' T := tS_fr hS (by rw [h.1 2 (by decide)]) (h.1 _ (by decide)) (h.1 _ (by decide)) (h.1 _ (by decide)) (h.1 _ (by decide))
theorem z_lz_bit : ∀ m, m < 256 → ∀ k, k < 8 → (k < z_lz m → m.testBit k = true) ∧ (k = z_lz m → m.testBit k = false) := by decide +kernel
theorem G_Md_findColours_0 {d : Nat} {w : xWd} {Q : xMV → xWd → Prop} (h : xWp (d + 3) m_Md_findColours 2 [xA 7 2, xI 0, xU, xU, xU] [] w Q) : xWp (d + 3) m_Md_findColours 0 [xA 7 2, xU, xU, xU, xU] [] w Q := by
  refine x_goN 2 (pc' := 2) (ls' := [xA 7 2, xI 0, xU, xU, xU]) (st' := []) (w' := w) rfl ?_
  exact h
theorem G_Md_findColours_2 {d : Nat} {x1 : Int32} {w : xWd} {Q : xMV → xWd → Prop} (h : ((w 2 5 ≤ x1 → Q xU w) ∧ (¬ (w 2 5 ≤ x1) → xWp (d + 2) m_Md_liveBehind 0 [xA 7 2, xI x1, xU, xU] [] w (fun a w' => xWp (d + 3) m_Md_findColours 15 [xA 7 2, xI x1, xU, xU, xU] (x_pu a []) w' Q)))) : xWp (d + 3) m_Md_findColours 2 [xA 7 2, xI x1, xU, xU, xU] [] w Q := by
  refine x_goN 4 (pc' := if w 2 5 ≤ x1 then 97 else 10) (ls' := [xA 7 2, xI x1, xU, xU, xU]) (st' := []) (w' := w) rfl ?_
  refine x_br (fun c1 => ?_) (fun c1 => ?_)
  · skip
    exact x_ret (P := True) rfl trivial (h.1 c1)
  · skip
    refine x_goN 2 (pc' := 12) (ls' := [xA 7 2, xI x1, xU, xU, xU]) (st' := [xI x1, xA 7 2]) (w' := w) rfl ?_
    refine x_call (y := m_Md_liveBehind) (as := [xA 7 2, xI x1]) (rst := []) rfl [xA 7 2, xI x1, xU, xU] rfl ?_
    exact (h.2 c1)
theorem G_Md_findColours_15 {d : Nat} {x1 : Int32} {s0 : Int32} {w : xWd} {Q : xMV → xWd → Prop} (h : xWp (d + 3) m_Md_findColours 21 [xA 7 2, xI x1, xI s0, xI 0, xI 0] [] w Q) : xWp (d + 3) m_Md_findColours 15 [xA 7 2, xI x1, xU, xU, xU] [xI s0] w Q := by
  refine x_goN 5 (pc' := 21) (ls' := [xA 7 2, xI x1, xI s0, xI 0, xI 0]) (st' := []) (w' := w) rfl ?_
  exact h
theorem G_Md_findColours_21 {d : Nat} {x1 : Int32} {x2 : Int32} {x3 : Int32} {x4 : Int32} {w : xWd} {Q : xMV → xWd → Prop} (h : ((x1 ≤ x4 → (vp_in x1 8 ∧ ∀ w1 : xWd, w1 = x_set w 81 x1.toNatClampNeg 0 → xWp (d + 3) m_Md_findColours 65 [xA 7 2, xI x1, xI x2, xI x3, xI x4] [] w1 Q)) ∧ (¬ (x1 ≤ x4) → ((p_in x2 x4 → (vp_in x4 8 ∧ xWp (d + 3) m_Md_findColours 21 [xA 7 2, xI x1, xI x2, xI (x3 ||| ((1 : Int32) <<< ((w 81 x4.toNatClampNeg) &&& 31))), xI (x4 + 1)] [] w Q)) ∧ (¬ (p_in x2 x4) → xWp (d + 3) m_Md_findColours 21 [xA 7 2, xI x1, xI x2, xI (x3 ||| 0), xI (x4 + 1)] [] w Q))))) : xWp (d + 3) m_Md_findColours 21 [xA 7 2, xI x1, xI x2, xI x3, xI x4] [] w Q := by
  refine x_goN 3 (pc' := if x1 ≤ x4 then 58 else 27) (ls' := [xA 7 2, xI x1, xI x2, xI x3, xI x4]) (st' := []) (w' := w) rfl ?_
  refine x_br (fun c1 => ?_) (fun c1 => ?_)
  · skip
    refine x_goN 4 (pc' := 64) (ls' := [xA 7 2, xI x1, xI x2, xI x3, xI x4]) (st' := [xI 0, xI x1, xA 108 81]) (w' := w) rfl ?_
    refine x_obW (P := vp_in x1 8) (pc' := 65) (ls' := [xA 7 2, xI x1, xI x2, xI x3, xI x4]) (st' := []) (w' := x_set w 81 x1.toNatClampNeg 0) rfl (h.1 c1).1 (fun w1 ew1 => ?_)
    exact ((h.1 c1).2 w1 ew1)
  · skip
    refine x_goN 3 (pc' := 31) (ls' := [xA 7 2, xI x1, xI x2, xI x3, xI x4]) (st' := [xI x4, xI x2, xI x3]) (w' := w) rfl ?_
    refine x_call (y := m_Md_isOf) (as := [xI x2, xI x4]) (rst := [xI x3]) rfl [xI x2, xI x4] rfl ?_
    refine S_Md_isOf (fun c2 => ?_) (fun c2 => ?_)
    · skip
      refine x_goN 1 (pc' := if (1 : Int32) = (0 : Int32) then 49 else 37) (ls' := [xA 7 2, xI x1, xI x2, xI x3, xI x4]) (st' := [xI x3]) (w' := w) rfl ?_
      refine x_brF (by decide) ?_
      refine x_goN 4 (pc' := 44) (ls' := [xA 7 2, xI x1, xI x2, xI x3, xI x4]) (st' := [xI x4, xA 108 81, xI 1, xI x3]) (w' := w) rfl ?_
      refine x_ob (P := vp_in x4 8) (pc' := 45) (ls' := [xA 7 2, xI x1, xI x2, xI x3, xI x4]) (st' := [xI (w 81 x4.toNatClampNeg), xI 1, xI x3]) (w' := w) rfl ((h.2 c1).1 c2).1 ?_
      refine x_goN 6 (pc' := 21) (ls' := [xA 7 2, xI x1, xI x2, xI (x3 ||| ((1 : Int32) <<< ((w 81 x4.toNatClampNeg) &&& 31))), xI (x4 + 1)]) (st' := []) (w' := w) rfl ?_
      exact ((h.2 c1).1 c2).2
    · skip
      refine x_goN 1 (pc' := if (0 : Int32) = (0 : Int32) then 49 else 37) (ls' := [xA 7 2, xI x1, xI x2, xI x3, xI x4]) (st' := [xI x3]) (w' := w) rfl ?_
      refine x_brT (by decide) ?_
      refine x_goN 5 (pc' := 21) (ls' := [xA 7 2, xI x1, xI x2, xI (x3 ||| 0), xI (x4 + 1)]) (st' := []) (w' := w) rfl ?_
      exact ((h.2 c1).2 c2)
theorem G_Md_findColours_65 {d : Nat} {x1 : Int32} {x2 : Int32} {x3 : Int32} {x4 : Int32} {w : xWd} {Q : xMV → xWd → Prop} (h : (vp_in x1 8 ∧ ((p_in x3 (w 81 x1.toNatClampNeg) → (vp_in x1 8 ∧ (vp_in x1 8 ∧ ∀ w1 : xWd, w1 = x_set w 81 x1.toNatClampNeg ((w 81 x1.toNatClampNeg) + 1) → xWp (d + 3) m_Md_findColours 65 [xA 7 2, xI x1, xI x2, xI x3, xI x4] [] w1 Q))) ∧ (¬ (p_in x3 (w 81 x1.toNatClampNeg)) → xWp (d + 3) m_Md_findColours 2 [xA 7 2, xI (x1 + 1), xU, xU, xU] [] w Q)))) : xWp (d + 3) m_Md_findColours 65 [xA 7 2, xI x1, xI x2, xI x3, xI x4] [] w Q := by
  refine x_goN 4 (pc' := 71) (ls' := [xA 7 2, xI x1, xI x2, xI x3, xI x4]) (st' := [xI x1, xA 108 81, xI x3]) (w' := w) rfl ?_
  refine x_ob (P := vp_in x1 8) (pc' := 72) (ls' := [xA 7 2, xI x1, xI x2, xI x3, xI x4]) (st' := [xI (w 81 x1.toNatClampNeg), xI x3]) (w' := w) rfl h.1 ?_
  refine x_call (y := m_Md_isOf) (as := [xI x3, xI (w 81 x1.toNatClampNeg)]) (rst := []) rfl [xI x3, xI (w 81 x1.toNatClampNeg)] rfl ?_
  refine S_Md_isOf (fun c1 => ?_) (fun c1 => ?_)
  · skip
    refine x_goN 1 (pc' := if (1 : Int32) = (0 : Int32) then 91 else 78) (ls' := [xA 7 2, xI x1, xI x2, xI x3, xI x4]) (st' := []) (w' := w) rfl ?_
    refine x_brF (by decide) ?_
    refine x_goN 4 (pc' := 84) (ls' := [xA 7 2, xI x1, xI x2, xI x3, xI x4]) (st' := [xI x1, xA 108 81, xI x1, xA 108 81]) (w' := w) rfl ?_
    refine x_ob (P := vp_in x1 8) (pc' := 85) (ls' := [xA 7 2, xI x1, xI x2, xI x3, xI x4]) (st' := [xI (w 81 x1.toNatClampNeg), xI x1, xA 108 81]) (w' := w) rfl (h.2.1 c1).1 ?_
    refine x_goN 2 (pc' := 87) (ls' := [xA 7 2, xI x1, xI x2, xI x3, xI x4]) (st' := [xI ((w 81 x1.toNatClampNeg) + 1), xI x1, xA 108 81]) (w' := w) rfl ?_
    refine x_obW (P := vp_in x1 8) (pc' := 88) (ls' := [xA 7 2, xI x1, xI x2, xI x3, xI x4]) (st' := []) (w' := x_set w 81 x1.toNatClampNeg ((w 81 x1.toNatClampNeg) + 1)) rfl (h.2.1 c1).2.1 (fun w1 ew1 => ?_)
    refine x_goN 1 (pc' := 65) (ls' := [xA 7 2, xI x1, xI x2, xI x3, xI x4]) (st' := []) (w' := w1) rfl ?_
    exact ((h.2.1 c1).2.2 w1 ew1)
  · skip
    refine x_goN 1 (pc' := if (0 : Int32) = (0 : Int32) then 91 else 78) (ls' := [xA 7 2, xI x1, xI x2, xI x3, xI x4]) (st' := []) (w' := w) rfl ?_
    refine x_brT (by decide) ?_
    refine x_goN 2 (pc' := 2) (ls' := [xA 7 2, xI (x1 + 1), xI x2, xI x3, xI x4]) (st' := []) (w' := w) rfl ?_
    exact x_weak ((h.2.2 c1)) ⟨Or.inl rfl, Or.inl rfl, Or.inr ⟨rfl, rfl⟩, Or.inr ⟨rfl, rfl⟩, Or.inr ⟨rfl, rfl⟩, trivial⟩
theorem L_Md_findColours_up {d l : Nat} {T : xT} {w0 : xWd} {Q : xMV → xWd → Prop} {x2 x4 : Int32} {m : Nat} (hm : m < 256) (hl : l < 8) (hz : z_lz m < 8) (h : ∀ w : xWd, (∀ a, a ≠ 81 → w a = w0 a) → (∀ j, j ≠ l → w 81 j = w0 81 j) → w 81 l = nI (z_lz m) → xWp (d + 3) m_Md_findColours 2 [xA 7 2, xI (nI (l + 1)), xU, xU, xU] [] w Q) : ∀ (k c : Nat) (w : xWd), c + k = z_lz m → (∀ a, a ≠ 81 → w a = w0 a) → (∀ j, j ≠ l → w 81 j = w0 81 j) → w 81 l = nI c → xWp (d + 3) m_Md_findColours 65 [xA 7 2, xI (nI l), xI x2, xI (nI m), xI x4] [] w Q := by
  intro k
  induction k with
  | zero =>
    intro c w hc ha hj hw
    have e : c = z_lz m := by omega
    subst e
    refine G_Md_findColours_65 ⟨z_in (by omega) (by decide), ?_⟩
    rw [z_cl' (by omega), hw]
    refine ⟨fun c1 => ?_, fun _ => by rw [nI_1]; exact h w ha hj hw⟩
    have q := (z_bit' hm hz).mp c1
    rw [(z_lz_bit m hm _ hz).2 rfl] at q
    cases q
  | succ k ih =>
    intro c w hc ha hj hw
    refine G_Md_findColours_65 ⟨z_in (by omega) (by decide), ?_⟩
    rw [z_cl' (by omega), hw]
    refine ⟨fun _ => ⟨z_in (by omega) (by decide), z_in (by omega) (by decide), fun w1 ew1 => ?_⟩, fun c1 => absurd ((z_bit' hm (by omega)).mpr ((z_lz_bit m hm c (by omega)).1 (by omega))) c1⟩
    subst ew1
    refine ih (c + 1) _ (by omega) (fun a ha' => by rw [x_set_o ha']; exact ha a ha') (fun j hj' => by rw [x_set_s, upd_o hj']; exact hj j hj') ?_
    rw [x_set_s, upd_s, nI_1]
theorem L_Md_findColours_in {d l : Nat} {T : xT} {w : xWd} {Q : xMV → xWd → Prop} (hl8 : l < 8) (hc : ∀ v, v < l → w 81 v = nI (tCl T v))
    (h : xWp (d + 3) m_Md_findColours 21 [xA 7 2, xI (nI l), xI (nI (mLv T l)), xI (nI (tTk T l (tCl T) l)), xI (nI l)] [] w Q) : ∀ k v : Nat, v + k = l → xWp (d + 3) m_Md_findColours 21 [xA 7 2, xI (nI l), xI (nI (mLv T l)), xI (nI (tTk T l (tCl T) v)), xI (nI v)] [] w Q := by
  intro k
  induction k with
  | zero =>
    intro v hv
    have e : v = l := by omega
    subst e
    exact h
  | succ k ih =>
    intro v hv
    refine G_Md_findColours_21 ⟨fun c => absurd ((z_le (by omega) (by omega)).mp c) (by omega), fun c => ⟨fun c1 => ⟨z_in (by omega) (by decide), ?_⟩, fun c1 => ?_⟩⟩
    · have hp := (z_bit' (mLv_lt T l) (by omega)).mp c1
      have hlt := tCl_lt (T := T) (show v < 8 by omega)
      rw [z_cl' (by omega), hc v (by omega), z_shl _ (by omega), tTk_s (by omega) hp, nI_1]
      exact ih (v + 1) (by omega)
    · have hp := fun q => c1 ((z_bit' (mLv_lt T l) (by omega)).mpr q)
      rw [z_or0, tTk_n hp, nI_1]
      exact ih (v + 1) (by omega)
theorem L_Md_findColours {d : Nat} {T : xT} {w0 : xWd} {Q : xMV → xWd → Prop} (hS : tS w0 T) (h : ∀ w, cH T w0 w (tn T) → Q xU w) : ∀ (k l : Nat) (w : xWd), l + k = tn T → cH T w0 w l → xWp (d + 3) m_Md_findColours 2 [xA 7 2, xI (nI l), xU, xU, xU] [] w Q := by
  have h8 := tS_n8 hS
  intro k
  induction k with
  | zero =>
    intro l w hl hg
    have e : l = tn T := by omega
    subst e
    exact G_Md_findColours_2 ⟨fun _ => h w hg, fun c => absurd (tS_end (cH_S hS hg)) c⟩
  | succ k ih =>
    intro l w hl hg
    have hlt : l < tn T := by omega
    have hS' := cH_S hS hg
    refine G_Md_findColours_2 ⟨fun c => absurd c (tS_ge hS' hlt), fun c => S_Md_liveBehind hS' hlt ?_⟩
    refine G_Md_findColours_15 ?_
    have e0 : tTk T l (tCl T) 0 = 0 := by unfold tTk; exact z_mk_0 8
    have key := L_Md_findColours_in (d := d) (T := T) (w := w) (Q := Q) (show l < 8 by omega) hg.2 ?_ l 0 (Nat.zero_add _)
    · rw [e0] at key; exact key
    · refine G_Md_findColours_21 ⟨fun _ => ⟨z_in (by omega) (by decide), fun w1 ew1 => ?_⟩, fun c => absurd ((z_le (by omega) (by omega)).mpr (Nat.le_refl l)) c⟩
      have hz : z_lz (tTk T l (tCl T) l) < 8 := by rw [← tCl_eq]; exact tCl_lt (by omega)
      rw [z_cl' (by omega)] at ew1
      subst ew1
      refine L_Md_findColours_up (T := T) (w0 := w) (tTk_lt T l l (tCl T)) (by omega) hz (fun w2 ha hj hw => ?_) (z_lz (tTk T l (tCl T) l)) 0 _ (Nat.zero_add _) (fun a ha => x_set_o ha) (fun j hj => by rw [x_set_s, upd_o hj]) (by rw [x_set_s, upd_s]; rfl)
      refine ih (l + 1) w2 (by omega) ⟨fun a ha' => by rw [ha a ha']; exact hg.1 a ha', fun j hj' => ?_⟩
      by_cases e : j = l
      · subst e; rw [hw, ← tCl_eq]
      · rw [hj j e]; exact hg.2 j (by omega)
theorem S_Md_findColours {d : Nat} {T : xT} {w : xWd} {Q : xMV → xWd → Prop} (hS : tS w T) (h : ∀ w', cH T w w' (tn T) → Q xU w') : xWp (d + 3) m_Md_findColours 0 [xA 7 2, xU, xU, xU, xU] [] w Q :=
  G_Md_findColours_0 (L_Md_findColours hS h (tn T) 0 w (Nat.zero_add _) ⟨fun _ _ => rfl, fun _ q => absurd q (Nat.not_lt_zero _)⟩)
theorem G_Md_colourOf_0 {d : Nat} {x1 : Int32} {w : xWd} {Q : xMV → xWd → Prop} (h : xWp (d + 3) m_Md_findColours 0 [xA 7 2, xU, xU, xU, xU] [] w (fun a w' => xWp (d + 4) m_Md_colourOf 4 [xA 7 2, xI x1] (x_pu a []) w' Q)) : xWp (d + 4) m_Md_colourOf 0 [xA 7 2, xI x1] [] w Q := by
  refine x_goN 1 (pc' := 1) (ls' := [xA 7 2, xI x1]) (st' := [xA 7 2]) (w' := w) rfl ?_
  refine x_call (y := m_Md_findColours) (as := [xA 7 2]) (rst := []) rfl [xA 7 2, xU, xU, xU, xU] rfl ?_
  exact h
theorem G_Md_colourOf_4 {d : Nat} {x1 : Int32} {w : xWd} {Q : xMV → xWd → Prop} (h : (vp_in x1 8 ∧ Q (xI (w 81 x1.toNatClampNeg)) w)) : xWp (d + 4) m_Md_colourOf 4 [xA 7 2, xI x1] [] w Q := by
  refine x_goN 3 (pc' := 9) (ls' := [xA 7 2, xI x1]) (st' := [xI x1, xA 108 81]) (w' := w) rfl ?_
  refine x_ob (P := vp_in x1 8) (pc' := 10) (ls' := [xA 7 2, xI x1]) (st' := [xI (w 81 x1.toNatClampNeg)]) (w' := w) rfl h.1 ?_
  exact x_ret (P := True) rfl trivial h.2
theorem S_Md_colourOf {d l : Nat} {T : xT} {w : xWd} {Q : xMV → xWd → Prop} (hS : tS w T) (hl : l < tn T) (h : ∀ w', cH T w w' (tn T) → Q (xI (nI (tCl T l))) w') : xWp (d + 4) m_Md_colourOf 0 [xA 7 2, xI (nI l)] [] w Q := by
  have h8 := tS_n8 hS
  refine G_Md_colourOf_0 (S_Md_findColours hS (fun w' hg => ?_))
  refine G_Md_colourOf_4 ⟨z_in (by omega) (by decide), ?_⟩
  rw [z_cl' (by omega), hg.2 l hl]
  exact h w' hg
theorem G_Md_manyColours_0 {d : Nat} {w : xWd} {Q : xMV → xWd → Prop} (h : xWp (d + 3) m_Md_findColours 0 [xA 7 2, xU, xU, xU, xU] [] w (fun a w' => xWp (d + 4) m_Md_manyColours 4 [xA 7 2, xU, xU] (x_pu a []) w' Q)) : xWp (d + 4) m_Md_manyColours 0 [xA 7 2, xU, xU] [] w Q := by
  refine x_goN 1 (pc' := 1) (ls' := [xA 7 2, xU, xU]) (st' := [xA 7 2]) (w' := w) rfl ?_
  refine x_call (y := m_Md_findColours) (as := [xA 7 2]) (rst := []) rfl [xA 7 2, xU, xU, xU, xU] rfl ?_
  exact h
theorem G_Md_manyColours_4 {d : Nat} {w : xWd} {Q : xMV → xWd → Prop} (h : xWp (d + 4) m_Md_manyColours 8 [xA 7 2, xI 0, xI 0] [] w Q) : xWp (d + 4) m_Md_manyColours 4 [xA 7 2, xU, xU] [] w Q := by
  refine x_goN 4 (pc' := 8) (ls' := [xA 7 2, xI 0, xI 0]) (st' := []) (w' := w) rfl ?_
  exact h
theorem G_Md_manyColours_8 {d : Nat} {x1 : Int32} {x2 : Int32} {w : xWd} {Q : xMV → xWd → Prop} (h : ((w 2 5 ≤ x2 → Q (xI x1) w) ∧ (¬ (w 2 5 ≤ x2) → (vp_in x2 8 ∧ (((w 81 x2.toNatClampNeg) + 1 ≤ x1 → xWp (d + 4) m_Md_manyColours 8 [xA 7 2, xI x1, xI (x2 + 1)] [] w Q) ∧ (¬ ((w 81 x2.toNatClampNeg) + 1 ≤ x1) → (vp_in x2 8 ∧ xWp (d + 4) m_Md_manyColours 8 [xA 7 2, xI ((w 81 x2.toNatClampNeg) + 1), xI (x2 + 1)] [] w Q))))))) : xWp (d + 4) m_Md_manyColours 8 [xA 7 2, xI x1, xI x2] [] w Q := by
  refine x_goN 4 (pc' := if w 2 5 ≤ x2 then 47 else 16) (ls' := [xA 7 2, xI x1, xI x2]) (st' := []) (w' := w) rfl ?_
  refine x_br (fun c1 => ?_) (fun c1 => ?_)
  · skip
    refine x_goN 1 (pc' := 48) (ls' := [xA 7 2, xI x1, xI x2]) (st' := [xI x1]) (w' := w) rfl ?_
    exact x_ret (P := True) rfl trivial (h.1 c1)
  · skip
    refine x_goN 3 (pc' := 21) (ls' := [xA 7 2, xI x1, xI x2]) (st' := [xI x2, xA 108 81]) (w' := w) rfl ?_
    refine x_ob (P := vp_in x2 8) (pc' := 22) (ls' := [xA 7 2, xI x1, xI x2]) (st' := [xI (w 81 x2.toNatClampNeg)]) (w' := w) rfl (h.2 c1).1 ?_
    refine x_goN 4 (pc' := if (w 81 x2.toNatClampNeg) + 1 ≤ x1 then 39 else 28) (ls' := [xA 7 2, xI x1, xI x2]) (st' := []) (w' := w) rfl ?_
    refine x_br (fun c2 => ?_) (fun c2 => ?_)
    · skip
      refine x_goN 4 (pc' := 8) (ls' := [xA 7 2, xI x1, xI (x2 + 1)]) (st' := []) (w' := w) rfl ?_
      exact ((h.2 c1).2.1 c2)
    · skip
      refine x_goN 3 (pc' := 33) (ls' := [xA 7 2, xI x1, xI x2]) (st' := [xI x2, xA 108 81]) (w' := w) rfl ?_
      refine x_ob (P := vp_in x2 8) (pc' := 34) (ls' := [xA 7 2, xI x1, xI x2]) (st' := [xI (w 81 x2.toNatClampNeg)]) (w' := w) rfl ((h.2 c1).2.2 c2).1 ?_
      refine x_goN 6 (pc' := 8) (ls' := [xA 7 2, xI ((w 81 x2.toNatClampNeg) + 1), xI (x2 + 1)]) (st' := []) (w' := w) rfl ?_
      exact ((h.2 c1).2.2 c2).2
theorem L_Md_manyColours {d : Nat} {T : xT} {w : xWd} {Q : xMV → xWd → Prop} (hS : tS w T) (hc : ∀ l, l < tn T → w 81 l = nI (tCl T l)) (h : Q (xI (nI (nCo T))) w) : ∀ k l : Nat, l + k = tn T → xWp (d + 4) m_Md_manyColours 8 [xA 7 2, xI (nI (z_mx l (fun l => tCl T l + 1))), xI (nI l)] [] w Q := by
  have h8 := tS_n8 hS
  intro k
  induction k with
  | zero =>
    intro l hl
    have e : l = tn T := by omega
    subst e
    exact G_Md_manyColours_8 ⟨fun _ => h, fun c => absurd (tS_end hS) c⟩
  | succ k ih =>
    intro l hl
    have hlt : l < tn T := by omega
    have b1 := z_mx_le l 8 (fun l => tCl T l + 1) (fun j hj => by have := tCl_lt (T := T) (show j < 8 by omega); omega)
    have b2 := tCl_lt (T := T) (show l < 8 by omega)
    have := ih (l + 1) (by omega)
    rw [z_mx_s] at this
    refine G_Md_manyColours_8 ⟨fun c => absurd c (tS_ge hS hlt), fun c => ⟨z_in (by omega) (by decide), ?_⟩⟩
    rw [z_cl' (by omega), hc l hlt, nI_1, nI_1]
    refine ⟨fun c1 => ?_, fun c1 => ⟨z_in (by omega) (by decide), ?_⟩⟩
    · rw [z_le (by omega) (by omega)] at c1
      rw [Nat.max_eq_left c1] at this
      exact this
    · rw [z_le (by omega) (by omega)] at c1
      rw [Nat.max_eq_right (by omega)] at this
      exact this
theorem S_Md_manyColours {d : Nat} {T : xT} {w : xWd} {Q : xMV → xWd → Prop} (hS : tS w T) (h : ∀ w', cH T w w' (tn T) → Q (xI (nI (nCo T))) w') : xWp (d + 4) m_Md_manyColours 0 [xA 7 2, xU, xU] [] w Q := by
  refine G_Md_manyColours_0 (S_Md_findColours hS (fun w' hg => ?_))
  exact G_Md_manyColours_4 (L_Md_manyColours (cH_S hS hg) hg.2 (h w' hg) (tn T) 0 (Nat.zero_add _))
theorem G_Md_greatestPressure_0 {d : Nat} {w : xWd} {Q : xMV → xWd → Prop} (h : xWp (d + 3) m_Md_greatestPressure 4 [xA 7 2, xI 0, xI 0] [] w Q) : xWp (d + 3) m_Md_greatestPressure 0 [xA 7 2, xU, xU] [] w Q := by
  refine x_goN 4 (pc' := 4) (ls' := [xA 7 2, xI 0, xI 0]) (st' := []) (w' := w) rfl ?_
  exact h
theorem G_Md_greatestPressure_4 {d : Nat} {x1 : Int32} {x2 : Int32} {w : xWd} {Q : xMV → xWd → Prop} (h : ((w 2 5 ≤ x2 → Q (xI x1) w) ∧ (¬ (w 2 5 ≤ x2) → xWp (d + 2) m_Md_liveBehind 0 [xA 7 2, xI x2, xU, xU] [] w (fun a w' => xWp (d + 3) m_Md_greatestPressure 17 [xA 7 2, xI x1, xI x2] (x_pu a []) w' Q)))) : xWp (d + 3) m_Md_greatestPressure 4 [xA 7 2, xI x1, xI x2] [] w Q := by
  refine x_goN 4 (pc' := if w 2 5 ≤ x2 then 43 else 12) (ls' := [xA 7 2, xI x1, xI x2]) (st' := []) (w' := w) rfl ?_
  refine x_br (fun c1 => ?_) (fun c1 => ?_)
  · skip
    refine x_goN 1 (pc' := 44) (ls' := [xA 7 2, xI x1, xI x2]) (st' := [xI x1]) (w' := w) rfl ?_
    exact x_ret (P := True) rfl trivial (h.1 c1)
  · skip
    refine x_goN 2 (pc' := 14) (ls' := [xA 7 2, xI x1, xI x2]) (st' := [xI x2, xA 7 2]) (w' := w) rfl ?_
    refine x_call (y := m_Md_liveBehind) (as := [xA 7 2, xI x2]) (rst := []) rfl [xA 7 2, xI x2, xU, xU] rfl ?_
    exact (h.2 c1)
theorem G_Md_greatestPressure_17 {d : Nat} {x1 : Int32} {x2 : Int32} {s0 : Int32} {w : xWd} {Q : xMV → xWd → Prop} (h : xWp (d + 2) m_Md_size 0 [xI s0, xU, xU] [] w (fun a w' => xWp (d + 3) m_Md_greatestPressure 20 [xA 7 2, xI x1, xI x2] (x_pu a []) w' Q)) : xWp (d + 3) m_Md_greatestPressure 17 [xA 7 2, xI x1, xI x2] [xI s0] w Q := by
  refine x_call (y := m_Md_size) (as := [xI s0]) (rst := []) rfl [xI s0, xU, xU] rfl ?_
  exact h
theorem G_Md_greatestPressure_20 {d : Nat} {x1 : Int32} {x2 : Int32} {s0 : Int32} {w : xWd} {Q : xMV → xWd → Prop} (h : ((s0 ≤ x1 → xWp (d + 3) m_Md_greatestPressure 4 [xA 7 2, xI x1, xI (x2 + 1)] [] w Q) ∧ (¬ (s0 ≤ x1) → xWp (d + 2) m_Md_liveBehind 0 [xA 7 2, xI x2, xU, xU] [] w (fun a w' => xWp (d + 3) m_Md_greatestPressure 29 [xA 7 2, xI x1, xI x2] (x_pu a []) w' Q)))) : xWp (d + 3) m_Md_greatestPressure 20 [xA 7 2, xI x1, xI x2] [xI s0] w Q := by
  refine x_goN 2 (pc' := if s0 ≤ x1 then 35 else 24) (ls' := [xA 7 2, xI x1, xI x2]) (st' := []) (w' := w) rfl ?_
  refine x_br (fun c1 => ?_) (fun c1 => ?_)
  · skip
    refine x_goN 4 (pc' := 4) (ls' := [xA 7 2, xI x1, xI (x2 + 1)]) (st' := []) (w' := w) rfl ?_
    exact (h.1 c1)
  · skip
    refine x_goN 2 (pc' := 26) (ls' := [xA 7 2, xI x1, xI x2]) (st' := [xI x2, xA 7 2]) (w' := w) rfl ?_
    refine x_call (y := m_Md_liveBehind) (as := [xA 7 2, xI x2]) (rst := []) rfl [xA 7 2, xI x2, xU, xU] rfl ?_
    exact (h.2 c1)
theorem G_Md_greatestPressure_29 {d : Nat} {x1 : Int32} {x2 : Int32} {s0 : Int32} {w : xWd} {Q : xMV → xWd → Prop} (h : xWp (d + 2) m_Md_size 0 [xI s0, xU, xU] [] w (fun a w' => xWp (d + 3) m_Md_greatestPressure 32 [xA 7 2, xI x1, xI x2] (x_pu a []) w' Q)) : xWp (d + 3) m_Md_greatestPressure 29 [xA 7 2, xI x1, xI x2] [xI s0] w Q := by
  refine x_call (y := m_Md_size) (as := [xI s0]) (rst := []) rfl [xI s0, xU, xU] rfl ?_
  exact h
theorem G_Md_greatestPressure_32 {d : Nat} {x1 : Int32} {x2 : Int32} {s0 : Int32} {w : xWd} {Q : xMV → xWd → Prop} (h : xWp (d + 3) m_Md_greatestPressure 4 [xA 7 2, xI s0, xI (x2 + 1)] [] w Q) : xWp (d + 3) m_Md_greatestPressure 32 [xA 7 2, xI x1, xI x2] [xI s0] w Q := by
  refine x_goN 4 (pc' := 4) (ls' := [xA 7 2, xI s0, xI (x2 + 1)]) (st' := []) (w' := w) rfl ?_
  exact h
theorem L_Md_greatestPressure {d : Nat} {T : xT} {w : xWd} {Q : xMV → xWd → Prop} (hS : tS w T) (h : Q (xI (nI (fMx T))) w) : ∀ k l : Nat, l + k = tn T → xWp (d + 3) m_Md_greatestPressure 4 [xA 7 2, xI (nI (z_mx l (fun l => z_pc (mLv T l)))), xI (nI l)] [] w Q := by
  have h8 := tS_n8 hS
  intro k
  induction k with
  | zero =>
    intro l hl
    have e : l = tn T := by omega
    subst e
    exact G_Md_greatestPressure_4 ⟨fun _ => h, fun c => absurd (tS_end hS) c⟩
  | succ k ih =>
    intro l hl
    have hlt : l < tn T := by omega
    have b1 := z_mx_le l 8 (fun l => z_pc (mLv T l)) (fun j _ => z_pc_le _)
    have b2 := z_pc_le (mLv T l)
    have := ih (l + 1) (by omega)
    rw [z_mx_s] at this
    refine G_Md_greatestPressure_4 ⟨fun c => absurd c (tS_ge hS hlt), fun c => S_Md_liveBehind hS hlt ?_⟩
    refine G_Md_greatestPressure_17 (S_Md_size (mLv_lt T l) ?_)
    refine G_Md_greatestPressure_20 ⟨fun c1 => ?_, fun c1 => S_Md_liveBehind hS hlt ?_⟩
    · rw [z_le (by omega) (by omega)] at c1
      rw [Nat.max_eq_left c1] at this
      rw [nI_1]; exact this
    · refine G_Md_greatestPressure_29 (S_Md_size (mLv_lt T l) ?_)
      refine G_Md_greatestPressure_32 ?_
      rw [z_le (by omega) (by omega)] at c1
      rw [Nat.max_eq_right (by omega)] at this
      rw [nI_1]; exact this
theorem S_Md_greatestPressure {d : Nat} {T : xT} {w : xWd} {Q : xMV → xWd → Prop} (hS : tS w T) (h : Q (xI (nI (fMx T))) w) : xWp (d + 3) m_Md_greatestPressure 0 [xA 7 2, xU, xU] [] w Q :=
  G_Md_greatestPressure_0 (L_Md_greatestPressure hS h (tn T) 0 (Nat.zero_add _))
end
section
/-! THE MODEL'S LINES: how many twos cross; reuse; sets of used ones -/
theorem z_sm_add : ∀ (n : Nat) (f g : Nat → Nat), z_sm n (fun v => f v + g v) = z_sm n f + z_sm n g
  | 0, _, _ => rfl
  | n + 1, f, g => by
    rw [z_sm_s, z_sm_s, z_sm_s, z_sm_add n f g]; omega
theorem z_sm_if : ∀ (n : Nat) (p : Nat → Bool), z_sm n (fun v => if p v then 1 else 0) = z_cn n p
  | 0, _ => rfl
  | n + 1, p => by rw [z_sm_s, z_cn_s, z_sm_if n p]
/-- twos of a relation that goes both ways, counted from both sides -/
theorem z_twos {R : Nat → Nat → Bool} (hs : ∀ a b, R a b = R b a) : ∀ n : Nat, z_sm n (fun v => z_cn n (fun u => decide (u ≠ v) && R v u)) = 2 * z_sm n (fun a => z_cn n (fun b => decide (a < b) && R a b))
  | 0 => rfl
  | n + 1 => by
    have ih := z_twos hs n
    rw [z_sm_s, z_sm_s]
    have e1 : z_sm n (fun v => z_cn (n + 1) (fun u => decide (u ≠ v) && R v u)) = z_sm n (fun v => z_cn n (fun u => decide (u ≠ v) && R v u)) + z_cn n (fun v => R v n) := by
      rw [← z_sm_if, ← z_sm_add]
      apply z_sm_congr
      intro v hv
      rw [z_cn_s]
      congr 1
      rw [decide_eq_true (show n ≠ v by omega), Bool.true_and]
    have e2 : z_sm n (fun a => z_cn (n + 1) (fun b => decide (a < b) && R a b)) = z_sm n (fun a => z_cn n (fun b => decide (a < b) && R a b)) + z_cn n (fun v => R v n) := by
      rw [← z_sm_if, ← z_sm_add]
      apply z_sm_congr
      intro v hv
      rw [z_cn_s]
      congr 1
      rw [decide_eq_true hv, Bool.true_and]
    have e3 : z_cn (n + 1) (fun u => decide (u ≠ n) && R n u) = z_cn n (fun v => R v n) := by
      rw [z_cn_s, decide_eq_false (show ¬ n ≠ n by omega), Bool.false_and, if_neg Bool.false_ne_true, Nat.add_zero]
      apply z_cn_congr
      intro j hj
      rw [decide_eq_true (show j ≠ n by omega), Bool.true_and, hs]
    have e4 : z_cn (n + 1) (fun b => decide (n < b) && R n b) = 0 := by
      rw [z_cn_congr (n + 1) (q := fun _ => false) (fun j hj => by rw [decide_eq_false (show ¬ n < j by omega), Bool.false_and])]
      have : ∀ k, z_cn k (fun _ => false) = 0 := by
        intro k
        induction k with
        | zero => rfl
        | succ k ih => rw [z_cn_s, ih]; rfl
      exact this _
    rw [e1, e2, e3, e4, ih]
    omega
def nCm (T : xT) : Nat := z_sm (tn T) (fun a => z_cn (tn T) (fun b => decide (a < b) && cr T a b))
theorem nCr_eq {T : xT} (h : tCh T) : nCr T = nCm T := by
  unfold nCr nCm
  have e : z_sm (tn T) (fun v => z_pc (mCr T v)) = z_sm (tn T) (fun v => z_cn (tn T) (fun u => decide (u ≠ v) && cr T v u)) := by
    apply z_sm_congr
    intro v _
    rw [← mCr_n h, z_pc_mk h.1, z_cn_up 8 h.1]
  rw [e, z_twos (cr_sym T)]
  omega
theorem nCm_le {T : xT} (h : tn T ≤ 8) : nCm T ≤ 64 := by
  have := z_sm_le (tn T) 8 (fun a => z_cn (tn T) (fun b => decide (a < b) && cr T a b)) (fun j _ => by have := z_cn_le (tn T) (fun b => decide (j < b) && cr T j b); omega)
  unfold nCm
  omega
theorem G_Md_manyCross_0 {d : Nat} {w : xWd} {Q : xMV → xWd → Prop} (h : xWp (d + 4) m_Md_manyCross 4 [xA 7 2, xI 0, xI 0, xU] [] w Q) : xWp (d + 4) m_Md_manyCross 0 [xA 7 2, xU, xU, xU] [] w Q := by
  refine x_goN 4 (pc' := 4) (ls' := [xA 7 2, xI 0, xI 0, xU]) (st' := []) (w' := w) rfl ?_
  exact h
theorem G_Md_manyCross_4 {d : Nat} {x1 : Int32} {x2 : Int32} {w : xWd} {Q : xMV → xWd → Prop} (h : ((w 2 5 ≤ x2 → Q (xI x1) w) ∧ (¬ (w 2 5 ≤ x2) → xWp (d + 4) m_Md_manyCross 16 [xA 7 2, xI x1, xI x2, xI (x2 + 1)] [] w Q))) : xWp (d + 4) m_Md_manyCross 4 [xA 7 2, xI x1, xI x2, xU] [] w Q := by
  refine x_goN 4 (pc' := if w 2 5 ≤ x2 then 53 else 12) (ls' := [xA 7 2, xI x1, xI x2, xU]) (st' := []) (w' := w) rfl ?_
  refine x_br (fun c1 => ?_) (fun c1 => ?_)
  · skip
    refine x_goN 1 (pc' := 54) (ls' := [xA 7 2, xI x1, xI x2, xU]) (st' := [xI x1]) (w' := w) rfl ?_
    exact x_ret (P := True) rfl trivial (h.1 c1)
  · skip
    refine x_goN 4 (pc' := 16) (ls' := [xA 7 2, xI x1, xI x2, xI (x2 + 1)]) (st' := []) (w' := w) rfl ?_
    exact (h.2 c1)
theorem G_Md_manyCross_16 {d : Nat} {x1 : Int32} {x2 : Int32} {x3 : Int32} {w : xWd} {Q : xMV → xWd → Prop} (h : ((w 2 5 ≤ x3 → xWp (d + 4) m_Md_manyCross 4 [xA 7 2, xI x1, xI (x2 + 1), xU] [] w Q) ∧ (¬ (w 2 5 ≤ x3) → xWp (d + 3) m_Md_doCross 0 [xA 7 2, xI x2, xI x3, xU, xU] [] w (fun a w' => xWp (d + 4) m_Md_manyCross 31 [xA 7 2, xI x1, xI x2, xI x3] (x_pu a [xI x1]) w' Q)))) : xWp (d + 4) m_Md_manyCross 16 [xA 7 2, xI x1, xI x2, xI x3] [] w Q := by
  refine x_goN 4 (pc' := if w 2 5 ≤ x3 then 47 else 24) (ls' := [xA 7 2, xI x1, xI x2, xI x3]) (st' := []) (w' := w) rfl ?_
  refine x_br (fun c1 => ?_) (fun c1 => ?_)
  · skip
    refine x_goN 2 (pc' := 4) (ls' := [xA 7 2, xI x1, xI (x2 + 1), xI x3]) (st' := []) (w' := w) rfl ?_
    exact x_weak ((h.1 c1)) ⟨Or.inl rfl, Or.inl rfl, Or.inl rfl, Or.inr ⟨rfl, rfl⟩, trivial⟩
  · skip
    refine x_goN 4 (pc' := 28) (ls' := [xA 7 2, xI x1, xI x2, xI x3]) (st' := [xI x3, xI x2, xA 7 2, xI x1]) (w' := w) rfl ?_
    refine x_call (y := m_Md_doCross) (as := [xA 7 2, xI x2, xI x3]) (rst := [xI x1]) rfl [xA 7 2, xI x2, xI x3, xU, xU] rfl ?_
    exact (h.2 c1)
theorem G_Md_manyCross_31 {d : Nat} {x1 : Int32} {x2 : Int32} {x3 : Int32} {s1 : Int32} {s0 : Int32} {w : xWd} {Q : xMV → xWd → Prop} (h : ((s1 = 0 → xWp (d + 4) m_Md_manyCross 16 [xA 7 2, xI (s0 + 0), xI x2, xI (x3 + 1)] [] w Q) ∧ (¬ (s1 = 0) → xWp (d + 4) m_Md_manyCross 16 [xA 7 2, xI (s0 + 1), xI x2, xI (x3 + 1)] [] w Q))) : xWp (d + 4) m_Md_manyCross 31 [xA 7 2, xI x1, xI x2, xI x3] [xI s1, xI s0] w Q := by
  refine x_goN 1 (pc' := if s1 = 0 then 38 else 34) (ls' := [xA 7 2, xI x1, xI x2, xI x3]) (st' := [xI s0]) (w' := w) rfl ?_
  refine x_br (fun c1 => ?_) (fun c1 => ?_)
  · skip
    refine x_goN 5 (pc' := 16) (ls' := [xA 7 2, xI (s0 + 0), xI x2, xI (x3 + 1)]) (st' := []) (w' := w) rfl ?_
    exact (h.1 c1)
  · skip
    refine x_goN 6 (pc' := 16) (ls' := [xA 7 2, xI (s0 + 1), xI x2, xI (x3 + 1)]) (st' := []) (w' := w) rfl ?_
    exact (h.2 c1)
theorem L_Md_manyCross_b {d a c : Nat} {T : xT} {w : xWd} {Q : xMV → xWd → Prop} (hS : tS w T) (ha : a < tn T)
    (h : xWp (d + 4) m_Md_manyCross 4 [xA 7 2, xI (nI (c + z_cn (tn T) (fun b => decide (a < b) && cr T a b))), xI (nI (a + 1)), xU] [] w Q) : ∀ k b : Nat, b + k = tn T → a < b → xWp (d + 4) m_Md_manyCross 16 [xA 7 2, xI (nI (c + z_cn b (fun b => decide (a < b) && cr T a b))), xI (nI a), xI (nI b)] [] w Q := by
  have h8 := tS_n8 hS
  intro k
  induction k with
  | zero =>
    intro b hb hab
    have e : b = tn T := by omega
    subst e
    refine G_Md_manyCross_16 ⟨fun _ => ?_, fun c => absurd (tS_end hS) c⟩
    rw [nI_1]; exact h
  | succ k ih =>
    intro b hb hab
    have hlt : b < tn T := by omega
    have := ih (b + 1) (by omega) (by omega)
    rw [z_cn_s, decide_eq_true hab, Bool.true_and] at this
    refine G_Md_manyCross_16 ⟨fun c => absurd c (tS_ge hS hlt), fun _ => S_Md_doCross hS (by omega) (by omega) (fun p => ?_) (fun p => ?_)⟩
    · refine G_Md_manyCross_31 ⟨fun c => absurd c n_10, fun _ => ?_⟩
      rw [p, if_pos rfl, ← Nat.add_assoc] at this
      rw [nI_1, nI_1]; exact this
    · refine G_Md_manyCross_31 ⟨fun _ => ?_, fun c => absurd rfl c⟩
      rw [Bool.eq_false_iff.mpr p, if_neg Bool.false_ne_true, Nat.add_zero] at this
      rw [z_add0, nI_1]; exact this
theorem z_cn_0 {p : Nat → Bool} : ∀ k, (∀ j, j < k → p j = false) → z_cn k p = 0
  | 0, _ => rfl
  | k + 1, h => by rw [z_cn_s, h k (by omega), z_cn_0 k (fun j hj => h j (by omega))]; rfl
theorem L_Md_manyCross {d : Nat} {T : xT} {w : xWd} {Q : xMV → xWd → Prop} (hS : tS w T) (h : Q (xI (nI (nCr T))) w) : ∀ k a : Nat, a + k = tn T → xWp (d + 4) m_Md_manyCross 4 [xA 7 2, xI (nI (z_sm a (fun a => z_cn (tn T) (fun b => decide (a < b) && cr T a b)))), xI (nI a), xU] [] w Q := by
  have h8 := tS_n8 hS
  intro k
  induction k with
  | zero =>
    intro a ha
    have e : a = tn T := by omega
    subst e
    rw [nCr_eq hS.2.1] at h
    exact G_Md_manyCross_4 ⟨fun _ => h, fun c => absurd (tS_end hS) c⟩
  | succ k ih =>
    intro a ha
    have hlt : a < tn T := by omega
    refine G_Md_manyCross_4 ⟨fun c => absurd c (tS_ge hS hlt), fun _ => ?_⟩
    have := L_Md_manyCross_b (d := d) (c := z_sm a (fun a => z_cn (tn T) (fun b => decide (a < b) && cr T a b))) (Q := Q) hS hlt (ih (a + 1) (by omega)) (tn T - (a + 1)) (a + 1) (by omega) (by omega)
    rw [z_cn_0 (a + 1) (fun j hj => by rw [decide_eq_false (show ¬ a < j by omega), Bool.false_and]), Nat.add_zero] at this
    rw [nI_1]; exact this
theorem S_Md_manyCross {d : Nat} {T : xT} {w : xWd} {Q : xMV → xWd → Prop} (hS : tS w T) (h : Q (xI (nI (nCr T))) w) : xWp (d + 4) m_Md_manyCross 0 [xA 7 2, xU, xU, xU] [] w Q :=
  G_Md_manyCross_0 (L_Md_manyCross hS h (tn T) 0 (Nat.zero_add _))
theorem G_Md_canReuse_0 {d : Nat} {x1 : Int32} {x2 : Int32} {x3 : Int32} {w : xWd} {Q : xMV → xWd → Prop} (h : xWp d m_Md_isBelow 0 [xA 7 2, xI x1, xI x3, xU] [] w (fun a w' => xWp (d + 1) m_Md_canReuse 6 [xA 7 2, xI x1, xI x2, xI x3] (x_pu a []) w' Q)) : xWp (d + 1) m_Md_canReuse 0 [xA 7 2, xI x1, xI x2, xI x3] [] w Q := by
  refine x_goN 3 (pc' := 3) (ls' := [xA 7 2, xI x1, xI x2, xI x3]) (st' := [xI x3, xI x1, xA 7 2]) (w' := w) rfl ?_
  refine x_call (y := m_Md_isBelow) (as := [xA 7 2, xI x1, xI x3]) (rst := []) rfl [xA 7 2, xI x1, xI x3, xU] rfl ?_
  exact h
theorem G_Md_canReuse_6 {d : Nat} {x1 : Int32} {x2 : Int32} {x3 : Int32} {s0 : Int32} {w : xWd} {Q : xMV → xWd → Prop} (h : ((s0 = 0 → Q (xI 0) w) ∧ (¬ (s0 = 0) → (vp_in x1 8 ∧ ((w 73 x1.toNatClampNeg < 2 → Q (xI 1) w) ∧ (¬ (w 73 x1.toNatClampNeg < 2) → (vp_in (((2 * x1) + 1) - x2) 16 ∧ ((w 74 (((2 * x1) + 1) - x2).toNatClampNeg = x3 → Q (xI 0) w) ∧ (¬ (w 74 (((2 * x1) + 1) - x2).toNatClampNeg = x3) → Q (xI 1) w))))))))) : xWp (d + 1) m_Md_canReuse 6 [xA 7 2, xI x1, xI x2, xI x3] [xI s0] w Q := by
  refine x_goN 1 (pc' := if s0 = 0 then 39 else 9) (ls' := [xA 7 2, xI x1, xI x2, xI x3]) (st' := []) (w' := w) rfl ?_
  refine x_br (fun c1 => ?_) (fun c1 => ?_)
  · skip
    refine x_goN 1 (pc' := 40) (ls' := [xA 7 2, xI x1, xI x2, xI x3]) (st' := [xI 0]) (w' := w) rfl ?_
    exact x_ret (P := (0 : Int32) = 0 ∨ (0 : Int32) = 1) rfl (by decide) (h.1 c1)
  · skip
    refine x_goN 3 (pc' := 14) (ls' := [xA 7 2, xI x1, xI x2, xI x3]) (st' := [xI x1, xA 108 73]) (w' := w) rfl ?_
    refine x_ob (P := vp_in x1 8) (pc' := 15) (ls' := [xA 7 2, xI x1, xI x2, xI x3]) (st' := [xI (w 73 x1.toNatClampNeg)]) (w' := w) rfl (h.2 c1).1 ?_
    refine x_goN 2 (pc' := if w 73 x1.toNatClampNeg < 2 then 35 else 19) (ls' := [xA 7 2, xI x1, xI x2, xI x3]) (st' := []) (w' := w) rfl ?_
    refine x_br (fun c2 => ?_) (fun c2 => ?_)
    · skip
      refine x_goN 2 (pc' := 40) (ls' := [xA 7 2, xI x1, xI x2, xI x3]) (st' := [xI 1]) (w' := w) rfl ?_
      exact x_ret (P := (1 : Int32) = 0 ∨ (1 : Int32) = 1) rfl (by decide) ((h.2 c1).2.1 c2)
    · skip
      refine x_goN 9 (pc' := 30) (ls' := [xA 7 2, xI x1, xI x2, xI x3]) (st' := [xI (((2 * x1) + 1) - x2), xA 116 74]) (w' := w) rfl ?_
      refine x_ob (P := vp_in (((2 * x1) + 1) - x2) 16) (pc' := 31) (ls' := [xA 7 2, xI x1, xI x2, xI x3]) (st' := [xI (w 74 (((2 * x1) + 1) - x2).toNatClampNeg)]) (w' := w) rfl ((h.2 c1).2.2 c2).1 ?_
      refine x_goN 2 (pc' := if w 74 (((2 * x1) + 1) - x2).toNatClampNeg = x3 then 39 else 35) (ls' := [xA 7 2, xI x1, xI x2, xI x3]) (st' := []) (w' := w) rfl ?_
      refine x_br (fun c3 => ?_) (fun c3 => ?_)
      · skip
        refine x_goN 1 (pc' := 40) (ls' := [xA 7 2, xI x1, xI x2, xI x3]) (st' := [xI 0]) (w' := w) rfl ?_
        exact x_ret (P := (0 : Int32) = 0 ∨ (0 : Int32) = 1) rfl (by decide) (((h.2 c1).2.2 c2).2.1 c3)
      · skip
        refine x_goN 2 (pc' := 40) (ls' := [xA 7 2, xI x1, xI x2, xI x3]) (st' := [xI 1]) (w' := w) rfl ?_
        exact x_ret (P := (1 : Int32) = 0 ∨ (1 : Int32) = 1) rfl (by decide) (((h.2 c1).2.2 c2).2.2 c3)
theorem pU_iff {T : xT} {a b c : Nat} (h8 : tn T ≤ 8) (ha : a < tn T) (hb : b < tm T a) (hm : tm T a ≤ 2) (hc : c < tn T) : pU T (nI a) (nI b) (nI c) ↔ tb T a c = true ∧ (tm T a = 2 → tu T (2 * a + (1 - b)) ≠ c) := by
  constructor
  · rintro ⟨a', b', c', e1, e2, e3, ha', hb', hc', h1, h2⟩
    have := (z_eq (by omega) (by omega)).mp e1
    subst this
    have := (z_eq (by omega) (by omega)).mp e2
    subst this
    have := (z_eq (by omega) (by omega)).mp e3
    subst this
    exact ⟨h1, h2⟩
  · rintro ⟨h1, h2⟩
    exact ⟨a, b, c, rfl, rfl, rfl, ha, hb, hc, h1, h2⟩
theorem S_Md_canReuse {d a b c : Nat} {T : xT} {w : xWd} {Q : xMV → xWd → Prop} (hS : tS w T) (ha : a < tn T) (hb : b < tm T a) (hc : c < tn T) (h1 : pU T (nI a) (nI b) (nI c) → Q (xI 1) w) (h2 : ¬ pU T (nI a) (nI b) (nI c) → Q (xI 0) w) : xWp (d + 1) m_Md_canReuse 0 [xA 7 2, xI (nI a), xI (nI b), xI (nI c)] [] w Q := by
  have h8 := tS_n8 hS
  have hm := tS_m2 hS ha
  have hp := pU_iff h8 ha hb hm hc
  refine G_Md_canReuse_0 (S_Md_isBelow hS ha (by omega) (fun p => ?_) (fun p => ?_))
  · refine G_Md_canReuse_6 ⟨fun c => absurd c n_10, fun _ => ⟨z_in (by omega) (by decide), ?_⟩⟩
    rw [tM_m hS ha]
    refine ⟨fun c1 => ?_, fun c1 => ?_⟩
    · have := (z_lt (b := 2) (by omega) (by decide)).mp c1
      exact h1 (hp.mpr ⟨p, fun q => by omega⟩)
    · have hm2 : tm T a = 2 := by
        have hge : ¬ tm T a < 2 := fun q => c1 ((z_lt (b := 2) (by omega) (by decide)).mpr q)
        omega
      have e : (2 : Int32) * nI a + 1 - nI b = nI (2 * a + (1 - b)) := by
        rw [show (2 : Int32) * nI a + 1 = nI (2 * a + 1) from by rw [show (2 : Int32) * nI a = nI (2 * a) from pk_mul 2 a, nI_1], pk_sub (by omega)]
        congr 1
        omega
      have hu := tu_lt hS.2 ha (show 1 - b < tm T a by omega)
      rw [e, z_cl' (by omega), tM_u hS ha (by omega)]
      refine ⟨z_in (by omega) (by decide), fun c2 => h2 (fun q => (hp.mp q).2 hm2 ((z_eq (by omega) (by omega)).mp c2)), fun c2 => h1 (hp.mpr ⟨p, fun _ q => c2 (by rw [q])⟩)⟩
  · exact G_Md_canReuse_6 ⟨fun _ => h2 (fun q => p (hp.mp q).1), fun c => absurd rfl c⟩
theorem G_Md_usedBy_0 {d : Nat} {x1 : Int32} {w : xWd} {Q : xMV → xWd → Prop} (h : xWp d m_Md_usedBy 4 [xA 7 2, xI x1, xI 0, xI 0] [] w Q) : xWp d m_Md_usedBy 0 [xA 7 2, xI x1, xU, xU] [] w Q := by
  refine x_goN 4 (pc' := 4) (ls' := [xA 7 2, xI x1, xI 0, xI 0]) (st' := []) (w' := w) rfl ?_
  exact h
theorem G_Md_usedBy_4 {d : Nat} {x1 : Int32} {x2 : Int32} {x3 : Int32} {w : xWd} {Q : xMV → xWd → Prop} (h : (vp_in x1 8 ∧ ((w 73 x1.toNatClampNeg ≤ x3 → Q (xI x2) w) ∧ (¬ (w 73 x1.toNatClampNeg ≤ x3) → (vp_in ((2 * x1) + x3) 16 ∧ xWp d m_Md_usedBy 4 [xA 7 2, xI x1, xI (x2 ||| ((1 : Int32) <<< ((w 74 ((2 * x1) + x3).toNatClampNeg) &&& 31))), xI (x3 + 1)] [] w Q))))) : xWp d m_Md_usedBy 4 [xA 7 2, xI x1, xI x2, xI x3] [] w Q := by
  refine x_goN 4 (pc' := 10) (ls' := [xA 7 2, xI x1, xI x2, xI x3]) (st' := [xI x1, xA 108 73, xI x3]) (w' := w) rfl ?_
  refine x_ob (P := vp_in x1 8) (pc' := 11) (ls' := [xA 7 2, xI x1, xI x2, xI x3]) (st' := [xI (w 73 x1.toNatClampNeg), xI x3]) (w' := w) rfl h.1 ?_
  refine x_goN 1 (pc' := if w 73 x1.toNatClampNeg ≤ x3 then 35 else 14) (ls' := [xA 7 2, xI x1, xI x2, xI x3]) (st' := []) (w' := w) rfl ?_
  refine x_br (fun c1 => ?_) (fun c1 => ?_)
  · skip
    refine x_goN 1 (pc' := 36) (ls' := [xA 7 2, xI x1, xI x2, xI x3]) (st' := [xI x2]) (w' := w) rfl ?_
    exact x_ret (P := True) rfl trivial (h.2.1 c1)
  · skip
    refine x_goN 9 (pc' := 25) (ls' := [xA 7 2, xI x1, xI x2, xI x3]) (st' := [xI ((2 * x1) + x3), xA 116 74, xI 1, xI x2]) (w' := w) rfl ?_
    refine x_ob (P := vp_in ((2 * x1) + x3) 16) (pc' := 26) (ls' := [xA 7 2, xI x1, xI x2, xI x3]) (st' := [xI (w 74 ((2 * x1) + x3).toNatClampNeg), xI 1, xI x2]) (w' := w) rfl (h.2.2 c1).1 ?_
    refine x_goN 5 (pc' := 4) (ls' := [xA 7 2, xI x1, xI (x2 ||| ((1 : Int32) <<< ((w 74 ((2 * x1) + x3).toNatClampNeg) &&& 31))), xI (x3 + 1)]) (st' := []) (w' := w) rfl ?_
    exact (h.2.2 c1).2
def tUn (T : xT) (l i : Nat) : Nat := z_mk 8 (fun v => z_any i (fun j => decide (tu T (2 * l + j) = v)))
theorem tUn_s {T : xT} {l i : Nat} (h : tu T (2 * l + i) < 8) : nI (tUn T l i) ||| nI (2 ^ tu T (2 * l + i)) = nI (tUn T l (i + 1)) := by
  rw [fa_or]
  congr 1
  apply Nat.eq_of_testBit_eq
  intro j
  unfold tUn
  rw [Nat.testBit_or, z_mk_tb, z_mk_tb, Nat.testBit_two_pow]
  show _ = (decide (j < 8) && (z_any i _ || decide (tu T (2 * l + i) = j)))
  by_cases hj : j < 8
  · rw [decide_eq_true hj, Bool.true_and, Bool.true_and]
  · rw [decide_eq_false hj, Bool.false_and, Bool.false_and, Bool.false_or]
    exact decide_eq_false (by omega)
theorem tUn_e {T : xT} {l : Nat} (hm : tm T l ≤ 2) : tUn T l (tm T l) = tU T l := by
  unfold tUn tU
  apply z_mk_congr
  intro v _
  have h1 := tr_iff (v := v) hm
  have h2 := z_any_iff (tm T l) (fun j => decide (tu T (2 * l + j) = v))
  cases hr : tr T l v with
  | true =>
    obtain ⟨j, a, b⟩ := h1.mp hr
    exact h2.mpr ⟨j, a, decide_eq_true b⟩
  | false =>
    apply Bool.eq_false_iff.mpr
    intro q
    obtain ⟨j, a, b⟩ := h2.mp q
    rw [h1.mpr ⟨j, a, of_decide_eq_true b⟩] at hr
    cases hr
theorem L_Md_usedBy {d l : Nat} {T : xT} {w : xWd} {Q : xMV → xWd → Prop} (hS : tS w T) (hl : l < tn T) (h : Q (xI (nI (tU T l))) w) : ∀ k i : Nat, i + k = tm T l → xWp d m_Md_usedBy 4 [xA 7 2, xI (nI l), xI (nI (tUn T l i)), xI (nI i)] [] w Q := by
  have h8 := tS_n8 hS
  have hm := tS_m2 hS hl
  intro k
  induction k with
  | zero =>
    intro i hi
    have e : i = tm T l := by omega
    subst e
    refine G_Md_usedBy_4 ⟨z_in (by omega) (by decide), fun _ => by rw [tUn_e hm]; exact h, fun c => absurd ?_ c⟩
    rw [tM_m hS hl, z_le (by omega) (by omega)]; omega
  | succ k ih =>
    intro i hi
    have hu := tu_lt hS.2 hl (show i < tm T l by omega)
    refine G_Md_usedBy_4 ⟨z_in (by omega) (by decide), fun c => absurd c ?_, fun c => ?_⟩
    · rw [tM_m hS hl, z_le (by omega) (by omega)]; omega
    · rw [z_2l, z_cl' (by omega), tM_u hS hl (by omega), z_shl _ (by omega), tUn_s hu, nI_1]
      exact ⟨z_in (by omega) (by decide), ih (i + 1) (by omega)⟩
theorem S_Md_usedBy {d l : Nat} {T : xT} {w : xWd} {Q : xMV → xWd → Prop} (hS : tS w T) (hl : l < tn T) (h : Q (xI (nI (tU T l))) w) : xWp d m_Md_usedBy 0 [xA 7 2, xI (nI l), xU, xU] [] w Q := by
  have := L_Md_usedBy (d := d) hS hl h (tm T l) 0 (Nat.zero_add _)
  rw [show tUn T l 0 = 0 from z_mk_0 8] at this
  exact G_Md_usedBy_0 this
theorem G_Md_isAboveOr_0 {d : Nat} {x1 : Int32} {x2 : Int32} {w : xWd} {Q : xMV → xWd → Prop} (h : ((x1 = x2 → Q (xI 1) w) ∧ (¬ (x1 = x2) → xWp d m_Md_isBelow 0 [xA 7 2, xI x1, xI x2, xU] [] w (fun a w' => xWp (d + 1) m_Md_isAboveOr 11 [xA 7 2, xI x1, xI x2] (x_pu a []) w' Q)))) : xWp (d + 1) m_Md_isAboveOr 0 [xA 7 2, xI x1, xI x2] [] w Q := by
  refine x_goN 3 (pc' := if x1 = x2 then 14 else 5) (ls' := [xA 7 2, xI x1, xI x2]) (st' := []) (w' := w) rfl ?_
  refine x_br (fun c1 => ?_) (fun c1 => ?_)
  · skip
    refine x_goN 2 (pc' := 19) (ls' := [xA 7 2, xI x1, xI x2]) (st' := [xI 1]) (w' := w) rfl ?_
    exact x_ret (P := (1 : Int32) = 0 ∨ (1 : Int32) = 1) rfl (by decide) (h.1 c1)
  · skip
    refine x_goN 3 (pc' := 8) (ls' := [xA 7 2, xI x1, xI x2]) (st' := [xI x2, xI x1, xA 7 2]) (w' := w) rfl ?_
    refine x_call (y := m_Md_isBelow) (as := [xA 7 2, xI x1, xI x2]) (rst := []) rfl [xA 7 2, xI x1, xI x2, xU] rfl ?_
    exact (h.2 c1)
theorem G_Md_isAboveOr_11 {d : Nat} {x1 : Int32} {x2 : Int32} {s0 : Int32} {w : xWd} {Q : xMV → xWd → Prop} (h : ((s0 = 0 → Q (xI 0) w) ∧ (¬ (s0 = 0) → Q (xI 1) w))) : xWp (d + 1) m_Md_isAboveOr 11 [xA 7 2, xI x1, xI x2] [xI s0] w Q := by
  refine x_goN 1 (pc' := if s0 = 0 then 18 else 14) (ls' := [xA 7 2, xI x1, xI x2]) (st' := []) (w' := w) rfl ?_
  refine x_br (fun c1 => ?_) (fun c1 => ?_)
  · skip
    refine x_goN 1 (pc' := 19) (ls' := [xA 7 2, xI x1, xI x2]) (st' := [xI 0]) (w' := w) rfl ?_
    exact x_ret (P := (0 : Int32) = 0 ∨ (0 : Int32) = 1) rfl (by decide) (h.1 c1)
  · skip
    refine x_goN 2 (pc' := 19) (ls' := [xA 7 2, xI x1, xI x2]) (st' := [xI 1]) (w' := w) rfl ?_
    exact x_ret (P := (1 : Int32) = 0 ∨ (1 : Int32) = 1) rfl (by decide) (h.2 c1)
theorem S_Md_isAboveOr {d l v : Nat} {T : xT} {w : xWd} {Q : xMV → xWd → Prop} (hS : tS w T) (hl : l < tn T) (hv : v < tn T) (h1 : (l = v ∨ tb T l v = true) → Q (xI 1) w) (h2 : ¬ (l = v ∨ tb T l v = true) → Q (xI 0) w) : xWp (d + 1) m_Md_isAboveOr 0 [xA 7 2, xI (nI l), xI (nI v)] [] w Q := by
  have h8 := tS_n8 hS
  refine G_Md_isAboveOr_0 ⟨fun c => h1 (Or.inl ((z_eq (by omega) (by omega)).mp c)), fun c => S_Md_isBelow hS hl (by omega) (fun p => ?_) (fun p => ?_)⟩
  · exact G_Md_isAboveOr_11 ⟨fun c => absurd c n_10, fun _ => h1 (Or.inr p)⟩
  · refine G_Md_isAboveOr_11 ⟨fun _ => h2 (fun q => ?_), fun c => absurd rfl c⟩
    rcases q with q | q
    · exact c ((z_eq (by omega) (by omega)).mpr q)
    · exact p q
end
section
/-! LINES ARE PUT ON, TAKEN AWAY, USE OTHER VALUES: the numbers -/
def tPut (T : xT) (k a : Nat) : xT := (tn T + 1, fun l => if l = tn T then k else tk T l, fun l => if l = tn T then a else ta T l, fun l => if l = tn T then 0 else tm T l, tu T)
def tUse (T : xT) (v : Nat) : xT := (tn T, tk T, ta T, fun l => if l = tn T - 1 then tm T l + 1 else tm T l, fun j => if j = 2 * (tn T - 1) + tm T (tn T - 1) then v else tu T j)
def tCut (T : xT) : xT := (tn T - 1, tk T, ta T, tm T, tu T)
def tReu (T : xT) (l i v : Nat) : xT := (tn T, tk T, ta T, tm T, fun j => if j = 2 * l + i then v else tu T j)
theorem t_bl_cg {ab ab' : Nat → Nat} {n : Nat} (h : ∀ l, l < n → ab l = ab' l) (hc : ∀ l, l < n → ab l = 8 ∨ ab l < n) : ∀ (f l v : Nat), l < n → t_bl ab f l v = t_bl ab' f l v
  | 0, _, _, _ => rfl
  | f + 1, l, v, hl => by
    rw [t_bl_s, t_bl_s, ← h l hl]
    rcases hc l hl with e | e
    · rw [e]; rfl
    · rw [t_bl_cg h hc f (ab l) v e]
theorem t_dp_cg {ab ab' : Nat → Nat} {n : Nat} (h : ∀ l, l < n → ab l = ab' l) (hc : ∀ l, l < n → ab l = 8 ∨ ab l < n) : ∀ (f l : Nat), l < n → t_dp ab f l = t_dp ab' f l
  | 0, _, _ => rfl
  | f + 1, l, hl => by
    rw [t_dp_s, t_dp_s, ← h l hl]
    rcases hc l hl with e | e
    · rw [e]; rfl
    · rw [t_dp_cg h hc f (ab l) e]
theorem tCh_c {T : xT} (h : tCh T) : ∀ l, l < tn T → ta T l = 8 ∨ ta T l < tn T := by
  intro l hl
  by_cases e : l = 0
  · exact Or.inl ((h.2 l hl).1 e)
  · have := (h.2 l hl).2 (by omega); exact Or.inr (by omega)
section PUT
variable {T : xT} {k a : Nat}
theorem tPut_a {l : Nat} (hl : l < tn T) : ta T l = ta (tPut T k a) l := by
  show ta T l = (if l = tn T then a else ta T l)
  rw [if_neg (by omega)]
theorem tPut_b (h : tCh T) {l v : Nat} (hl : l < tn T) : tb (tPut T k a) l v = tb T l v := (t_bl_cg (n := tn T) (fun l hl => tPut_a hl) (tCh_c h) 8 l v hl).symm
theorem tPut_d (h : tCh T) {l : Nat} (hl : l < tn T) : td (tPut T k a) l = td T l := (t_dp_cg (n := tn T) (fun l hl => tPut_a hl) (tCh_c h) 8 l hl).symm
theorem tPut_m {l : Nat} (hl : l < tn T) : tm (tPut T k a) l = tm T l := by
  show (if l = tn T then 0 else tm T l) = tm T l
  rw [if_neg (by omega)]
theorem tPut_k {l : Nat} (hl : l < tn T) : tk (tPut T k a) l = tk T l := by
  show (if l = tn T then k else tk T l) = tk T l
  rw [if_neg (by omega)]
theorem tPut_mn : tm (tPut T k a) (tn T) = 0 := if_pos rfl
theorem tPut_kn : tk (tPut T k a) (tn T) = k := if_pos rfl
theorem tPut_an : ta (tPut T k a) (tn T) = a := if_pos rfl
theorem tPut_n : tn (tPut T k a) = tn T + 1 := rfl
theorem tPut_r {l v : Nat} (hl : l < tn T) : tr (tPut T k a) l v = tr T l v := by
  unfold tr; rw [tPut_m hl]; rfl
theorem tPut_rn {v : Nat} : tr (tPut T k a) (tn T) v = false := by
  unfold tr; rw [tPut_mn]; rfl
theorem tPut_ch (h : tCh T) (hn : tn T < 8) (ha : (tn T = 0 ∧ a = 8) ∨ a < tn T) : tCh (tPut T k a) := by
  refine ⟨by rw [tPut_n]; omega, fun l hl => ?_⟩
  rw [tPut_n] at hl
  by_cases e : l = tn T
  · subst e; rw [tPut_an]; omega
  · rw [← tPut_a (k := k) (a := a) (show l < tn T by omega)]; exact h.2 l (by omega)
theorem tPut_W (h : tW T) (hn : tn T < 8) (hk : k ≤ 2) (ha : (tn T = 0 ∧ a = 8) ∨ a < tn T) : tW (tPut T k a) := by
  refine ⟨tPut_ch h.1 hn ha, fun l hl => ?_⟩
  rw [tPut_n] at hl
  by_cases e : l = tn T
  · subst e
    rw [tPut_mn, tPut_kn]
    exact ⟨hk, by omega, fun i hi => by omega, fun q => by omega⟩
  · have hl' : l < tn T := by omega
    rw [tPut_m hl', tPut_k hl']
    obtain ⟨h1, h2, h3, h4⟩ := h.2 l hl'
    exact ⟨h1, h2, fun i hi => by rw [tPut_b h.1 hl']; exact h3 i hi, h4⟩
end PUT
section USE
variable {T : xT} {v : Nat}
theorem tUse_m {l : Nat} (hl : l ≠ tn T - 1) : tm (tUse T v) l = tm T l := if_neg hl
theorem tUse_mn : tm (tUse T v) (tn T - 1) = tm T (tn T - 1) + 1 := if_pos rfl
theorem tUse_u {j : Nat} (hj : j ≠ 2 * (tn T - 1) + tm T (tn T - 1)) : tu (tUse T v) j = tu T j := if_neg hj
theorem tUse_un : tu (tUse T v) (2 * (tn T - 1) + tm T (tn T - 1)) = v := if_pos rfl
/-- the last line can use v, behind what it uses -/
def tCan (T : xT) (v : Nat) : Prop := 0 < tn T ∧ tb T (tn T - 1) v = true ∧ tm T (tn T - 1) < 2 ∧ tr T (tn T - 1) v = false
theorem tUse_W (h : tW T) (hc : tCan T v) : tW (tUse T v) := by
  obtain ⟨h0, hb, hm, hr⟩ := hc
  refine ⟨h.1, fun l hl => ?_⟩
  have hl' : l < tn T := hl
  obtain ⟨h1, h2, h3, h4⟩ := h.2 l hl'
  by_cases e : l = tn T - 1
  · subst e
    rw [tUse_mn]
    refine ⟨h1, by omega, fun i hi => ?_, fun q => ?_⟩
    · show tb T _ _ = true
      by_cases ei : i = tm T (tn T - 1)
      · subst ei; rw [tUse_un]; exact hb
      · rw [tUse_u (by omega)]; exact h3 i (by omega)
    · have hm1 : tm T (tn T - 1) = 1 := by omega
      have e1 : tu (tUse T v) (2 * (tn T - 1) + 1) = v := by
        have := tUse_un (T := T) (v := v)
        rw [hm1] at this
        exact this
      rw [e1, tUse_u (by omega)]
      intro q
      have : tr T (tn T - 1) v = true := (tr_iff (by omega)).mpr ⟨0, by omega, q⟩
      rw [this] at hr; cases hr
  · rw [tUse_m e]
    refine ⟨h1, h2, fun i hi => ?_, fun q => ?_⟩
    · show tb T _ _ = true
      rw [tUse_u (by omega)]; exact h3 i hi
    · rw [tUse_u (by omega), tUse_u (by omega)]; exact h4 q
theorem tUse_r {l q : Nat} (hl : l ≠ tn T - 1) (hl' : l < tn T) (hm : tm T l ≤ 2) : tr (tUse T v) l q = tr T l q := by
  unfold tr
  rw [tUse_m hl]
  by_cases h0 : 0 < tm T l
  · rw [tUse_u (j := 2 * l) (by omega)]
    by_cases h1 : 1 < tm T l
    · rw [tUse_u (j := 2 * l + 1) (by omega)]
    · rw [decide_eq_false h1, Bool.false_and, Bool.false_and]
  · rw [decide_eq_false h0, decide_eq_false (show ¬ 1 < tm T l by omega)]; rfl
theorem tUse_rn {q : Nat} (hm : tm T (tn T - 1) < 2) : tr (tUse T v) (tn T - 1) q = (tr T (tn T - 1) q || decide (v = q)) := by
  have hx : tr (tUse T v) (tn T - 1) q = true ↔ tr T (tn T - 1) q = true ∨ v = q := by
    rw [tr_iff (by rw [tUse_mn]; omega), tr_iff (by omega), tUse_mn]
    constructor
    · rintro ⟨j, a, b⟩
      by_cases e : j = tm T (tn T - 1)
      · subst e; rw [tUse_un] at b; exact Or.inr b
      · rw [tUse_u (by omega)] at b; exact Or.inl ⟨j, by omega, b⟩
    · rintro (⟨j, a, b⟩ | b)
      · exact ⟨j, by omega, by rw [tUse_u (by omega)]; exact b⟩
      · exact ⟨tm T (tn T - 1), by omega, by rw [tUse_un]; exact b⟩
  cases h1 : tr T (tn T - 1) q with
  | true => rw [Bool.true_or]; exact hx.mpr (Or.inl h1)
  | false =>
    rw [Bool.false_or]
    by_cases e : v = q
    · rw [decide_eq_true e]; exact hx.mpr (Or.inr e)
    · rw [decide_eq_false e]
      apply Bool.eq_false_iff.mpr
      intro r
      rcases hx.mp r with r | r
      · rw [h1] at r; cases r
      · exact e r
end USE
section REU
variable {T : xT} {l i v : Nat}
theorem tReu_u {j : Nat} (hj : j ≠ 2 * l + i) : tu (tReu T l i v) j = tu T j := if_neg hj
theorem tReu_un : tu (tReu T l i v) (2 * l + i) = v := if_pos rfl
theorem tReu_W (h : tW T) (hl : l < tn T) (hi : i < tm T l) (hb : tb T l v = true) (hne : tm T l = 2 → tu T (2 * l + (1 - i)) ≠ v) : tW (tReu T l i v) := by
  have hml := (h.2 l hl).2.1
  refine ⟨h.1, fun m hm => ?_⟩
  have hm' : m < tn T := hm
  obtain ⟨h1, h2, h3, h4⟩ := h.2 m hm'
  refine ⟨h1, h2, fun j hj => ?_, fun q => ?_⟩
  · show tb T m _ = true
    have hj' : j < tm T m := hj
    by_cases e : m = l
    · subst e
      by_cases ej : j = i
      · subst ej; rw [tReu_un]; exact hb
      · rw [tReu_u (by omega)]; exact h3 j hj'
    · rw [tReu_u (by omega)]; exact h3 j hj'
  · have q' : tm T m = 2 := q
    by_cases e : m = l
    · subst e
      have hi2 : i < 2 := by omega
      have hn := hne q'
      rcases (show i = 0 ∨ i = 1 by omega) with rfl | rfl
      · have e0 : tu (tReu T m 0 v) (2 * m) = v := tReu_un
        rw [e0, tReu_u (by omega)]
        exact fun r => hn r.symm
      · rw [tReu_un, tReu_u (by omega)]
        exact hn
    · rw [tReu_u (by omega), tReu_u (by omega)]; exact h4 q'
theorem tReu_r {m q : Nat} (hm : m ≠ l) (hi : i < 2) : tr (tReu T l i v) m q = tr T m q := by
  unfold tr
  rw [tReu_u (j := 2 * m) (by omega), tReu_u (j := 2 * m + 1) (by omega)]; rfl
end REU
theorem tCut_W {T : xT} (h : tW T) : tW (tCut T) := by
  have e : tn (tCut T) = tn T - 1 := rfl
  refine ⟨⟨by rw [e]; have := h.1.1; omega, fun l hl => h.1.2 l (by rw [e] at hl; omega)⟩, fun l hl => h.2 l (by rw [e] at hl; omega)⟩
/-- only the cells of tree t change -/
def fT (t : Nat) (w w' : xWd) : Prop := ∀ b, b ≠ t → (b < 32 * t + 1 ∨ 32 * t + 8 < b) → w' b = w b
theorem z_a0 (n : Nat) : nI n + 0 = nI n := Int32.add_zero _
theorem G_Tr_takeLast_0 {d : Nat} {a0 : Nat} {w : xWd} {Q : xMV → xWd → Prop} (h : ((w a0 8 ≤ 0 → Q xU w) ∧ (¬ (w a0 8 ≤ 0) → (∀ w1 : xWd, w1 = x_set w a0 8 ((w a0 8) - 1) → Q xU w1)))) : xWp d m_Tr_takeLast 0 [xA 5 a0] [] w Q := by
  refine x_goN 3 (pc' := if w a0 8 ≤ 0 then 17 else 7) (ls' := [xA 5 a0]) (st' := []) (w' := w) rfl ?_
  refine x_br (fun c1 => ?_) (fun c1 => ?_)
  · skip
    exact x_ret (P := True) rfl trivial (h.1 c1)
  · skip
    refine x_goN 5 (pc' := 14) (ls' := [xA 5 a0]) (st' := [xI ((w a0 8) - 1), xA 5 a0]) (w' := w) rfl ?_
    refine x_goW (pc' := 17) (ls' := [xA 5 a0]) (st' := []) (w' := x_set w a0 8 ((w a0 8) - 1)) rfl (fun w1 ew1 => ?_)
    exact x_ret (P := True) rfl trivial ((h.2 c1) w1 ew1)
theorem S_Tr_takeLast {d t : Nat} {T : xT} {w : xWd} {Q : xMV → xWd → Prop} (hR : tR w t T) (h0 : 0 < tn T) (h : ∀ w', tR w' t (tCut T) → fT t w w' → Q xU w') : xWp d m_Tr_takeLast 0 [xA 5 t] [] w Q := by
  have h8 := tR_n8 hR
  refine G_Tr_takeLast_0 ⟨fun c => ?_, fun _ w1 e1 => h w1 ⟨⟨?_, fun l hl => ?_⟩, tCut_W hR.2⟩ ?_⟩
  · rw [hR.1.1] at c
    have := (z_le (b := 0) (by omega) (by decide)).mp c
    omega
  · subst e1
    rw [x_set_s, upd_s, hR.1.1]
    exact pk_sub (b := 1) (by omega)
  · subst e1
    have e : tn (tCut T) = tn T - 1 := rfl
    simp (disch := omega) only [x_set_o]
    exact hR.1.2 l (by omega)
  · subst e1
    intro b hb _
    exact x_set_o hb
theorem G_Tr_becomeLike_0 {d : Nat} {a0 : Nat} {a1 : Nat} {w : xWd} {Q : xMV → xWd → Prop} (h : (∀ w1 : xWd, w1 = x_set w a0 8 (w a1 8) → (∀ w2 : xWd, w2 = x_put w1 (32 * a0 + 1) (va_cpy (w1 (32 * a1 + 1)) (w1 (32 * a0 + 1)) 0 0 8) → (∀ w3 : xWd, w3 = x_put w2 (32 * a0 + 2) (va_cpy (w2 (32 * a1 + 2)) (w2 (32 * a0 + 2)) 0 0 8) → (∀ w4 : xWd, w4 = x_put w3 (32 * a0 + 3) (va_cpy (w3 (32 * a1 + 3)) (w3 (32 * a0 + 3)) 0 0 8) → (∀ w5 : xWd, w5 = x_put w4 (32 * a0 + 4) (va_cpy (w4 (32 * a1 + 4)) (w4 (32 * a0 + 4)) 0 0 8) → (∀ w6 : xWd, w6 = x_put w5 (32 * a0 + 5) (va_cpy (w5 (32 * a1 + 5)) (w5 (32 * a0 + 5)) 0 0 8) → (∀ w7 : xWd, w7 = x_put w6 (32 * a0 + 6) (va_cpy (w6 (32 * a1 + 6)) (w6 (32 * a0 + 6)) 0 0 16) → (∀ w8 : xWd, w8 = x_put w7 (32 * a0 + 7) (va_cpy (w7 (32 * a1 + 7)) (w7 (32 * a0 + 7)) 0 0 8) → Q xU w8))))))))) : xWp (d + 1) m_Tr_becomeLike 0 [xA 5 a0, xA 5 a1] [] w Q := by
  refine x_goN 3 (pc' := 5) (ls' := [xA 5 a0, xA 5 a1]) (st' := [xI (w a1 8), xA 5 a0]) (w' := w) rfl ?_
  refine x_goW (pc' := 8) (ls' := [xA 5 a0, xA 5 a1]) (st' := []) (w' := x_set w a0 8 (w a1 8)) rfl (fun w1 ew1 => ?_)
  refine x_goN 7 (pc' := 20) (ls' := [xA 5 a0, xA 5 a1]) (st' := [xI 8, xI 0, xA 108 (32 * a0 + 1), xI 0, xA 108 (32 * a1 + 1)]) (w' := w1) rfl ?_
  refine x_obW (P := 1 ≤ (d + 1) ∧ 100 ≤ 108 ∧ 100 ≤ 108 ∧ ¬ (0 : Int32) < 0 ∧ ¬ (0 : Int32) < 0 ∧ ¬ (8 : Int32) < 0 ∧ 0 + 8 ≤ 8 ∧ 0 + 8 ≤ 8) (pc' := 23) (ls' := [xA 5 a0, xA 5 a1]) (st' := []) (w' := x_put w1 (32 * a0 + 1) (va_cpy (w1 (32 * a1 + 1)) (w1 (32 * a0 + 1)) 0 0 8)) rfl ⟨Nat.succ_le_succ (Nat.zero_le _), by decide, by decide, by decide⟩ (fun w2 ew2 => ?_)
  refine x_goN 7 (pc' := 35) (ls' := [xA 5 a0, xA 5 a1]) (st' := [xI 8, xI 0, xA 108 (32 * a0 + 2), xI 0, xA 108 (32 * a1 + 2)]) (w' := w2) rfl ?_
  refine x_obW (P := 1 ≤ (d + 1) ∧ 100 ≤ 108 ∧ 100 ≤ 108 ∧ ¬ (0 : Int32) < 0 ∧ ¬ (0 : Int32) < 0 ∧ ¬ (8 : Int32) < 0 ∧ 0 + 8 ≤ 8 ∧ 0 + 8 ≤ 8) (pc' := 38) (ls' := [xA 5 a0, xA 5 a1]) (st' := []) (w' := x_put w2 (32 * a0 + 2) (va_cpy (w2 (32 * a1 + 2)) (w2 (32 * a0 + 2)) 0 0 8)) rfl ⟨Nat.succ_le_succ (Nat.zero_le _), by decide, by decide, by decide⟩ (fun w3 ew3 => ?_)
  refine x_goN 7 (pc' := 50) (ls' := [xA 5 a0, xA 5 a1]) (st' := [xI 8, xI 0, xA 108 (32 * a0 + 3), xI 0, xA 108 (32 * a1 + 3)]) (w' := w3) rfl ?_
  refine x_obW (P := 1 ≤ (d + 1) ∧ 100 ≤ 108 ∧ 100 ≤ 108 ∧ ¬ (0 : Int32) < 0 ∧ ¬ (0 : Int32) < 0 ∧ ¬ (8 : Int32) < 0 ∧ 0 + 8 ≤ 8 ∧ 0 + 8 ≤ 8) (pc' := 53) (ls' := [xA 5 a0, xA 5 a1]) (st' := []) (w' := x_put w3 (32 * a0 + 3) (va_cpy (w3 (32 * a1 + 3)) (w3 (32 * a0 + 3)) 0 0 8)) rfl ⟨Nat.succ_le_succ (Nat.zero_le _), by decide, by decide, by decide⟩ (fun w4 ew4 => ?_)
  refine x_goN 7 (pc' := 65) (ls' := [xA 5 a0, xA 5 a1]) (st' := [xI 8, xI 0, xA 108 (32 * a0 + 4), xI 0, xA 108 (32 * a1 + 4)]) (w' := w4) rfl ?_
  refine x_obW (P := 1 ≤ (d + 1) ∧ 100 ≤ 108 ∧ 100 ≤ 108 ∧ ¬ (0 : Int32) < 0 ∧ ¬ (0 : Int32) < 0 ∧ ¬ (8 : Int32) < 0 ∧ 0 + 8 ≤ 8 ∧ 0 + 8 ≤ 8) (pc' := 68) (ls' := [xA 5 a0, xA 5 a1]) (st' := []) (w' := x_put w4 (32 * a0 + 4) (va_cpy (w4 (32 * a1 + 4)) (w4 (32 * a0 + 4)) 0 0 8)) rfl ⟨Nat.succ_le_succ (Nat.zero_le _), by decide, by decide, by decide⟩ (fun w5 ew5 => ?_)
  refine x_goN 7 (pc' := 80) (ls' := [xA 5 a0, xA 5 a1]) (st' := [xI 8, xI 0, xA 108 (32 * a0 + 5), xI 0, xA 108 (32 * a1 + 5)]) (w' := w5) rfl ?_
  refine x_obW (P := 1 ≤ (d + 1) ∧ 100 ≤ 108 ∧ 100 ≤ 108 ∧ ¬ (0 : Int32) < 0 ∧ ¬ (0 : Int32) < 0 ∧ ¬ (8 : Int32) < 0 ∧ 0 + 8 ≤ 8 ∧ 0 + 8 ≤ 8) (pc' := 83) (ls' := [xA 5 a0, xA 5 a1]) (st' := []) (w' := x_put w5 (32 * a0 + 5) (va_cpy (w5 (32 * a1 + 5)) (w5 (32 * a0 + 5)) 0 0 8)) rfl ⟨Nat.succ_le_succ (Nat.zero_le _), by decide, by decide, by decide⟩ (fun w6 ew6 => ?_)
  refine x_goN 7 (pc' := 95) (ls' := [xA 5 a0, xA 5 a1]) (st' := [xI 16, xI 0, xA 116 (32 * a0 + 6), xI 0, xA 116 (32 * a1 + 6)]) (w' := w6) rfl ?_
  refine x_obW (P := 1 ≤ (d + 1) ∧ 100 ≤ 116 ∧ 100 ≤ 116 ∧ ¬ (0 : Int32) < 0 ∧ ¬ (0 : Int32) < 0 ∧ ¬ (16 : Int32) < 0 ∧ 0 + 16 ≤ 16 ∧ 0 + 16 ≤ 16) (pc' := 98) (ls' := [xA 5 a0, xA 5 a1]) (st' := []) (w' := x_put w6 (32 * a0 + 6) (va_cpy (w6 (32 * a1 + 6)) (w6 (32 * a0 + 6)) 0 0 16)) rfl ⟨Nat.succ_le_succ (Nat.zero_le _), by decide, by decide, by decide⟩ (fun w7 ew7 => ?_)
  refine x_goN 7 (pc' := 110) (ls' := [xA 5 a0, xA 5 a1]) (st' := [xI 8, xI 0, xA 108 (32 * a0 + 7), xI 0, xA 108 (32 * a1 + 7)]) (w' := w7) rfl ?_
  refine x_obW (P := 1 ≤ (d + 1) ∧ 100 ≤ 108 ∧ 100 ≤ 108 ∧ ¬ (0 : Int32) < 0 ∧ ¬ (0 : Int32) < 0 ∧ ¬ (8 : Int32) < 0 ∧ 0 + 8 ≤ 8 ∧ 0 + 8 ≤ 8) (pc' := 113) (ls' := [xA 5 a0, xA 5 a1]) (st' := []) (w' := x_put w7 (32 * a0 + 7) (va_cpy (w7 (32 * a1 + 7)) (w7 (32 * a0 + 7)) 0 0 8)) rfl ⟨Nat.succ_le_succ (Nat.zero_le _), by decide, by decide, by decide⟩ (fun w8 ew8 => ?_)
  exact x_ret (P := True) rfl trivial ((((((((h w1 ew1) w2 ew2) w3 ew3) w4 ew4) w5 ew5) w6 ew6) w7 ew7) w8 ew8)
theorem S_Tr_becomeLike {d t t2 : Nat} {T : xT} {w : xWd} {Q : xMV → xWd → Prop} (ht : 30 < t ∧ t < 40) (ht2 : 30 < t2 ∧ t2 < 40) (hne : t ≠ t2) (hR : tR w t2 T) (h : ∀ w', tR w' t T → fT t w w' → Q xU w') : xWp (d + 1) m_Tr_becomeLike 0 [xA 5 t, xA 5 t2] [] w Q := by
  have h8 := tR_n8 hR
  refine G_Tr_becomeLike_0 (fun w1 e1 w2 e2 w3 e3 w4 e4 w5 e5 w6 e6 w7 e7 w8 e8 => h w8 ⟨⟨?_, fun l hl => ?_⟩, hR.2⟩ ?_)
  · subst e8; subst e7; subst e6; subst e5; subst e4; subst e3; subst e2; subst e1
    simp (disch := omega) only [x_put_o]
    rw [x_set_s, upd_s]
    exact hR.1.1
  · obtain ⟨f1, f2, f3, f4, f5, f6, f7⟩ := hR.1.2 l hl
    have hm := tR_m2 hR hl
    have g1 : w8 (32 * t + 1) = va_cpy (w (32 * t2 + 1)) (w (32 * t + 1)) 0 0 8 := by
      subst e8; subst e7; subst e6; subst e5; subst e4; subst e3; subst e2; subst e1
      simp (disch := omega) only [x_put_o, x_put_self, x_set_o]
    have g2 : w8 (32 * t + 2) = va_cpy (w (32 * t2 + 2)) (w (32 * t + 2)) 0 0 8 := by
      subst e8; subst e7; subst e6; subst e5; subst e4; subst e3; subst e2; subst e1
      simp (disch := omega) only [x_put_o, x_put_self, x_set_o]
    have g3 : w8 (32 * t + 3) = va_cpy (w (32 * t2 + 3)) (w (32 * t + 3)) 0 0 8 := by
      subst e8; subst e7; subst e6; subst e5; subst e4; subst e3; subst e2; subst e1
      simp (disch := omega) only [x_put_o, x_put_self, x_set_o]
    have g4 : w8 (32 * t + 4) = va_cpy (w (32 * t2 + 4)) (w (32 * t + 4)) 0 0 8 := by
      subst e8; subst e7; subst e6; subst e5; subst e4; subst e3; subst e2; subst e1
      simp (disch := omega) only [x_put_o, x_put_self, x_set_o]
    have g5 : w8 (32 * t + 5) = va_cpy (w (32 * t2 + 5)) (w (32 * t + 5)) 0 0 8 := by
      subst e8; subst e7; subst e6; subst e5; subst e4; subst e3; subst e2; subst e1
      simp (disch := omega) only [x_put_o, x_put_self, x_set_o]
    have g6 : w8 (32 * t + 6) = va_cpy (w (32 * t2 + 6)) (w (32 * t + 6)) 0 0 16 := by
      subst e8; subst e7; subst e6; subst e5; subst e4; subst e3; subst e2; subst e1
      simp (disch := omega) only [x_put_o, x_put_self, x_set_o]
    have g7 : w8 (32 * t + 7) = va_cpy (w (32 * t2 + 7)) (w (32 * t + 7)) 0 0 8 := by
      subst e8; subst e7; subst e6; subst e5; subst e4; subst e3; subst e2; subst e1
      simp (disch := omega) only [x_put_o, x_put_self, x_set_o]
    rw [g1, g2, g3, g4, g5, g6, g7, sb_cpy0 (show l < 8 by omega), sb_cpy0 (show l < 8 by omega), sb_cpy0 (show l < 8 by omega), sb_cpy0 (show l < 8 by omega), sb_cpy0 (show l < 8 by omega), sb_cpy0 (show l < 8 by omega)]
    exact ⟨f1, f2, f3, f4, f5, fun i hi => by rw [sb_cpy0 (show 2 * l + i < 16 by omega)]; exact f6 i hi, f7⟩
  · subst e8; subst e7; subst e6; subst e5; subst e4; subst e3; subst e2; subst e1
    intro b hb hb2
    simp (disch := omega) only [x_put_o, x_set_o]
theorem G_Tr_putOn_0 {d : Nat} {a0 : Nat} {x1 : Int32} {x2 : Int32} {w : xWd} {Q : xMV → xWd → Prop} (h : ((w a0 8 < 8 → ((p_lt x2 (w a0 8) → (vp_in (w a0 8) 8 ∧ ∀ w1 : xWd, w1 = x_set w (32 * a0 + 1) ((w a0 8).toNatClampNeg) x1 → (vp_in (w1 a0 8) 8 ∧ ∀ w2 : xWd, w2 = x_set w1 (32 * a0 + 2) ((w1 a0 8).toNatClampNeg) x2 → (vp_in x2 8 ∧ (vp_in (w2 a0 8) 8 ∧ ∀ w3 : xWd, w3 = x_set w2 (32 * a0 + 3) ((w2 a0 8).toNatClampNeg) ((w2 (32 * a0 + 3) x2.toNatClampNeg) ||| ((1 : Int32) <<< (x2 &&& 31))) → (vp_in x2 8 ∧ (vp_in (w3 a0 8) 8 ∧ ∀ w4 : xWd, w4 = x_set w3 (32 * a0 + 4) ((w3 a0 8).toNatClampNeg) ((w3 (32 * a0 + 4) x2.toNatClampNeg) + 1) → (vp_in (w4 a0 8) 8 ∧ ∀ w5 : xWd, w5 = x_set w4 (32 * a0 + 5) ((w4 a0 8).toNatClampNeg) 0 → (vp_in (w5 a0 8) 8 ∧ ∀ w6 : xWd, w6 = x_set w5 (32 * a0 + 7) ((w5 a0 8).toNatClampNeg) 0 → (∀ w7 : xWd, w7 = x_set w6 a0 8 ((w6 a0 8) + 1) → Q xU w7)))))))))) ∧ (¬ (p_lt x2 (w a0 8)) → (vp_in (w a0 8) 8 ∧ ∀ w8 : xWd, w8 = x_set w (32 * a0 + 1) ((w a0 8).toNatClampNeg) x1 → (vp_in (w8 a0 8) 8 ∧ ∀ w9 : xWd, w9 = x_set w8 (32 * a0 + 2) ((w8 a0 8).toNatClampNeg) 8 → (vp_in (w9 a0 8) 8 ∧ ∀ w10 : xWd, w10 = x_set w9 (32 * a0 + 3) ((w9 a0 8).toNatClampNeg) 0 → (vp_in (w10 a0 8) 8 ∧ ∀ w11 : xWd, w11 = x_set w10 (32 * a0 + 4) ((w10 a0 8).toNatClampNeg) 0 → (vp_in (w11 a0 8) 8 ∧ ∀ w12 : xWd, w12 = x_set w11 (32 * a0 + 5) ((w11 a0 8).toNatClampNeg) 0 → (vp_in (w12 a0 8) 8 ∧ ∀ w13 : xWd, w13 = x_set w12 (32 * a0 + 7) ((w12 a0 8).toNatClampNeg) 0 → (∀ w14 : xWd, w14 = x_set w13 a0 8 ((w13 a0 8) + 1) → Q xU w14)))))))))) ∧ (¬ (w a0 8 < 8) → Q xU w))) : xWp (d + 1) m_Tr_putOn 0 [xA 5 a0, xI x1, xI x2, xU] [] w Q := by
  refine x_goN 4 (pc' := if w a0 8 < 8 then 10 else 9) (ls' := [xA 5 a0, xI x1, xI x2, xU]) (st' := []) (w' := w) rfl ?_
  refine x_br (fun c1 => ?_) (fun c1 => ?_)
  · skip
    refine x_goN 2 (pc' := 12) (ls' := [xA 5 a0, xI x1, xI x2, xU]) (st' := [xI x2, xA 5 a0]) (w' := w) rfl ?_
    refine x_call (y := m_Tr_isLine) (as := [xA 5 a0, xI x2]) (rst := []) rfl [xA 5 a0, xI x2] rfl ?_
    refine S_Tr_isLine (fun c2 => ?_) (fun c2 => ?_)
    · skip
      refine x_goN 1 (pc' := if (1 : Int32) = (0 : Int32) then 18 else 22) (ls' := [xA 5 a0, xI x1, xI x2, xU]) (st' := []) (w' := w) rfl ?_
      refine x_brF (by decide) ?_
      refine x_goN 7 (pc' := 33) (ls' := [xA 5 a0, xI x1, xI x2, xI 0]) (st' := [xI x1, xI (w a0 8), xA 108 (32 * a0 + 1)]) (w' := w) rfl ?_
      refine x_obW (P := vp_in (w a0 8) 8) (pc' := 34) (ls' := [xA 5 a0, xI x1, xI x2, xI 0]) (st' := []) (w' := x_set w (32 * a0 + 1) ((w a0 8).toNatClampNeg) x1) rfl ((h.1 c1).1 c2).1 (fun w1 ew1 => ?_)
      refine x_goN 6 (pc' := if (0 : Int32) = (0 : Int32) then 51 else 46) (ls' := [xA 5 a0, xI x1, xI x2, xI 0]) (st' := [xI (w1 a0 8), xA 108 (32 * a0 + 2)]) (w' := w1) rfl ?_
      refine x_brT (by decide) ?_
      refine x_goN 1 (pc' := 52) (ls' := [xA 5 a0, xI x1, xI x2, xI 0]) (st' := [xI x2, xI (w1 a0 8), xA 108 (32 * a0 + 2)]) (w' := w1) rfl ?_
      refine x_obW (P := vp_in (w1 a0 8) 8) (pc' := 53) (ls' := [xA 5 a0, xI x1, xI x2, xI 0]) (st' := []) (w' := x_set w1 (32 * a0 + 2) ((w1 a0 8).toNatClampNeg) x2) rfl (((h.1 c1).1 c2).2 w1 ew1).1 (fun w2 ew2 => ?_)
      refine x_goN 6 (pc' := if (0 : Int32) = (0 : Int32) then 69 else 65) (ls' := [xA 5 a0, xI x1, xI x2, xI 0]) (st' := [xI (w2 a0 8), xA 108 (32 * a0 + 3)]) (w' := w2) rfl ?_
      refine x_brT (by decide) ?_
      refine x_goN 3 (pc' := 74) (ls' := [xA 5 a0, xI x1, xI x2, xI 0]) (st' := [xI x2, xA 108 (32 * a0 + 3), xI (w2 a0 8), xA 108 (32 * a0 + 3)]) (w' := w2) rfl ?_
      refine x_ob (P := vp_in x2 8) (pc' := 75) (ls' := [xA 5 a0, xI x1, xI x2, xI 0]) (st' := [xI (w2 (32 * a0 + 3) x2.toNatClampNeg), xI (w2 a0 8), xA 108 (32 * a0 + 3)]) (w' := w2) rfl ((((h.1 c1).1 c2).2 w1 ew1).2 w2 ew2).1 ?_
      refine x_goN 4 (pc' := 79) (ls' := [xA 5 a0, xI x1, xI x2, xI 0]) (st' := [xI ((w2 (32 * a0 + 3) x2.toNatClampNeg) ||| ((1 : Int32) <<< (x2 &&& 31))), xI (w2 a0 8), xA 108 (32 * a0 + 3)]) (w' := w2) rfl ?_
      refine x_obW (P := vp_in (w2 a0 8) 8) (pc' := 80) (ls' := [xA 5 a0, xI x1, xI x2, xI 0]) (st' := []) (w' := x_set w2 (32 * a0 + 3) ((w2 a0 8).toNatClampNeg) ((w2 (32 * a0 + 3) x2.toNatClampNeg) ||| ((1 : Int32) <<< (x2 &&& 31)))) rfl ((((h.1 c1).1 c2).2 w1 ew1).2 w2 ew2).2.1 (fun w3 ew3 => ?_)
      refine x_goN 6 (pc' := if (0 : Int32) = (0 : Int32) then 96 else 92) (ls' := [xA 5 a0, xI x1, xI x2, xI 0]) (st' := [xI (w3 a0 8), xA 108 (32 * a0 + 4)]) (w' := w3) rfl ?_
      refine x_brT (by decide) ?_
      refine x_goN 3 (pc' := 101) (ls' := [xA 5 a0, xI x1, xI x2, xI 0]) (st' := [xI x2, xA 108 (32 * a0 + 4), xI (w3 a0 8), xA 108 (32 * a0 + 4)]) (w' := w3) rfl ?_
      refine x_ob (P := vp_in x2 8) (pc' := 102) (ls' := [xA 5 a0, xI x1, xI x2, xI 0]) (st' := [xI (w3 (32 * a0 + 4) x2.toNatClampNeg), xI (w3 a0 8), xA 108 (32 * a0 + 4)]) (w' := w3) rfl (((((h.1 c1).1 c2).2 w1 ew1).2 w2 ew2).2.2 w3 ew3).1 ?_
      refine x_goN 2 (pc' := 104) (ls' := [xA 5 a0, xI x1, xI x2, xI 0]) (st' := [xI ((w3 (32 * a0 + 4) x2.toNatClampNeg) + 1), xI (w3 a0 8), xA 108 (32 * a0 + 4)]) (w' := w3) rfl ?_
      refine x_obW (P := vp_in (w3 a0 8) 8) (pc' := 105) (ls' := [xA 5 a0, xI x1, xI x2, xI 0]) (st' := []) (w' := x_set w3 (32 * a0 + 4) ((w3 a0 8).toNatClampNeg) ((w3 (32 * a0 + 4) x2.toNatClampNeg) + 1)) rfl (((((h.1 c1).1 c2).2 w1 ew1).2 w2 ew2).2.2 w3 ew3).2.1 (fun w4 ew4 => ?_)
      refine x_goN 5 (pc' := 114) (ls' := [xA 5 a0, xI x1, xI x2, xI 0]) (st' := [xI 0, xI (w4 a0 8), xA 108 (32 * a0 + 5)]) (w' := w4) rfl ?_
      refine x_obW (P := vp_in (w4 a0 8) 8) (pc' := 115) (ls' := [xA 5 a0, xI x1, xI x2, xI 0]) (st' := []) (w' := x_set w4 (32 * a0 + 5) ((w4 a0 8).toNatClampNeg) 0) rfl ((((((h.1 c1).1 c2).2 w1 ew1).2 w2 ew2).2.2 w3 ew3).2.2 w4 ew4).1 (fun w5 ew5 => ?_)
      refine x_goN 5 (pc' := 124) (ls' := [xA 5 a0, xI x1, xI x2, xI 0]) (st' := [xI 0, xI (w5 a0 8), xA 108 (32 * a0 + 7)]) (w' := w5) rfl ?_
      refine x_obW (P := vp_in (w5 a0 8) 8) (pc' := 125) (ls' := [xA 5 a0, xI x1, xI x2, xI 0]) (st' := []) (w' := x_set w5 (32 * a0 + 7) ((w5 a0 8).toNatClampNeg) 0) rfl (((((((h.1 c1).1 c2).2 w1 ew1).2 w2 ew2).2.2 w3 ew3).2.2 w4 ew4).2 w5 ew5).1 (fun w6 ew6 => ?_)
      refine x_goN 5 (pc' := 132) (ls' := [xA 5 a0, xI x1, xI x2, xI 0]) (st' := [xI ((w6 a0 8) + 1), xA 5 a0]) (w' := w6) rfl ?_
      refine x_goW (pc' := 135) (ls' := [xA 5 a0, xI x1, xI x2, xI 0]) (st' := []) (w' := x_set w6 a0 8 ((w6 a0 8) + 1)) rfl (fun w7 ew7 => ?_)
      exact x_ret (P := True) rfl trivial (((((((((h.1 c1).1 c2).2 w1 ew1).2 w2 ew2).2.2 w3 ew3).2.2 w4 ew4).2 w5 ew5).2 w6 ew6) w7 ew7)
    · skip
      refine x_goN 1 (pc' := if (0 : Int32) = (0 : Int32) then 18 else 22) (ls' := [xA 5 a0, xI x1, xI x2, xU]) (st' := []) (w' := w) rfl ?_
      refine x_brT (by decide) ?_
      refine x_goN 8 (pc' := 33) (ls' := [xA 5 a0, xI x1, xI x2, xI 1]) (st' := [xI x1, xI (w a0 8), xA 108 (32 * a0 + 1)]) (w' := w) rfl ?_
      refine x_obW (P := vp_in (w a0 8) 8) (pc' := 34) (ls' := [xA 5 a0, xI x1, xI x2, xI 1]) (st' := []) (w' := x_set w (32 * a0 + 1) ((w a0 8).toNatClampNeg) x1) rfl ((h.1 c1).2 c2).1 (fun w8 ew8 => ?_)
      refine x_goN 6 (pc' := if (1 : Int32) = (0 : Int32) then 51 else 46) (ls' := [xA 5 a0, xI x1, xI x2, xI 1]) (st' := [xI (w8 a0 8), xA 108 (32 * a0 + 2)]) (w' := w8) rfl ?_
      refine x_brF (by decide) ?_
      refine x_goN 2 (pc' := 52) (ls' := [xA 5 a0, xI x1, xI x2, xI 1]) (st' := [xI 8, xI (w8 a0 8), xA 108 (32 * a0 + 2)]) (w' := w8) rfl ?_
      refine x_obW (P := vp_in (w8 a0 8) 8) (pc' := 53) (ls' := [xA 5 a0, xI x1, xI x2, xI 1]) (st' := []) (w' := x_set w8 (32 * a0 + 2) ((w8 a0 8).toNatClampNeg) 8) rfl (((h.1 c1).2 c2).2 w8 ew8).1 (fun w9 ew9 => ?_)
      refine x_goN 6 (pc' := if (1 : Int32) = (0 : Int32) then 69 else 65) (ls' := [xA 5 a0, xI x1, xI x2, xI 1]) (st' := [xI (w9 a0 8), xA 108 (32 * a0 + 3)]) (w' := w9) rfl ?_
      refine x_brF (by decide) ?_
      refine x_goN 2 (pc' := 79) (ls' := [xA 5 a0, xI x1, xI x2, xI 1]) (st' := [xI 0, xI (w9 a0 8), xA 108 (32 * a0 + 3)]) (w' := w9) rfl ?_
      refine x_obW (P := vp_in (w9 a0 8) 8) (pc' := 80) (ls' := [xA 5 a0, xI x1, xI x2, xI 1]) (st' := []) (w' := x_set w9 (32 * a0 + 3) ((w9 a0 8).toNatClampNeg) 0) rfl ((((h.1 c1).2 c2).2 w8 ew8).2 w9 ew9).1 (fun w10 ew10 => ?_)
      refine x_goN 6 (pc' := if (1 : Int32) = (0 : Int32) then 96 else 92) (ls' := [xA 5 a0, xI x1, xI x2, xI 1]) (st' := [xI (w10 a0 8), xA 108 (32 * a0 + 4)]) (w' := w10) rfl ?_
      refine x_brF (by decide) ?_
      refine x_goN 2 (pc' := 104) (ls' := [xA 5 a0, xI x1, xI x2, xI 1]) (st' := [xI 0, xI (w10 a0 8), xA 108 (32 * a0 + 4)]) (w' := w10) rfl ?_
      refine x_obW (P := vp_in (w10 a0 8) 8) (pc' := 105) (ls' := [xA 5 a0, xI x1, xI x2, xI 1]) (st' := []) (w' := x_set w10 (32 * a0 + 4) ((w10 a0 8).toNatClampNeg) 0) rfl (((((h.1 c1).2 c2).2 w8 ew8).2 w9 ew9).2 w10 ew10).1 (fun w11 ew11 => ?_)
      refine x_goN 5 (pc' := 114) (ls' := [xA 5 a0, xI x1, xI x2, xI 1]) (st' := [xI 0, xI (w11 a0 8), xA 108 (32 * a0 + 5)]) (w' := w11) rfl ?_
      refine x_obW (P := vp_in (w11 a0 8) 8) (pc' := 115) (ls' := [xA 5 a0, xI x1, xI x2, xI 1]) (st' := []) (w' := x_set w11 (32 * a0 + 5) ((w11 a0 8).toNatClampNeg) 0) rfl ((((((h.1 c1).2 c2).2 w8 ew8).2 w9 ew9).2 w10 ew10).2 w11 ew11).1 (fun w12 ew12 => ?_)
      refine x_goN 5 (pc' := 124) (ls' := [xA 5 a0, xI x1, xI x2, xI 1]) (st' := [xI 0, xI (w12 a0 8), xA 108 (32 * a0 + 7)]) (w' := w12) rfl ?_
      refine x_obW (P := vp_in (w12 a0 8) 8) (pc' := 125) (ls' := [xA 5 a0, xI x1, xI x2, xI 1]) (st' := []) (w' := x_set w12 (32 * a0 + 7) ((w12 a0 8).toNatClampNeg) 0) rfl (((((((h.1 c1).2 c2).2 w8 ew8).2 w9 ew9).2 w10 ew10).2 w11 ew11).2 w12 ew12).1 (fun w13 ew13 => ?_)
      refine x_goN 5 (pc' := 132) (ls' := [xA 5 a0, xI x1, xI x2, xI 1]) (st' := [xI ((w13 a0 8) + 1), xA 5 a0]) (w' := w13) rfl ?_
      refine x_goW (pc' := 135) (ls' := [xA 5 a0, xI x1, xI x2, xI 1]) (st' := []) (w' := x_set w13 a0 8 ((w13 a0 8) + 1)) rfl (fun w14 ew14 => ?_)
      exact x_ret (P := True) rfl trivial (((((((((h.1 c1).2 c2).2 w8 ew8).2 w9 ew9).2 w10 ew10).2 w11 ew11).2 w12 ew12).2 w13 ew13) w14 ew14)
  · skip
    exact x_ret (P := True) rfl trivial (h.2 c1)
theorem tO_put {T : xT} {k a : Nat} (h : tCh T) (hn : tn T < 8) (ha : a < tn T) : nI (tO T a) ||| nI (2 ^ a) = nI (tO (tPut T k a) (tn T)) := by
  have hch := tPut_ch (k := k) h hn (Or.inr ha)
  rw [fa_or]
  congr 1
  apply Nat.eq_of_testBit_eq
  intro i
  unfold tO
  rw [Nat.testBit_or, z_mk_tb, z_mk_tb, Nat.testBit_two_pow, tb_s hch (l := tn T) (by rw [tPut_n]; omega) (by omega), tPut_an, tPut_b h ha]
  by_cases hi : i < 8
  · rw [decide_eq_true hi, Bool.true_and, Bool.true_and, Bool.or_comm]
  · rw [decide_eq_false hi, Bool.false_and, Bool.false_and, Bool.false_or]
    exact decide_eq_false (by omega)
theorem tC_put {w w' : xWd} {t k a : Nat} {T : xT} (hR : tR w t T) (hn : tn T < 8) (hk : k ≤ 2) (ha : (tn T = 0 ∧ a = 8) ∨ a < tn T)
    (e0 : w' t 8 = nI (tn T + 1)) (e1 : w' (32 * t + 1) = upd (w (32 * t + 1)) (tn T) (nI k)) (e2 : w' (32 * t + 2) = upd (w (32 * t + 2)) (tn T) (nI a))
    (e3 : w' (32 * t + 3) = upd (w (32 * t + 3)) (tn T) (nI (tO (tPut T k a) (tn T)))) (e4 : w' (32 * t + 4) = upd (w (32 * t + 4)) (tn T) (nI (td (tPut T k a) (tn T)))) (e5 : w' (32 * t + 5) = upd (w (32 * t + 5)) (tn T) 0) (e6 : w' (32 * t + 6) = w (32 * t + 6)) (e7 : w' (32 * t + 7) = upd (w (32 * t + 7)) (tn T) 0) : tR w' t (tPut T k a) := by
  refine ⟨⟨e0, fun l hl => ?_⟩, tPut_W hR.2 hn hk ha⟩
  rw [tPut_n] at hl
  rw [e1, e2, e3, e4, e5, e6, e7]
  by_cases e : l = tn T
  · subst e
    rw [upd_s, upd_s, upd_s, upd_s, upd_s, upd_s, tPut_kn, tPut_an, tPut_mn]
    refine ⟨rfl, rfl, rfl, rfl, rfl, fun i hi => absurd hi (Nat.not_lt_zero _), ?_⟩
    rw [show tU (tPut T k a) (tn T) = 0 from by
      unfold tU
      rw [z_mk_congr 8 (q := fun _ => false) (fun j _ => tPut_rn)]
      exact z_mk_0 8]
    rfl
  · have hl' : l < tn T := by omega
    rw [upd_o e, upd_o e, upd_o e, upd_o e, upd_o e, upd_o e, tPut_k hl', ← tPut_a hl', tPut_m hl', tPut_d hR.2.1 hl']
    obtain ⟨f1, f2, f3, f4, f5, f6, f7⟩ := hR.1.2 l hl'
    refine ⟨f1, f2, ?_, f4, f5, f6, ?_⟩
    · rw [f3]; unfold tO; rw [z_mk_congr 8 (fun j _ => tPut_b hR.2.1 hl')]
    · rw [f7]; unfold tU; rw [z_mk_congr 8 (fun j _ => tPut_r hl')]
theorem S_Tr_putOn {d t k a : Nat} {T : xT} {w : xWd} {Q : xMV → xWd → Prop} {x : Int32} (ht : 30 < t ∧ t < 40) (hR : tR w t T) (hn : tn T < 8) (hk : k ≤ 2) (ha : (tn T = 0 ∧ a = 8) ∨ (a < tn T ∧ x = nI a)) (h : ∀ w', tR w' t (tPut T k a) → fT t w w' → Q xU w') : xWp (d + 1) m_Tr_putOn 0 [xA 5 t, xI (nI k), xI x, xU] [] w Q := by
  have hw8 : w t 8 = nI (tn T) := hR.1.1
  have ecl : (nI (tn T)).toNatClampNeg = tn T := z_cl' (by omega)
  refine G_Tr_putOn_0 ⟨fun _ => ⟨fun c => ?_, fun c => ?_⟩, fun c => absurd ((z_lt (b := 8) (by omega) (by decide)).mpr hn) (by rw [hw8] at c; exact c)⟩
  · obtain ⟨hal, rfl⟩ : a < tn T ∧ x = nI a := by
      rcases ha with ⟨h0, _⟩ | ha
      · obtain ⟨j, hj, _⟩ := tR_ln hR c; omega
      · exact ha
    have eca : (nI a).toNatClampNeg = a := z_cl' (by omega)
    have hin : vp_in (nI (tn T)) 8 := z_in hn (by decide)
    have hia : vp_in (nI a) 8 := z_in (by omega) (by decide)
    rw [hw8, ecl]
    refine ⟨hin, fun w1 e1 => ?_⟩
    have k1 : w1 t 8 = nI (tn T) := by rw [e1, x_set_o (by omega)]; exact hw8
    rw [k1, ecl]
    refine ⟨hin, fun w2 e2 => ?_⟩
    have k2 : w2 t 8 = nI (tn T) := by rw [e2, x_set_o (by omega)]; exact k1
    rw [k2, ecl, eca]
    refine ⟨hia, hin, fun w3 e3 => ?_⟩
    have k3 : w3 t 8 = nI (tn T) := by rw [e3, x_set_o (by omega)]; exact k2
    rw [k3, ecl]
    refine ⟨hia, hin, fun w4 e4 => ?_⟩
    have k4 : w4 t 8 = nI (tn T) := by rw [e4, x_set_o (by omega)]; exact k3
    rw [k4, ecl]
    refine ⟨hin, fun w5 e5 => ?_⟩
    have k5 : w5 t 8 = nI (tn T) := by rw [e5, x_set_o (by omega)]; exact k4
    rw [k5, ecl]
    refine ⟨hin, fun w6 e6 => ?_⟩
    have k6 : w6 t 8 = nI (tn T) := by rw [e6, x_set_o (by omega)]; exact k5
    rw [k6]
    intro w7 e7
    have hO : w2 (32 * t + 3) a = nI (tO T a) := by rw [e2, e1]; simp (disch := omega) only [x_set_o]; exact (hR.1.2 a hal).2.2.1
    have hDp : w3 (32 * t + 4) a = nI (td T a) := by rw [e3, e2, e1]; simp (disch := omega) only [x_set_o]; exact (hR.1.2 a hal).2.2.2.1
    rw [hO, z_shl a (by omega), tO_put (k := k) hR.2.1 hn hal] at e3
    have edp : nI (td T a) + 1 = nI (td (tPut T k a) (tn T)) := by
      rw [td_s (tPut_ch hR.2.1 hn (Or.inr hal)) (l := tn T) (by rw [tPut_n]; omega) (by omega), tPut_an, tPut_d hR.2.1 hal, nI_1]
    rw [hDp, edp] at e4
    refine h w7 (tC_put hR hn hk (Or.inr hal) ?_ ?_ ?_ ?_ ?_ ?_ ?_ ?_) ?_
    · rw [e7, x_set_s, upd_s, nI_1]
    · rw [e7, e6, e5, e4, e3, e2, e1]; simp (disch := omega) only [x_set_o, x_set_s]
    · rw [e7, e6, e5, e4, e3, e2, e1]; simp (disch := omega) only [x_set_o, x_set_s]
    · rw [e7, e6, e5, e4, e3, e2, e1]; simp (disch := omega) only [x_set_o, x_set_s]
    · rw [e7, e6, e5, e4, e3, e2, e1]; simp (disch := omega) only [x_set_o, x_set_s]
    · rw [e7, e6, e5, e4, e3, e2, e1]; simp (disch := omega) only [x_set_o, x_set_s]
    · rw [e7, e6, e5, e4, e3, e2, e1]; simp (disch := omega) only [x_set_o, x_set_s]
    · rw [e7, e6, e5, e4, e3, e2, e1]; simp (disch := omega) only [x_set_o, x_set_s]
    · intro b hb hb2
      rw [e7, e6, e5, e4, e3, e2, e1]; simp (disch := omega) only [x_set_o]
  · obtain ⟨h0, rfl⟩ : tn T = 0 ∧ a = 8 := by
      rcases ha with ha | ⟨ha, rfl⟩
      · exact ha
      · exact absurd (tR_lt hR ha) c
    have hin : vp_in (nI (tn T)) 8 := z_in hn (by decide)
    rw [hw8, ecl]
    refine ⟨hin, fun w1 e1 => ?_⟩
    have k1 : w1 t 8 = nI (tn T) := by rw [e1, x_set_o (by omega)]; exact hw8
    rw [k1, ecl]
    refine ⟨hin, fun w2 e2 => ?_⟩
    have k2 : w2 t 8 = nI (tn T) := by rw [e2, x_set_o (by omega)]; exact k1
    rw [k2, ecl]
    refine ⟨hin, fun w3 e3 => ?_⟩
    have k3 : w3 t 8 = nI (tn T) := by rw [e3, x_set_o (by omega)]; exact k2
    rw [k3, ecl]
    refine ⟨hin, fun w4 e4 => ?_⟩
    have k4 : w4 t 8 = nI (tn T) := by rw [e4, x_set_o (by omega)]; exact k3
    rw [k4, ecl]
    refine ⟨hin, fun w5 e5 => ?_⟩
    have k5 : w5 t 8 = nI (tn T) := by rw [e5, x_set_o (by omega)]; exact k4
    rw [k5, ecl]
    refine ⟨hin, fun w6 e6 => ?_⟩
    have k6 : w6 t 8 = nI (tn T) := by rw [e6, x_set_o (by omega)]; exact k5
    rw [k6]
    intro w7 e7
    have hch := tPut_ch (k := k) hR.2.1 hn (Or.inl ⟨h0, rfl⟩)
    have hz : tO (tPut T k 8) (tn T) = 0 := by
      unfold tO
      rw [z_mk_congr 8 (q := fun _ => false) (fun j _ => by rw [h0]; exact tb_0 hch (by rw [tPut_n]; omega) j)]
      exact z_mk_0 8
    have hd0 : td (tPut T k 8) (tn T) = 0 := by rw [h0]; exact td_0 hch (by rw [tPut_n]; omega)
    refine h w7 (tC_put hR hn hk (Or.inl ⟨h0, rfl⟩) ?_ ?_ ?_ ?_ ?_ ?_ ?_ ?_) ?_
    · rw [e7, x_set_s, upd_s, nI_1]
    · rw [e7, e6, e5, e4, e3, e2, e1]; simp (disch := omega) only [x_set_o, x_set_s]
    · rw [e7, e6, e5, e4, e3, e2, e1]; simp (disch := omega) only [x_set_o, x_set_s]; rfl
    · rw [hz, e7, e6, e5, e4, e3, e2, e1]; simp (disch := omega) only [x_set_o, x_set_s]; rfl
    · rw [hd0, e7, e6, e5, e4, e3, e2, e1]; simp (disch := omega) only [x_set_o, x_set_s]; rfl
    · rw [e7, e6, e5, e4, e3, e2, e1]; simp (disch := omega) only [x_set_o, x_set_s]
    · rw [e7, e6, e5, e4, e3, e2, e1]; simp (disch := omega) only [x_set_o, x_set_s]
    · rw [e7, e6, e5, e4, e3, e2, e1]; simp (disch := omega) only [x_set_o, x_set_s]
    · intro b hb hb2
      rw [e7, e6, e5, e4, e3, e2, e1]; simp (disch := omega) only [x_set_o]
theorem G_Tr_useToo_0 {d : Nat} {T : xT} {a0 : Nat} {x1 : Int32} {w : xWd} {Q : xMV → xWd → Prop} (h : ((tR w a0 T) ∧ ((pB T ((w a0 8) - 1) x1 → (vp_in ((w a0 8) - 1) 8 ∧ ((2 ≤ w (32 * a0 + 5) ((w a0 8) - 1).toNatClampNeg → Q (xI 0) w) ∧ (¬ (2 ≤ w (32 * a0 + 5) ((w a0 8) - 1).toNatClampNeg) → (vp_in ((w a0 8) - 1) 8 ∧ ((p_in (w (32 * a0 + 7) ((w a0 8) - 1).toNatClampNeg) x1 → Q (xI 0) w) ∧ (¬ (p_in (w (32 * a0 + 7) ((w a0 8) - 1).toNatClampNeg) x1) → (vp_in ((w a0 8) - 1) 8 ∧ (vp_in ((((w a0 8) - 1) * 2) + (w (32 * a0 + 5) ((w a0 8) - 1).toNatClampNeg)) 16 ∧ ∀ w1 : xWd, w1 = x_set w (32 * a0 + 6) (((((w a0 8) - 1) * 2) + (w (32 * a0 + 5) ((w a0 8) - 1).toNatClampNeg)).toNatClampNeg) x1 → (vp_in ((w a0 8) - 1) 8 ∧ (vp_in ((w a0 8) - 1) 8 ∧ ∀ w2 : xWd, w2 = x_set w1 (32 * a0 + 7) (((w a0 8) - 1).toNatClampNeg) ((w1 (32 * a0 + 7) ((w a0 8) - 1).toNatClampNeg) ||| ((1 : Int32) <<< (x1 &&& 31))) → (vp_in ((w a0 8) - 1) 8 ∧ (vp_in ((w a0 8) - 1) 8 ∧ ∀ w3 : xWd, w3 = x_set w2 (32 * a0 + 5) (((w a0 8) - 1).toNatClampNeg) ((w2 (32 * a0 + 5) ((w a0 8) - 1).toNatClampNeg) + 1) → Q (xI 1) w3))))))))))))) ∧ (¬ (pB T ((w a0 8) - 1) x1) → Q (xI 0) w)))) : xWp (d + 2) m_Tr_useToo 0 [xA 5 a0, xI x1, xU] [] w Q := by
  refine x_goN 8 (pc' := 10) (ls' := [xA 5 a0, xI x1, xI ((w a0 8) - 1)]) (st' := [xI x1, xI ((w a0 8) - 1), xA 5 a0]) (w' := w) rfl ?_
  refine x_call (y := m_Tr_isBelow) (as := [xA 5 a0, xI ((w a0 8) - 1), xI x1]) (rst := []) rfl [xA 5 a0, xI ((w a0 8) - 1), xI x1] rfl ?_
  refine S_Tr_isBelow h.1 (fun c1 => ?_) (fun c1 => ?_)
  · skip
    refine x_goN 1 (pc' := if (1 : Int32) = (0 : Int32) then 39 else 16) (ls' := [xA 5 a0, xI x1, xI ((w a0 8) - 1)]) (st' := []) (w' := w) rfl ?_
    refine x_brF (by decide) ?_
    refine x_goN 3 (pc' := 21) (ls' := [xA 5 a0, xI x1, xI ((w a0 8) - 1)]) (st' := [xI ((w a0 8) - 1), xA 108 (32 * a0 + 5)]) (w' := w) rfl ?_
    refine x_ob (P := vp_in ((w a0 8) - 1) 8) (pc' := 22) (ls' := [xA 5 a0, xI x1, xI ((w a0 8) - 1)]) (st' := [xI (w (32 * a0 + 5) ((w a0 8) - 1).toNatClampNeg)]) (w' := w) rfl (h.2.1 c1).1 ?_
    refine x_goN 2 (pc' := if 2 ≤ w (32 * a0 + 5) ((w a0 8) - 1).toNatClampNeg then 39 else 26) (ls' := [xA 5 a0, xI x1, xI ((w a0 8) - 1)]) (st' := []) (w' := w) rfl ?_
    refine x_br (fun c2 => ?_) (fun c2 => ?_)
    · skip
      refine x_goN 1 (pc' := 40) (ls' := [xA 5 a0, xI x1, xI ((w a0 8) - 1)]) (st' := [xI 0]) (w' := w) rfl ?_
      exact x_ret (P := (0 : Int32) = 0 ∨ (0 : Int32) = 1) rfl (by decide) ((h.2.1 c1).2.1 c2)
    · skip
      refine x_goN 3 (pc' := 31) (ls' := [xA 5 a0, xI x1, xI ((w a0 8) - 1)]) (st' := [xI ((w a0 8) - 1), xA 108 (32 * a0 + 7)]) (w' := w) rfl ?_
      refine x_ob (P := vp_in ((w a0 8) - 1) 8) (pc' := 32) (ls' := [xA 5 a0, xI x1, xI ((w a0 8) - 1)]) (st' := [xI (w (32 * a0 + 7) ((w a0 8) - 1).toNatClampNeg)]) (w' := w) rfl ((h.2.1 c1).2.2 c2).1 ?_
      refine x_goN 1 (pc' := 33) (ls' := [xA 5 a0, xI x1, xI ((w a0 8) - 1)]) (st' := [xI x1, xI (w (32 * a0 + 7) ((w a0 8) - 1).toNatClampNeg)]) (w' := w) rfl ?_
      refine x_call (y := m_Vp_inSet) (as := [xI (w (32 * a0 + 7) ((w a0 8) - 1).toNatClampNeg), xI x1]) (rst := []) rfl [xI (w (32 * a0 + 7) ((w a0 8) - 1).toNatClampNeg), xI x1] rfl ?_
      refine S_Vp_inSet (fun c3 => ?_) (fun c3 => ?_)
      · skip
        refine x_goN 1 (pc' := if (1 : Int32) = (0 : Int32) then 41 else 39) (ls' := [xA 5 a0, xI x1, xI ((w a0 8) - 1)]) (st' := []) (w' := w) rfl ?_
        refine x_brF (by decide) ?_
        refine x_goN 1 (pc' := 40) (ls' := [xA 5 a0, xI x1, xI ((w a0 8) - 1)]) (st' := [xI 0]) (w' := w) rfl ?_
        exact x_ret (P := (0 : Int32) = 0 ∨ (0 : Int32) = 1) rfl (by decide) (((h.2.1 c1).2.2 c2).2.1 c3)
      · skip
        refine x_goN 1 (pc' := if (0 : Int32) = (0 : Int32) then 41 else 39) (ls' := [xA 5 a0, xI x1, xI ((w a0 8) - 1)]) (st' := []) (w' := w) rfl ?_
        refine x_brT (by decide) ?_
        refine x_goN 8 (pc' := 53) (ls' := [xA 5 a0, xI x1, xI ((w a0 8) - 1)]) (st' := [xI ((w a0 8) - 1), xA 108 (32 * a0 + 5), xI (((w a0 8) - 1) * 2), xA 116 (32 * a0 + 6)]) (w' := w) rfl ?_
        refine x_ob (P := vp_in ((w a0 8) - 1) 8) (pc' := 54) (ls' := [xA 5 a0, xI x1, xI ((w a0 8) - 1)]) (st' := [xI (w (32 * a0 + 5) ((w a0 8) - 1).toNatClampNeg), xI (((w a0 8) - 1) * 2), xA 116 (32 * a0 + 6)]) (w' := w) rfl (((h.2.1 c1).2.2 c2).2.2 c3).1 ?_
        refine x_goN 2 (pc' := 56) (ls' := [xA 5 a0, xI x1, xI ((w a0 8) - 1)]) (st' := [xI x1, xI ((((w a0 8) - 1) * 2) + (w (32 * a0 + 5) ((w a0 8) - 1).toNatClampNeg)), xA 116 (32 * a0 + 6)]) (w' := w) rfl ?_
        refine x_obW (P := vp_in ((((w a0 8) - 1) * 2) + (w (32 * a0 + 5) ((w a0 8) - 1).toNatClampNeg)) 16) (pc' := 57) (ls' := [xA 5 a0, xI x1, xI ((w a0 8) - 1)]) (st' := []) (w' := x_set w (32 * a0 + 6) (((((w a0 8) - 1) * 2) + (w (32 * a0 + 5) ((w a0 8) - 1).toNatClampNeg)).toNatClampNeg) x1) rfl (((h.2.1 c1).2.2 c2).2.2 c3).2.1 (fun w1 ew1 => ?_)
        refine x_goN 4 (pc' := 63) (ls' := [xA 5 a0, xI x1, xI ((w a0 8) - 1)]) (st' := [xI ((w a0 8) - 1), xA 108 (32 * a0 + 7), xI ((w a0 8) - 1), xA 108 (32 * a0 + 7)]) (w' := w1) rfl ?_
        refine x_ob (P := vp_in ((w a0 8) - 1) 8) (pc' := 64) (ls' := [xA 5 a0, xI x1, xI ((w a0 8) - 1)]) (st' := [xI (w1 (32 * a0 + 7) ((w a0 8) - 1).toNatClampNeg), xI ((w a0 8) - 1), xA 108 (32 * a0 + 7)]) (w' := w1) rfl ((((h.2.1 c1).2.2 c2).2.2 c3).2.2 w1 ew1).1 ?_
        refine x_goN 4 (pc' := 68) (ls' := [xA 5 a0, xI x1, xI ((w a0 8) - 1)]) (st' := [xI ((w1 (32 * a0 + 7) ((w a0 8) - 1).toNatClampNeg) ||| ((1 : Int32) <<< (x1 &&& 31))), xI ((w a0 8) - 1), xA 108 (32 * a0 + 7)]) (w' := w1) rfl ?_
        refine x_obW (P := vp_in ((w a0 8) - 1) 8) (pc' := 69) (ls' := [xA 5 a0, xI x1, xI ((w a0 8) - 1)]) (st' := []) (w' := x_set w1 (32 * a0 + 7) (((w a0 8) - 1).toNatClampNeg) ((w1 (32 * a0 + 7) ((w a0 8) - 1).toNatClampNeg) ||| ((1 : Int32) <<< (x1 &&& 31)))) rfl ((((h.2.1 c1).2.2 c2).2.2 c3).2.2 w1 ew1).2.1 (fun w2 ew2 => ?_)
        refine x_goN 4 (pc' := 75) (ls' := [xA 5 a0, xI x1, xI ((w a0 8) - 1)]) (st' := [xI ((w a0 8) - 1), xA 108 (32 * a0 + 5), xI ((w a0 8) - 1), xA 108 (32 * a0 + 5)]) (w' := w2) rfl ?_
        refine x_ob (P := vp_in ((w a0 8) - 1) 8) (pc' := 76) (ls' := [xA 5 a0, xI x1, xI ((w a0 8) - 1)]) (st' := [xI (w2 (32 * a0 + 5) ((w a0 8) - 1).toNatClampNeg), xI ((w a0 8) - 1), xA 108 (32 * a0 + 5)]) (w' := w2) rfl (((((h.2.1 c1).2.2 c2).2.2 c3).2.2 w1 ew1).2.2 w2 ew2).1 ?_
        refine x_goN 2 (pc' := 78) (ls' := [xA 5 a0, xI x1, xI ((w a0 8) - 1)]) (st' := [xI ((w2 (32 * a0 + 5) ((w a0 8) - 1).toNatClampNeg) + 1), xI ((w a0 8) - 1), xA 108 (32 * a0 + 5)]) (w' := w2) rfl ?_
        refine x_obW (P := vp_in ((w a0 8) - 1) 8) (pc' := 79) (ls' := [xA 5 a0, xI x1, xI ((w a0 8) - 1)]) (st' := []) (w' := x_set w2 (32 * a0 + 5) (((w a0 8) - 1).toNatClampNeg) ((w2 (32 * a0 + 5) ((w a0 8) - 1).toNatClampNeg) + 1)) rfl (((((h.2.1 c1).2.2 c2).2.2 c3).2.2 w1 ew1).2.2 w2 ew2).2.1 (fun w3 ew3 => ?_)
        refine x_goN 1 (pc' := 80) (ls' := [xA 5 a0, xI x1, xI ((w a0 8) - 1)]) (st' := [xI 1]) (w' := w3) rfl ?_
        exact x_ret (P := (1 : Int32) = 0 ∨ (1 : Int32) = 1) rfl (by decide) ((((((h.2.1 c1).2.2 c2).2.2 c3).2.2 w1 ew1).2.2 w2 ew2).2.2 w3 ew3)
  · skip
    refine x_goN 1 (pc' := if (0 : Int32) = (0 : Int32) then 39 else 16) (ls' := [xA 5 a0, xI x1, xI ((w a0 8) - 1)]) (st' := []) (w' := w) rfl ?_
    refine x_brT (by decide) ?_
    refine x_goN 1 (pc' := 40) (ls' := [xA 5 a0, xI x1, xI ((w a0 8) - 1)]) (st' := [xI 0]) (w' := w) rfl ?_
    exact x_ret (P := (0 : Int32) = 0 ∨ (0 : Int32) = 1) rfl (by decide) (h.2.2 c1)
def fU (v : Int32) (T : xT) : Prop := ∃ c : Nat, v = nI c ∧ tCan T c
theorem tU_use {T : xT} {v : Nat} (hv : v < 8) (hm : tm T (tn T - 1) < 2) : nI (tU T (tn T - 1)) ||| nI (2 ^ v) = nI (tU (tUse T v) (tn T - 1)) := by
  rw [fa_or]
  congr 1
  apply Nat.eq_of_testBit_eq
  intro i
  unfold tU
  rw [Nat.testBit_or, z_mk_tb, z_mk_tb, Nat.testBit_two_pow, tUse_rn hm]
  by_cases hi : i < 8
  · rw [decide_eq_true hi, Bool.true_and, Bool.true_and]
  · rw [decide_eq_false hi, Bool.false_and, Bool.false_and, Bool.false_or]
    exact decide_eq_false (by omega)
theorem S_Tr_useToo {d t : Nat} {T : xT} {w : xWd} {Q : xMV → xWd → Prop} {x : Int32} (ht : 30 < t ∧ t < 40) (hR : tR w t T) (h1 : ∀ (v : Nat) (w' : xWd), x = nI v → tCan T v → tR w' t (tUse T v) → fT t w w' → Q (xI 1) w') (h2 : ¬ fU x T → Q (xI 0) w) : xWp (d + 2) m_Tr_useToo 0 [xA 5 t, xI x, xU] [] w Q := by
  have h8 := tR_n8 hR
  have hw8 : w t 8 = nI (tn T) := hR.1.1
  refine G_Tr_useToo_0 ⟨hR, fun c => ?_, fun c => h2 (fun ⟨v, e, h0, hb, _⟩ => c ?_)⟩
  · obtain ⟨l, v, el, rfl, hl, hv, hb⟩ := c
    rw [hw8] at el
    have h0 : 0 < tn T := by omega
    have el2 : nI (tn T) - 1 = nI (tn T - 1) := pk_sub (b := 1) (by omega)
    have hle : l = tn T - 1 := ((z_eq (by omega) (by omega)).mp (el2.symm.trans el)).symm
    subst hle
    have hm := tR_m2 hR hl
    have hin : vp_in (nI (tn T - 1)) 8 := z_in (by omega) (by decide)
    have ecl : (nI (tn T - 1)).toNatClampNeg = tn T - 1 := z_cl' (by omega)
    have hM : w (32 * t + 5) (tn T - 1) = nI (tm T (tn T - 1)) := (hR.1.2 _ hl).2.2.2.2.1
    rw [hw8, el2]
    refine ⟨hin, ?_⟩
    rw [ecl, hM]
    refine ⟨fun c1 => h2 (fun ⟨v', e, _, _, hm2, _⟩ => ?_), fun c1 => ⟨hin, fun c2 => h2 (fun ⟨v', e, _, hb', _, hr⟩ => ?_), fun c2 => ?_⟩⟩
    · have := (z_le (a := 2) (by decide) (by omega)).mp c1
      omega
    · have hlt' := tb_lt' hR.2.1 hl hb'
      have ev := (z_eq (by omega) (by omega)).mp e.symm
      subst ev
      have q : tr T (tn T - 1) v' = true := by
        have := (tC_sp hR hl (show v' < 8 by omega)).mp (by rw [ecl]; exact c2)
        exact this
      rw [q] at hr; cases hr
    · have hm2 : tm T (tn T - 1) < 2 := by
        have : ¬ 2 ≤ tm T (tn T - 1) := fun q => c1 ((z_le (a := 2) (by decide) (by omega)).mpr q)
        omega
      have hr : tr T (tn T - 1) v = false := by
        apply Bool.eq_false_iff.mpr
        intro q
        have := (tC_sp hR hl (show v < 8 by omega)).mpr q
        rw [ecl] at this
        exact c2 this
      have eix : nI (tn T - 1) * 2 + nI (tm T (tn T - 1)) = nI (2 * (tn T - 1) + tm T (tn T - 1)) := by
        rw [show nI (tn T - 1) * 2 = nI ((tn T - 1) * 2) from pk_mul _ 2, nI_add, Nat.mul_comm]
      rw [eix, z_cl' (show 2 * (tn T - 1) + tm T (tn T - 1) < 2 ^ 31 by omega)]
      refine ⟨hin, z_in (by omega) (by decide), fun w1 e1 => ?_⟩
      refine ⟨hin, hin, fun w2 e2 => ?_⟩
      refine ⟨hin, hin, fun w3 e3 => ?_⟩
      have hU : w1 (32 * t + 7) (tn T - 1) = nI (tU T (tn T - 1)) := by
        rw [e1]; simp (disch := omega) only [x_set_o]; exact (hR.1.2 _ hl).2.2.2.2.2.2
      have hM2 : w2 (32 * t + 5) (tn T - 1) = nI (tm T (tn T - 1)) := by
        rw [e2, e1]; simp (disch := omega) only [x_set_o]; exact hM
      rw [hU, z_shl v (by omega), tU_use (by omega) hm2] at e2
      rw [hM2, nI_1] at e3
      have hcan : tCan T v := ⟨h0, hb, hm2, hr⟩
      refine h1 v w3 rfl hcan ⟨⟨?_, fun l hl' => ?_⟩, tUse_W hR.2 hcan⟩ ?_
      · rw [e3, e2, e1]; simp (disch := omega) only [x_set_o]; exact hw8
      · have hl'' : l < tn T := hl'
        obtain ⟨f1, f2, f3, f4, f5, f6, f7⟩ := hR.1.2 l hl''
        have hml := tR_m2 hR hl''
        have g1 : w3 (32 * t + 1) = w (32 * t + 1) := by rw [e3, e2, e1]; simp (disch := omega) only [x_set_o]
        have g2 : w3 (32 * t + 2) = w (32 * t + 2) := by rw [e3, e2, e1]; simp (disch := omega) only [x_set_o]
        have g3 : w3 (32 * t + 3) = w (32 * t + 3) := by rw [e3, e2, e1]; simp (disch := omega) only [x_set_o]
        have g4 : w3 (32 * t + 4) = w (32 * t + 4) := by rw [e3, e2, e1]; simp (disch := omega) only [x_set_o]
        have g5 : w3 (32 * t + 5) = upd (w (32 * t + 5)) (tn T - 1) (nI (tm T (tn T - 1) + 1)) := by rw [e3, e2, e1]; simp (disch := omega) only [x_set_o, x_set_s]
        have g6 : w3 (32 * t + 6) = upd (w (32 * t + 6)) (2 * (tn T - 1) + tm T (tn T - 1)) (nI v) := by rw [e3, e2, e1]; simp (disch := omega) only [x_set_o, x_set_s]
        have g7 : w3 (32 * t + 7) = upd (w (32 * t + 7)) (tn T - 1) (nI (tU (tUse T v) (tn T - 1))) := by rw [e3, e2, e1]; simp (disch := omega) only [x_set_o, x_set_s]
        rw [g1, g2, g3, g4, g5, g6, g7]
        refine ⟨f1, f2, f3, f4, ?_, ?_, ?_⟩
        · by_cases e : l = tn T - 1
          · subst e; rw [upd_s, tUse_mn]
          · rw [upd_o e, tUse_m e]; exact f5
        · intro i hi
          by_cases e : l = tn T - 1
          · subst e
            rw [tUse_mn] at hi
            by_cases ei : i = tm T (tn T - 1)
            · subst ei; rw [upd_s, tUse_un]
            · rw [upd_o (by omega), tUse_u (by omega)]; exact f6 i (by omega)
          · rw [tUse_m e] at hi
            rw [upd_o (by omega), tUse_u (by omega)]; exact f6 i hi
        · by_cases e : l = tn T - 1
          · subst e; rw [upd_s]
          · rw [upd_o e, f7]
            unfold tU
            rw [z_mk_congr 8 (fun j _ => tUse_r e hl'' hml)]
      · intro b hb1 hb2
        rw [e3, e2, e1]; simp (disch := omega) only [x_set_o]
  · have hlt := tb_lt' hR.2.1 (show tn T - 1 < tn T by omega) hb
    exact ⟨tn T - 1, v, by rw [hw8]; exact pk_sub (b := 1) (by omega), e, by omega, by omega, hb⟩
theorem G_Tr_useInstead_0 {d : Nat} {T : xT} {a0 : Nat} {x1 : Int32} {x2 : Int32} {x3 : Int32} {w : xWd} {Q : xMV → xWd → Prop} (h : ((tR w a0 T) ∧ ((pU T x1 x2 x3 → (vp_in x1 8 ∧ ((tR w a0 T) ∧ (vp_in x1 8 ∧ ∀ w1 : xWd, w1 = x_set w (32 * a0 + 7) x1.toNatClampNeg (((w (32 * a0 + 7) x1.toNatClampNeg) &&& (((1 : Int32) <<< ((vUs T x1 x2) &&& 31)) ^^^ (-1))) ||| ((1 : Int32) <<< (x3 &&& 31))) → (vp_in ((x1 * 2) + x2) 16 ∧ ∀ w2 : xWd, w2 = x_set w1 (32 * a0 + 6) (((x1 * 2) + x2).toNatClampNeg) x3 → Q xU w2))))) ∧ (¬ (pU T x1 x2 x3) → Q xU w)))) : xWp (d + 4) m_Tr_useInstead 0 [xA 5 a0, xI x1, xI x2, xI x3] [] w Q := by
  refine x_goN 4 (pc' := 4) (ls' := [xA 5 a0, xI x1, xI x2, xI x3]) (st' := [xI x3, xI x2, xI x1, xA 5 a0]) (w' := w) rfl ?_
  refine x_call (y := m_Tr_mayUse) (as := [xA 5 a0, xI x1, xI x2, xI x3]) (rst := []) rfl [xA 5 a0, xI x1, xI x2, xI x3] rfl ?_
  refine S_Tr_mayUse h.1 (fun c1 => ?_) (fun c1 => ?_)
  · skip
    refine x_goN 1 (pc' := if (1 : Int32) = (0 : Int32) then 48 else 10) (ls' := [xA 5 a0, xI x1, xI x2, xI x3]) (st' := []) (w' := w) rfl ?_
    refine x_brF (by decide) ?_
    refine x_goN 6 (pc' := 20) (ls' := [xA 5 a0, xI x1, xI x2, xI x3]) (st' := [xI x1, xA 108 (32 * a0 + 7), xI x1, xA 108 (32 * a0 + 7)]) (w' := w) rfl ?_
    refine x_ob (P := vp_in x1 8) (pc' := 21) (ls' := [xA 5 a0, xI x1, xI x2, xI x3]) (st' := [xI (w (32 * a0 + 7) x1.toNatClampNeg), xI x1, xA 108 (32 * a0 + 7)]) (w' := w) rfl (h.2.1 c1).1 ?_
    refine x_goN 4 (pc' := 25) (ls' := [xA 5 a0, xI x1, xI x2, xI x3]) (st' := [xI x2, xI x1, xA 5 a0, xI 1, xI (w (32 * a0 + 7) x1.toNatClampNeg), xI x1, xA 108 (32 * a0 + 7)]) (w' := w) rfl ?_
    refine x_call (y := m_Tr_usedIn) (as := [xA 5 a0, xI x1, xI x2]) (rst := [xI 1, xI (w (32 * a0 + 7) x1.toNatClampNeg), xI x1, xA 108 (32 * a0 + 7)]) rfl [xA 5 a0, xI x1, xI x2] rfl ?_
    refine S_Tr_usedIn (h.2.1 c1).2.1 ?_
    refine x_goN 8 (pc' := 36) (ls' := [xA 5 a0, xI x1, xI x2, xI x3]) (st' := [xI (((w (32 * a0 + 7) x1.toNatClampNeg) &&& (((1 : Int32) <<< ((vUs T x1 x2) &&& 31)) ^^^ (-1))) ||| ((1 : Int32) <<< (x3 &&& 31))), xI x1, xA 108 (32 * a0 + 7)]) (w' := w) rfl ?_
    refine x_obW (P := vp_in x1 8) (pc' := 37) (ls' := [xA 5 a0, xI x1, xI x2, xI x3]) (st' := []) (w' := x_set w (32 * a0 + 7) x1.toNatClampNeg (((w (32 * a0 + 7) x1.toNatClampNeg) &&& (((1 : Int32) <<< ((vUs T x1 x2) &&& 31)) ^^^ (-1))) ||| ((1 : Int32) <<< (x3 &&& 31)))) rfl (h.2.1 c1).2.2.1 (fun w1 ew1 => ?_)
    refine x_goN 8 (pc' := 47) (ls' := [xA 5 a0, xI x1, xI x2, xI x3]) (st' := [xI x3, xI ((x1 * 2) + x2), xA 116 (32 * a0 + 6)]) (w' := w1) rfl ?_
    refine x_obW (P := vp_in ((x1 * 2) + x2) 16) (pc' := 48) (ls' := [xA 5 a0, xI x1, xI x2, xI x3]) (st' := []) (w' := x_set w1 (32 * a0 + 6) (((x1 * 2) + x2).toNatClampNeg) x3) rfl ((h.2.1 c1).2.2.2 w1 ew1).1 (fun w2 ew2 => ?_)
    exact x_ret (P := True) rfl trivial (((h.2.1 c1).2.2.2 w1 ew1).2 w2 ew2)
  · skip
    refine x_goN 1 (pc' := if (0 : Int32) = (0 : Int32) then 48 else 10) (ls' := [xA 5 a0, xI x1, xI x2, xI x3]) (st' := []) (w' := w) rfl ?_
    refine x_brT (by decide) ?_
    exact x_ret (P := True) rfl trivial (h.2.2 c1)
theorem tU_reu {T : xT} (hW : tW T) {l i v : Nat} (hl : l < tn T) (hi : i < tm T l) (hv : v < 8) : nI (z_cl (tU T l) (tu T (2 * l + i))) ||| nI (2 ^ v) = nI (tU (tReu T l i v) l) := by
  obtain ⟨-, hm, -, hne⟩ := hW.2 l hl
  have hu := tu_lt hW hl hi
  rw [fa_or]
  congr 1
  have b1 := z_cl_lt (tU T l) (tU_lt T l) _ hu
  have b2 : 2 ^ v < 256 := Nat.pow_lt_pow_right (n := 8) (by decide) hv
  apply z_ext (Nat.or_lt_two_pow (n := 8) b1 b2) (tU_lt _ _)
  intro j hj
  rw [Nat.testBit_or, z_cl_tb _ (tU_lt T l) _ hu j hj, Nat.testBit_two_pow, tU_tb T l hj, tU_tb _ l hj]
  have hx : tr (tReu T l i v) l j = true ↔ (tr T l j = true ∧ j ≠ tu T (2 * l + i)) ∨ v = j := by
    rw [tr_iff (T := tReu T l i v) hm, tr_iff hm]
    constructor
    · rintro ⟨q, a, b⟩
      have a : q < tm T l := a
      by_cases e : q = i
      · subst e; rw [tReu_un] at b; exact Or.inr b
      · rw [tReu_u (by omega)] at b
        refine Or.inl ⟨⟨q, a, b⟩, fun r => ?_⟩
        have hm2 : tm T l = 2 := by omega
        have hn := hne hm2
        rcases (show (q = 0 ∧ i = 1) ∨ (q = 1 ∧ i = 0) by omega) with ⟨rfl, rfl⟩ | ⟨rfl, rfl⟩
        · exact hn (b.trans r)
        · exact hn (r.symm.trans b.symm)
    · rintro (⟨⟨q, a, b⟩, r⟩ | r)
      · have e : q ≠ i := fun e => by subst e; exact r b.symm
        exact ⟨q, a, by rw [tReu_u (by omega)]; exact b⟩
      · exact ⟨i, hi, by rw [tReu_un]; exact r⟩
  cases h1 : tr (tReu T l i v) l j with
  | true =>
    rcases hx.mp h1 with ⟨a, b⟩ | a
    · rw [a, decide_eq_true b]; rfl
    · rw [decide_eq_true a, Bool.or_true]
  | false =>
    apply Bool.eq_false_iff.mpr
    intro q
    rw [Bool.or_eq_true, Bool.and_eq_true] at q
    have : tr (tReu T l i v) l j = true := hx.mpr (by
      rcases q with ⟨a, b⟩ | a
      · exact Or.inl ⟨a, of_decide_eq_true b⟩
      · exact Or.inr (of_decide_eq_true a))
    rw [h1] at this; cases this
theorem S_Tr_useInstead {d t a b c : Nat} {T : xT} {w : xWd} {Q : xMV → xWd → Prop} (ht : 30 < t ∧ t < 40) (hR : tR w t T) (ha : a < tn T) (hb : b < tm T a) (hc : c < tn T) (hu : pU T (nI a) (nI b) (nI c)) (h : ∀ w', tR w' t (tReu T a b c) → fT t w w' → Q xU w') : xWp (d + 4) m_Tr_useInstead 0 [xA 5 t, xI (nI a), xI (nI b), xI (nI c)] [] w Q := by
  have h8 := tR_n8 hR
  have hm := tR_m2 hR ha
  have hp := (pU_iff h8 ha hb hm hc).mp hu
  have hul := tu_lt hR.2 ha hb
  have eca : (nI a).toNatClampNeg = a := z_cl' (by omega)
  refine G_Tr_useInstead_0 ⟨hR, fun _ => ?_, fun q => absurd hu q⟩
  have hin : vp_in (nI a) 8 := z_in (by omega) (by decide)
  rw [vUs_p h8 ha hb hm, eca, (hR.1.2 a ha).2.2.2.2.2.2, z_shl _ (by omega), z_clr _ (tU_lt T a) _ hul, z_shl c (by omega), tU_reu hR.2 ha hb (by omega)]
  have eix : nI a * 2 + nI b = nI (2 * a + b) := by
    rw [show nI a * 2 = nI (a * 2) from pk_mul _ 2, nI_add, Nat.mul_comm]
  rw [eix, z_cl' (show 2 * a + b < 2 ^ 31 by omega)]
  refine ⟨hin, hR, hin, fun w1 e1 => ⟨z_in (by omega) (by decide), fun w2 e2 => ?_⟩⟩
  refine h w2 ⟨⟨?_, fun l hl => ?_⟩, tReu_W hR.2 ha hb hp.1 hp.2⟩ ?_
  · rw [e2, e1]; simp (disch := omega) only [x_set_o]; exact hR.1.1
  · have hl' : l < tn T := hl
    obtain ⟨f1, f2, f3, f4, f5, f6, f7⟩ := hR.1.2 l hl'
    have hml := tR_m2 hR hl'
    have g1 : w2 (32 * t + 1) = w (32 * t + 1) := by rw [e2, e1]; simp (disch := omega) only [x_set_o]
    have g2 : w2 (32 * t + 2) = w (32 * t + 2) := by rw [e2, e1]; simp (disch := omega) only [x_set_o]
    have g3 : w2 (32 * t + 3) = w (32 * t + 3) := by rw [e2, e1]; simp (disch := omega) only [x_set_o]
    have g4 : w2 (32 * t + 4) = w (32 * t + 4) := by rw [e2, e1]; simp (disch := omega) only [x_set_o]
    have g5 : w2 (32 * t + 5) = w (32 * t + 5) := by rw [e2, e1]; simp (disch := omega) only [x_set_o]
    have g6 : w2 (32 * t + 6) = upd (w (32 * t + 6)) (2 * a + b) (nI c) := by rw [e2, e1]; simp (disch := omega) only [x_set_o, x_set_s]
    have g7 : w2 (32 * t + 7) = upd (w (32 * t + 7)) a (nI (tU (tReu T a b c) a)) := by rw [e2, e1]; simp (disch := omega) only [x_set_o, x_set_s]
    rw [g1, g2, g3, g4, g5, g6, g7]
    refine ⟨f1, f2, f3, f4, f5, fun i hi => ?_, ?_⟩
    · have hi' : i < tm T l := hi
      by_cases e : 2 * l + i = 2 * a + b
      · rw [e, upd_s, tReu_un]
      · rw [upd_o e, tReu_u e]; exact f6 i hi'
    · by_cases e : l = a
      · subst e; rw [upd_s]
      · rw [upd_o e, f7]
        unfold tU
        rw [z_mk_congr 8 (fun j _ => tReu_r e (by omega))]
  · intro q hq1 hq2
    rw [e2, e1]; simp (disch := omega) only [x_set_o]
end
section
/-! THE STATE that both sides hold: sheets (0: nothing, else lane + 1; how long; cells), lines, readings (how many, values, costs), trace, fault -/
abbrev xS : Type := ((Nat → Nat) × (Nat → Nat) × (Nat → Nat → Int32)) × xT × (Nat × (Nat → Nat) × (Nat → Nat)) × Int32 × Int32
def s_r (s : xS) : Nat → Nat := s.1.1
def s_n (s : xS) : Nat → Nat := s.1.2.1
def s_c (s : xS) : Nat → Nat → Int32 := s.1.2.2
def s_T (s : xS) : xT := s.2.1
def r_n (s : xS) : Nat := s.2.2.1.1
def r_v (s : xS) : Nat → Nat := s.2.2.1.2.1
def r_c (s : xS) : Nat → Nat := s.2.2.1.2.2
def s_t (s : xS) : Int32 := s.2.2.2.1
def s_f (s : xS) : Int32 := s.2.2.2.2
def sOk (s : xS) : Prop := (∀ k, k < 4 → s_r s k ≤ 3 ∧ s_n s k ≤ 60) ∧ tW (s_T s) ∧ r_n s ≤ 8 ∧ ∀ q, q < r_n s → r_v s q < tn (s_T s) ∧ r_c s q ≤ 20
/-- sheet k of the class -/
def cSh (r n : Nat) (c : Nat → Int32) (w : xWd) (k : Nat) : Prop := (r = 0 → w (1057 + k) 1 = 0 ∧ w (1057 + k) 3 = 0) ∧ (0 < r → w (1057 + k) 1 = 1 ∧ w (1057 + k) 2 = nI (r - 1) ∧ w (1057 + k) 3 = nI n) ∧ ∀ j, j < 60 → w (32 * (1057 + k) + 1) j = c j
/-- sheet k of the model -/
def mSh (r n : Nat) (c : Nat → Int32) (w : xWd) (k : Nat) : Prop := (r = 0 → w 67 k = -9) ∧ (0 < r → w 67 k = nI (r - 1) ∧ w 68 k = nI n) ∧ ∀ j, j < 60 → w 69 (60 * k + j) = c j
def cRd (s : xS) (w : xWd) : Prop := w 39 2 = nI (r_n s) ∧ ∀ q, q < r_n s → w 1249 q = nI (r_v s q) ∧ w 1250 q = nI (r_c s q)
def mRd (s : xS) (w : xWd) : Prop := w 2 26 = nI (r_n s) ∧ ∀ q, q < r_n s → w 92 q = nI (r_v s q) ∧ w 93 q = nI (r_c s q)
def sC (s : xS) (w : xWd) : Prop := sOk s ∧ (∀ k, k < 4 → cSh (s_r s k) (s_n s k) (s_c s k) w k) ∧ tC w 34 (s_T s) ∧ cRd s w ∧ w 1 7 = s_t s ∧ w 1 8 = s_f s
def sM (s : xS) (w : xWd) : Prop := sOk s ∧ (∀ k, k < 4 → mSh (s_r s k) (s_n s k) (s_c s k) w k) ∧ tM w (s_T s) ∧ mRd s w ∧ w 2 1 = s_t s ∧ w 2 0 = s_f s
/-- a call of the class leaves the model and the script; a call of the model leaves all but the model -/
def fC (w w' : xWd) : Prop := ∀ a, (a = 0 ∨ a = 2 ∨ a = 4 ∨ (65 ≤ a ∧ a ≤ 96)) → w' a = w a
def fM (w w' : xWd) : Prop := ∀ a, a ≠ 2 → (a < 65 ∨ 96 < a) → w' a = w a
theorem fC_rf (w : xWd) : fC w w := fun _ _ => rfl
theorem fM_rf (w : xWd) : fM w w := fun _ _ _ => rfl
theorem fC_tr {w w1 w2 : xWd} (h : fC w w1) (h2 : fC w1 w2) : fC w w2 := fun a ha => (h2 a ha).trans (h a ha)
theorem fM_tr {w w1 w2 : xWd} (h : fM w w1) (h2 : fM w1 w2) : fM w w2 := fun a ha hb => (h2 a ha hb).trans (h a ha hb)
theorem tC_fr {w w' : xWd} {t : Nat} {T : xT} (h : tC w t T) (he : w' t = w t) (ha : ∀ i, i < 7 → w' (32 * t + (i + 1)) = w (32 * t + (i + 1))) : tC w' t T := by
  refine ⟨by rw [he]; exact h.1, fun l hl => ?_⟩
  have e1 : w' (32 * t + 1) = _ := ha 0 (by decide)
  have e2 : w' (32 * t + 2) = _ := ha 1 (by decide)
  have e3 : w' (32 * t + 3) = _ := ha 2 (by decide)
  have e4 : w' (32 * t + 4) = _ := ha 3 (by decide)
  have e5 : w' (32 * t + 5) = _ := ha 4 (by decide)
  have e6 : w' (32 * t + 6) = _ := ha 5 (by decide)
  have e7 : w' (32 * t + 7) = _ := ha 6 (by decide)
  rw [e1, e2, e3, e4, e5, e6, e7]
  exact h.2 l hl
theorem cSh_fr {r n k : Nat} {c : Nat → Int32} {w w' : xWd} (h : cSh r n c w k) (e1 : w' (1057 + k) = w (1057 + k)) (e2 : w' (32 * (1057 + k) + 1) = w (32 * (1057 + k) + 1)) : cSh r n c w' k := by
  unfold cSh at h ⊢; rw [e1, e2]; exact h
/-- all that the class's state is told by: these cells -/
def fS (w w' : xWd) : Prop := ∀ a, (a = 1 ∨ a = 34 ∨ a = 39 ∨ (1057 ≤ a ∧ a ≤ 1060) ∨ (1089 ≤ a ∧ a ≤ 1095) ∨ a = 1249 ∨ a = 1250 ∨ 33825 ≤ a) → w' a = w a
theorem sC_fS {s : xS} {w w' : xWd} (h : sC s w) (hf : fS w w') : sC s w' := by
  obtain ⟨h1, h2, h3, h4, h5, h6⟩ := h
  refine ⟨h1, fun k hk => cSh_fr (h2 k hk) (hf _ (by omega)) (hf _ (by omega)), tC_fr h3 (hf _ (by omega)) (fun i hi => hf _ (by omega)), ?_, ?_, ?_⟩
  · unfold cRd; rw [hf 39 (by omega), hf 1249 (by omega), hf 1250 (by omega)]; exact h4
  · rw [hf 1 (by omega)]; exact h5
  · rw [hf 1 (by omega)]; exact h6
theorem sC_fM {s : xS} {w w' : xWd} (h : sC s w) (hf : fM w w') : sC s w' := sC_fS h (fun a ha => hf a (by omega) (by omega))
theorem sM_fC {s : xS} {w w' : xWd} (h : sM s w) (hf : fC w w') : sM s w' := by
  obtain ⟨h1, h2, h3, h4, h5, h6⟩ := h
  have e2 := hf 2 (by omega)
  refine ⟨h1, fun k hk => ?_, ?_, ?_, by rw [e2]; exact h5, by rw [e2]; exact h6⟩
  · unfold mSh; rw [hf 67 (by omega), hf 68 (by omega), hf 69 (by omega)]; exact h2 k hk
  · unfold tM; rw [e2, hf 71 (by omega), hf 72 (by omega), hf 73 (by omega), hf 74 (by omega)]; exact h3
  · unfold mRd; rw [e2, hf 92 (by omega), hf 93 (by omega)]; exact h4
/-! settings -/
def uF (s : xS) (f : Int32) : xS := (s.1, s.2.1, s.2.2.1, s.2.2.2.1, f)
def uTr (s : xS) (t : Int32) : xS := (s.1, s.2.1, s.2.2.1, t, s.2.2.2.2)
def uT (s : xS) (T : xT) : xS := (s.1, T, s.2.2.1, s.2.2.2.1, s.2.2.2.2)
def uR (s : xS) (n : Nat) (v c : Nat → Nat) : xS := (s.1, s.2.1, (n, v, c), s.2.2.2.1, s.2.2.2.2)
/-- sheet k becomes: kind r, length n, cells c -/
def uSh (s : xS) (k r n : Nat) (c : Nat → Int32) : xS := ((fun j => if j = k then r else s_r s j, fun j => if j = k then n else s_n s j, fun j => if j = k then c else s_c s j), s.2.1, s.2.2.1, s.2.2.2.1, s.2.2.2.2)
theorem sC_uF {s : xS} {w : xWd} {f : Int32} (h : sC s w) : sC (uF s f) (x_set w 1 8 f) := by
  obtain ⟨h1, h2, h3, h4, h5, h6⟩ := h
  refine ⟨h1, fun k hk => cSh_fr (h2 k hk) (x_set_o (by omega)) (x_set_o (by omega)), tC_fr h3 (x_set_o (by decide)) (fun i hi => x_set_o (by omega)), ?_, ?_, ?_⟩
  · unfold cRd; rw [x_set_o (by decide), x_set_o (by decide), x_set_o (by decide)]; exact h4
  · rw [x_set_s, upd_o (by decide)]; exact h5
  · rw [x_set_s, upd_s]; rfl
theorem sM_uF {s : xS} {w : xWd} {f : Int32} (h : sM s w) : sM (uF s f) (x_set w 2 0 f) := by
  obtain ⟨h1, h2, h3, h4, h5, h6⟩ := h
  refine ⟨h1, fun k hk => ?_, ?_, ?_, ?_, ?_⟩
  · unfold mSh; rw [x_set_o (by decide), x_set_o (by decide), x_set_o (by decide)]; exact h2 k hk
  · refine ⟨by rw [x_set_s, upd_o (by decide)]; exact h3.1, fun l hl => ?_⟩
    rw [x_set_o (by decide), x_set_o (by decide), x_set_o (by decide), x_set_o (by decide)]; exact h3.2 l hl
  · refine ⟨by rw [x_set_s, upd_o (by decide)]; exact h4.1, fun q hq => ?_⟩
    rw [x_set_o (by decide), x_set_o (by decide)]; exact h4.2 q hq
  · rw [x_set_s, upd_o (by decide)]; exact h5
  · rw [x_set_s, upd_s]; rfl
theorem sC_uTr {s : xS} {w : xWd} {f : Int32} (h : sC s w) : sC (uTr s f) (x_set w 1 7 f) := by
  obtain ⟨h1, h2, h3, h4, h5, h6⟩ := h
  refine ⟨h1, fun k hk => cSh_fr (h2 k hk) (x_set_o (by omega)) (x_set_o (by omega)), tC_fr h3 (x_set_o (by decide)) (fun i hi => x_set_o (by omega)), ?_, ?_, ?_⟩
  · unfold cRd; rw [x_set_o (by decide), x_set_o (by decide), x_set_o (by decide)]; exact h4
  · rw [x_set_s, upd_s]; rfl
  · rw [x_set_s, upd_o (by decide)]; exact h6
theorem sM_uTr {s : xS} {w : xWd} {f : Int32} (h : sM s w) : sM (uTr s f) (x_set w 2 1 f) := by
  obtain ⟨h1, h2, h3, h4, h5, h6⟩ := h
  refine ⟨h1, fun k hk => ?_, ?_, ?_, ?_, ?_⟩
  · unfold mSh; rw [x_set_o (by decide), x_set_o (by decide), x_set_o (by decide)]; exact h2 k hk
  · refine ⟨by rw [x_set_s, upd_o (by decide)]; exact h3.1, fun l hl => ?_⟩
    rw [x_set_o (by decide), x_set_o (by decide), x_set_o (by decide), x_set_o (by decide)]; exact h3.2 l hl
  · refine ⟨by rw [x_set_s, upd_o (by decide)]; exact h4.1, fun q hq => ?_⟩
    rw [x_set_o (by decide), x_set_o (by decide)]; exact h4.2 q hq
  · rw [x_set_s, upd_s]; rfl
  · rw [x_set_s, upd_o (by decide)]; exact h6
theorem fC_set {w : xWd} {a j : Nat} {v : Int32} (h : a ≠ 0 ∧ a ≠ 2 ∧ a ≠ 4 ∧ (a < 65 ∨ 96 < a)) : fC w (x_set w a j v) := fun b hb => x_set_o (by omega)
theorem fM_set {w : xWd} {a j : Nat} {v : Int32} (h : a = 2 ∨ (65 ≤ a ∧ a ≤ 96)) : fM w (x_set w a j v) := fun b hb hb2 => x_set_o (by omega)
theorem sC_R {s : xS} {w : xWd} (h : sC s w) : tR w 34 (s_T s) := ⟨h.2.2.1, h.1.2.1⟩
theorem sM_S {s : xS} {w : xWd} (h : sM s w) : tS w (s_T s) := ⟨h.2.2.1, h.1.2.1⟩
/-! faults of cells -/
def vFa (r n : Nat) (lane i m : Int32) : Nat := if r = 0 then 1 else if lane = nI (r - 1) then (if m.toInt < 0 then 4 else if 0 ≤ i.toInt ∧ m.toInt + i.toInt ≤ n then 0 else 3) else 2
theorem z_sub_toInt {n : Nat} {m : Int32} (hn : n ≤ 60) (h0 : 0 ≤ m.toInt) (h1 : m.toInt ≤ n) : (nI n - m).toInt = n - m.toInt := by
  obtain ⟨j, rfl, e, -⟩ := z_of h0
  rw [pk_sub_toInt (by omega) (by omega)]; omega
theorem p_hc_iff {n : Nat} {i m : Int32} (hn : n ≤ 60) (hm : 0 ≤ m.toInt) : p_hc (nI n) i m ↔ 0 ≤ i.toInt ∧ m.toInt + i.toInt ≤ n := by
  unfold p_hc
  rw [nI_toInt (by omega)]
  constructor
  · rintro ⟨_, a, b, c⟩
    rw [z_sub_toInt hn hm b] at c
    omega
  · rintro ⟨a, b⟩
    refine ⟨hm, a, by omega, ?_⟩
    rw [z_sub_toInt hn hm (by omega)]; omega
theorem G_Sh_faultOfCells_0 {d : Nat} {a0 : Nat} {x1 : Int32} {x2 : Int32} {x3 : Int32} {w : xWd} {Q : xMV → xWd → Prop} (h : ((w a0 1 = 0 → ((w a0 1 = 0 → Q (xI 1) w) ∧ (¬ (w a0 1 = 0) → ((0 ≤ x3 → ((p_hc (w a0 3) x2 x3 → Q (xI 0) w) ∧ (¬ (p_hc (w a0 3) x2 x3) → Q (xI 3) w))) ∧ (¬ (0 ≤ x3) → Q (xI 4) w))))) ∧ (¬ (w a0 1 = 0) → ((w a0 2 = x1 → ((w a0 1 = 0 → Q (xI 1) w) ∧ (¬ (w a0 1 = 0) → ((0 ≤ x3 → ((p_hc (w a0 3) x2 x3 → Q (xI 0) w) ∧ (¬ (p_hc (w a0 3) x2 x3) → Q (xI 3) w))) ∧ (¬ (0 ≤ x3) → Q (xI 4) w))))) ∧ (¬ (w a0 2 = x1) → Q (xI 2) w))))) : xWp (d + 1) m_Sh_faultOfCells 0 [xA 3 a0, xI x1, xI x2, xI x3] [] w Q := by
  refine x_goN 3 (pc' := if w a0 1 = 0 then 17 else 7) (ls' := [xA 3 a0, xI x1, xI x2, xI x3]) (st' := []) (w' := w) rfl ?_
  refine x_br (fun c1 => ?_) (fun c1 => ?_)
  · skip
    refine x_goN 3 (pc' := if w a0 1 = 0 then 24 else 26) (ls' := [xA 3 a0, xI x1, xI x2, xI x3]) (st' := []) (w' := w) rfl ?_
    refine x_br (fun c2 => ?_) (fun c2 => ?_)
    · skip
      refine x_goN 1 (pc' := 25) (ls' := [xA 3 a0, xI x1, xI x2, xI x3]) (st' := [xI 1]) (w' := w) rfl ?_
      exact x_ret (P := True) rfl trivial ((h.1 c1).1 c2)
    · skip
      refine x_goN 2 (pc' := if 0 ≤ x3 then 32 else 30) (ls' := [xA 3 a0, xI x1, xI x2, xI x3]) (st' := []) (w' := w) rfl ?_
      refine x_br (fun c3 => ?_) (fun c3 => ?_)
      · skip
        refine x_goN 3 (pc' := 35) (ls' := [xA 3 a0, xI x1, xI x2, xI x3]) (st' := [xI x3, xI x2, xA 3 a0]) (w' := w) rfl ?_
        refine x_call (y := m_Sh_hasCells) (as := [xA 3 a0, xI x2, xI x3]) (rst := []) rfl [xA 3 a0, xI x2, xI x3] rfl ?_
        refine S_Sh_hasCells (fun c4 => ?_) (fun c4 => ?_)
        · skip
          refine x_goN 1 (pc' := if (1 : Int32) = (0 : Int32) then 45 else 41) (ls' := [xA 3 a0, xI x1, xI x2, xI x3]) (st' := []) (w' := w) rfl ?_
          refine x_brF (by decide) ?_
          refine x_goN 2 (pc' := 46) (ls' := [xA 3 a0, xI x1, xI x2, xI x3]) (st' := [xI 0]) (w' := w) rfl ?_
          exact x_ret (P := True) rfl trivial ((((h.1 c1).2 c2).1 c3).1 c4)
        · skip
          refine x_goN 1 (pc' := if (0 : Int32) = (0 : Int32) then 45 else 41) (ls' := [xA 3 a0, xI x1, xI x2, xI x3]) (st' := []) (w' := w) rfl ?_
          refine x_brT (by decide) ?_
          refine x_goN 1 (pc' := 46) (ls' := [xA 3 a0, xI x1, xI x2, xI x3]) (st' := [xI 3]) (w' := w) rfl ?_
          exact x_ret (P := True) rfl trivial ((((h.1 c1).2 c2).1 c3).2 c4)
      · skip
        refine x_goN 1 (pc' := 31) (ls' := [xA 3 a0, xI x1, xI x2, xI x3]) (st' := [xI 4]) (w' := w) rfl ?_
        exact x_ret (P := True) rfl trivial (((h.1 c1).2 c2).2 c3)
  · skip
    refine x_goN 4 (pc' := if w a0 2 = x1 then 17 else 15) (ls' := [xA 3 a0, xI x1, xI x2, xI x3]) (st' := []) (w' := w) rfl ?_
    refine x_br (fun c5 => ?_) (fun c5 => ?_)
    · skip
      refine x_goN 3 (pc' := if w a0 1 = 0 then 24 else 26) (ls' := [xA 3 a0, xI x1, xI x2, xI x3]) (st' := []) (w' := w) rfl ?_
      refine x_br (fun c6 => ?_) (fun c6 => ?_)
      · skip
        refine x_goN 1 (pc' := 25) (ls' := [xA 3 a0, xI x1, xI x2, xI x3]) (st' := [xI 1]) (w' := w) rfl ?_
        exact x_ret (P := True) rfl trivial (((h.2 c1).1 c5).1 c6)
      · skip
        refine x_goN 2 (pc' := if 0 ≤ x3 then 32 else 30) (ls' := [xA 3 a0, xI x1, xI x2, xI x3]) (st' := []) (w' := w) rfl ?_
        refine x_br (fun c7 => ?_) (fun c7 => ?_)
        · skip
          refine x_goN 3 (pc' := 35) (ls' := [xA 3 a0, xI x1, xI x2, xI x3]) (st' := [xI x3, xI x2, xA 3 a0]) (w' := w) rfl ?_
          refine x_call (y := m_Sh_hasCells) (as := [xA 3 a0, xI x2, xI x3]) (rst := []) rfl [xA 3 a0, xI x2, xI x3] rfl ?_
          refine S_Sh_hasCells (fun c8 => ?_) (fun c8 => ?_)
          · skip
            refine x_goN 1 (pc' := if (1 : Int32) = (0 : Int32) then 45 else 41) (ls' := [xA 3 a0, xI x1, xI x2, xI x3]) (st' := []) (w' := w) rfl ?_
            refine x_brF (by decide) ?_
            refine x_goN 2 (pc' := 46) (ls' := [xA 3 a0, xI x1, xI x2, xI x3]) (st' := [xI 0]) (w' := w) rfl ?_
            exact x_ret (P := True) rfl trivial (((((h.2 c1).1 c5).2 c6).1 c7).1 c8)
          · skip
            refine x_goN 1 (pc' := if (0 : Int32) = (0 : Int32) then 45 else 41) (ls' := [xA 3 a0, xI x1, xI x2, xI x3]) (st' := []) (w' := w) rfl ?_
            refine x_brT (by decide) ?_
            refine x_goN 1 (pc' := 46) (ls' := [xA 3 a0, xI x1, xI x2, xI x3]) (st' := [xI 3]) (w' := w) rfl ?_
            exact x_ret (P := True) rfl trivial (((((h.2 c1).1 c5).2 c6).1 c7).2 c8)
        · skip
          refine x_goN 1 (pc' := 31) (ls' := [xA 3 a0, xI x1, xI x2, xI x3]) (st' := [xI 4]) (w' := w) rfl ?_
          exact x_ret (P := True) rfl trivial ((((h.2 c1).1 c5).2 c6).2 c7)
    · skip
      refine x_goN 1 (pc' := 16) (ls' := [xA 3 a0, xI x1, xI x2, xI x3]) (st' := [xI 2]) (w' := w) rfl ?_
      exact x_ret (P := True) rfl trivial ((h.2 c1).2 c5)
theorem S_Sh_faultOfCells {d k r n : Nat} {c : Nat → Int32} {w : xWd} {Q : xMV → xWd → Prop} {lane i m : Int32} (hs : cSh r n c w k) (hr : r ≤ 3) (hn : n ≤ 60) (h : Q (xI (nI (vFa r n lane i m))) w) : xWp (d + 1) m_Sh_faultOfCells 0 [xA 3 (1057 + k), xI lane, xI i, xI m] [] w Q := by
  obtain ⟨h0, h1, -⟩ := hs
  unfold vFa at h
  refine G_Sh_faultOfCells_0 ⟨fun c1 => ⟨fun _ => ?_, fun c2 => absurd c1 c2⟩, fun c1 => ?_⟩
  · have e : r = 0 := by
      by_cases e : r = 0
      · exact e
      · rw [(h1 (by omega)).1] at c1; exact absurd c1 n_10
    rw [if_pos e] at h; exact h
  · have e : ¬ r = 0 := fun e => c1 (h0 e).1
    obtain ⟨g1, g2, g3⟩ := h1 (by omega)
    rw [g1, g2, g3]
    rw [if_neg e] at h
    refine ⟨fun c2 => ⟨fun c3 => absurd c3 n_10, fun _ => ⟨fun c4 => ?_, fun c4 => ?_⟩⟩, fun c2 => ?_⟩
    · rw [if_pos c2.symm] at h
      rw [fa_le, e_l0] at c4
      rw [if_neg (by omega)] at h
      refine ⟨fun c5 => ?_, fun c5 => ?_⟩
      · rw [if_pos ((p_hc_iff hn c4).mp c5)] at h; exact h
      · rw [if_neg (fun q => c5 ((p_hc_iff hn c4).mpr q))] at h; exact h
    · rw [if_pos c2.symm] at h
      rw [fa_le, e_l0] at c4
      rw [if_pos (by omega)] at h; exact h
    · rw [if_neg (fun q => c2 q.symm)] at h; exact h
theorem G_Md_against_0 {d : Nat} {x1 : Int32} {x2 : Int32} {x3 : Int32} {x4 : Int32} {w : xWd} {Q : xMV → xWd → Prop} (h : (vp_in x1 4 ∧ ((w 67 x1.toNatClampNeg = (-9) → (vp_in x1 4 ∧ ((w 67 x1.toNatClampNeg = (-9) → Q (xI 1) w) ∧ (¬ (w 67 x1.toNatClampNeg = (-9)) → ((0 ≤ x4 → ((x3 < 0 → Q (xI 3) w) ∧ (¬ (x3 < 0) → (vp_in x1 4 ∧ ((w 68 x1.toNatClampNeg < x3 → Q (xI 3) w) ∧ (¬ (w 68 x1.toNatClampNeg < x3) → (vp_in x1 4 ∧ ((x4 ≤ (w 68 x1.toNatClampNeg) - x3 → Q (xI 0) w) ∧ (¬ (x4 ≤ (w 68 x1.toNatClampNeg) - x3) → Q (xI 3) w))))))))) ∧ (¬ (0 ≤ x4) → Q (xI 4) w)))))) ∧ (¬ (w 67 x1.toNatClampNeg = (-9)) → (vp_in x1 4 ∧ ((w 67 x1.toNatClampNeg = x2 → (vp_in x1 4 ∧ ((w 67 x1.toNatClampNeg = (-9) → Q (xI 1) w) ∧ (¬ (w 67 x1.toNatClampNeg = (-9)) → ((0 ≤ x4 → ((x3 < 0 → Q (xI 3) w) ∧ (¬ (x3 < 0) → (vp_in x1 4 ∧ ((w 68 x1.toNatClampNeg < x3 → Q (xI 3) w) ∧ (¬ (w 68 x1.toNatClampNeg < x3) → (vp_in x1 4 ∧ ((x4 ≤ (w 68 x1.toNatClampNeg) - x3 → Q (xI 0) w) ∧ (¬ (x4 ≤ (w 68 x1.toNatClampNeg) - x3) → Q (xI 3) w))))))))) ∧ (¬ (0 ≤ x4) → Q (xI 4) w)))))) ∧ (¬ (w 67 x1.toNatClampNeg = x2) → Q (xI 2) w))))))) : xWp d m_Md_against 0 [xA 7 2, xI x1, xI x2, xI x3, xI x4] [] w Q := by
  refine x_goN 3 (pc' := 5) (ls' := [xA 7 2, xI x1, xI x2, xI x3, xI x4]) (st' := [xI x1, xA 104 67]) (w' := w) rfl ?_
  refine x_ob (P := vp_in x1 4) (pc' := 6) (ls' := [xA 7 2, xI x1, xI x2, xI x3, xI x4]) (st' := [xI (w 67 x1.toNatClampNeg)]) (w' := w) rfl h.1 ?_
  refine x_goN 2 (pc' := if w 67 x1.toNatClampNeg = (-9) then 23 else 11) (ls' := [xA 7 2, xI x1, xI x2, xI x3, xI x4]) (st' := []) (w' := w) rfl ?_
  refine x_br (fun c1 => ?_) (fun c1 => ?_)
  · skip
    refine x_goN 3 (pc' := 28) (ls' := [xA 7 2, xI x1, xI x2, xI x3, xI x4]) (st' := [xI x1, xA 104 67]) (w' := w) rfl ?_
    refine x_ob (P := vp_in x1 4) (pc' := 29) (ls' := [xA 7 2, xI x1, xI x2, xI x3, xI x4]) (st' := [xI (w 67 x1.toNatClampNeg)]) (w' := w) rfl (h.2.1 c1).1 ?_
    refine x_goN 2 (pc' := if w 67 x1.toNatClampNeg = (-9) then 34 else 36) (ls' := [xA 7 2, xI x1, xI x2, xI x3, xI x4]) (st' := []) (w' := w) rfl ?_
    refine x_br (fun c2 => ?_) (fun c2 => ?_)
    · skip
      refine x_goN 1 (pc' := 35) (ls' := [xA 7 2, xI x1, xI x2, xI x3, xI x4]) (st' := [xI 1]) (w' := w) rfl ?_
      exact x_ret (P := True) rfl trivial ((h.2.1 c1).2.1 c2)
    · skip
      refine x_goN 2 (pc' := if 0 ≤ x4 then 43 else 41) (ls' := [xA 7 2, xI x1, xI x2, xI x3, xI x4]) (st' := []) (w' := w) rfl ?_
      refine x_br (fun c3 => ?_) (fun c3 => ?_)
      · skip
        refine x_goN 2 (pc' := if x3 < 0 then 70 else 47) (ls' := [xA 7 2, xI x1, xI x2, xI x3, xI x4]) (st' := []) (w' := w) rfl ?_
        refine x_br (fun c4 => ?_) (fun c4 => ?_)
        · skip
          refine x_goN 2 (pc' := 75) (ls' := [xA 7 2, xI x1, xI x2, xI x3, xI x4]) (st' := [xI 3]) (w' := w) rfl ?_
          exact x_ret (P := True) rfl trivial ((((h.2.1 c1).2.2 c2).1 c3).1 c4)
        · skip
          refine x_goN 4 (pc' := 53) (ls' := [xA 7 2, xI x1, xI x2, xI x3, xI x4]) (st' := [xI x1, xA 104 68, xI x3]) (w' := w) rfl ?_
          refine x_ob (P := vp_in x1 4) (pc' := 54) (ls' := [xA 7 2, xI x1, xI x2, xI x3, xI x4]) (st' := [xI (w 68 x1.toNatClampNeg), xI x3]) (w' := w) rfl ((((h.2.1 c1).2.2 c2).1 c3).2 c4).1 ?_
          refine x_goN 1 (pc' := if w 68 x1.toNatClampNeg < x3 then 70 else 57) (ls' := [xA 7 2, xI x1, xI x2, xI x3, xI x4]) (st' := []) (w' := w) rfl ?_
          refine x_br (fun c5 => ?_) (fun c5 => ?_)
          · skip
            refine x_goN 2 (pc' := 75) (ls' := [xA 7 2, xI x1, xI x2, xI x3, xI x4]) (st' := [xI 3]) (w' := w) rfl ?_
            exact x_ret (P := True) rfl trivial (((((h.2.1 c1).2.2 c2).1 c3).2 c4).2.1 c5)
          · skip
            refine x_goN 4 (pc' := 64) (ls' := [xA 7 2, xI x1, xI x2, xI x3, xI x4]) (st' := [xI x1, xA 104 68, xI x4]) (w' := w) rfl ?_
            refine x_ob (P := vp_in x1 4) (pc' := 65) (ls' := [xA 7 2, xI x1, xI x2, xI x3, xI x4]) (st' := [xI (w 68 x1.toNatClampNeg), xI x4]) (w' := w) rfl (((((h.2.1 c1).2.2 c2).1 c3).2 c4).2.2 c5).1 ?_
            refine x_goN 3 (pc' := if x4 ≤ (w 68 x1.toNatClampNeg) - x3 then 74 else 70) (ls' := [xA 7 2, xI x1, xI x2, xI x3, xI x4]) (st' := []) (w' := w) rfl ?_
            refine x_br (fun c6 => ?_) (fun c6 => ?_)
            · skip
              refine x_goN 1 (pc' := 75) (ls' := [xA 7 2, xI x1, xI x2, xI x3, xI x4]) (st' := [xI 0]) (w' := w) rfl ?_
              exact x_ret (P := True) rfl trivial ((((((h.2.1 c1).2.2 c2).1 c3).2 c4).2.2 c5).2.1 c6)
            · skip
              refine x_goN 2 (pc' := 75) (ls' := [xA 7 2, xI x1, xI x2, xI x3, xI x4]) (st' := [xI 3]) (w' := w) rfl ?_
              exact x_ret (P := True) rfl trivial ((((((h.2.1 c1).2.2 c2).1 c3).2 c4).2.2 c5).2.2 c6)
      · skip
        refine x_goN 1 (pc' := 42) (ls' := [xA 7 2, xI x1, xI x2, xI x3, xI x4]) (st' := [xI 4]) (w' := w) rfl ?_
        exact x_ret (P := True) rfl trivial (((h.2.1 c1).2.2 c2).2 c3)
  · skip
    refine x_goN 3 (pc' := 16) (ls' := [xA 7 2, xI x1, xI x2, xI x3, xI x4]) (st' := [xI x1, xA 104 67]) (w' := w) rfl ?_
    refine x_ob (P := vp_in x1 4) (pc' := 17) (ls' := [xA 7 2, xI x1, xI x2, xI x3, xI x4]) (st' := [xI (w 67 x1.toNatClampNeg)]) (w' := w) rfl (h.2.2 c1).1 ?_
    refine x_goN 2 (pc' := if w 67 x1.toNatClampNeg = x2 then 23 else 21) (ls' := [xA 7 2, xI x1, xI x2, xI x3, xI x4]) (st' := []) (w' := w) rfl ?_
    refine x_br (fun c7 => ?_) (fun c7 => ?_)
    · skip
      refine x_goN 3 (pc' := 28) (ls' := [xA 7 2, xI x1, xI x2, xI x3, xI x4]) (st' := [xI x1, xA 104 67]) (w' := w) rfl ?_
      refine x_ob (P := vp_in x1 4) (pc' := 29) (ls' := [xA 7 2, xI x1, xI x2, xI x3, xI x4]) (st' := [xI (w 67 x1.toNatClampNeg)]) (w' := w) rfl ((h.2.2 c1).2.1 c7).1 ?_
      refine x_goN 2 (pc' := if w 67 x1.toNatClampNeg = (-9) then 34 else 36) (ls' := [xA 7 2, xI x1, xI x2, xI x3, xI x4]) (st' := []) (w' := w) rfl ?_
      refine x_br (fun c8 => ?_) (fun c8 => ?_)
      · skip
        refine x_goN 1 (pc' := 35) (ls' := [xA 7 2, xI x1, xI x2, xI x3, xI x4]) (st' := [xI 1]) (w' := w) rfl ?_
        exact x_ret (P := True) rfl trivial (((h.2.2 c1).2.1 c7).2.1 c8)
      · skip
        refine x_goN 2 (pc' := if 0 ≤ x4 then 43 else 41) (ls' := [xA 7 2, xI x1, xI x2, xI x3, xI x4]) (st' := []) (w' := w) rfl ?_
        refine x_br (fun c9 => ?_) (fun c9 => ?_)
        · skip
          refine x_goN 2 (pc' := if x3 < 0 then 70 else 47) (ls' := [xA 7 2, xI x1, xI x2, xI x3, xI x4]) (st' := []) (w' := w) rfl ?_
          refine x_br (fun c10 => ?_) (fun c10 => ?_)
          · skip
            refine x_goN 2 (pc' := 75) (ls' := [xA 7 2, xI x1, xI x2, xI x3, xI x4]) (st' := [xI 3]) (w' := w) rfl ?_
            exact x_ret (P := True) rfl trivial (((((h.2.2 c1).2.1 c7).2.2 c8).1 c9).1 c10)
          · skip
            refine x_goN 4 (pc' := 53) (ls' := [xA 7 2, xI x1, xI x2, xI x3, xI x4]) (st' := [xI x1, xA 104 68, xI x3]) (w' := w) rfl ?_
            refine x_ob (P := vp_in x1 4) (pc' := 54) (ls' := [xA 7 2, xI x1, xI x2, xI x3, xI x4]) (st' := [xI (w 68 x1.toNatClampNeg), xI x3]) (w' := w) rfl (((((h.2.2 c1).2.1 c7).2.2 c8).1 c9).2 c10).1 ?_
            refine x_goN 1 (pc' := if w 68 x1.toNatClampNeg < x3 then 70 else 57) (ls' := [xA 7 2, xI x1, xI x2, xI x3, xI x4]) (st' := []) (w' := w) rfl ?_
            refine x_br (fun c11 => ?_) (fun c11 => ?_)
            · skip
              refine x_goN 2 (pc' := 75) (ls' := [xA 7 2, xI x1, xI x2, xI x3, xI x4]) (st' := [xI 3]) (w' := w) rfl ?_
              exact x_ret (P := True) rfl trivial ((((((h.2.2 c1).2.1 c7).2.2 c8).1 c9).2 c10).2.1 c11)
            · skip
              refine x_goN 4 (pc' := 64) (ls' := [xA 7 2, xI x1, xI x2, xI x3, xI x4]) (st' := [xI x1, xA 104 68, xI x4]) (w' := w) rfl ?_
              refine x_ob (P := vp_in x1 4) (pc' := 65) (ls' := [xA 7 2, xI x1, xI x2, xI x3, xI x4]) (st' := [xI (w 68 x1.toNatClampNeg), xI x4]) (w' := w) rfl ((((((h.2.2 c1).2.1 c7).2.2 c8).1 c9).2 c10).2.2 c11).1 ?_
              refine x_goN 3 (pc' := if x4 ≤ (w 68 x1.toNatClampNeg) - x3 then 74 else 70) (ls' := [xA 7 2, xI x1, xI x2, xI x3, xI x4]) (st' := []) (w' := w) rfl ?_
              refine x_br (fun c12 => ?_) (fun c12 => ?_)
              · skip
                refine x_goN 1 (pc' := 75) (ls' := [xA 7 2, xI x1, xI x2, xI x3, xI x4]) (st' := [xI 0]) (w' := w) rfl ?_
                exact x_ret (P := True) rfl trivial (((((((h.2.2 c1).2.1 c7).2.2 c8).1 c9).2 c10).2.2 c11).2.1 c12)
              · skip
                refine x_goN 2 (pc' := 75) (ls' := [xA 7 2, xI x1, xI x2, xI x3, xI x4]) (st' := [xI 3]) (w' := w) rfl ?_
                exact x_ret (P := True) rfl trivial (((((((h.2.2 c1).2.1 c7).2.2 c8).1 c9).2 c10).2.2 c11).2.2 c12)
        · skip
          refine x_goN 1 (pc' := 42) (ls' := [xA 7 2, xI x1, xI x2, xI x3, xI x4]) (st' := [xI 4]) (w' := w) rfl ?_
          exact x_ret (P := True) rfl trivial ((((h.2.2 c1).2.1 c7).2.2 c8).2 c9)
    · skip
      refine x_goN 1 (pc' := 22) (ls' := [xA 7 2, xI x1, xI x2, xI x3, xI x4]) (st' := [xI 2]) (w' := w) rfl ?_
      exact x_ret (P := True) rfl trivial ((h.2.2 c1).2.2 c7)
theorem S_Md_against {d k r n : Nat} {c : Nat → Int32} {w : xWd} {Q : xMV → xWd → Prop} {lane i m : Int32} (hk : k < 4) (hs : mSh r n c w k) (hr : r ≤ 3) (hn : n ≤ 60) (h : Q (xI (nI (vFa r n lane i m))) w) : xWp d m_Md_against 0 [xA 7 2, xI (nI k), xI lane, xI i, xI m] [] w Q := by
  obtain ⟨h0, h1, -⟩ := hs
  unfold vFa at h
  have hin : vp_in (nI k) 4 := z_in hk (by decide)
  refine G_Md_against_0 ⟨hin, ?_⟩
  rw [z_cl' (by omega)]
  by_cases e : r = 0
  · rw [if_pos e] at h
    rw [h0 e]
    exact ⟨fun _ => ⟨hin, fun _ => h, fun q => absurd rfl q⟩, fun q => absurd rfl q⟩
  · obtain ⟨g1, g2⟩ := h1 (by omega)
    rw [if_neg e] at h
    rw [g1, g2]
    have hn9 : ¬ nI (r - 1) = -9 := fun q => z_n9 (by omega) q.symm
    refine ⟨fun q => absurd q hn9, fun _ => ⟨hin, fun c2 => ⟨hin, fun q => absurd q hn9, fun _ => ⟨fun c4 => ?_, fun c4 => ?_⟩⟩, fun c2 => ?_⟩⟩
    · rw [if_pos c2.symm] at h
      rw [fa_le, e_l0] at c4
      rw [if_neg (by omega)] at h
      simp only [fa_lt, fa_le, e_l0]
      rw [nI_toInt (by omega)]
      refine ⟨fun c5 => ?_, fun c5 => ⟨hin, fun c6 => ?_, fun c6 => ⟨hin, fun c7 => ?_, fun c7 => ?_⟩⟩⟩
      · rw [if_neg (by omega)] at h; exact h
      · rw [if_neg (by omega)] at h; exact h
      · rw [z_sub_toInt hn (by omega) (by omega)] at c7
        rw [if_pos (by omega)] at h; exact h
      · rw [z_sub_toInt hn (by omega) (by omega)] at c7
        rw [if_neg (by omega)] at h; exact h
    · rw [if_pos c2.symm] at h
      rw [fa_le, e_l0] at c4
      rw [if_pos (by omega)] at h; exact h
    · rw [if_neg (fun q => c2 q.symm)] at h; exact h
end
section
/-! CALLS OF BOTH SIDES: the same answer, the same state -/
def oC (k : Nat) (ls : List xMV) (s : xS) (r : xMV) (s' : xS) : Prop := ∀ w, sC s w → xWp 6 k 0 ls [] w (fun a w' => a = r ∧ sC s' w' ∧ fC w w')
def oM (k : Nat) (ls : List xMV) (s : xS) (r : xMV) (s' : xS) : Prop := ∀ w, sM s w → xWp 6 k 0 ls [] w (fun a w' => a = r ∧ sM s' w' ∧ fM w w')
def oB (kc : Nat) (lc : List xMV) (km : Nat) (lm : List xMV) (s : xS) : Prop := ∃ r s', oC kc lc s r s' ∧ oM km lm s r s'
theorem cE {s : xS} {w : xWd} {r : xMV} (h : sC s w) : r = r ∧ sC s w ∧ fC w w := ⟨rfl, h, fC_rf w⟩
theorem mE {s : xS} {w : xWd} {r : xMV} (h : sM s w) : r = r ∧ sM s w ∧ fM w w := ⟨rfl, h, fM_rf w⟩
theorem cEe {s : xS} {w : xWd} {r r' : xMV} (e : r = r') (h : sC s w) : r = r' ∧ sC s w ∧ fC w w := ⟨e, h, fC_rf w⟩
theorem mEe {s : xS} {w : xWd} {r r' : xMV} (e : r = r') (h : sM s w) : r = r' ∧ sM s w ∧ fM w w := ⟨e, h, fM_rf w⟩
/-- all that the model's state is told by -/
def fN (w w' : xWd) : Prop := ∀ a, (a = 2 ∨ (67 ≤ a ∧ a ≤ 74) ∨ a = 92 ∨ a = 93) → w' a = w a
theorem sM_fN {s : xS} {w w' : xWd} (h : sM s w) (hf : fN w w') : sM s w' := by
  obtain ⟨h1, h2, h3, h4, h5, h6⟩ := h
  have e2 := hf 2 (by omega)
  refine ⟨h1, fun k hk => ?_, ?_, ?_, by rw [e2]; exact h5, by rw [e2]; exact h6⟩
  · unfold mSh; rw [hf 67 (by omega), hf 68 (by omega), hf 69 (by omega)]; exact h2 k hk
  · unfold tM; rw [e2, hf 71 (by omega), hf 72 (by omega), hf 73 (by omega), hf 74 (by omega)]; exact h3
  · unfold mRd; rw [e2, hf 92 (by omega), hf 93 (by omega)]; exact h4
theorem cG_E {s : xS} {w w' : xWd} {r : xMV} {T : xT} {k : Nat} (h : sC s w) (g : cG 34 T w w' k) : r = r ∧ sC s w' ∧ fC w w' := ⟨rfl, sC_fS h (fun a ha => g.1 a (by omega)), fun a ha => g.1 a (by omega)⟩
theorem cH_E {s : xS} {w w' : xWd} {r : xMV} {T : xT} {k : Nat} (h : sM s w) (g : cH T w w' k) : r = r ∧ sM s w' ∧ fM w w' := ⟨rfl, sM_fN h (fun a ha => g.1 a (by omega)), fun a ha hb => g.1 a (by omega)⟩
/-- x names a line -/
def pL (T : xT) (x : Int32) : Prop := ∃ j, j < tn T ∧ x = nI j
theorem pL_C {s : xS} {w : xWd} {x : Int32} (h : sC s w) : p_lt x (w 34 8) ↔ pL (s_T s) x := ⟨fun c => tR_ln (sC_R h) c, fun ⟨j, hj, e⟩ => by rw [e]; exact tR_lt (sC_R h) hj⟩
theorem pL_M {s : xS} {w : xWd} {x : Int32} (h : sM s w) : p_lt x (w 2 5) ↔ pL (s_T s) x := ⟨fun c => tS_ln (sM_S h) c, fun ⟨j, hj, e⟩ => by rw [e]; exact tS_lt (sM_S h) hj⟩
theorem sC_n {s : xS} {w : xWd} (h : sC s w) : w 34 8 = nI (tn (s_T s)) := h.2.2.1.1
theorem sM_n {s : xS} {w : xWd} (h : sM s w) : w 2 5 = nI (tn (s_T s)) := h.2.2.1.1
theorem s_n8 {s : xS} (h : sOk s) : tn (s_T s) ≤ 8 := h.2.1.1.1
theorem G_Vp_fault_0 {d : Nat} {w : xWd} {Q : xMV → xWd → Prop} (h : Q (xI (w 1 8)) w) : xWp d m_Vp_fault 0 [xA 6 1] [] w Q := by
  refine x_goN 2 (pc' := 4) (ls' := [xA 6 1]) (st' := [xI (w 1 8)]) (w' := w) rfl ?_
  exact x_ret (P := True) rfl trivial h
theorem G_Md_fault_0 {d : Nat} {w : xWd} {Q : xMV → xWd → Prop} (h : Q (xI (w 2 0)) w) : xWp d m_Md_fault 0 [xA 7 2] [] w Q := by
  refine x_goN 2 (pc' := 4) (ls' := [xA 7 2]) (st' := [xI (w 2 0)]) (w' := w) rfl ?_
  exact x_ret (P := True) rfl trivial h
theorem O_fault (s : xS) : oB m_Vp_fault [xA 6 1] m_Md_fault [xA 7 2] s :=
  ⟨xI (s_f s), s, fun w h => G_Vp_fault_0 (cEe (by rw [h.2.2.2.2.2]) h), fun w h => G_Md_fault_0 (mEe (by rw [h.2.2.2.2.2]) h)⟩
theorem G_Vp_trace_0 {d : Nat} {w : xWd} {Q : xMV → xWd → Prop} (h : Q (xI (w 1 7)) w) : xWp d m_Vp_trace 0 [xA 6 1] [] w Q := by
  refine x_goN 2 (pc' := 4) (ls' := [xA 6 1]) (st' := [xI (w 1 7)]) (w' := w) rfl ?_
  exact x_ret (P := True) rfl trivial h
theorem G_Md_trace_0 {d : Nat} {w : xWd} {Q : xMV → xWd → Prop} (h : Q (xI (w 2 1)) w) : xWp d m_Md_trace 0 [xA 7 2] [] w Q := by
  refine x_goN 2 (pc' := 4) (ls' := [xA 7 2]) (st' := [xI (w 2 1)]) (w' := w) rfl ?_
  exact x_ret (P := True) rfl trivial h
theorem O_trace (s : xS) : oB m_Vp_trace [xA 6 1] m_Md_trace [xA 7 2] s :=
  ⟨xI (s_t s), s, fun w h => G_Vp_trace_0 (cEe (by rw [h.2.2.2.2.1]) h), fun w h => G_Md_trace_0 (mEe (by rw [h.2.2.2.2.1]) h)⟩
theorem G_Vp_used_0 {d : Nat} {T : xT} {x1 : Int32} {x2 : Int32} {w : xWd} {Q : xMV → xWd → Prop} (h : ((tR w 34 T) ∧ ((pP T x1 x2 → ((tR w 34 T) ∧ Q (xI (vUs T x1 x2)) w)) ∧ (¬ (pP T x1 x2) → Q (xI (-1)) w)))) : xWp (d + 3) m_Vp_used 0 [xA 6 1, xI x1, xI x2] [] w Q := by
  refine x_goN 4 (pc' := 6) (ls' := [xA 6 1, xI x1, xI x2]) (st' := [xI x2, xI x1, xA 5 34]) (w' := w) rfl ?_
  refine x_call (y := m_Tr_hasPlace) (as := [xA 5 34, xI x1, xI x2]) (rst := []) rfl [xA 5 34, xI x1, xI x2] rfl ?_
  refine S_Tr_hasPlace h.1 (fun c1 => ?_) (fun c1 => ?_)
  · skip
    refine x_goN 1 (pc' := if (1 : Int32) = (0 : Int32) then 24 else 12) (ls' := [xA 6 1, xI x1, xI x2]) (st' := []) (w' := w) rfl ?_
    refine x_brF (by decide) ?_
    refine x_goN 4 (pc' := 18) (ls' := [xA 6 1, xI x1, xI x2]) (st' := [xI x2, xI x1, xA 5 34]) (w' := w) rfl ?_
    refine x_call (y := m_Tr_usedIn) (as := [xA 5 34, xI x1, xI x2]) (rst := []) rfl [xA 5 34, xI x1, xI x2] rfl ?_
    refine S_Tr_usedIn (h.2.1 c1).1 ?_
    refine x_goN 1 (pc' := 25) (ls' := [xA 6 1, xI x1, xI x2]) (st' := [xI (vUs T x1 x2)]) (w' := w) rfl ?_
    exact x_ret (P := True) rfl trivial (h.2.1 c1).2
  · skip
    refine x_goN 1 (pc' := if (0 : Int32) = (0 : Int32) then 24 else 12) (ls' := [xA 6 1, xI x1, xI x2]) (st' := []) (w' := w) rfl ?_
    refine x_brT (by decide) ?_
    refine x_goN 1 (pc' := 25) (ls' := [xA 6 1, xI x1, xI x2]) (st' := [xI (-1)]) (w' := w) rfl ?_
    exact x_ret (P := True) rfl trivial (h.2.2 c1)
theorem G_Md_used_0 {d : Nat} {x1 : Int32} {x2 : Int32} {w : xWd} {Q : xMV → xWd → Prop} (h : ((p_lt x1 (w 2 5) → (vp_in x1 8 ∧ ((p_wi x2 0 ((w 73 x1.toNatClampNeg) - 1) → (vp_in ((2 * x1) + x2) 16 ∧ Q (xI (w 74 ((2 * x1) + x2).toNatClampNeg)) w)) ∧ (¬ (p_wi x2 0 ((w 73 x1.toNatClampNeg) - 1)) → Q (xI (-1)) w)))) ∧ (¬ (p_lt x1 (w 2 5)) → Q (xI (-1)) w))) : xWp (d + 1) m_Md_used 0 [xA 7 2, xI x1, xI x2] [] w Q := by
  refine x_goN 2 (pc' := 2) (ls' := [xA 7 2, xI x1, xI x2]) (st' := [xI x1, xA 7 2]) (w' := w) rfl ?_
  refine x_call (y := m_Md_isLine) (as := [xA 7 2, xI x1]) (rst := []) rfl [xA 7 2, xI x1] rfl ?_
  refine S_Md_isLine (fun c1 => ?_) (fun c1 => ?_)
  · skip
    refine x_goN 1 (pc' := if (1 : Int32) = (0 : Int32) then 37 else 8) (ls' := [xA 7 2, xI x1, xI x2]) (st' := []) (w' := w) rfl ?_
    refine x_brF (by decide) ?_
    refine x_goN 5 (pc' := 15) (ls' := [xA 7 2, xI x1, xI x2]) (st' := [xI x1, xA 108 73, xI 0, xI x2]) (w' := w) rfl ?_
    refine x_ob (P := vp_in x1 8) (pc' := 16) (ls' := [xA 7 2, xI x1, xI x2]) (st' := [xI (w 73 x1.toNatClampNeg), xI 0, xI x2]) (w' := w) rfl (h.1 c1).1 ?_
    refine x_goN 2 (pc' := 18) (ls' := [xA 7 2, xI x1, xI x2]) (st' := [xI ((w 73 x1.toNatClampNeg) - 1), xI 0, xI x2]) (w' := w) rfl ?_
    refine x_call (y := m_Md_within) (as := [xI x2, xI 0, xI ((w 73 x1.toNatClampNeg) - 1)]) (rst := []) rfl [xI x2, xI 0, xI ((w 73 x1.toNatClampNeg) - 1)] rfl ?_
    refine S_Md_within (fun c2 => ?_) (fun c2 => ?_)
    · skip
      refine x_goN 1 (pc' := if (1 : Int32) = (0 : Int32) then 37 else 24) (ls' := [xA 7 2, xI x1, xI x2]) (st' := []) (w' := w) rfl ?_
      refine x_brF (by decide) ?_
      refine x_goN 7 (pc' := 33) (ls' := [xA 7 2, xI x1, xI x2]) (st' := [xI ((2 * x1) + x2), xA 116 74]) (w' := w) rfl ?_
      refine x_ob (P := vp_in ((2 * x1) + x2) 16) (pc' := 34) (ls' := [xA 7 2, xI x1, xI x2]) (st' := [xI (w 74 ((2 * x1) + x2).toNatClampNeg)]) (w' := w) rfl ((h.1 c1).2.1 c2).1 ?_
      refine x_goN 1 (pc' := 38) (ls' := [xA 7 2, xI x1, xI x2]) (st' := [xI (w 74 ((2 * x1) + x2).toNatClampNeg)]) (w' := w) rfl ?_
      exact x_ret (P := True) rfl trivial ((h.1 c1).2.1 c2).2
    · skip
      refine x_goN 1 (pc' := if (0 : Int32) = (0 : Int32) then 37 else 24) (ls' := [xA 7 2, xI x1, xI x2]) (st' := []) (w' := w) rfl ?_
      refine x_brT (by decide) ?_
      refine x_goN 1 (pc' := 38) (ls' := [xA 7 2, xI x1, xI x2]) (st' := [xI (-1)]) (w' := w) rfl ?_
      exact x_ret (P := True) rfl trivial ((h.1 c1).2.2 c2)
  · skip
    refine x_goN 1 (pc' := if (0 : Int32) = (0 : Int32) then 37 else 8) (ls' := [xA 7 2, xI x1, xI x2]) (st' := []) (w' := w) rfl ?_
    refine x_brT (by decide) ?_
    refine x_goN 1 (pc' := 38) (ls' := [xA 7 2, xI x1, xI x2]) (st' := [xI (-1)]) (w' := w) rfl ?_
    exact x_ret (P := True) rfl trivial (h.2 c1)
theorem z_wi {b m : Nat} {x : Int32} (hm : m ≤ 1000) : p_wi x 0 (nI m - 1) ↔ ∃ b, x = nI b ∧ b < m := by
  unfold p_wi
  have e : (nI m - 1).toInt = (m : Int) - 1 := by
    rw [show (1 : Int32) = nI 1 from rfl, pk_sub_toInt (by omega) (by omega)]; rfl
  rw [e, e_l0]
  constructor
  · rintro ⟨h0, h1⟩
    obtain ⟨j, e1, e2, -⟩ := z_of h0
    exact ⟨j, e1, by omega⟩
  · rintro ⟨b, rfl, hb⟩
    rw [nI_toInt (by omega)]; omega
theorem O_used (s : xS) (x1 x2 : Int32) : oB m_Vp_used [xA 6 1, xI x1, xI x2] m_Md_used [xA 7 2, xI x1, xI x2] s := by
  by_cases hp : pP (s_T s) x1 x2
  · refine ⟨xI (vUs (s_T s) x1 x2), s, fun w h => G_Vp_used_0 (T := s_T s) ⟨sC_R h, fun _ => ⟨sC_R h, cE h⟩, fun c => absurd hp c⟩, fun w h => ?_⟩
    obtain ⟨a, b, rfl, rfl, ha, hb⟩ := hp
    have h8 := tS_n8 (sM_S h)
    have hm := tS_m2 (sM_S h) ha
    refine G_Md_used_0 ⟨fun _ => ⟨z_in (by omega) (by decide), ?_⟩, fun c => absurd (tS_lt (sM_S h) ha) c⟩
    rw [tM_m (sM_S h) ha, z_2l, z_cl' (by omega), tM_u (sM_S h) ha hb, vUs_p h8 ha hb hm]
    exact ⟨fun _ => ⟨z_in (by omega) (by decide), mE h⟩, fun c => absurd ((z_wi (b := 0) (by omega)).mpr ⟨b, rfl, hb⟩) c⟩
  · refine ⟨xI (-1), s, fun w h => G_Vp_used_0 (T := s_T s) ⟨sC_R h, fun c => absurd c hp, fun _ => cE h⟩, fun w h => ?_⟩
    refine G_Md_used_0 ⟨fun c => ?_, fun _ => mE h⟩
    obtain ⟨a, ha, rfl⟩ := tS_ln (sM_S h) c
    have h8 := tS_n8 (sM_S h)
    have hm := tS_m2 (sM_S h) ha
    refine ⟨z_in (by omega) (by decide), ?_⟩
    rw [tM_m (sM_S h) ha]
    refine ⟨fun c2 => ?_, fun _ => mE h⟩
    obtain ⟨b, rfl, hb⟩ := (z_wi (b := 0) (by omega)).mp c2
    exact absurd ⟨a, b, rfl, rfl, ha, hb⟩ hp
theorem G_Vp_ofLine_0 {d : Nat} {x1 : Int32} {x2 : Int32} {w : xWd} {Q : xMV → xWd → Prop} (h : ((p_lt x1 (w 34 8) → ((x2 = 0 → (vp_in x1 8 ∧ Q (xI (w 1089 x1.toNatClampNeg)) w)) ∧ (¬ (x2 = 0) → ((x2 = 1 → (vp_in x1 8 ∧ Q (xI (w 1090 x1.toNatClampNeg)) w)) ∧ (¬ (x2 = 1) → ((x2 = 2 → (vp_in x1 8 ∧ Q (xI (w 1093 x1.toNatClampNeg)) w)) ∧ (¬ (x2 = 2) → ((x2 = 3 → xWp (d + 4) m_Tr_liveBehind 0 [xA 5 34, xI x1] [] w (fun a w' => xWp (d + 5) m_Vp_ofLine 102 [xA 6 1, xI x1, xI x2] (x_pu a []) w' Q)) ∧ (¬ (x2 = 3) → ((x2 = 4 → xWp (d + 4) m_Tr_pressure 0 [xA 5 34, xI x1] [] w (fun a w' => xWp (d + 5) m_Vp_ofLine 111 [xA 6 1, xI x1, xI x2] (x_pu a []) w' Q)) ∧ (¬ (x2 = 4) → ((x2 = 5 → xWp (d + 4) m_Tr_colourOf 0 [xA 5 34, xI x1] [] w (fun a w' => xWp (d + 5) m_Vp_ofLine 120 [xA 6 1, xI x1, xI x2] (x_pu a []) w' Q)) ∧ (¬ (x2 = 5) → ((x2 = 6 → xWp (d + 4) m_Tr_crossing 0 [xA 5 34, xI x1, xU, xU, xU] [] w (fun a w' => xWp (d + 5) m_Vp_ofLine 129 [xA 6 1, xI x1, xI x2] (x_pu a []) w' Q)) ∧ (¬ (x2 = 6) → ((x2 = 7 → xWp (d + 4) m_Tr_usersOf 0 [xA 5 34, xI x1, xU, xU] [] w (fun a w' => xWp (d + 5) m_Vp_ofLine 138 [xA 6 1, xI x1, xI x2] (x_pu a []) w' Q)) ∧ (¬ (x2 = 7) → ((x2 = 8 → xWp (d + 4) m_Tr_cost 0 [xA 5 34, xI x1, xU] [] w (fun a w' => xWp (d + 5) m_Vp_ofLine 147 [xA 6 1, xI x1, xI x2] (x_pu a []) w' Q)) ∧ (¬ (x2 = 8) → Q (xI (-2)) w))))))))))))))))))) ∧ (¬ (p_lt x1 (w 34 8)) → Q (xI (-1)) w))) : xWp (d + 5) m_Vp_ofLine 0 [xA 6 1, xI x1, xI x2] [] w Q := by
  refine x_goN 3 (pc' := 5) (ls' := [xA 6 1, xI x1, xI x2]) (st' := [xI x1, xA 5 34]) (w' := w) rfl ?_
  refine x_call (y := m_Tr_isLine) (as := [xA 5 34, xI x1]) (rst := []) rfl [xA 5 34, xI x1] rfl ?_
  refine S_Tr_isLine (fun c1 => ?_) (fun c1 => ?_)
  · skip
    refine x_goN 1 (pc' := if (1 : Int32) = (0 : Int32) then 11 else 13) (ls' := [xA 6 1, xI x1, xI x2]) (st' := []) (w' := w) rfl ?_
    refine x_brF (by decide) ?_
    refine x_goN 2 (pc' := if x2 = 0 then 64 else if x2 = 1 then 74 else if x2 = 2 then 84 else if x2 = 3 then 94 else if x2 = 4 then 103 else if x2 = 5 then 112 else if x2 = 6 then 121 else if x2 = 7 then 130 else if x2 = 8 then 139 else 148) (ls' := [xA 6 1, xI x1, xI x2]) (st' := []) (w' := w) rfl ?_
    refine x_br (fun c2 => ?_) (fun c2 => ?_)
    · skip
      refine x_goN 4 (pc' := 72) (ls' := [xA 6 1, xI x1, xI x2]) (st' := [xI x1, xA 108 1089]) (w' := w) rfl ?_
      refine x_ob (P := vp_in x1 8) (pc' := 73) (ls' := [xA 6 1, xI x1, xI x2]) (st' := [xI (w 1089 x1.toNatClampNeg)]) (w' := w) rfl ((h.1 c1).1 c2).1 ?_
      exact x_ret (P := True) rfl trivial ((h.1 c1).1 c2).2
    · skip
      refine x_br (fun c3 => ?_) (fun c3 => ?_)
      · skip
        refine x_goN 4 (pc' := 82) (ls' := [xA 6 1, xI x1, xI x2]) (st' := [xI x1, xA 108 1090]) (w' := w) rfl ?_
        refine x_ob (P := vp_in x1 8) (pc' := 83) (ls' := [xA 6 1, xI x1, xI x2]) (st' := [xI (w 1090 x1.toNatClampNeg)]) (w' := w) rfl (((h.1 c1).2 c2).1 c3).1 ?_
        exact x_ret (P := True) rfl trivial (((h.1 c1).2 c2).1 c3).2
      · skip
        refine x_br (fun c4 => ?_) (fun c4 => ?_)
        · skip
          refine x_goN 4 (pc' := 92) (ls' := [xA 6 1, xI x1, xI x2]) (st' := [xI x1, xA 108 1093]) (w' := w) rfl ?_
          refine x_ob (P := vp_in x1 8) (pc' := 93) (ls' := [xA 6 1, xI x1, xI x2]) (st' := [xI (w 1093 x1.toNatClampNeg)]) (w' := w) rfl ((((h.1 c1).2 c2).2 c3).1 c4).1 ?_
          exact x_ret (P := True) rfl trivial ((((h.1 c1).2 c2).2 c3).1 c4).2
        · skip
          refine x_br (fun c5 => ?_) (fun c5 => ?_)
          · skip
            refine x_goN 3 (pc' := 99) (ls' := [xA 6 1, xI x1, xI x2]) (st' := [xI x1, xA 5 34]) (w' := w) rfl ?_
            refine x_call (y := m_Tr_liveBehind) (as := [xA 5 34, xI x1]) (rst := []) rfl [xA 5 34, xI x1] rfl ?_
            exact (((((h.1 c1).2 c2).2 c3).2 c4).1 c5)
          · skip
            refine x_br (fun c6 => ?_) (fun c6 => ?_)
            · skip
              refine x_goN 3 (pc' := 108) (ls' := [xA 6 1, xI x1, xI x2]) (st' := [xI x1, xA 5 34]) (w' := w) rfl ?_
              refine x_call (y := m_Tr_pressure) (as := [xA 5 34, xI x1]) (rst := []) rfl [xA 5 34, xI x1] rfl ?_
              exact ((((((h.1 c1).2 c2).2 c3).2 c4).2 c5).1 c6)
            · skip
              refine x_br (fun c7 => ?_) (fun c7 => ?_)
              · skip
                refine x_goN 3 (pc' := 117) (ls' := [xA 6 1, xI x1, xI x2]) (st' := [xI x1, xA 5 34]) (w' := w) rfl ?_
                refine x_call (y := m_Tr_colourOf) (as := [xA 5 34, xI x1]) (rst := []) rfl [xA 5 34, xI x1] rfl ?_
                exact (((((((h.1 c1).2 c2).2 c3).2 c4).2 c5).2 c6).1 c7)
              · skip
                refine x_br (fun c8 => ?_) (fun c8 => ?_)
                · skip
                  refine x_goN 3 (pc' := 126) (ls' := [xA 6 1, xI x1, xI x2]) (st' := [xI x1, xA 5 34]) (w' := w) rfl ?_
                  refine x_call (y := m_Tr_crossing) (as := [xA 5 34, xI x1]) (rst := []) rfl [xA 5 34, xI x1, xU, xU, xU] rfl ?_
                  exact ((((((((h.1 c1).2 c2).2 c3).2 c4).2 c5).2 c6).2 c7).1 c8)
                · skip
                  refine x_br (fun c9 => ?_) (fun c9 => ?_)
                  · skip
                    refine x_goN 3 (pc' := 135) (ls' := [xA 6 1, xI x1, xI x2]) (st' := [xI x1, xA 5 34]) (w' := w) rfl ?_
                    refine x_call (y := m_Tr_usersOf) (as := [xA 5 34, xI x1]) (rst := []) rfl [xA 5 34, xI x1, xU, xU] rfl ?_
                    exact (((((((((h.1 c1).2 c2).2 c3).2 c4).2 c5).2 c6).2 c7).2 c8).1 c9)
                  · skip
                    refine x_br (fun c10 => ?_) (fun c10 => ?_)
                    · skip
                      refine x_goN 3 (pc' := 144) (ls' := [xA 6 1, xI x1, xI x2]) (st' := [xI x1, xA 5 34]) (w' := w) rfl ?_
                      refine x_call (y := m_Tr_cost) (as := [xA 5 34, xI x1]) (rst := []) rfl [xA 5 34, xI x1, xU] rfl ?_
                      exact ((((((((((h.1 c1).2 c2).2 c3).2 c4).2 c5).2 c6).2 c7).2 c8).2 c9).1 c10)
                    · skip
                      refine x_goN 1 (pc' := 150) (ls' := [xA 6 1, xI x1, xI x2]) (st' := [xI (-2)]) (w' := w) rfl ?_
                      exact x_ret (P := True) rfl trivial ((((((((((h.1 c1).2 c2).2 c3).2 c4).2 c5).2 c6).2 c7).2 c8).2 c9).2 c10)
  · skip
    refine x_goN 1 (pc' := if (0 : Int32) = (0 : Int32) then 11 else 13) (ls' := [xA 6 1, xI x1, xI x2]) (st' := []) (w' := w) rfl ?_
    refine x_brT (by decide) ?_
    refine x_goN 1 (pc' := 12) (ls' := [xA 6 1, xI x1, xI x2]) (st' := [xI (-1)]) (w' := w) rfl ?_
    exact x_ret (P := True) rfl trivial (h.2 c1)
theorem G_Vp_ofLine_102 {d : Nat} {x1 : Int32} {x2 : Int32} {s0 : Int32} {w : xWd} {Q : xMV → xWd → Prop} (h : Q (xI s0) w) : xWp (d + 5) m_Vp_ofLine 102 [xA 6 1, xI x1, xI x2] [xI s0] w Q := by
  exact x_ret (P := True) rfl trivial h
theorem G_Vp_ofLine_111 {d : Nat} {x1 : Int32} {x2 : Int32} {s0 : Int32} {w : xWd} {Q : xMV → xWd → Prop} (h : Q (xI s0) w) : xWp (d + 5) m_Vp_ofLine 111 [xA 6 1, xI x1, xI x2] [xI s0] w Q := by
  exact x_ret (P := True) rfl trivial h
theorem G_Vp_ofLine_120 {d : Nat} {x1 : Int32} {x2 : Int32} {s0 : Int32} {w : xWd} {Q : xMV → xWd → Prop} (h : Q (xI s0) w) : xWp (d + 5) m_Vp_ofLine 120 [xA 6 1, xI x1, xI x2] [xI s0] w Q := by
  exact x_ret (P := True) rfl trivial h
theorem G_Vp_ofLine_129 {d : Nat} {x1 : Int32} {x2 : Int32} {s0 : Int32} {w : xWd} {Q : xMV → xWd → Prop} (h : Q (xI s0) w) : xWp (d + 5) m_Vp_ofLine 129 [xA 6 1, xI x1, xI x2] [xI s0] w Q := by
  exact x_ret (P := True) rfl trivial h
theorem G_Vp_ofLine_138 {d : Nat} {x1 : Int32} {x2 : Int32} {s0 : Int32} {w : xWd} {Q : xMV → xWd → Prop} (h : Q (xI s0) w) : xWp (d + 5) m_Vp_ofLine 138 [xA 6 1, xI x1, xI x2] [xI s0] w Q := by
  exact x_ret (P := True) rfl trivial h
theorem G_Vp_ofLine_147 {d : Nat} {x1 : Int32} {x2 : Int32} {s0 : Int32} {w : xWd} {Q : xMV → xWd → Prop} (h : Q (xI s0) w) : xWp (d + 5) m_Vp_ofLine 147 [xA 6 1, xI x1, xI x2] [xI s0] w Q := by
  exact x_ret (P := True) rfl trivial h
theorem G_Md_ofLine_0 {d : Nat} {x1 : Int32} {x2 : Int32} {w : xWd} {Q : xMV → xWd → Prop} (h : ((p_lt x1 (w 2 5) → ((x2 = 0 → (vp_in x1 8 ∧ Q (xI (w 71 x1.toNatClampNeg)) w)) ∧ (¬ (x2 = 0) → ((x2 = 1 → (vp_in x1 8 ∧ Q (xI (w 72 x1.toNatClampNeg)) w)) ∧ (¬ (x2 = 1) → ((x2 = 2 → (vp_in x1 8 ∧ Q (xI (w 73 x1.toNatClampNeg)) w)) ∧ (¬ (x2 = 2) → ((x2 = 3 → xWp (d + 4) m_Md_liveBehind 0 [xA 7 2, xI x1, xU, xU] [] w (fun a w' => xWp (d + 5) m_Md_ofLine 86 [xA 7 2, xI x1, xI x2] (x_pu a []) w' Q)) ∧ (¬ (x2 = 3) → ((x2 = 4 → xWp (d + 4) m_Md_liveBehind 0 [xA 7 2, xI x1, xU, xU] [] w (fun a w' => xWp (d + 5) m_Md_ofLine 92 [xA 7 2, xI x1, xI x2] (x_pu a []) w' Q)) ∧ (¬ (x2 = 4) → ((x2 = 5 → xWp (d + 4) m_Md_colourOf 0 [xA 7 2, xI x1] [] w (fun a w' => xWp (d + 5) m_Md_ofLine 101 [xA 7 2, xI x1, xI x2] (x_pu a []) w' Q)) ∧ (¬ (x2 = 5) → ((x2 = 6 → xWp (d + 4) m_Md_crossing 0 [xA 7 2, xI x1, xU, xU] [] w (fun a w' => xWp (d + 5) m_Md_ofLine 107 [xA 7 2, xI x1, xI x2] (x_pu a []) w' Q)) ∧ (¬ (x2 = 6) → ((x2 = 7 → xWp (d + 4) m_Md_usersOf 0 [xA 7 2, xI x1, xU, xU] [] w (fun a w' => xWp (d + 5) m_Md_ofLine 113 [xA 7 2, xI x1, xI x2] (x_pu a []) w' Q)) ∧ (¬ (x2 = 7) → ((x2 = 8 → xWp (d + 4) m_Md_costOf 0 [xA 7 2, xI x1, xU] [] w (fun a w' => xWp (d + 5) m_Md_ofLine 119 [xA 7 2, xI x1, xI x2] (x_pu a []) w' Q)) ∧ (¬ (x2 = 8) → Q (xI (-2)) w))))))))))))))))))) ∧ (¬ (p_lt x1 (w 2 5)) → Q (xI (-1)) w))) : xWp (d + 5) m_Md_ofLine 0 [xA 7 2, xI x1, xI x2] [] w Q := by
  refine x_goN 2 (pc' := 2) (ls' := [xA 7 2, xI x1, xI x2]) (st' := [xI x1, xA 7 2]) (w' := w) rfl ?_
  refine x_call (y := m_Md_isLine) (as := [xA 7 2, xI x1]) (rst := []) rfl [xA 7 2, xI x1] rfl ?_
  refine S_Md_isLine (fun c1 => ?_) (fun c1 => ?_)
  · skip
    refine x_goN 1 (pc' := if (1 : Int32) = (0 : Int32) then 8 else 10) (ls' := [xA 7 2, xI x1, xI x2]) (st' := []) (w' := w) rfl ?_
    refine x_brF (by decide) ?_
    refine x_goN 2 (pc' := if x2 = 0 then 60 else if x2 = 1 then 67 else if x2 = 2 then 74 else if x2 = 3 then 81 else if x2 = 4 then 87 else if x2 = 5 then 96 else if x2 = 6 then 102 else if x2 = 7 then 108 else if x2 = 8 then 114 else 120) (ls' := [xA 7 2, xI x1, xI x2]) (st' := []) (w' := w) rfl ?_
    refine x_br (fun c2 => ?_) (fun c2 => ?_)
    · skip
      refine x_goN 3 (pc' := 65) (ls' := [xA 7 2, xI x1, xI x2]) (st' := [xI x1, xA 108 71]) (w' := w) rfl ?_
      refine x_ob (P := vp_in x1 8) (pc' := 66) (ls' := [xA 7 2, xI x1, xI x2]) (st' := [xI (w 71 x1.toNatClampNeg)]) (w' := w) rfl ((h.1 c1).1 c2).1 ?_
      exact x_ret (P := True) rfl trivial ((h.1 c1).1 c2).2
    · skip
      refine x_br (fun c3 => ?_) (fun c3 => ?_)
      · skip
        refine x_goN 3 (pc' := 72) (ls' := [xA 7 2, xI x1, xI x2]) (st' := [xI x1, xA 108 72]) (w' := w) rfl ?_
        refine x_ob (P := vp_in x1 8) (pc' := 73) (ls' := [xA 7 2, xI x1, xI x2]) (st' := [xI (w 72 x1.toNatClampNeg)]) (w' := w) rfl (((h.1 c1).2 c2).1 c3).1 ?_
        exact x_ret (P := True) rfl trivial (((h.1 c1).2 c2).1 c3).2
      · skip
        refine x_br (fun c4 => ?_) (fun c4 => ?_)
        · skip
          refine x_goN 3 (pc' := 79) (ls' := [xA 7 2, xI x1, xI x2]) (st' := [xI x1, xA 108 73]) (w' := w) rfl ?_
          refine x_ob (P := vp_in x1 8) (pc' := 80) (ls' := [xA 7 2, xI x1, xI x2]) (st' := [xI (w 73 x1.toNatClampNeg)]) (w' := w) rfl ((((h.1 c1).2 c2).2 c3).1 c4).1 ?_
          exact x_ret (P := True) rfl trivial ((((h.1 c1).2 c2).2 c3).1 c4).2
        · skip
          refine x_br (fun c5 => ?_) (fun c5 => ?_)
          · skip
            refine x_goN 2 (pc' := 83) (ls' := [xA 7 2, xI x1, xI x2]) (st' := [xI x1, xA 7 2]) (w' := w) rfl ?_
            refine x_call (y := m_Md_liveBehind) (as := [xA 7 2, xI x1]) (rst := []) rfl [xA 7 2, xI x1, xU, xU] rfl ?_
            exact (((((h.1 c1).2 c2).2 c3).2 c4).1 c5)
          · skip
            refine x_br (fun c6 => ?_) (fun c6 => ?_)
            · skip
              refine x_goN 2 (pc' := 89) (ls' := [xA 7 2, xI x1, xI x2]) (st' := [xI x1, xA 7 2]) (w' := w) rfl ?_
              refine x_call (y := m_Md_liveBehind) (as := [xA 7 2, xI x1]) (rst := []) rfl [xA 7 2, xI x1, xU, xU] rfl ?_
              exact ((((((h.1 c1).2 c2).2 c3).2 c4).2 c5).1 c6)
            · skip
              refine x_br (fun c7 => ?_) (fun c7 => ?_)
              · skip
                refine x_goN 2 (pc' := 98) (ls' := [xA 7 2, xI x1, xI x2]) (st' := [xI x1, xA 7 2]) (w' := w) rfl ?_
                refine x_call (y := m_Md_colourOf) (as := [xA 7 2, xI x1]) (rst := []) rfl [xA 7 2, xI x1] rfl ?_
                exact (((((((h.1 c1).2 c2).2 c3).2 c4).2 c5).2 c6).1 c7)
              · skip
                refine x_br (fun c8 => ?_) (fun c8 => ?_)
                · skip
                  refine x_goN 2 (pc' := 104) (ls' := [xA 7 2, xI x1, xI x2]) (st' := [xI x1, xA 7 2]) (w' := w) rfl ?_
                  refine x_call (y := m_Md_crossing) (as := [xA 7 2, xI x1]) (rst := []) rfl [xA 7 2, xI x1, xU, xU] rfl ?_
                  exact ((((((((h.1 c1).2 c2).2 c3).2 c4).2 c5).2 c6).2 c7).1 c8)
                · skip
                  refine x_br (fun c9 => ?_) (fun c9 => ?_)
                  · skip
                    refine x_goN 2 (pc' := 110) (ls' := [xA 7 2, xI x1, xI x2]) (st' := [xI x1, xA 7 2]) (w' := w) rfl ?_
                    refine x_call (y := m_Md_usersOf) (as := [xA 7 2, xI x1]) (rst := []) rfl [xA 7 2, xI x1, xU, xU] rfl ?_
                    exact (((((((((h.1 c1).2 c2).2 c3).2 c4).2 c5).2 c6).2 c7).2 c8).1 c9)
                  · skip
                    refine x_br (fun c10 => ?_) (fun c10 => ?_)
                    · skip
                      refine x_goN 2 (pc' := 116) (ls' := [xA 7 2, xI x1, xI x2]) (st' := [xI x1, xA 7 2]) (w' := w) rfl ?_
                      refine x_call (y := m_Md_costOf) (as := [xA 7 2, xI x1]) (rst := []) rfl [xA 7 2, xI x1, xU] rfl ?_
                      exact ((((((((((h.1 c1).2 c2).2 c3).2 c4).2 c5).2 c6).2 c7).2 c8).2 c9).1 c10)
                    · skip
                      refine x_goN 1 (pc' := 122) (ls' := [xA 7 2, xI x1, xI x2]) (st' := [xI (-2)]) (w' := w) rfl ?_
                      exact x_ret (P := True) rfl trivial ((((((((((h.1 c1).2 c2).2 c3).2 c4).2 c5).2 c6).2 c7).2 c8).2 c9).2 c10)
  · skip
    refine x_goN 1 (pc' := if (0 : Int32) = (0 : Int32) then 8 else 10) (ls' := [xA 7 2, xI x1, xI x2]) (st' := []) (w' := w) rfl ?_
    refine x_brT (by decide) ?_
    refine x_goN 1 (pc' := 9) (ls' := [xA 7 2, xI x1, xI x2]) (st' := [xI (-1)]) (w' := w) rfl ?_
    exact x_ret (P := True) rfl trivial (h.2 c1)
theorem G_Md_ofLine_86 {d : Nat} {x1 : Int32} {x2 : Int32} {s0 : Int32} {w : xWd} {Q : xMV → xWd → Prop} (h : Q (xI s0) w) : xWp (d + 5) m_Md_ofLine 86 [xA 7 2, xI x1, xI x2] [xI s0] w Q := by
  exact x_ret (P := True) rfl trivial h
theorem G_Md_ofLine_92 {d : Nat} {x1 : Int32} {x2 : Int32} {s0 : Int32} {w : xWd} {Q : xMV → xWd → Prop} (h : xWp (d + 4) m_Md_size 0 [xI s0, xU, xU] [] w (fun a w' => xWp (d + 5) m_Md_ofLine 95 [xA 7 2, xI x1, xI x2] (x_pu a []) w' Q)) : xWp (d + 5) m_Md_ofLine 92 [xA 7 2, xI x1, xI x2] [xI s0] w Q := by
  refine x_call (y := m_Md_size) (as := [xI s0]) (rst := []) rfl [xI s0, xU, xU] rfl ?_
  exact h
theorem G_Md_ofLine_95 {d : Nat} {x1 : Int32} {x2 : Int32} {s0 : Int32} {w : xWd} {Q : xMV → xWd → Prop} (h : Q (xI s0) w) : xWp (d + 5) m_Md_ofLine 95 [xA 7 2, xI x1, xI x2] [xI s0] w Q := by
  exact x_ret (P := True) rfl trivial h
theorem G_Md_ofLine_101 {d : Nat} {x1 : Int32} {x2 : Int32} {s0 : Int32} {w : xWd} {Q : xMV → xWd → Prop} (h : Q (xI s0) w) : xWp (d + 5) m_Md_ofLine 101 [xA 7 2, xI x1, xI x2] [xI s0] w Q := by
  exact x_ret (P := True) rfl trivial h
theorem G_Md_ofLine_107 {d : Nat} {x1 : Int32} {x2 : Int32} {s0 : Int32} {w : xWd} {Q : xMV → xWd → Prop} (h : Q (xI s0) w) : xWp (d + 5) m_Md_ofLine 107 [xA 7 2, xI x1, xI x2] [xI s0] w Q := by
  exact x_ret (P := True) rfl trivial h
theorem G_Md_ofLine_113 {d : Nat} {x1 : Int32} {x2 : Int32} {s0 : Int32} {w : xWd} {Q : xMV → xWd → Prop} (h : Q (xI s0) w) : xWp (d + 5) m_Md_ofLine 113 [xA 7 2, xI x1, xI x2] [xI s0] w Q := by
  exact x_ret (P := True) rfl trivial h
theorem G_Md_ofLine_119 {d : Nat} {x1 : Int32} {x2 : Int32} {s0 : Int32} {w : xWd} {Q : xMV → xWd → Prop} (h : Q (xI s0) w) : xWp (d + 5) m_Md_ofLine 119 [xA 7 2, xI x1, xI x2] [xI s0] w Q := by
  exact x_ret (P := True) rfl trivial h
theorem O_ofLine (s : xS) (x1 x2 : Int32) : oB m_Vp_ofLine [xA 6 1, xI x1, xI x2] m_Md_ofLine [xA 7 2, xI x1, xI x2] s := by
  by_cases hp : pL (s_T s) x1
  · obtain ⟨a, ha, rfl⟩ := hp
    by_cases c0 : x2 = 0
    · subst c0
      refine ⟨xI (nI (tk (s_T s) a)), s, fun w h => G_Vp_ofLine_0 ⟨fun _ => ⟨fun _ => ?_, fun c => absurd rfl c⟩, fun c => absurd (tR_lt (sC_R h) ha) c⟩, fun w h => G_Md_ofLine_0 ⟨fun _ => ⟨fun _ => ?_, fun c => absurd rfl c⟩, fun c => absurd (tS_lt (sM_S h) ha) c⟩⟩
      · have h8 := s_n8 h.1
        exact ⟨z_in (by omega) (by decide), cEe (congrArg xI (tC_k (sC_R h) ha)) h⟩
      · have h8 := s_n8 h.1
        exact ⟨z_in (by omega) (by decide), mEe (congrArg xI (tM_k (sM_S h) ha)) h⟩
    by_cases c1 : x2 = 1
    · subst c1
      refine ⟨xI (nI (ta (s_T s) a)), s, fun w h => G_Vp_ofLine_0 ⟨fun _ => ⟨fun c => absurd c c0, fun _ => ⟨fun _ => ?_, fun c => absurd rfl c⟩⟩, fun c => absurd (tR_lt (sC_R h) ha) c⟩, fun w h => G_Md_ofLine_0 ⟨fun _ => ⟨fun c => absurd c c0, fun _ => ⟨fun _ => ?_, fun c => absurd rfl c⟩⟩, fun c => absurd (tS_lt (sM_S h) ha) c⟩⟩
      · have h8 := s_n8 h.1
        exact ⟨z_in (by omega) (by decide), cEe (congrArg xI (tC_a (sC_R h) ha)) h⟩
      · have h8 := s_n8 h.1
        exact ⟨z_in (by omega) (by decide), mEe (congrArg xI (tM_a (sM_S h) ha)) h⟩
    by_cases c2 : x2 = 2
    · subst c2
      refine ⟨xI (nI (tm (s_T s) a)), s, fun w h => G_Vp_ofLine_0 ⟨fun _ => ⟨fun c => absurd c c0, fun _ => ⟨fun c => absurd c c1, fun _ => ⟨fun _ => ?_, fun c => absurd rfl c⟩⟩⟩, fun c => absurd (tR_lt (sC_R h) ha) c⟩, fun w h => G_Md_ofLine_0 ⟨fun _ => ⟨fun c => absurd c c0, fun _ => ⟨fun c => absurd c c1, fun _ => ⟨fun _ => ?_, fun c => absurd rfl c⟩⟩⟩, fun c => absurd (tS_lt (sM_S h) ha) c⟩⟩
      · have h8 := s_n8 h.1
        exact ⟨z_in (by omega) (by decide), cEe (congrArg xI (tC_m (sC_R h) ha)) h⟩
      · have h8 := s_n8 h.1
        exact ⟨z_in (by omega) (by decide), mEe (congrArg xI (tM_m (sM_S h) ha)) h⟩
    by_cases c3 : x2 = 3
    · subst c3
      exact ⟨xI (nI (mLv (s_T s) a)), s, fun w h => G_Vp_ofLine_0 ⟨fun _ => ⟨fun c => absurd c c0, fun _ => ⟨fun c => absurd c c1, fun _ => ⟨fun c => absurd c c2, fun _ => ⟨fun _ => S_Tr_liveBehind (sC_R h) ha (G_Vp_ofLine_102 (cE h)), fun c => absurd rfl c⟩⟩⟩⟩, fun c => absurd (tR_lt (sC_R h) ha) c⟩, fun w h => G_Md_ofLine_0 ⟨fun _ => ⟨fun c => absurd c c0, fun _ => ⟨fun c => absurd c c1, fun _ => ⟨fun c => absurd c c2, fun _ => ⟨fun _ => S_Md_liveBehind (sM_S h) ha (G_Md_ofLine_86 (mE h)), fun c => absurd rfl c⟩⟩⟩⟩, fun c => absurd (tS_lt (sM_S h) ha) c⟩⟩
    by_cases c4 : x2 = 4
    · subst c4
      exact ⟨xI (nI (z_pc (mLv (s_T s) a))), s, fun w h => G_Vp_ofLine_0 ⟨fun _ => ⟨fun c => absurd c c0, fun _ => ⟨fun c => absurd c c1, fun _ => ⟨fun c => absurd c c2, fun _ => ⟨fun c => absurd c c3, fun _ => ⟨fun _ => S_Tr_pressure (sC_R h) ha (G_Vp_ofLine_111 (cE h)), fun c => absurd rfl c⟩⟩⟩⟩⟩, fun c => absurd (tR_lt (sC_R h) ha) c⟩, fun w h => G_Md_ofLine_0 ⟨fun _ => ⟨fun c => absurd c c0, fun _ => ⟨fun c => absurd c c1, fun _ => ⟨fun c => absurd c c2, fun _ => ⟨fun c => absurd c c3, fun _ => ⟨fun _ => S_Md_liveBehind (sM_S h) ha (G_Md_ofLine_92 (S_Md_size (mLv_lt (s_T s) a) (G_Md_ofLine_95 (mE h)))), fun c => absurd rfl c⟩⟩⟩⟩⟩, fun c => absurd (tS_lt (sM_S h) ha) c⟩⟩
    by_cases c5 : x2 = 5
    · subst c5
      exact ⟨xI (nI (tCl (s_T s) a)), s, fun w h => G_Vp_ofLine_0 ⟨fun _ => ⟨fun c => absurd c c0, fun _ => ⟨fun c => absurd c c1, fun _ => ⟨fun c => absurd c c2, fun _ => ⟨fun c => absurd c c3, fun _ => ⟨fun c => absurd c c4, fun _ => ⟨fun _ => S_Tr_colourOf (sC_R h) ha (fun w' g => G_Vp_ofLine_120 (cG_E h g)), fun c => absurd rfl c⟩⟩⟩⟩⟩⟩, fun c => absurd (tR_lt (sC_R h) ha) c⟩, fun w h => G_Md_ofLine_0 ⟨fun _ => ⟨fun c => absurd c c0, fun _ => ⟨fun c => absurd c c1, fun _ => ⟨fun c => absurd c c2, fun _ => ⟨fun c => absurd c c3, fun _ => ⟨fun c => absurd c c4, fun _ => ⟨fun _ => S_Md_colourOf (sM_S h) ha (fun w' g => G_Md_ofLine_101 (cH_E h g)), fun c => absurd rfl c⟩⟩⟩⟩⟩⟩, fun c => absurd (tS_lt (sM_S h) ha) c⟩⟩
    by_cases c6 : x2 = 6
    · subst c6
      exact ⟨xI (nI (mCr (s_T s) a)), s, fun w h => G_Vp_ofLine_0 ⟨fun _ => ⟨fun c => absurd c c0, fun _ => ⟨fun c => absurd c c1, fun _ => ⟨fun c => absurd c c2, fun _ => ⟨fun c => absurd c c3, fun _ => ⟨fun c => absurd c c4, fun _ => ⟨fun c => absurd c c5, fun _ => ⟨fun _ => S_Tr_crossing (sC_R h) (by have h8 := s_n8 h.1; omega) (G_Vp_ofLine_129 (cE h)), fun c => absurd rfl c⟩⟩⟩⟩⟩⟩⟩, fun c => absurd (tR_lt (sC_R h) ha) c⟩, fun w h => G_Md_ofLine_0 ⟨fun _ => ⟨fun c => absurd c c0, fun _ => ⟨fun c => absurd c c1, fun _ => ⟨fun c => absurd c c2, fun _ => ⟨fun c => absurd c c3, fun _ => ⟨fun c => absurd c c4, fun _ => ⟨fun c => absurd c c5, fun _ => ⟨fun _ => S_Md_crossing (sM_S h) (by have h8 := s_n8 h.1; omega) (G_Md_ofLine_107 (mE h)), fun c => absurd rfl c⟩⟩⟩⟩⟩⟩⟩, fun c => absurd (tS_lt (sM_S h) ha) c⟩⟩
    by_cases c7 : x2 = 7
    · subst c7
      exact ⟨xI (nI (mUs (s_T s) a)), s, fun w h => G_Vp_ofLine_0 ⟨fun _ => ⟨fun c => absurd c c0, fun _ => ⟨fun c => absurd c c1, fun _ => ⟨fun c => absurd c c2, fun _ => ⟨fun c => absurd c c3, fun _ => ⟨fun c => absurd c c4, fun _ => ⟨fun c => absurd c c5, fun _ => ⟨fun c => absurd c c6, fun _ => ⟨fun _ => S_Tr_usersOf (sC_R h) (by have h8 := s_n8 h.1; omega) (G_Vp_ofLine_138 (cE h)), fun c => absurd rfl c⟩⟩⟩⟩⟩⟩⟩⟩, fun c => absurd (tR_lt (sC_R h) ha) c⟩, fun w h => G_Md_ofLine_0 ⟨fun _ => ⟨fun c => absurd c c0, fun _ => ⟨fun c => absurd c c1, fun _ => ⟨fun c => absurd c c2, fun _ => ⟨fun c => absurd c c3, fun _ => ⟨fun c => absurd c c4, fun _ => ⟨fun c => absurd c c5, fun _ => ⟨fun c => absurd c c6, fun _ => ⟨fun _ => S_Md_usersOf (sM_S h) (by have h8 := s_n8 h.1; omega) (G_Md_ofLine_113 (mE h)), fun c => absurd rfl c⟩⟩⟩⟩⟩⟩⟩⟩, fun c => absurd (tS_lt (sM_S h) ha) c⟩⟩
    by_cases c8 : x2 = 8
    · subst c8
      exact ⟨xI (nI (tCo (s_T s) a)), s, fun w h => G_Vp_ofLine_0 ⟨fun _ => ⟨fun c => absurd c c0, fun _ => ⟨fun c => absurd c c1, fun _ => ⟨fun c => absurd c c2, fun _ => ⟨fun c => absurd c c3, fun _ => ⟨fun c => absurd c c4, fun _ => ⟨fun c => absurd c c5, fun _ => ⟨fun c => absurd c c6, fun _ => ⟨fun c => absurd c c7, fun _ => ⟨fun _ => S_Tr_cost (sC_R h) ha (G_Vp_ofLine_147 (cE h)), fun c => absurd rfl c⟩⟩⟩⟩⟩⟩⟩⟩⟩, fun c => absurd (tR_lt (sC_R h) ha) c⟩, fun w h => G_Md_ofLine_0 ⟨fun _ => ⟨fun c => absurd c c0, fun _ => ⟨fun c => absurd c c1, fun _ => ⟨fun c => absurd c c2, fun _ => ⟨fun c => absurd c c3, fun _ => ⟨fun c => absurd c c4, fun _ => ⟨fun c => absurd c c5, fun _ => ⟨fun c => absurd c c6, fun _ => ⟨fun c => absurd c c7, fun _ => ⟨fun _ => S_Md_costOf (sM_S h) ha (G_Md_ofLine_119 (mE h)), fun c => absurd rfl c⟩⟩⟩⟩⟩⟩⟩⟩⟩, fun c => absurd (tS_lt (sM_S h) ha) c⟩⟩
    exact ⟨xI (-2), s, fun w h => G_Vp_ofLine_0 ⟨fun _ => ⟨fun c => absurd c c0, fun _ => ⟨fun c => absurd c c1, fun _ => ⟨fun c => absurd c c2, fun _ => ⟨fun c => absurd c c3, fun _ => ⟨fun c => absurd c c4, fun _ => ⟨fun c => absurd c c5, fun _ => ⟨fun c => absurd c c6, fun _ => ⟨fun c => absurd c c7, fun _ => ⟨fun c => absurd c c8, fun _ => cE h⟩⟩⟩⟩⟩⟩⟩⟩⟩, fun c => absurd (tR_lt (sC_R h) ha) c⟩, fun w h => G_Md_ofLine_0 ⟨fun _ => ⟨fun c => absurd c c0, fun _ => ⟨fun c => absurd c c1, fun _ => ⟨fun c => absurd c c2, fun _ => ⟨fun c => absurd c c3, fun _ => ⟨fun c => absurd c c4, fun _ => ⟨fun c => absurd c c5, fun _ => ⟨fun c => absurd c c6, fun _ => ⟨fun c => absurd c c7, fun _ => ⟨fun c => absurd c c8, fun _ => mE h⟩⟩⟩⟩⟩⟩⟩⟩⟩, fun c => absurd (tS_lt (sM_S h) ha) c⟩⟩
  · exact ⟨xI (-1), s, fun w h => G_Vp_ofLine_0 ⟨fun c => absurd ((pL_C h).mp c) hp, fun _ => cE h⟩, fun w h => G_Md_ofLine_0 ⟨fun c => absurd ((pL_M h).mp c) hp, fun _ => mE h⟩⟩
theorem G_Vp_cross_0 {d : Nat} {x1 : Int32} {x2 : Int32} {w : xWd} {Q : xMV → xWd → Prop} (h : ((p_lt x1 (w 34 8) → ((p_lt x2 (w 34 8) → ((x1 = x2 → Q (xI (-1)) w) ∧ (¬ (x1 = x2) → xWp (d + 3) m_Tr_crossing 0 [xA 5 34, xI x1, xU, xU, xU] [] w (fun a w' => xWp (d + 4) m_Vp_cross 37 [xA 6 1, xI x1, xI x2] (x_pu a []) w' Q)))) ∧ (¬ (p_lt x2 (w 34 8)) → Q (xI (-1)) w))) ∧ (¬ (p_lt x1 (w 34 8)) → Q (xI (-1)) w))) : xWp (d + 4) m_Vp_cross 0 [xA 6 1, xI x1, xI x2] [] w Q := by
  refine x_goN 3 (pc' := 5) (ls' := [xA 6 1, xI x1, xI x2]) (st' := [xI x1, xA 5 34]) (w' := w) rfl ?_
  refine x_call (y := m_Tr_isLine) (as := [xA 5 34, xI x1]) (rst := []) rfl [xA 5 34, xI x1] rfl ?_
  refine S_Tr_isLine (fun c1 => ?_) (fun c1 => ?_)
  · skip
    refine x_goN 1 (pc' := if (1 : Int32) = (0 : Int32) then 27 else 11) (ls' := [xA 6 1, xI x1, xI x2]) (st' := []) (w' := w) rfl ?_
    refine x_brF (by decide) ?_
    refine x_goN 3 (pc' := 16) (ls' := [xA 6 1, xI x1, xI x2]) (st' := [xI x2, xA 5 34]) (w' := w) rfl ?_
    refine x_call (y := m_Tr_isLine) (as := [xA 5 34, xI x2]) (rst := []) rfl [xA 5 34, xI x2] rfl ?_
    refine S_Tr_isLine (fun c2 => ?_) (fun c2 => ?_)
    · skip
      refine x_goN 1 (pc' := if (1 : Int32) = (0 : Int32) then 27 else 22) (ls' := [xA 6 1, xI x1, xI x2]) (st' := []) (w' := w) rfl ?_
      refine x_brF (by decide) ?_
      refine x_goN 3 (pc' := if x1 = x2 then 27 else 29) (ls' := [xA 6 1, xI x1, xI x2]) (st' := []) (w' := w) rfl ?_
      refine x_br (fun c3 => ?_) (fun c3 => ?_)
      · skip
        refine x_goN 1 (pc' := 28) (ls' := [xA 6 1, xI x1, xI x2]) (st' := [xI (-1)]) (w' := w) rfl ?_
        exact x_ret (P := True) rfl trivial (((h.1 c1).1 c2).1 c3)
      · skip
        refine x_goN 3 (pc' := 34) (ls' := [xA 6 1, xI x1, xI x2]) (st' := [xI x1, xA 5 34]) (w' := w) rfl ?_
        refine x_call (y := m_Tr_crossing) (as := [xA 5 34, xI x1]) (rst := []) rfl [xA 5 34, xI x1, xU, xU, xU] rfl ?_
        exact (((h.1 c1).1 c2).2 c3)
    · skip
      refine x_goN 1 (pc' := if (0 : Int32) = (0 : Int32) then 27 else 22) (ls' := [xA 6 1, xI x1, xI x2]) (st' := []) (w' := w) rfl ?_
      refine x_brT (by decide) ?_
      refine x_goN 1 (pc' := 28) (ls' := [xA 6 1, xI x1, xI x2]) (st' := [xI (-1)]) (w' := w) rfl ?_
      exact x_ret (P := True) rfl trivial ((h.1 c1).2 c2)
  · skip
    refine x_goN 1 (pc' := if (0 : Int32) = (0 : Int32) then 27 else 11) (ls' := [xA 6 1, xI x1, xI x2]) (st' := []) (w' := w) rfl ?_
    refine x_brT (by decide) ?_
    refine x_goN 1 (pc' := 28) (ls' := [xA 6 1, xI x1, xI x2]) (st' := [xI (-1)]) (w' := w) rfl ?_
    exact x_ret (P := True) rfl trivial (h.2 c1)
theorem G_Vp_cross_37 {d : Nat} {x1 : Int32} {x2 : Int32} {s0 : Int32} {w : xWd} {Q : xMV → xWd → Prop} (h : ((p_in s0 x2 → Q (xI 1) w) ∧ (¬ (p_in s0 x2) → Q (xI 0) w))) : xWp (d + 4) m_Vp_cross 37 [xA 6 1, xI x1, xI x2] [xI s0] w Q := by
  refine x_goN 1 (pc' := 38) (ls' := [xA 6 1, xI x1, xI x2]) (st' := [xI x2, xI s0]) (w' := w) rfl ?_
  refine x_call (y := m_Vp_inSet) (as := [xI s0, xI x2]) (rst := []) rfl [xI s0, xI x2] rfl ?_
  refine S_Vp_inSet (fun c1 => ?_) (fun c1 => ?_)
  · skip
    refine x_goN 1 (pc' := if (1 : Int32) = (0 : Int32) then 48 else 44) (ls' := [xA 6 1, xI x1, xI x2]) (st' := []) (w' := w) rfl ?_
    refine x_brF (by decide) ?_
    refine x_goN 2 (pc' := 49) (ls' := [xA 6 1, xI x1, xI x2]) (st' := [xI 1]) (w' := w) rfl ?_
    exact x_ret (P := True) rfl trivial (h.1 c1)
  · skip
    refine x_goN 1 (pc' := if (0 : Int32) = (0 : Int32) then 48 else 44) (ls' := [xA 6 1, xI x1, xI x2]) (st' := []) (w' := w) rfl ?_
    refine x_brT (by decide) ?_
    refine x_goN 1 (pc' := 49) (ls' := [xA 6 1, xI x1, xI x2]) (st' := [xI 0]) (w' := w) rfl ?_
    exact x_ret (P := True) rfl trivial (h.2 c1)
theorem G_Md_cross_0 {d : Nat} {x1 : Int32} {x2 : Int32} {w : xWd} {Q : xMV → xWd → Prop} (h : ((p_lt x1 (w 2 5) → ((p_lt x2 (w 2 5) → ((x1 = x2 → Q (xI (-1)) w) ∧ (¬ (x1 = x2) → xWp (d + 3) m_Md_doCross 0 [xA 7 2, xI x1, xI x2, xU, xU] [] w (fun a w' => xWp (d + 4) m_Md_cross 27 [xA 7 2, xI x1, xI x2] (x_pu a []) w' Q)))) ∧ (¬ (p_lt x2 (w 2 5)) → Q (xI (-1)) w))) ∧ (¬ (p_lt x1 (w 2 5)) → Q (xI (-1)) w))) : xWp (d + 4) m_Md_cross 0 [xA 7 2, xI x1, xI x2] [] w Q := by
  refine x_goN 2 (pc' := 2) (ls' := [xA 7 2, xI x1, xI x2]) (st' := [xI x1, xA 7 2]) (w' := w) rfl ?_
  refine x_call (y := m_Md_isLine) (as := [xA 7 2, xI x1]) (rst := []) rfl [xA 7 2, xI x1] rfl ?_
  refine S_Md_isLine (fun c1 => ?_) (fun c1 => ?_)
  · skip
    refine x_goN 1 (pc' := if (1 : Int32) = (0 : Int32) then 38 else 8) (ls' := [xA 7 2, xI x1, xI x2]) (st' := []) (w' := w) rfl ?_
    refine x_brF (by decide) ?_
    refine x_goN 2 (pc' := 10) (ls' := [xA 7 2, xI x1, xI x2]) (st' := [xI x2, xA 7 2]) (w' := w) rfl ?_
    refine x_call (y := m_Md_isLine) (as := [xA 7 2, xI x2]) (rst := []) rfl [xA 7 2, xI x2] rfl ?_
    refine S_Md_isLine (fun c2 => ?_) (fun c2 => ?_)
    · skip
      refine x_goN 1 (pc' := if (1 : Int32) = (0 : Int32) then 38 else 16) (ls' := [xA 7 2, xI x1, xI x2]) (st' := []) (w' := w) rfl ?_
      refine x_brF (by decide) ?_
      refine x_goN 3 (pc' := if x1 = x2 then 38 else 21) (ls' := [xA 7 2, xI x1, xI x2]) (st' := []) (w' := w) rfl ?_
      refine x_br (fun c3 => ?_) (fun c3 => ?_)
      · skip
        refine x_goN 1 (pc' := 39) (ls' := [xA 7 2, xI x1, xI x2]) (st' := [xI (-1)]) (w' := w) rfl ?_
        exact x_ret (P := True) rfl trivial (((h.1 c1).1 c2).1 c3)
      · skip
        refine x_goN 3 (pc' := 24) (ls' := [xA 7 2, xI x1, xI x2]) (st' := [xI x2, xI x1, xA 7 2]) (w' := w) rfl ?_
        refine x_call (y := m_Md_doCross) (as := [xA 7 2, xI x1, xI x2]) (rst := []) rfl [xA 7 2, xI x1, xI x2, xU, xU] rfl ?_
        exact (((h.1 c1).1 c2).2 c3)
    · skip
      refine x_goN 1 (pc' := if (0 : Int32) = (0 : Int32) then 38 else 16) (ls' := [xA 7 2, xI x1, xI x2]) (st' := []) (w' := w) rfl ?_
      refine x_brT (by decide) ?_
      refine x_goN 1 (pc' := 39) (ls' := [xA 7 2, xI x1, xI x2]) (st' := [xI (-1)]) (w' := w) rfl ?_
      exact x_ret (P := True) rfl trivial ((h.1 c1).2 c2)
  · skip
    refine x_goN 1 (pc' := if (0 : Int32) = (0 : Int32) then 38 else 8) (ls' := [xA 7 2, xI x1, xI x2]) (st' := []) (w' := w) rfl ?_
    refine x_brT (by decide) ?_
    refine x_goN 1 (pc' := 39) (ls' := [xA 7 2, xI x1, xI x2]) (st' := [xI (-1)]) (w' := w) rfl ?_
    exact x_ret (P := True) rfl trivial (h.2 c1)
theorem G_Md_cross_27 {d : Nat} {x1 : Int32} {x2 : Int32} {s0 : Int32} {w : xWd} {Q : xMV → xWd → Prop} (h : ((s0 = 0 → Q (xI 0) w) ∧ (¬ (s0 = 0) → Q (xI 1) w))) : xWp (d + 4) m_Md_cross 27 [xA 7 2, xI x1, xI x2] [xI s0] w Q := by
  refine x_goN 1 (pc' := if s0 = 0 then 34 else 30) (ls' := [xA 7 2, xI x1, xI x2]) (st' := []) (w' := w) rfl ?_
  refine x_br (fun c1 => ?_) (fun c1 => ?_)
  · skip
    refine x_goN 2 (pc' := 39) (ls' := [xA 7 2, xI x1, xI x2]) (st' := [xI 0]) (w' := w) rfl ?_
    exact x_ret (P := True) rfl trivial (h.1 c1)
  · skip
    refine x_goN 2 (pc' := 39) (ls' := [xA 7 2, xI x1, xI x2]) (st' := [xI 1]) (w' := w) rfl ?_
    exact x_ret (P := True) rfl trivial (h.2 c1)
theorem p_in_cr {T : xT} {a b : Nat} (hb : b < 8) (hne : a ≠ b) : p_in (nI (mCr T a)) (nI b) ↔ cr T a b = true := by
  unfold p_in
  rw [z_bit' (mCr_lt T a) hb]
  unfold mCr
  rw [z_mk_tb, decide_eq_true hb, Bool.true_and, decide_eq_true (Ne.symm hne), Bool.true_and]
theorem O_cross (s : xS) (x1 x2 : Int32) : oB m_Vp_cross [xA 6 1, xI x1, xI x2] m_Md_cross [xA 7 2, xI x1, xI x2] s := by
  by_cases hp : pL (s_T s) x1
  · by_cases hq : pL (s_T s) x2
    · by_cases he : x1 = x2
      · exact ⟨xI (-1), s, fun w h => G_Vp_cross_0 ⟨fun _ => ⟨fun _ => ⟨fun _ => cE h, fun c => absurd he c⟩, fun _ => cE h⟩, fun _ => cE h⟩, fun w h => G_Md_cross_0 ⟨fun _ => ⟨fun _ => ⟨fun _ => mE h, fun c => absurd he c⟩, fun _ => mE h⟩, fun _ => mE h⟩⟩
      · obtain ⟨a, ha, rfl⟩ := hp
        obtain ⟨b, hb, rfl⟩ := hq
        have hne : a ≠ b := fun q => he (by rw [q])
        by_cases hc : cr (s_T s) a b = true
        · refine ⟨xI 1, s, fun w h => ?_, fun w h => ?_⟩
          · have h8 := s_n8 h.1
            exact G_Vp_cross_0 ⟨fun _ => ⟨fun _ => ⟨fun c => absurd c he, fun _ => S_Tr_crossing (sC_R h) (by omega) (G_Vp_cross_37 ⟨fun _ => cE h, fun c => absurd ((p_in_cr (by omega) hne).mpr hc) c⟩)⟩, fun c => absurd (tR_lt (sC_R h) hb) c⟩, fun c => absurd (tR_lt (sC_R h) ha) c⟩
          · have h8 := s_n8 h.1
            exact G_Md_cross_0 ⟨fun _ => ⟨fun _ => ⟨fun c => absurd c he, fun _ => S_Md_doCross (sM_S h) (by omega) (by omega) (fun _ => G_Md_cross_27 ⟨fun c => absurd c n_10, fun _ => mE h⟩) (fun c => absurd hc c)⟩, fun c => absurd (tS_lt (sM_S h) hb) c⟩, fun c => absurd (tS_lt (sM_S h) ha) c⟩
        · refine ⟨xI 0, s, fun w h => ?_, fun w h => ?_⟩
          · have h8 := s_n8 h.1
            exact G_Vp_cross_0 ⟨fun _ => ⟨fun _ => ⟨fun c => absurd c he, fun _ => S_Tr_crossing (sC_R h) (by omega) (G_Vp_cross_37 ⟨fun c => absurd ((p_in_cr (by omega) hne).mp c) hc, fun _ => cE h⟩)⟩, fun c => absurd (tR_lt (sC_R h) hb) c⟩, fun c => absurd (tR_lt (sC_R h) ha) c⟩
          · have h8 := s_n8 h.1
            exact G_Md_cross_0 ⟨fun _ => ⟨fun _ => ⟨fun c => absurd c he, fun _ => S_Md_doCross (sM_S h) (by omega) (by omega) (fun c => absurd c hc) (fun _ => G_Md_cross_27 ⟨fun _ => mE h, fun c => absurd rfl c⟩)⟩, fun c => absurd (tS_lt (sM_S h) hb) c⟩, fun c => absurd (tS_lt (sM_S h) ha) c⟩
    · exact ⟨xI (-1), s, fun w h => G_Vp_cross_0 ⟨fun _ => ⟨fun c => absurd ((pL_C h).mp c) hq, fun _ => cE h⟩, fun _ => cE h⟩, fun w h => G_Md_cross_0 ⟨fun _ => ⟨fun c => absurd ((pL_M h).mp c) hq, fun _ => mE h⟩, fun _ => mE h⟩⟩
  · exact ⟨xI (-1), s, fun w h => G_Vp_cross_0 ⟨fun c => absurd ((pL_C h).mp c) hp, fun _ => cE h⟩, fun w h => G_Md_cross_0 ⟨fun c => absurd ((pL_M h).mp c) hp, fun _ => mE h⟩⟩
theorem G_Vp_most_0 {d : Nat} {x1 : Int32} {w : xWd} {Q : xMV → xWd → Prop} (h : ((x1 < 0 → Q (xI (-2)) w) ∧ (¬ (x1 < 0) → ((x1 ≤ 2 → ((w 34 8 = 0 → Q (xI (-3)) w) ∧ (¬ (w 34 8 = 0) → ((x1 = 0 → xWp (d + 4) m_Tr_greatestPressure 0 [xA 5 34, xU, xU] [] w (fun a w' => xWp (d + 5) m_Vp_most 36 [xA 6 1, xI x1] (x_pu a []) w' Q)) ∧ (¬ (x1 = 0) → ((x1 = 1 → xWp (d + 4) m_Tr_howManyColours 0 [xA 5 34, xU, xU] [] w (fun a w' => xWp (d + 5) m_Vp_most 49 [xA 6 1, xI x1] (x_pu a []) w' Q)) ∧ (¬ (x1 = 1) → xWp (d + 4) m_Tr_howManyCross 0 [xA 5 34, xU, xU] [] w (fun a w' => xWp (d + 5) m_Vp_most 59 [xA 6 1, xI x1] (x_pu a []) w' Q)))))))) ∧ (¬ (x1 ≤ 2) → Q (xI (-2)) w))))) : xWp (d + 5) m_Vp_most 0 [xA 6 1, xI x1] [] w Q := by
  refine x_goN 2 (pc' := if x1 < 0 then 9 else 4) (ls' := [xA 6 1, xI x1]) (st' := []) (w' := w) rfl ?_
  refine x_br (fun c1 => ?_) (fun c1 => ?_)
  · skip
    refine x_goN 1 (pc' := 11) (ls' := [xA 6 1, xI x1]) (st' := [xI (-2)]) (w' := w) rfl ?_
    exact x_ret (P := True) rfl trivial (h.1 c1)
  · skip
    refine x_goN 3 (pc' := if x1 ≤ 2 then 12 else 9) (ls' := [xA 6 1, xI x1]) (st' := []) (w' := w) rfl ?_
    refine x_br (fun c2 => ?_) (fun c2 => ?_)
    · skip
      refine x_goN 4 (pc' := if w 34 8 = 0 then 22 else 25) (ls' := [xA 6 1, xI x1]) (st' := []) (w' := w) rfl ?_
      refine x_br (fun c3 => ?_) (fun c3 => ?_)
      · skip
        refine x_goN 1 (pc' := 24) (ls' := [xA 6 1, xI x1]) (st' := [xI (-3)]) (w' := w) rfl ?_
        exact x_ret (P := True) rfl trivial (((h.2 c1).1 c2).1 c3)
      · skip
        refine x_goN 2 (pc' := if x1 = 0 then 29 else 37) (ls' := [xA 6 1, xI x1]) (st' := []) (w' := w) rfl ?_
        refine x_br (fun c4 => ?_) (fun c4 => ?_)
        · skip
          refine x_goN 2 (pc' := 33) (ls' := [xA 6 1, xI x1]) (st' := [xA 5 34]) (w' := w) rfl ?_
          refine x_call (y := m_Tr_greatestPressure) (as := [xA 5 34]) (rst := []) rfl [xA 5 34, xU, xU] rfl ?_
          exact ((((h.2 c1).1 c2).2 c3).1 c4)
        · skip
          refine x_goN 3 (pc' := if x1 = 1 then 42 else 52) (ls' := [xA 6 1, xI x1]) (st' := []) (w' := w) rfl ?_
          refine x_br (fun c5 => ?_) (fun c5 => ?_)
          · skip
            refine x_goN 2 (pc' := 46) (ls' := [xA 6 1, xI x1]) (st' := [xA 5 34]) (w' := w) rfl ?_
            refine x_call (y := m_Tr_howManyColours) (as := [xA 5 34]) (rst := []) rfl [xA 5 34, xU, xU] rfl ?_
            exact (((((h.2 c1).1 c2).2 c3).2 c4).1 c5)
          · skip
            refine x_goN 2 (pc' := 56) (ls' := [xA 6 1, xI x1]) (st' := [xA 5 34]) (w' := w) rfl ?_
            refine x_call (y := m_Tr_howManyCross) (as := [xA 5 34]) (rst := []) rfl [xA 5 34, xU, xU] rfl ?_
            exact (((((h.2 c1).1 c2).2 c3).2 c4).2 c5)
    · skip
      refine x_goN 1 (pc' := 11) (ls' := [xA 6 1, xI x1]) (st' := [xI (-2)]) (w' := w) rfl ?_
      exact x_ret (P := True) rfl trivial ((h.2 c1).2 c2)
theorem G_Vp_most_36 {d : Nat} {x1 : Int32} {s0 : Int32} {w : xWd} {Q : xMV → xWd → Prop} (h : Q (xI s0) w) : xWp (d + 5) m_Vp_most 36 [xA 6 1, xI x1] [xI s0] w Q := by
  exact x_ret (P := True) rfl trivial h
theorem G_Vp_most_49 {d : Nat} {x1 : Int32} {s0 : Int32} {w : xWd} {Q : xMV → xWd → Prop} (h : xWp (d + 5) m_Vp_most 59 [xA 6 1, xI x1] [xI s0] w Q) : xWp (d + 5) m_Vp_most 49 [xA 6 1, xI x1] [xI s0] w Q := by
  refine x_goN 1 (pc' := 59) (ls' := [xA 6 1, xI x1]) (st' := [xI s0]) (w' := w) rfl ?_
  exact h
theorem G_Vp_most_59 {d : Nat} {x1 : Int32} {s0 : Int32} {w : xWd} {Q : xMV → xWd → Prop} (h : Q (xI s0) w) : xWp (d + 5) m_Vp_most 59 [xA 6 1, xI x1] [xI s0] w Q := by
  exact x_ret (P := True) rfl trivial h
theorem G_Md_most_0 {d : Nat} {x1 : Int32} {w : xWd} {Q : xMV → xWd → Prop} (h : ((p_wi x1 0 2 → ((w 2 5 = 0 → Q (xI (-3)) w) ∧ (¬ (w 2 5 = 0) → ((x1 = 0 → xWp (d + 4) m_Md_greatestPressure 0 [xA 7 2, xU, xU] [] w (fun a w' => xWp (d + 5) m_Md_most 30 [xA 7 2, xI x1] (x_pu a []) w' Q)) ∧ (¬ (x1 = 0) → ((x1 = 1 → xWp (d + 4) m_Md_manyColours 0 [xA 7 2, xU, xU] [] w (fun a w' => xWp (d + 5) m_Md_most 42 [xA 7 2, xI x1] (x_pu a []) w' Q)) ∧ (¬ (x1 = 1) → xWp (d + 4) m_Md_manyCross 0 [xA 7 2, xU, xU, xU] [] w (fun a w' => xWp (d + 5) m_Md_most 49 [xA 7 2, xI x1] (x_pu a []) w' Q)))))))) ∧ (¬ (p_wi x1 0 2) → Q (xI (-2)) w))) : xWp (d + 5) m_Md_most 0 [xA 7 2, xI x1] [] w Q := by
  refine x_goN 3 (pc' := 3) (ls' := [xA 7 2, xI x1]) (st' := [xI 2, xI 0, xI x1]) (w' := w) rfl ?_
  refine x_call (y := m_Md_within) (as := [xI x1, xI 0, xI 2]) (rst := []) rfl [xI x1, xI 0, xI 2] rfl ?_
  refine S_Md_within (fun c1 => ?_) (fun c1 => ?_)
  · skip
    refine x_goN 1 (pc' := if (1 : Int32) = (0 : Int32) then 9 else 12) (ls' := [xA 7 2, xI x1]) (st' := []) (w' := w) rfl ?_
    refine x_brF (by decide) ?_
    refine x_goN 3 (pc' := if w 2 5 = 0 then 19 else 22) (ls' := [xA 7 2, xI x1]) (st' := []) (w' := w) rfl ?_
    refine x_br (fun c2 => ?_) (fun c2 => ?_)
    · skip
      refine x_goN 1 (pc' := 21) (ls' := [xA 7 2, xI x1]) (st' := [xI (-3)]) (w' := w) rfl ?_
      exact x_ret (P := True) rfl trivial ((h.1 c1).1 c2)
    · skip
      refine x_goN 2 (pc' := if x1 = 0 then 26 else 33) (ls' := [xA 7 2, xI x1]) (st' := []) (w' := w) rfl ?_
      refine x_br (fun c3 => ?_) (fun c3 => ?_)
      · skip
        refine x_goN 1 (pc' := 27) (ls' := [xA 7 2, xI x1]) (st' := [xA 7 2]) (w' := w) rfl ?_
        refine x_call (y := m_Md_greatestPressure) (as := [xA 7 2]) (rst := []) rfl [xA 7 2, xU, xU] rfl ?_
        exact (((h.1 c1).2 c2).1 c3)
      · skip
        refine x_goN 3 (pc' := if x1 = 1 then 38 else 45) (ls' := [xA 7 2, xI x1]) (st' := []) (w' := w) rfl ?_
        refine x_br (fun c4 => ?_) (fun c4 => ?_)
        · skip
          refine x_goN 1 (pc' := 39) (ls' := [xA 7 2, xI x1]) (st' := [xA 7 2]) (w' := w) rfl ?_
          refine x_call (y := m_Md_manyColours) (as := [xA 7 2]) (rst := []) rfl [xA 7 2, xU, xU] rfl ?_
          exact ((((h.1 c1).2 c2).2 c3).1 c4)
        · skip
          refine x_goN 1 (pc' := 46) (ls' := [xA 7 2, xI x1]) (st' := [xA 7 2]) (w' := w) rfl ?_
          refine x_call (y := m_Md_manyCross) (as := [xA 7 2]) (rst := []) rfl [xA 7 2, xU, xU, xU] rfl ?_
          exact ((((h.1 c1).2 c2).2 c3).2 c4)
  · skip
    refine x_goN 1 (pc' := if (0 : Int32) = (0 : Int32) then 9 else 12) (ls' := [xA 7 2, xI x1]) (st' := []) (w' := w) rfl ?_
    refine x_brT (by decide) ?_
    refine x_goN 1 (pc' := 11) (ls' := [xA 7 2, xI x1]) (st' := [xI (-2)]) (w' := w) rfl ?_
    exact x_ret (P := True) rfl trivial (h.2 c1)
theorem G_Md_most_30 {d : Nat} {x1 : Int32} {s0 : Int32} {w : xWd} {Q : xMV → xWd → Prop} (h : xWp (d + 5) m_Md_most 49 [xA 7 2, xI x1] [xI s0] w Q) : xWp (d + 5) m_Md_most 30 [xA 7 2, xI x1] [xI s0] w Q := by
  refine x_goN 1 (pc' := 49) (ls' := [xA 7 2, xI x1]) (st' := [xI s0]) (w' := w) rfl ?_
  exact h
theorem G_Md_most_42 {d : Nat} {x1 : Int32} {s0 : Int32} {w : xWd} {Q : xMV → xWd → Prop} (h : xWp (d + 5) m_Md_most 49 [xA 7 2, xI x1] [xI s0] w Q) : xWp (d + 5) m_Md_most 42 [xA 7 2, xI x1] [xI s0] w Q := by
  refine x_goN 1 (pc' := 49) (ls' := [xA 7 2, xI x1]) (st' := [xI s0]) (w' := w) rfl ?_
  exact h
theorem G_Md_most_49 {d : Nat} {x1 : Int32} {s0 : Int32} {w : xWd} {Q : xMV → xWd → Prop} (h : Q (xI s0) w) : xWp (d + 5) m_Md_most 49 [xA 7 2, xI x1] [xI s0] w Q := by
  exact x_ret (P := True) rfl trivial h
theorem z_eq0 {n : Nat} (h : n ≤ 1000) : nI n = 0 ↔ n = 0 := z_eq (b := 0) (by omega) (by decide)
theorem O_most (s : xS) (x : Int32) : oB m_Vp_most [xA 6 1, xI x] m_Md_most [xA 7 2, xI x] s := by
  by_cases hp : p_wi x 0 2
  · have g0 : ¬ x < 0 := fun c => by rw [fa_lt, e_l0] at c; have := hp.1; rw [e_l0] at this; omega
    have g1 : x ≤ 2 := by rw [fa_le]; exact hp.2
    by_cases hn : tn (s_T s) = 0
    · exact ⟨xI (-3), s, fun w h => G_Vp_most_0 ⟨fun c => absurd c g0, fun _ => ⟨fun _ => ⟨fun _ => cE h, fun c => absurd (by rw [sC_n h, hn]; rfl) c⟩, fun c => absurd g1 c⟩⟩, fun w h => G_Md_most_0 ⟨fun _ => ⟨fun _ => mE h, fun c => absurd (by rw [sM_n h, hn]; rfl) c⟩, fun c => absurd hp c⟩⟩
    · have k0 : ∀ w, sC s w → ¬ w 34 8 = 0 := fun w h c => by rw [sC_n h, z_eq0 (by have := s_n8 h.1; omega)] at c; exact hn c
      have m0 : ∀ w, sM s w → ¬ w 2 5 = 0 := fun w h c => by rw [sM_n h, z_eq0 (by have := s_n8 h.1; omega)] at c; exact hn c
      by_cases c0 : x = 0
      · exact ⟨xI (nI (fMx (s_T s))), s, fun w h => G_Vp_most_0 ⟨fun c => absurd c g0, fun _ => ⟨fun _ => ⟨fun c => absurd c (k0 w h), fun _ => ⟨fun _ => S_Tr_greatestPressure (sC_R h) (G_Vp_most_36 (cE h)), fun c => absurd c0 c⟩⟩, fun c => absurd g1 c⟩⟩, fun w h => G_Md_most_0 ⟨fun _ => ⟨fun c => absurd c (m0 w h), fun _ => ⟨fun _ => S_Md_greatestPressure (sM_S h) (G_Md_most_30 (G_Md_most_49 (mE h))), fun c => absurd c0 c⟩⟩, fun c => absurd hp c⟩⟩
      · by_cases c1 : x = 1
        · exact ⟨xI (nI (nCo (s_T s))), s, fun w h => G_Vp_most_0 ⟨fun c => absurd c g0, fun _ => ⟨fun _ => ⟨fun c => absurd c (k0 w h), fun _ => ⟨fun c => absurd c c0, fun _ => ⟨fun _ => S_Tr_howManyColours (sC_R h) (fun w' g => G_Vp_most_49 (G_Vp_most_59 (cG_E h g))), fun c => absurd c1 c⟩⟩⟩, fun c => absurd g1 c⟩⟩, fun w h => G_Md_most_0 ⟨fun _ => ⟨fun c => absurd c (m0 w h), fun _ => ⟨fun c => absurd c c0, fun _ => ⟨fun _ => S_Md_manyColours (sM_S h) (fun w' g => G_Md_most_42 (G_Md_most_49 (cH_E h g))), fun c => absurd c1 c⟩⟩⟩, fun c => absurd hp c⟩⟩
        · exact ⟨xI (nI (nCr (s_T s))), s, fun w h => G_Vp_most_0 ⟨fun c => absurd c g0, fun _ => ⟨fun _ => ⟨fun c => absurd c (k0 w h), fun _ => ⟨fun c => absurd c c0, fun _ => ⟨fun c => absurd c c1, fun _ => S_Tr_howManyCross (sC_R h) (G_Vp_most_59 (cE h))⟩⟩⟩, fun c => absurd g1 c⟩⟩, fun w h => G_Md_most_0 ⟨fun _ => ⟨fun c => absurd c (m0 w h), fun _ => ⟨fun c => absurd c c0, fun _ => ⟨fun c => absurd c c1, fun _ => S_Md_manyCross (sM_S h) (G_Md_most_49 (mE h))⟩⟩⟩, fun c => absurd hp c⟩⟩
  · refine ⟨xI (-2), s, fun w h => G_Vp_most_0 ⟨fun _ => cE h, fun c => ⟨fun c2 => absurd ?_ hp, fun _ => cE h⟩⟩, fun w h => G_Md_most_0 ⟨fun c => absurd c hp, fun _ => mE h⟩⟩
    rw [fa_lt] at c
    rw [fa_le] at c2
    exact ⟨by omega, c2⟩
theorem G_Vp_next_0 {d : Nat} {T : xT} {x1 : Int32} {x2 : Int32} {w : xWd} {Q : xMV → xWd → Prop} (h : ((p_lt x1 (w 34 8) → ((p_lt x2 (w 34 8) → ((tR w 34 T) ∧ ((pB T x2 x1 → (vp_in x2 8 ∧ ((p_in (w 1095 x2.toNatClampNeg) x1 → xWp (d + 2) m_Vp_next 68 [xA 6 1, xI x1, xI x2] [xI 0] w Q) ∧ (¬ (p_in (w 1095 x2.toNatClampNeg) x1) → xWp (d + 1) m_Tr_laterUse 0 [xA 5 34, xI x1, xI x2, xU, xU, xU] [] w (fun a w' => xWp (d + 2) m_Vp_next 68 [xA 6 1, xI x1, xI x2] (x_pu a []) w' Q))))) ∧ (¬ (pB T x2 x1) → Q (xI (-3)) w)))) ∧ (¬ (p_lt x2 (w 34 8)) → Q (xI (-1)) w))) ∧ (¬ (p_lt x1 (w 34 8)) → Q (xI (-1)) w))) : xWp (d + 2) m_Vp_next 0 [xA 6 1, xI x1, xI x2] [] w Q := by
  refine x_goN 3 (pc' := 5) (ls' := [xA 6 1, xI x1, xI x2]) (st' := [xI x1, xA 5 34]) (w' := w) rfl ?_
  refine x_call (y := m_Tr_isLine) (as := [xA 5 34, xI x1]) (rst := []) rfl [xA 5 34, xI x1] rfl ?_
  refine S_Tr_isLine (fun c1 => ?_) (fun c1 => ?_)
  · skip
    refine x_goN 1 (pc' := if (1 : Int32) = (0 : Int32) then 22 else 11) (ls' := [xA 6 1, xI x1, xI x2]) (st' := []) (w' := w) rfl ?_
    refine x_brF (by decide) ?_
    refine x_goN 3 (pc' := 16) (ls' := [xA 6 1, xI x1, xI x2]) (st' := [xI x2, xA 5 34]) (w' := w) rfl ?_
    refine x_call (y := m_Tr_isLine) (as := [xA 5 34, xI x2]) (rst := []) rfl [xA 5 34, xI x2] rfl ?_
    refine S_Tr_isLine (fun c2 => ?_) (fun c2 => ?_)
    · skip
      refine x_goN 1 (pc' := if (1 : Int32) = (0 : Int32) then 22 else 24) (ls' := [xA 6 1, xI x1, xI x2]) (st' := []) (w' := w) rfl ?_
      refine x_brF (by decide) ?_
      refine x_goN 4 (pc' := 30) (ls' := [xA 6 1, xI x1, xI x2]) (st' := [xI x1, xI x2, xA 5 34]) (w' := w) rfl ?_
      refine x_call (y := m_Tr_isBelow) (as := [xA 5 34, xI x2, xI x1]) (rst := []) rfl [xA 5 34, xI x2, xI x1] rfl ?_
      refine S_Tr_isBelow ((h.1 c1).1 c2).1 (fun c3 => ?_) (fun c3 => ?_)
      · skip
        refine x_goN 1 (pc' := if (1 : Int32) = (0 : Int32) then 36 else 39) (ls' := [xA 6 1, xI x1, xI x2]) (st' := []) (w' := w) rfl ?_
        refine x_brF (by decide) ?_
        refine x_goN 4 (pc' := 47) (ls' := [xA 6 1, xI x1, xI x2]) (st' := [xI x2, xA 108 1095]) (w' := w) rfl ?_
        refine x_ob (P := vp_in x2 8) (pc' := 48) (ls' := [xA 6 1, xI x1, xI x2]) (st' := [xI (w 1095 x2.toNatClampNeg)]) (w' := w) rfl (((h.1 c1).1 c2).2.1 c3).1 ?_
        refine x_goN 1 (pc' := 49) (ls' := [xA 6 1, xI x1, xI x2]) (st' := [xI x1, xI (w 1095 x2.toNatClampNeg)]) (w' := w) rfl ?_
        refine x_call (y := m_Vp_inSet) (as := [xI (w 1095 x2.toNatClampNeg), xI x1]) (rst := []) rfl [xI (w 1095 x2.toNatClampNeg), xI x1] rfl ?_
        refine S_Vp_inSet (fun c4 => ?_) (fun c4 => ?_)
        · skip
          refine x_goN 1 (pc' := if (1 : Int32) = (0 : Int32) then 59 else 55) (ls' := [xA 6 1, xI x1, xI x2]) (st' := []) (w' := w) rfl ?_
          refine x_brF (by decide) ?_
          refine x_goN 2 (pc' := 68) (ls' := [xA 6 1, xI x1, xI x2]) (st' := [xI 0]) (w' := w) rfl ?_
          exact ((((h.1 c1).1 c2).2.1 c3).2.1 c4)
        · skip
          refine x_goN 1 (pc' := if (0 : Int32) = (0 : Int32) then 59 else 55) (ls' := [xA 6 1, xI x1, xI x2]) (st' := []) (w' := w) rfl ?_
          refine x_brT (by decide) ?_
          refine x_goN 4 (pc' := 65) (ls' := [xA 6 1, xI x1, xI x2]) (st' := [xI x2, xI x1, xA 5 34]) (w' := w) rfl ?_
          refine x_call (y := m_Tr_laterUse) (as := [xA 5 34, xI x1, xI x2]) (rst := []) rfl [xA 5 34, xI x1, xI x2, xU, xU, xU] rfl ?_
          exact ((((h.1 c1).1 c2).2.1 c3).2.2 c4)
      · skip
        refine x_goN 1 (pc' := if (0 : Int32) = (0 : Int32) then 36 else 39) (ls' := [xA 6 1, xI x1, xI x2]) (st' := []) (w' := w) rfl ?_
        refine x_brT (by decide) ?_
        refine x_goN 1 (pc' := 38) (ls' := [xA 6 1, xI x1, xI x2]) (st' := [xI (-3)]) (w' := w) rfl ?_
        exact x_ret (P := True) rfl trivial (((h.1 c1).1 c2).2.2 c3)
    · skip
      refine x_goN 1 (pc' := if (0 : Int32) = (0 : Int32) then 22 else 24) (ls' := [xA 6 1, xI x1, xI x2]) (st' := []) (w' := w) rfl ?_
      refine x_brT (by decide) ?_
      refine x_goN 1 (pc' := 23) (ls' := [xA 6 1, xI x1, xI x2]) (st' := [xI (-1)]) (w' := w) rfl ?_
      exact x_ret (P := True) rfl trivial ((h.1 c1).2 c2)
  · skip
    refine x_goN 1 (pc' := if (0 : Int32) = (0 : Int32) then 22 else 11) (ls' := [xA 6 1, xI x1, xI x2]) (st' := []) (w' := w) rfl ?_
    refine x_brT (by decide) ?_
    refine x_goN 1 (pc' := 23) (ls' := [xA 6 1, xI x1, xI x2]) (st' := [xI (-1)]) (w' := w) rfl ?_
    exact x_ret (P := True) rfl trivial (h.2 c1)
theorem G_Vp_next_68 {d : Nat} {x1 : Int32} {x2 : Int32} {s0 : Int32} {w : xWd} {Q : xMV → xWd → Prop} (h : Q (xI s0) w) : xWp (d + 2) m_Vp_next 68 [xA 6 1, xI x1, xI x2] [xI s0] w Q := by
  exact x_ret (P := True) rfl trivial h
theorem G_Md_next_0 {d : Nat} {x1 : Int32} {x2 : Int32} {w : xWd} {Q : xMV → xWd → Prop} (h : ((p_lt x1 (w 2 5) → ((p_lt x2 (w 2 5) → xWp (d + 1) m_Md_isBelow 0 [xA 7 2, xI x2, xI x1, xU] [] w (fun a w' => xWp (d + 2) m_Md_next 24 [xA 7 2, xI x1, xI x2] (x_pu a []) w' Q)) ∧ (¬ (p_lt x2 (w 2 5)) → Q (xI (-1)) w))) ∧ (¬ (p_lt x1 (w 2 5)) → Q (xI (-1)) w))) : xWp (d + 2) m_Md_next 0 [xA 7 2, xI x1, xI x2] [] w Q := by
  refine x_goN 2 (pc' := 2) (ls' := [xA 7 2, xI x1, xI x2]) (st' := [xI x1, xA 7 2]) (w' := w) rfl ?_
  refine x_call (y := m_Md_isLine) (as := [xA 7 2, xI x1]) (rst := []) rfl [xA 7 2, xI x1] rfl ?_
  refine S_Md_isLine (fun c1 => ?_) (fun c1 => ?_)
  · skip
    refine x_goN 1 (pc' := if (1 : Int32) = (0 : Int32) then 16 else 8) (ls' := [xA 7 2, xI x1, xI x2]) (st' := []) (w' := w) rfl ?_
    refine x_brF (by decide) ?_
    refine x_goN 2 (pc' := 10) (ls' := [xA 7 2, xI x1, xI x2]) (st' := [xI x2, xA 7 2]) (w' := w) rfl ?_
    refine x_call (y := m_Md_isLine) (as := [xA 7 2, xI x2]) (rst := []) rfl [xA 7 2, xI x2] rfl ?_
    refine S_Md_isLine (fun c2 => ?_) (fun c2 => ?_)
    · skip
      refine x_goN 1 (pc' := if (1 : Int32) = (0 : Int32) then 16 else 18) (ls' := [xA 7 2, xI x1, xI x2]) (st' := []) (w' := w) rfl ?_
      refine x_brF (by decide) ?_
      refine x_goN 3 (pc' := 21) (ls' := [xA 7 2, xI x1, xI x2]) (st' := [xI x1, xI x2, xA 7 2]) (w' := w) rfl ?_
      refine x_call (y := m_Md_isBelow) (as := [xA 7 2, xI x2, xI x1]) (rst := []) rfl [xA 7 2, xI x2, xI x1, xU] rfl ?_
      exact ((h.1 c1).1 c2)
    · skip
      refine x_goN 1 (pc' := if (0 : Int32) = (0 : Int32) then 16 else 18) (ls' := [xA 7 2, xI x1, xI x2]) (st' := []) (w' := w) rfl ?_
      refine x_brT (by decide) ?_
      refine x_goN 1 (pc' := 17) (ls' := [xA 7 2, xI x1, xI x2]) (st' := [xI (-1)]) (w' := w) rfl ?_
      exact x_ret (P := True) rfl trivial ((h.1 c1).2 c2)
  · skip
    refine x_goN 1 (pc' := if (0 : Int32) = (0 : Int32) then 16 else 8) (ls' := [xA 7 2, xI x1, xI x2]) (st' := []) (w' := w) rfl ?_
    refine x_brT (by decide) ?_
    refine x_goN 1 (pc' := 17) (ls' := [xA 7 2, xI x1, xI x2]) (st' := [xI (-1)]) (w' := w) rfl ?_
    exact x_ret (P := True) rfl trivial (h.2 c1)
theorem G_Md_next_24 {d : Nat} {x1 : Int32} {x2 : Int32} {s0 : Int32} {w : xWd} {Q : xMV → xWd → Prop} (h : ((s0 = 0 → Q (xI (-3)) w) ∧ (¬ (s0 = 0) → xWp (d + 1) m_Md_isUser 0 [xA 7 2, xI x2, xI x1, xU] [] w (fun a w' => xWp (d + 2) m_Md_next 36 [xA 7 2, xI x1, xI x2] (x_pu a []) w' Q)))) : xWp (d + 2) m_Md_next 24 [xA 7 2, xI x1, xI x2] [xI s0] w Q := by
  refine x_goN 1 (pc' := if s0 = 0 then 27 else 30) (ls' := [xA 7 2, xI x1, xI x2]) (st' := []) (w' := w) rfl ?_
  refine x_br (fun c1 => ?_) (fun c1 => ?_)
  · skip
    refine x_goN 1 (pc' := 29) (ls' := [xA 7 2, xI x1, xI x2]) (st' := [xI (-3)]) (w' := w) rfl ?_
    exact x_ret (P := True) rfl trivial (h.1 c1)
  · skip
    refine x_goN 3 (pc' := 33) (ls' := [xA 7 2, xI x1, xI x2]) (st' := [xI x1, xI x2, xA 7 2]) (w' := w) rfl ?_
    refine x_call (y := m_Md_isUser) (as := [xA 7 2, xI x2, xI x1]) (rst := []) rfl [xA 7 2, xI x2, xI x1, xU] rfl ?_
    exact (h.2 c1)
theorem G_Md_next_36 {d : Nat} {x1 : Int32} {x2 : Int32} {s0 : Int32} {w : xWd} {Q : xMV → xWd → Prop} (h : ((s0 = 0 → xWp (d + 1) m_Md_laterUse 0 [xA 7 2, xI x2, xI x1, xU, xU, xU, xU] [] w (fun a w' => xWp (d + 2) m_Md_next 49 [xA 7 2, xI x1, xI x2] (x_pu a []) w' Q)) ∧ (¬ (s0 = 0) → xWp (d + 2) m_Md_next 49 [xA 7 2, xI x1, xI x2] [xI 0] w Q))) : xWp (d + 2) m_Md_next 36 [xA 7 2, xI x1, xI x2] [xI s0] w Q := by
  refine x_goN 1 (pc' := if s0 = 0 then 43 else 39) (ls' := [xA 7 2, xI x1, xI x2]) (st' := []) (w' := w) rfl ?_
  refine x_br (fun c1 => ?_) (fun c1 => ?_)
  · skip
    refine x_goN 3 (pc' := 46) (ls' := [xA 7 2, xI x1, xI x2]) (st' := [xI x1, xI x2, xA 7 2]) (w' := w) rfl ?_
    refine x_call (y := m_Md_laterUse) (as := [xA 7 2, xI x2, xI x1]) (rst := []) rfl [xA 7 2, xI x2, xI x1, xU, xU, xU, xU] rfl ?_
    exact (h.1 c1)
  · skip
    refine x_goN 2 (pc' := 49) (ls' := [xA 7 2, xI x1, xI x2]) (st' := [xI 0]) (w' := w) rfl ?_
    exact (h.2 c1)
theorem G_Md_next_49 {d : Nat} {x1 : Int32} {x2 : Int32} {s0 : Int32} {w : xWd} {Q : xMV → xWd → Prop} (h : Q (xI s0) w) : xWp (d + 2) m_Md_next 49 [xA 7 2, xI x1, xI x2] [xI s0] w Q := by
  exact x_ret (P := True) rfl trivial h
theorem O_next (s : xS) (x1 x2 : Int32) : oB m_Vp_next [xA 6 1, xI x1, xI x2] m_Md_next [xA 7 2, xI x1, xI x2] s := by
  by_cases hp : pL (s_T s) x1
  · by_cases hq : pL (s_T s) x2
    · obtain ⟨v, hv, rfl⟩ := hp
      obtain ⟨l, hl, rfl⟩ := hq
      by_cases hb : tb (s_T s) l v = true
      · by_cases hu : tr (s_T s) l v = true
        · refine ⟨xI 0, s, fun w h => ?_, fun w h => ?_⟩
          · have h8 := s_n8 h.1
            exact G_Vp_next_0 (T := s_T s) ⟨fun _ => ⟨fun _ => ⟨sC_R h, fun _ => ⟨z_in (by omega) (by decide), fun _ => G_Vp_next_68 (cE h), fun c => absurd ((tC_sp (sC_R h) hl (by omega)).mpr hu) c⟩, fun c => absurd ⟨l, v, rfl, rfl, hl, hv, hb⟩ c⟩, fun c => absurd (tR_lt (sC_R h) hl) c⟩, fun c => absurd (tR_lt (sC_R h) hv) c⟩
          · have h8 := s_n8 h.1
            exact G_Md_next_0 ⟨fun _ => ⟨fun _ => S_Md_isBelow (sM_S h) hl (by omega) (fun _ => G_Md_next_24 ⟨fun c => absurd c n_10, fun _ => S_Md_isUser (sM_S h) hl (by omega) (fun _ => G_Md_next_36 ⟨fun c => absurd c n_10, fun _ => G_Md_next_49 (mE h)⟩) (fun c => absurd hu c)⟩) (fun c => absurd hb c), fun c => absurd (tS_lt (sM_S h) hl) c⟩, fun c => absurd (tS_lt (sM_S h) hv) c⟩
        · refine ⟨xI (luI (tL (s_T s) l v)), s, fun w h => ?_, fun w h => ?_⟩
          · have h8 := s_n8 h.1
            exact G_Vp_next_0 (T := s_T s) ⟨fun _ => ⟨fun _ => ⟨sC_R h, fun _ => ⟨z_in (by omega) (by decide), fun c => absurd ((tC_sp (sC_R h) hl (by omega)).mp c) hu, fun _ => S_Tr_laterUse (sC_R h) (by omega) hl (G_Vp_next_68 (cE h))⟩, fun c => absurd ⟨l, v, rfl, rfl, hl, hv, hb⟩ c⟩, fun c => absurd (tR_lt (sC_R h) hl) c⟩, fun c => absurd (tR_lt (sC_R h) hv) c⟩
          · have h8 := s_n8 h.1
            exact G_Md_next_0 ⟨fun _ => ⟨fun _ => S_Md_isBelow (sM_S h) hl (by omega) (fun _ => G_Md_next_24 ⟨fun c => absurd c n_10, fun _ => S_Md_isUser (sM_S h) hl (by omega) (fun c => absurd c hu) (fun _ => G_Md_next_36 ⟨fun _ => S_Md_laterUse (sM_S h) (by omega) hl (G_Md_next_49 (mE h)), fun c => absurd rfl c⟩)⟩) (fun c => absurd hb c), fun c => absurd (tS_lt (sM_S h) hl) c⟩, fun c => absurd (tS_lt (sM_S h) hv) c⟩
      · refine ⟨xI (-3), s, fun w h => ?_, fun w h => ?_⟩
        · have h8 := s_n8 h.1
          refine G_Vp_next_0 (T := s_T s) ⟨fun _ => ⟨fun _ => ⟨sC_R h, fun c => ?_, fun _ => cE h⟩, fun c => absurd (tR_lt (sC_R h) hl) c⟩, fun c => absurd (tR_lt (sC_R h) hv) c⟩
          obtain ⟨l', v', e1, e2, a1, a2, a3⟩ := c
          have := (z_eq (by omega) (by omega)).mp e1
          subst this
          have := (z_eq (by omega) (by omega)).mp e2
          subst this
          exact absurd a3 hb
        · have h8 := s_n8 h.1
          exact G_Md_next_0 ⟨fun _ => ⟨fun _ => S_Md_isBelow (sM_S h) hl (by omega) (fun c => absurd c hb) (fun _ => G_Md_next_24 ⟨fun _ => mE h, fun c => absurd rfl c⟩), fun c => absurd (tS_lt (sM_S h) hl) c⟩, fun c => absurd (tS_lt (sM_S h) hv) c⟩
    · exact ⟨xI (-1), s, fun w h => G_Vp_next_0 (T := s_T s) ⟨fun _ => ⟨fun c => absurd ((pL_C h).mp c) hq, fun _ => cE h⟩, fun _ => cE h⟩, fun w h => G_Md_next_0 ⟨fun _ => ⟨fun c => absurd ((pL_M h).mp c) hq, fun _ => mE h⟩, fun _ => mE h⟩⟩
  · exact ⟨xI (-1), s, fun w h => G_Vp_next_0 (T := s_T s) ⟨fun c => absurd ((pL_C h).mp c) hp, fun _ => cE h⟩, fun w h => G_Md_next_0 ⟨fun c => absurd ((pL_M h).mp c) hp, fun _ => mE h⟩⟩
theorem G_Vp_many_0 {d : Nat} {x1 : Int32} {w : xWd} {Q : xMV → xWd → Prop} (h : ((x1 = 0 → Q (xI (w 34 8)) w) ∧ (¬ (x1 = 0) → ((x1 = 1 → xWp (d + 4) m_Tr_howManyUsedOfAll 0 [xA 5 34, xU, xU] [] w (fun a w' => xWp (d + 5) m_Vp_many 51 [xA 6 1, xI x1] (x_pu a []) w' Q)) ∧ (¬ (x1 = 1) → ((x1 = 2 → xWp (d + 4) m_Tr_greatestPressure 0 [xA 5 34, xU, xU] [] w (fun a w' => xWp (d + 5) m_Vp_many 59 [xA 6 1, xI x1] (x_pu a []) w' Q)) ∧ (¬ (x1 = 2) → ((x1 = 3 → xWp (d + 4) m_Tr_howManyColours 0 [xA 5 34, xU, xU] [] w (fun a w' => xWp (d + 5) m_Vp_many 67 [xA 6 1, xI x1] (x_pu a []) w' Q)) ∧ (¬ (x1 = 3) → ((x1 = 4 → Q (xI (w 39 2)) w) ∧ (¬ (x1 = 4) → Q (xI (-2)) w))))))))))) : xWp (d + 5) m_Vp_many 0 [xA 6 1, xI x1] [] w Q := by
  refine x_goN 2 (pc' := if x1 = 0 then 36 else if x1 = 1 then 44 else if x1 = 2 then 52 else if x1 = 3 then 60 else if x1 = 4 then 68 else 76) (ls' := [xA 6 1, xI x1]) (st' := []) (w' := w) rfl ?_
  refine x_br (fun c1 => ?_) (fun c1 => ?_)
  · skip
    refine x_goN 3 (pc' := 43) (ls' := [xA 6 1, xI x1]) (st' := [xI (w 34 8)]) (w' := w) rfl ?_
    exact x_ret (P := True) rfl trivial (h.1 c1)
  · skip
    refine x_br (fun c2 => ?_) (fun c2 => ?_)
    · skip
      refine x_goN 2 (pc' := 48) (ls' := [xA 6 1, xI x1]) (st' := [xA 5 34]) (w' := w) rfl ?_
      refine x_call (y := m_Tr_howManyUsedOfAll) (as := [xA 5 34]) (rst := []) rfl [xA 5 34, xU, xU] rfl ?_
      exact ((h.2 c1).1 c2)
    · skip
      refine x_br (fun c3 => ?_) (fun c3 => ?_)
      · skip
        refine x_goN 2 (pc' := 56) (ls' := [xA 6 1, xI x1]) (st' := [xA 5 34]) (w' := w) rfl ?_
        refine x_call (y := m_Tr_greatestPressure) (as := [xA 5 34]) (rst := []) rfl [xA 5 34, xU, xU] rfl ?_
        exact (((h.2 c1).2 c2).1 c3)
      · skip
        refine x_br (fun c4 => ?_) (fun c4 => ?_)
        · skip
          refine x_goN 2 (pc' := 64) (ls' := [xA 6 1, xI x1]) (st' := [xA 5 34]) (w' := w) rfl ?_
          refine x_call (y := m_Tr_howManyColours) (as := [xA 5 34]) (rst := []) rfl [xA 5 34, xU, xU] rfl ?_
          exact ((((h.2 c1).2 c2).2 c3).1 c4)
        · skip
          refine x_br (fun c5 => ?_) (fun c5 => ?_)
          · skip
            refine x_goN 3 (pc' := 75) (ls' := [xA 6 1, xI x1]) (st' := [xI (w 39 2)]) (w' := w) rfl ?_
            exact x_ret (P := True) rfl trivial (((((h.2 c1).2 c2).2 c3).2 c4).1 c5)
          · skip
            refine x_goN 1 (pc' := 78) (ls' := [xA 6 1, xI x1]) (st' := [xI (-2)]) (w' := w) rfl ?_
            exact x_ret (P := True) rfl trivial (((((h.2 c1).2 c2).2 c3).2 c4).2 c5)
theorem G_Vp_many_51 {d : Nat} {x1 : Int32} {s0 : Int32} {w : xWd} {Q : xMV → xWd → Prop} (h : Q (xI s0) w) : xWp (d + 5) m_Vp_many 51 [xA 6 1, xI x1] [xI s0] w Q := by
  exact x_ret (P := True) rfl trivial h
theorem G_Vp_many_59 {d : Nat} {x1 : Int32} {s0 : Int32} {w : xWd} {Q : xMV → xWd → Prop} (h : Q (xI s0) w) : xWp (d + 5) m_Vp_many 59 [xA 6 1, xI x1] [xI s0] w Q := by
  exact x_ret (P := True) rfl trivial h
theorem G_Vp_many_67 {d : Nat} {x1 : Int32} {s0 : Int32} {w : xWd} {Q : xMV → xWd → Prop} (h : Q (xI s0) w) : xWp (d + 5) m_Vp_many 67 [xA 6 1, xI x1] [xI s0] w Q := by
  exact x_ret (P := True) rfl trivial h
theorem G_Md_many_0 {d : Nat} {x1 : Int32} {w : xWd} {Q : xMV → xWd → Prop} (h : ((x1 = 0 → Q (xI (w 2 5)) w) ∧ (¬ (x1 = 0) → ((x1 = 1 → xWp (d + 5) m_Md_many 43 [xA 7 2, xI x1, xI 0, xI 0] [] w Q) ∧ (¬ (x1 = 1) → ((x1 = 2 → xWp (d + 4) m_Md_greatestPressure 0 [xA 7 2, xU, xU] [] w (fun a w' => xWp (d + 5) m_Md_many 72 [xA 7 2, xI x1, xI 0, xU] (x_pu a []) w' Q)) ∧ (¬ (x1 = 2) → ((x1 = 3 → xWp (d + 4) m_Md_manyColours 0 [xA 7 2, xU, xU] [] w (fun a w' => xWp (d + 5) m_Md_many 77 [xA 7 2, xI x1, xI 0, xU] (x_pu a []) w' Q)) ∧ (¬ (x1 = 3) → ((x1 = 4 → Q (xI (w 2 26)) w) ∧ (¬ (x1 = 4) → Q (xI (-2)) w))))))))))) : xWp (d + 5) m_Md_many 0 [xA 7 2, xI x1, xU, xU] [] w Q := by
  refine x_goN 4 (pc' := if x1 = 0 then 36 else if x1 = 1 then 41 else if x1 = 2 then 68 else if x1 = 3 then 73 else if x1 = 4 then 78 else 83) (ls' := [xA 7 2, xI x1, xI 0, xU]) (st' := []) (w' := w) rfl ?_
  refine x_br (fun c1 => ?_) (fun c1 => ?_)
  · skip
    refine x_goN 2 (pc' := 40) (ls' := [xA 7 2, xI x1, xI 0, xU]) (st' := [xI (w 2 5)]) (w' := w) rfl ?_
    exact x_ret (P := True) rfl trivial (h.1 c1)
  · skip
    refine x_br (fun c2 => ?_) (fun c2 => ?_)
    · skip
      refine x_goN 2 (pc' := 43) (ls' := [xA 7 2, xI x1, xI 0, xI 0]) (st' := []) (w' := w) rfl ?_
      exact ((h.2 c1).1 c2)
    · skip
      refine x_br (fun c3 => ?_) (fun c3 => ?_)
      · skip
        refine x_goN 1 (pc' := 69) (ls' := [xA 7 2, xI x1, xI 0, xU]) (st' := [xA 7 2]) (w' := w) rfl ?_
        refine x_call (y := m_Md_greatestPressure) (as := [xA 7 2]) (rst := []) rfl [xA 7 2, xU, xU] rfl ?_
        exact (((h.2 c1).2 c2).1 c3)
      · skip
        refine x_br (fun c4 => ?_) (fun c4 => ?_)
        · skip
          refine x_goN 1 (pc' := 74) (ls' := [xA 7 2, xI x1, xI 0, xU]) (st' := [xA 7 2]) (w' := w) rfl ?_
          refine x_call (y := m_Md_manyColours) (as := [xA 7 2]) (rst := []) rfl [xA 7 2, xU, xU] rfl ?_
          exact ((((h.2 c1).2 c2).2 c3).1 c4)
        · skip
          refine x_br (fun c5 => ?_) (fun c5 => ?_)
          · skip
            refine x_goN 2 (pc' := 82) (ls' := [xA 7 2, xI x1, xI 0, xU]) (st' := [xI (w 2 26)]) (w' := w) rfl ?_
            exact x_ret (P := True) rfl trivial (((((h.2 c1).2 c2).2 c3).2 c4).1 c5)
          · skip
            refine x_goN 1 (pc' := 85) (ls' := [xA 7 2, xI x1, xI 0, xU]) (st' := [xI (-2)]) (w' := w) rfl ?_
            exact x_ret (P := True) rfl trivial (((((h.2 c1).2 c2).2 c3).2 c4).2 c5)
theorem G_Md_many_43 {d : Nat} {x1 : Int32} {x2 : Int32} {x3 : Int32} {w : xWd} {Q : xMV → xWd → Prop} (h : ((w 2 5 ≤ x3 → Q (xI x2) w) ∧ (¬ (w 2 5 ≤ x3) → (vp_in x3 8 ∧ xWp (d + 5) m_Md_many 43 [xA 7 2, xI x1, xI (x2 + (w 73 x3.toNatClampNeg)), xI (x3 + 1)] [] w Q)))) : xWp (d + 5) m_Md_many 43 [xA 7 2, xI x1, xI x2, xI x3] [] w Q := by
  refine x_goN 4 (pc' := if w 2 5 ≤ x3 then 66 else 51) (ls' := [xA 7 2, xI x1, xI x2, xI x3]) (st' := []) (w' := w) rfl ?_
  refine x_br (fun c1 => ?_) (fun c1 => ?_)
  · skip
    refine x_goN 1 (pc' := 67) (ls' := [xA 7 2, xI x1, xI x2, xI x3]) (st' := [xI x2]) (w' := w) rfl ?_
    exact x_ret (P := True) rfl trivial (h.1 c1)
  · skip
    refine x_goN 4 (pc' := 57) (ls' := [xA 7 2, xI x1, xI x2, xI x3]) (st' := [xI x3, xA 108 73, xI x2]) (w' := w) rfl ?_
    refine x_ob (P := vp_in x3 8) (pc' := 58) (ls' := [xA 7 2, xI x1, xI x2, xI x3]) (st' := [xI (w 73 x3.toNatClampNeg), xI x2]) (w' := w) rfl (h.2 c1).1 ?_
    refine x_goN 4 (pc' := 43) (ls' := [xA 7 2, xI x1, xI (x2 + (w 73 x3.toNatClampNeg)), xI (x3 + 1)]) (st' := []) (w' := w) rfl ?_
    exact (h.2 c1).2
theorem G_Md_many_72 {d : Nat} {x1 : Int32} {x2 : Int32} {s0 : Int32} {w : xWd} {Q : xMV → xWd → Prop} (h : Q (xI s0) w) : xWp (d + 5) m_Md_many 72 [xA 7 2, xI x1, xI x2, xU] [xI s0] w Q := by
  exact x_ret (P := True) rfl trivial h
theorem G_Md_many_77 {d : Nat} {x1 : Int32} {x2 : Int32} {s0 : Int32} {w : xWd} {Q : xMV → xWd → Prop} (h : Q (xI s0) w) : xWp (d + 5) m_Md_many 77 [xA 7 2, xI x1, xI x2, xU] [xI s0] w Q := by
  exact x_ret (P := True) rfl trivial h
theorem L_Md_many {d : Nat} {T : xT} {w : xWd} {Q : xMV → xWd → Prop} {x : Int32} (hS : tS w T) (h : Q (xI (nI (z_sm (tn T) (tm T)))) w) : ∀ k l : Nat, l + k = tn T → xWp (d + 5) m_Md_many 43 [xA 7 2, xI x, xI (nI (z_sm l (tm T))), xI (nI l)] [] w Q := by
  have h8 := tS_n8 hS
  intro k
  induction k with
  | zero =>
    intro l hl
    have e : l = tn T := by omega
    subst e
    exact G_Md_many_43 ⟨fun _ => h, fun c => absurd (tS_end hS) c⟩
  | succ k ih =>
    intro l hl
    have hlt : l < tn T := by omega
    refine G_Md_many_43 ⟨fun c => absurd c (tS_ge hS hlt), fun c => ⟨z_in (by omega) (by decide), ?_⟩⟩
    rw [tM_m hS hlt, nI_add, nI_1]
    exact ih (l + 1) (by omega)
theorem O_many (s : xS) (x : Int32) : oB m_Vp_many [xA 6 1, xI x] m_Md_many [xA 7 2, xI x, xU, xU] s := by
  by_cases c0 : x = 0
  · exact ⟨xI (nI (tn (s_T s))), s, fun w h => G_Vp_many_0 ⟨fun _ => cEe (congrArg xI (sC_n h)) h, fun c => absurd c0 c⟩, fun w h => G_Md_many_0 ⟨fun _ => mEe (congrArg xI (sM_n h)) h, fun c => absurd c0 c⟩⟩
  by_cases c1 : x = 1
  · exact ⟨xI (nI (z_sm (tn (s_T s)) (tm (s_T s)))), s, fun w h => G_Vp_many_0 ⟨fun c => absurd c c0, fun _ => ⟨fun _ => S_Tr_howManyUsedOfAll (sC_R h) (G_Vp_many_51 (cE h)), fun c => absurd c1 c⟩⟩, fun w h => G_Md_many_0 ⟨fun c => absurd c c0, fun _ => ⟨fun _ => L_Md_many (sM_S h) (mE h) (tn (s_T s)) 0 (Nat.zero_add _), fun c => absurd c1 c⟩⟩⟩
  by_cases c2 : x = 2
  · exact ⟨xI (nI (fMx (s_T s))), s, fun w h => G_Vp_many_0 ⟨fun c => absurd c c0, fun _ => ⟨fun c => absurd c c1, fun _ => ⟨fun _ => S_Tr_greatestPressure (sC_R h) (G_Vp_many_59 (cE h)), fun c => absurd c2 c⟩⟩⟩, fun w h => G_Md_many_0 ⟨fun c => absurd c c0, fun _ => ⟨fun c => absurd c c1, fun _ => ⟨fun _ => S_Md_greatestPressure (sM_S h) (G_Md_many_72 (mE h)), fun c => absurd c2 c⟩⟩⟩⟩
  by_cases c3 : x = 3
  · exact ⟨xI (nI (nCo (s_T s))), s, fun w h => G_Vp_many_0 ⟨fun c => absurd c c0, fun _ => ⟨fun c => absurd c c1, fun _ => ⟨fun c => absurd c c2, fun _ => ⟨fun _ => S_Tr_howManyColours (sC_R h) (fun w' g => G_Vp_many_67 (cG_E h g)), fun c => absurd c3 c⟩⟩⟩⟩, fun w h => G_Md_many_0 ⟨fun c => absurd c c0, fun _ => ⟨fun c => absurd c c1, fun _ => ⟨fun c => absurd c c2, fun _ => ⟨fun _ => S_Md_manyColours (sM_S h) (fun w' g => G_Md_many_77 (cH_E h g)), fun c => absurd c3 c⟩⟩⟩⟩⟩
  by_cases c4 : x = 4
  · exact ⟨xI (nI (r_n s)), s, fun w h => G_Vp_many_0 ⟨fun c => absurd c c0, fun _ => ⟨fun c => absurd c c1, fun _ => ⟨fun c => absurd c c2, fun _ => ⟨fun c => absurd c c3, fun _ => ⟨fun _ => cEe (congrArg xI h.2.2.2.1.1) h, fun c => absurd c4 c⟩⟩⟩⟩⟩, fun w h => G_Md_many_0 ⟨fun c => absurd c c0, fun _ => ⟨fun c => absurd c c1, fun _ => ⟨fun c => absurd c c2, fun _ => ⟨fun c => absurd c c3, fun _ => ⟨fun _ => mEe (congrArg xI h.2.2.2.1.1) h, fun c => absurd c4 c⟩⟩⟩⟩⟩⟩
  exact ⟨xI (-2), s, fun w h => G_Vp_many_0 ⟨fun c => absurd c c0, fun _ => ⟨fun c => absurd c c1, fun _ => ⟨fun c => absurd c c2, fun _ => ⟨fun c => absurd c c3, fun _ => ⟨fun c => absurd c c4, fun _ => cE h⟩⟩⟩⟩⟩, fun w h => G_Md_many_0 ⟨fun c => absurd c c0, fun _ => ⟨fun c => absurd c c1, fun _ => ⟨fun c => absurd c c2, fun _ => ⟨fun c => absurd c c3, fun _ => ⟨fun c => absurd c c4, fun _ => mE h⟩⟩⟩⟩⟩⟩
end
section
/-! SHEETS, TELLING, READINGS -/
theorem cF {s : xS} {w w1 : xWd} {r : xMV} (h : sC s w1) (f : fC w w1) : r = r ∧ sC s w1 ∧ fC w w1 := ⟨rfl, h, f⟩
theorem mF {s : xS} {w w1 : xWd} {r : xMV} (h : sM s w1) (f : fM w w1) : r = r ∧ sM s w1 ∧ fM w w1 := ⟨rfl, h, f⟩
theorem fC_1 {w : xWd} {j : Nat} {v : Int32} : fC w (x_set w 1 j v) := fC_set (by omega)
theorem fM_2 {w : xWd} {j : Nat} {v : Int32} : fM w (x_set w 2 j v) := fM_set (by omega)
theorem sC_f {s : xS} {w w1 : xWd} {f : Int32} (h : sC s w) (e : w1 = x_set w 1 8 f) : sC (uF s f) w1 ∧ fC w w1 := ⟨e ▸ sC_uF h, e ▸ fC_1⟩
theorem sM_f {s : xS} {w w1 : xWd} {f : Int32} (h : sM s w) (e : w1 = x_set w 2 0 f) : sM (uF s f) w1 ∧ fM w w1 := ⟨e ▸ sM_uF h, e ▸ fM_2⟩
theorem wi_rg {x : Int32} : p_wi x 0 2 ↔ p_rg x 0 2 := Iff.rfl
theorem G_Vp_as_0 {d : Nat} {x1 : Int32} {x2 : Int32} {w : xWd} {Q : xMV → xWd → Prop} (h : (∀ w1 : xWd, w1 = x_set w 1 8 0 → ((p_lt x1 (w1 34 8) → ((p_rg x2 0 2 → (vp_in x1 8 ∧ ((w1 1089 x1.toNatClampNeg < x2 → (∀ w2 : xWd, w2 = x_set w1 1 8 2 → Q (xI (-12)) w2)) ∧ (¬ (w1 1089 x1.toNatClampNeg < x2) → Q (xI 1) w1)))) ∧ (¬ (p_rg x2 0 2) → Q (xI (-2)) w1))) ∧ (¬ (p_lt x1 (w1 34 8)) → Q (xI (-1)) w1)))) : xWp (d + 1) m_Vp_as 0 [xA 6 1, xI x1, xI x2] [] w Q := by
  refine x_goN 2 (pc' := 2) (ls' := [xA 6 1, xI x1, xI x2]) (st' := [xI 0, xA 6 1]) (w' := w) rfl ?_
  refine x_goW (pc' := 5) (ls' := [xA 6 1, xI x1, xI x2]) (st' := []) (w' := x_set w 1 8 0) rfl (fun w1 ew1 => ?_)
  refine x_goN 3 (pc' := 10) (ls' := [xA 6 1, xI x1, xI x2]) (st' := [xI x1, xA 5 34]) (w' := w1) rfl ?_
  refine x_call (y := m_Tr_isLine) (as := [xA 5 34, xI x1]) (rst := []) rfl [xA 5 34, xI x1] rfl ?_
  refine S_Tr_isLine (fun c1 => ?_) (fun c1 => ?_)
  · skip
    refine x_goN 1 (pc' := if (1 : Int32) = (0 : Int32) then 16 else 18) (ls' := [xA 6 1, xI x1, xI x2]) (st' := []) (w' := w1) rfl ?_
    refine x_brF (by decide) ?_
    refine x_goN 1 (pc' := 19) (ls' := [xA 6 1, xI x1, xI x2]) (st' := [xI x2]) (w' := w1) rfl ?_
    refine x_call (y := m_Vp_isKind) (as := [xI x2]) (rst := []) rfl [xI x2] rfl ?_
    refine S_Vp_isKind (fun c2 => ?_) (fun c2 => ?_)
    · skip
      refine x_goN 1 (pc' := if (1 : Int32) = (0 : Int32) then 25 else 28) (ls' := [xA 6 1, xI x1, xI x2]) (st' := []) (w' := w1) rfl ?_
      refine x_brF (by decide) ?_
      refine x_goN 5 (pc' := 37) (ls' := [xA 6 1, xI x1, xI x2]) (st' := [xI x1, xA 108 1089, xI x2]) (w' := w1) rfl ?_
      refine x_ob (P := vp_in x1 8) (pc' := 38) (ls' := [xA 6 1, xI x1, xI x2]) (st' := [xI (w1 1089 x1.toNatClampNeg), xI x2]) (w' := w1) rfl (((h w1 ew1).1 c1).1 c2).1 ?_
      refine x_goN 1 (pc' := if w1 1089 x1.toNatClampNeg < x2 then 45 else 41) (ls' := [xA 6 1, xI x1, xI x2]) (st' := []) (w' := w1) rfl ?_
      refine x_br (fun c3 => ?_) (fun c3 => ?_)
      · skip
        refine x_goN 2 (pc' := 47) (ls' := [xA 6 1, xI x1, xI x2]) (st' := [xI 2, xA 6 1]) (w' := w1) rfl ?_
        refine x_call (y := m_Vp_faulty) (as := [xA 6 1, xI 2]) (rst := []) rfl [xA 6 1, xI 2] rfl ?_
        refine S_Vp_faulty (fun w2 ew2 => ?_)
        exact x_ret (P := True) rfl trivial (((((h w1 ew1).1 c1).1 c2).2.1 c3) w2 ew2)
      · skip
        refine x_goN 2 (pc' := 50) (ls' := [xA 6 1, xI x1, xI x2]) (st' := [xI 1]) (w' := w1) rfl ?_
        exact x_ret (P := True) rfl trivial ((((h w1 ew1).1 c1).1 c2).2.2 c3)
    · skip
      refine x_goN 1 (pc' := if (0 : Int32) = (0 : Int32) then 25 else 28) (ls' := [xA 6 1, xI x1, xI x2]) (st' := []) (w' := w1) rfl ?_
      refine x_brT (by decide) ?_
      refine x_goN 1 (pc' := 27) (ls' := [xA 6 1, xI x1, xI x2]) (st' := [xI (-2)]) (w' := w1) rfl ?_
      exact x_ret (P := True) rfl trivial (((h w1 ew1).1 c1).2 c2)
  · skip
    refine x_goN 1 (pc' := if (0 : Int32) = (0 : Int32) then 16 else 18) (ls' := [xA 6 1, xI x1, xI x2]) (st' := []) (w' := w1) rfl ?_
    refine x_brT (by decide) ?_
    refine x_goN 1 (pc' := 17) (ls' := [xA 6 1, xI x1, xI x2]) (st' := [xI (-1)]) (w' := w1) rfl ?_
    exact x_ret (P := True) rfl trivial ((h w1 ew1).2 c1)
theorem G_Md_as_0 {d : Nat} {x1 : Int32} {x2 : Int32} {w : xWd} {Q : xMV → xWd → Prop} (h : (∀ w1 : xWd, w1 = x_set w 2 0 0 → ((p_lt x1 (w1 2 5) → ((p_wi x2 0 2 → (vp_in x1 8 ∧ ((w1 71 x1.toNatClampNeg < x2 → (∀ w2 : xWd, w2 = x_set w1 2 0 2 → Q (xI (-12)) w2)) ∧ (¬ (w1 71 x1.toNatClampNeg < x2) → Q (xI 1) w1)))) ∧ (¬ (p_wi x2 0 2) → Q (xI (-2)) w1))) ∧ (¬ (p_lt x1 (w1 2 5)) → Q (xI (-1)) w1)))) : xWp (d + 1) m_Md_as 0 [xA 7 2, xI x1, xI x2] [] w Q := by
  refine x_goN 2 (pc' := 2) (ls' := [xA 7 2, xI x1, xI x2]) (st' := [xI 0, xA 7 2]) (w' := w) rfl ?_
  refine x_goW (pc' := 5) (ls' := [xA 7 2, xI x1, xI x2]) (st' := []) (w' := x_set w 2 0 0) rfl (fun w1 ew1 => ?_)
  refine x_goN 2 (pc' := 7) (ls' := [xA 7 2, xI x1, xI x2]) (st' := [xI x1, xA 7 2]) (w' := w1) rfl ?_
  refine x_call (y := m_Md_isLine) (as := [xA 7 2, xI x1]) (rst := []) rfl [xA 7 2, xI x1] rfl ?_
  refine S_Md_isLine (fun c1 => ?_) (fun c1 => ?_)
  · skip
    refine x_goN 1 (pc' := if (1 : Int32) = (0 : Int32) then 13 else 15) (ls' := [xA 7 2, xI x1, xI x2]) (st' := []) (w' := w1) rfl ?_
    refine x_brF (by decide) ?_
    refine x_goN 3 (pc' := 18) (ls' := [xA 7 2, xI x1, xI x2]) (st' := [xI 2, xI 0, xI x2]) (w' := w1) rfl ?_
    refine x_call (y := m_Md_within) (as := [xI x2, xI 0, xI 2]) (rst := []) rfl [xI x2, xI 0, xI 2] rfl ?_
    refine S_Md_within (fun c2 => ?_) (fun c2 => ?_)
    · skip
      refine x_goN 1 (pc' := if (1 : Int32) = (0 : Int32) then 24 else 27) (ls' := [xA 7 2, xI x1, xI x2]) (st' := []) (w' := w1) rfl ?_
      refine x_brF (by decide) ?_
      refine x_goN 3 (pc' := 32) (ls' := [xA 7 2, xI x1, xI x2]) (st' := [xI x1, xA 108 71]) (w' := w1) rfl ?_
      refine x_ob (P := vp_in x1 8) (pc' := 33) (ls' := [xA 7 2, xI x1, xI x2]) (st' := [xI (w1 71 x1.toNatClampNeg)]) (w' := w1) rfl (((h w1 ew1).1 c1).1 c2).1 ?_
      refine x_goN 2 (pc' := if w1 71 x1.toNatClampNeg < x2 then 41 else 37) (ls' := [xA 7 2, xI x1, xI x2]) (st' := []) (w' := w1) rfl ?_
      refine x_br (fun c3 => ?_) (fun c3 => ?_)
      · skip
        refine x_goN 2 (pc' := 43) (ls' := [xA 7 2, xI x1, xI x2]) (st' := [xI 2, xA 7 2]) (w' := w1) rfl ?_
        refine x_call (y := m_Md_fails) (as := [xA 7 2, xI 2]) (rst := []) rfl [xA 7 2, xI 2] rfl ?_
        refine S_Md_fails (fun w2 ew2 => ?_)
        exact x_ret (P := True) rfl trivial (((((h w1 ew1).1 c1).1 c2).2.1 c3) w2 ew2)
      · skip
        refine x_goN 2 (pc' := 46) (ls' := [xA 7 2, xI x1, xI x2]) (st' := [xI 1]) (w' := w1) rfl ?_
        exact x_ret (P := True) rfl trivial ((((h w1 ew1).1 c1).1 c2).2.2 c3)
    · skip
      refine x_goN 1 (pc' := if (0 : Int32) = (0 : Int32) then 24 else 27) (ls' := [xA 7 2, xI x1, xI x2]) (st' := []) (w' := w1) rfl ?_
      refine x_brT (by decide) ?_
      refine x_goN 1 (pc' := 26) (ls' := [xA 7 2, xI x1, xI x2]) (st' := [xI (-2)]) (w' := w1) rfl ?_
      exact x_ret (P := True) rfl trivial (((h w1 ew1).1 c1).2 c2)
  · skip
    refine x_goN 1 (pc' := if (0 : Int32) = (0 : Int32) then 13 else 15) (ls' := [xA 7 2, xI x1, xI x2]) (st' := []) (w' := w1) rfl ?_
    refine x_brT (by decide) ?_
    refine x_goN 1 (pc' := 14) (ls' := [xA 7 2, xI x1, xI x2]) (st' := [xI (-1)]) (w' := w1) rfl ?_
    exact x_ret (P := True) rfl trivial ((h w1 ew1).2 c1)
theorem O_as (s : xS) (x1 x2 : Int32) : oB m_Vp_as [xA 6 1, xI x1, xI x2] m_Md_as [xA 7 2, xI x1, xI x2] s := by
  by_cases hp : pL (s_T s) x1
  · obtain ⟨a, ha, rfl⟩ := hp
    by_cases hr : p_rg x2 0 2
    · by_cases hk : nI (tk (s_T s) a) < x2
      · refine ⟨xI (-12), uF s 2, fun w h => G_Vp_as_0 (fun w1 e1 => ?_), fun w h => G_Md_as_0 (fun w1 e1 => ?_)⟩
        · have h1 : sC (uF s 0) w1 := e1 ▸ sC_uF h
          have f1 : fC w w1 := e1 ▸ fC_1
          have h8 := s_n8 h.1
          refine ⟨fun _ => ⟨fun _ => ⟨z_in (by omega) (by decide), fun _ => fun w2 e2 => ?_, fun c => absurd ?_ c⟩, fun c => absurd hr c⟩, fun c => absurd ((pL_C h1).mpr ⟨a, ha, rfl⟩) c⟩
          · exact cF (sC_f h1 e2).1 (fC_tr f1 (sC_f h1 e2).2)
          · have := tC_k (sC_R h1) ha; rw [show w1 1089 (nI a).toNatClampNeg = _ from this]; exact hk
        · have h1 : sM (uF s 0) w1 := e1 ▸ sM_uF h
          have f1 : fM w w1 := e1 ▸ fM_2
          have h8 := s_n8 h.1
          refine ⟨fun _ => ⟨fun _ => ⟨z_in (by omega) (by decide), fun _ => fun w2 e2 => ?_, fun c => absurd ?_ c⟩, fun c => absurd hr c⟩, fun c => absurd ((pL_M h1).mpr ⟨a, ha, rfl⟩) c⟩
          · exact mF (sM_f h1 e2).1 (fM_tr f1 (sM_f h1 e2).2)
          · have := tM_k (sM_S h1) ha; rw [this]; exact hk
      · refine ⟨xI 1, uF s 0, fun w h => G_Vp_as_0 (fun w1 e1 => ?_), fun w h => G_Md_as_0 (fun w1 e1 => ?_)⟩
        · have h1 : sC (uF s 0) w1 := e1 ▸ sC_uF h
          have f1 : fC w w1 := e1 ▸ fC_1
          have h8 := s_n8 h.1
          refine ⟨fun _ => ⟨fun _ => ⟨z_in (by omega) (by decide), fun c => absurd ?_ hk, fun _ => cF h1 f1⟩, fun c => absurd hr c⟩, fun c => absurd ((pL_C h1).mpr ⟨a, ha, rfl⟩) c⟩
          have := tC_k (sC_R h1) ha; rw [show w1 1089 (nI a).toNatClampNeg = _ from this] at c; exact c
        · have h1 : sM (uF s 0) w1 := e1 ▸ sM_uF h
          have f1 : fM w w1 := e1 ▸ fM_2
          have h8 := s_n8 h.1
          refine ⟨fun _ => ⟨fun _ => ⟨z_in (by omega) (by decide), fun c => absurd ?_ hk, fun _ => mF h1 f1⟩, fun c => absurd hr c⟩, fun c => absurd ((pL_M h1).mpr ⟨a, ha, rfl⟩) c⟩
          have := tM_k (sM_S h1) ha; rw [this] at c; exact c
    · exact ⟨xI (-2), uF s 0, fun w h => G_Vp_as_0 (fun w1 e1 => ⟨fun _ => ⟨fun c => absurd c hr, fun _ => cF (e1 ▸ sC_uF h) (e1 ▸ fC_1)⟩, fun c => absurd ((pL_C (s := uF s 0) (e1 ▸ sC_uF h)).mpr ⟨a, ha, rfl⟩) c⟩), fun w h => G_Md_as_0 (fun w1 e1 => ⟨fun _ => ⟨fun c => absurd c hr, fun _ => mF (e1 ▸ sM_uF h) (e1 ▸ fM_2)⟩, fun c => absurd ((pL_M (s := uF s 0) (e1 ▸ sM_uF h)).mpr ⟨a, ha, rfl⟩) c⟩)⟩
  · exact ⟨xI (-1), uF s 0, fun w h => G_Vp_as_0 (fun w1 e1 => ⟨fun c => absurd ((pL_C (s := uF s 0) (e1 ▸ sC_uF h)).mp c) hp, fun _ => cF (e1 ▸ sC_uF h) (e1 ▸ fC_1)⟩), fun w h => G_Md_as_0 (fun w1 e1 => ⟨fun c => absurd ((pL_M (s := uF s 0) (e1 ▸ sM_uF h)).mp c) hp, fun _ => mF (e1 ▸ sM_uF h) (e1 ▸ fM_2)⟩)⟩
/-! label, tell -/
theorem sC_tr {s : xS} {w w1 : xWd} {v : Int32} (h : sC s w) (e : w1 = x_set w 1 7 (31 * w 1 7 + v)) : sC (uTr s (31 * s_t s + v)) w1 ∧ fC w w1 := by
  rw [h.2.2.2.2.1] at e
  exact ⟨e ▸ sC_uTr h, e ▸ fC_1⟩
theorem sM_tr {s : xS} {w w1 : xWd} {v : Int32} (h : sM s w) (e : w1 = x_set w 2 1 (31 * w 2 1 + v)) : sM (uTr s (31 * s_t s + v)) w1 ∧ fM w w1 := by
  rw [h.2.2.2.2.1] at e
  exact ⟨e ▸ sM_uTr h, e ▸ fM_2⟩
theorem G_Vp_label_0 {d : Nat} {x1 : Int32} {w : xWd} {Q : xMV → xWd → Prop} (h : ((p_lt x1 (w 34 8) → (vp_in x1 8 ∧ ((w 1089 x1.toNatClampNeg = 2 → (∀ w1 : xWd, w1 = x_set w 1 7 (31 * w 1 7 + 5) → Q (xI 90) w1)) ∧ (¬ (w 1089 x1.toNatClampNeg = 2) → (∀ w2 : xWd, w2 = x_set w 1 7 (31 * w 1 7 + 4) → Q (xI x1) w2))))) ∧ (¬ (p_lt x1 (w 34 8)) → Q (xI (-1)) w))) : xWp (d + 1) m_Vp_label 0 [xA 6 1, xI x1] [] w Q := by
  refine x_goN 3 (pc' := 5) (ls' := [xA 6 1, xI x1]) (st' := [xI x1, xA 5 34]) (w' := w) rfl ?_
  refine x_call (y := m_Tr_isLine) (as := [xA 5 34, xI x1]) (rst := []) rfl [xA 5 34, xI x1] rfl ?_
  refine S_Tr_isLine (fun c1 => ?_) (fun c1 => ?_)
  · skip
    refine x_goN 1 (pc' := if (1 : Int32) = (0 : Int32) then 11 else 13) (ls' := [xA 6 1, xI x1]) (st' := []) (w' := w) rfl ?_
    refine x_brF (by decide) ?_
    refine x_goN 4 (pc' := 21) (ls' := [xA 6 1, xI x1]) (st' := [xI x1, xA 108 1089]) (w' := w) rfl ?_
    refine x_ob (P := vp_in x1 8) (pc' := 22) (ls' := [xA 6 1, xI x1]) (st' := [xI (w 1089 x1.toNatClampNeg)]) (w' := w) rfl (h.1 c1).1 ?_
    refine x_goN 2 (pc' := if w 1089 x1.toNatClampNeg = 2 then 26 else 34) (ls' := [xA 6 1, xI x1]) (st' := []) (w' := w) rfl ?_
    refine x_br (fun c2 => ?_) (fun c2 => ?_)
    · skip
      refine x_goN 2 (pc' := 28) (ls' := [xA 6 1, xI x1]) (st' := [xI 5, xA 6 1]) (w' := w) rfl ?_
      refine x_call (y := m_Vp_leaveInTrace) (as := [xA 6 1, xI 5]) (rst := []) rfl [xA 6 1, xI 5] rfl ?_
      refine S_Vp_leaveInTrace (fun w1 ew1 => ?_)
      refine x_goN 1 (pc' := 33) (ls' := [xA 6 1, xI x1]) (st' := [xI 90]) (w' := w1) rfl ?_
      exact x_ret (P := True) rfl trivial (((h.1 c1).2.1 c2) w1 ew1)
    · skip
      refine x_goN 2 (pc' := 36) (ls' := [xA 6 1, xI x1]) (st' := [xI 4, xA 6 1]) (w' := w) rfl ?_
      refine x_call (y := m_Vp_leaveInTrace) (as := [xA 6 1, xI 4]) (rst := []) rfl [xA 6 1, xI 4] rfl ?_
      refine S_Vp_leaveInTrace (fun w2 ew2 => ?_)
      refine x_goN 1 (pc' := 40) (ls' := [xA 6 1, xI x1]) (st' := [xI x1]) (w' := w2) rfl ?_
      exact x_ret (P := True) rfl trivial (((h.1 c1).2.2 c2) w2 ew2)
  · skip
    refine x_goN 1 (pc' := if (0 : Int32) = (0 : Int32) then 11 else 13) (ls' := [xA 6 1, xI x1]) (st' := []) (w' := w) rfl ?_
    refine x_brT (by decide) ?_
    refine x_goN 1 (pc' := 12) (ls' := [xA 6 1, xI x1]) (st' := [xI (-1)]) (w' := w) rfl ?_
    exact x_ret (P := True) rfl trivial (h.2 c1)
theorem G_Md_label_0 {d : Nat} {x1 : Int32} {w : xWd} {Q : xMV → xWd → Prop} (h : ((p_lt x1 (w 2 5) → (vp_in x1 8 ∧ ((w 71 x1.toNatClampNeg = 2 → (∀ w1 : xWd, w1 = x_set w 2 1 (31 * w 2 1 + 5) → (vp_in x1 8 ∧ ((w1 71 x1.toNatClampNeg = 2 → Q (xI 90) w1) ∧ (¬ (w1 71 x1.toNatClampNeg = 2) → Q (xI x1) w1))))) ∧ (¬ (w 71 x1.toNatClampNeg = 2) → (∀ w2 : xWd, w2 = x_set w 2 1 (31 * w 2 1 + 4) → (vp_in x1 8 ∧ ((w2 71 x1.toNatClampNeg = 2 → Q (xI 90) w2) ∧ (¬ (w2 71 x1.toNatClampNeg = 2) → Q (xI x1) w2)))))))) ∧ (¬ (p_lt x1 (w 2 5)) → Q (xI (-1)) w))) : xWp (d + 1) m_Md_label 0 [xA 7 2, xI x1] [] w Q := by
  refine x_goN 2 (pc' := 2) (ls' := [xA 7 2, xI x1]) (st' := [xI x1, xA 7 2]) (w' := w) rfl ?_
  refine x_call (y := m_Md_isLine) (as := [xA 7 2, xI x1]) (rst := []) rfl [xA 7 2, xI x1] rfl ?_
  refine S_Md_isLine (fun c1 => ?_) (fun c1 => ?_)
  · skip
    refine x_goN 1 (pc' := if (1 : Int32) = (0 : Int32) then 8 else 10) (ls' := [xA 7 2, xI x1]) (st' := []) (w' := w) rfl ?_
    refine x_brF (by decide) ?_
    refine x_goN 4 (pc' := 16) (ls' := [xA 7 2, xI x1]) (st' := [xI x1, xA 108 71, xA 7 2]) (w' := w) rfl ?_
    refine x_ob (P := vp_in x1 8) (pc' := 17) (ls' := [xA 7 2, xI x1]) (st' := [xI (w 71 x1.toNatClampNeg), xA 7 2]) (w' := w) rfl (h.1 c1).1 ?_
    refine x_goN 2 (pc' := if w 71 x1.toNatClampNeg = 2 then 21 else 25) (ls' := [xA 7 2, xI x1]) (st' := [xA 7 2]) (w' := w) rfl ?_
    refine x_br (fun c2 => ?_) (fun c2 => ?_)
    · skip
      refine x_goN 2 (pc' := 26) (ls' := [xA 7 2, xI x1]) (st' := [xI 5, xA 7 2]) (w' := w) rfl ?_
      refine x_call (y := m_Md_begins) (as := [xA 7 2, xI 5]) (rst := []) rfl [xA 7 2, xI 5] rfl ?_
      refine S_Md_begins (fun w1 ew1 => ?_)
      refine x_goN 3 (pc' := 34) (ls' := [xA 7 2, xI x1]) (st' := [xI x1, xA 108 71]) (w' := w1) rfl ?_
      refine x_ob (P := vp_in x1 8) (pc' := 35) (ls' := [xA 7 2, xI x1]) (st' := [xI (w1 71 x1.toNatClampNeg)]) (w' := w1) rfl (((h.1 c1).2.1 c2) w1 ew1).1 ?_
      refine x_goN 2 (pc' := if w1 71 x1.toNatClampNeg = 2 then 39 else 44) (ls' := [xA 7 2, xI x1]) (st' := []) (w' := w1) rfl ?_
      refine x_br (fun c3 => ?_) (fun c3 => ?_)
      · skip
        refine x_goN 2 (pc' := 45) (ls' := [xA 7 2, xI x1]) (st' := [xI 90]) (w' := w1) rfl ?_
        exact x_ret (P := True) rfl trivial ((((h.1 c1).2.1 c2) w1 ew1).2.1 c3)
      · skip
        refine x_goN 1 (pc' := 45) (ls' := [xA 7 2, xI x1]) (st' := [xI x1]) (w' := w1) rfl ?_
        exact x_ret (P := True) rfl trivial ((((h.1 c1).2.1 c2) w1 ew1).2.2 c3)
    · skip
      refine x_goN 1 (pc' := 26) (ls' := [xA 7 2, xI x1]) (st' := [xI 4, xA 7 2]) (w' := w) rfl ?_
      refine x_call (y := m_Md_begins) (as := [xA 7 2, xI 4]) (rst := []) rfl [xA 7 2, xI 4] rfl ?_
      refine S_Md_begins (fun w2 ew2 => ?_)
      refine x_goN 3 (pc' := 34) (ls' := [xA 7 2, xI x1]) (st' := [xI x1, xA 108 71]) (w' := w2) rfl ?_
      refine x_ob (P := vp_in x1 8) (pc' := 35) (ls' := [xA 7 2, xI x1]) (st' := [xI (w2 71 x1.toNatClampNeg)]) (w' := w2) rfl (((h.1 c1).2.2 c2) w2 ew2).1 ?_
      refine x_goN 2 (pc' := if w2 71 x1.toNatClampNeg = 2 then 39 else 44) (ls' := [xA 7 2, xI x1]) (st' := []) (w' := w2) rfl ?_
      refine x_br (fun c4 => ?_) (fun c4 => ?_)
      · skip
        refine x_goN 2 (pc' := 45) (ls' := [xA 7 2, xI x1]) (st' := [xI 90]) (w' := w2) rfl ?_
        exact x_ret (P := True) rfl trivial ((((h.1 c1).2.2 c2) w2 ew2).2.1 c4)
      · skip
        refine x_goN 1 (pc' := 45) (ls' := [xA 7 2, xI x1]) (st' := [xI x1]) (w' := w2) rfl ?_
        exact x_ret (P := True) rfl trivial ((((h.1 c1).2.2 c2) w2 ew2).2.2 c4)
  · skip
    refine x_goN 1 (pc' := if (0 : Int32) = (0 : Int32) then 8 else 10) (ls' := [xA 7 2, xI x1]) (st' := []) (w' := w) rfl ?_
    refine x_brT (by decide) ?_
    refine x_goN 1 (pc' := 9) (ls' := [xA 7 2, xI x1]) (st' := [xI (-1)]) (w' := w) rfl ?_
    exact x_ret (P := True) rfl trivial (h.2 c1)
theorem O_label (s : xS) (x : Int32) : oB m_Vp_label [xA 6 1, xI x] m_Md_label [xA 7 2, xI x] s := by
  by_cases hp : pL (s_T s) x
  · obtain ⟨a, ha, rfl⟩ := hp
    by_cases hk : nI (tk (s_T s) a) = 2
    · refine ⟨xI 90, uTr s (31 * s_t s + 5), fun w h => ?_, fun w h => ?_⟩
      · have h8 := s_n8 h.1
        have hk' : w 1089 (nI a).toNatClampNeg = 2 := (tC_k (sC_R h) ha).trans hk
        exact G_Vp_label_0 ⟨fun _ => ⟨z_in (by omega) (by decide), fun _ w1 e1 => cF (sC_tr h e1).1 (sC_tr h e1).2, fun c => absurd hk' c⟩, fun c => absurd (tR_lt (sC_R h) ha) c⟩
      · have h8 := s_n8 h.1
        have hk' : w 71 (nI a).toNatClampNeg = 2 := (tM_k (sM_S h) ha).trans hk
        refine G_Md_label_0 ⟨fun _ => ⟨z_in (by omega) (by decide), fun _ w1 e1 => ⟨z_in (by omega) (by decide), fun _ => mF (sM_tr h e1).1 (sM_tr h e1).2, fun c => absurd ?_ c⟩, fun c => absurd hk' c⟩, fun c => absurd (tS_lt (sM_S h) ha) c⟩
        rw [e1, x_set_o (by decide)]; exact hk'
    · refine ⟨xI (nI a), uTr s (31 * s_t s + 4), fun w h => ?_, fun w h => ?_⟩
      · have h8 := s_n8 h.1
        have hk' : ¬ w 1089 (nI a).toNatClampNeg = 2 := fun c => hk ((tC_k (sC_R h) ha).symm.trans c)
        exact G_Vp_label_0 ⟨fun _ => ⟨z_in (by omega) (by decide), fun c => absurd c hk', fun _ w1 e1 => cF (sC_tr h e1).1 (sC_tr h e1).2⟩, fun c => absurd (tR_lt (sC_R h) ha) c⟩
      · have h8 := s_n8 h.1
        have hk' : ¬ w 71 (nI a).toNatClampNeg = 2 := fun c => hk ((tM_k (sM_S h) ha).symm.trans c)
        refine G_Md_label_0 ⟨fun _ => ⟨z_in (by omega) (by decide), fun c => absurd c hk', fun _ w1 e1 => ⟨z_in (by omega) (by decide), fun c => absurd ?_ hk', fun _ => mF (sM_tr h e1).1 (sM_tr h e1).2⟩⟩, fun c => absurd (tS_lt (sM_S h) ha) c⟩
        rw [e1, x_set_o (by decide)] at c; exact c
  · exact ⟨xI (-1), s, fun w h => G_Vp_label_0 ⟨fun c => absurd ((pL_C h).mp c) hp, fun _ => cE h⟩, fun w h => G_Md_label_0 ⟨fun c => absurd ((pL_M h).mp c) hp, fun _ => mE h⟩⟩
theorem G_Vp_plainTelling_0 {d : Nat} {x1 : Int32} {w : xWd} {Q : xMV → xWd → Prop} (h : (∀ w1 : xWd, w1 = x_set w 1 7 (31 * w 1 7 + 1) → xWp (d + 2) m_Tr_howManyUse 0 [xA 5 34, xI x1] [] w1 (fun a w' => xWp (d + 3) m_Vp_plainTelling 13 [xA 6 1, xI x1] (x_pu a []) w' Q))) : xWp (d + 3) m_Vp_plainTelling 0 [xA 6 1, xI x1] [] w Q := by
  refine x_goN 2 (pc' := 2) (ls' := [xA 6 1, xI x1]) (st' := [xI 1, xA 6 1]) (w' := w) rfl ?_
  refine x_call (y := m_Vp_leaveInTrace) (as := [xA 6 1, xI 1]) (rst := []) rfl [xA 6 1, xI 1] rfl ?_
  refine S_Vp_leaveInTrace (fun w1 ew1 => ?_)
  refine x_goN 3 (pc' := 10) (ls' := [xA 6 1, xI x1]) (st' := [xI x1, xA 5 34]) (w' := w1) rfl ?_
  refine x_call (y := m_Tr_howManyUse) (as := [xA 5 34, xI x1]) (rst := []) rfl [xA 5 34, xI x1] rfl ?_
  exact (h w1 ew1)
theorem G_Vp_plainTelling_13 {d : Nat} {x1 : Int32} {s0 : Int32} {w : xWd} {Q : xMV → xWd → Prop} (h : Q (xI s0) w) : xWp (d + 3) m_Vp_plainTelling 13 [xA 6 1, xI x1] [xI s0] w Q := by
  exact x_ret (P := True) rfl trivial h
theorem G_Vp_bulkyTelling_0 {d : Nat} {x1 : Int32} {w : xWd} {Q : xMV → xWd → Prop} (h : (∀ w1 : xWd, w1 = x_set w 1 7 (31 * w 1 7 + 2) → xWp (d + 3) m_Vp_plainTelling 0 [xA 6 1, xI x1] [] w1 (fun a w' => xWp (d + 4) m_Vp_bulkyTelling 10 [xA 6 1, xI x1] (x_pu a []) w' Q))) : xWp (d + 4) m_Vp_bulkyTelling 0 [xA 6 1, xI x1] [] w Q := by
  refine x_goN 2 (pc' := 2) (ls' := [xA 6 1, xI x1]) (st' := [xI 2, xA 6 1]) (w' := w) rfl ?_
  refine x_call (y := m_Vp_leaveInTrace) (as := [xA 6 1, xI 2]) (rst := []) rfl [xA 6 1, xI 2] rfl ?_
  refine S_Vp_leaveInTrace (fun w1 ew1 => ?_)
  refine x_goN 2 (pc' := 7) (ls' := [xA 6 1, xI x1]) (st' := [xI x1, xA 6 1]) (w' := w1) rfl ?_
  refine x_call (y := m_Vp_plainTelling) (as := [xA 6 1, xI x1]) (rst := []) rfl [xA 6 1, xI x1] rfl ?_
  exact (h w1 ew1)
theorem G_Vp_bulkyTelling_10 {d : Nat} {x1 : Int32} {s0 : Int32} {w : xWd} {Q : xMV → xWd → Prop} (h : Q (xI (s0 + 100)) w) : xWp (d + 4) m_Vp_bulkyTelling 10 [xA 6 1, xI x1] [xI s0] w Q := by
  refine x_goN 2 (pc' := 13) (ls' := [xA 6 1, xI x1]) (st' := [xI (s0 + 100)]) (w' := w) rfl ?_
  exact x_ret (P := True) rfl trivial h
theorem G_Vp_doubleTelling_0 {d : Nat} {x1 : Int32} {w : xWd} {Q : xMV → xWd → Prop} (h : (∀ w1 : xWd, w1 = x_set w 1 7 (31 * w 1 7 + 3) → xWp (d + 4) m_Vp_bulkyTelling 0 [xA 6 1, xI x1] [] w1 (fun a w' => xWp (d + 5) m_Vp_doubleTelling 10 [xA 6 1, xI x1, xU] (x_pu a []) w' Q))) : xWp (d + 5) m_Vp_doubleTelling 0 [xA 6 1, xI x1, xU] [] w Q := by
  refine x_goN 2 (pc' := 2) (ls' := [xA 6 1, xI x1, xU]) (st' := [xI 3, xA 6 1]) (w' := w) rfl ?_
  refine x_call (y := m_Vp_leaveInTrace) (as := [xA 6 1, xI 3]) (rst := []) rfl [xA 6 1, xI 3] rfl ?_
  refine S_Vp_leaveInTrace (fun w1 ew1 => ?_)
  refine x_goN 2 (pc' := 7) (ls' := [xA 6 1, xI x1, xU]) (st' := [xI x1, xA 6 1]) (w' := w1) rfl ?_
  refine x_call (y := m_Vp_bulkyTelling) (as := [xA 6 1, xI x1]) (rst := []) rfl [xA 6 1, xI x1] rfl ?_
  exact (h w1 ew1)
theorem G_Vp_doubleTelling_10 {d : Nat} {x1 : Int32} {s0 : Int32} {w : xWd} {Q : xMV → xWd → Prop} (h : xWp (d + 4) m_Vp_plainTelling 0 [xA 6 1, xI x1] [] w (fun a w' => xWp (d + 5) m_Vp_doubleTelling 17 [xA 6 1, xI x1, xI s0] (x_pu a [xI s0]) w' Q)) : xWp (d + 5) m_Vp_doubleTelling 10 [xA 6 1, xI x1, xU] [xI s0] w Q := by
  refine x_goN 4 (pc' := 14) (ls' := [xA 6 1, xI x1, xI s0]) (st' := [xI x1, xA 6 1, xI s0]) (w' := w) rfl ?_
  refine x_call (y := m_Vp_plainTelling) (as := [xA 6 1, xI x1]) (rst := [xI s0]) rfl [xA 6 1, xI x1] rfl ?_
  exact h
theorem G_Vp_doubleTelling_17 {d : Nat} {x1 : Int32} {x2 : Int32} {s1 : Int32} {s0 : Int32} {w : xWd} {Q : xMV → xWd → Prop} (h : Q (xI (s0 + s1)) w) : xWp (d + 5) m_Vp_doubleTelling 17 [xA 6 1, xI x1, xI x2] [xI s1, xI s0] w Q := by
  refine x_goN 1 (pc' := 18) (ls' := [xA 6 1, xI x1, xI x2]) (st' := [xI (s0 + s1)]) (w' := w) rfl ?_
  exact x_ret (P := True) rfl trivial h
def vTe (s : xS) (a : Nat) : Int32 := nI (z_pc (mUs (s_T s) a))
theorem S_plain {d a : Nat} {s : xS} {w : xWd} {Q : xMV → xWd → Prop} (h : sC s w) (ha : a < 8) (hq : ∀ w', sC (uTr s (31 * s_t s + 1)) w' → fC w w' → Q (xI (vTe s a)) w') : xWp (d + 3) m_Vp_plainTelling 0 [xA 6 1, xI (nI a)] [] w Q :=
  G_Vp_plainTelling_0 (fun w1 e1 => S_Tr_howManyUse (sC_R (sC_tr h e1).1) ha (G_Vp_plainTelling_13 (hq w1 (sC_tr h e1).1 (sC_tr h e1).2)))
theorem S_bulky {d a : Nat} {s : xS} {w : xWd} {Q : xMV → xWd → Prop} (h : sC s w) (ha : a < 8) (hq : ∀ w', sC (uTr s (31 * (31 * s_t s + 2) + 1)) w' → fC w w' → Q (xI (vTe s a + 100)) w') : xWp (d + 4) m_Vp_bulkyTelling 0 [xA 6 1, xI (nI a)] [] w Q :=
  G_Vp_bulkyTelling_0 (fun w1 e1 => S_plain (sC_tr h e1).1 ha (fun w2 h2 f2 => G_Vp_bulkyTelling_10 (hq w2 h2 (fC_tr (sC_tr h e1).2 f2))))
theorem S_double {d a : Nat} {s : xS} {w : xWd} {Q : xMV → xWd → Prop} (h : sC s w) (ha : a < 8) (hq : ∀ w', sC (uTr s (31 * (31 * (31 * (31 * s_t s + 3) + 2) + 1) + 1)) w' → fC w w' → Q (xI (vTe s a + 100 + vTe s a)) w') : xWp (d + 5) m_Vp_doubleTelling 0 [xA 6 1, xI (nI a), xU] [] w Q :=
  G_Vp_doubleTelling_0 (fun w1 e1 => S_bulky (sC_tr h e1).1 ha (fun w2 h2 f2 => G_Vp_doubleTelling_10 (S_plain h2 ha (fun w3 h3 f3 => G_Vp_doubleTelling_17 (hq w3 h3 (fC_tr (fC_tr (sC_tr h e1).2 f2) f3))))))
theorem G_Vp_tell_0 {d : Nat} {x1 : Int32} {w : xWd} {Q : xMV → xWd → Prop} (h : ((p_lt x1 (w 34 8) → (vp_in x1 8 ∧ ((w 1089 x1.toNatClampNeg = 1 → xWp (d + 5) m_Vp_bulkyTelling 0 [xA 6 1, xI x1] [] w (fun a w' => xWp (d + 6) m_Vp_tell 59 [xA 6 1, xI x1] (x_pu a []) w' Q)) ∧ (¬ (w 1089 x1.toNatClampNeg = 1) → ((w 1089 x1.toNatClampNeg = 2 → xWp (d + 5) m_Vp_doubleTelling 0 [xA 6 1, xI x1, xU] [] w (fun a w' => xWp (d + 6) m_Vp_tell 53 [xA 6 1, xI x1] (x_pu a []) w' Q)) ∧ (¬ (w 1089 x1.toNatClampNeg = 2) → xWp (d + 5) m_Vp_plainTelling 0 [xA 6 1, xI x1] [] w (fun a w' => xWp (d + 6) m_Vp_tell 65 [xA 6 1, xI x1] (x_pu a []) w' Q))))))) ∧ (¬ (p_lt x1 (w 34 8)) → Q (xI (-1)) w))) : xWp (d + 6) m_Vp_tell 0 [xA 6 1, xI x1] [] w Q := by
  refine x_goN 3 (pc' := 5) (ls' := [xA 6 1, xI x1]) (st' := [xI x1, xA 5 34]) (w' := w) rfl ?_
  refine x_call (y := m_Tr_isLine) (as := [xA 5 34, xI x1]) (rst := []) rfl [xA 5 34, xI x1] rfl ?_
  refine S_Tr_isLine (fun c1 => ?_) (fun c1 => ?_)
  · skip
    refine x_goN 1 (pc' := if (1 : Int32) = (0 : Int32) then 11 else 13) (ls' := [xA 6 1, xI x1]) (st' := []) (w' := w) rfl ?_
    refine x_brF (by decide) ?_
    refine x_goN 4 (pc' := 21) (ls' := [xA 6 1, xI x1]) (st' := [xI x1, xA 108 1089]) (w' := w) rfl ?_
    refine x_ob (P := vp_in x1 8) (pc' := 22) (ls' := [xA 6 1, xI x1]) (st' := [xI (w 1089 x1.toNatClampNeg)]) (w' := w) rfl (h.1 c1).1 ?_
    refine x_goN 1 (pc' := if w 1089 x1.toNatClampNeg = 1 then 54 else if w 1089 x1.toNatClampNeg = 2 then 48 else 60) (ls' := [xA 6 1, xI x1]) (st' := []) (w' := w) rfl ?_
    refine x_br (fun c2 => ?_) (fun c2 => ?_)
    · skip
      refine x_goN 2 (pc' := 56) (ls' := [xA 6 1, xI x1]) (st' := [xI x1, xA 6 1]) (w' := w) rfl ?_
      refine x_call (y := m_Vp_bulkyTelling) (as := [xA 6 1, xI x1]) (rst := []) rfl [xA 6 1, xI x1] rfl ?_
      exact ((h.1 c1).2.1 c2)
    · skip
      refine x_br (fun c3 => ?_) (fun c3 => ?_)
      · skip
        refine x_goN 2 (pc' := 50) (ls' := [xA 6 1, xI x1]) (st' := [xI x1, xA 6 1]) (w' := w) rfl ?_
        refine x_call (y := m_Vp_doubleTelling) (as := [xA 6 1, xI x1]) (rst := []) rfl [xA 6 1, xI x1, xU] rfl ?_
        exact (((h.1 c1).2.2 c2).1 c3)
      · skip
        refine x_goN 2 (pc' := 62) (ls' := [xA 6 1, xI x1]) (st' := [xI x1, xA 6 1]) (w' := w) rfl ?_
        refine x_call (y := m_Vp_plainTelling) (as := [xA 6 1, xI x1]) (rst := []) rfl [xA 6 1, xI x1] rfl ?_
        exact (((h.1 c1).2.2 c2).2 c3)
  · skip
    refine x_goN 1 (pc' := if (0 : Int32) = (0 : Int32) then 11 else 13) (ls' := [xA 6 1, xI x1]) (st' := []) (w' := w) rfl ?_
    refine x_brT (by decide) ?_
    refine x_goN 1 (pc' := 12) (ls' := [xA 6 1, xI x1]) (st' := [xI (-1)]) (w' := w) rfl ?_
    exact x_ret (P := True) rfl trivial (h.2 c1)
theorem G_Vp_tell_53 {d : Nat} {x1 : Int32} {s0 : Int32} {w : xWd} {Q : xMV → xWd → Prop} (h : Q (xI s0) w) : xWp (d + 6) m_Vp_tell 53 [xA 6 1, xI x1] [xI s0] w Q := by
  exact x_ret (P := True) rfl trivial h
theorem G_Vp_tell_59 {d : Nat} {x1 : Int32} {s0 : Int32} {w : xWd} {Q : xMV → xWd → Prop} (h : Q (xI s0) w) : xWp (d + 6) m_Vp_tell 59 [xA 6 1, xI x1] [xI s0] w Q := by
  exact x_ret (P := True) rfl trivial h
theorem G_Vp_tell_65 {d : Nat} {x1 : Int32} {s0 : Int32} {w : xWd} {Q : xMV → xWd → Prop} (h : Q (xI s0) w) : xWp (d + 6) m_Vp_tell 65 [xA 6 1, xI x1] [xI s0] w Q := by
  exact x_ret (P := True) rfl trivial h
theorem G_Md_tell_0 {d : Nat} {x1 : Int32} {w : xWd} {Q : xMV → xWd → Prop} (h : ((p_lt x1 (w 2 5) → xWp (d + 1) m_Md_usersOf 0 [xA 7 2, xI x1, xU, xU] [] w (fun a w' => xWp (d + 2) m_Md_tell 15 [xA 7 2, xI x1, xU] (x_pu a []) w' Q)) ∧ (¬ (p_lt x1 (w 2 5)) → Q (xI (-1)) w))) : xWp (d + 2) m_Md_tell 0 [xA 7 2, xI x1, xU] [] w Q := by
  refine x_goN 2 (pc' := 2) (ls' := [xA 7 2, xI x1, xU]) (st' := [xI x1, xA 7 2]) (w' := w) rfl ?_
  refine x_call (y := m_Md_isLine) (as := [xA 7 2, xI x1]) (rst := []) rfl [xA 7 2, xI x1] rfl ?_
  refine S_Md_isLine (fun c1 => ?_) (fun c1 => ?_)
  · skip
    refine x_goN 1 (pc' := if (1 : Int32) = (0 : Int32) then 8 else 10) (ls' := [xA 7 2, xI x1, xU]) (st' := []) (w' := w) rfl ?_
    refine x_brF (by decide) ?_
    refine x_goN 2 (pc' := 12) (ls' := [xA 7 2, xI x1, xU]) (st' := [xI x1, xA 7 2]) (w' := w) rfl ?_
    refine x_call (y := m_Md_usersOf) (as := [xA 7 2, xI x1]) (rst := []) rfl [xA 7 2, xI x1, xU, xU] rfl ?_
    exact (h.1 c1)
  · skip
    refine x_goN 1 (pc' := if (0 : Int32) = (0 : Int32) then 8 else 10) (ls' := [xA 7 2, xI x1, xU]) (st' := []) (w' := w) rfl ?_
    refine x_brT (by decide) ?_
    refine x_goN 1 (pc' := 9) (ls' := [xA 7 2, xI x1, xU]) (st' := [xI (-1)]) (w' := w) rfl ?_
    exact x_ret (P := True) rfl trivial (h.2 c1)
theorem G_Md_tell_15 {d : Nat} {x1 : Int32} {s0 : Int32} {w : xWd} {Q : xMV → xWd → Prop} (h : xWp (d + 1) m_Md_size 0 [xI s0, xU, xU] [] w (fun a w' => xWp (d + 2) m_Md_tell 18 [xA 7 2, xI x1, xU] (x_pu a []) w' Q)) : xWp (d + 2) m_Md_tell 15 [xA 7 2, xI x1, xU] [xI s0] w Q := by
  refine x_call (y := m_Md_size) (as := [xI s0]) (rst := []) rfl [xI s0, xU, xU] rfl ?_
  exact h
theorem G_Md_tell_18 {d : Nat} {x1 : Int32} {s0 : Int32} {w : xWd} {Q : xMV → xWd → Prop} (h : (vp_in x1 8 ∧ ((w 71 x1.toNatClampNeg = 1 → (∀ w1 : xWd, w1 = x_set w 2 1 (31 * w 2 1 + 2) → (∀ w2 : xWd, w2 = x_set w1 2 1 (31 * w1 2 1 + 1) → Q (xI (s0 + 100)) w2))) ∧ (¬ (w 71 x1.toNatClampNeg = 1) → ((w 71 x1.toNatClampNeg = 2 → (∀ w3 : xWd, w3 = x_set w 2 1 (31 * w 2 1 + 3) → (∀ w4 : xWd, w4 = x_set w3 2 1 (31 * w3 2 1 + 2) → (∀ w5 : xWd, w5 = x_set w4 2 1 (31 * w4 2 1 + 1) → (∀ w6 : xWd, w6 = x_set w5 2 1 (31 * w5 2 1 + 1) → Q (xI ((2 * s0) + 100)) w6))))) ∧ (¬ (w 71 x1.toNatClampNeg = 2) → (∀ w7 : xWd, w7 = x_set w 2 1 (31 * w 2 1 + 1) → Q (xI s0) w7))))))) : xWp (d + 2) m_Md_tell 18 [xA 7 2, xI x1, xU] [xI s0] w Q := by
  refine x_goN 4 (pc' := 24) (ls' := [xA 7 2, xI x1, xI s0]) (st' := [xI x1, xA 108 71]) (w' := w) rfl ?_
  refine x_ob (P := vp_in x1 8) (pc' := 25) (ls' := [xA 7 2, xI x1, xI s0]) (st' := [xI (w 71 x1.toNatClampNeg)]) (w' := w) rfl h.1 ?_
  refine x_goN 1 (pc' := if w 71 x1.toNatClampNeg = 1 then 52 else if w 71 x1.toNatClampNeg = 2 then 67 else 94) (ls' := [xA 7 2, xI x1, xI s0]) (st' := []) (w' := w) rfl ?_
  refine x_br (fun c1 => ?_) (fun c1 => ?_)
  · skip
    refine x_goN 2 (pc' := 54) (ls' := [xA 7 2, xI x1, xI s0]) (st' := [xI 2, xA 7 2]) (w' := w) rfl ?_
    refine x_call (y := m_Md_begins) (as := [xA 7 2, xI 2]) (rst := []) rfl [xA 7 2, xI 2] rfl ?_
    refine S_Md_begins (fun w1 ew1 => ?_)
    refine x_goN 2 (pc' := 59) (ls' := [xA 7 2, xI x1, xI s0]) (st' := [xI 1, xA 7 2]) (w' := w1) rfl ?_
    refine x_call (y := m_Md_begins) (as := [xA 7 2, xI 1]) (rst := []) rfl [xA 7 2, xI 1] rfl ?_
    refine S_Md_begins (fun w2 ew2 => ?_)
    refine x_goN 3 (pc' := 66) (ls' := [xA 7 2, xI x1, xI s0]) (st' := [xI (s0 + 100)]) (w' := w2) rfl ?_
    exact x_ret (P := True) rfl trivial (((h.2.1 c1) w1 ew1) w2 ew2)
  · skip
    refine x_br (fun c2 => ?_) (fun c2 => ?_)
    · skip
      refine x_goN 2 (pc' := 69) (ls' := [xA 7 2, xI x1, xI s0]) (st' := [xI 3, xA 7 2]) (w' := w) rfl ?_
      refine x_call (y := m_Md_begins) (as := [xA 7 2, xI 3]) (rst := []) rfl [xA 7 2, xI 3] rfl ?_
      refine S_Md_begins (fun w3 ew3 => ?_)
      refine x_goN 2 (pc' := 74) (ls' := [xA 7 2, xI x1, xI s0]) (st' := [xI 2, xA 7 2]) (w' := w3) rfl ?_
      refine x_call (y := m_Md_begins) (as := [xA 7 2, xI 2]) (rst := []) rfl [xA 7 2, xI 2] rfl ?_
      refine S_Md_begins (fun w4 ew4 => ?_)
      refine x_goN 2 (pc' := 79) (ls' := [xA 7 2, xI x1, xI s0]) (st' := [xI 1, xA 7 2]) (w' := w4) rfl ?_
      refine x_call (y := m_Md_begins) (as := [xA 7 2, xI 1]) (rst := []) rfl [xA 7 2, xI 1] rfl ?_
      refine S_Md_begins (fun w5 ew5 => ?_)
      refine x_goN 2 (pc' := 84) (ls' := [xA 7 2, xI x1, xI s0]) (st' := [xI 1, xA 7 2]) (w' := w5) rfl ?_
      refine x_call (y := m_Md_begins) (as := [xA 7 2, xI 1]) (rst := []) rfl [xA 7 2, xI 1] rfl ?_
      refine S_Md_begins (fun w6 ew6 => ?_)
      refine x_goN 5 (pc' := 93) (ls' := [xA 7 2, xI x1, xI s0]) (st' := [xI ((2 * s0) + 100)]) (w' := w6) rfl ?_
      exact x_ret (P := True) rfl trivial ((((((h.2.2 c1).1 c2) w3 ew3) w4 ew4) w5 ew5) w6 ew6)
    · skip
      refine x_goN 2 (pc' := 96) (ls' := [xA 7 2, xI x1, xI s0]) (st' := [xI 1, xA 7 2]) (w' := w) rfl ?_
      refine x_call (y := m_Md_begins) (as := [xA 7 2, xI 1]) (rst := []) rfl [xA 7 2, xI 1] rfl ?_
      refine S_Md_begins (fun w7 ew7 => ?_)
      refine x_goN 1 (pc' := 100) (ls' := [xA 7 2, xI x1, xI s0]) (st' := [xI s0]) (w' := w7) rfl ?_
      exact x_ret (P := True) rfl trivial (((h.2.2 c1).2 c2) w7 ew7)
theorem z_dbl (x : Int32) : 2 * x + 100 = x + 100 + x := by
  rw [show (2 : Int32) * x = x + x from by rw [show (2 : Int32) = 1 + 1 from rfl, Int32.add_mul, Int32.one_mul], Int32.add_assoc, Int32.add_comm x 100, ← Int32.add_assoc]
  rw [Int32.add_comm x 100]
theorem O_tell (s : xS) (x : Int32) : oB m_Vp_tell [xA 6 1, xI x] m_Md_tell [xA 7 2, xI x, xU] s := by
  by_cases hp : pL (s_T s) x
  · obtain ⟨a, ha, rfl⟩ := hp
    by_cases k1 : nI (tk (s_T s) a) = 1
    · refine ⟨xI (vTe s a + 100), uTr s (31 * (31 * s_t s + 2) + 1), fun w h => ?_, fun w h => ?_⟩
      · have h8 := s_n8 h.1
        have hk' : w 1089 (nI a).toNatClampNeg = 1 := (tC_k (sC_R h) ha).trans k1
        exact G_Vp_tell_0 ⟨fun _ => ⟨z_in (by omega) (by decide), fun _ => S_bulky h (by omega) (fun w' h' f' => G_Vp_tell_59 (cF h' f')), fun c => absurd hk' c⟩, fun c => absurd (tR_lt (sC_R h) ha) c⟩
      · have h8 := s_n8 h.1
        have hk' : w 71 (nI a).toNatClampNeg = 1 := (tM_k (sM_S h) ha).trans k1
        refine G_Md_tell_0 ⟨fun _ => S_Md_usersOf (sM_S h) (by omega) (G_Md_tell_15 (S_Md_size (mUs_lt (s_n8 h.1) _) (G_Md_tell_18 ⟨z_in (by omega) (by decide), fun _ w1 e1 w2 e2 => ?_, fun c => absurd hk' c⟩))), fun c => absurd (tS_lt (sM_S h) ha) c⟩
        have g1 := sM_tr h e1
        have g2 := sM_tr g1.1 e2
        exact mF g2.1 (fM_tr g1.2 g2.2)
    · by_cases k2 : nI (tk (s_T s) a) = 2
      · refine ⟨xI (vTe s a + 100 + vTe s a), uTr s (31 * (31 * (31 * (31 * s_t s + 3) + 2) + 1) + 1), fun w h => ?_, fun w h => ?_⟩
        · have h8 := s_n8 h.1
          have hk1 : ¬ w 1089 (nI a).toNatClampNeg = 1 := fun c => k1 ((tC_k (sC_R h) ha).symm.trans c)
          have hk' : w 1089 (nI a).toNatClampNeg = 2 := (tC_k (sC_R h) ha).trans k2
          exact G_Vp_tell_0 ⟨fun _ => ⟨z_in (by omega) (by decide), fun c => absurd c hk1, fun _ => ⟨fun _ => S_double h (by omega) (fun w' h' f' => G_Vp_tell_53 (cF h' f')), fun c => absurd hk' c⟩⟩, fun c => absurd (tR_lt (sC_R h) ha) c⟩
        · have h8 := s_n8 h.1
          have hk1 : ¬ w 71 (nI a).toNatClampNeg = 1 := fun c => k1 ((tM_k (sM_S h) ha).symm.trans c)
          have hk' : w 71 (nI a).toNatClampNeg = 2 := (tM_k (sM_S h) ha).trans k2
          refine G_Md_tell_0 ⟨fun _ => S_Md_usersOf (sM_S h) (by omega) (G_Md_tell_15 (S_Md_size (mUs_lt (s_n8 h.1) _) (G_Md_tell_18 ⟨z_in (by omega) (by decide), fun c => absurd c hk1, fun _ => ⟨fun _ w1 e1 w2 e2 w3 e3 w4 e4 => ?_, fun c => absurd hk' c⟩⟩))), fun c => absurd (tS_lt (sM_S h) ha) c⟩
          have g1 := sM_tr h e1
          have g2 := sM_tr g1.1 e2
          have g3 := sM_tr g2.1 e3
          have g4 := sM_tr g3.1 e4
          exact ⟨congrArg xI (z_dbl _), g4.1, fM_tr (fM_tr (fM_tr g1.2 g2.2) g3.2) g4.2⟩
      · refine ⟨xI (vTe s a), uTr s (31 * s_t s + 1), fun w h => ?_, fun w h => ?_⟩
        · have h8 := s_n8 h.1
          have hk1 : ¬ w 1089 (nI a).toNatClampNeg = 1 := fun c => k1 ((tC_k (sC_R h) ha).symm.trans c)
          have hk2 : ¬ w 1089 (nI a).toNatClampNeg = 2 := fun c => k2 ((tC_k (sC_R h) ha).symm.trans c)
          exact G_Vp_tell_0 ⟨fun _ => ⟨z_in (by omega) (by decide), fun c => absurd c hk1, fun _ => ⟨fun c => absurd c hk2, fun _ => S_plain h (by omega) (fun w' h' f' => G_Vp_tell_65 (cF h' f'))⟩⟩, fun c => absurd (tR_lt (sC_R h) ha) c⟩
        · have h8 := s_n8 h.1
          have hk1 : ¬ w 71 (nI a).toNatClampNeg = 1 := fun c => k1 ((tM_k (sM_S h) ha).symm.trans c)
          have hk2 : ¬ w 71 (nI a).toNatClampNeg = 2 := fun c => k2 ((tM_k (sM_S h) ha).symm.trans c)
          refine G_Md_tell_0 ⟨fun _ => S_Md_usersOf (sM_S h) (by omega) (G_Md_tell_15 (S_Md_size (mUs_lt (s_n8 h.1) _) (G_Md_tell_18 ⟨z_in (by omega) (by decide), fun c => absurd c hk1, fun _ => ⟨fun c => absurd c hk2, fun _ w1 e1 => ?_⟩⟩))), fun c => absurd (tS_lt (sM_S h) ha) c⟩
          exact mF (sM_tr h e1).1 (sM_tr h e1).2
  · exact ⟨xI (-1), s, fun w h => G_Vp_tell_0 ⟨fun c => absurd ((pL_C h).mp c) hp, fun _ => cE h⟩, fun w h => G_Md_tell_0 ⟨fun c => absurd ((pL_M h).mp c) hp, fun _ => mE h⟩⟩
/-! readings -/
theorem sC_rd {s : xS} {w w' : xWd} {n : Nat} {v c : Nat → Nat} (h : sC s w) (hok : n ≤ 8 ∧ ∀ q, q < n → v q < tn (s_T s) ∧ c q ≤ 20) (hf : ∀ a, a ≠ 39 → a ≠ 1249 → a ≠ 1250 → w' a = w a) (hr : cRd (uR s n v c) w') : sC (uR s n v c) w' := by
  obtain ⟨h1, h2, h3, h4, h5, h6⟩ := h
  refine ⟨⟨h1.1, h1.2.1, hok.1, hok.2⟩, fun k hk => cSh_fr (h2 k hk) (hf _ (by omega) (by omega) (by omega)) (hf _ (by omega) (by omega) (by omega)), tC_fr h3 (hf _ (by omega) (by omega) (by omega)) (fun i hi => hf _ (by omega) (by omega) (by omega)), hr, ?_, ?_⟩
  · rw [hf 1 (by omega) (by omega) (by omega)]; exact h5
  · rw [hf 1 (by omega) (by omega) (by omega)]; exact h6
theorem sM_rd {s : xS} {w w' : xWd} {n : Nat} {v c : Nat → Nat} (h : sM s w) (hok : n ≤ 8 ∧ ∀ q, q < n → v q < tn (s_T s) ∧ c q ≤ 20) (hf : ∀ a, a ≠ 2 → a ≠ 92 → a ≠ 93 → w' a = w a) (h2' : ∀ j, j ≠ 26 → w' 2 j = w 2 j) (hr : mRd (uR s n v c) w') : sM (uR s n v c) w' := by
  obtain ⟨h1, h2, h3, h4, h5, h6⟩ := h
  refine ⟨⟨h1.1, h1.2.1, hok.1, hok.2⟩, fun k hk => ?_, ?_, hr, by rw [h2' 1 (by omega)]; exact h5, by rw [h2' 0 (by omega)]; exact h6⟩
  · unfold mSh; rw [hf 67 (by omega) (by omega) (by omega), hf 68 (by omega) (by omega) (by omega), hf 69 (by omega) (by omega) (by omega)]; exact h2 k hk
  · unfold tM; rw [h2' 5 (by omega), hf 71 (by omega) (by omega) (by omega), hf 72 (by omega) (by omega) (by omega), hf 73 (by omega) (by omega) (by omega), hf 74 (by omega) (by omega) (by omega)]; exact h3
end
section
/-! READINGS TAKEN AND GIVEN BACK -/
def uRt (s : xS) (j c : Nat) : xS := uR s (r_n s + 1) (fun q => if q = r_n s then j else r_v s q) (fun q => if q = r_n s then c else r_c s q)
theorem uRt_ok {s : xS} {j c : Nat} (h : sOk s) (hj : j < tn (s_T s)) (hc : c ≤ 20) (hn : r_n s < 8) : r_n s + 1 ≤ 8 ∧ ∀ q, q < r_n s + 1 → (if q = r_n s then j else r_v s q) < tn (s_T s) ∧ (if q = r_n s then c else r_c s q) ≤ 20 := by
  refine ⟨hn, fun q hq => ?_⟩
  by_cases e : q = r_n s
  · rw [if_pos e, if_pos e]; exact ⟨hj, hc⟩
  · rw [if_neg e, if_neg e]; exact h.2.2.2 q (by omega)
theorem G_Rd_take_0 {d : Nat} {x1 : Int32} {x2 : Int32} {w : xWd} {Q : xMV → xWd → Prop} (h : ((8 ≤ w 39 2 → Q xU w) ∧ (¬ (8 ≤ w 39 2) → (vp_in (w 39 2) 8 ∧ ∀ w1 : xWd, w1 = x_set w 1249 ((w 39 2).toNatClampNeg) x1 → (vp_in (w1 39 2) 8 ∧ ∀ w2 : xWd, w2 = x_set w1 1250 ((w1 39 2).toNatClampNeg) x2 → (∀ w3 : xWd, w3 = x_set w2 39 2 ((w2 39 2) + 1) → Q xU w3)))))) : xWp d m_Rd_take 0 [xA 2 39, xI x1, xI x2] [] w Q := by
  refine x_goN 4 (pc' := if 8 ≤ w 39 2 then 39 else 9) (ls' := [xA 2 39, xI x1, xI x2]) (st' := []) (w' := w) rfl ?_
  refine x_br (fun c1 => ?_) (fun c1 => ?_)
  · skip
    exact x_ret (P := True) rfl trivial (h.1 c1)
  · skip
    refine x_goN 5 (pc' := 18) (ls' := [xA 2 39, xI x1, xI x2]) (st' := [xI x1, xI (w 39 2), xA 108 1249]) (w' := w) rfl ?_
    refine x_obW (P := vp_in (w 39 2) 8) (pc' := 19) (ls' := [xA 2 39, xI x1, xI x2]) (st' := []) (w' := x_set w 1249 ((w 39 2).toNatClampNeg) x1) rfl (h.2 c1).1 (fun w1 ew1 => ?_)
    refine x_goN 5 (pc' := 28) (ls' := [xA 2 39, xI x1, xI x2]) (st' := [xI x2, xI (w1 39 2), xA 108 1250]) (w' := w1) rfl ?_
    refine x_obW (P := vp_in (w1 39 2) 8) (pc' := 29) (ls' := [xA 2 39, xI x1, xI x2]) (st' := []) (w' := x_set w1 1250 ((w1 39 2).toNatClampNeg) x2) rfl ((h.2 c1).2 w1 ew1).1 (fun w2 ew2 => ?_)
    refine x_goN 5 (pc' := 36) (ls' := [xA 2 39, xI x1, xI x2]) (st' := [xI ((w2 39 2) + 1), xA 2 39]) (w' := w2) rfl ?_
    refine x_goW (pc' := 39) (ls' := [xA 2 39, xI x1, xI x2]) (st' := []) (w' := x_set w2 39 2 ((w2 39 2) + 1)) rfl (fun w3 ew3 => ?_)
    exact x_ret (P := True) rfl trivial ((((h.2 c1).2 w1 ew1).2 w2 ew2) w3 ew3)
theorem S_Rd_take {d j c : Nat} {s : xS} {w : xWd} {Q : xMV → xWd → Prop} (h : sC s w) (hj : j < tn (s_T s)) (hc : c ≤ 20) (hn : r_n s < 8) (hq : ∀ w', sC (uRt s j c) w' → fC w w' → Q xU w') : xWp d m_Rd_take 0 [xA 2 39, xI (nI j), xI (nI c)] [] w Q := by
  obtain ⟨hr1, hr2⟩ := h.2.2.2.1
  have hc8 : ¬ (8 : Int32) ≤ nI (r_n s) := fun q => by
    have := (z_le (a := 8) (by decide) (by omega)).mp q
    omega
  refine G_Rd_take_0 ?_
  rw [hr1]
  refine ⟨fun q => absurd q hc8, fun _ => ⟨z_in hn (by decide), fun w1 e1 => ?_⟩⟩
  have a1 : w1 39 2 = nI (r_n s) := by rw [e1, x_set_o (by decide)]; exact hr1
  rw [a1]
  refine ⟨z_in hn (by decide), fun w2 e2 => fun w3 e3 => ?_⟩
  have a2 : w2 39 2 = nI (r_n s) := by rw [e2, x_set_o (by decide)]; exact a1
  rw [a2, nI_1] at e3
  rw [z_cl' (by omega)] at e1 e2
  refine hq w3 (sC_rd h (uRt_ok h.1 hj hc hn) (fun a b1 b2 b3 => ?_) ⟨?_, fun q hq => ?_⟩) (fun a ha => ?_)
  · rw [e3, x_set_o b1, e2, x_set_o b3, e1, x_set_o b2]
  · rw [e3, x_set_s, upd_s]; rfl
  · have hq' : q < r_n s + 1 := hq
    show w3 1249 q = nI (if q = r_n s then j else r_v s q) ∧ w3 1250 q = nI (if q = r_n s then c else r_c s q)
    rw [e3, x_set_o (by decide), x_set_o (by decide), e2, x_set_s, x_set_o (by decide), e1, x_set_s, x_set_o (by decide)]
    by_cases e : q = r_n s
    · rw [if_pos e, if_pos e, e, upd_s, upd_s]; exact ⟨rfl, rfl⟩
    · rw [if_neg e, if_neg e, upd_o e, upd_o e]; exact hr2 q (by omega)
  · rw [e3, x_set_o (by omega), e2, x_set_o (by omega), e1, x_set_o (by omega)]
theorem G_Vp_reading_0 {d : Nat} {x1 : Int32} {x2 : Int32} {w : xWd} {Q : xMV → xWd → Prop} (h : ((p_lt x1 (w 34 8) → ((x2 < 0 → Q (xI (-2)) w) ∧ (¬ (x2 < 0) → ((x2 ≤ 20 → ((w 39 2 < 8 → xWp d m_Rd_take 0 [xA 2 39, xI x1, xI x2] [] w (fun a w' => xWp (d + 1) m_Vp_reading 58 [xA 6 1, xI x1, xI x2, xI (w 39 2)] (x_pu a []) w' Q)) ∧ (¬ (w 39 2 < 8) → Q (xI (-4)) w))) ∧ (¬ (x2 ≤ 20) → Q (xI (-2)) w))))) ∧ (¬ (p_lt x1 (w 34 8)) → Q (xI (-1)) w))) : xWp (d + 1) m_Vp_reading 0 [xA 6 1, xI x1, xI x2, xU] [] w Q := by
  refine x_goN 3 (pc' := 5) (ls' := [xA 6 1, xI x1, xI x2, xU]) (st' := [xI x1, xA 5 34]) (w' := w) rfl ?_
  refine x_call (y := m_Tr_isLine) (as := [xA 5 34, xI x1]) (rst := []) rfl [xA 5 34, xI x1] rfl ?_
  refine S_Tr_isLine (fun c1 => ?_) (fun c1 => ?_)
  · skip
    refine x_goN 1 (pc' := if (1 : Int32) = (0 : Int32) then 11 else 13) (ls' := [xA 6 1, xI x1, xI x2, xU]) (st' := []) (w' := w) rfl ?_
    refine x_brF (by decide) ?_
    refine x_goN 2 (pc' := if x2 < 0 then 23 else 17) (ls' := [xA 6 1, xI x1, xI x2, xU]) (st' := []) (w' := w) rfl ?_
    refine x_br (fun c2 => ?_) (fun c2 => ?_)
    · skip
      refine x_goN 1 (pc' := 25) (ls' := [xA 6 1, xI x1, xI x2, xU]) (st' := [xI (-2)]) (w' := w) rfl ?_
      exact x_ret (P := True) rfl trivial ((h.1 c1).1 c2)
    · skip
      refine x_goN 3 (pc' := if x2 ≤ 20 then 26 else 23) (ls' := [xA 6 1, xI x1, xI x2, xU]) (st' := []) (w' := w) rfl ?_
      refine x_br (fun c3 => ?_) (fun c3 => ?_)
      · skip
        refine x_goN 5 (pc' := if w 39 2 < 8 then 41 else 38) (ls' := [xA 6 1, xI x1, xI x2, xU]) (st' := []) (w' := w) rfl ?_
        refine x_br (fun c4 => ?_) (fun c4 => ?_)
        · skip
          refine x_goN 8 (pc' := 55) (ls' := [xA 6 1, xI x1, xI x2, xI (w 39 2)]) (st' := [xI x2, xI x1, xA 2 39]) (w' := w) rfl ?_
          refine x_call (y := m_Rd_take) (as := [xA 2 39, xI x1, xI x2]) (rst := []) rfl [xA 2 39, xI x1, xI x2] rfl ?_
          exact ((((h.1 c1).2 c2).1 c3).1 c4)
        · skip
          refine x_goN 1 (pc' := 40) (ls' := [xA 6 1, xI x1, xI x2, xU]) (st' := [xI (-4)]) (w' := w) rfl ?_
          exact x_ret (P := True) rfl trivial ((((h.1 c1).2 c2).1 c3).2 c4)
      · skip
        refine x_goN 1 (pc' := 25) (ls' := [xA 6 1, xI x1, xI x2, xU]) (st' := [xI (-2)]) (w' := w) rfl ?_
        exact x_ret (P := True) rfl trivial (((h.1 c1).2 c2).2 c3)
  · skip
    refine x_goN 1 (pc' := if (0 : Int32) = (0 : Int32) then 11 else 13) (ls' := [xA 6 1, xI x1, xI x2, xU]) (st' := []) (w' := w) rfl ?_
    refine x_brT (by decide) ?_
    refine x_goN 1 (pc' := 12) (ls' := [xA 6 1, xI x1, xI x2, xU]) (st' := [xI (-1)]) (w' := w) rfl ?_
    exact x_ret (P := True) rfl trivial (h.2 c1)
theorem G_Vp_reading_58 {d : Nat} {x1 : Int32} {x2 : Int32} {x3 : Int32} {w : xWd} {Q : xMV → xWd → Prop} (h : Q (xI x3) w) : xWp (d + 1) m_Vp_reading 58 [xA 6 1, xI x1, xI x2, xI x3] [] w Q := by
  refine x_goN 1 (pc' := 59) (ls' := [xA 6 1, xI x1, xI x2, xI x3]) (st' := [xI x3]) (w' := w) rfl ?_
  exact x_ret (P := True) rfl trivial h
theorem G_Md_reading_0 {d : Nat} {x1 : Int32} {x2 : Int32} {w : xWd} {Q : xMV → xWd → Prop} (h : ((p_lt x1 (w 2 5) → ((p_wi x2 0 20 → ((w 2 26 = 8 → Q (xI (-4)) w) ∧ (¬ (w 2 26 = 8) → (vp_in (w 2 26) 8 ∧ ∀ w1 : xWd, w1 = x_set w 92 ((w 2 26).toNatClampNeg) x1 → (vp_in (w1 2 26) 8 ∧ ∀ w2 : xWd, w2 = x_set w1 93 ((w1 2 26).toNatClampNeg) x2 → (∀ w3 : xWd, w3 = x_set w2 2 26 ((w2 2 26) + 1) → Q (xI ((w3 2 26) - 1)) w3)))))) ∧ (¬ (p_wi x2 0 20) → Q (xI (-2)) w))) ∧ (¬ (p_lt x1 (w 2 5)) → Q (xI (-1)) w))) : xWp (d + 1) m_Md_reading 0 [xA 7 2, xI x1, xI x2] [] w Q := by
  refine x_goN 2 (pc' := 2) (ls' := [xA 7 2, xI x1, xI x2]) (st' := [xI x1, xA 7 2]) (w' := w) rfl ?_
  refine x_call (y := m_Md_isLine) (as := [xA 7 2, xI x1]) (rst := []) rfl [xA 7 2, xI x1] rfl ?_
  refine S_Md_isLine (fun c1 => ?_) (fun c1 => ?_)
  · skip
    refine x_goN 1 (pc' := if (1 : Int32) = (0 : Int32) then 8 else 10) (ls' := [xA 7 2, xI x1, xI x2]) (st' := []) (w' := w) rfl ?_
    refine x_brF (by decide) ?_
    refine x_goN 3 (pc' := 14) (ls' := [xA 7 2, xI x1, xI x2]) (st' := [xI 20, xI 0, xI x2]) (w' := w) rfl ?_
    refine x_call (y := m_Md_within) (as := [xI x2, xI 0, xI 20]) (rst := []) rfl [xI x2, xI 0, xI 20] rfl ?_
    refine S_Md_within (fun c2 => ?_) (fun c2 => ?_)
    · skip
      refine x_goN 1 (pc' := if (1 : Int32) = (0 : Int32) then 20 else 23) (ls' := [xA 7 2, xI x1, xI x2]) (st' := []) (w' := w) rfl ?_
      refine x_brF (by decide) ?_
      refine x_goN 4 (pc' := if w 2 26 = 8 then 32 else 35) (ls' := [xA 7 2, xI x1, xI x2]) (st' := []) (w' := w) rfl ?_
      refine x_br (fun c3 => ?_) (fun c3 => ?_)
      · skip
        refine x_goN 1 (pc' := 34) (ls' := [xA 7 2, xI x1, xI x2]) (st' := [xI (-4)]) (w' := w) rfl ?_
        exact x_ret (P := True) rfl trivial (((h.1 c1).1 c2).1 c3)
      · skip
        refine x_goN 5 (pc' := 44) (ls' := [xA 7 2, xI x1, xI x2]) (st' := [xI x1, xI (w 2 26), xA 108 92]) (w' := w) rfl ?_
        refine x_obW (P := vp_in (w 2 26) 8) (pc' := 45) (ls' := [xA 7 2, xI x1, xI x2]) (st' := []) (w' := x_set w 92 ((w 2 26).toNatClampNeg) x1) rfl (((h.1 c1).1 c2).2 c3).1 (fun w1 ew1 => ?_)
        refine x_goN 5 (pc' := 54) (ls' := [xA 7 2, xI x1, xI x2]) (st' := [xI x2, xI (w1 2 26), xA 108 93]) (w' := w1) rfl ?_
        refine x_obW (P := vp_in (w1 2 26) 8) (pc' := 55) (ls' := [xA 7 2, xI x1, xI x2]) (st' := []) (w' := x_set w1 93 ((w1 2 26).toNatClampNeg) x2) rfl ((((h.1 c1).1 c2).2 c3).2 w1 ew1).1 (fun w2 ew2 => ?_)
        refine x_goN 5 (pc' := 62) (ls' := [xA 7 2, xI x1, xI x2]) (st' := [xI ((w2 2 26) + 1), xA 7 2]) (w' := w2) rfl ?_
        refine x_goW (pc' := 65) (ls' := [xA 7 2, xI x1, xI x2]) (st' := []) (w' := x_set w2 2 26 ((w2 2 26) + 1)) rfl (fun w3 ew3 => ?_)
        refine x_goN 4 (pc' := 71) (ls' := [xA 7 2, xI x1, xI x2]) (st' := [xI ((w3 2 26) - 1)]) (w' := w3) rfl ?_
        exact x_ret (P := True) rfl trivial ((((((h.1 c1).1 c2).2 c3).2 w1 ew1).2 w2 ew2) w3 ew3)
    · skip
      refine x_goN 1 (pc' := if (0 : Int32) = (0 : Int32) then 20 else 23) (ls' := [xA 7 2, xI x1, xI x2]) (st' := []) (w' := w) rfl ?_
      refine x_brT (by decide) ?_
      refine x_goN 1 (pc' := 22) (ls' := [xA 7 2, xI x1, xI x2]) (st' := [xI (-2)]) (w' := w) rfl ?_
      exact x_ret (P := True) rfl trivial ((h.1 c1).2 c2)
  · skip
    refine x_goN 1 (pc' := if (0 : Int32) = (0 : Int32) then 8 else 10) (ls' := [xA 7 2, xI x1, xI x2]) (st' := []) (w' := w) rfl ?_
    refine x_brT (by decide) ?_
    refine x_goN 1 (pc' := 9) (ls' := [xA 7 2, xI x1, xI x2]) (st' := [xI (-1)]) (w' := w) rfl ?_
    exact x_ret (P := True) rfl trivial (h.2 c1)
theorem z_in20 {x : Int32} (h : p_wi x 0 20) : ∃ c, x = nI c ∧ c ≤ 20 := by
  obtain ⟨j, e, e2, -⟩ := z_of (show 0 ≤ x.toInt from h.1)
  have := h.2
  rw [e_l20] at this
  exact ⟨j, e, by omega⟩
theorem O_reading (s : xS) (x1 x2 : Int32) : oB m_Vp_reading [xA 6 1, xI x1, xI x2, xU] m_Md_reading [xA 7 2, xI x1, xI x2] s := by
  by_cases hp : pL (s_T s) x1
  · by_cases hw : p_wi x2 0 20
    · have g0 : ¬ x2 < 0 := fun c => by rw [fa_lt, e_l0] at c; have := hw.1; rw [e_l0] at this; omega
      have g1 : x2 ≤ 20 := by rw [fa_le]; exact hw.2
      obtain ⟨a, ha, rfl⟩ := hp
      obtain ⟨c, rfl, hc⟩ := z_in20 hw
      by_cases hn : r_n s < 8
      · refine ⟨xI (nI (r_n s)), uRt s a c, fun w h => ?_, fun w h => ?_⟩
        · obtain ⟨hr1, hr2⟩ := h.2.2.2.1
          refine G_Vp_reading_0 ?_
          rw [hr1]
          exact ⟨fun _ => ⟨fun c => absurd c g0, fun _ => ⟨fun _ => ⟨fun _ => S_Rd_take h ha hc hn (fun w' h' f' => G_Vp_reading_58 (cF h' f')), fun c => absurd ((z_lt (b := 8) (by omega) (by decide)).mpr hn) c⟩, fun c => absurd g1 c⟩⟩, fun c => absurd (tR_lt (sC_R h) ha) c⟩
        · obtain ⟨hr1, hr2⟩ := h.2.2.2.1
          refine G_Md_reading_0 ⟨fun _ => ⟨fun _ => ?_, fun c => absurd hw c⟩, fun c => absurd (tS_lt (sM_S h) ha) c⟩
          rw [hr1]
          refine ⟨fun q => absurd ((z_eq (b := 8) (by omega) (by decide)).mp q) (by omega), fun _ => ⟨z_in hn (by decide), fun w1 e1 => ?_⟩⟩
          have a1 : w1 2 26 = nI (r_n s) := by rw [e1, x_set_o (by decide)]; exact hr1
          rw [a1]
          refine ⟨z_in hn (by decide), fun w2 e2 => fun w3 e3 => ?_⟩
          have a2 : w2 2 26 = nI (r_n s) := by rw [e2, x_set_o (by decide)]; exact a1
          rw [a2, nI_1] at e3
          rw [z_cl' (by omega)] at e1 e2
          have a3 : w3 2 26 = nI (r_n s + 1) := by rw [e3, x_set_s, upd_s]
          refine ⟨?_, sM_rd h (uRt_ok h.1 ha hc hn) (fun b b1 b2 b3 => ?_) (fun j hj => ?_) ⟨a3, fun q hq => ?_⟩, fun b b1 b2 => ?_⟩
          · rw [a3, show (1 : Int32) = nI 1 from rfl, pk_sub (by omega)]; rfl
          · rw [e3, x_set_o b1, e2, x_set_o b3, e1, x_set_o b2]
          · rw [e3, x_set_s, upd_o hj, e2, x_set_o (by decide), e1, x_set_o (by decide)]
          · have hq' : q < r_n s + 1 := hq
            show w3 92 q = nI (if q = r_n s then a else r_v s q) ∧ w3 93 q = nI (if q = r_n s then c else r_c s q)
            rw [e3, x_set_o (by decide), x_set_o (by decide), e2, x_set_s, x_set_o (by decide), e1, x_set_s, x_set_o (by decide)]
            by_cases e : q = r_n s
            · rw [if_pos e, if_pos e, e, upd_s, upd_s]; exact ⟨rfl, rfl⟩
            · rw [if_neg e, if_neg e, upd_o e, upd_o e]; exact hr2 q (by omega)
          · rw [e3, x_set_o (by omega), e2, x_set_o (by omega), e1, x_set_o (by omega)]
      · refine ⟨xI (-4), s, fun w h => ?_, fun w h => ?_⟩
        · obtain ⟨hr1, hr2⟩ := h.2.2.2.1
          have hn8 := h.1.2.2.1
          refine G_Vp_reading_0 ?_
          rw [hr1]
          exact ⟨fun _ => ⟨fun c => absurd c g0, fun _ => ⟨fun _ => ⟨fun q => absurd ((z_lt (b := 8) (by omega) (by decide)).mp q) hn, fun _ => cE h⟩, fun c => absurd g1 c⟩⟩, fun c => absurd (tR_lt (sC_R h) ha) c⟩
        · obtain ⟨hr1, hr2⟩ := h.2.2.2.1
          have hn8 := h.1.2.2.1
          refine G_Md_reading_0 ⟨fun _ => ⟨fun _ => ?_, fun c => absurd hw c⟩, fun c => absurd (tS_lt (sM_S h) ha) c⟩
          rw [hr1]
          exact ⟨fun _ => mE h, fun q => absurd ((z_eq (b := 8) (by omega) (by decide)).mpr (by omega)) q⟩
    · refine ⟨xI (-2), s, fun w h => G_Vp_reading_0 ⟨fun _ => ⟨fun _ => cE h, fun c => ⟨fun c2 => absurd ?_ hw, fun _ => cE h⟩⟩, fun c => absurd ((pL_C h).mpr hp) c⟩, fun w h => G_Md_reading_0 ⟨fun _ => ⟨fun c => absurd c hw, fun _ => mE h⟩, fun c => absurd ((pL_M h).mpr hp) c⟩⟩
      rw [fa_lt] at c
      rw [fa_le] at c2
      exact ⟨by omega, c2⟩
  · exact ⟨xI (-1), s, fun w h => G_Vp_reading_0 ⟨fun c => absurd ((pL_C h).mp c) hp, fun _ => cE h⟩, fun w h => G_Md_reading_0 ⟨fun c => absurd ((pL_M h).mp c) hp, fun _ => mE h⟩⟩
theorem G_Rd_keepOnly_0 {d : Nat} {x1 : Int32} {w : xWd} {Q : xMV → xWd → Prop} (h : ((x1 < 0 → Q xU w) ∧ (¬ (x1 < 0) → ((w 39 2 ≤ x1 → Q xU w) ∧ (¬ (w 39 2 ≤ x1) → (∀ w1 : xWd, w1 = x_set w 39 2 x1 → Q xU w1)))))) : xWp d m_Rd_keepOnly 0 [xA 2 39, xI x1] [] w Q := by
  refine x_goN 2 (pc' := if x1 < 0 then 17 else 4) (ls' := [xA 2 39, xI x1]) (st' := []) (w' := w) rfl ?_
  refine x_br (fun c1 => ?_) (fun c1 => ?_)
  · skip
    exact x_ret (P := True) rfl trivial (h.1 c1)
  · skip
    refine x_goN 4 (pc' := if w 39 2 ≤ x1 then 17 else 12) (ls' := [xA 2 39, xI x1]) (st' := []) (w' := w) rfl ?_
    refine x_br (fun c2 => ?_) (fun c2 => ?_)
    · skip
      exact x_ret (P := True) rfl trivial ((h.2 c1).1 c2)
    · skip
      refine x_goN 2 (pc' := 14) (ls' := [xA 2 39, xI x1]) (st' := [xI x1, xA 2 39]) (w' := w) rfl ?_
      refine x_goW (pc' := 17) (ls' := [xA 2 39, xI x1]) (st' := []) (w' := x_set w 39 2 x1) rfl (fun w1 ew1 => ?_)
      exact x_ret (P := True) rfl trivial (((h.2 c1).2 c2) w1 ew1)
def uRk (s : xS) (n : Nat) : xS := uR s n (r_v s) (r_c s)
theorem uRk_ok {s : xS} {n : Nat} (h : sOk s) (hn : n ≤ r_n s) : n ≤ 8 ∧ ∀ q, q < n → r_v s q < tn (s_T s) ∧ r_c s q ≤ 20 := ⟨by have := h.2.2.1; omega, fun q hq => h.2.2.2 q (by omega)⟩
theorem S_Rd_keepOnly {d n : Nat} {s : xS} {w : xWd} {Q : xMV → xWd → Prop} (h : sC s w) (hn : n ≤ r_n s) (hq : ∀ w', sC (uRk s n) w' → fC w w' → Q xU w') : xWp d m_Rd_keepOnly 0 [xA 2 39, xI (nI n)] [] w Q := by
  obtain ⟨hr1, hr2⟩ := h.2.2.2.1
  have h8 := h.1.2.2.1
  refine G_Rd_keepOnly_0 ⟨fun c => absurd c (z_neg (by omega)), fun _ => ?_⟩
  rw [hr1, z_le (by omega) (by omega)]
  refine ⟨fun c => hq w (sC_rd h (uRk_ok h.1 hn) (fun _ _ _ _ => rfl) ⟨by rw [hr1]; exact congrArg nI (show r_n s = n by omega), fun q hq => hr2 q (Nat.lt_of_lt_of_le hq hn)⟩) (fC_rf w), fun c w1 e1 => hq w1 (sC_rd h (uRk_ok h.1 hn) (fun a b1 b2 b3 => by rw [e1, x_set_o b1]) ⟨by rw [e1, x_set_s, upd_s]; rfl, fun q hq => ?_⟩) (e1 ▸ fC_set (by omega))⟩
  rw [e1, x_set_o (by decide), x_set_o (by decide)]
  exact hr2 q (Nat.lt_of_lt_of_le hq hn)
theorem G_Vp_back_0 {d : Nat} {x1 : Int32} {w : xWd} {Q : xMV → xWd → Prop} (h : ((x1 < 0 → Q (xI (-2)) w) ∧ (¬ (x1 < 0) → ((x1 ≤ w 39 2 → xWp d m_Rd_keepOnly 0 [xA 2 39, xI ((w 39 2) - x1)] [] w (fun a w' => xWp (d + 1) m_Vp_back 34 [xA 6 1, xI x1] (x_pu a []) w' Q)) ∧ (¬ (x1 ≤ w 39 2) → Q (xI (-2)) w))))) : xWp (d + 1) m_Vp_back 0 [xA 6 1, xI x1] [] w Q := by
  refine x_goN 2 (pc' := if x1 < 0 then 15 else 4) (ls' := [xA 6 1, xI x1]) (st' := []) (w' := w) rfl ?_
  refine x_br (fun c1 => ?_) (fun c1 => ?_)
  · skip
    refine x_goN 1 (pc' := 17) (ls' := [xA 6 1, xI x1]) (st' := [xI (-2)]) (w' := w) rfl ?_
    exact x_ret (P := True) rfl trivial (h.1 c1)
  · skip
    refine x_goN 5 (pc' := if x1 ≤ w 39 2 then 18 else 15) (ls' := [xA 6 1, xI x1]) (st' := []) (w' := w) rfl ?_
    refine x_br (fun c2 => ?_) (fun c2 => ?_)
    · skip
      refine x_goN 7 (pc' := 31) (ls' := [xA 6 1, xI x1]) (st' := [xI ((w 39 2) - x1), xA 2 39]) (w' := w) rfl ?_
      refine x_call (y := m_Rd_keepOnly) (as := [xA 2 39, xI ((w 39 2) - x1)]) (rst := []) rfl [xA 2 39, xI ((w 39 2) - x1)] rfl ?_
      exact ((h.2 c1).1 c2)
    · skip
      refine x_goN 1 (pc' := 17) (ls' := [xA 6 1, xI x1]) (st' := [xI (-2)]) (w' := w) rfl ?_
      exact x_ret (P := True) rfl trivial ((h.2 c1).2 c2)
theorem G_Vp_back_34 {d : Nat} {x1 : Int32} {w : xWd} {Q : xMV → xWd → Prop} (h : Q (xI (w 39 2)) w) : xWp (d + 1) m_Vp_back 34 [xA 6 1, xI x1] [] w Q := by
  refine x_goN 3 (pc' := 41) (ls' := [xA 6 1, xI x1]) (st' := [xI (w 39 2)]) (w' := w) rfl ?_
  exact x_ret (P := True) rfl trivial h
theorem G_Md_back_0 {d : Nat} {x1 : Int32} {w : xWd} {Q : xMV → xWd → Prop} (h : ((p_wi x1 0 (w 2 26) → (∀ w1 : xWd, w1 = x_set w 2 26 ((w 2 26) - x1) → Q (xI (w1 2 26)) w1)) ∧ (¬ (p_wi x1 0 (w 2 26)) → Q (xI (-2)) w))) : xWp (d + 1) m_Md_back 0 [xA 7 2, xI x1] [] w Q := by
  refine x_goN 4 (pc' := 6) (ls' := [xA 7 2, xI x1]) (st' := [xI (w 2 26), xI 0, xI x1]) (w' := w) rfl ?_
  refine x_call (y := m_Md_within) (as := [xI x1, xI 0, xI (w 2 26)]) (rst := []) rfl [xI x1, xI 0, xI (w 2 26)] rfl ?_
  refine S_Md_within (fun c1 => ?_) (fun c1 => ?_)
  · skip
    refine x_goN 1 (pc' := if (1 : Int32) = (0 : Int32) then 12 else 15) (ls' := [xA 7 2, xI x1]) (st' := []) (w' := w) rfl ?_
    refine x_brF (by decide) ?_
    refine x_goN 5 (pc' := 22) (ls' := [xA 7 2, xI x1]) (st' := [xI ((w 2 26) - x1), xA 7 2]) (w' := w) rfl ?_
    refine x_goW (pc' := 25) (ls' := [xA 7 2, xI x1]) (st' := []) (w' := x_set w 2 26 ((w 2 26) - x1)) rfl (fun w1 ew1 => ?_)
    refine x_goN 2 (pc' := 29) (ls' := [xA 7 2, xI x1]) (st' := [xI (w1 2 26)]) (w' := w1) rfl ?_
    exact x_ret (P := True) rfl trivial ((h.1 c1) w1 ew1)
  · skip
    refine x_goN 1 (pc' := if (0 : Int32) = (0 : Int32) then 12 else 15) (ls' := [xA 7 2, xI x1]) (st' := []) (w' := w) rfl ?_
    refine x_brT (by decide) ?_
    refine x_goN 1 (pc' := 14) (ls' := [xA 7 2, xI x1]) (st' := [xI (-2)]) (w' := w) rfl ?_
    exact x_ret (P := True) rfl trivial (h.2 c1)
theorem O_back (s : xS) (x : Int32) : oB m_Vp_back [xA 6 1, xI x] m_Md_back [xA 7 2, xI x] s := by
  by_cases hw : ∃ b, x = nI b ∧ b ≤ r_n s
  · obtain ⟨b, rfl, hb⟩ := hw
    refine ⟨xI (nI (r_n s - b)), uRk s (r_n s - b), fun w h => ?_, fun w h => ?_⟩
    · obtain ⟨hr1, hr2⟩ := h.2.2.2.1
      have h8 := h.1.2.2.1
      refine G_Vp_back_0 ⟨fun c => absurd c (z_neg (by omega)), fun _ => ?_⟩
      rw [hr1, z_le (by omega) (by omega), pk_sub hb]
      exact ⟨fun _ => S_Rd_keepOnly h (by omega) (fun w' h' f' => G_Vp_back_34 ⟨congrArg xI h'.2.2.2.1.1, h', f'⟩), fun c => absurd hb c⟩
    · obtain ⟨hr1, hr2⟩ := h.2.2.2.1
      have h8 := h.1.2.2.1
      have hwi : p_wi (nI b) 0 (nI (r_n s)) := by
        unfold p_wi
        rw [nI_toInt (by omega), nI_toInt (by omega), e_l0]; omega
      refine G_Md_back_0 ?_
      rw [hr1, pk_sub hb]
      refine ⟨fun _ w1 e1 => ?_, fun c => absurd hwi c⟩
      have a1 : w1 2 26 = nI (r_n s - b) := by rw [e1, x_set_s, upd_s]
      refine ⟨congrArg xI a1, sM_rd h (uRk_ok h.1 (by omega)) (fun a b1 b2 b3 => by rw [e1, x_set_o b1]) (fun j hj => by rw [e1, x_set_s, upd_o hj]) ⟨a1, fun q hq => ?_⟩, e1 ▸ fM_2⟩
      have hq' : q < r_n s - b := hq
      rw [e1, x_set_o (by decide), x_set_o (by decide)]
      exact hr2 q (by omega)
  · refine ⟨xI (-2), s, fun w h => ?_, fun w h => ?_⟩
    · obtain ⟨hr1, hr2⟩ := h.2.2.2.1
      have h8 := h.1.2.2.1
      refine G_Vp_back_0 ⟨fun _ => cE h, fun c => ?_⟩
      rw [hr1]
      refine ⟨fun c2 => absurd ?_ hw, fun _ => cE h⟩
      rw [fa_lt, e_l0] at c
      rw [fa_le, nI_toInt (by omega)] at c2
      obtain ⟨j, e1, e2, -⟩ := z_of (v := x) (by omega)
      exact ⟨j, e1, by omega⟩
    · obtain ⟨hr1, hr2⟩ := h.2.2.2.1
      have h8 := h.1.2.2.1
      refine G_Md_back_0 ?_
      rw [hr1]
      refine ⟨fun c => absurd ?_ hw, fun _ => mE h⟩
      unfold p_wi at c
      rw [nI_toInt (by omega), e_l0] at c
      obtain ⟨j, e1, e2, -⟩ := z_of (v := x) (by omega)
      exact ⟨j, e1, by omega⟩
end
section
/-! SHEETS: lose, cell, put, sheet -/
theorem z_ad {k : Nat} (hk : k < 4) : 32 * 33 + (nI k).toNatClampNeg + 1 = 1057 + k := by
  rw [z_cl' (by omega)]; omega
theorem z_60 {k i : Nat} : (60 : Int32) * nI k + nI i = nI (60 * k + i) := by
  rw [show (60 : Int32) * nI k = nI (60 * k) from pk_mul 60 k, nI_add]
theorem rg3 {x : Int32} : p_rg x 0 3 ↔ ∃ k, k < 4 ∧ x = nI k := by
  unfold p_rg
  constructor
  · rintro ⟨h0, h1⟩
    obtain ⟨j, e1, e2, -⟩ := z_of h0
    exact ⟨j, by omega, e1⟩
  · rintro ⟨k, hk, rfl⟩
    rw [nI_toInt (by omega)]; omega
theorem rg2 {x : Int32} : p_rg x 0 2 ↔ ∃ k, k < 3 ∧ x = nI k := by
  unfold p_rg
  constructor
  · rintro ⟨h0, h1⟩
    obtain ⟨j, e1, e2, -⟩ := z_of h0
    exact ⟨j, by omega, e1⟩
  · rintro ⟨k, hk, rfl⟩
    rw [nI_toInt (by omega)]; omega
theorem uSh_ok {s : xS} {k r n : Nat} {c : Nat → Int32} (h : sOk s) (hr : r ≤ 3) (hn : n ≤ 60) : sOk (uSh s k r n c) := by
  refine ⟨fun j hj => ?_, h.2.1, h.2.2.1, h.2.2.2⟩
  show (if j = k then r else s_r s j) ≤ 3 ∧ (if j = k then n else s_n s j) ≤ 60
  by_cases e : j = k
  · rw [if_pos e, if_pos e]; exact ⟨hr, hn⟩
  · rw [if_neg e, if_neg e]; exact h.1 j hj
theorem sC_uSh {s : xS} {w w' : xWd} {k r n : Nat} {c : Nat → Int32} (h : sC s w) (hk : k < 4) (hr : r ≤ 3) (hn : n ≤ 60) (hf : ∀ a, a ≠ 1057 + k → a ≠ 32 * (1057 + k) + 1 → w' a = w a) (hs : cSh r n c w' k) : sC (uSh s k r n c) w' := by
  obtain ⟨h1, h2, h3, h4, h5, h6⟩ := h
  refine ⟨uSh_ok h1 hr hn, fun j hj => ?_, tC_fr h3 (hf _ (by omega) (by omega)) (fun i hi => hf _ (by omega) (by omega)), ?_, ?_, ?_⟩
  · show cSh (if j = k then r else s_r s j) (if j = k then n else s_n s j) (if j = k then c else s_c s j) w' j
    by_cases e : j = k
    · rw [if_pos e, if_pos e, if_pos e, e]; exact hs
    · rw [if_neg e, if_neg e, if_neg e]; exact cSh_fr (h2 j hj) (hf _ (by omega) (by omega)) (hf _ (by omega) (by omega))
  · unfold cRd; rw [hf 39 (by omega) (by omega), hf 1249 (by omega) (by omega), hf 1250 (by omega) (by omega)]; exact h4
  · rw [hf 1 (by omega) (by omega)]; exact h5
  · rw [hf 1 (by omega) (by omega)]; exact h6
theorem sM_uSh {s : xS} {w w' : xWd} {k r n : Nat} {c : Nat → Int32} (h : sM s w) (hk : k < 4) (hr : r ≤ 3) (hn : n ≤ 60) (hf : ∀ a, a ≠ 67 → a ≠ 68 → a ≠ 69 → w' a = w a) (ho : ∀ j, j < 4 → j ≠ k → w' 67 j = w 67 j ∧ w' 68 j = w 68 j ∧ ∀ i, i < 60 → w' 69 (60 * j + i) = w 69 (60 * j + i)) (hs : mSh r n c w' k) : sM (uSh s k r n c) w' := by
  obtain ⟨h1, h2, h3, h4, h5, h6⟩ := h
  have e2 := hf 2 (by omega) (by omega) (by omega)
  refine ⟨uSh_ok h1 hr hn, fun j hj => ?_, ?_, ?_, by rw [e2]; exact h5, by rw [e2]; exact h6⟩
  · show mSh (if j = k then r else s_r s j) (if j = k then n else s_n s j) (if j = k then c else s_c s j) w' j
    by_cases e : j = k
    · rw [if_pos e, if_pos e, if_pos e, e]; exact hs
    · rw [if_neg e, if_neg e, if_neg e]
      obtain ⟨o1, o2, o3⟩ := ho j hj e
      obtain ⟨m1, m2, m3⟩ := h2 j hj
      refine ⟨by rw [o1]; exact m1, by rw [o1, o2]; exact m2, fun i hi => (o3 i hi).trans (m3 i hi)⟩
  · unfold tM; rw [e2, hf 71 (by omega) (by omega) (by omega), hf 72 (by omega) (by omega) (by omega), hf 73 (by omega) (by omega) (by omega), hf 74 (by omega) (by omega) (by omega)]; exact h3
  · unfold mRd; rw [e2, hf 92 (by omega) (by omega) (by omega), hf 93 (by omega) (by omega) (by omega)]; exact h4
/-! lose -/
theorem G_Sh_loseRow_0 {d : Nat} {a0 : Nat} {w : xWd} {Q : xMV → xWd → Prop} (h : (∀ w1 : xWd, w1 = x_set w a0 1 0 → (∀ w2 : xWd, w2 = x_set w1 a0 3 0 → Q xU w2))) : xWp d m_Sh_loseRow 0 [xA 3 a0] [] w Q := by
  refine x_goN 2 (pc' := 2) (ls' := [xA 3 a0]) (st' := [xI 0, xA 3 a0]) (w' := w) rfl ?_
  refine x_obW (P := (0 : Int32) = 0 ∨ (0 : Int32) = 1) (pc' := 5) (ls' := [xA 3 a0]) (st' := []) (w' := x_set w a0 1 0) rfl (by decide) (fun w1 ew1 => ?_)
  refine x_goN 2 (pc' := 7) (ls' := [xA 3 a0]) (st' := [xI 0, xA 3 a0]) (w' := w1) rfl ?_
  refine x_goW (pc' := 10) (ls' := [xA 3 a0]) (st' := []) (w' := x_set w1 a0 3 0) rfl (fun w2 ew2 => ?_)
  exact x_ret (P := True) rfl trivial ((h w1 ew1) w2 ew2)
def uLo (s : xS) (k : Nat) : xS := uSh s k 0 (s_n s k) (s_c s k)
theorem S_Sh_loseRow {d k : Nat} {s : xS} {w : xWd} {Q : xMV → xWd → Prop} (h : sC s w) (hk : k < 4) (hq : ∀ w', sC (uLo s k) w' → fC w w' → Q xU w') : xWp d m_Sh_loseRow 0 [xA 3 (1057 + k)] [] w Q := by
  refine G_Sh_loseRow_0 (fun w1 e1 w2 e2 => hq w2 (sC_uSh h hk (by omega) (h.1.1 k hk).2 (fun a b1 b2 => by rw [e2, x_set_o b1, e1, x_set_o b1]) ⟨fun _ => ⟨?_, ?_⟩, fun q => absurd q (by omega), fun j hj => ?_⟩) (fun a ha => by rw [e2, x_set_o (by omega), e1, x_set_o (by omega)]))
  · rw [e2, x_set_s, upd_o (by decide), e1, x_set_s, upd_s]
  · rw [e2, x_set_s, upd_s]
  · rw [e2, x_set_o (by omega), e1, x_set_o (by omega)]; exact (h.2.1 k hk).2.2 j hj
theorem G_Vp_lose_0 {d : Nat} {x1 : Int32} {w : xWd} {Q : xMV → xWd → Prop} (h : ((p_rg x1 0 3 → (vp_in x1 4 ∧ ((w (32 * 33 + x1.toNatClampNeg + 1) 1 = 0 → (vp_in x1 4 ∧ xWp d m_Sh_loseRow 0 [xA 3 (32 * 33 + x1.toNatClampNeg + 1)] [] w (fun a w' => xWp (d + 1) m_Vp_lose 36 [xA 6 1, xI x1, xI 0] (x_pu a []) w' Q))) ∧ (¬ (w (32 * 33 + x1.toNatClampNeg + 1) 1 = 0) → (vp_in x1 4 ∧ xWp d m_Sh_loseRow 0 [xA 3 (32 * 33 + x1.toNatClampNeg + 1)] [] w (fun a w' => xWp (d + 1) m_Vp_lose 36 [xA 6 1, xI x1, xI 1] (x_pu a []) w' Q)))))) ∧ (¬ (p_rg x1 0 3) → Q (xI (-1)) w))) : xWp (d + 1) m_Vp_lose 0 [xA 6 1, xI x1, xU] [] w Q := by
  refine x_goN 1 (pc' := 1) (ls' := [xA 6 1, xI x1, xU]) (st' := [xI x1]) (w' := w) rfl ?_
  refine x_call (y := m_Vp_isSheet) (as := [xI x1]) (rst := []) rfl [xI x1] rfl ?_
  refine S_Vp_isSheet (fun c1 => ?_) (fun c1 => ?_)
  · skip
    refine x_goN 1 (pc' := if (1 : Int32) = (0 : Int32) then 7 else 9) (ls' := [xA 6 1, xI x1, xU]) (st' := []) (w' := w) rfl ?_
    refine x_brF (by decide) ?_
    refine x_goN 3 (pc' := 14) (ls' := [xA 6 1, xI x1, xU]) (st' := [xI x1, xA 50 33]) (w' := w) rfl ?_
    refine x_ob (P := vp_in x1 4) (pc' := 15) (ls' := [xA 6 1, xI x1, xU]) (st' := [xA 3 (32 * 33 + x1.toNatClampNeg + 1)]) (w' := w) rfl (h.1 c1).1 ?_
    refine x_goN 2 (pc' := if w (32 * 33 + x1.toNatClampNeg + 1) 1 = 0 then 25 else 21) (ls' := [xA 6 1, xI x1, xU]) (st' := []) (w' := w) rfl ?_
    refine x_br (fun c2 => ?_) (fun c2 => ?_)
    · skip
      refine x_goN 5 (pc' := 32) (ls' := [xA 6 1, xI x1, xI 0]) (st' := [xI x1, xA 50 33]) (w' := w) rfl ?_
      refine x_ob (P := vp_in x1 4) (pc' := 33) (ls' := [xA 6 1, xI x1, xI 0]) (st' := [xA 3 (32 * 33 + x1.toNatClampNeg + 1)]) (w' := w) rfl ((h.1 c1).2.1 c2).1 ?_
      refine x_call (y := m_Sh_loseRow) (as := [xA 3 (32 * 33 + x1.toNatClampNeg + 1)]) (rst := []) rfl [xA 3 (32 * 33 + x1.toNatClampNeg + 1)] rfl ?_
      exact ((h.1 c1).2.1 c2).2
    · skip
      refine x_goN 6 (pc' := 32) (ls' := [xA 6 1, xI x1, xI 1]) (st' := [xI x1, xA 50 33]) (w' := w) rfl ?_
      refine x_ob (P := vp_in x1 4) (pc' := 33) (ls' := [xA 6 1, xI x1, xI 1]) (st' := [xA 3 (32 * 33 + x1.toNatClampNeg + 1)]) (w' := w) rfl ((h.1 c1).2.2 c2).1 ?_
      refine x_call (y := m_Sh_loseRow) (as := [xA 3 (32 * 33 + x1.toNatClampNeg + 1)]) (rst := []) rfl [xA 3 (32 * 33 + x1.toNatClampNeg + 1)] rfl ?_
      exact ((h.1 c1).2.2 c2).2
  · skip
    refine x_goN 1 (pc' := if (0 : Int32) = (0 : Int32) then 7 else 9) (ls' := [xA 6 1, xI x1, xU]) (st' := []) (w' := w) rfl ?_
    refine x_brT (by decide) ?_
    refine x_goN 1 (pc' := 8) (ls' := [xA 6 1, xI x1, xU]) (st' := [xI (-1)]) (w' := w) rfl ?_
    exact x_ret (P := True) rfl trivial (h.2 c1)
theorem G_Vp_lose_36 {d : Nat} {x1 : Int32} {x2 : Int32} {w : xWd} {Q : xMV → xWd → Prop} (h : Q (xI x2) w) : xWp (d + 1) m_Vp_lose 36 [xA 6 1, xI x1, xI x2] [] w Q := by
  refine x_goN 1 (pc' := 37) (ls' := [xA 6 1, xI x1, xI x2]) (st' := [xI x2]) (w' := w) rfl ?_
  exact x_ret (P := True) rfl trivial h
theorem G_Md_lose_0 {d : Nat} {x1 : Int32} {w : xWd} {Q : xMV → xWd → Prop} (h : ((p_rg x1 0 3 → (vp_in x1 4 ∧ ((w 67 x1.toNatClampNeg = (-9) → (vp_in x1 4 ∧ ∀ w1 : xWd, w1 = x_set w 67 x1.toNatClampNeg (-9) → Q (xI 0) w1)) ∧ (¬ (w 67 x1.toNatClampNeg = (-9)) → (vp_in x1 4 ∧ ∀ w2 : xWd, w2 = x_set w 67 x1.toNatClampNeg (-9) → Q (xI 1) w2))))) ∧ (¬ (p_rg x1 0 3) → Q (xI (-1)) w))) : xWp (d + 2) m_Md_lose 0 [xA 7 2, xI x1, xU] [] w Q := by
  refine x_goN 1 (pc' := 1) (ls' := [xA 7 2, xI x1, xU]) (st' := [xI x1]) (w' := w) rfl ?_
  refine x_call (y := m_Md_isSheet) (as := [xI x1]) (rst := []) rfl [xI x1] rfl ?_
  refine S_Md_isSheet (fun c1 => ?_) (fun c1 => ?_)
  · skip
    refine x_goN 1 (pc' := if (1 : Int32) = (0 : Int32) then 7 else 9) (ls' := [xA 7 2, xI x1, xU]) (st' := []) (w' := w) rfl ?_
    refine x_brF (by decide) ?_
    refine x_goN 3 (pc' := 14) (ls' := [xA 7 2, xI x1, xU]) (st' := [xI x1, xA 104 67]) (w' := w) rfl ?_
    refine x_ob (P := vp_in x1 4) (pc' := 15) (ls' := [xA 7 2, xI x1, xU]) (st' := [xI (w 67 x1.toNatClampNeg)]) (w' := w) rfl (h.1 c1).1 ?_
    refine x_goN 2 (pc' := if w 67 x1.toNatClampNeg = (-9) then 20 else 24) (ls' := [xA 7 2, xI x1, xU]) (st' := []) (w' := w) rfl ?_
    refine x_br (fun c2 => ?_) (fun c2 => ?_)
    · skip
      refine x_goN 7 (pc' := 33) (ls' := [xA 7 2, xI x1, xI 0]) (st' := [xI (-9), xI x1, xA 104 67]) (w' := w) rfl ?_
      refine x_obW (P := vp_in x1 4) (pc' := 34) (ls' := [xA 7 2, xI x1, xI 0]) (st' := []) (w' := x_set w 67 x1.toNatClampNeg (-9)) rfl ((h.1 c1).2.1 c2).1 (fun w1 ew1 => ?_)
      refine x_goN 1 (pc' := 35) (ls' := [xA 7 2, xI x1, xI 0]) (st' := [xI 0]) (w' := w1) rfl ?_
      exact x_ret (P := True) rfl trivial (((h.1 c1).2.1 c2).2 w1 ew1)
    · skip
      refine x_goN 6 (pc' := 33) (ls' := [xA 7 2, xI x1, xI 1]) (st' := [xI (-9), xI x1, xA 104 67]) (w' := w) rfl ?_
      refine x_obW (P := vp_in x1 4) (pc' := 34) (ls' := [xA 7 2, xI x1, xI 1]) (st' := []) (w' := x_set w 67 x1.toNatClampNeg (-9)) rfl ((h.1 c1).2.2 c2).1 (fun w2 ew2 => ?_)
      refine x_goN 1 (pc' := 35) (ls' := [xA 7 2, xI x1, xI 1]) (st' := [xI 1]) (w' := w2) rfl ?_
      exact x_ret (P := True) rfl trivial (((h.1 c1).2.2 c2).2 w2 ew2)
  · skip
    refine x_goN 1 (pc' := if (0 : Int32) = (0 : Int32) then 7 else 9) (ls' := [xA 7 2, xI x1, xU]) (st' := []) (w' := w) rfl ?_
    refine x_brT (by decide) ?_
    refine x_goN 1 (pc' := 8) (ls' := [xA 7 2, xI x1, xU]) (st' := [xI (-1)]) (w' := w) rfl ?_
    exact x_ret (P := True) rfl trivial (h.2 c1)
theorem M_lose {k : Nat} {s : xS} {w w1 : xWd} (h : sM s w) (hk : k < 4) (e1 : w1 = x_set w 67 (nI k).toNatClampNeg (-9)) : sM (uLo s k) w1 ∧ fM w w1 := by
  rw [z_cl' (by omega)] at e1
  refine ⟨sM_uSh h hk (by omega) (h.1.1 k hk).2 (fun a b1 b2 b3 => by rw [e1, x_set_o b1]) (fun j hj hne => ⟨by rw [e1, x_set_s, upd_o hne], by rw [e1, x_set_o (by decide)], fun i hi => by rw [e1, x_set_o (by decide)]⟩) ⟨fun _ => by rw [e1, x_set_s, upd_s], fun q => absurd q (by omega), fun j hj => ?_⟩, e1 ▸ fM_set (by omega)⟩
  rw [e1, x_set_o (by decide)]; exact (h.2.1 k hk).2.2 j hj
theorem O_lose (s : xS) (x : Int32) : oB m_Vp_lose [xA 6 1, xI x, xU] m_Md_lose [xA 7 2, xI x, xU] s := by
  by_cases hp : p_rg x 0 3
  · obtain ⟨k, hk, rfl⟩ := rg3.mp hp
    have hin : vp_in (nI k) 4 := z_in hk (by decide)
    by_cases hr : s_r s k = 0
    · refine ⟨xI 0, uLo s k, fun w h => ?_, fun w h => ?_⟩
      · refine G_Vp_lose_0 ?_
        rw [z_ad hk]
        exact ⟨fun _ => ⟨hin, fun _ => ⟨hin, S_Sh_loseRow h hk (fun w' h' f' => G_Vp_lose_36 (cF h' f'))⟩, fun c => absurd ((h.2.1 k hk).1 hr).1 c⟩, fun c => absurd hp c⟩
      · refine G_Md_lose_0 ⟨fun _ => ⟨hin, fun _ => ⟨hin, fun w1 e1 => mF (M_lose h hk e1).1 (M_lose h hk e1).2⟩, fun c => absurd ?_ c⟩, fun c => absurd hp c⟩
        rw [z_cl' (by omega)]; exact (h.2.1 k hk).1 hr
    · refine ⟨xI 1, uLo s k, fun w h => ?_, fun w h => ?_⟩
      · refine G_Vp_lose_0 ?_
        rw [z_ad hk, ((h.2.1 k hk).2.1 (by omega)).1]
        exact ⟨fun _ => ⟨hin, fun c => absurd c n_10, fun _ => ⟨hin, S_Sh_loseRow h hk (fun w' h' f' => G_Vp_lose_36 (cF h' f'))⟩⟩, fun c => absurd hp c⟩
      · refine G_Md_lose_0 ⟨fun _ => ⟨hin, fun c => absurd c ?_, fun _ => ⟨hin, fun w1 e1 => mF (M_lose h hk e1).1 (M_lose h hk e1).2⟩⟩, fun c => absurd hp c⟩
        have := (h.1.1 k hk).1
        rw [z_cl' (by omega), ((h.2.1 k hk).2.1 (by omega)).1]; exact fun q => z_n9 (by omega) q.symm
  · exact ⟨xI (-1), s, fun w h => G_Vp_lose_0 ⟨fun c => absurd c hp, fun _ => cE h⟩, fun w h => G_Md_lose_0 ⟨fun c => absurd c hp, fun _ => mE h⟩⟩
/-! cell -/
theorem G_Sh_read_0 {d : Nat} {a0 : Nat} {x1 : Int32} {w : xWd} {Q : xMV → xWd → Prop} (h : ((p_hc (w a0 3) x1 1 → (vp_in x1 60 ∧ Q (xI (w (32 * a0 + 1) x1.toNatClampNeg)) w)) ∧ (¬ (p_hc (w a0 3) x1 1) → Q (xI 0) w))) : xWp (d + 1) m_Sh_read 0 [xA 3 a0, xI x1] [] w Q := by
  refine x_goN 3 (pc' := 3) (ls' := [xA 3 a0, xI x1]) (st' := [xI 1, xI x1, xA 3 a0]) (w' := w) rfl ?_
  refine x_call (y := m_Sh_hasCells) (as := [xA 3 a0, xI x1, xI 1]) (rst := []) rfl [xA 3 a0, xI x1, xI 1] rfl ?_
  refine S_Sh_hasCells (fun c1 => ?_) (fun c1 => ?_)
  · skip
    refine x_goN 1 (pc' := if (1 : Int32) = (0 : Int32) then 18 else 9) (ls' := [xA 3 a0, xI x1]) (st' := []) (w' := w) rfl ?_
    refine x_brF (by decide) ?_
    refine x_goN 3 (pc' := 14) (ls' := [xA 3 a0, xI x1]) (st' := [xI x1, xA 160 (32 * a0 + 1)]) (w' := w) rfl ?_
    refine x_ob (P := vp_in x1 60) (pc' := 15) (ls' := [xA 3 a0, xI x1]) (st' := [xI (w (32 * a0 + 1) x1.toNatClampNeg)]) (w' := w) rfl (h.1 c1).1 ?_
    refine x_goN 1 (pc' := 19) (ls' := [xA 3 a0, xI x1]) (st' := [xI (w (32 * a0 + 1) x1.toNatClampNeg)]) (w' := w) rfl ?_
    exact x_ret (P := True) rfl trivial (h.1 c1).2
  · skip
    refine x_goN 1 (pc' := if (0 : Int32) = (0 : Int32) then 18 else 9) (ls' := [xA 3 a0, xI x1]) (st' := []) (w' := w) rfl ?_
    refine x_brT (by decide) ?_
    refine x_goN 1 (pc' := 19) (ls' := [xA 3 a0, xI x1]) (st' := [xI 0]) (w' := w) rfl ?_
    exact x_ret (P := True) rfl trivial (h.2 c1)
theorem S_Sh_read {d k r n i : Nat} {c : Nat → Int32} {w : xWd} {Q : xMV → xWd → Prop} (hs : cSh r n c w k) (hr : 0 < r) (hn : n ≤ 60) (hi : i < n) (h : Q (xI (c i)) w) : xWp (d + 1) m_Sh_read 0 [xA 3 (1057 + k), xI (nI i)] [] w Q := by
  refine G_Sh_read_0 ?_
  rw [(hs.2.1 hr).2.2, z_cl' (by omega), hs.2.2 i (by omega)]
  refine ⟨fun _ => ⟨z_in (by omega) (by decide), h⟩, fun c => absurd ((p_hc_iff hn (by decide)).mpr ?_) c⟩
  rw [nI_toInt (by omega), e_l1]; omega
theorem vFa_0 {r n : Nat} {l x : Int32} (h : vFa r n l x 1 = 0) : 0 < r ∧ l = nI (r - 1) ∧ ∃ i, x = nI i ∧ i < n := by
  unfold vFa at h
  by_cases e : r = 0
  · rw [if_pos e] at h; exact absurd h (by decide)
  · rw [if_neg e] at h
    by_cases e2 : l = nI (r - 1)
    · rw [if_pos e2, e_l1, if_neg (by decide)] at h
      by_cases e3 : 0 ≤ x.toInt ∧ 1 + x.toInt ≤ n
      · obtain ⟨i, a, b, -⟩ := z_of e3.1
        exact ⟨by omega, e2, i, a, by omega⟩
      · rw [if_neg e3] at h; exact absurd h (by decide)
    · rw [if_neg e2] at h; exact absurd h (by decide)
theorem vFa_4 (r n : Nat) (l x m : Int32) : vFa r n l x m ≤ 4 := by
  unfold vFa
  split
  · decide
  · split
    · split
      · decide
      · split <;> decide
    · decide
theorem G_Vp_cell_0 {d : Nat} {x1 : Int32} {x2 : Int32} {x3 : Int32} {w : xWd} {Q : xMV → xWd → Prop} (h : (∀ w1 : xWd, w1 = x_set w 1 8 0 → ((p_rg x1 0 3 → ((p_rg x3 0 2 → (vp_in x1 4 ∧ xWp (d + 1) m_Sh_faultOfCells 0 [xA 3 (32 * 33 + x1.toNatClampNeg + 1), xI x3, xI x2, xI 1] [] w1 (fun a w' => xWp (d + 2) m_Vp_cell 36 [xA 6 1, xI x1, xI x2, xI x3] (x_pu a [xA 6 1]) w' Q))) ∧ (¬ (p_rg x3 0 2) → Q (xJ (-9223372036854775808)) w1))) ∧ (¬ (p_rg x1 0 3) → Q (xJ (-9223372036854775808)) w1)))) : xWp (d + 2) m_Vp_cell 0 [xA 6 1, xI x1, xI x2, xI x3] [] w Q := by
  refine x_goN 2 (pc' := 2) (ls' := [xA 6 1, xI x1, xI x2, xI x3]) (st' := [xI 0, xA 6 1]) (w' := w) rfl ?_
  refine x_goW (pc' := 5) (ls' := [xA 6 1, xI x1, xI x2, xI x3]) (st' := []) (w' := x_set w 1 8 0) rfl (fun w1 ew1 => ?_)
  refine x_goN 1 (pc' := 6) (ls' := [xA 6 1, xI x1, xI x2, xI x3]) (st' := [xI x1]) (w' := w1) rfl ?_
  refine x_call (y := m_Vp_isSheet) (as := [xI x1]) (rst := []) rfl [xI x1] rfl ?_
  refine S_Vp_isSheet (fun c1 => ?_) (fun c1 => ?_)
  · skip
    refine x_goN 1 (pc' := if (1 : Int32) = (0 : Int32) then 19 else 12) (ls' := [xA 6 1, xI x1, xI x2, xI x3]) (st' := []) (w' := w1) rfl ?_
    refine x_brF (by decide) ?_
    refine x_goN 1 (pc' := 13) (ls' := [xA 6 1, xI x1, xI x2, xI x3]) (st' := [xI x3]) (w' := w1) rfl ?_
    refine x_call (y := m_Vp_isLane) (as := [xI x3]) (rst := []) rfl [xI x3] rfl ?_
    refine S_Vp_isLane (fun c2 => ?_) (fun c2 => ?_)
    · skip
      refine x_goN 1 (pc' := if (1 : Int32) = (0 : Int32) then 19 else 23) (ls' := [xA 6 1, xI x1, xI x2, xI x3]) (st' := []) (w' := w1) rfl ?_
      refine x_brF (by decide) ?_
      refine x_goN 4 (pc' := 29) (ls' := [xA 6 1, xI x1, xI x2, xI x3]) (st' := [xI x1, xA 50 33, xA 6 1]) (w' := w1) rfl ?_
      refine x_ob (P := vp_in x1 4) (pc' := 30) (ls' := [xA 6 1, xI x1, xI x2, xI x3]) (st' := [xA 3 (32 * 33 + x1.toNatClampNeg + 1), xA 6 1]) (w' := w1) rfl (((h w1 ew1).1 c1).1 c2).1 ?_
      refine x_goN 3 (pc' := 33) (ls' := [xA 6 1, xI x1, xI x2, xI x3]) (st' := [xI 1, xI x2, xI x3, xA 3 (32 * 33 + x1.toNatClampNeg + 1), xA 6 1]) (w' := w1) rfl ?_
      refine x_call (y := m_Sh_faultOfCells) (as := [xA 3 (32 * 33 + x1.toNatClampNeg + 1), xI x3, xI x2, xI 1]) (rst := [xA 6 1]) rfl [xA 3 (32 * 33 + x1.toNatClampNeg + 1), xI x3, xI x2, xI 1] rfl ?_
      exact (((h w1 ew1).1 c1).1 c2).2
    · skip
      refine x_goN 1 (pc' := if (0 : Int32) = (0 : Int32) then 19 else 23) (ls' := [xA 6 1, xI x1, xI x2, xI x3]) (st' := []) (w' := w1) rfl ?_
      refine x_brT (by decide) ?_
      refine x_goN 1 (pc' := 22) (ls' := [xA 6 1, xI x1, xI x2, xI x3]) (st' := [xJ (-9223372036854775808)]) (w' := w1) rfl ?_
      exact x_ret (P := True) rfl trivial (((h w1 ew1).1 c1).2 c2)
  · skip
    refine x_goN 1 (pc' := if (0 : Int32) = (0 : Int32) then 19 else 12) (ls' := [xA 6 1, xI x1, xI x2, xI x3]) (st' := []) (w' := w1) rfl ?_
    refine x_brT (by decide) ?_
    refine x_goN 1 (pc' := 22) (ls' := [xA 6 1, xI x1, xI x2, xI x3]) (st' := [xJ (-9223372036854775808)]) (w' := w1) rfl ?_
    exact x_ret (P := True) rfl trivial ((h w1 ew1).2 c1)
theorem G_Vp_cell_36 {d : Nat} {x1 : Int32} {x2 : Int32} {x3 : Int32} {s1 : Int32} {w : xWd} {Q : xMV → xWd → Prop} (h : (∀ w1 : xWd, w1 = x_set w 1 8 s1 → ((w1 1 8 = 0 → (vp_in x1 4 ∧ xWp (d + 1) m_Sh_read 0 [xA 3 (32 * 33 + x1.toNatClampNeg + 1), xI x2] [] w1 (fun a w' => xWp (d + 2) m_Vp_cell 56 [xA 6 1, xI x1, xI x2, xI x3] (x_pu a []) w' Q))) ∧ (¬ (w1 1 8 = 0) → Q (xJ (-9223372036854775808)) w1)))) : xWp (d + 2) m_Vp_cell 36 [xA 6 1, xI x1, xI x2, xI x3] [xI s1, xA 6 1] w Q := by
  refine x_goW (pc' := 39) (ls' := [xA 6 1, xI x1, xI x2, xI x3]) (st' := []) (w' := x_set w 1 8 s1) rfl (fun w1 ew1 => ?_)
  refine x_goN 3 (pc' := if w1 1 8 = 0 then 46 else 60) (ls' := [xA 6 1, xI x1, xI x2, xI x3]) (st' := []) (w' := w1) rfl ?_
  refine x_br (fun c1 => ?_) (fun c1 => ?_)
  · skip
    refine x_goN 3 (pc' := 51) (ls' := [xA 6 1, xI x1, xI x2, xI x3]) (st' := [xI x1, xA 50 33]) (w' := w1) rfl ?_
    refine x_ob (P := vp_in x1 4) (pc' := 52) (ls' := [xA 6 1, xI x1, xI x2, xI x3]) (st' := [xA 3 (32 * 33 + x1.toNatClampNeg + 1)]) (w' := w1) rfl ((h w1 ew1).1 c1).1 ?_
    refine x_goN 1 (pc' := 53) (ls' := [xA 6 1, xI x1, xI x2, xI x3]) (st' := [xI x2, xA 3 (32 * 33 + x1.toNatClampNeg + 1)]) (w' := w1) rfl ?_
    refine x_call (y := m_Sh_read) (as := [xA 3 (32 * 33 + x1.toNatClampNeg + 1), xI x2]) (rst := []) rfl [xA 3 (32 * 33 + x1.toNatClampNeg + 1), xI x2] rfl ?_
    exact ((h w1 ew1).1 c1).2
  · skip
    refine x_goN 1 (pc' := 63) (ls' := [xA 6 1, xI x1, xI x2, xI x3]) (st' := [xJ (-9223372036854775808)]) (w' := w1) rfl ?_
    exact x_ret (P := True) rfl trivial ((h w1 ew1).2 c1)
theorem G_Vp_cell_56 {d : Nat} {x1 : Int32} {x2 : Int32} {x3 : Int32} {s0 : Int32} {w : xWd} {Q : xMV → xWd → Prop} (h : Q (xJ s0.toInt64) w) : xWp (d + 2) m_Vp_cell 56 [xA 6 1, xI x1, xI x2, xI x3] [xI s0] w Q := by
  refine x_goN 2 (pc' := 63) (ls' := [xA 6 1, xI x1, xI x2, xI x3]) (st' := [xJ s0.toInt64]) (w' := w) rfl ?_
  exact x_ret (P := True) rfl trivial h
theorem G_Md_cell_0 {d : Nat} {x1 : Int32} {x2 : Int32} {x3 : Int32} {w : xWd} {Q : xMV → xWd → Prop} (h : (∀ w1 : xWd, w1 = x_set w 2 0 0 → ((p_rg x1 0 3 → ((p_rg x3 0 2 → (vp_in x1 4 ∧ ((w1 67 x1.toNatClampNeg = (-9) → (vp_in x1 4 ∧ ((w1 67 x1.toNatClampNeg = (-9) → (∀ w2 : xWd, w2 = x_set w1 2 0 1 → Q (xJ (-9223372036854775808)) w2)) ∧ (¬ (w1 67 x1.toNatClampNeg = (-9)) → (vp_in x1 4 ∧ ((p_wi x2 0 ((w1 68 x1.toNatClampNeg) - 1) → (vp_in ((60 * x1) + x2) 240 ∧ Q (xJ ((w1 69 ((60 * x1) + x2).toNatClampNeg).toInt64)) w1)) ∧ (¬ (p_wi x2 0 ((w1 68 x1.toNatClampNeg) - 1)) → (∀ w3 : xWd, w3 = x_set w1 2 0 3 → Q (xJ (-9223372036854775808)) w3)))))))) ∧ (¬ (w1 67 x1.toNatClampNeg = (-9)) → (vp_in x1 4 ∧ ((w1 67 x1.toNatClampNeg = x3 → (vp_in x1 4 ∧ ((w1 67 x1.toNatClampNeg = (-9) → (∀ w4 : xWd, w4 = x_set w1 2 0 1 → Q (xJ (-9223372036854775808)) w4)) ∧ (¬ (w1 67 x1.toNatClampNeg = (-9)) → (vp_in x1 4 ∧ ((p_wi x2 0 ((w1 68 x1.toNatClampNeg) - 1) → (vp_in ((60 * x1) + x2) 240 ∧ Q (xJ ((w1 69 ((60 * x1) + x2).toNatClampNeg).toInt64)) w1)) ∧ (¬ (p_wi x2 0 ((w1 68 x1.toNatClampNeg) - 1)) → (∀ w5 : xWd, w5 = x_set w1 2 0 3 → Q (xJ (-9223372036854775808)) w5)))))))) ∧ (¬ (w1 67 x1.toNatClampNeg = x3) → (∀ w6 : xWd, w6 = x_set w1 2 0 2 → Q (xJ (-9223372036854775808)) w6)))))))) ∧ (¬ (p_rg x3 0 2) → Q (xJ (-9223372036854775808)) w1))) ∧ (¬ (p_rg x1 0 3) → Q (xJ (-9223372036854775808)) w1)))) : xWp (d + 2) m_Md_cell 0 [xA 7 2, xI x1, xI x2, xI x3] [] w Q := by
  refine x_goN 2 (pc' := 2) (ls' := [xA 7 2, xI x1, xI x2, xI x3]) (st' := [xI 0, xA 7 2]) (w' := w) rfl ?_
  refine x_goW (pc' := 5) (ls' := [xA 7 2, xI x1, xI x2, xI x3]) (st' := []) (w' := x_set w 2 0 0) rfl (fun w1 ew1 => ?_)
  refine x_goN 1 (pc' := 6) (ls' := [xA 7 2, xI x1, xI x2, xI x3]) (st' := [xI x1]) (w' := w1) rfl ?_
  refine x_call (y := m_Md_isSheet) (as := [xI x1]) (rst := []) rfl [xI x1] rfl ?_
  refine S_Md_isSheet (fun c1 => ?_) (fun c1 => ?_)
  · skip
    refine x_goN 1 (pc' := if (1 : Int32) = (0 : Int32) then 19 else 12) (ls' := [xA 7 2, xI x1, xI x2, xI x3]) (st' := []) (w' := w1) rfl ?_
    refine x_brF (by decide) ?_
    refine x_goN 1 (pc' := 13) (ls' := [xA 7 2, xI x1, xI x2, xI x3]) (st' := [xI x3]) (w' := w1) rfl ?_
    refine x_call (y := m_Md_isSort) (as := [xI x3]) (rst := []) rfl [xI x3] rfl ?_
    refine S_Md_isSort (fun c2 => ?_) (fun c2 => ?_)
    · skip
      refine x_goN 1 (pc' := if (1 : Int32) = (0 : Int32) then 19 else 23) (ls' := [xA 7 2, xI x1, xI x2, xI x3]) (st' := []) (w' := w1) rfl ?_
      refine x_brF (by decide) ?_
      refine x_goN 3 (pc' := 28) (ls' := [xA 7 2, xI x1, xI x2, xI x3]) (st' := [xI x1, xA 104 67]) (w' := w1) rfl ?_
      refine x_ob (P := vp_in x1 4) (pc' := 29) (ls' := [xA 7 2, xI x1, xI x2, xI x3]) (st' := [xI (w1 67 x1.toNatClampNeg)]) (w' := w1) rfl (((h w1 ew1).1 c1).1 c2).1 ?_
      refine x_goN 2 (pc' := if w1 67 x1.toNatClampNeg = (-9) then 50 else 34) (ls' := [xA 7 2, xI x1, xI x2, xI x3]) (st' := []) (w' := w1) rfl ?_
      refine x_br (fun c3 => ?_) (fun c3 => ?_)
      · skip
        refine x_goN 3 (pc' := 55) (ls' := [xA 7 2, xI x1, xI x2, xI x3]) (st' := [xI x1, xA 104 67]) (w' := w1) rfl ?_
        refine x_ob (P := vp_in x1 4) (pc' := 56) (ls' := [xA 7 2, xI x1, xI x2, xI x3]) (st' := [xI (w1 67 x1.toNatClampNeg)]) (w' := w1) rfl ((((h w1 ew1).1 c1).1 c2).2.1 c3).1 ?_
        refine x_goN 2 (pc' := if w1 67 x1.toNatClampNeg = (-9) then 61 else 67) (ls' := [xA 7 2, xI x1, xI x2, xI x3]) (st' := []) (w' := w1) rfl ?_
        refine x_br (fun c4 => ?_) (fun c4 => ?_)
        · skip
          refine x_goN 2 (pc' := 63) (ls' := [xA 7 2, xI x1, xI x2, xI x3]) (st' := [xI 1, xA 7 2]) (w' := w1) rfl ?_
          refine x_call (y := m_Md_lost) (as := [xA 7 2, xI 1]) (rst := []) rfl [xA 7 2, xI 1] rfl ?_
          refine S_Md_lost (fun w2 ew2 => ?_)
          exact x_ret (P := True) rfl trivial ((((((h w1 ew1).1 c1).1 c2).2.1 c3).2.1 c4) w2 ew2)
        · skip
          refine x_goN 5 (pc' := 74) (ls' := [xA 7 2, xI x1, xI x2, xI x3]) (st' := [xI x1, xA 104 68, xI 0, xI x2]) (w' := w1) rfl ?_
          refine x_ob (P := vp_in x1 4) (pc' := 75) (ls' := [xA 7 2, xI x1, xI x2, xI x3]) (st' := [xI (w1 68 x1.toNatClampNeg), xI 0, xI x2]) (w' := w1) rfl (((((h w1 ew1).1 c1).1 c2).2.1 c3).2.2 c4).1 ?_
          refine x_goN 2 (pc' := 77) (ls' := [xA 7 2, xI x1, xI x2, xI x3]) (st' := [xI ((w1 68 x1.toNatClampNeg) - 1), xI 0, xI x2]) (w' := w1) rfl ?_
          refine x_call (y := m_Md_within) (as := [xI x2, xI 0, xI ((w1 68 x1.toNatClampNeg) - 1)]) (rst := []) rfl [xI x2, xI 0, xI ((w1 68 x1.toNatClampNeg) - 1)] rfl ?_
          refine S_Md_within (fun c5 => ?_) (fun c5 => ?_)
          · skip
            refine x_goN 1 (pc' := if (1 : Int32) = (0 : Int32) then 83 else 89) (ls' := [xA 7 2, xI x1, xI x2, xI x3]) (st' := []) (w' := w1) rfl ?_
            refine x_brF (by decide) ?_
            refine x_goN 7 (pc' := 99) (ls' := [xA 7 2, xI x1, xI x2, xI x3]) (st' := [xI ((60 * x1) + x2), xA 340 69]) (w' := w1) rfl ?_
            refine x_ob (P := vp_in ((60 * x1) + x2) 240) (pc' := 100) (ls' := [xA 7 2, xI x1, xI x2, xI x3]) (st' := [xI (w1 69 ((60 * x1) + x2).toNatClampNeg)]) (w' := w1) rfl ((((((h w1 ew1).1 c1).1 c2).2.1 c3).2.2 c4).2.1 c5).1 ?_
            refine x_goN 1 (pc' := 101) (ls' := [xA 7 2, xI x1, xI x2, xI x3]) (st' := [xJ ((w1 69 ((60 * x1) + x2).toNatClampNeg).toInt64)]) (w' := w1) rfl ?_
            exact x_ret (P := True) rfl trivial ((((((h w1 ew1).1 c1).1 c2).2.1 c3).2.2 c4).2.1 c5).2
          · skip
            refine x_goN 1 (pc' := if (0 : Int32) = (0 : Int32) then 83 else 89) (ls' := [xA 7 2, xI x1, xI x2, xI x3]) (st' := []) (w' := w1) rfl ?_
            refine x_brT (by decide) ?_
            refine x_goN 2 (pc' := 85) (ls' := [xA 7 2, xI x1, xI x2, xI x3]) (st' := [xI 3, xA 7 2]) (w' := w1) rfl ?_
            refine x_call (y := m_Md_lost) (as := [xA 7 2, xI 3]) (rst := []) rfl [xA 7 2, xI 3] rfl ?_
            refine S_Md_lost (fun w3 ew3 => ?_)
            exact x_ret (P := True) rfl trivial (((((((h w1 ew1).1 c1).1 c2).2.1 c3).2.2 c4).2.2 c5) w3 ew3)
      · skip
        refine x_goN 3 (pc' := 39) (ls' := [xA 7 2, xI x1, xI x2, xI x3]) (st' := [xI x1, xA 104 67]) (w' := w1) rfl ?_
        refine x_ob (P := vp_in x1 4) (pc' := 40) (ls' := [xA 7 2, xI x1, xI x2, xI x3]) (st' := [xI (w1 67 x1.toNatClampNeg)]) (w' := w1) rfl ((((h w1 ew1).1 c1).1 c2).2.2 c3).1 ?_
        refine x_goN 2 (pc' := if w1 67 x1.toNatClampNeg = x3 then 50 else 44) (ls' := [xA 7 2, xI x1, xI x2, xI x3]) (st' := []) (w' := w1) rfl ?_
        refine x_br (fun c6 => ?_) (fun c6 => ?_)
        · skip
          refine x_goN 3 (pc' := 55) (ls' := [xA 7 2, xI x1, xI x2, xI x3]) (st' := [xI x1, xA 104 67]) (w' := w1) rfl ?_
          refine x_ob (P := vp_in x1 4) (pc' := 56) (ls' := [xA 7 2, xI x1, xI x2, xI x3]) (st' := [xI (w1 67 x1.toNatClampNeg)]) (w' := w1) rfl (((((h w1 ew1).1 c1).1 c2).2.2 c3).2.1 c6).1 ?_
          refine x_goN 2 (pc' := if w1 67 x1.toNatClampNeg = (-9) then 61 else 67) (ls' := [xA 7 2, xI x1, xI x2, xI x3]) (st' := []) (w' := w1) rfl ?_
          refine x_br (fun c7 => ?_) (fun c7 => ?_)
          · skip
            refine x_goN 2 (pc' := 63) (ls' := [xA 7 2, xI x1, xI x2, xI x3]) (st' := [xI 1, xA 7 2]) (w' := w1) rfl ?_
            refine x_call (y := m_Md_lost) (as := [xA 7 2, xI 1]) (rst := []) rfl [xA 7 2, xI 1] rfl ?_
            refine S_Md_lost (fun w4 ew4 => ?_)
            exact x_ret (P := True) rfl trivial (((((((h w1 ew1).1 c1).1 c2).2.2 c3).2.1 c6).2.1 c7) w4 ew4)
          · skip
            refine x_goN 5 (pc' := 74) (ls' := [xA 7 2, xI x1, xI x2, xI x3]) (st' := [xI x1, xA 104 68, xI 0, xI x2]) (w' := w1) rfl ?_
            refine x_ob (P := vp_in x1 4) (pc' := 75) (ls' := [xA 7 2, xI x1, xI x2, xI x3]) (st' := [xI (w1 68 x1.toNatClampNeg), xI 0, xI x2]) (w' := w1) rfl ((((((h w1 ew1).1 c1).1 c2).2.2 c3).2.1 c6).2.2 c7).1 ?_
            refine x_goN 2 (pc' := 77) (ls' := [xA 7 2, xI x1, xI x2, xI x3]) (st' := [xI ((w1 68 x1.toNatClampNeg) - 1), xI 0, xI x2]) (w' := w1) rfl ?_
            refine x_call (y := m_Md_within) (as := [xI x2, xI 0, xI ((w1 68 x1.toNatClampNeg) - 1)]) (rst := []) rfl [xI x2, xI 0, xI ((w1 68 x1.toNatClampNeg) - 1)] rfl ?_
            refine S_Md_within (fun c8 => ?_) (fun c8 => ?_)
            · skip
              refine x_goN 1 (pc' := if (1 : Int32) = (0 : Int32) then 83 else 89) (ls' := [xA 7 2, xI x1, xI x2, xI x3]) (st' := []) (w' := w1) rfl ?_
              refine x_brF (by decide) ?_
              refine x_goN 7 (pc' := 99) (ls' := [xA 7 2, xI x1, xI x2, xI x3]) (st' := [xI ((60 * x1) + x2), xA 340 69]) (w' := w1) rfl ?_
              refine x_ob (P := vp_in ((60 * x1) + x2) 240) (pc' := 100) (ls' := [xA 7 2, xI x1, xI x2, xI x3]) (st' := [xI (w1 69 ((60 * x1) + x2).toNatClampNeg)]) (w' := w1) rfl (((((((h w1 ew1).1 c1).1 c2).2.2 c3).2.1 c6).2.2 c7).2.1 c8).1 ?_
              refine x_goN 1 (pc' := 101) (ls' := [xA 7 2, xI x1, xI x2, xI x3]) (st' := [xJ ((w1 69 ((60 * x1) + x2).toNatClampNeg).toInt64)]) (w' := w1) rfl ?_
              exact x_ret (P := True) rfl trivial (((((((h w1 ew1).1 c1).1 c2).2.2 c3).2.1 c6).2.2 c7).2.1 c8).2
            · skip
              refine x_goN 1 (pc' := if (0 : Int32) = (0 : Int32) then 83 else 89) (ls' := [xA 7 2, xI x1, xI x2, xI x3]) (st' := []) (w' := w1) rfl ?_
              refine x_brT (by decide) ?_
              refine x_goN 2 (pc' := 85) (ls' := [xA 7 2, xI x1, xI x2, xI x3]) (st' := [xI 3, xA 7 2]) (w' := w1) rfl ?_
              refine x_call (y := m_Md_lost) (as := [xA 7 2, xI 3]) (rst := []) rfl [xA 7 2, xI 3] rfl ?_
              refine S_Md_lost (fun w5 ew5 => ?_)
              exact x_ret (P := True) rfl trivial ((((((((h w1 ew1).1 c1).1 c2).2.2 c3).2.1 c6).2.2 c7).2.2 c8) w5 ew5)
        · skip
          refine x_goN 2 (pc' := 46) (ls' := [xA 7 2, xI x1, xI x2, xI x3]) (st' := [xI 2, xA 7 2]) (w' := w1) rfl ?_
          refine x_call (y := m_Md_lost) (as := [xA 7 2, xI 2]) (rst := []) rfl [xA 7 2, xI 2] rfl ?_
          refine S_Md_lost (fun w6 ew6 => ?_)
          exact x_ret (P := True) rfl trivial ((((((h w1 ew1).1 c1).1 c2).2.2 c3).2.2 c6) w6 ew6)
    · skip
      refine x_goN 1 (pc' := if (0 : Int32) = (0 : Int32) then 19 else 23) (ls' := [xA 7 2, xI x1, xI x2, xI x3]) (st' := []) (w' := w1) rfl ?_
      refine x_brT (by decide) ?_
      refine x_goN 1 (pc' := 22) (ls' := [xA 7 2, xI x1, xI x2, xI x3]) (st' := [xJ (-9223372036854775808)]) (w' := w1) rfl ?_
      exact x_ret (P := True) rfl trivial (((h w1 ew1).1 c1).2 c2)
  · skip
    refine x_goN 1 (pc' := if (0 : Int32) = (0 : Int32) then 19 else 12) (ls' := [xA 7 2, xI x1, xI x2, xI x3]) (st' := []) (w' := w1) rfl ?_
    refine x_brT (by decide) ?_
    refine x_goN 1 (pc' := 22) (ls' := [xA 7 2, xI x1, xI x2, xI x3]) (st' := [xJ (-9223372036854775808)]) (w' := w1) rfl ?_
    exact x_ret (P := True) rfl trivial ((h w1 ew1).2 c1)
theorem O_cell (s : xS) (x1 x2 x3 : Int32) : oB m_Vp_cell [xA 6 1, xI x1, xI x2, xI x3] m_Md_cell [xA 7 2, xI x1, xI x2, xI x3] s := by
  by_cases hp : p_rg x1 0 3
  · by_cases hl : p_rg x3 0 2
    · obtain ⟨k, hk, rfl⟩ := rg3.mp hp
      have hin : vp_in (nI k) 4 := z_in hk (by decide)
      have h4 := vFa_4 (s_r s k) (s_n s k) x3 x2 1
      by_cases hv : vFa (s_r s k) (s_n s k) x3 x2 1 = 0
      · obtain ⟨hr, rfl, i, rfl, hi⟩ := vFa_0 hv
        refine ⟨xJ ((s_c s k i).toInt64), uF s 0, fun w h => ?_, fun w h => ?_⟩
        · have hb := h.1.1 k hk
          refine G_Vp_cell_0 (fun w1 e1 => ?_)
          rw [z_ad hk]
          have g1 := sC_f h e1
          refine ⟨fun _ => ⟨fun _ => ⟨hin, S_Sh_faultOfCells (g1.1.2.1 k hk) hb.1 hb.2 ?_⟩, fun c => absurd hl c⟩, fun c => absurd hp c⟩
          refine G_Vp_cell_36 (fun w2 e2 => ?_)
          have hv' : vFa (s_r (uF s 0) k) (s_n (uF s 0) k) (nI (s_r s k - 1)) (nI i) 1 = 0 := hv
          rw [hv'] at e2
          have g2 := sC_f g1.1 e2
          rw [z_ad hk]
          exact ⟨fun _ => ⟨hin, S_Sh_read (g2.1.2.1 k hk) hr hb.2 hi (G_Vp_cell_56 (cF (s := uF s 0) g2.1 (fC_tr g1.2 g2.2)))⟩, fun c => absurd g2.1.2.2.2.2.2 c⟩
        · have hb := h.1.1 k hk
          refine G_Md_cell_0 (fun w1 e1 => ?_)
          have g1 := sM_f h e1
          obtain ⟨m1, m2, m3⟩ := g1.1.2.1 k hk
          have m2' : w1 67 k = nI (s_r s k - 1) ∧ w1 68 k = nI (s_n s k) := m2 hr
          have m3' : w1 69 (60 * k + i) = s_c s k i := m3 i (by omega)
          have hn9 : ¬ nI (s_r s k - 1) = -9 := fun q => z_n9 (by omega) q.symm
          rw [z_cl' (show k < 2 ^ 31 by omega), m2'.1, m2'.2, z_60, z_cl' (by omega), m3']
          refine ⟨fun _ => ⟨fun _ => ⟨hin, fun c => absurd c hn9, fun _ => ⟨hin, fun _ => ⟨hin, fun c => absurd c hn9, fun _ => ⟨hin, fun _ => ⟨z_in (by omega) (by decide), mF g1.1 g1.2⟩, fun c => absurd ((z_wi (b := 0) (by omega)).mpr ⟨i, rfl, hi⟩) c⟩⟩, fun c => absurd rfl c⟩⟩, fun c => absurd hl c⟩, fun c => absurd hp c⟩
      · refine ⟨xJ (-9223372036854775808), uF s (nI (vFa (s_r s k) (s_n s k) x3 x2 1)), fun w h => ?_, fun w h => ?_⟩
        · have hb := h.1.1 k hk
          refine G_Vp_cell_0 (fun w1 e1 => ?_)
          rw [z_ad hk]
          have g1 := sC_f h e1
          refine ⟨fun _ => ⟨fun _ => ⟨hin, S_Sh_faultOfCells (g1.1.2.1 k hk) hb.1 hb.2 ?_⟩, fun c => absurd hl c⟩, fun c => absurd hp c⟩
          refine G_Vp_cell_36 (fun w2 e2 => ?_)
          have g2 := sC_f g1.1 e2
          refine ⟨fun c => absurd ?_ hv, fun _ => cF g2.1 (fC_tr g1.2 g2.2)⟩
          rw [g2.1.2.2.2.2.2] at c
          exact (z_eq0 (by omega)).mp c
        · have hb := h.1.1 k hk
          refine G_Md_cell_0 (fun w1 e1 => ?_)
          have g1 := sM_f h e1
          obtain ⟨m1, m2, m3⟩ := g1.1.2.1 k hk
          refine ⟨fun _ => ⟨fun _ => ⟨hin, ?_⟩, fun c => absurd hl c⟩, fun c => absurd hp c⟩
          rw [z_cl' (show k < 2 ^ 31 by omega)]
          by_cases hr : s_r s k = 0
          · have m1' : w1 67 k = -9 := m1 hr
            have ev : vFa (s_r s k) (s_n s k) x3 x2 1 = 1 := by unfold vFa; rw [if_pos hr]
            rw [m1', ev]
            refine ⟨fun _ => ⟨hin, fun _ w2 e2 => ?_, fun c => absurd rfl c⟩, fun c => absurd rfl c⟩
            have g2 := sM_f g1.1 e2
            exact mF g2.1 (fM_tr g1.2 g2.2)
          · have m2' : w1 67 k = nI (s_r s k - 1) ∧ w1 68 k = nI (s_n s k) := m2 (by show 0 < s_r s k; omega)
            have hn9 : ¬ nI (s_r s k - 1) = -9 := fun q => z_n9 (by omega) q.symm
            rw [m2'.1, m2'.2]
            refine ⟨fun c => absurd c hn9, fun _ => ⟨hin, fun c2 => ⟨hin, fun c => absurd c hn9, fun _ => ⟨hin, fun c3 => absurd ?_ hv, fun c3 w2 e2 => ?_⟩⟩, fun c2 w2 e2 => ?_⟩⟩
            · obtain ⟨i, rfl, hi⟩ := (z_wi (b := 0) (by omega)).mp c3
              unfold vFa
              rw [if_neg hr, if_pos c2.symm, e_l1, if_neg (by decide), if_pos (by rw [nI_toInt (by omega)]; omega)]
            · have ev : vFa (s_r s k) (s_n s k) x3 x2 1 = 3 := by
                unfold vFa
                rw [if_neg hr, if_pos c2.symm, e_l1, if_neg (by decide), if_neg]
                rintro ⟨q1, q2⟩
                obtain ⟨i, a, b, -⟩ := z_of q1
                exact c3 ((z_wi (b := 0) (by omega)).mpr ⟨i, a, by omega⟩)
              rw [ev]
              have g2 := sM_f g1.1 e2
              exact mF g2.1 (fM_tr g1.2 g2.2)
            · have ev : vFa (s_r s k) (s_n s k) x3 x2 1 = 2 := by
                unfold vFa
                rw [if_neg hr, if_neg (fun q => c2 q.symm)]
              rw [ev]
              have g2 := sM_f g1.1 e2
              exact mF g2.1 (fM_tr g1.2 g2.2)
    · exact ⟨xJ (-9223372036854775808), uF s 0, fun w h => G_Vp_cell_0 (fun w1 e1 => ⟨fun _ => ⟨fun c => absurd c hl, fun _ => cF (sC_f h e1).1 (sC_f h e1).2⟩, fun c => absurd hp c⟩), fun w h => G_Md_cell_0 (fun w1 e1 => ⟨fun _ => ⟨fun c => absurd c hl, fun _ => mF (sM_f h e1).1 (sM_f h e1).2⟩, fun c => absurd hp c⟩)⟩
  · exact ⟨xJ (-9223372036854775808), uF s 0, fun w h => G_Vp_cell_0 (fun w1 e1 => ⟨fun c => absurd c hp, fun _ => cF (sC_f h e1).1 (sC_f h e1).2⟩), fun w h => G_Md_cell_0 (fun w1 e1 => ⟨fun c => absurd c hp, fun _ => mF (sM_f h e1).1 (sM_f h e1).2⟩)⟩
end
section
/-! SHEETS: put, sheet -/
def vCut (r : Nat) (v : Int32) : Int32 := if r = 1 then v.toInt8.toInt32 else if r = 2 then v.toInt16.toInt32 else v
def uPu (s : xS) (k i : Nat) (v : Int32) : xS := uSh s k (s_r s k) (s_n s k) (upd (s_c s k) i (vCut (s_r s k) v))
theorem G_Sh_cutToLane_0 {d : Nat} {a0 : Nat} {x1 : Int32} {w : xWd} {Q : xMV → xWd → Prop} (h : ((w a0 2 = 0 → Q (xI x1.toInt8.toInt32) w) ∧ (¬ (w a0 2 = 0) → ((w a0 2 = 1 → Q (xI x1.toInt16.toInt32) w) ∧ (¬ (w a0 2 = 1) → Q (xI x1) w))))) : xWp d m_Sh_cutToLane 0 [xA 3 a0, xI x1] [] w Q := by
  refine x_goN 3 (pc' := if w a0 2 = 0 then 32 else if w a0 2 = 1 then 35 else 38) (ls' := [xA 3 a0, xI x1]) (st' := []) (w' := w) rfl ?_
  refine x_br (fun c1 => ?_) (fun c1 => ?_)
  · skip
    refine x_goN 2 (pc' := 34) (ls' := [xA 3 a0, xI x1]) (st' := [xI x1.toInt8.toInt32]) (w' := w) rfl ?_
    exact x_ret (P := True) rfl trivial (h.1 c1)
  · skip
    refine x_br (fun c2 => ?_) (fun c2 => ?_)
    · skip
      refine x_goN 2 (pc' := 37) (ls' := [xA 3 a0, xI x1]) (st' := [xI x1.toInt16.toInt32]) (w' := w) rfl ?_
      exact x_ret (P := True) rfl trivial ((h.2 c1).1 c2)
    · skip
      refine x_goN 1 (pc' := 39) (ls' := [xA 3 a0, xI x1]) (st' := [xI x1]) (w' := w) rfl ?_
      exact x_ret (P := True) rfl trivial ((h.2 c1).2 c2)
theorem G_Sh_write_0 {d : Nat} {a0 : Nat} {x1 : Int32} {x2 : Int32} {w : xWd} {Q : xMV → xWd → Prop} (h : ((p_hc (w a0 3) x1 1 → xWp d m_Sh_cutToLane 0 [xA 3 a0, xI x2] [] w (fun a w' => xWp (d + 1) m_Sh_write 19 [xA 3 a0, xI x1, xI x2] (x_pu a [xI x1, xA 160 (32 * a0 + 1)]) w' Q)) ∧ (¬ (p_hc (w a0 3) x1 1) → Q xU w))) : xWp (d + 1) m_Sh_write 0 [xA 3 a0, xI x1, xI x2] [] w Q := by
  refine x_goN 3 (pc' := 3) (ls' := [xA 3 a0, xI x1, xI x2]) (st' := [xI 1, xI x1, xA 3 a0]) (w' := w) rfl ?_
  refine x_call (y := m_Sh_hasCells) (as := [xA 3 a0, xI x1, xI 1]) (rst := []) rfl [xA 3 a0, xI x1, xI 1] rfl ?_
  refine S_Sh_hasCells (fun c1 => ?_) (fun c1 => ?_)
  · skip
    refine x_goN 1 (pc' := if (1 : Int32) = (0 : Int32) then 20 else 9) (ls' := [xA 3 a0, xI x1, xI x2]) (st' := []) (w' := w) rfl ?_
    refine x_brF (by decide) ?_
    refine x_goN 5 (pc' := 16) (ls' := [xA 3 a0, xI x1, xI x2]) (st' := [xI x2, xA 3 a0, xI x1, xA 160 (32 * a0 + 1)]) (w' := w) rfl ?_
    refine x_call (y := m_Sh_cutToLane) (as := [xA 3 a0, xI x2]) (rst := [xI x1, xA 160 (32 * a0 + 1)]) rfl [xA 3 a0, xI x2] rfl ?_
    exact (h.1 c1)
  · skip
    refine x_goN 1 (pc' := if (0 : Int32) = (0 : Int32) then 20 else 9) (ls' := [xA 3 a0, xI x1, xI x2]) (st' := []) (w' := w) rfl ?_
    refine x_brT (by decide) ?_
    exact x_ret (P := True) rfl trivial (h.2 c1)
theorem G_Sh_write_19 {d : Nat} {a0 : Nat} {x1 : Int32} {x2 : Int32} {s2 : Int32} {s1 : Int32} {b0 : Nat} {w : xWd} {Q : xMV → xWd → Prop} (h : (vp_in s1 60 ∧ ∀ w1 : xWd, w1 = x_set w b0 s1.toNatClampNeg s2 → Q xU w1)) : xWp (d + 1) m_Sh_write 19 [xA 3 a0, xI x1, xI x2] [xI s2, xI s1, xA 160 b0] w Q := by
  refine x_obW (P := vp_in s1 60) (pc' := 20) (ls' := [xA 3 a0, xI x1, xI x2]) (st' := []) (w' := x_set w b0 s1.toNatClampNeg s2) rfl h.1 (fun w1 ew1 => ?_)
  exact x_ret (P := True) rfl trivial (h.2 w1 ew1)
theorem S_Sh_write {d k i : Nat} {s : xS} {w : xWd} {Q : xMV → xWd → Prop} {v : Int32} (h : sC s w) (hk : k < 4) (hr : 0 < s_r s k) (hi : i < s_n s k) (hq : ∀ w', sC (uPu s k i v) w' → fC w w' → Q xU w') : xWp (d + 1) m_Sh_write 0 [xA 3 (1057 + k), xI (nI i), xI v] [] w Q := by
  have hb := h.1.1 k hk
  obtain ⟨c1, c2, c3⟩ := h.2.1 k hk
  obtain ⟨g1, g2, g3⟩ := c2 hr
  have key : xWp (d + 1) m_Sh_write 19 [xA 3 (1057 + k), xI (nI i), xI v] [xI (vCut (s_r s k) v), xI (nI i), xA 160 (32 * (1057 + k) + 1)] w Q := by
    refine G_Sh_write_19 ⟨z_in (by omega) (by decide), fun w1 e1 => ?_⟩
    rw [z_cl' (by omega)] at e1
    refine hq w1 (sC_uSh h hk hb.1 hb.2 (fun a b1 b2 => by rw [e1, x_set_o b2]) ⟨fun q => absurd q (by omega), fun _ => ?_, fun j hj => ?_⟩) (e1 ▸ fC_set (by omega))
    · rw [e1, x_set_o (by omega)]; exact c2 hr
    · rw [e1, x_set_s]
      by_cases e : j = i
      · rw [e, upd_s, upd_s]
      · rw [upd_o e, upd_o e]; exact c3 j hj
  refine G_Sh_write_0 ?_
  rw [g3]
  refine ⟨fun _ => G_Sh_cutToLane_0 ?_, fun c => absurd ((p_hc_iff hb.2 (by decide)).mpr (by rw [nI_toInt (by omega), e_l1]; omega)) c⟩
  rw [g2]
  unfold vCut at key
  refine ⟨fun q => ?_, fun q => ⟨fun q2 => ?_, fun q2 => ?_⟩⟩
  · have := (z_eq0 (by omega)).mp q
    rw [if_pos (by omega)] at key; exact key
  · have := (z_eq (b := 1) (by omega) (by decide)).mp q2
    rw [if_neg (by omega), if_pos (by omega)] at key; exact key
  · have n1 : ¬ s_r s k = 1 := fun e => q ((z_eq0 (by omega)).mpr (by omega))
    have n2 : ¬ s_r s k = 2 := fun e => q2 ((z_eq (b := 1) (by omega) (by decide)).mpr (by omega))
    rw [if_neg n1, if_neg n2] at key; exact key
theorem M_put {k i : Nat} {s : xS} {w w1 : xWd} {v x : Int32} (h : sM s w) (hk : k < 4) (hr : 0 < s_r s k) (hi : i < s_n s k) (hv : x = vCut (s_r s k) v) (e1 : w1 = x_set w 69 (nI (60 * k + i)).toNatClampNeg x) : sM (uPu s k i v) w1 ∧ fM w w1 := by
  have hb := h.1.1 k hk
  obtain ⟨c1, c2, c3⟩ := h.2.1 k hk
  rw [z_cl' (by omega), hv] at e1
  refine ⟨sM_uSh h hk hb.1 hb.2 (fun a b1 b2 b3 => by rw [e1, x_set_o b3]) (fun j hj hne => ⟨by rw [e1, x_set_o (by decide)], by rw [e1, x_set_o (by decide)], fun m hm => by rw [e1, x_set_s, upd_o (by omega)]⟩) ⟨fun q => absurd q (by omega), fun _ => ?_, fun j hj => ?_⟩, e1 ▸ fM_set (by omega)⟩
  · rw [e1, x_set_o (by decide), x_set_o (by decide)]; exact c2 hr
  · rw [e1, x_set_s]
    by_cases e : j = i
    · rw [e, upd_s, upd_s]
    · rw [upd_o (by omega), upd_o e]; exact c3 j hj
theorem vFa_own {r n : Nat} {x : Int32} (hr : 0 < r) : vFa r n (nI (r - 1)) x 1 = if 0 ≤ x.toInt ∧ 1 + x.toInt ≤ n then 0 else 3 := by
  unfold vFa
  rw [if_neg (by omega), if_pos rfl, e_l1, if_neg (by decide)]
theorem G_Vp_put_0 {d : Nat} {x1 : Int32} {x2 : Int32} {x3 : Int32} {w : xWd} {Q : xMV → xWd → Prop} (h : (∀ w1 : xWd, w1 = x_set w 1 8 0 → ((p_rg x1 0 3 → (vp_in x1 4 ∧ (vp_in x1 4 ∧ xWp (d + 1) m_Sh_faultOfCells 0 [xA 3 (32 * 33 + x1.toNatClampNeg + 1), xI (w1 (32 * 33 + x1.toNatClampNeg + 1) 2), xI x2, xI 1] [] w1 (fun a w' => xWp (d + 2) m_Vp_put 34 [xA 6 1, xI x1, xI x2, xI x3, xU] (x_pu a []) w' Q)))) ∧ (¬ (p_rg x1 0 3) → Q (xI (-1)) w1)))) : xWp (d + 2) m_Vp_put 0 [xA 6 1, xI x1, xI x2, xI x3, xU] [] w Q := by
  refine x_goN 2 (pc' := 2) (ls' := [xA 6 1, xI x1, xI x2, xI x3, xU]) (st' := [xI 0, xA 6 1]) (w' := w) rfl ?_
  refine x_goW (pc' := 5) (ls' := [xA 6 1, xI x1, xI x2, xI x3, xU]) (st' := []) (w' := x_set w 1 8 0) rfl (fun w1 ew1 => ?_)
  refine x_goN 1 (pc' := 6) (ls' := [xA 6 1, xI x1, xI x2, xI x3, xU]) (st' := [xI x1]) (w' := w1) rfl ?_
  refine x_call (y := m_Vp_isSheet) (as := [xI x1]) (rst := []) rfl [xI x1] rfl ?_
  refine S_Vp_isSheet (fun c1 => ?_) (fun c1 => ?_)
  · skip
    refine x_goN 1 (pc' := if (1 : Int32) = (0 : Int32) then 12 else 14) (ls' := [xA 6 1, xI x1, xI x2, xI x3, xU]) (st' := []) (w' := w1) rfl ?_
    refine x_brF (by decide) ?_
    refine x_goN 3 (pc' := 19) (ls' := [xA 6 1, xI x1, xI x2, xI x3, xU]) (st' := [xI x1, xA 50 33]) (w' := w1) rfl ?_
    refine x_ob (P := vp_in x1 4) (pc' := 20) (ls' := [xA 6 1, xI x1, xI x2, xI x3, xU]) (st' := [xA 3 (32 * 33 + x1.toNatClampNeg + 1)]) (w' := w1) rfl ((h w1 ew1).1 c1).1 ?_
    refine x_goN 3 (pc' := 25) (ls' := [xA 6 1, xI x1, xI x2, xI x3, xU]) (st' := [xI x1, xA 50 33, xA 3 (32 * 33 + x1.toNatClampNeg + 1)]) (w' := w1) rfl ?_
    refine x_ob (P := vp_in x1 4) (pc' := 26) (ls' := [xA 6 1, xI x1, xI x2, xI x3, xU]) (st' := [xA 3 (32 * 33 + x1.toNatClampNeg + 1), xA 3 (32 * 33 + x1.toNatClampNeg + 1)]) (w' := w1) rfl ((h w1 ew1).1 c1).2.1 ?_
    refine x_goN 3 (pc' := 31) (ls' := [xA 6 1, xI x1, xI x2, xI x3, xU]) (st' := [xI 1, xI x2, xI (w1 (32 * 33 + x1.toNatClampNeg + 1) 2), xA 3 (32 * 33 + x1.toNatClampNeg + 1)]) (w' := w1) rfl ?_
    refine x_call (y := m_Sh_faultOfCells) (as := [xA 3 (32 * 33 + x1.toNatClampNeg + 1), xI (w1 (32 * 33 + x1.toNatClampNeg + 1) 2), xI x2, xI 1]) (rst := []) rfl [xA 3 (32 * 33 + x1.toNatClampNeg + 1), xI (w1 (32 * 33 + x1.toNatClampNeg + 1) 2), xI x2, xI 1] rfl ?_
    exact ((h w1 ew1).1 c1).2.2
  · skip
    refine x_goN 1 (pc' := if (0 : Int32) = (0 : Int32) then 12 else 14) (ls' := [xA 6 1, xI x1, xI x2, xI x3, xU]) (st' := []) (w' := w1) rfl ?_
    refine x_brT (by decide) ?_
    refine x_goN 1 (pc' := 13) (ls' := [xA 6 1, xI x1, xI x2, xI x3, xU]) (st' := [xI (-1)]) (w' := w1) rfl ?_
    exact x_ret (P := True) rfl trivial ((h w1 ew1).2 c1)
theorem G_Vp_put_34 {d : Nat} {x1 : Int32} {x2 : Int32} {x3 : Int32} {s0 : Int32} {w : xWd} {Q : xMV → xWd → Prop} (h : ((s0 = 0 → (vp_in x1 4 ∧ xWp (d + 1) m_Sh_write 0 [xA 3 (32 * 33 + x1.toNatClampNeg + 1), xI x2, xI x3] [] w (fun a w' => xWp (d + 2) m_Vp_put 59 [xA 6 1, xI x1, xI x2, xI x3, xI s0] (x_pu a []) w' Q))) ∧ (¬ (s0 = 0) → (∀ w1 : xWd, w1 = x_set w 1 8 s0 → Q (xI ((-10) - s0)) w1)))) : xWp (d + 2) m_Vp_put 34 [xA 6 1, xI x1, xI x2, xI x3, xU] [xI s0] w Q := by
  refine x_goN 3 (pc' := if s0 = 0 then 48 else 41) (ls' := [xA 6 1, xI x1, xI x2, xI x3, xI s0]) (st' := []) (w' := w) rfl ?_
  refine x_br (fun c1 => ?_) (fun c1 => ?_)
  · skip
    refine x_goN 3 (pc' := 53) (ls' := [xA 6 1, xI x1, xI x2, xI x3, xI s0]) (st' := [xI x1, xA 50 33]) (w' := w) rfl ?_
    refine x_ob (P := vp_in x1 4) (pc' := 54) (ls' := [xA 6 1, xI x1, xI x2, xI x3, xI s0]) (st' := [xA 3 (32 * 33 + x1.toNatClampNeg + 1)]) (w' := w) rfl (h.1 c1).1 ?_
    refine x_goN 2 (pc' := 56) (ls' := [xA 6 1, xI x1, xI x2, xI x3, xI s0]) (st' := [xI x3, xI x2, xA 3 (32 * 33 + x1.toNatClampNeg + 1)]) (w' := w) rfl ?_
    refine x_call (y := m_Sh_write) (as := [xA 3 (32 * 33 + x1.toNatClampNeg + 1), xI x2, xI x3]) (rst := []) rfl [xA 3 (32 * 33 + x1.toNatClampNeg + 1), xI x2, xI x3] rfl ?_
    exact (h.1 c1).2
  · skip
    refine x_goN 2 (pc' := 44) (ls' := [xA 6 1, xI x1, xI x2, xI x3, xI s0]) (st' := [xI s0, xA 6 1]) (w' := w) rfl ?_
    refine x_call (y := m_Vp_faulty) (as := [xA 6 1, xI s0]) (rst := []) rfl [xA 6 1, xI s0] rfl ?_
    refine S_Vp_faulty (fun w1 ew1 => ?_)
    exact x_ret (P := True) rfl trivial ((h.2 c1) w1 ew1)
theorem G_Vp_put_59 {d : Nat} {x1 : Int32} {x2 : Int32} {x3 : Int32} {x4 : Int32} {w : xWd} {Q : xMV → xWd → Prop} (h : Q (xI 1) w) : xWp (d + 2) m_Vp_put 59 [xA 6 1, xI x1, xI x2, xI x3, xI x4] [] w Q := by
  refine x_goN 1 (pc' := 60) (ls' := [xA 6 1, xI x1, xI x2, xI x3, xI x4]) (st' := [xI 1]) (w' := w) rfl ?_
  exact x_ret (P := True) rfl trivial h
theorem G_Md_put_0 {d : Nat} {x1 : Int32} {x2 : Int32} {x3 : Int32} {w : xWd} {Q : xMV → xWd → Prop} (h : (∀ w1 : xWd, w1 = x_set w 2 0 0 → ((p_rg x1 0 3 → (vp_in x1 4 ∧ ((w1 67 x1.toNatClampNeg = (-9) → (∀ w2 : xWd, w2 = x_set w1 2 0 1 → Q (xI (-11)) w2)) ∧ (¬ (w1 67 x1.toNatClampNeg = (-9)) → (vp_in x1 4 ∧ ((p_wi x2 0 ((w1 68 x1.toNatClampNeg) - 1) → (vp_in x1 4 ∧ ((w1 67 x1.toNatClampNeg = 0 → (vp_in ((60 * x1) + x2) 240 ∧ ∀ w3 : xWd, w3 = x_set w1 69 (((60 * x1) + x2).toNatClampNeg) x3.toInt8.toInt32 → Q (xI 1) w3)) ∧ (¬ (w1 67 x1.toNatClampNeg = 0) → (vp_in x1 4 ∧ ((w1 67 x1.toNatClampNeg = 1 → (vp_in ((60 * x1) + x2) 240 ∧ ∀ w4 : xWd, w4 = x_set w1 69 (((60 * x1) + x2).toNatClampNeg) x3.toInt16.toInt32 → Q (xI 1) w4)) ∧ (¬ (w1 67 x1.toNatClampNeg = 1) → (vp_in ((60 * x1) + x2) 240 ∧ ∀ w5 : xWd, w5 = x_set w1 69 (((60 * x1) + x2).toNatClampNeg) x3 → Q (xI 1) w5)))))))) ∧ (¬ (p_wi x2 0 ((w1 68 x1.toNatClampNeg) - 1)) → (∀ w6 : xWd, w6 = x_set w1 2 0 3 → Q (xI (-13)) w6)))))))) ∧ (¬ (p_rg x1 0 3) → Q (xI (-1)) w1)))) : xWp (d + 2) m_Md_put 0 [xA 7 2, xI x1, xI x2, xI x3] [] w Q := by
  refine x_goN 2 (pc' := 2) (ls' := [xA 7 2, xI x1, xI x2, xI x3]) (st' := [xI 0, xA 7 2]) (w' := w) rfl ?_
  refine x_goW (pc' := 5) (ls' := [xA 7 2, xI x1, xI x2, xI x3]) (st' := []) (w' := x_set w 2 0 0) rfl (fun w1 ew1 => ?_)
  refine x_goN 1 (pc' := 6) (ls' := [xA 7 2, xI x1, xI x2, xI x3]) (st' := [xI x1]) (w' := w1) rfl ?_
  refine x_call (y := m_Md_isSheet) (as := [xI x1]) (rst := []) rfl [xI x1] rfl ?_
  refine S_Md_isSheet (fun c1 => ?_) (fun c1 => ?_)
  · skip
    refine x_goN 1 (pc' := if (1 : Int32) = (0 : Int32) then 12 else 14) (ls' := [xA 7 2, xI x1, xI x2, xI x3]) (st' := []) (w' := w1) rfl ?_
    refine x_brF (by decide) ?_
    refine x_goN 3 (pc' := 19) (ls' := [xA 7 2, xI x1, xI x2, xI x3]) (st' := [xI x1, xA 104 67]) (w' := w1) rfl ?_
    refine x_ob (P := vp_in x1 4) (pc' := 20) (ls' := [xA 7 2, xI x1, xI x2, xI x3]) (st' := [xI (w1 67 x1.toNatClampNeg)]) (w' := w1) rfl ((h w1 ew1).1 c1).1 ?_
    refine x_goN 2 (pc' := if w1 67 x1.toNatClampNeg = (-9) then 25 else 31) (ls' := [xA 7 2, xI x1, xI x2, xI x3]) (st' := []) (w' := w1) rfl ?_
    refine x_br (fun c2 => ?_) (fun c2 => ?_)
    · skip
      refine x_goN 2 (pc' := 27) (ls' := [xA 7 2, xI x1, xI x2, xI x3]) (st' := [xI 1, xA 7 2]) (w' := w1) rfl ?_
      refine x_call (y := m_Md_fails) (as := [xA 7 2, xI 1]) (rst := []) rfl [xA 7 2, xI 1] rfl ?_
      refine S_Md_fails (fun w2 ew2 => ?_)
      exact x_ret (P := True) rfl trivial ((((h w1 ew1).1 c1).2.1 c2) w2 ew2)
    · skip
      refine x_goN 5 (pc' := 38) (ls' := [xA 7 2, xI x1, xI x2, xI x3]) (st' := [xI x1, xA 104 68, xI 0, xI x2]) (w' := w1) rfl ?_
      refine x_ob (P := vp_in x1 4) (pc' := 39) (ls' := [xA 7 2, xI x1, xI x2, xI x3]) (st' := [xI (w1 68 x1.toNatClampNeg), xI 0, xI x2]) (w' := w1) rfl (((h w1 ew1).1 c1).2.2 c2).1 ?_
      refine x_goN 2 (pc' := 41) (ls' := [xA 7 2, xI x1, xI x2, xI x3]) (st' := [xI ((w1 68 x1.toNatClampNeg) - 1), xI 0, xI x2]) (w' := w1) rfl ?_
      refine x_call (y := m_Md_within) (as := [xI x2, xI 0, xI ((w1 68 x1.toNatClampNeg) - 1)]) (rst := []) rfl [xI x2, xI 0, xI ((w1 68 x1.toNatClampNeg) - 1)] rfl ?_
      refine S_Md_within (fun c3 => ?_) (fun c3 => ?_)
      · skip
        refine x_goN 1 (pc' := if (1 : Int32) = (0 : Int32) then 47 else 53) (ls' := [xA 7 2, xI x1, xI x2, xI x3]) (st' := []) (w' := w1) rfl ?_
        refine x_brF (by decide) ?_
        refine x_goN 10 (pc' := 68) (ls' := [xA 7 2, xI x1, xI x2, xI x3]) (st' := [xI x1, xA 104 67, xI ((60 * x1) + x2), xA 340 69]) (w' := w1) rfl ?_
        refine x_ob (P := vp_in x1 4) (pc' := 69) (ls' := [xA 7 2, xI x1, xI x2, xI x3]) (st' := [xI (w1 67 x1.toNatClampNeg), xI ((60 * x1) + x2), xA 340 69]) (w' := w1) rfl ((((h w1 ew1).1 c1).2.2 c2).2.1 c3).1 ?_
        refine x_goN 1 (pc' := if w1 67 x1.toNatClampNeg = 0 then 72 else 77) (ls' := [xA 7 2, xI x1, xI x2, xI x3]) (st' := [xI ((60 * x1) + x2), xA 340 69]) (w' := w1) rfl ?_
        refine x_br (fun c4 => ?_) (fun c4 => ?_)
        · skip
          refine x_goN 3 (pc' := 93) (ls' := [xA 7 2, xI x1, xI x2, xI x3]) (st' := [xI x3.toInt8.toInt32, xI ((60 * x1) + x2), xA 340 69]) (w' := w1) rfl ?_
          refine x_obW (P := vp_in ((60 * x1) + x2) 240) (pc' := 94) (ls' := [xA 7 2, xI x1, xI x2, xI x3]) (st' := []) (w' := x_set w1 69 (((60 * x1) + x2).toNatClampNeg) x3.toInt8.toInt32) rfl (((((h w1 ew1).1 c1).2.2 c2).2.1 c3).2.1 c4).1 (fun w3 ew3 => ?_)
          refine x_goN 1 (pc' := 95) (ls' := [xA 7 2, xI x1, xI x2, xI x3]) (st' := [xI 1]) (w' := w3) rfl ?_
          exact x_ret (P := True) rfl trivial ((((((h w1 ew1).1 c1).2.2 c2).2.1 c3).2.1 c4).2 w3 ew3)
        · skip
          refine x_goN 3 (pc' := 82) (ls' := [xA 7 2, xI x1, xI x2, xI x3]) (st' := [xI x1, xA 104 67, xI ((60 * x1) + x2), xA 340 69]) (w' := w1) rfl ?_
          refine x_ob (P := vp_in x1 4) (pc' := 83) (ls' := [xA 7 2, xI x1, xI x2, xI x3]) (st' := [xI (w1 67 x1.toNatClampNeg), xI ((60 * x1) + x2), xA 340 69]) (w' := w1) rfl (((((h w1 ew1).1 c1).2.2 c2).2.1 c3).2.2 c4).1 ?_
          refine x_goN 2 (pc' := if w1 67 x1.toNatClampNeg = 1 then 87 else 92) (ls' := [xA 7 2, xI x1, xI x2, xI x3]) (st' := [xI ((60 * x1) + x2), xA 340 69]) (w' := w1) rfl ?_
          refine x_br (fun c5 => ?_) (fun c5 => ?_)
          · skip
            refine x_goN 3 (pc' := 93) (ls' := [xA 7 2, xI x1, xI x2, xI x3]) (st' := [xI x3.toInt16.toInt32, xI ((60 * x1) + x2), xA 340 69]) (w' := w1) rfl ?_
            refine x_obW (P := vp_in ((60 * x1) + x2) 240) (pc' := 94) (ls' := [xA 7 2, xI x1, xI x2, xI x3]) (st' := []) (w' := x_set w1 69 (((60 * x1) + x2).toNatClampNeg) x3.toInt16.toInt32) rfl ((((((h w1 ew1).1 c1).2.2 c2).2.1 c3).2.2 c4).2.1 c5).1 (fun w4 ew4 => ?_)
            refine x_goN 1 (pc' := 95) (ls' := [xA 7 2, xI x1, xI x2, xI x3]) (st' := [xI 1]) (w' := w4) rfl ?_
            exact x_ret (P := True) rfl trivial (((((((h w1 ew1).1 c1).2.2 c2).2.1 c3).2.2 c4).2.1 c5).2 w4 ew4)
          · skip
            refine x_goN 1 (pc' := 93) (ls' := [xA 7 2, xI x1, xI x2, xI x3]) (st' := [xI x3, xI ((60 * x1) + x2), xA 340 69]) (w' := w1) rfl ?_
            refine x_obW (P := vp_in ((60 * x1) + x2) 240) (pc' := 94) (ls' := [xA 7 2, xI x1, xI x2, xI x3]) (st' := []) (w' := x_set w1 69 (((60 * x1) + x2).toNatClampNeg) x3) rfl ((((((h w1 ew1).1 c1).2.2 c2).2.1 c3).2.2 c4).2.2 c5).1 (fun w5 ew5 => ?_)
            refine x_goN 1 (pc' := 95) (ls' := [xA 7 2, xI x1, xI x2, xI x3]) (st' := [xI 1]) (w' := w5) rfl ?_
            exact x_ret (P := True) rfl trivial (((((((h w1 ew1).1 c1).2.2 c2).2.1 c3).2.2 c4).2.2 c5).2 w5 ew5)
      · skip
        refine x_goN 1 (pc' := if (0 : Int32) = (0 : Int32) then 47 else 53) (ls' := [xA 7 2, xI x1, xI x2, xI x3]) (st' := []) (w' := w1) rfl ?_
        refine x_brT (by decide) ?_
        refine x_goN 2 (pc' := 49) (ls' := [xA 7 2, xI x1, xI x2, xI x3]) (st' := [xI 3, xA 7 2]) (w' := w1) rfl ?_
        refine x_call (y := m_Md_fails) (as := [xA 7 2, xI 3]) (rst := []) rfl [xA 7 2, xI 3] rfl ?_
        refine S_Md_fails (fun w6 ew6 => ?_)
        exact x_ret (P := True) rfl trivial (((((h w1 ew1).1 c1).2.2 c2).2.2 c3) w6 ew6)
  · skip
    refine x_goN 1 (pc' := if (0 : Int32) = (0 : Int32) then 12 else 14) (ls' := [xA 7 2, xI x1, xI x2, xI x3]) (st' := []) (w' := w1) rfl ?_
    refine x_brT (by decide) ?_
    refine x_goN 1 (pc' := 13) (ls' := [xA 7 2, xI x1, xI x2, xI x3]) (st' := [xI (-1)]) (w' := w1) rfl ?_
    exact x_ret (P := True) rfl trivial ((h w1 ew1).2 c1)
theorem O_put (s : xS) (x1 x2 x3 : Int32) : oB m_Vp_put [xA 6 1, xI x1, xI x2, xI x3, xU] m_Md_put [xA 7 2, xI x1, xI x2, xI x3] s := by
  by_cases hp : p_rg x1 0 3
  · obtain ⟨k, hk, rfl⟩ := rg3.mp hp
    have hin : vp_in (nI k) 4 := z_in hk (by decide)
    by_cases hr : s_r s k = 0
    · refine ⟨xI (-11), uF s 1, fun w h => ?_, fun w h => ?_⟩
      · have hb := h.1.1 k hk
        refine G_Vp_put_0 (fun w1 e1 => ?_)
        have g1 := sC_f h e1
        rw [z_ad hk]
        refine ⟨fun _ => ⟨hin, hin, S_Sh_faultOfCells (g1.1.2.1 k hk) hb.1 hb.2 ?_⟩, fun c => absurd hp c⟩
        have ev : ∀ l, vFa (s_r (uF s 0) k) (s_n (uF s 0) k) l x2 1 = 1 := fun l => by unfold vFa; exact if_pos hr
        rw [ev]
        refine G_Vp_put_34 ⟨fun c => absurd c (by decide), fun _ w2 e2 => ?_⟩
        have g2 := sC_f g1.1 e2
        exact cF g2.1 (fC_tr g1.2 g2.2)
      · refine G_Md_put_0 (fun w1 e1 => ?_)
        have g1 := sM_f h e1
        have m1 : w1 67 k = -9 := (g1.1.2.1 k hk).1 hr
        refine ⟨fun _ => ⟨hin, ?_⟩, fun c => absurd hp c⟩
        rw [z_cl' (show k < 2 ^ 31 by omega), m1]
        refine ⟨fun _ w2 e2 => ?_, fun c => absurd rfl c⟩
        have g2 := sM_f g1.1 e2
        exact mF g2.1 (fM_tr g1.2 g2.2)
    · have hr0 : 0 < s_r s k := by omega
      by_cases hi : ∃ i, x2 = nI i ∧ i < s_n s k
      · obtain ⟨i, rfl, hi⟩ := hi
        refine ⟨xI 1, uPu (uF s 0) k i x3, fun w h => ?_, fun w h => ?_⟩
        · have hb := h.1.1 k hk
          refine G_Vp_put_0 (fun w1 e1 => ?_)
          have g1 := sC_f h e1
          rw [z_ad hk]
          refine ⟨fun _ => ⟨hin, hin, S_Sh_faultOfCells (g1.1.2.1 k hk) hb.1 hb.2 ?_⟩, fun c => absurd hp c⟩
          have m2 : w1 (1057 + k) 2 = nI (s_r s k - 1) := ((g1.1.2.1 k hk).2.1 hr0).2.1
          have ev : vFa (s_r (uF s 0) k) (s_n (uF s 0) k) (nI (s_r s k - 1)) (nI i) 1 = 0 := by
            refine (vFa_own hr0).trans (if_pos ?_)
            rw [nI_toInt (by omega)]
            have : i < s_n (uF s 0) k := hi
            omega
          rw [m2, ev]
          refine G_Vp_put_34 ?_
          rw [z_ad hk]
          exact ⟨fun _ => ⟨hin, S_Sh_write g1.1 hk hr0 hi (fun w' h' f' => G_Vp_put_59 (cF h' (fC_tr g1.2 f')))⟩, fun c => absurd rfl c⟩
        · have hb := h.1.1 k hk
          refine G_Md_put_0 (fun w1 e1 => ?_)
          have g1 := sM_f h e1
          obtain ⟨m1, m2, m3⟩ := g1.1.2.1 k hk
          have m2' : w1 67 k = nI (s_r s k - 1) ∧ w1 68 k = nI (s_n s k) := m2 hr0
          have hn9 : ¬ nI (s_r s k - 1) = -9 := fun q => z_n9 (by omega) q.symm
          have hin2 : vp_in (nI (60 * k + i)) 240 := z_in (by omega) (by decide)
          rw [z_cl' (show k < 2 ^ 31 by omega), m2'.1, m2'.2, z_60]
          have fin : ∀ (x : Int32) (w2 : xWd), x = vCut (s_r (uF s 0) k) x3 → w2 = x_set w1 69 (nI (60 * k + i)).toNatClampNeg x → (xI 1 = xI 1 ∧ sM (uPu (uF s 0) k i x3) w2 ∧ fM w w2) := fun x w2 hx e2 => by
            have g2 := M_put g1.1 hk hr0 hi hx e2
            exact ⟨rfl, g2.1, fM_tr g1.2 g2.2⟩
          refine ⟨fun _ => ⟨hin, fun c => absurd c hn9, fun _ => ⟨hin, fun _ => ⟨hin, fun q => ⟨hin2, fun w2 e2 => fin _ w2 ?_ e2⟩, fun q => ⟨hin, fun q2 => ⟨hin2, fun w2 e2 => fin _ w2 ?_ e2⟩, fun q2 => ⟨hin2, fun w2 e2 => fin _ w2 ?_ e2⟩⟩⟩, fun c => absurd ((z_wi (b := 0) (by omega)).mpr ⟨i, rfl, hi⟩) c⟩⟩, fun c => absurd hp c⟩
          · have := (z_eq0 (by omega)).mp q
            have e : s_r (uF s 0) k = 1 := by show s_r s k = 1; omega
            unfold vCut; rw [if_pos e]
          · have := (z_eq (b := 1) (by omega) (by decide)).mp q2
            have e : s_r (uF s 0) k = 2 := by show s_r s k = 2; omega
            unfold vCut; rw [if_neg (by omega), if_pos e]
          · have n1 : ¬ s_r (uF s 0) k = 1 := fun e => q ((z_eq0 (by omega)).mpr (by have : s_r s k = 1 := e; omega))
            have n2 : ¬ s_r (uF s 0) k = 2 := fun e => q2 ((z_eq (b := 1) (by omega) (by decide)).mpr (by have : s_r s k = 2 := e; omega))
            unfold vCut; rw [if_neg n1, if_neg n2]
      · refine ⟨xI (-13), uF s 3, fun w h => ?_, fun w h => ?_⟩
        · have hb := h.1.1 k hk
          refine G_Vp_put_0 (fun w1 e1 => ?_)
          have g1 := sC_f h e1
          rw [z_ad hk]
          refine ⟨fun _ => ⟨hin, hin, S_Sh_faultOfCells (g1.1.2.1 k hk) hb.1 hb.2 ?_⟩, fun c => absurd hp c⟩
          have m2 : w1 (1057 + k) 2 = nI (s_r s k - 1) := ((g1.1.2.1 k hk).2.1 hr0).2.1
          have ev : vFa (s_r (uF s 0) k) (s_n (uF s 0) k) (nI (s_r s k - 1)) x2 1 = 3 := by
            refine (vFa_own hr0).trans (if_neg ?_)
            rintro ⟨q1, q2⟩
            obtain ⟨i, a, b, -⟩ := z_of q1
            have q2' : 1 + x2.toInt ≤ (s_n s k : Int) := q2
            exact hi ⟨i, a, by omega⟩
          rw [m2, ev]
          refine G_Vp_put_34 ⟨fun c => absurd c (by decide), fun _ w2 e2 => ?_⟩
          have g2 := sC_f g1.1 e2
          exact cF g2.1 (fC_tr g1.2 g2.2)
        · have hb := h.1.1 k hk
          refine G_Md_put_0 (fun w1 e1 => ?_)
          have g1 := sM_f h e1
          obtain ⟨m1, m2, m3⟩ := g1.1.2.1 k hk
          have m2' : w1 67 k = nI (s_r s k - 1) ∧ w1 68 k = nI (s_n s k) := m2 hr0
          have hn9 : ¬ nI (s_r s k - 1) = -9 := fun q => z_n9 (by omega) q.symm
          rw [z_cl' (show k < 2 ^ 31 by omega), m2'.1, m2'.2]
          refine ⟨fun _ => ⟨hin, fun c => absurd c hn9, fun _ => ⟨hin, fun c => absurd ((z_wi (b := 0) (by omega)).mp c) hi, fun _ w2 e2 => ?_⟩⟩, fun c => absurd hp c⟩
          have g2 := sM_f g1.1 e2
          exact mF g2.1 (fM_tr g1.2 g2.2)
  · exact ⟨xI (-1), uF s 0, fun w h => G_Vp_put_0 (fun w1 e1 => ⟨fun c => absurd c hp, fun _ => cF (sC_f h e1).1 (sC_f h e1).2⟩), fun w h => G_Md_put_0 (fun w1 e1 => ⟨fun c => absurd c hp, fun _ => mF (sM_f h e1).1 (sM_f h e1).2⟩)⟩
/-! sheet -/
theorem G_Ja_fill_0 {d : Nat} {a0 : Nat} {x1 : Int32} {w : xWd} {Q : xMV → xWd → Prop} (h : xWp d m_Ja_fill 5 [xA 160 a0, xI x1, xI 0, xI 60] [] w Q) : xWp d m_Ja_fill 0 [xA 160 a0, xI x1, xU, xU] [] w Q := by
  refine x_goN 5 (pc' := 5) (ls' := [xA 160 a0, xI x1, xI 0, xI 60]) (st' := []) (w' := w) rfl ?_
  exact h
theorem G_Ja_fill_5 {d : Nat} {a0 : Nat} {x1 : Int32} {x2 : Int32} {x3 : Int32} {w : xWd} {Q : xMV → xWd → Prop} (h : ((x3 ≤ x2 → Q xU w) ∧ (¬ (x3 ≤ x2) → (vp_in x2 60 ∧ ∀ w1 : xWd, w1 = x_set w a0 x2.toNatClampNeg x1 → xWp d m_Ja_fill 5 [xA 160 a0, xI x1, xI (x2 + 1), xI x3] [] w1 Q)))) : xWp d m_Ja_fill 5 [xA 160 a0, xI x1, xI x2, xI x3] [] w Q := by
  refine x_goN 3 (pc' := if x3 ≤ x2 then 20 else 10) (ls' := [xA 160 a0, xI x1, xI x2, xI x3]) (st' := []) (w' := w) rfl ?_
  refine x_br (fun c1 => ?_) (fun c1 => ?_)
  · skip
    exact x_ret (P := True) rfl trivial (h.1 c1)
  · skip
    refine x_goN 3 (pc' := 13) (ls' := [xA 160 a0, xI x1, xI x2, xI x3]) (st' := [xI x1, xI x2, xA 160 a0]) (w' := w) rfl ?_
    refine x_obW (P := vp_in x2 60) (pc' := 14) (ls' := [xA 160 a0, xI x1, xI x2, xI x3]) (st' := []) (w' := x_set w a0 x2.toNatClampNeg x1) rfl (h.2 c1).1 (fun w1 ew1 => ?_)
    refine x_goN 2 (pc' := 5) (ls' := [xA 160 a0, xI x1, xI (x2 + 1), xI x3]) (st' := []) (w' := w1) rfl ?_
    exact ((h.2 c1).2 w1 ew1)
theorem L_Ja_fill {d a : Nat} {v : Int32} {Q : xMV → xWd → Prop} : ∀ (m i : Nat) (w : xWd), i + m = 60 → (∀ j, j < i → w a j = v) → (∀ w', (∀ b, b ≠ a → w' b = w b) → (∀ j, j < 60 → w' a j = v) → Q xU w') → xWp d m_Ja_fill 5 [xA 160 a, xI v, xI (nI i), xI 60] [] w Q := by
  intro m
  induction m with
  | zero =>
    intro i w hi hw hq
    have e : i = 60 := by omega
    subst e
    exact G_Ja_fill_5 ⟨fun _ => hq w (fun _ _ => rfl) hw, fun c => absurd (by decide) c⟩
  | succ m ih =>
    intro i w hi hw hq
    refine G_Ja_fill_5 ⟨fun c => absurd ((z_le (a := 60) (by decide) (by omega)).mp c) (by omega), fun _ => ⟨z_in (by omega) (by decide), fun w1 e1 => ?_⟩⟩
    rw [z_cl' (by omega)] at e1
    rw [nI_1]
    refine ih (i + 1) w1 (by omega) (fun j hj => ?_) (fun w' hf hv => hq w' (fun b hb => by rw [hf b hb, e1, x_set_o hb]) hv)
    rw [e1, x_set_s]
    by_cases e : j = i
    · rw [e, upd_s]
    · rw [upd_o e]; exact hw j (by omega)
theorem G_Sh_getRow_0 {d : Nat} {a0 : Nat} {x1 : Int32} {x2 : Int32} {w : xWd} {Q : xMV → xWd → Prop} (h : (∀ w1 : xWd, w1 = x_set w a0 1 1 → (∀ w2 : xWd, w2 = x_set w1 a0 2 x1 → (∀ w3 : xWd, w3 = x_set w2 a0 3 (if 0 < if 60 < x2 then 60 else x2 then if 60 < x2 then 60 else x2 else 0) → xWp d m_Ja_fill 0 [xA 160 (32 * a0 + 1), xI 0, xU, xU] [] w3 (fun a w' => xWp (d + 1) m_Sh_getRow 32 [xA 3 a0, xI x1, xI x2] (x_pu a []) w' Q))))) : xWp (d + 1) m_Sh_getRow 0 [xA 3 a0, xI x1, xI x2] [] w Q := by
  refine x_goN 2 (pc' := 2) (ls' := [xA 3 a0, xI x1, xI x2]) (st' := [xI 1, xA 3 a0]) (w' := w) rfl ?_
  refine x_obW (P := (1 : Int32) = 0 ∨ (1 : Int32) = 1) (pc' := 5) (ls' := [xA 3 a0, xI x1, xI x2]) (st' := []) (w' := x_set w a0 1 1) rfl (by decide) (fun w1 ew1 => ?_)
  refine x_goN 2 (pc' := 7) (ls' := [xA 3 a0, xI x1, xI x2]) (st' := [xI x1, xA 3 a0]) (w' := w1) rfl ?_
  refine x_goW (pc' := 10) (ls' := [xA 3 a0, xI x1, xI x2]) (st' := []) (w' := x_set w1 a0 2 x1) rfl (fun w2 ew2 => ?_)
  refine x_goN 4 (pc' := 15) (ls' := [xA 3 a0, xI x1, xI x2]) (st' := [xI 60, xI x2, xI 0, xA 3 a0]) (w' := w2) rfl ?_
  refine x_ob (P := 1 ≤ (d + 1)) (pc' := 18) (ls' := [xA 3 a0, xI x1, xI x2]) (st' := [xI (if 60 < x2 then 60 else x2), xI 0, xA 3 a0]) (w' := w2) rfl (Nat.succ_le_succ (Nat.zero_le _)) ?_
  refine x_ob (P := 1 ≤ (d + 1)) (pc' := 21) (ls' := [xA 3 a0, xI x1, xI x2]) (st' := [xI (if 0 < if 60 < x2 then 60 else x2 then if 60 < x2 then 60 else x2 else 0), xA 3 a0]) (w' := w2) rfl (Nat.succ_le_succ (Nat.zero_le _)) ?_
  refine x_goW (pc' := 24) (ls' := [xA 3 a0, xI x1, xI x2]) (st' := []) (w' := x_set w2 a0 3 (if 0 < if 60 < x2 then 60 else x2 then if 60 < x2 then 60 else x2 else 0)) rfl (fun w3 ew3 => ?_)
  refine x_goN 3 (pc' := 29) (ls' := [xA 3 a0, xI x1, xI x2]) (st' := [xI 0, xA 160 (32 * a0 + 1)]) (w' := w3) rfl ?_
  refine x_call (y := m_Ja_fill) (as := [xA 160 (32 * a0 + 1), xI 0]) (rst := []) rfl [xA 160 (32 * a0 + 1), xI 0, xU, xU] rfl ?_
  exact (((h w1 ew1) w2 ew2) w3 ew3)
theorem G_Sh_getRow_32 {d : Nat} {a0 : Nat} {x1 : Int32} {x2 : Int32} {w : xWd} {Q : xMV → xWd → Prop} (h : Q xU w) : xWp (d + 1) m_Sh_getRow 32 [xA 3 a0, xI x1, xI x2] [] w Q := by
  exact x_ret (P := True) rfl trivial h
theorem z_size {n : Nat} (hn : n ≤ 60) : (if 0 < (if 60 < nI n then 60 else nI n) then (if 60 < nI n then 60 else nI n) else 0) = nI n := by
  have h1 : ¬ (60 : Int32) < nI n := fun c => by have := (z_lt (a := 60) (by decide) (by omega)).mp c; omega
  rw [if_neg h1]
  by_cases h2 : (0 : Int32) < nI n
  · rw [if_pos h2]
  · rw [if_neg h2]
    have : n = 0 := by
      have : ¬ 0 < n := fun q => h2 ((z_lt (a := 0) (by decide) (by omega)).mpr q)
      omega
    rw [this]; rfl
def uNew (s : xS) (k r n : Nat) : xS := uSh s k (r + 1) n (fun _ => 0)
theorem S_Sh_getRow {d k r n : Nat} {s : xS} {w : xWd} {Q : xMV → xWd → Prop} (h : sC s w) (hk : k < 4) (hr : r < 3) (hn : n ≤ 60) (hq : ∀ w', sC (uNew s k r n) w' → fC w w' → Q xU w') : xWp (d + 1) m_Sh_getRow 0 [xA 3 (1057 + k), xI (nI r), xI (nI n)] [] w Q := by
  refine G_Sh_getRow_0 (fun w1 e1 w2 e2 w3 e3 => G_Ja_fill_0 (L_Ja_fill 60 0 w3 rfl (fun j hj => absurd hj (Nat.not_lt_zero _)) (fun w' hf hv => G_Sh_getRow_32 (hq w' (sC_uSh h hk (by omega) hn (fun b b1 b2 => ?_) ⟨fun q => absurd q (by omega), fun _ => ⟨?_, ?_, ?_⟩, hv⟩) (fun b hb => ?_)))))
  · rw [hf b b2, e3, x_set_o b1, e2, x_set_o b1, e1, x_set_o b1]
  · rw [hf _ (by omega), e3, x_set_s, upd_o (by decide), e2, x_set_s, upd_o (by decide), e1, x_set_s, upd_s]
  · rw [hf _ (by omega), e3, x_set_s, upd_o (by decide), e2, x_set_s, upd_s]; rfl
  · rw [hf _ (by omega), e3, x_set_s, upd_s]; exact z_size hn
  · rw [hf _ (by omega), e3, x_set_o (by omega), e2, x_set_o (by omega), e1, x_set_o (by omega)]
theorem G_Vp_sheet_0 {d : Nat} {x1 : Int32} {x2 : Int32} {x3 : Int32} {w : xWd} {Q : xMV → xWd → Prop} (h : (∀ w1 : xWd, w1 = x_set w 1 8 0 → ((p_rg x1 0 3 → ((p_rg x2 0 2 → ((x3 ≤ 60 → ((0 ≤ x3 → (vp_in x1 4 ∧ xWp (d + 1) m_Sh_getRow 0 [xA 3 (32 * 33 + x1.toNatClampNeg + 1), xI x2, xI x3] [] w1 (fun a w' => xWp (d + 2) m_Vp_sheet 51 [xA 6 1, xI x1, xI x2, xI x3] (x_pu a []) w' Q))) ∧ (¬ (0 ≤ x3) → (∀ w2 : xWd, w2 = x_set w1 1 8 4 → Q (xI (-14)) w2)))) ∧ (¬ (x3 ≤ 60) → Q (xI (-2)) w1))) ∧ (¬ (p_rg x2 0 2) → Q (xI (-2)) w1))) ∧ (¬ (p_rg x1 0 3) → Q (xI (-1)) w1)))) : xWp (d + 2) m_Vp_sheet 0 [xA 6 1, xI x1, xI x2, xI x3] [] w Q := by
  refine x_goN 2 (pc' := 2) (ls' := [xA 6 1, xI x1, xI x2, xI x3]) (st' := [xI 0, xA 6 1]) (w' := w) rfl ?_
  refine x_goW (pc' := 5) (ls' := [xA 6 1, xI x1, xI x2, xI x3]) (st' := []) (w' := x_set w 1 8 0) rfl (fun w1 ew1 => ?_)
  refine x_goN 1 (pc' := 6) (ls' := [xA 6 1, xI x1, xI x2, xI x3]) (st' := [xI x1]) (w' := w1) rfl ?_
  refine x_call (y := m_Vp_isSheet) (as := [xI x1]) (rst := []) rfl [xI x1] rfl ?_
  refine S_Vp_isSheet (fun c1 => ?_) (fun c1 => ?_)
  · skip
    refine x_goN 1 (pc' := if (1 : Int32) = (0 : Int32) then 12 else 14) (ls' := [xA 6 1, xI x1, xI x2, xI x3]) (st' := []) (w' := w1) rfl ?_
    refine x_brF (by decide) ?_
    refine x_goN 1 (pc' := 15) (ls' := [xA 6 1, xI x1, xI x2, xI x3]) (st' := [xI x2]) (w' := w1) rfl ?_
    refine x_call (y := m_Vp_isLane) (as := [xI x2]) (rst := []) rfl [xI x2] rfl ?_
    refine S_Vp_isLane (fun c2 => ?_) (fun c2 => ?_)
    · skip
      refine x_goN 1 (pc' := if (1 : Int32) = (0 : Int32) then 27 else 21) (ls' := [xA 6 1, xI x1, xI x2, xI x3]) (st' := []) (w' := w1) rfl ?_
      refine x_brF (by decide) ?_
      refine x_goN 3 (pc' := if x3 ≤ 60 then 30 else 27) (ls' := [xA 6 1, xI x1, xI x2, xI x3]) (st' := []) (w' := w1) rfl ?_
      refine x_br (fun c3 => ?_) (fun c3 => ?_)
      · skip
        refine x_goN 2 (pc' := if 0 ≤ x3 then 40 else 34) (ls' := [xA 6 1, xI x1, xI x2, xI x3]) (st' := []) (w' := w1) rfl ?_
        refine x_br (fun c4 => ?_) (fun c4 => ?_)
        · skip
          refine x_goN 3 (pc' := 45) (ls' := [xA 6 1, xI x1, xI x2, xI x3]) (st' := [xI x1, xA 50 33]) (w' := w1) rfl ?_
          refine x_ob (P := vp_in x1 4) (pc' := 46) (ls' := [xA 6 1, xI x1, xI x2, xI x3]) (st' := [xA 3 (32 * 33 + x1.toNatClampNeg + 1)]) (w' := w1) rfl (((((h w1 ew1).1 c1).1 c2).1 c3).1 c4).1 ?_
          refine x_goN 2 (pc' := 48) (ls' := [xA 6 1, xI x1, xI x2, xI x3]) (st' := [xI x3, xI x2, xA 3 (32 * 33 + x1.toNatClampNeg + 1)]) (w' := w1) rfl ?_
          refine x_call (y := m_Sh_getRow) (as := [xA 3 (32 * 33 + x1.toNatClampNeg + 1), xI x2, xI x3]) (rst := []) rfl [xA 3 (32 * 33 + x1.toNatClampNeg + 1), xI x2, xI x3] rfl ?_
          exact (((((h w1 ew1).1 c1).1 c2).1 c3).1 c4).2
        · skip
          refine x_goN 2 (pc' := 36) (ls' := [xA 6 1, xI x1, xI x2, xI x3]) (st' := [xI 4, xA 6 1]) (w' := w1) rfl ?_
          refine x_call (y := m_Vp_faulty) (as := [xA 6 1, xI 4]) (rst := []) rfl [xA 6 1, xI 4] rfl ?_
          refine S_Vp_faulty (fun w2 ew2 => ?_)
          exact x_ret (P := True) rfl trivial ((((((h w1 ew1).1 c1).1 c2).1 c3).2 c4) w2 ew2)
      · skip
        refine x_goN 1 (pc' := 29) (ls' := [xA 6 1, xI x1, xI x2, xI x3]) (st' := [xI (-2)]) (w' := w1) rfl ?_
        exact x_ret (P := True) rfl trivial ((((h w1 ew1).1 c1).1 c2).2 c3)
    · skip
      refine x_goN 1 (pc' := if (0 : Int32) = (0 : Int32) then 27 else 21) (ls' := [xA 6 1, xI x1, xI x2, xI x3]) (st' := []) (w' := w1) rfl ?_
      refine x_brT (by decide) ?_
      refine x_goN 1 (pc' := 29) (ls' := [xA 6 1, xI x1, xI x2, xI x3]) (st' := [xI (-2)]) (w' := w1) rfl ?_
      exact x_ret (P := True) rfl trivial (((h w1 ew1).1 c1).2 c2)
  · skip
    refine x_goN 1 (pc' := if (0 : Int32) = (0 : Int32) then 12 else 14) (ls' := [xA 6 1, xI x1, xI x2, xI x3]) (st' := []) (w' := w1) rfl ?_
    refine x_brT (by decide) ?_
    refine x_goN 1 (pc' := 13) (ls' := [xA 6 1, xI x1, xI x2, xI x3]) (st' := [xI (-1)]) (w' := w1) rfl ?_
    exact x_ret (P := True) rfl trivial ((h w1 ew1).2 c1)
theorem G_Vp_sheet_51 {d : Nat} {x1 : Int32} {x2 : Int32} {x3 : Int32} {w : xWd} {Q : xMV → xWd → Prop} (h : Q (xI 1) w) : xWp (d + 2) m_Vp_sheet 51 [xA 6 1, xI x1, xI x2, xI x3] [] w Q := by
  refine x_goN 1 (pc' := 52) (ls' := [xA 6 1, xI x1, xI x2, xI x3]) (st' := [xI 1]) (w' := w) rfl ?_
  exact x_ret (P := True) rfl trivial h
theorem G_Md_sheet_0 {d : Nat} {x1 : Int32} {x2 : Int32} {x3 : Int32} {w : xWd} {Q : xMV → xWd → Prop} (h : (∀ w1 : xWd, w1 = x_set w 2 0 0 → ((p_rg x1 0 3 → ((p_rg x2 0 2 → ((x3 ≤ 60 → ((0 ≤ x3 → (vp_in x1 4 ∧ ∀ w2 : xWd, w2 = x_set w1 67 x1.toNatClampNeg x2 → (vp_in x1 4 ∧ ∀ w3 : xWd, w3 = x_set w2 68 x1.toNatClampNeg x3 → xWp (d + 2) m_Md_sheet 57 [xA 7 2, xI x1, xI x2, xI x3, xI 0] [] w3 Q))) ∧ (¬ (0 ≤ x3) → (∀ w4 : xWd, w4 = x_set w1 2 0 4 → Q (xI (-14)) w4)))) ∧ (¬ (x3 ≤ 60) → Q (xI (-2)) w1))) ∧ (¬ (p_rg x2 0 2) → Q (xI (-2)) w1))) ∧ (¬ (p_rg x1 0 3) → Q (xI (-1)) w1)))) : xWp (d + 2) m_Md_sheet 0 [xA 7 2, xI x1, xI x2, xI x3, xU] [] w Q := by
  refine x_goN 2 (pc' := 2) (ls' := [xA 7 2, xI x1, xI x2, xI x3, xU]) (st' := [xI 0, xA 7 2]) (w' := w) rfl ?_
  refine x_goW (pc' := 5) (ls' := [xA 7 2, xI x1, xI x2, xI x3, xU]) (st' := []) (w' := x_set w 2 0 0) rfl (fun w1 ew1 => ?_)
  refine x_goN 1 (pc' := 6) (ls' := [xA 7 2, xI x1, xI x2, xI x3, xU]) (st' := [xI x1]) (w' := w1) rfl ?_
  refine x_call (y := m_Md_isSheet) (as := [xI x1]) (rst := []) rfl [xI x1] rfl ?_
  refine S_Md_isSheet (fun c1 => ?_) (fun c1 => ?_)
  · skip
    refine x_goN 1 (pc' := if (1 : Int32) = (0 : Int32) then 12 else 14) (ls' := [xA 7 2, xI x1, xI x2, xI x3, xU]) (st' := []) (w' := w1) rfl ?_
    refine x_brF (by decide) ?_
    refine x_goN 1 (pc' := 15) (ls' := [xA 7 2, xI x1, xI x2, xI x3, xU]) (st' := [xI x2]) (w' := w1) rfl ?_
    refine x_call (y := m_Md_isSort) (as := [xI x2]) (rst := []) rfl [xI x2] rfl ?_
    refine S_Md_isSort (fun c2 => ?_) (fun c2 => ?_)
    · skip
      refine x_goN 1 (pc' := if (1 : Int32) = (0 : Int32) then 27 else 21) (ls' := [xA 7 2, xI x1, xI x2, xI x3, xU]) (st' := []) (w' := w1) rfl ?_
      refine x_brF (by decide) ?_
      refine x_goN 3 (pc' := if x3 ≤ 60 then 30 else 27) (ls' := [xA 7 2, xI x1, xI x2, xI x3, xU]) (st' := []) (w' := w1) rfl ?_
      refine x_br (fun c3 => ?_) (fun c3 => ?_)
      · skip
        refine x_goN 2 (pc' := if 0 ≤ x3 then 40 else 34) (ls' := [xA 7 2, xI x1, xI x2, xI x3, xU]) (st' := []) (w' := w1) rfl ?_
        refine x_br (fun c4 => ?_) (fun c4 => ?_)
        · skip
          refine x_goN 4 (pc' := 46) (ls' := [xA 7 2, xI x1, xI x2, xI x3, xU]) (st' := [xI x2, xI x1, xA 104 67]) (w' := w1) rfl ?_
          refine x_obW (P := vp_in x1 4) (pc' := 47) (ls' := [xA 7 2, xI x1, xI x2, xI x3, xU]) (st' := []) (w' := x_set w1 67 x1.toNatClampNeg x2) rfl (((((h w1 ew1).1 c1).1 c2).1 c3).1 c4).1 (fun w2 ew2 => ?_)
          refine x_goN 4 (pc' := 53) (ls' := [xA 7 2, xI x1, xI x2, xI x3, xU]) (st' := [xI x3, xI x1, xA 104 68]) (w' := w2) rfl ?_
          refine x_obW (P := vp_in x1 4) (pc' := 54) (ls' := [xA 7 2, xI x1, xI x2, xI x3, xU]) (st' := []) (w' := x_set w2 68 x1.toNatClampNeg x3) rfl ((((((h w1 ew1).1 c1).1 c2).1 c3).1 c4).2 w2 ew2).1 (fun w3 ew3 => ?_)
          refine x_goN 2 (pc' := 57) (ls' := [xA 7 2, xI x1, xI x2, xI x3, xI 0]) (st' := []) (w' := w3) rfl ?_
          exact (((((((h w1 ew1).1 c1).1 c2).1 c3).1 c4).2 w2 ew2).2 w3 ew3)
        · skip
          refine x_goN 2 (pc' := 36) (ls' := [xA 7 2, xI x1, xI x2, xI x3, xU]) (st' := [xI 4, xA 7 2]) (w' := w1) rfl ?_
          refine x_call (y := m_Md_fails) (as := [xA 7 2, xI 4]) (rst := []) rfl [xA 7 2, xI 4] rfl ?_
          refine S_Md_fails (fun w4 ew4 => ?_)
          exact x_ret (P := True) rfl trivial ((((((h w1 ew1).1 c1).1 c2).1 c3).2 c4) w4 ew4)
      · skip
        refine x_goN 1 (pc' := 29) (ls' := [xA 7 2, xI x1, xI x2, xI x3, xU]) (st' := [xI (-2)]) (w' := w1) rfl ?_
        exact x_ret (P := True) rfl trivial ((((h w1 ew1).1 c1).1 c2).2 c3)
    · skip
      refine x_goN 1 (pc' := if (0 : Int32) = (0 : Int32) then 27 else 21) (ls' := [xA 7 2, xI x1, xI x2, xI x3, xU]) (st' := []) (w' := w1) rfl ?_
      refine x_brT (by decide) ?_
      refine x_goN 1 (pc' := 29) (ls' := [xA 7 2, xI x1, xI x2, xI x3, xU]) (st' := [xI (-2)]) (w' := w1) rfl ?_
      exact x_ret (P := True) rfl trivial (((h w1 ew1).1 c1).2 c2)
  · skip
    refine x_goN 1 (pc' := if (0 : Int32) = (0 : Int32) then 12 else 14) (ls' := [xA 7 2, xI x1, xI x2, xI x3, xU]) (st' := []) (w' := w1) rfl ?_
    refine x_brT (by decide) ?_
    refine x_goN 1 (pc' := 13) (ls' := [xA 7 2, xI x1, xI x2, xI x3, xU]) (st' := [xI (-1)]) (w' := w1) rfl ?_
    exact x_ret (P := True) rfl trivial ((h w1 ew1).2 c1)
theorem G_Md_sheet_57 {d : Nat} {x1 : Int32} {x2 : Int32} {x3 : Int32} {x4 : Int32} {w : xWd} {Q : xMV → xWd → Prop} (h : ((60 ≤ x4 → Q (xI 1) w) ∧ (¬ (60 ≤ x4) → (vp_in ((60 * x1) + x4) 240 ∧ ∀ w1 : xWd, w1 = x_set w 69 (((60 * x1) + x4).toNatClampNeg) 0 → xWp (d + 2) m_Md_sheet 57 [xA 7 2, xI x1, xI x2, xI x3, xI (x4 + 1)] [] w1 Q)))) : xWp (d + 2) m_Md_sheet 57 [xA 7 2, xI x1, xI x2, xI x3, xI x4] [] w Q := by
  refine x_goN 3 (pc' := if 60 ≤ x4 then 83 else 64) (ls' := [xA 7 2, xI x1, xI x2, xI x3, xI x4]) (st' := []) (w' := w) rfl ?_
  refine x_br (fun c1 => ?_) (fun c1 => ?_)
  · skip
    refine x_goN 1 (pc' := 84) (ls' := [xA 7 2, xI x1, xI x2, xI x3, xI x4]) (st' := [xI 1]) (w' := w) rfl ?_
    exact x_ret (P := True) rfl trivial (h.1 c1)
  · skip
    refine x_goN 8 (pc' := 76) (ls' := [xA 7 2, xI x1, xI x2, xI x3, xI x4]) (st' := [xI 0, xI ((60 * x1) + x4), xA 340 69]) (w' := w) rfl ?_
    refine x_obW (P := vp_in ((60 * x1) + x4) 240) (pc' := 77) (ls' := [xA 7 2, xI x1, xI x2, xI x3, xI x4]) (st' := []) (w' := x_set w 69 (((60 * x1) + x4).toNatClampNeg) 0) rfl (h.2 c1).1 (fun w1 ew1 => ?_)
    refine x_goN 2 (pc' := 57) (ls' := [xA 7 2, xI x1, xI x2, xI x3, xI (x4 + 1)]) (st' := []) (w' := w1) rfl ?_
    exact ((h.2 c1).2 w1 ew1)
theorem L_Md_sheet {d k : Nat} {x2 x3 : Int32} {Q : xMV → xWd → Prop} (hk : k < 4) : ∀ (m i : Nat) (w : xWd), i + m = 60 → (∀ j, j < i → w 69 (60 * k + j) = 0) → (∀ w', (∀ b, b ≠ 69 → w' b = w b) → (∀ j, (j < 60 * k ∨ 60 * k + 60 ≤ j) → w' 69 j = w 69 j) → (∀ j, j < 60 → w' 69 (60 * k + j) = 0) → Q (xI 1) w') → xWp (d + 2) m_Md_sheet 57 [xA 7 2, xI (nI k), xI x2, xI x3, xI (nI i)] [] w Q := by
  intro m
  induction m with
  | zero =>
    intro i w hi hw hq
    have e : i = 60 := by omega
    subst e
    exact G_Md_sheet_57 ⟨fun _ => hq w (fun _ _ => rfl) (fun _ _ => rfl) hw, fun c => absurd (by decide) c⟩
  | succ m ih =>
    intro i w hi hw hq
    refine G_Md_sheet_57 ⟨fun c => absurd ((z_le (a := 60) (by decide) (by omega)).mp c) (by omega), fun _ => ?_⟩
    rw [z_60]
    refine ⟨z_in (by omega) (by decide), fun w1 e1 => ?_⟩
    rw [z_cl' (by omega)] at e1
    rw [nI_1]
    refine ih (i + 1) w1 (by omega) (fun j hj => ?_) (fun w' hf ho hv => hq w' (fun b hb => by rw [hf b hb, e1, x_set_o hb]) (fun j hj => by rw [ho j hj, e1, x_set_s, upd_o (by omega)]) hv)
    rw [e1, x_set_s]
    by_cases e : j = i
    · rw [e, upd_s]
    · rw [upd_o (by omega)]; exact hw j (by omega)
theorem O_sheet (s : xS) (x1 x2 x3 : Int32) : oB m_Vp_sheet [xA 6 1, xI x1, xI x2, xI x3] m_Md_sheet [xA 7 2, xI x1, xI x2, xI x3, xU] s := by
  by_cases hp : p_rg x1 0 3
  · by_cases hl : p_rg x2 0 2
    · by_cases h6 : x3 ≤ 60
      · by_cases h0 : 0 ≤ x3
        · obtain ⟨k, hk, rfl⟩ := rg3.mp hp
          obtain ⟨r, hr, rfl⟩ := rg2.mp hl
          have h0' := h0
          have h6' := h6
          rw [fa_le, e_l0] at h0'
          rw [fa_le, e_l60] at h6'
          obtain ⟨n, rfl, en, -⟩ := z_of h0'
          have hn : n ≤ 60 := by omega
          have hin : vp_in (nI k) 4 := z_in hk (by decide)
          refine ⟨xI 1, uNew (uF s 0) k r n, fun w h => ?_, fun w h => ?_⟩
          · refine G_Vp_sheet_0 (fun w1 e1 => ?_)
            have g1 := sC_f h e1
            rw [z_ad hk]
            exact ⟨fun _ => ⟨fun _ => ⟨fun _ => ⟨fun _ => ⟨hin, S_Sh_getRow g1.1 hk hr hn (fun w' h' f' => G_Vp_sheet_51 (cF h' (fC_tr g1.2 f')))⟩, fun c => absurd h0 c⟩, fun c => absurd h6 c⟩, fun c => absurd hl c⟩, fun c => absurd hp c⟩
          · refine G_Md_sheet_0 (fun w1 e1 => ?_)
            have g1 := sM_f h e1
            refine ⟨fun _ => ⟨fun _ => ⟨fun _ => ⟨fun _ => ⟨hin, fun w2 e2 => ⟨hin, fun w3 e3 => ?_⟩⟩, fun c => absurd h0 c⟩, fun c => absurd h6 c⟩, fun c => absurd hl c⟩, fun c => absurd hp c⟩
            rw [z_cl' (by omega)] at e2 e3
            refine L_Md_sheet hk 60 0 w3 rfl (fun j hj => absurd hj (Nat.not_lt_zero _)) (fun w' hf ho hv => ?_)
            refine mF (sM_uSh g1.1 hk (by omega) hn (fun b b1 b2 b3 => ?_) (fun j hj hne => ⟨?_, ?_, fun i hi => ?_⟩) ⟨fun q => absurd q (by omega), fun _ => ⟨?_, ?_⟩, hv⟩) (fM_tr g1.2 (fun b b1 b2 => ?_))
            · rw [hf b b3, e3, x_set_o b2, e2, x_set_o b1]
            · rw [hf _ (by decide), e3, x_set_o (by decide), e2, x_set_s, upd_o hne]
            · rw [hf _ (by decide), e3, x_set_s, upd_o hne, e2, x_set_o (by decide)]
            · rw [ho _ (by omega), e3, x_set_o (by decide), e2, x_set_o (by decide)]
            · rw [hf _ (by decide), e3, x_set_o (by decide), e2, x_set_s, upd_s]; rfl
            · rw [hf _ (by decide), e3, x_set_s, upd_s]
            · rw [hf _ (by omega), e3, x_set_o (by omega), e2, x_set_o (by omega)]
        · refine ⟨xI (-14), uF s 4, fun w h => ?_, fun w h => ?_⟩
          · refine G_Vp_sheet_0 (fun w1 e1 => ⟨fun _ => ⟨fun _ => ⟨fun _ => ⟨fun c => absurd c h0, fun _ w2 e2 => ?_⟩, fun c => absurd h6 c⟩, fun c => absurd hl c⟩, fun c => absurd hp c⟩)
            have g1 := sC_f h e1
            have g2 := sC_f g1.1 e2
            exact cF g2.1 (fC_tr g1.2 g2.2)
          · refine G_Md_sheet_0 (fun w1 e1 => ⟨fun _ => ⟨fun _ => ⟨fun _ => ⟨fun c => absurd c h0, fun _ w2 e2 => ?_⟩, fun c => absurd h6 c⟩, fun c => absurd hl c⟩, fun c => absurd hp c⟩)
            have g1 := sM_f h e1
            have g2 := sM_f g1.1 e2
            exact mF g2.1 (fM_tr g1.2 g2.2)
      · exact ⟨xI (-2), uF s 0, fun w h => G_Vp_sheet_0 (fun w1 e1 => ⟨fun _ => ⟨fun _ => ⟨fun c => absurd c h6, fun _ => cF (sC_f h e1).1 (sC_f h e1).2⟩, fun c => absurd hl c⟩, fun c => absurd hp c⟩), fun w h => G_Md_sheet_0 (fun w1 e1 => ⟨fun _ => ⟨fun _ => ⟨fun c => absurd c h6, fun _ => mF (sM_f h e1).1 (sM_f h e1).2⟩, fun c => absurd hl c⟩, fun c => absurd hp c⟩)⟩
    · exact ⟨xI (-2), uF s 0, fun w h => G_Vp_sheet_0 (fun w1 e1 => ⟨fun _ => ⟨fun c => absurd c hl, fun _ => cF (sC_f h e1).1 (sC_f h e1).2⟩, fun c => absurd hp c⟩), fun w h => G_Md_sheet_0 (fun w1 e1 => ⟨fun _ => ⟨fun c => absurd c hl, fun _ => mF (sM_f h e1).1 (sM_f h e1).2⟩, fun c => absurd hp c⟩)⟩
  · exact ⟨xI (-1), uF s 0, fun w h => G_Vp_sheet_0 (fun w1 e1 => ⟨fun c => absurd c hp, fun _ => cF (sC_f h e1).1 (sC_f h e1).2⟩), fun w h => G_Md_sheet_0 (fun w1 e1 => ⟨fun c => absurd c hp, fun _ => mF (sM_f h e1).1 (sM_f h e1).2⟩)⟩
end
