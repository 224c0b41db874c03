-- ===== PART A: goes FIRST, ahead of the names: the tables' words, and 'selects' of the private methods out of them =====
/-- a private method of a class that the tables say can be made, by its rows of tables_1 -/
def lw_okq (q : MethodName × Nat) : Prop := (q.1.cls ≠ "java/lang/invoke/MethodHandle" ∧ q.1.cls ≠ "java/lang/invoke/VarHandle") ∧ Cond.instantiable q.1.cls q.2 ∈ tables_1 ∧ Cond.privateMethod q.1 ∈ tables_1 ∧ Cond.instanceMethod q.1 ∈ tables_1
theorem lw_p0 : lw_okq (⟨"FarDishes", "finding", "(I)I"⟩, 8) := ⟨⟨by decide +kernel, by decide +kernel⟩, List.mem_of_getElem? (i := 21) (by decide +kernel), List.mem_of_getElem? (i := 441) (by decide +kernel), List.mem_of_getElem? (i := 442) (by decide +kernel)⟩
theorem lw_p1 : lw_okq (⟨"FarDishes", "noDish", "(I)Z"⟩, 8) := ⟨⟨by decide +kernel, by decide +kernel⟩, List.mem_of_getElem? (i := 21) (by decide +kernel), List.mem_of_getElem? (i := 466) (by decide +kernel), List.mem_of_getElem? (i := 467) (by decide +kernel)⟩
theorem lw_p2 : lw_okq (⟨"FarDishes", "noCraft", "(I)Z"⟩, 8) := ⟨⟨by decide +kernel, by decide +kernel⟩, List.mem_of_getElem? (i := 21) (by decide +kernel), List.mem_of_getElem? (i := 502) (by decide +kernel), List.mem_of_getElem? (i := 503) (by decide +kernel)⟩
theorem lw_p3 : lw_okq (⟨"FarDishes$Craft", "sinceRise", "(II)I"⟩, 8) := ⟨⟨by decide +kernel, by decide +kernel⟩, List.mem_of_getElem? (i := 82) (by decide +kernel), List.mem_of_getElem? (i := 526) (by decide +kernel), List.mem_of_getElem? (i := 527) (by decide +kernel)⟩
theorem lw_p4 : lw_okq (⟨"FarDishes$Text", "readOne", "([II)Z"⟩, 8) := ⟨⟨by decide +kernel, by decide +kernel⟩, List.mem_of_getElem? (i := 352) (by decide +kernel), List.mem_of_getElem? (i := 574) (by decide +kernel), List.mem_of_getElem? (i := 575) (by decide +kernel)⟩
theorem lw_p5 : lw_okq (⟨"FarDishes$Text", "next", "()V"⟩, 8) := ⟨⟨by decide +kernel, by decide +kernel⟩, List.mem_of_getElem? (i := 352) (by decide +kernel), List.mem_of_getElem? (i := 578) (by decide +kernel), List.mem_of_getElem? (i := 579) (by decide +kernel)⟩
theorem lw_p6 : lw_okq (⟨"FarDishes$Text", "isLetter", "(I)Z"⟩, 8) := ⟨⟨by decide +kernel, by decide +kernel⟩, List.mem_of_getElem? (i := 352) (by decide +kernel), List.mem_of_getElem? (i := 582) (by decide +kernel), List.mem_of_getElem? (i := 583) (by decide +kernel)⟩
theorem lw_p7 : lw_okq (⟨"FarDishes$Text", "nextWord", "()V"⟩, 8) := ⟨⟨by decide +kernel, by decide +kernel⟩, List.mem_of_getElem? (i := 352) (by decide +kernel), List.mem_of_getElem? (i := 586) (by decide +kernel), List.mem_of_getElem? (i := 587) (by decide +kernel)⟩
theorem lw_p8 : lw_okq (⟨"FarDishes$Text", "wordBetween", "(II)I"⟩, 8) := ⟨⟨by decide +kernel, by decide +kernel⟩, List.mem_of_getElem? (i := 352) (by decide +kernel), List.mem_of_getElem? (i := 590) (by decide +kernel), List.mem_of_getElem? (i := 591) (by decide +kernel)⟩
theorem lw_p9 : lw_okq (⟨"FarDishes$Text", "isDigit", "(I)Z"⟩, 8) := ⟨⟨by decide +kernel, by decide +kernel⟩, List.mem_of_getElem? (i := 352) (by decide +kernel), List.mem_of_getElem? (i := 643) (by decide +kernel), List.mem_of_getElem? (i := 644) (by decide +kernel)⟩
theorem lw_p10 : lw_okq (⟨"FarDishes$Text", "nextNumber", "()V"⟩, 8) := ⟨⟨by decide +kernel, by decide +kernel⟩, List.mem_of_getElem? (i := 352) (by decide +kernel), List.mem_of_getElem? (i := 647) (by decide +kernel), List.mem_of_getElem? (i := 648) (by decide +kernel)⟩
theorem lw_p11 : lw_okq (⟨"FarDishes$Text", "readPair", "(III)Z"⟩, 8) := ⟨⟨by decide +kernel, by decide +kernel⟩, List.mem_of_getElem? (i := 352) (by decide +kernel), List.mem_of_getElem? (i := 655) (by decide +kernel), List.mem_of_getElem? (i := 656) (by decide +kernel)⟩
theorem lw_p12 : lw_okq (⟨"FarDishes$Text", "readNumber", "(II)Z"⟩, 8) := ⟨⟨by decide +kernel, by decide +kernel⟩, List.mem_of_getElem? (i := 352) (by decide +kernel), List.mem_of_getElem? (i := 659) (by decide +kernel), List.mem_of_getElem? (i := 660) (by decide +kernel)⟩
theorem lw_p13 : lw_okq (⟨"FarDishes$Text", "readWorth", "([I)Z"⟩, 8) := ⟨⟨by decide +kernel, by decide +kernel⟩, List.mem_of_getElem? (i := 352) (by decide +kernel), List.mem_of_getElem? (i := 663) (by decide +kernel), List.mem_of_getElem? (i := 664) (by decide +kernel)⟩
theorem lw_p14 : lw_okq (⟨"FarDishes", "noAsking", "(I)Z"⟩, 8) := ⟨⟨by decide +kernel, by decide +kernel⟩, List.mem_of_getElem? (i := 21) (by decide +kernel), List.mem_of_getElem? (i := 684) (by decide +kernel), List.mem_of_getElem? (i := 685) (by decide +kernel)⟩
theorem lw_p15 : lw_okq (⟨"FarDishes$Planner", "lookAt", "(LFarDishes$World;I)V"⟩, 12) := ⟨⟨by decide +kernel, by decide +kernel⟩, List.mem_of_getElem? (i := 307) (by decide +kernel), List.mem_of_getElem? (i := 725) (by decide +kernel), List.mem_of_getElem? (i := 726) (by decide +kernel)⟩
def lw_privs_1 : List (MethodName × Nat) := [(⟨"FarDishes", "finding", "(I)I"⟩, 8), (⟨"FarDishes", "noDish", "(I)Z"⟩, 8), (⟨"FarDishes", "noCraft", "(I)Z"⟩, 8), (⟨"FarDishes$Craft", "sinceRise", "(II)I"⟩, 8), (⟨"FarDishes$Text", "readOne", "([II)Z"⟩, 8), (⟨"FarDishes$Text", "next", "()V"⟩, 8), (⟨"FarDishes$Text", "isLetter", "(I)Z"⟩, 8), (⟨"FarDishes$Text", "nextWord", "()V"⟩, 8), (⟨"FarDishes$Text", "wordBetween", "(II)I"⟩, 8), (⟨"FarDishes$Text", "isDigit", "(I)Z"⟩, 8), (⟨"FarDishes$Text", "nextNumber", "()V"⟩, 8), (⟨"FarDishes$Text", "readPair", "(III)Z"⟩, 8), (⟨"FarDishes$Text", "readNumber", "(II)Z"⟩, 8), (⟨"FarDishes$Text", "readWorth", "([I)Z"⟩, 8), (⟨"FarDishes", "noAsking", "(I)Z"⟩, 8), (⟨"FarDishes$Planner", "lookAt", "(LFarDishes$World;I)V"⟩, 12)]
theorem lw_r1 : ∀ q ∈ lw_privs_1, lw_okq q := List.forall_mem_cons.mpr ⟨lw_p0, List.forall_mem_cons.mpr ⟨lw_p1, List.forall_mem_cons.mpr ⟨lw_p2, List.forall_mem_cons.mpr ⟨lw_p3, List.forall_mem_cons.mpr ⟨lw_p4, List.forall_mem_cons.mpr ⟨lw_p5, List.forall_mem_cons.mpr ⟨lw_p6, List.forall_mem_cons.mpr ⟨lw_p7, List.forall_mem_cons.mpr ⟨lw_p8, List.forall_mem_cons.mpr ⟨lw_p9, List.forall_mem_cons.mpr ⟨lw_p10, List.forall_mem_cons.mpr ⟨lw_p11, List.forall_mem_cons.mpr ⟨lw_p12, List.forall_mem_cons.mpr ⟨lw_p13, List.forall_mem_cons.mpr ⟨lw_p14, List.forall_mem_cons.mpr ⟨lw_p15, fun _ h => absurd h List.not_mem_nil⟩⟩⟩⟩⟩⟩⟩⟩⟩⟩⟩⟩⟩⟩⟩⟩
theorem lw_p16 : lw_okq (⟨"FarDishes$Planner", "solve", "(LFarDishes$World;)V"⟩, 12) := ⟨⟨by decide +kernel, by decide +kernel⟩, List.mem_of_getElem? (i := 307) (by decide +kernel), List.mem_of_getElem? (i := 730) (by decide +kernel), List.mem_of_getElem? (i := 731) (by decide +kernel)⟩
theorem lw_p17 : lw_okq (⟨"FarDishes$Planner", "findEnds", "(LFarDishes$World;)V"⟩, 12) := ⟨⟨by decide +kernel, by decide +kernel⟩, List.mem_of_getElem? (i := 307) (by decide +kernel), List.mem_of_getElem? (i := 734) (by decide +kernel), List.mem_of_getElem? (i := 735) (by decide +kernel)⟩
theorem lw_p18 : lw_okq (⟨"FarDishes$Planner", "findRest", "(LFarDishes$World;)V"⟩, 12) := ⟨⟨by decide +kernel, by decide +kernel⟩, List.mem_of_getElem? (i := 307) (by decide +kernel), List.mem_of_getElem? (i := 743) (by decide +kernel), List.mem_of_getElem? (i := 744) (by decide +kernel)⟩
theorem lw_p19 : lw_okq (⟨"FarDishes$Planner", "canStand", "(LFarDishes$World;I)Z"⟩, 12) := ⟨⟨by decide +kernel, by decide +kernel⟩, List.mem_of_getElem? (i := 307) (by decide +kernel), List.mem_of_getElem? (i := 747) (by decide +kernel), List.mem_of_getElem? (i := 748) (by decide +kernel)⟩
theorem lw_p20 : lw_okq (⟨"FarDishes$Planner", "startOn", "(LFarDishes$World;II)I"⟩, 12) := ⟨⟨by decide +kernel, by decide +kernel⟩, List.mem_of_getElem? (i := 307) (by decide +kernel), List.mem_of_getElem? (i := 751) (by decide +kernel), List.mem_of_getElem? (i := 752) (by decide +kernel)⟩
theorem lw_p21 : lw_okq (⟨"FarDishes$Planner", "tryFrom", "(LFarDishes$World;III)V"⟩, 12) := ⟨⟨by decide +kernel, by decide +kernel⟩, List.mem_of_getElem? (i := 307) (by decide +kernel), List.mem_of_getElem? (i := 756) (by decide +kernel), List.mem_of_getElem? (i := 757) (by decide +kernel)⟩
theorem lw_p22 : lw_okq (⟨"FarDishes$Planner", "canBeBetter", "(III)Z"⟩, 12) := ⟨⟨by decide +kernel, by decide +kernel⟩, List.mem_of_getElem? (i := 307) (by decide +kernel), List.mem_of_getElem? (i := 760) (by decide +kernel), List.mem_of_getElem? (i := 761) (by decide +kernel)⟩
theorem lw_p23 : lw_okq (⟨"FarDishes$Planner", "keepRow", "(II)V"⟩, 12) := ⟨⟨by decide +kernel, by decide +kernel⟩, List.mem_of_getElem? (i := 307) (by decide +kernel), List.mem_of_getElem? (i := 764) (by decide +kernel), List.mem_of_getElem? (i := 765) (by decide +kernel)⟩
theorem lw_p24 : lw_okq (⟨"FarDishes$Planner", "placeOf", "(I)I"⟩, 12) := ⟨⟨by decide +kernel, by decide +kernel⟩, List.mem_of_getElem? (i := 307) (by decide +kernel), List.mem_of_getElem? (i := 775) (by decide +kernel), List.mem_of_getElem? (i := 776) (by decide +kernel)⟩
theorem lw_p25 : lw_okq (⟨"FarDishes$World", "startAskings", "()V"⟩, 9) := ⟨⟨by decide +kernel, by decide +kernel⟩, List.mem_of_getElem? (i := 29) (by decide +kernel), List.mem_of_getElem? (i := 855) (by decide +kernel), List.mem_of_getElem? (i := 856) (by decide +kernel)⟩
theorem lw_p26 : lw_okq (⟨"FarDishes$World", "serve", "(I)I"⟩, 9) := ⟨⟨by decide +kernel, by decide +kernel⟩, List.mem_of_getElem? (i := 29) (by decide +kernel), List.mem_of_getElem? (i := 859) (by decide +kernel), List.mem_of_getElem? (i := 860) (by decide +kernel)⟩
theorem lw_p27 : lw_okq (⟨"FarDishes$World", "finishAskings", "()V"⟩, 9) := ⟨⟨by decide +kernel, by decide +kernel⟩, List.mem_of_getElem? (i := 29) (by decide +kernel), List.mem_of_getElem? (i := 876) (by decide +kernel), List.mem_of_getElem? (i := 877) (by decide +kernel)⟩
theorem lw_p28 : lw_okq (⟨"FarDishes$World", "makeBlocks", "()V"⟩, 9) := ⟨⟨by decide +kernel, by decide +kernel⟩, List.mem_of_getElem? (i := 29) (by decide +kernel), List.mem_of_getElem? (i := 885) (by decide +kernel), List.mem_of_getElem? (i := 886) (by decide +kernel)⟩
theorem lw_p29 : lw_okq (⟨"FarDishes$Blocks", "makeRoom", "()V"⟩, 8) := ⟨⟨by decide +kernel, by decide +kernel⟩, List.mem_of_getElem? (i := 88) (by decide +kernel), List.mem_of_getElem? (i := 893) (by decide +kernel), List.mem_of_getElem? (i := 894) (by decide +kernel)⟩
theorem lw_p30 : lw_okq (⟨"FarDishes$Blocks", "longestSent", "()I"⟩, 8) := ⟨⟨by decide +kernel, by decide +kernel⟩, List.mem_of_getElem? (i := 88) (by decide +kernel), List.mem_of_getElem? (i := 897) (by decide +kernel), List.mem_of_getElem? (i := 898) (by decide +kernel)⟩
theorem lw_p31 : lw_okq (⟨"FarDishes$Blocks", "takeOut", "(I)V"⟩, 8) := ⟨⟨by decide +kernel, by decide +kernel⟩, List.mem_of_getElem? (i := 88) (by decide +kernel), List.mem_of_getElem? (i := 901) (by decide +kernel), List.mem_of_getElem? (i := 902) (by decide +kernel)⟩
def lw_privs_2 : List (MethodName × Nat) := [(⟨"FarDishes$Planner", "solve", "(LFarDishes$World;)V"⟩, 12), (⟨"FarDishes$Planner", "findEnds", "(LFarDishes$World;)V"⟩, 12), (⟨"FarDishes$Planner", "findRest", "(LFarDishes$World;)V"⟩, 12), (⟨"FarDishes$Planner", "canStand", "(LFarDishes$World;I)Z"⟩, 12), (⟨"FarDishes$Planner", "startOn", "(LFarDishes$World;II)I"⟩, 12), (⟨"FarDishes$Planner", "tryFrom", "(LFarDishes$World;III)V"⟩, 12), (⟨"FarDishes$Planner", "canBeBetter", "(III)Z"⟩, 12), (⟨"FarDishes$Planner", "keepRow", "(II)V"⟩, 12), (⟨"FarDishes$Planner", "placeOf", "(I)I"⟩, 12), (⟨"FarDishes$World", "startAskings", "()V"⟩, 9), (⟨"FarDishes$World", "serve", "(I)I"⟩, 9), (⟨"FarDishes$World", "finishAskings", "()V"⟩, 9), (⟨"FarDishes$World", "makeBlocks", "()V"⟩, 9), (⟨"FarDishes$Blocks", "makeRoom", "()V"⟩, 8), (⟨"FarDishes$Blocks", "longestSent", "()I"⟩, 8), (⟨"FarDishes$Blocks", "takeOut", "(I)V"⟩, 8)]
theorem lw_r2 : ∀ q ∈ lw_privs_2, lw_okq q := List.forall_mem_cons.mpr ⟨lw_p16, List.forall_mem_cons.mpr ⟨lw_p17, List.forall_mem_cons.mpr ⟨lw_p18, List.forall_mem_cons.mpr ⟨lw_p19, List.forall_mem_cons.mpr ⟨lw_p20, List.forall_mem_cons.mpr ⟨lw_p21, List.forall_mem_cons.mpr ⟨lw_p22, List.forall_mem_cons.mpr ⟨lw_p23, List.forall_mem_cons.mpr ⟨lw_p24, List.forall_mem_cons.mpr ⟨lw_p25, List.forall_mem_cons.mpr ⟨lw_p26, List.forall_mem_cons.mpr ⟨lw_p27, List.forall_mem_cons.mpr ⟨lw_p28, List.forall_mem_cons.mpr ⟨lw_p29, List.forall_mem_cons.mpr ⟨lw_p30, List.forall_mem_cons.mpr ⟨lw_p31, fun _ h => absurd h List.not_mem_nil⟩⟩⟩⟩⟩⟩⟩⟩⟩⟩⟩⟩⟩⟩⟩⟩
theorem lw_p32 : lw_okq (⟨"FarDishes", "noOrder", "(II)Z"⟩, 8) := ⟨⟨by decide +kernel, by decide +kernel⟩, List.mem_of_getElem? (i := 21) (by decide +kernel), List.mem_of_getElem? (i := 939) (by decide +kernel), List.mem_of_getElem? (i := 940) (by decide +kernel)⟩
theorem lw_p33 : lw_okq (⟨"FarDishes$Search", "bestBut", "(J)I"⟩, 2) := ⟨⟨by decide +kernel, by decide +kernel⟩, List.mem_of_getElem? (i := 41) (by decide +kernel), List.mem_of_getElem? (i := 993) (by decide +kernel), List.mem_of_getElem? (i := 994) (by decide +kernel)⟩
theorem lw_p34 : lw_okq (⟨"FarDishes$Search", "oddsLeft", "()I"⟩, 2) := ⟨⟨by decide +kernel, by decide +kernel⟩, List.mem_of_getElem? (i := 41) (by decide +kernel), List.mem_of_getElem? (i := 1008) (by decide +kernel), List.mem_of_getElem? (i := 1009) (by decide +kernel)⟩
theorem lw_p35 : lw_okq (⟨"FarDishesModel", "becomes", "(II)I"⟩, 28) := ⟨⟨by decide +kernel, by decide +kernel⟩, List.mem_of_getElem? (i := 1114) (by decide +kernel), List.mem_of_getElem? (i := 1216) (by decide +kernel), List.mem_of_getElem? (i := 1217) (by decide +kernel)⟩
theorem lw_p36 : lw_okq (⟨"FarDishesModel", "finds", "(I)I"⟩, 28) := ⟨⟨by decide +kernel, by decide +kernel⟩, List.mem_of_getElem? (i := 1114) (by decide +kernel), List.mem_of_getElem? (i := 1221) (by decide +kernel), List.mem_of_getElem? (i := 1222) (by decide +kernel)⟩
theorem lw_p37 : lw_okq (⟨"FarDishesModel", "isDish", "(I)Z"⟩, 28) := ⟨⟨by decide +kernel, by decide +kernel⟩, List.mem_of_getElem? (i := 1114) (by decide +kernel), List.mem_of_getElem? (i := 1234) (by decide +kernel), List.mem_of_getElem? (i := 1235) (by decide +kernel)⟩
theorem lw_p38 : lw_okq (⟨"FarDishesModel", "running", "(I)I"⟩, 28) := ⟨⟨by decide +kernel, by decide +kernel⟩, List.mem_of_getElem? (i := 1114) (by decide +kernel), List.mem_of_getElem? (i := 1242) (by decide +kernel), List.mem_of_getElem? (i := 1243) (by decide +kernel)⟩
theorem lw_p39 : lw_okq (⟨"FarDishesModel", "isCraft", "(I)Z"⟩, 28) := ⟨⟨by decide +kernel, by decide +kernel⟩, List.mem_of_getElem? (i := 1114) (by decide +kernel), List.mem_of_getElem? (i := 1254) (by decide +kernel), List.mem_of_getElem? (i := 1255) (by decide +kernel)⟩
theorem lw_p40 : lw_okq (⟨"FarDishesModel", "isUp", "(III)Z"⟩, 28) := ⟨⟨by decide +kernel, by decide +kernel⟩, List.mem_of_getElem? (i := 1114) (by decide +kernel), List.mem_of_getElem? (i := 1269) (by decide +kernel), List.mem_of_getElem? (i := 1270) (by decide +kernel)⟩
theorem lw_p41 : lw_okq (⟨"FarDishesModel", "since", "(III)I"⟩, 28) := ⟨⟨by decide +kernel, by decide +kernel⟩, List.mem_of_getElem? (i := 1114) (by decide +kernel), List.mem_of_getElem? (i := 1273) (by decide +kernel), List.mem_of_getElem? (i := 1274) (by decide +kernel)⟩
theorem lw_p42 : lw_okq (⟨"FarDishesModel", "risesAt", "(IIII)I"⟩, 28) := ⟨⟨by decide +kernel, by decide +kernel⟩, List.mem_of_getElem? (i := 1114) (by decide +kernel), List.mem_of_getElem? (i := 1281) (by decide +kernel), List.mem_of_getElem? (i := 1282) (by decide +kernel)⟩
theorem lw_p43 : lw_okq (⟨"FarDishesModel", "linkOf", "(III)I"⟩, 28) := ⟨⟨by decide +kernel, by decide +kernel⟩, List.mem_of_getElem? (i := 1114) (by decide +kernel), List.mem_of_getElem? (i := 1290) (by decide +kernel), List.mem_of_getElem? (i := 1291) (by decide +kernel)⟩
theorem lw_p44 : lw_okq (⟨"FarDishesModel", "readAll", "()I"⟩, 28) := ⟨⟨by decide +kernel, by decide +kernel⟩, List.mem_of_getElem? (i := 1114) (by decide +kernel), List.mem_of_getElem? (i := 1306) (by decide +kernel), List.mem_of_getElem? (i := 1307) (by decide +kernel)⟩
theorem lw_p45 : lw_okq (⟨"FarDishesModel", "next", "()V"⟩, 28) := ⟨⟨by decide +kernel, by decide +kernel⟩, List.mem_of_getElem? (i := 1114) (by decide +kernel), List.mem_of_getElem? (i := 1310) (by decide +kernel), List.mem_of_getElem? (i := 1311) (by decide +kernel)⟩
theorem lw_p46 : lw_okq (⟨"FarDishesModel", "byteAt", "(I)I"⟩, 28) := ⟨⟨by decide +kernel, by decide +kernel⟩, List.mem_of_getElem? (i := 1114) (by decide +kernel), List.mem_of_getElem? (i := 1314) (by decide +kernel), List.mem_of_getElem? (i := 1315) (by decide +kernel)⟩
theorem lw_p47 : lw_okq (⟨"FarDishesModel", "isLetter", "(I)Z"⟩, 28) := ⟨⟨by decide +kernel, by decide +kernel⟩, List.mem_of_getElem? (i := 1114) (by decide +kernel), List.mem_of_getElem? (i := 1318) (by decide +kernel), List.mem_of_getElem? (i := 1319) (by decide +kernel)⟩
def lw_privs_3 : List (MethodName × Nat) := [(⟨"FarDishes", "noOrder", "(II)Z"⟩, 8), (⟨"FarDishes$Search", "bestBut", "(J)I"⟩, 2), (⟨"FarDishes$Search", "oddsLeft", "()I"⟩, 2), (⟨"FarDishesModel", "becomes", "(II)I"⟩, 28), (⟨"FarDishesModel", "finds", "(I)I"⟩, 28), (⟨"FarDishesModel", "isDish", "(I)Z"⟩, 28), (⟨"FarDishesModel", "running", "(I)I"⟩, 28), (⟨"FarDishesModel", "isCraft", "(I)Z"⟩, 28), (⟨"FarDishesModel", "isUp", "(III)Z"⟩, 28), (⟨"FarDishesModel", "since", "(III)I"⟩, 28), (⟨"FarDishesModel", "risesAt", "(IIII)I"⟩, 28), (⟨"FarDishesModel", "linkOf", "(III)I"⟩, 28), (⟨"FarDishesModel", "readAll", "()I"⟩, 28), (⟨"FarDishesModel", "next", "()V"⟩, 28), (⟨"FarDishesModel", "byteAt", "(I)I"⟩, 28), (⟨"FarDishesModel", "isLetter", "(I)Z"⟩, 28)]
theorem lw_r3 : ∀ q ∈ lw_privs_3, lw_okq q := List.forall_mem_cons.mpr ⟨lw_p32, List.forall_mem_cons.mpr ⟨lw_p33, List.forall_mem_cons.mpr ⟨lw_p34, List.forall_mem_cons.mpr ⟨lw_p35, List.forall_mem_cons.mpr ⟨lw_p36, List.forall_mem_cons.mpr ⟨lw_p37, List.forall_mem_cons.mpr ⟨lw_p38, List.forall_mem_cons.mpr ⟨lw_p39, List.forall_mem_cons.mpr ⟨lw_p40, List.forall_mem_cons.mpr ⟨lw_p41, List.forall_mem_cons.mpr ⟨lw_p42, List.forall_mem_cons.mpr ⟨lw_p43, List.forall_mem_cons.mpr ⟨lw_p44, List.forall_mem_cons.mpr ⟨lw_p45, List.forall_mem_cons.mpr ⟨lw_p46, List.forall_mem_cons.mpr ⟨lw_p47, fun _ h => absurd h List.not_mem_nil⟩⟩⟩⟩⟩⟩⟩⟩⟩⟩⟩⟩⟩⟩⟩⟩
theorem lw_p48 : lw_okq (⟨"FarDishesModel", "wordOf", "(I)I"⟩, 28) := ⟨⟨by decide +kernel, by decide +kernel⟩, List.mem_of_getElem? (i := 1114) (by decide +kernel), List.mem_of_getElem? (i := 1322) (by decide +kernel), List.mem_of_getElem? (i := 1323) (by decide +kernel)⟩
theorem lw_p49 : lw_okq (⟨"FarDishesModel", "isDigit", "(I)Z"⟩, 28) := ⟨⟨by decide +kernel, by decide +kernel⟩, List.mem_of_getElem? (i := 1114) (by decide +kernel), List.mem_of_getElem? (i := 1326) (by decide +kernel), List.mem_of_getElem? (i := 1327) (by decide +kernel)⟩
theorem lw_p50 : lw_okq (⟨"FarDishesModel", "reads", "(I)V"⟩, 28) := ⟨⟨by decide +kernel, by decide +kernel⟩, List.mem_of_getElem? (i := 1114) (by decide +kernel), List.mem_of_getElem? (i := 1330) (by decide +kernel), List.mem_of_getElem? (i := 1331) (by decide +kernel)⟩
theorem lw_p51 : lw_okq (⟨"FarDishesModel", "wrong", "()V"⟩, 28) := ⟨⟨by decide +kernel, by decide +kernel⟩, List.mem_of_getElem? (i := 1114) (by decide +kernel), List.mem_of_getElem? (i := 1334) (by decide +kernel), List.mem_of_getElem? (i := 1335) (by decide +kernel)⟩
theorem lw_p52 : lw_okq (⟨"FarDishesModel", "after", "(III)I"⟩, 28) := ⟨⟨by decide +kernel, by decide +kernel⟩, List.mem_of_getElem? (i := 1114) (by decide +kernel), List.mem_of_getElem? (i := 1338) (by decide +kernel), List.mem_of_getElem? (i := 1339) (by decide +kernel)⟩
theorem lw_p53 : lw_okq (⟨"FarDishesModel", "isAsking", "(I)Z"⟩, 28) := ⟨⟨by decide +kernel, by decide +kernel⟩, List.mem_of_getElem? (i := 1114) (by decide +kernel), List.mem_of_getElem? (i := 1346) (by decide +kernel), List.mem_of_getElem? (i := 1347) (by decide +kernel)⟩
theorem lw_p54 : lw_okq (⟨"FarDishesModel", "weightOf", "(I)I"⟩, 28) := ⟨⟨by decide +kernel, by decide +kernel⟩, List.mem_of_getElem? (i := 1114) (by decide +kernel), List.mem_of_getElem? (i := 1350) (by decide +kernel), List.mem_of_getElem? (i := 1351) (by decide +kernel)⟩
theorem lw_p55 : lw_okq (⟨"FarDishesModel", "waits", "(I)V"⟩, 28) := ⟨⟨by decide +kernel, by decide +kernel⟩, List.mem_of_getElem? (i := 1114) (by decide +kernel), List.mem_of_getElem? (i := 1370) (by decide +kernel), List.mem_of_getElem? (i := 1371) (by decide +kernel)⟩
theorem lw_p56 : lw_okq (⟨"FarDishesModel", "planNow", "()V"⟩, 28) := ⟨⟨by decide +kernel, by decide +kernel⟩, List.mem_of_getElem? (i := 1114) (by decide +kernel), List.mem_of_getElem? (i := 1378) (by decide +kernel), List.mem_of_getElem? (i := 1379) (by decide +kernel)⟩
theorem lw_p57 : lw_okq (⟨"FarDishesModel", "looks", "(I)V"⟩, 28) := ⟨⟨by decide +kernel, by decide +kernel⟩, List.mem_of_getElem? (i := 1114) (by decide +kernel), List.mem_of_getElem? (i := 1382) (by decide +kernel), List.mem_of_getElem? (i := 1383) (by decide +kernel)⟩
theorem lw_p58 : lw_okq (⟨"FarDishesModel", "plans", "()V"⟩, 28) := ⟨⟨by decide +kernel, by decide +kernel⟩, List.mem_of_getElem? (i := 1114) (by decide +kernel), List.mem_of_getElem? (i := 1386) (by decide +kernel), List.mem_of_getElem? (i := 1387) (by decide +kernel)⟩
theorem lw_p59 : lw_okq (⟨"FarDishesModel", "findFree", "()V"⟩, 28) := ⟨⟨by decide +kernel, by decide +kernel⟩, List.mem_of_getElem? (i := 1114) (by decide +kernel), List.mem_of_getElem? (i := 1390) (by decide +kernel), List.mem_of_getElem? (i := 1391) (by decide +kernel)⟩
theorem lw_p60 : lw_okq (⟨"FarDishesModel", "tries", "(III)V"⟩, 28) := ⟨⟨by decide +kernel, by decide +kernel⟩, List.mem_of_getElem? (i := 1114) (by decide +kernel), List.mem_of_getElem? (i := 1394) (by decide +kernel), List.mem_of_getElem? (i := 1395) (by decide +kernel)⟩
theorem lw_p61 : lw_okq (⟨"FarDishesModel", "fits", "(II)I"⟩, 28) := ⟨⟨by decide +kernel, by decide +kernel⟩, List.mem_of_getElem? (i := 1114) (by decide +kernel), List.mem_of_getElem? (i := 1398) (by decide +kernel), List.mem_of_getElem? (i := 1399) (by decide +kernel)⟩
theorem lw_p62 : lw_okq (⟨"FarDishesModel", "isIn", "(I)Z"⟩, 28) := ⟨⟨by decide +kernel, by decide +kernel⟩, List.mem_of_getElem? (i := 1114) (by decide +kernel), List.mem_of_getElem? (i := 1402) (by decide +kernel), List.mem_of_getElem? (i := 1403) (by decide +kernel)⟩
theorem lw_p63 : lw_okq (⟨"FarDishesModel", "placeOf", "(I)I"⟩, 28) := ⟨⟨by decide +kernel, by decide +kernel⟩, List.mem_of_getElem? (i := 1114) (by decide +kernel), List.mem_of_getElem? (i := 1406) (by decide +kernel), List.mem_of_getElem? (i := 1407) (by decide +kernel)⟩
def lw_privs_4 : List (MethodName × Nat) := [(⟨"FarDishesModel", "wordOf", "(I)I"⟩, 28), (⟨"FarDishesModel", "isDigit", "(I)Z"⟩, 28), (⟨"FarDishesModel", "reads", "(I)V"⟩, 28), (⟨"FarDishesModel", "wrong", "()V"⟩, 28), (⟨"FarDishesModel", "after", "(III)I"⟩, 28), (⟨"FarDishesModel", "isAsking", "(I)Z"⟩, 28), (⟨"FarDishesModel", "weightOf", "(I)I"⟩, 28), (⟨"FarDishesModel", "waits", "(I)V"⟩, 28), (⟨"FarDishesModel", "planNow", "()V"⟩, 28), (⟨"FarDishesModel", "looks", "(I)V"⟩, 28), (⟨"FarDishesModel", "plans", "()V"⟩, 28), (⟨"FarDishesModel", "findFree", "()V"⟩, 28), (⟨"FarDishesModel", "tries", "(III)V"⟩, 28), (⟨"FarDishesModel", "fits", "(II)I"⟩, 28), (⟨"FarDishesModel", "isIn", "(I)Z"⟩, 28), (⟨"FarDishesModel", "placeOf", "(I)I"⟩, 28)]
theorem lw_r4 : ∀ q ∈ lw_privs_4, lw_okq q := List.forall_mem_cons.mpr ⟨lw_p48, List.forall_mem_cons.mpr ⟨lw_p49, List.forall_mem_cons.mpr ⟨lw_p50, List.forall_mem_cons.mpr ⟨lw_p51, List.forall_mem_cons.mpr ⟨lw_p52, List.forall_mem_cons.mpr ⟨lw_p53, List.forall_mem_cons.mpr ⟨lw_p54, List.forall_mem_cons.mpr ⟨lw_p55, List.forall_mem_cons.mpr ⟨lw_p56, List.forall_mem_cons.mpr ⟨lw_p57, List.forall_mem_cons.mpr ⟨lw_p58, List.forall_mem_cons.mpr ⟨lw_p59, List.forall_mem_cons.mpr ⟨lw_p60, List.forall_mem_cons.mpr ⟨lw_p61, List.forall_mem_cons.mpr ⟨lw_p62, List.forall_mem_cons.mpr ⟨lw_p63, fun _ h => absurd h List.not_mem_nil⟩⟩⟩⟩⟩⟩⟩⟩⟩⟩⟩⟩⟩⟩⟩⟩
theorem lw_p64 : lw_okq (⟨"FarDishesModel", "inPlan", "()I"⟩, 28) := ⟨⟨by decide +kernel, by decide +kernel⟩, List.mem_of_getElem? (i := 1114) (by decide +kernel), List.mem_of_getElem? (i := 1422) (by decide +kernel), List.mem_of_getElem? (i := 1423) (by decide +kernel)⟩
theorem lw_p65 : lw_okq (⟨"FarDishesModel", "isAlone", "(I)Z"⟩, 28) := ⟨⟨by decide +kernel, by decide +kernel⟩, List.mem_of_getElem? (i := 1114) (by decide +kernel), List.mem_of_getElem? (i := 1430) (by decide +kernel), List.mem_of_getElem? (i := 1431) (by decide +kernel)⟩
theorem lw_p66 : lw_okq (⟨"FarDishesModel", "goes", "()I"⟩, 28) := ⟨⟨by decide +kernel, by decide +kernel⟩, List.mem_of_getElem? (i := 1114) (by decide +kernel), List.mem_of_getElem? (i := 1455) (by decide +kernel), List.mem_of_getElem? (i := 1456) (by decide +kernel)⟩
theorem lw_p67 : lw_okq (⟨"FarDishesModel", "sends", "(II)I"⟩, 28) := ⟨⟨by decide +kernel, by decide +kernel⟩, List.mem_of_getElem? (i := 1114) (by decide +kernel), List.mem_of_getElem? (i := 1459) (by decide +kernel), List.mem_of_getElem? (i := 1460) (by decide +kernel)⟩
theorem lw_p68 : lw_okq (⟨"FarDishesModel", "ordersGo", "(I)V"⟩, 28) := ⟨⟨by decide +kernel, by decide +kernel⟩, List.mem_of_getElem? (i := 1114) (by decide +kernel), List.mem_of_getElem? (i := 1463) (by decide +kernel), List.mem_of_getElem? (i := 1464) (by decide +kernel)⟩
theorem lw_p69 : lw_okq (⟨"FarDishesModel", "ordersEnd", "()V"⟩, 28) := ⟨⟨by decide +kernel, by decide +kernel⟩, List.mem_of_getElem? (i := 1114) (by decide +kernel), List.mem_of_getElem? (i := 1467) (by decide +kernel), List.mem_of_getElem? (i := 1468) (by decide +kernel)⟩
theorem lw_p70 : lw_okq (⟨"FarDishesModel", "makes", "(I)V"⟩, 28) := ⟨⟨by decide +kernel, by decide +kernel⟩, List.mem_of_getElem? (i := 1114) (by decide +kernel), List.mem_of_getElem? (i := 1471) (by decide +kernel), List.mem_of_getElem? (i := 1472) (by decide +kernel)⟩
theorem lw_p71 : lw_okq (⟨"FarDishesModel", "takesOut", "(II)V"⟩, 28) := ⟨⟨by decide +kernel, by decide +kernel⟩, List.mem_of_getElem? (i := 1114) (by decide +kernel), List.mem_of_getElem? (i := 1475) (by decide +kernel), List.mem_of_getElem? (i := 1476) (by decide +kernel)⟩
theorem lw_p72 : lw_okq (⟨"FarDishesModel", "keeps", "([I[I)V"⟩, 28) := ⟨⟨by decide +kernel, by decide +kernel⟩, List.mem_of_getElem? (i := 1114) (by decide +kernel), List.mem_of_getElem? (i := 1491) (by decide +kernel), List.mem_of_getElem? (i := 1492) (by decide +kernel)⟩
theorem lw_p73 : lw_okq (⟨"FarDishesModel", "isOrder", "(II)Z"⟩, 28) := ⟨⟨by decide +kernel, by decide +kernel⟩, List.mem_of_getElem? (i := 1114) (by decide +kernel), List.mem_of_getElem? (i := 1503) (by decide +kernel), List.mem_of_getElem? (i := 1504) (by decide +kernel)⟩
theorem lw_p74 : lw_okq (⟨"FarDishesModel", "daysOf", "(II)I"⟩, 28) := ⟨⟨by decide +kernel, by decide +kernel⟩, List.mem_of_getElem? (i := 1114) (by decide +kernel), List.mem_of_getElem? (i := 1522) (by decide +kernel), List.mem_of_getElem? (i := 1523) (by decide +kernel)⟩
theorem lw_p75 : lw_okq (⟨"FarDishesModel", "nextCell", "(I)I"⟩, 28) := ⟨⟨by decide +kernel, by decide +kernel⟩, List.mem_of_getElem? (i := 1114) (by decide +kernel), List.mem_of_getElem? (i := 1538) (by decide +kernel), List.mem_of_getElem? (i := 1539) (by decide +kernel)⟩
theorem lw_p76 : lw_okq (⟨"FarDishesModel", "manyIn", "(I)I"⟩, 28) := ⟨⟨by decide +kernel, by decide +kernel⟩, List.mem_of_getElem? (i := 1114) (by decide +kernel), List.mem_of_getElem? (i := 1578) (by decide +kernel), List.mem_of_getElem? (i := 1579) (by decide +kernel)⟩
def lw_privs_5 : List (MethodName × Nat) := [(⟨"FarDishesModel", "inPlan", "()I"⟩, 28), (⟨"FarDishesModel", "isAlone", "(I)Z"⟩, 28), (⟨"FarDishesModel", "goes", "()I"⟩, 28), (⟨"FarDishesModel", "sends", "(II)I"⟩, 28), (⟨"FarDishesModel", "ordersGo", "(I)V"⟩, 28), (⟨"FarDishesModel", "ordersEnd", "()V"⟩, 28), (⟨"FarDishesModel", "makes", "(I)V"⟩, 28), (⟨"FarDishesModel", "takesOut", "(II)V"⟩, 28), (⟨"FarDishesModel", "keeps", "([I[I)V"⟩, 28), (⟨"FarDishesModel", "isOrder", "(II)Z"⟩, 28), (⟨"FarDishesModel", "daysOf", "(II)I"⟩, 28), (⟨"FarDishesModel", "nextCell", "(I)I"⟩, 28), (⟨"FarDishesModel", "manyIn", "(I)I"⟩, 28)]
theorem lw_r5 : ∀ q ∈ lw_privs_5, lw_okq q := List.forall_mem_cons.mpr ⟨lw_p64, List.forall_mem_cons.mpr ⟨lw_p65, List.forall_mem_cons.mpr ⟨lw_p66, List.forall_mem_cons.mpr ⟨lw_p67, List.forall_mem_cons.mpr ⟨lw_p68, List.forall_mem_cons.mpr ⟨lw_p69, List.forall_mem_cons.mpr ⟨lw_p70, List.forall_mem_cons.mpr ⟨lw_p71, List.forall_mem_cons.mpr ⟨lw_p72, List.forall_mem_cons.mpr ⟨lw_p73, List.forall_mem_cons.mpr ⟨lw_p74, List.forall_mem_cons.mpr ⟨lw_p75, List.forall_mem_cons.mpr ⟨lw_p76, fun _ h => absurd h List.not_mem_nil⟩⟩⟩⟩⟩⟩⟩⟩⟩⟩⟩⟩⟩
def lw_privs : List (MethodName × Nat) := lw_privs_1 ++ (lw_privs_2 ++ (lw_privs_3 ++ (lw_privs_4 ++ (lw_privs_5))))
def lw_tbl : List Cond := k2_sels lw_privs ++ tables_1
theorem lw_privs_ok : ∀ q ∈ lw_privs, lw_okq q := by
  show ∀ q ∈ lw_privs_1 ++ (lw_privs_2 ++ (lw_privs_3 ++ (lw_privs_4 ++ (lw_privs_5)))), lw_okq q
  exact List.forall_mem_append.mpr ⟨lw_r1, List.forall_mem_append.mpr ⟨lw_r2, List.forall_mem_append.mpr ⟨lw_r3, List.forall_mem_append.mpr ⟨lw_r4, lw_r5⟩⟩⟩⟩
def RX0 : String := "FarDishes$Asking"
def TX0 : u_T := fun k => match k with
  | 0 => ("FarDishes$Asking", "kind", "I", false)
  | 1 => ("FarDishes$Asking", "craft", "I", false)
  | 2 => ("FarDishes$Asking", "n", "I", false)
  | 3 => ("FarDishes$Asking", "from", "I", false)
  | 4 => ("FarDishes$Asking", "to", "I", false)
  | 5 => ("FarDishes$Asking", "worth", "I", false)
  | 6 => ("FarDishes$Asking", "state", "I", false)
  | 7 => ("FarDishes$Asking", "dish", "I", false)
  | _ => ("FarDishes$Asking", "start", "I", false)
def tyX0 : Nat → FieldType := fun k => match k with
  | 0 => .int
  | 1 => .int
  | 2 => .int
  | 3 => .int
  | 4 => .int
  | 5 => .int
  | 6 => .int
  | 7 => .int
  | _ => .int
abbrev wsX00 : List Cond := u_ws RX0 TX0 9
theorem nmX0 : ∀ a, a < 9 → ∀ b, b < 9 → a ≠ b → (TX0 a).2.1 ≠ (TX0 b).2.1 := by decide +kernel
theorem tyX0_ok : ∀ k, k < 9 → parseFieldDescriptor (TX0 k).2.2.1 = some (tyX0 k) := by decide +kernel
abbrev cX0_init : ByteArray := prog_2_method_1_code
def yX0_init : MethodName := ⟨RX0, "<init>", "()V"⟩
abbrev cX0_begin : ByteArray := prog_2_method_2_code
def yX0_begin : MethodName := ⟨RX0, "begin", "([I)V"⟩
abbrev cX0_become : ByteArray := prog_2_method_3_code
def yX0_become : MethodName := ⟨RX0, "become", "(LFarDishes$Asking;)V"⟩
abbrev cX0_waitAgain : ByteArray := prog_2_method_4_code
def yX0_waitAgain : MethodName := ⟨RX0, "waitAgain", "()V"⟩
abbrev cX0_planOn : ByteArray := prog_2_method_5_code
def yX0_planOn : MethodName := ⟨RX0, "planOn", "(II)V"⟩
abbrev cX0_end : ByteArray := prog_2_method_6_code
def yX0_end : MethodName := ⟨RX0, "end", "()I"⟩
abbrev cX0_isOf : ByteArray := prog_2_method_7_code
def yX0_isOf : MethodName := ⟨RX0, "isOf", "(I)Z"⟩
abbrev cX0_weightWith : ByteArray := prog_2_method_8_code
def yX0_weightWith : MethodName := ⟨RX0, "weightWith", "(II)I"⟩
def RX1 : String := "FarDishes$Blocks"
def TX1 : u_T := fun k => match k with
  | 0 => ("FarDishes$Blocks", "room", "I", false)
  | 1 => ("FarDishes$Blocks", "size", "I", false)
  | 2 => ("FarDishes$Blocks", "made", "I", false)
  | 3 => ("FarDishes$Blocks", "had", "I", false)
  | 4 => ("FarDishes$Blocks", "dropped", "I", false)
  | 5 => ("FarDishes$Blocks", "lost", "I", false)
  | 6 => ("FarDishes$Blocks", "number", "[I", true)
  | _ => ("FarDishes$Blocks", "sent", "[I", true)
def tyX1 : Nat → FieldType := fun k => match k with
  | 0 => .int
  | 1 => .int
  | 2 => .int
  | 3 => .int
  | 4 => .int
  | 5 => .int
  | 6 => .array .int
  | _ => .array .int
abbrev wsX10 : List Cond := u_ws RX1 TX1 8
theorem nmX1 : ∀ a, a < 8 → ∀ b, b < 8 → a ≠ b → (TX1 a).2.1 ≠ (TX1 b).2.1 := by decide +kernel
theorem tyX1_ok : ∀ k, k < 8 → parseFieldDescriptor (TX1 k).2.2.1 = some (tyX1 k) := by decide +kernel
abbrev cX1_init : ByteArray := prog_3_method_1_code
def yX1_init : MethodName := ⟨RX1, "<init>", "()V"⟩
abbrev cX1_begin : ByteArray := prog_3_method_2_code
def yX1_begin : MethodName := ⟨RX1, "begin", "(I)V"⟩
abbrev cX1_become : ByteArray := prog_3_method_3_code
def yX1_become : MethodName := ⟨RX1, "become", "(LFarDishes$Blocks;)V"⟩
abbrev cX1_held : ByteArray := prog_3_method_4_code
def yX1_held : MethodName := ⟨RX1, "held", "()I"⟩
abbrev cX1_makeOne : ByteArray := prog_3_method_5_code
def yX1_makeOne : MethodName := ⟨RX1, "makeOne", "()V"⟩
abbrev cX1_makeRoom : ByteArray := prog_3_method_6_code
def yX1_makeRoom : MethodName := ⟨RX1, "makeRoom", "()V"⟩
abbrev cX1_longestSent : ByteArray := prog_3_method_7_code
def yX1_longestSent : MethodName := ⟨RX1, "longestSent", "()I"⟩
abbrev cX1_takeOut : ByteArray := prog_3_method_8_code
def yX1_takeOut : MethodName := ⟨RX1, "takeOut", "(I)V"⟩
abbrev cX1_sendSome : ByteArray := prog_3_method_9_code
def yX1_sendSome : MethodName := ⟨RX1, "sendSome", "(III)I"⟩
abbrev cX1_have : ByteArray := prog_3_method_10_code
def yX1_have : MethodName := ⟨RX1, "have", "(II)I"⟩
abbrev cX1_lostBy : ByteArray := prog_3_method_11_code
def yX1_lostBy : MethodName := ⟨RX1, "lostBy", "(I)I"⟩
def RX2 : String := "FarDishes$Craft"
def TX2 : u_T := fun k => match k with
  | 0 => ("FarDishes$Craft", "loud", "I", false)
  | 1 => ("FarDishes$Craft", "far", "I", false)
  | 2 => ("FarDishes$Craft", "rate", "I", false)
  | 3 => ("FarDishes$Craft", "upFrom", "[I", true)
  | 4 => ("FarDishes$Craft", "upFor", "[I", true)
  | 5 => ("FarDishes$Craft", "blocks", "LFarDishes$Blocks;", true)
  | 6 => ("FarDishes$Craft", "orders", "LFarDishes$Orders;", true)
  | _ => ("FarDishes$Craft", "quiet", "LFarDishes$Silence;", true)
def tyX2 : Nat → FieldType := fun k => match k with
  | 0 => .int
  | 1 => .int
  | 2 => .int
  | 3 => .array .int
  | 4 => .array .int
  | 5 => .object "FarDishes$Blocks"
  | 6 => .object "FarDishes$Orders"
  | _ => .object "FarDishes$Silence"
abbrev wsX20 : List Cond := u_ws RX2 TX2 8
theorem nmX2 : ∀ a, a < 8 → ∀ b, b < 8 → a ≠ b → (TX2 a).2.1 ≠ (TX2 b).2.1 := by decide +kernel
theorem tyX2_ok : ∀ k, k < 8 → parseFieldDescriptor (TX2 k).2.2.1 = some (tyX2 k) := by decide +kernel
abbrev cX2_init : ByteArray := prog_4_method_1_code
def yX2_init : MethodName := ⟨RX2, "<init>", "()V"⟩
abbrev cX2_begin : ByteArray := prog_4_method_2_code
def yX2_begin : MethodName := ⟨RX2, "begin", "(IIII)V"⟩
abbrev cX2_become : ByteArray := prog_4_method_3_code
def yX2_become : MethodName := ⟨RX2, "become", "(LFarDishes$Craft;)V"⟩
abbrev cX2_setUp : ByteArray := prog_4_method_4_code
def yX2_setUp : MethodName := ⟨RX2, "setUp", "(III)I"⟩
abbrev cX2_isUp : ByteArray := prog_4_method_5_code
def yX2_isUp : MethodName := ⟨RX2, "isUp", "(II)Z"⟩
abbrev cX2_firstUp : ByteArray := prog_4_method_6_code
def yX2_firstUp : MethodName := ⟨RX2, "firstUp", "(III)I"⟩
abbrev cX2_sinceRise : ByteArray := prog_4_method_7_code
def yX2_sinceRise : MethodName := ⟨RX2, "sinceRise", "(II)I"⟩
def RX3 : String := "FarDishes$Dish"
def TX3 : u_T := fun k => match k with
  | 0 => ("FarDishes$Dish", "place", "I", false)
  | 1 => ("FarDishes$Dish", "size", "I", false)
  | 2 => ("FarDishes$Dish", "turn", "I", false)
  | _ => ("FarDishes$Dish", "broken", "Z", false)
def tyX3 : Nat → FieldType := fun k => match k with
  | 0 => .int
  | 1 => .int
  | 2 => .int
  | _ => .boolean
abbrev wsX30 : List Cond := u_ws RX3 TX3 4
theorem nmX3 : ∀ a, a < 4 → ∀ b, b < 4 → a ≠ b → (TX3 a).2.1 ≠ (TX3 b).2.1 := by decide +kernel
theorem tyX3_ok : ∀ k, k < 4 → parseFieldDescriptor (TX3 k).2.2.1 = some (tyX3 k) := by decide +kernel
abbrev cX3_init : ByteArray := prog_5_method_1_code
def yX3_init : MethodName := ⟨RX3, "<init>", "()V"⟩
abbrev cX3_begin : ByteArray := prog_5_method_2_code
def yX3_begin : MethodName := ⟨RX3, "begin", "(III)V"⟩
abbrev cX3_become : ByteArray := prog_5_method_3_code
def yX3_become : MethodName := ⟨RX3, "become", "(LFarDishes$Dish;)V"⟩
def RX4 : String := "FarDishes$Orders"
def TX4 : u_T := fun k => match k with
  | 0 => ("FarDishes$Orders", "size", "I", false)
  | 1 => ("FarDishes$Orders", "sent", "[I", true)
  | 2 => ("FarDishes$Orders", "resent", "[I", true)
  | 3 => ("FarDishes$Orders", "last", "[I", true)
  | 4 => ("FarDishes$Orders", "gone", "[I", true)
  | 5 => ("FarDishes$Orders", "state", "[I", true)
  | _ => ("FarDishes$Orders", "doneIn", "[I", true)
def tyX4 : Nat → FieldType := fun k => match k with
  | 0 => .int
  | 1 => .array .int
  | 2 => .array .int
  | 3 => .array .int
  | 4 => .array .int
  | 5 => .array .int
  | _ => .array .int
abbrev wsX40 : List Cond := u_ws RX4 TX4 7
theorem nmX4 : ∀ a, a < 7 → ∀ b, b < 7 → a ≠ b → (TX4 a).2.1 ≠ (TX4 b).2.1 := by decide +kernel
theorem tyX4_ok : ∀ k, k < 7 → parseFieldDescriptor (TX4 k).2.2.1 = some (tyX4 k) := by decide +kernel
abbrev cX4_init : ByteArray := prog_6_method_1_code
def yX4_init : MethodName := ⟨RX4, "<init>", "()V"⟩
abbrev cX4_become : ByteArray := prog_6_method_2_code
def yX4_become : MethodName := ⟨RX4, "become", "(LFarDishes$Orders;)V"⟩
abbrev cX4_add : ByteArray := prog_6_method_3_code
def yX4_add : MethodName := ⟨RX4, "add", "(II)I"⟩
abbrev cX4_canGoAgain : ByteArray := prog_6_method_4_code
def yX4_canGoAgain : MethodName := ⟨RX4, "canGoAgain", "(II)Z"⟩
abbrev cX4_goOut : ByteArray := prog_6_method_5_code
def yX4_goOut : MethodName := ⟨RX4, "goOut", "(I)V"⟩
abbrev cX4_settle : ByteArray := prog_6_method_6_code
def yX4_settle : MethodName := ⟨RX4, "settle", "(II)V"⟩
def RX5 : String := "FarDishes$Planner"
def TX5 : u_T := fun k => match k with
  | 0 => ("FarDishes$Planner", "size", "I", false)
  | 1 => ("FarDishes$Planner", "bestWeight", "I", false)
  | 2 => ("FarDishes$Planner", "bestUsed", "I", false)
  | 3 => ("FarDishes$Planner", "asked", "[I", true)
  | 4 => ("FarDishes$Planner", "weights", "[I", true)
  | 5 => ("FarDishes$Planner", "row", "[I", true)
  | 6 => ("FarDishes$Planner", "starts", "[I", true)
  | 7 => ("FarDishes$Planner", "bestRow", "[I", true)
  | 8 => ("FarDishes$Planner", "bestStarts", "[I", true)
  | 9 => ("FarDishes$Planner", "restWeight", "[I", true)
  | 10 => ("FarDishes$Planner", "restHeavy", "[I", true)
  | _ => ("FarDishes$Planner", "ends", "[I", true)
def tyX5 : Nat → FieldType := fun k => match k with
  | 0 => .int
  | 1 => .int
  | 2 => .int
  | 3 => .array .int
  | 4 => .array .int
  | 5 => .array .int
  | 6 => .array .int
  | 7 => .array .int
  | 8 => .array .int
  | 9 => .array .int
  | 10 => .array .int
  | _ => .array .int
abbrev wsX50 : List Cond := u_ws RX5 TX5 12
theorem nmX5 : ∀ a, a < 12 → ∀ b, b < 12 → a ≠ b → (TX5 a).2.1 ≠ (TX5 b).2.1 := by decide +kernel
theorem tyX5_ok : ∀ k, k < 12 → parseFieldDescriptor (TX5 k).2.2.1 = some (tyX5 k) := by decide +kernel
abbrev cX5_init : ByteArray := prog_7_method_1_code
def yX5_init : MethodName := ⟨RX5, "<init>", "()V"⟩
abbrev cX5_planWaiting : ByteArray := prog_7_method_2_code
def yX5_planWaiting : MethodName := ⟨RX5, "planWaiting", "(LFarDishes$World;I)V"⟩
abbrev cX5_planWithWorth : ByteArray := prog_7_method_3_code
def yX5_planWithWorth : MethodName := ⟨RX5, "planWithWorth", "(LFarDishes$World;II)V"⟩
abbrev cX5_planPair : ByteArray := prog_7_method_4_code
def yX5_planPair : MethodName := ⟨RX5, "planPair", "(LFarDishes$World;II)V"⟩
abbrev cX5_lookAtWaiting : ByteArray := prog_7_method_5_code
def yX5_lookAtWaiting : MethodName := ⟨RX5, "lookAtWaiting", "(LFarDishes$World;I)V"⟩
abbrev cX5_lookAt : ByteArray := prog_7_method_6_code
def yX5_lookAt : MethodName := ⟨RX5, "lookAt", "(LFarDishes$World;I)V"⟩
abbrev cX5_solve : ByteArray := prog_7_method_7_code
def yX5_solve : MethodName := ⟨RX5, "solve", "(LFarDishes$World;)V"⟩
abbrev cX5_findRest : ByteArray := prog_7_method_8_code
def yX5_findRest : MethodName := ⟨RX5, "findRest", "(LFarDishes$World;)V"⟩
abbrev cX5_canStand : ByteArray := prog_7_method_9_code
def yX5_canStand : MethodName := ⟨RX5, "canStand", "(LFarDishes$World;I)Z"⟩
abbrev cX5_findEnds : ByteArray := prog_7_method_10_code
def yX5_findEnds : MethodName := ⟨RX5, "findEnds", "(LFarDishes$World;)V"⟩
abbrev cX5_tryFrom : ByteArray := prog_7_method_11_code
def yX5_tryFrom : MethodName := ⟨RX5, "tryFrom", "(LFarDishes$World;III)V"⟩
abbrev cX5_canBeBetter : ByteArray := prog_7_method_12_code
def yX5_canBeBetter : MethodName := ⟨RX5, "canBeBetter", "(III)Z"⟩
abbrev cX5_keepRow : ByteArray := prog_7_method_13_code
def yX5_keepRow : MethodName := ⟨RX5, "keepRow", "(II)V"⟩
abbrev cX5_startOn : ByteArray := prog_7_method_14_code
def yX5_startOn : MethodName := ⟨RX5, "startOn", "(LFarDishes$World;II)I"⟩
abbrev cX5_weightOfRow : ByteArray := prog_7_method_15_code
def yX5_weightOfRow : MethodName := ⟨RX5, "weightOfRow", "(LFarDishes$World;[I)I"⟩
abbrev cX5_dishOf : ByteArray := prog_7_method_16_code
def yX5_dishOf : MethodName := ⟨RX5, "dishOf", "(I)I"⟩
abbrev cX5_startOf : ByteArray := prog_7_method_17_code
def yX5_startOf : MethodName := ⟨RX5, "startOf", "(I)I"⟩
abbrev cX5_inPlan : ByteArray := prog_7_method_18_code
def yX5_inPlan : MethodName := ⟨RX5, "inPlan", "()I"⟩
abbrev cX5_holdIn : ByteArray := prog_7_method_19_code
def yX5_holdIn : MethodName := ⟨RX5, "holdIn", "(LFarDishes$World;)I"⟩
abbrev cX5_placeOf : ByteArray := prog_7_method_20_code
def yX5_placeOf : MethodName := ⟨RX5, "placeOf", "(I)I"⟩
def RX6 : String := "FarDishes$Search"
def TX6 : u_T := fun k => match k with
  | 0 => ("FarDishes$Search", "odds", "[I", true)
  | _ => ("FarDishes$Search", "looked", "J", false)
def tyX6 : Nat → FieldType := fun k => match k with
  | 0 => .array .int
  | _ => .long
abbrev wsX60 : List Cond := u_ws RX6 TX6 2
theorem nmX6 : ∀ a, a < 2 → ∀ b, b < 2 → a ≠ b → (TX6 a).2.1 ≠ (TX6 b).2.1 := by decide +kernel
theorem tyX6_ok : ∀ k, k < 2 → parseFieldDescriptor (TX6 k).2.2.1 = some (tyX6 k) := by decide +kernel
abbrev cX6_init : ByteArray := prog_8_method_1_code
def yX6_init : MethodName := ⟨RX6, "<init>", "()V"⟩
abbrev cX6_become : ByteArray := prog_8_method_2_code
def yX6_become : MethodName := ⟨RX6, "become", "(LFarDishes$Search;)V"⟩
abbrev cX6_setOdds : ByteArray := prog_8_method_3_code
def yX6_setOdds : MethodName := ⟨RX6, "setOdds", "(II)I"⟩
abbrev cX6_lookNext : ByteArray := prog_8_method_4_code
def yX6_lookNext : MethodName := ⟨RX6, "lookNext", "()I"⟩
abbrev cX6_left : ByteArray := prog_8_method_5_code
def yX6_left : MethodName := ⟨RX6, "left", "()I"⟩
abbrev cX6_looksFor : ByteArray := prog_8_method_6_code
def yX6_looksFor : MethodName := ⟨RX6, "looksFor", "(I)I"⟩
abbrev cX6_oddsLeft : ByteArray := prog_8_method_7_code
def yX6_oddsLeft : MethodName := ⟨RX6, "oddsLeft", "()I"⟩
abbrev cX6_bestBut : ByteArray := prog_8_method_8_code
def yX6_bestBut : MethodName := ⟨RX6, "bestBut", "(J)I"⟩
abbrev cX6_isOpen : ByteArray := prog_8_method_9_code
def yX6_isOpen : MethodName := ⟨RX6, "isOpen", "(IJ)Z"⟩
def RX7 : String := "FarDishes$Sheet"
def TX7 : u_T := fun k => match k with
  | 0 => ("FarDishes$Sheet", "bits", "I", false)
  | 1 => ("FarDishes$Sheet", "size", "I", false)
  | _ => ("FarDishes$Sheet", "numbers", "[I", true)
def tyX7 : Nat → FieldType := fun k => match k with
  | 0 => .int
  | 1 => .int
  | _ => .array .int
abbrev wsX70 : List Cond := u_ws RX7 TX7 3
theorem nmX7 : ∀ a, a < 3 → ∀ b, b < 3 → a ≠ b → (TX7 a).2.1 ≠ (TX7 b).2.1 := by decide +kernel
theorem tyX7_ok : ∀ k, k < 3 → parseFieldDescriptor (TX7 k).2.2.1 = some (tyX7 k) := by decide +kernel
abbrev cX7_init : ByteArray := prog_9_method_1_code
def yX7_init : MethodName := ⟨RX7, "<init>", "()V"⟩
abbrev cX7_isMissing : ByteArray := prog_9_method_2_code
def yX7_isMissing : MethodName := ⟨RX7, "isMissing", "()Z"⟩
abbrev cX7_begin : ByteArray := prog_9_method_3_code
def yX7_begin : MethodName := ⟨RX7, "begin", "(II)I"⟩
abbrev cX7_set : ByteArray := prog_9_method_4_code
def yX7_set : MethodName := ⟨RX7, "set", "(II)V"⟩
abbrev cX7_hasRange : ByteArray := prog_9_method_5_code
def yX7_hasRange : MethodName := ⟨RX7, "hasRange", "(II)Z"⟩
def RX8 : String := "FarDishes$Silence"
def TX8 : u_T := fun k => match k with
  | 0 => ("FarDishes$Silence", "next", "[I", true)
  | _ => ("FarDishes$Silence", "heard", "I", false)
def tyX8 : Nat → FieldType := fun k => match k with
  | 0 => .array .int
  | _ => .int
abbrev wsX80 : List Cond := u_ws RX8 TX8 2
theorem nmX8 : ∀ a, a < 2 → ∀ b, b < 2 → a ≠ b → (TX8 a).2.1 ≠ (TX8 b).2.1 := by decide +kernel
theorem tyX8_ok : ∀ k, k < 2 → parseFieldDescriptor (TX8 k).2.2.1 = some (tyX8 k) := by decide +kernel
abbrev cX8_init : ByteArray := prog_10_method_1_code
def yX8_init : MethodName := ⟨RX8, "<init>", "()V"⟩
abbrev cX8_begin : ByteArray := prog_10_method_2_code
def yX8_begin : MethodName := ⟨RX8, "begin", "()V"⟩
abbrev cX8_become : ByteArray := prog_10_method_3_code
def yX8_become : MethodName := ⟨RX8, "become", "(LFarDishes$Silence;)V"⟩
abbrev cX8_setState : ByteArray := prog_10_method_4_code
def yX8_setState : MethodName := ⟨RX8, "setState", "(IIZ)I"⟩
abbrev cX8_daysFrom : ByteArray := prog_10_method_5_code
def yX8_daysFrom : MethodName := ⟨RX8, "daysFrom", "(I)I"⟩
abbrev cX8_neverHeard : ByteArray := prog_10_method_6_code
def yX8_neverHeard : MethodName := ⟨RX8, "neverHeard", "()I"⟩
def RX9 : String := "FarDishes$Text"
def TX9 : u_T := fun k => match k with
  | 0 => ("FarDishes$Text", "bytes", "[I", true)
  | 1 => ("FarDishes$Text", "length", "I", false)
  | 2 => ("FarDishes$Text", "read", "[[I", true)
  | 3 => ("FarDishes$Text", "ones", "I", false)
  | 4 => ("FarDishes$Text", "at", "I", false)
  | 5 => ("FarDishes$Text", "begin", "I", false)
  | 6 => ("FarDishes$Text", "sort", "I", false)
  | _ => ("FarDishes$Text", "value", "I", false)
def tyX9 : Nat → FieldType := fun k => match k with
  | 0 => .array .int
  | 1 => .int
  | 2 => .array (.array .int)
  | 3 => .int
  | 4 => .int
  | 5 => .int
  | 6 => .int
  | _ => .int
abbrev wsX90 : List Cond := u_ws RX9 TX9 8
theorem nmX9 : ∀ a, a < 8 → ∀ b, b < 8 → a ≠ b → (TX9 a).2.1 ≠ (TX9 b).2.1 := by decide +kernel
theorem tyX9_ok : ∀ k, k < 8 → parseFieldDescriptor (TX9 k).2.2.1 = some (tyX9 k) := by decide +kernel
abbrev cX9_init : ByteArray := prog_11_method_1_code
def yX9_init : MethodName := ⟨RX9, "<init>", "()V"⟩
abbrev cX9_append : ByteArray := prog_11_method_2_code
def yX9_append : MethodName := ⟨RX9, "append", "(II)I"⟩
abbrev cX9_clear : ByteArray := prog_11_method_3_code
def yX9_clear : MethodName := ⟨RX9, "clear", "()I"⟩
abbrev cX9_readAll : ByteArray := prog_11_method_4_code
def yX9_readAll : MethodName := ⟨RX9, "readAll", "(I)I"⟩
abbrev cX9_readOne : ByteArray := prog_11_method_5_code
def yX9_readOne : MethodName := ⟨RX9, "readOne", "([II)Z"⟩
abbrev cX9_readWorth : ByteArray := prog_11_method_6_code
def yX9_readWorth : MethodName := ⟨RX9, "readWorth", "([I)Z"⟩
abbrev cX9_readPair : ByteArray := prog_11_method_7_code
def yX9_readPair : MethodName := ⟨RX9, "readPair", "(III)Z"⟩
abbrev cX9_readNumber : ByteArray := prog_11_method_8_code
def yX9_readNumber : MethodName := ⟨RX9, "readNumber", "(II)Z"⟩
abbrev cX9_next : ByteArray := prog_11_method_9_code
def yX9_next : MethodName := ⟨RX9, "next", "()V"⟩
abbrev cX9_nextWord : ByteArray := prog_11_method_10_code
def yX9_nextWord : MethodName := ⟨RX9, "nextWord", "()V"⟩
abbrev cX9_nextNumber : ByteArray := prog_11_method_11_code
def yX9_nextNumber : MethodName := ⟨RX9, "nextNumber", "()V"⟩
abbrev cX9_wordBetween : ByteArray := prog_11_method_12_code
def yX9_wordBetween : MethodName := ⟨RX9, "wordBetween", "(II)I"⟩
abbrev cX9_isLetter : ByteArray := prog_11_method_13_code
def yX9_isLetter : MethodName := ⟨RX9, "isLetter", "(I)Z"⟩
abbrev cX9_isDigit : ByteArray := prog_11_method_14_code
def yX9_isDigit : MethodName := ⟨RX9, "isDigit", "(I)Z"⟩
def RX10 : String := "FarDishes$World"
def TX10 : u_T := fun k => match k with
  | 0 => ("FarDishes$World", "hour", "I", false)
  | 1 => ("FarDishes$World", "dishCount", "I", false)
  | 2 => ("FarDishes$World", "craftCount", "I", false)
  | 3 => ("FarDishes$World", "askingCount", "I", false)
  | 4 => ("FarDishes$World", "rains", "[I", true)
  | 5 => ("FarDishes$World", "dishes", "[LFarDishes$Dish;", true)
  | 6 => ("FarDishes$World", "crafts", "[LFarDishes$Craft;", true)
  | 7 => ("FarDishes$World", "askings", "[LFarDishes$Asking;", true)
  | _ => ("FarDishes$World", "search", "LFarDishes$Search;", true)
def tyX10 : Nat → FieldType := fun k => match k with
  | 0 => .int
  | 1 => .int
  | 2 => .int
  | 3 => .int
  | 4 => .array .int
  | 5 => .array (.object "FarDishes$Dish")
  | 6 => .array (.object "FarDishes$Craft")
  | 7 => .array (.object "FarDishes$Asking")
  | _ => .object "FarDishes$Search"
abbrev wsX100 : List Cond := u_ws RX10 TX10 9
theorem nmX10 : ∀ a, a < 9 → ∀ b, b < 9 → a ≠ b → (TX10 a).2.1 ≠ (TX10 b).2.1 := by decide +kernel
theorem tyX10_ok : ∀ k, k < 9 → parseFieldDescriptor (TX10 k).2.2.1 = some (tyX10 k) := by decide +kernel
abbrev cX10_init : ByteArray := prog_12_method_1_code
def yX10_init : MethodName := ⟨RX10, "<init>", "()V"⟩
abbrev cX10_become : ByteArray := prog_12_method_2_code
def yX10_become : MethodName := ⟨RX10, "become", "(LFarDishes$World;)V"⟩
abbrev cX10_setRain : ByteArray := prog_12_method_3_code
def yX10_setRain : MethodName := ⟨RX10, "setRain", "(III)I"⟩
abbrev cX10_addDish : ByteArray := prog_12_method_4_code
def yX10_addDish : MethodName := ⟨RX10, "addDish", "(III)I"⟩
abbrev cX10_addCraft : ByteArray := prog_12_method_5_code
def yX10_addCraft : MethodName := ⟨RX10, "addCraft", "(IIII)I"⟩
abbrev cX10_addAsking : ByteArray := prog_12_method_6_code
def yX10_addAsking : MethodName := ⟨RX10, "addAsking", "([I)V"⟩
abbrev cX10_linkAt : ByteArray := prog_12_method_7_code
def yX10_linkAt : MethodName := ⟨RX10, "linkAt", "(LFarDishes$Craft;LFarDishes$Dish;I)I"⟩
abbrev cX10_weightOf : ByteArray := prog_12_method_8_code
def yX10_weightOf : MethodName := ⟨RX10, "weightOf", "(II)I"⟩
abbrev cX10_runningOn : ByteArray := prog_12_method_9_code
def yX10_runningOn : MethodName := ⟨RX10, "runningOn", "(I)I"⟩
abbrev cX10_goHour : ByteArray := prog_12_method_10_code
def yX10_goHour : MethodName := ⟨RX10, "goHour", "()I"⟩
abbrev cX10_startAskings : ByteArray := prog_12_method_11_code
def yX10_startAskings : MethodName := ⟨RX10, "startAskings", "()V"⟩
abbrev cX10_serve : ByteArray := prog_12_method_12_code
def yX10_serve : MethodName := ⟨RX10, "serve", "(I)I"⟩
abbrev cX10_finishAskings : ByteArray := prog_12_method_13_code
def yX10_finishAskings : MethodName := ⟨RX10, "finishAskings", "()V"⟩
abbrev cX10_makeBlocks : ByteArray := prog_12_method_14_code
def yX10_makeBlocks : MethodName := ⟨RX10, "makeBlocks", "()V"⟩
abbrev cX10_brokenDishes : ByteArray := prog_12_method_15_code
def yX10_brokenDishes : MethodName := ⟨RX10, "brokenDishes", "()I"⟩
abbrev cX10_askingsIn : ByteArray := prog_12_method_16_code
def yX10_askingsIn : MethodName := ⟨RX10, "askingsIn", "(I)I"⟩
abbrev cX10_allBlocks : ByteArray := prog_12_method_17_code
def yX10_allBlocks : MethodName := ⟨RX10, "allBlocks", "()I"⟩
def RX11 : String := "FarDishes"
def TX11 : u_T := fun k => match k with
  | 0 => ("FarDishes", "now", "LFarDishes$World;", true)
  | 1 => ("FarDishes", "kept", "LFarDishes$World;", true)
  | 2 => ("FarDishes", "trial", "LFarDishes$World;", true)
  | 3 => ("FarDishes", "planner", "LFarDishes$Planner;", true)
  | 4 => ("FarDishes", "text", "LFarDishes$Text;", true)
  | 5 => ("FarDishes", "sheets", "[LFarDishes$Sheet;", true)
  | 6 => ("FarDishes", "told", "[I", true)
  | _ => ("FarDishes", "hasImage", "Z", false)
def tyX11 : Nat → FieldType := fun k => match k with
  | 0 => .object "FarDishes$World"
  | 1 => .object "FarDishes$World"
  | 2 => .object "FarDishes$World"
  | 3 => .object "FarDishes$Planner"
  | 4 => .object "FarDishes$Text"
  | 5 => .array (.object "FarDishes$Sheet")
  | 6 => .array .int
  | _ => .boolean
abbrev wsX110 : List Cond := u_ws RX11 TX11 8
theorem nmX11 : ∀ a, a < 8 → ∀ b, b < 8 → a ≠ b → (TX11 a).2.1 ≠ (TX11 b).2.1 := by decide +kernel
theorem tyX11_ok : ∀ k, k < 8 → parseFieldDescriptor (TX11 k).2.2.1 = some (tyX11 k) := by decide +kernel
abbrev cX11_init : ByteArray := prog_1_method_1_code
def yX11_init : MethodName := ⟨RX11, "<init>", "()V"⟩
abbrev cX11_rain : ByteArray := prog_1_method_2_code
def yX11_rain : MethodName := ⟨RX11, "rain", "(III)I"⟩
abbrev cX11_dish : ByteArray := prog_1_method_3_code
def yX11_dish : MethodName := ⟨RX11, "dish", "(III)I"⟩
abbrev cX11_mend : ByteArray := prog_1_method_4_code
def yX11_mend : MethodName := ⟨RX11, "mend", "(IZ)I"⟩
abbrev cX11_dishIs : ByteArray := prog_1_method_5_code
def yX11_dishIs : MethodName := ⟨RX11, "dishIs", "(II)I"⟩
abbrev cX11_craft : ByteArray := prog_1_method_6_code
def yX11_craft : MethodName := ⟨RX11, "craft", "(III)I"⟩
abbrev cX11_craftIs : ByteArray := prog_1_method_7_code
def yX11_craftIs : MethodName := ⟨RX11, "craftIs", "(II)I"⟩
abbrev cX11_rises : ByteArray := prog_1_method_8_code
def yX11_rises : MethodName := ⟨RX11, "rises", "(IIII)I"⟩
abbrev cX11_up : ByteArray := prog_1_method_9_code
def yX11_up : MethodName := ⟨RX11, "up", "(III)I"⟩
abbrev cX11_rise : ByteArray := prog_1_method_10_code
def yX11_rise : MethodName := ⟨RX11, "rise", "(IIII)I"⟩
abbrev cX11_link : ByteArray := prog_1_method_11_code
def yX11_link : MethodName := ⟨RX11, "link", "(III)I"⟩
abbrev cX11_feed : ByteArray := prog_1_method_12_code
def yX11_feed : MethodName := ⟨RX11, "feed", "(II)I"⟩
abbrev cX11_wipe : ByteArray := prog_1_method_13_code
def yX11_wipe : MethodName := ⟨RX11, "wipe", "()I"⟩
abbrev cX11_asks : ByteArray := prog_1_method_14_code
def yX11_asks : MethodName := ⟨RX11, "asks", "()I"⟩
abbrev cX11_asking : ByteArray := prog_1_method_15_code
def yX11_asking : MethodName := ⟨RX11, "asking", "(II)I"⟩
abbrev cX11_as : ByteArray := prog_1_method_16_code
def yX11_as : MethodName := ⟨RX11, "as", "(II)I"⟩
abbrev cX11_worth : ByteArray := prog_1_method_17_code
def yX11_worth : MethodName := ⟨RX11, "worth", "(II)I"⟩
abbrev cX11_plan : ByteArray := prog_1_method_18_code
def yX11_plan : MethodName := ⟨RX11, "plan", "(I)I"⟩
abbrev cX11_begins : ByteArray := prog_1_method_19_code
def yX11_begins : MethodName := ⟨RX11, "begins", "(I)I"⟩
abbrev cX11_without : ByteArray := prog_1_method_20_code
def yX11_without : MethodName := ⟨RX11, "without", "(I)I"⟩
abbrev cX11_takes : ByteArray := prog_1_method_21_code
def yX11_takes : MethodName := ⟨RX11, "takes", "(II)I"⟩
abbrev cX11_bars : ByteArray := prog_1_method_22_code
def yX11_bars : MethodName := ⟨RX11, "bars", "(II)I"⟩
abbrev cX11_judge : ByteArray := prog_1_method_23_code
def yX11_judge : MethodName := ⟨RX11, "judge", "(I)I"⟩
abbrev cX11_hold : ByteArray := prog_1_method_24_code
def yX11_hold : MethodName := ⟨RX11, "hold", "()I"⟩
abbrev cX11_drop : ByteArray := prog_1_method_25_code
def yX11_drop : MethodName := ⟨RX11, "drop", "(I)I"⟩
abbrev cX11_run : ByteArray := prog_1_method_26_code
def yX11_run : MethodName := ⟨RX11, "run", "(I)I"⟩
abbrev cX11_block : ByteArray := prog_1_method_27_code
def yX11_block : MethodName := ⟨RX11, "block", "(III)I"⟩
abbrev cX11_name : ByteArray := prog_1_method_28_code
def yX11_name : MethodName := ⟨RX11, "name", "(II)I"⟩
abbrev cX11_over : ByteArray := prog_1_method_29_code
def yX11_over : MethodName := ⟨RX11, "over", "(II)I"⟩
abbrev cX11_order : ByteArray := prog_1_method_30_code
def yX11_order : MethodName := ⟨RX11, "order", "(II)I"⟩
abbrev cX11_again : ByteArray := prog_1_method_31_code
def yX11_again : MethodName := ⟨RX11, "again", "(II)I"⟩
abbrev cX11_orderIs : ByteArray := prog_1_method_32_code
def yX11_orderIs : MethodName := ⟨RX11, "orderIs", "(III)I"⟩
abbrev cX11_table : ByteArray := prog_1_method_33_code
def yX11_table : MethodName := ⟨RX11, "table", "(IIIZ)I"⟩
abbrev cX11_silence : ByteArray := prog_1_method_34_code
def yX11_silence : MethodName := ⟨RX11, "silence", "(II)I"⟩
abbrev cX11_ever : ByteArray := prog_1_method_35_code
def yX11_ever : MethodName := ⟨RX11, "ever", "(I)I"⟩
abbrev cX11_cell : ByteArray := prog_1_method_36_code
def yX11_cell : MethodName := ⟨RX11, "cell", "(II)I"⟩
abbrev cX11_seek : ByteArray := prog_1_method_37_code
def yX11_seek : MethodName := ⟨RX11, "seek", "()I"⟩
abbrev cX11_stop : ByteArray := prog_1_method_38_code
def yX11_stop : MethodName := ⟨RX11, "stop", "(I)I"⟩
abbrev cX11_check : ByteArray := prog_1_method_39_code
def yX11_check : MethodName := ⟨RX11, "check", "(I)I"⟩
abbrev cX11_sheet : ByteArray := prog_1_method_40_code
def yX11_sheet : MethodName := ⟨RX11, "sheet", "(III)I"⟩
abbrev cX11_write : ByteArray := prog_1_method_41_code
def yX11_write : MethodName := ⟨RX11, "write", "(III)I"⟩
abbrev cX11_copy : ByteArray := prog_1_method_42_code
def yX11_copy : MethodName := ⟨RX11, "copy", "(IIIII)I"⟩
abbrev cX11_image : ByteArray := prog_1_method_43_code
def yX11_image : MethodName := ⟨RX11, "image", "()I"⟩
abbrev cX11_undo : ByteArray := prog_1_method_44_code
def yX11_undo : MethodName := ⟨RX11, "undo", "()I"⟩
abbrev cX11_tear : ByteArray := prog_1_method_45_code
def yX11_tear : MethodName := ⟨RX11, "tear", "()I"⟩
abbrev cX11_count : ByteArray := prog_1_method_46_code
def yX11_count : MethodName := ⟨RX11, "count", "(I)I"⟩
abbrev cX11_status : ByteArray := prog_1_method_47_code
def yX11_status : MethodName := ⟨RX11, "status", "(I)I"⟩
abbrev cX11_outside : ByteArray := prog_1_method_48_code
def yX11_outside : MethodName := ⟨RX11, "outside", "(III)Z"⟩
abbrev cX11_noDish : ByteArray := prog_1_method_49_code
def yX11_noDish : MethodName := ⟨RX11, "noDish", "(I)Z"⟩
abbrev cX11_noCraft : ByteArray := prog_1_method_50_code
def yX11_noCraft : MethodName := ⟨RX11, "noCraft", "(I)Z"⟩
abbrev cX11_noAsking : ByteArray := prog_1_method_51_code
def yX11_noAsking : MethodName := ⟨RX11, "noAsking", "(I)Z"⟩
abbrev cX11_noOrder : ByteArray := prog_1_method_52_code
def yX11_noOrder : MethodName := ⟨RX11, "noOrder", "(II)Z"⟩
abbrev cX11_noSheet : ByteArray := prog_1_method_53_code
def yX11_noSheet : MethodName := ⟨RX11, "noSheet", "(I)Z"⟩
abbrev cX11_finding : ByteArray := prog_1_method_54_code
def yX11_finding : MethodName := ⟨RX11, "finding", "(I)I"⟩
def RX12 : String := "FarDishesModel"
def TX12 : u_T := fun k => match k with
  | 0 => ("FarDishesModel", "p", "[I", true)
  | 1 => ("FarDishesModel", "image", "[I", true)
  | 2 => ("FarDishesModel", "aside", "[I", true)
  | 3 => ("FarDishesModel", "hasImage", "Z", false)
  | 4 => ("FarDishesModel", "tape", "[I", true)
  | 5 => ("FarDishesModel", "taped", "I", false)
  | 6 => ("FarDishesModel", "found", "[I", true)
  | 7 => ("FarDishesModel", "bits", "[I", true)
  | 8 => ("FarDishesModel", "sizes", "[I", true)
  | 9 => ("FarDishesModel", "numbers", "[I", true)
  | 10 => ("FarDishesModel", "carried", "[I", true)
  | 11 => ("FarDishesModel", "at", "I", false)
  | 12 => ("FarDishesModel", "begin", "I", false)
  | 13 => ("FarDishesModel", "token", "I", false)
  | 14 => ("FarDishesModel", "tells", "I", false)
  | 15 => ("FarDishesModel", "fault", "I", false)
  | 16 => ("FarDishesModel", "one", "[I", true)
  | 17 => ("FarDishesModel", "wordLetters", "[I", true)
  | 18 => ("FarDishesModel", "lookedMany", "I", false)
  | 19 => ("FarDishesModel", "looked", "[I", true)
  | 20 => ("FarDishesModel", "on", "[I", true)
  | 21 => ("FarDishesModel", "from", "[I", true)
  | 22 => ("FarDishesModel", "bestOn", "[I", true)
  | 23 => ("FarDishesModel", "bestFrom", "[I", true)
  | 24 => ("FarDishesModel", "bestWeight", "I", false)
  | 25 => ("FarDishesModel", "bestMany", "I", false)
  | 26 => ("FarDishesModel", "free", "[I", true)
  | _ => ("FarDishesModel", "wasOld", "[Z", true)
def tyX12 : Nat → FieldType := fun k => match k with
  | 0 => .array .int
  | 1 => .array .int
  | 2 => .array .int
  | 3 => .boolean
  | 4 => .array .int
  | 5 => .int
  | 6 => .array .int
  | 7 => .array .int
  | 8 => .array .int
  | 9 => .array .int
  | 10 => .array .int
  | 11 => .int
  | 12 => .int
  | 13 => .int
  | 14 => .int
  | 15 => .int
  | 16 => .array .int
  | 17 => .array .int
  | 18 => .int
  | 19 => .array .int
  | 20 => .array .int
  | 21 => .array .int
  | 22 => .array .int
  | 23 => .array .int
  | 24 => .int
  | 25 => .int
  | 26 => .array .int
  | _ => .array .boolean
abbrev wsX120 : List Cond := u_ws RX12 TX12 28
theorem nmX12 : ∀ a, a < 28 → ∀ b, b < 28 → a ≠ b → (TX12 a).2.1 ≠ (TX12 b).2.1 := by decide +kernel
theorem tyX12_ok : ∀ k, k < 28 → parseFieldDescriptor (TX12 k).2.2.1 = some (tyX12 k) := by decide +kernel
abbrev cX12_init : ByteArray := prog_14_method_1_code
def yX12_init : MethodName := ⟨RX12, "<init>", "()V"⟩
abbrev cX12_finds : ByteArray := prog_14_method_2_code
def yX12_finds : MethodName := ⟨RX12, "finds", "(I)I"⟩
abbrev cX12_in : ByteArray := prog_14_method_3_code
def yX12_in : MethodName := ⟨RX12, "in", "(III)Z"⟩
abbrev cX12_isPlace : ByteArray := prog_14_method_4_code
def yX12_isPlace : MethodName := ⟨RX12, "isPlace", "(I)Z"⟩
abbrev cX12_isDish : ByteArray := prog_14_method_5_code
def yX12_isDish : MethodName := ⟨RX12, "isDish", "(I)Z"⟩
abbrev cX12_isCraft : ByteArray := prog_14_method_6_code
def yX12_isCraft : MethodName := ⟨RX12, "isCraft", "(I)Z"⟩
abbrev cX12_isAsking : ByteArray := prog_14_method_7_code
def yX12_isAsking : MethodName := ⟨RX12, "isAsking", "(I)Z"⟩
abbrev cX12_isHour : ByteArray := prog_14_method_8_code
def yX12_isHour : MethodName := ⟨RX12, "isHour", "(I)Z"⟩
abbrev cX12_becomes : ByteArray := prog_14_method_9_code
def yX12_becomes : MethodName := ⟨RX12, "becomes", "(II)I"⟩
abbrev cX12_rain : ByteArray := prog_14_method_10_code
def yX12_rain : MethodName := ⟨RX12, "rain", "(III)I"⟩
abbrev cX12_dish : ByteArray := prog_14_method_11_code
def yX12_dish : MethodName := ⟨RX12, "dish", "(III)I"⟩
abbrev cX12_mend : ByteArray := prog_14_method_12_code
def yX12_mend : MethodName := ⟨RX12, "mend", "(IZ)I"⟩
abbrev cX12_running : ByteArray := prog_14_method_13_code
def yX12_running : MethodName := ⟨RX12, "running", "(I)I"⟩
abbrev cX12_dishIs : ByteArray := prog_14_method_14_code
def yX12_dishIs : MethodName := ⟨RX12, "dishIs", "(II)I"⟩
abbrev cX12_craft : ByteArray := prog_14_method_15_code
def yX12_craft : MethodName := ⟨RX12, "craft", "(III)I"⟩
abbrev cX12_craftIs : ByteArray := prog_14_method_16_code
def yX12_craftIs : MethodName := ⟨RX12, "craftIs", "(II)I"⟩
abbrev cX12_rises : ByteArray := prog_14_method_17_code
def yX12_rises : MethodName := ⟨RX12, "rises", "(IIII)I"⟩
abbrev cX12_since : ByteArray := prog_14_method_18_code
def yX12_since : MethodName := ⟨RX12, "since", "(III)I"⟩
abbrev cX12_isUp : ByteArray := prog_14_method_19_code
def yX12_isUp : MethodName := ⟨RX12, "isUp", "(III)Z"⟩
abbrev cX12_up : ByteArray := prog_14_method_20_code
def yX12_up : MethodName := ⟨RX12, "up", "(III)I"⟩
abbrev cX12_risesAt : ByteArray := prog_14_method_21_code
def yX12_risesAt : MethodName := ⟨RX12, "risesAt", "(IIII)I"⟩
abbrev cX12_rise : ByteArray := prog_14_method_22_code
def yX12_rise : MethodName := ⟨RX12, "rise", "(IIII)I"⟩
abbrev cX12_linkOf : ByteArray := prog_14_method_23_code
def yX12_linkOf : MethodName := ⟨RX12, "linkOf", "(III)I"⟩
abbrev cX12_link : ByteArray := prog_14_method_24_code
def yX12_link : MethodName := ⟨RX12, "link", "(III)I"⟩
abbrev cX12_feed : ByteArray := prog_14_method_25_code
def yX12_feed : MethodName := ⟨RX12, "feed", "(II)I"⟩
abbrev cX12_wipe : ByteArray := prog_14_method_26_code
def yX12_wipe : MethodName := ⟨RX12, "wipe", "()I"⟩
abbrev cX12_byteAt : ByteArray := prog_14_method_27_code
def yX12_byteAt : MethodName := ⟨RX12, "byteAt", "(I)I"⟩
abbrev cX12_isLetter : ByteArray := prog_14_method_28_code
def yX12_isLetter : MethodName := ⟨RX12, "isLetter", "(I)Z"⟩
abbrev cX12_isDigit : ByteArray := prog_14_method_29_code
def yX12_isDigit : MethodName := ⟨RX12, "isDigit", "(I)Z"⟩
abbrev cX12_wordOf : ByteArray := prog_14_method_30_code
def yX12_wordOf : MethodName := ⟨RX12, "wordOf", "(I)I"⟩
abbrev cX12_next : ByteArray := prog_14_method_31_code
def yX12_next : MethodName := ⟨RX12, "next", "()V"⟩
abbrev cX12_wrong : ByteArray := prog_14_method_32_code
def yX12_wrong : MethodName := ⟨RX12, "wrong", "()V"⟩
abbrev cX12_after : ByteArray := prog_14_method_33_code
def yX12_after : MethodName := ⟨RX12, "after", "(III)I"⟩
abbrev cX12_reads : ByteArray := prog_14_method_34_code
def yX12_reads : MethodName := ⟨RX12, "reads", "(I)V"⟩
abbrev cX12_readAll : ByteArray := prog_14_method_35_code
def yX12_readAll : MethodName := ⟨RX12, "readAll", "()I"⟩
abbrev cX12_asks : ByteArray := prog_14_method_36_code
def yX12_asks : MethodName := ⟨RX12, "asks", "()I"⟩
abbrev cX12_isHear : ByteArray := prog_14_method_37_code
def yX12_isHear : MethodName := ⟨RX12, "isHear", "(I)Z"⟩
abbrev cX12_isBoth : ByteArray := prog_14_method_38_code
def yX12_isBoth : MethodName := ⟨RX12, "isBoth", "(I)Z"⟩
abbrev cX12_weightOf : ByteArray := prog_14_method_39_code
def yX12_weightOf : MethodName := ⟨RX12, "weightOf", "(I)I"⟩
abbrev cX12_asking : ByteArray := prog_14_method_40_code
def yX12_asking : MethodName := ⟨RX12, "asking", "(II)I"⟩
abbrev cX12_as : ByteArray := prog_14_method_41_code
def yX12_as : MethodName := ⟨RX12, "as", "(II)I"⟩
abbrev cX12_waits : ByteArray := prog_14_method_42_code
def yX12_waits : MethodName := ⟨RX12, "waits", "(I)V"⟩
abbrev cX12_worth : ByteArray := prog_14_method_43_code
def yX12_worth : MethodName := ⟨RX12, "worth", "(II)I"⟩
abbrev cX12_looks : ByteArray := prog_14_method_44_code
def yX12_looks : MethodName := ⟨RX12, "looks", "(I)V"⟩
abbrev cX12_findFree : ByteArray := prog_14_method_45_code
def yX12_findFree : MethodName := ⟨RX12, "findFree", "()V"⟩
abbrev cX12_fits : ByteArray := prog_14_method_46_code
def yX12_fits : MethodName := ⟨RX12, "fits", "(II)I"⟩
abbrev cX12_tries : ByteArray := prog_14_method_47_code
def yX12_tries : MethodName := ⟨RX12, "tries", "(III)V"⟩
abbrev cX12_plans : ByteArray := prog_14_method_48_code
def yX12_plans : MethodName := ⟨RX12, "plans", "()V"⟩
abbrev cX12_planNow : ByteArray := prog_14_method_49_code
def yX12_planNow : MethodName := ⟨RX12, "planNow", "()V"⟩
abbrev cX12_placeOf : ByteArray := prog_14_method_50_code
def yX12_placeOf : MethodName := ⟨RX12, "placeOf", "(I)I"⟩
abbrev cX12_isIn : ByteArray := prog_14_method_51_code
def yX12_isIn : MethodName := ⟨RX12, "isIn", "(I)Z"⟩
abbrev cX12_plan : ByteArray := prog_14_method_52_code
def yX12_plan : MethodName := ⟨RX12, "plan", "(I)I"⟩
abbrev cX12_begins : ByteArray := prog_14_method_53_code
def yX12_begins : MethodName := ⟨RX12, "begins", "(I)I"⟩
abbrev cX12_without : ByteArray := prog_14_method_54_code
def yX12_without : MethodName := ⟨RX12, "without", "(I)I"⟩
abbrev cX12_inPlan : ByteArray := prog_14_method_55_code
def yX12_inPlan : MethodName := ⟨RX12, "inPlan", "()I"⟩
abbrev cX12_takes : ByteArray := prog_14_method_56_code
def yX12_takes : MethodName := ⟨RX12, "takes", "(II)I"⟩
abbrev cX12_isAlone : ByteArray := prog_14_method_57_code
def yX12_isAlone : MethodName := ⟨RX12, "isAlone", "(I)Z"⟩
abbrev cX12_bars : ByteArray := prog_14_method_58_code
def yX12_bars : MethodName := ⟨RX12, "bars", "(II)I"⟩
abbrev cX12_judge : ByteArray := prog_14_method_59_code
def yX12_judge : MethodName := ⟨RX12, "judge", "(I)I"⟩
abbrev cX12_hold : ByteArray := prog_14_method_60_code
def yX12_hold : MethodName := ⟨RX12, "hold", "()I"⟩
abbrev cX12_drop : ByteArray := prog_14_method_61_code
def yX12_drop : MethodName := ⟨RX12, "drop", "(I)I"⟩
abbrev cX12_sends : ByteArray := prog_14_method_62_code
def yX12_sends : MethodName := ⟨RX12, "sends", "(II)I"⟩
abbrev cX12_ordersGo : ByteArray := prog_14_method_63_code
def yX12_ordersGo : MethodName := ⟨RX12, "ordersGo", "(I)V"⟩
abbrev cX12_ordersEnd : ByteArray := prog_14_method_64_code
def yX12_ordersEnd : MethodName := ⟨RX12, "ordersEnd", "()V"⟩
abbrev cX12_takesOut : ByteArray := prog_14_method_65_code
def yX12_takesOut : MethodName := ⟨RX12, "takesOut", "(II)V"⟩
abbrev cX12_makes : ByteArray := prog_14_method_66_code
def yX12_makes : MethodName := ⟨RX12, "makes", "(I)V"⟩
abbrev cX12_goes : ByteArray := prog_14_method_67_code
def yX12_goes : MethodName := ⟨RX12, "goes", "()I"⟩
abbrev cX12_run : ByteArray := prog_14_method_68_code
def yX12_run : MethodName := ⟨RX12, "run", "(I)I"⟩
abbrev cX12_block : ByteArray := prog_14_method_69_code
def yX12_block : MethodName := ⟨RX12, "block", "(III)I"⟩
abbrev cX12_name : ByteArray := prog_14_method_70_code
def yX12_name : MethodName := ⟨RX12, "name", "(II)I"⟩
abbrev cX12_keeps : ByteArray := prog_14_method_71_code
def yX12_keeps : MethodName := ⟨RX12, "keeps", "([I[I)V"⟩
abbrev cX12_over : ByteArray := prog_14_method_72_code
def yX12_over : MethodName := ⟨RX12, "over", "(II)I"⟩
abbrev cX12_order : ByteArray := prog_14_method_73_code
def yX12_order : MethodName := ⟨RX12, "order", "(II)I"⟩
abbrev cX12_isOrder : ByteArray := prog_14_method_74_code
def yX12_isOrder : MethodName := ⟨RX12, "isOrder", "(II)Z"⟩
abbrev cX12_again : ByteArray := prog_14_method_75_code
def yX12_again : MethodName := ⟨RX12, "again", "(II)I"⟩
abbrev cX12_orderIs : ByteArray := prog_14_method_76_code
def yX12_orderIs : MethodName := ⟨RX12, "orderIs", "(III)I"⟩
abbrev cX12_isTableState : ByteArray := prog_14_method_77_code
def yX12_isTableState : MethodName := ⟨RX12, "isTableState", "(I)Z"⟩
abbrev cX12_table : ByteArray := prog_14_method_78_code
def yX12_table : MethodName := ⟨RX12, "table", "(IIIZ)I"⟩
abbrev cX12_daysOf : ByteArray := prog_14_method_79_code
def yX12_daysOf : MethodName := ⟨RX12, "daysOf", "(II)I"⟩
abbrev cX12_silence : ByteArray := prog_14_method_80_code
def yX12_silence : MethodName := ⟨RX12, "silence", "(II)I"⟩
abbrev cX12_ever : ByteArray := prog_14_method_81_code
def yX12_ever : MethodName := ⟨RX12, "ever", "(I)I"⟩
abbrev cX12_cell : ByteArray := prog_14_method_82_code
def yX12_cell : MethodName := ⟨RX12, "cell", "(II)I"⟩
abbrev cX12_nextCell : ByteArray := prog_14_method_83_code
def yX12_nextCell : MethodName := ⟨RX12, "nextCell", "(I)I"⟩
abbrev cX12_seek : ByteArray := prog_14_method_84_code
def yX12_seek : MethodName := ⟨RX12, "seek", "()I"⟩
abbrev cX12_stop : ByteArray := prog_14_method_85_code
def yX12_stop : MethodName := ⟨RX12, "stop", "(I)I"⟩
abbrev cX12_check : ByteArray := prog_14_method_86_code
def yX12_check : MethodName := ⟨RX12, "check", "(I)I"⟩
abbrev cX12_isSheet : ByteArray := prog_14_method_87_code
def yX12_isSheet : MethodName := ⟨RX12, "isSheet", "(I)Z"⟩
abbrev cX12_sheet : ByteArray := prog_14_method_88_code
def yX12_sheet : MethodName := ⟨RX12, "sheet", "(III)I"⟩
abbrev cX12_write : ByteArray := prog_14_method_89_code
def yX12_write : MethodName := ⟨RX12, "write", "(III)I"⟩
abbrev cX12_copy : ByteArray := prog_14_method_90_code
def yX12_copy : MethodName := ⟨RX12, "copy", "(IIIII)I"⟩
abbrev cX12_image : ByteArray := prog_14_method_91_code
def yX12_image : MethodName := ⟨RX12, "image", "()I"⟩
abbrev cX12_undo : ByteArray := prog_14_method_92_code
def yX12_undo : MethodName := ⟨RX12, "undo", "()I"⟩
abbrev cX12_tear : ByteArray := prog_14_method_93_code
def yX12_tear : MethodName := ⟨RX12, "tear", "()I"⟩
abbrev cX12_manyIn : ByteArray := prog_14_method_94_code
def yX12_manyIn : MethodName := ⟨RX12, "manyIn", "(I)I"⟩
abbrev cX12_count : ByteArray := prog_14_method_95_code
def yX12_count : MethodName := ⟨RX12, "count", "(I)I"⟩
abbrev cX12_status : ByteArray := prog_14_method_96_code
def yX12_status : MethodName := ⟨RX12, "status", "(I)I"⟩
def RJ9 : String := "java/lang/Math"
def TJ9 : u_T := fun k => match k with
  | _ => ("", "", "", false)
def tyJ9 : Nat → FieldType := fun k => match k with
  | _ => .int
abbrev wsJ90 : List Cond := u_ws RJ9 TJ9 0
theorem nmJ9 : ∀ a, a < 0 → ∀ b, b < 0 → a ≠ b → (TJ9 a).2.1 ≠ (TJ9 b).2.1 := by decide +kernel
theorem tyJ9_ok : ∀ k, k < 0 → parseFieldDescriptor (TJ9 k).2.2.1 = some (tyJ9 k) := by decide +kernel
abbrev cJ9_max_7cf53 : ByteArray := prog_15_method_65_code
def yJ9_max_7cf53 : MethodName := ⟨RJ9, "max", "(II)I"⟩
abbrev cJ9_min_7cf53 : ByteArray := prog_15_method_69_code
def yJ9_min_7cf53 : MethodName := ⟨RJ9, "min", "(II)I"⟩
def RJ0 : String := "java/lang/String"
def TJ0 : u_T := fun k => match k with
  | _ => ("", "", "", false)
def tyJ0 : Nat → FieldType := fun k => match k with
  | _ => .int
abbrev wsJ00 : List Cond := u_ws RJ0 TJ0 0
theorem nmJ0 : ∀ a, a < 0 → ∀ b, b < 0 → a ≠ b → (TJ0 a).2.1 ≠ (TJ0 b).2.1 := by decide +kernel
theorem tyJ0_ok : ∀ k, k < 0 → parseFieldDescriptor (TJ0 k).2.2.1 = some (tyJ0 k) := by decide +kernel
abbrev cJ0_length_8abf5 : ByteArray := prog_16_method_54_code
def yJ0_length_8abf5 : MethodName := ⟨RJ0, "length", "()I"⟩
abbrev cJ0_charAt_5068e : ByteArray := prog_16_method_56_code
def yJ0_charAt_5068e : MethodName := ⟨RJ0, "charAt", "(I)C"⟩
abbrev cJ0_coder_7d493 : ByteArray := prog_16_method_152_code
def yJ0_coder_7d493 : MethodName := ⟨RJ0, "coder", "()B"⟩
abbrev cJ0_isLatin1_aae02 : ByteArray := prog_16_method_154_code
def yJ0_isLatin1_aae02 : MethodName := ⟨RJ0, "isLatin1", "()Z"⟩
abbrev cJ0_checkIndex_df160 : ByteArray := prog_16_method_155_code
def yJ0_checkIndex_df160 : MethodName := ⟨RJ0, "checkIndex", "(II)V"⟩
def RJ1 : String := "java/lang/StringLatin1"
def TJ1 : u_T := fun k => match k with
  | _ => ("", "", "", false)
def tyJ1 : Nat → FieldType := fun k => match k with
  | _ => .int
abbrev wsJ10 : List Cond := u_ws RJ1 TJ1 0
theorem nmJ1 : ∀ a, a < 0 → ∀ b, b < 0 → a ≠ b → (TJ1 a).2.1 ≠ (TJ1 b).2.1 := by decide +kernel
theorem tyJ1_ok : ∀ k, k < 0 → parseFieldDescriptor (TJ1 k).2.2.1 = some (tyJ1 k) := by decide +kernel
abbrev cJ1_charAt_3b067 : ByteArray := prog_17_method_2_code
def yJ1_charAt_3b067 : MethodName := ⟨RJ1, "charAt", "([BI)C"⟩
def RJ2 : String := "java/lang/StringUTF16"
def TJ2 : u_T := fun k => match k with
  | _ => ("", "", "", false)
def tyJ2 : Nat → FieldType := fun k => match k with
  | _ => .int
abbrev wsJ20 : List Cond := u_ws RJ2 TJ2 0
theorem nmJ2 : ∀ a, a < 0 → ∀ b, b < 0 → a ≠ b → (TJ2 a).2.1 ≠ (TJ2 b).2.1 := by decide +kernel
theorem tyJ2_ok : ∀ k, k < 0 → parseFieldDescriptor (TJ2 k).2.2.1 = some (tyJ2 k) := by decide +kernel
abbrev cJ2_getChar_3b067 : ByteArray := prog_18_method_5_code
def yJ2_getChar_3b067 : MethodName := ⟨RJ2, "getChar", "([BI)C"⟩
abbrev cJ2_length_9d52b : ByteArray := prog_18_method_6_code
def yJ2_length_9d52b : MethodName := ⟨RJ2, "length", "([B)I"⟩
abbrev cJ2_charAt_3b067 : ByteArray := prog_18_method_83_code
def yJ2_charAt_3b067 : MethodName := ⟨RJ2, "charAt", "([BI)C"⟩
abbrev cJ2_checkIndex_2214a : ByteArray := prog_18_method_91_code
def yJ2_checkIndex_2214a : MethodName := ⟨RJ2, "checkIndex", "(I[B)V"⟩
def RJ10 : String := "java/lang/System"
def TJ10 : u_T := fun k => match k with
  | _ => ("", "", "", false)
def tyJ10 : Nat → FieldType := fun k => match k with
  | _ => .int
abbrev wsJ100 : List Cond := u_ws RJ10 TJ10 0
theorem nmJ10 : ∀ a, a < 0 → ∀ b, b < 0 → a ≠ b → (TJ10 a).2.1 ≠ (TJ10 b).2.1 := by decide +kernel
theorem tyJ10_ok : ∀ k, k < 0 → parseFieldDescriptor (TJ10 k).2.2.1 = some (tyJ10 k) := by decide +kernel
def RJ3 : String := "jdk/internal/util/Preconditions"
def TJ3 : u_T := fun k => match k with
  | _ => ("", "", "", false)
def tyJ3 : Nat → FieldType := fun k => match k with
  | _ => .int
abbrev wsJ30 : List Cond := u_ws RJ3 TJ3 0
theorem nmJ3 : ∀ a, a < 0 → ∀ b, b < 0 → a ≠ b → (TJ3 a).2.1 ≠ (TJ3 b).2.1 := by decide +kernel
theorem tyJ3_ok : ∀ k, k < 0 → parseFieldDescriptor (TJ3 k).2.2.1 = some (tyJ3 k) := by decide +kernel
abbrev cJ3_checkIndex_8e157 : ByteArray := prog_20_method_11_code
def yJ3_checkIndex_8e157 : MethodName := ⟨RJ3, "checkIndex", "(IILjava/util/function/BiFunction;)I"⟩
def RL : String := "FarDishesLaw"
abbrev cL_law : ByteArray := code
def yL_law : MethodName := ⟨RL, "law", "([I)Z"⟩
abbrev vwCl : List vw_C := [(RX0, TX0, 9), (RX1, TX1, 8), (RX2, TX2, 8), (RX3, TX3, 4), (RX4, TX4, 7), (RX5, TX5, 12), (RX6, TX6, 2), (RX7, TX7, 3), (RX8, TX8, 2), (RX9, TX9, 8), (RX10, TX10, 9), (RX11, TX11, 8), (RX12, TX12, 28)]
def qG : List Cond := lw_tbl.filter goodWord
theorem qG_good : GoodIn qG qG := fun w h => ⟨h, good_of_word (List.mem_filter.mp h).2⟩
theorem qG_in : ∀ w ∈ qG, w ∈ lw_tbl := fun _ h => (List.mem_filter.mp h).1
theorem qG_t {w : Cond} (h : w ∈ tables_1) (hg : goodWord w = true) : w ∈ qG := List.mem_filter.mpr ⟨List.mem_append_right _ h, hg⟩
theorem qG_s {w : Cond} (h : w ∈ k2_sels lw_privs) (hg : goodWord w = true) : w ∈ qG := List.mem_filter.mpr ⟨List.mem_append_left _ h, hg⟩
