section
-- ===== PART A: goes FIRST, ahead of the names: the tables' words, and 'selects' of the private methods out of them =====
/-- a private method of a class that the tables say can be made, by its rows of tables_1 -/
def lw_okq (q : MethodName × Nat) : Prop := (q.1.cls ≠ "java/lang/invoke/MethodHandle" ∧ q.1.cls ≠ "java/lang/invoke/VarHandle") ∧ Cond.instantiable q.1.cls q.2 ∈ tables_1 ∧ Cond.privateMethod q.1 ∈ tables_1 ∧ Cond.instanceMethod q.1 ∈ tables_1
theorem lw_p0 : lw_okq (⟨"TinKitchen$Reader", "readNumber", "(I)I"⟩, 4) := ⟨⟨by decide +kernel, by decide +kernel⟩, List.mem_of_getElem? (i := 236) (by decide +kernel), List.mem_of_getElem? (i := 505) (by decide +kernel), List.mem_of_getElem? (i := 506) (by decide +kernel)⟩
theorem lw_p1 : lw_okq (⟨"TinKitchen$Reader", "readDigit", "(II)I"⟩, 4) := ⟨⟨by decide +kernel, by decide +kernel⟩, List.mem_of_getElem? (i := 236) (by decide +kernel), List.mem_of_getElem? (i := 509) (by decide +kernel), List.mem_of_getElem? (i := 510) (by decide +kernel)⟩
theorem lw_p2 : lw_okq (⟨"TinKitchen$Reader", "digitHere", "()I"⟩, 4) := ⟨⟨by decide +kernel, by decide +kernel⟩, List.mem_of_getElem? (i := 236) (by decide +kernel), List.mem_of_getElem? (i := 513) (by decide +kernel), List.mem_of_getElem? (i := 514) (by decide +kernel)⟩
theorem lw_p3 : lw_okq (⟨"TinKitchen$Reader", "nameHere", "()I"⟩, 4) := ⟨⟨by decide +kernel, by decide +kernel⟩, List.mem_of_getElem? (i := 236) (by decide +kernel), List.mem_of_getElem? (i := 522) (by decide +kernel), List.mem_of_getElem? (i := 523) (by decide +kernel)⟩
theorem lw_p4 : lw_okq (⟨"TinKitchen$Reader", "readAmount", "(I)V"⟩, 4) := ⟨⟨by decide +kernel, by decide +kernel⟩, List.mem_of_getElem? (i := 236) (by decide +kernel), List.mem_of_getElem? (i := 526) (by decide +kernel), List.mem_of_getElem? (i := 527) (by decide +kernel)⟩
theorem lw_p5 : lw_okq (⟨"TinKitchen$Reader", "readStep", "(I)V"⟩, 4) := ⟨⟨by decide +kernel, by decide +kernel⟩, List.mem_of_getElem? (i := 236) (by decide +kernel), List.mem_of_getElem? (i := 530) (by decide +kernel), List.mem_of_getElem? (i := 531) (by decide +kernel)⟩
theorem lw_p6 : lw_okq (⟨"TinKitchen$Reader", "readSign", "(C)V"⟩, 4) := ⟨⟨by decide +kernel, by decide +kernel⟩, List.mem_of_getElem? (i := 236) (by decide +kernel), List.mem_of_getElem? (i := 534) (by decide +kernel), List.mem_of_getElem? (i := 535) (by decide +kernel)⟩
theorem lw_p7 : lw_okq (⟨"TinKitchen$Reader", "readStepBefore", "(II)I"⟩, 4) := ⟨⟨by decide +kernel, by decide +kernel⟩, List.mem_of_getElem? (i := 236) (by decide +kernel), List.mem_of_getElem? (i := 538) (by decide +kernel), List.mem_of_getElem? (i := 539) (by decide +kernel)⟩
theorem lw_p8 : lw_okq (⟨"TinKitchen$Shopping", "clear", "(I)V"⟩, 10) := ⟨⟨by decide +kernel, by decide +kernel⟩, List.mem_of_getElem? (i := 258) (by decide +kernel), List.mem_of_getElem? (i := 574) (by decide +kernel), List.mem_of_getElem? (i := 575) (by decide +kernel)⟩
theorem lw_p9 : lw_okq (⟨"TinKitchen$Shopping", "planOne", "(LTinKitchen$State;I)V"⟩, 10) := ⟨⟨by decide +kernel, by decide +kernel⟩, List.mem_of_getElem? (i := 258) (by decide +kernel), List.mem_of_getElem? (i := 590) (by decide +kernel), List.mem_of_getElem? (i := 591) (by decide +kernel)⟩
theorem lw_p10 : lw_okq (⟨"TinKitchen$Shopping", "buy", "(LTinKitchen$Ingredient;II)V"⟩, 10) := ⟨⟨by decide +kernel, by decide +kernel⟩, List.mem_of_getElem? (i := 258) (by decide +kernel), List.mem_of_getElem? (i := 596) (by decide +kernel), List.mem_of_getElem? (i := 597) (by decide +kernel)⟩
theorem lw_p11 : lw_okq (⟨"TinKitchen$TinSearch", "mostOf", "(I)I"⟩, 10) := ⟨⟨by decide +kernel, by decide +kernel⟩, List.mem_of_getElem? (i := 266) (by decide +kernel), List.mem_of_getElem? (i := 611) (by decide +kernel), List.mem_of_getElem? (i := 612) (by decide +kernel)⟩
theorem lw_p12 : lw_okq (⟨"TinKitchen$TinSearch", "isTooDear", "(III)Z"⟩, 10) := ⟨⟨by decide +kernel, by decide +kernel⟩, List.mem_of_getElem? (i := 266) (by decide +kernel), List.mem_of_getElem? (i := 623) (by decide +kernel), List.mem_of_getElem? (i := 624) (by decide +kernel)⟩
theorem lw_p13 : lw_okq (⟨"TinKitchen$TinSearch", "offer", "(III)V"⟩, 10) := ⟨⟨by decide +kernel, by decide +kernel⟩, List.mem_of_getElem? (i := 266) (by decide +kernel), List.mem_of_getElem? (i := 628) (by decide +kernel), List.mem_of_getElem? (i := 629) (by decide +kernel)⟩
theorem lw_p14 : lw_okq (⟨"TinKitchen$TinSearch", "putTried", "(II)V"⟩, 10) := ⟨⟨by decide +kernel, by decide +kernel⟩, List.mem_of_getElem? (i := 266) (by decide +kernel), List.mem_of_getElem? (i := 633) (by decide +kernel), List.mem_of_getElem? (i := 634) (by decide +kernel)⟩
theorem lw_p15 : lw_okq (⟨"TinKitchen$TinSearch", "isBetter", "(III)Z"⟩, 10) := ⟨⟨by decide +kernel, by decide +kernel⟩, List.mem_of_getElem? (i := 266) (by decide +kernel), List.mem_of_getElem? (i := 637) (by decide +kernel), List.mem_of_getElem? (i := 638) (by decide +kernel)⟩
def lw_privs_1 : List (MethodName × Nat) := [(⟨"TinKitchen$Reader", "readNumber", "(I)I"⟩, 4), (⟨"TinKitchen$Reader", "readDigit", "(II)I"⟩, 4), (⟨"TinKitchen$Reader", "digitHere", "()I"⟩, 4), (⟨"TinKitchen$Reader", "nameHere", "()I"⟩, 4), (⟨"TinKitchen$Reader", "readAmount", "(I)V"⟩, 4), (⟨"TinKitchen$Reader", "readStep", "(I)V"⟩, 4), (⟨"TinKitchen$Reader", "readSign", "(C)V"⟩, 4), (⟨"TinKitchen$Reader", "readStepBefore", "(II)I"⟩, 4), (⟨"TinKitchen$Shopping", "clear", "(I)V"⟩, 10), (⟨"TinKitchen$Shopping", "planOne", "(LTinKitchen$State;I)V"⟩, 10), (⟨"TinKitchen$Shopping", "buy", "(LTinKitchen$Ingredient;II)V"⟩, 10), (⟨"TinKitchen$TinSearch", "mostOf", "(I)I"⟩, 10), (⟨"TinKitchen$TinSearch", "isTooDear", "(III)Z"⟩, 10), (⟨"TinKitchen$TinSearch", "offer", "(III)V"⟩, 10), (⟨"TinKitchen$TinSearch", "putTried", "(II)V"⟩, 10), (⟨"TinKitchen$TinSearch", "isBetter", "(III)Z"⟩, 10)]
theorem lw_r1 : ∀ q ∈ lw_privs_1, lw_okq q := List.forall_mem_cons.mpr ⟨lw_p0, List.forall_mem_cons.mpr ⟨lw_p1, List.forall_mem_cons.mpr ⟨lw_p2, List.forall_mem_cons.mpr ⟨lw_p3, List.forall_mem_cons.mpr ⟨lw_p4, List.forall_mem_cons.mpr ⟨lw_p5, List.forall_mem_cons.mpr ⟨lw_p6, List.forall_mem_cons.mpr ⟨lw_p7, List.forall_mem_cons.mpr ⟨lw_p8, List.forall_mem_cons.mpr ⟨lw_p9, List.forall_mem_cons.mpr ⟨lw_p10, List.forall_mem_cons.mpr ⟨lw_p11, List.forall_mem_cons.mpr ⟨lw_p12, List.forall_mem_cons.mpr ⟨lw_p13, List.forall_mem_cons.mpr ⟨lw_p14, List.forall_mem_cons.mpr ⟨lw_p15, fun _ h => absurd h List.not_mem_nil⟩⟩⟩⟩⟩⟩⟩⟩⟩⟩⟩⟩⟩⟩⟩⟩
theorem lw_p16 : lw_okq (⟨"TinKitchen$Shopping", "replace", "(LTinKitchen$State;II)Z"⟩, 10) := ⟨⟨by decide +kernel, by decide +kernel⟩, List.mem_of_getElem? (i := 258) (by decide +kernel), List.mem_of_getElem? (i := 642) (by decide +kernel), List.mem_of_getElem? (i := 643) (by decide +kernel)⟩
theorem lw_p17 : lw_okq (⟨"TinKitchen", "canBeCooked", "()Z"⟩, 8) := ⟨⟨by decide +kernel, by decide +kernel⟩, List.mem_of_getElem? (i := 16) (by decide +kernel), List.mem_of_getElem? (i := 649) (by decide +kernel), List.mem_of_getElem? (i := 650) (by decide +kernel)⟩
theorem lw_p18 : lw_okq (⟨"TinKitchen", "tailInMenu", "(II)I"⟩, 8) := ⟨⟨by decide +kernel, by decide +kernel⟩, List.mem_of_getElem? (i := 16) (by decide +kernel), List.mem_of_getElem? (i := 729) (by decide +kernel), List.mem_of_getElem? (i := 730) (by decide +kernel)⟩
theorem lw_p19 : lw_okq (⟨"TinKitchen$Schedule", "gatherSteps", "(LTinKitchen$Recipe;I)V"⟩, 9) := ⟨⟨by decide +kernel, by decide +kernel⟩, List.mem_of_getElem? (i := 346) (by decide +kernel), List.mem_of_getElem? (i := 737) (by decide +kernel), List.mem_of_getElem? (i := 738) (by decide +kernel)⟩
theorem lw_p20 : lw_okq (⟨"TinKitchen$Schedule", "longestBehind", "(III)I"⟩, 9) := ⟨⟨by decide +kernel, by decide +kernel⟩, List.mem_of_getElem? (i := 346) (by decide +kernel), List.mem_of_getElem? (i := 743) (by decide +kernel), List.mem_of_getElem? (i := 744) (by decide +kernel)⟩
theorem lw_p21 : lw_okq (⟨"TinKitchen$Schedule", "insert", "(I)V"⟩, 9) := ⟨⟨by decide +kernel, by decide +kernel⟩, List.mem_of_getElem? (i := 346) (by decide +kernel), List.mem_of_getElem? (i := 748) (by decide +kernel), List.mem_of_getElem? (i := 749) (by decide +kernel)⟩
theorem lw_p22 : lw_okq (⟨"TinKitchen", "beginInMenu", "(II)I"⟩, 8) := ⟨⟨by decide +kernel, by decide +kernel⟩, List.mem_of_getElem? (i := 16) (by decide +kernel), List.mem_of_getElem? (i := 752) (by decide +kernel), List.mem_of_getElem? (i := 753) (by decide +kernel)⟩
theorem lw_p23 : lw_okq (⟨"TinKitchen$Schedule", "beginAt", "(II)V"⟩, 9) := ⟨⟨by decide +kernel, by decide +kernel⟩, List.mem_of_getElem? (i := 346) (by decide +kernel), List.mem_of_getElem? (i := 760) (by decide +kernel), List.mem_of_getElem? (i := 761) (by decide +kernel)⟩
theorem lw_p24 : lw_okq (⟨"TinKitchen$Schedule", "busyHands", "(I)I"⟩, 9) := ⟨⟨by decide +kernel, by decide +kernel⟩, List.mem_of_getElem? (i := 346) (by decide +kernel), List.mem_of_getElem? (i := 764) (by decide +kernel), List.mem_of_getElem? (i := 765) (by decide +kernel)⟩
theorem lw_p25 : lw_okq (⟨"TinKitchen$Schedule", "isReady", "(II)Z"⟩, 9) := ⟨⟨by decide +kernel, by decide +kernel⟩, List.mem_of_getElem? (i := 346) (by decide +kernel), List.mem_of_getElem? (i := 768) (by decide +kernel), List.mem_of_getElem? (i := 769) (by decide +kernel)⟩
theorem lw_p26 : lw_okq (⟨"TinKitchen$Schedule", "hasEnded", "(II)Z"⟩, 9) := ⟨⟨by decide +kernel, by decide +kernel⟩, List.mem_of_getElem? (i := 346) (by decide +kernel), List.mem_of_getElem? (i := 773) (by decide +kernel), List.mem_of_getElem? (i := 774) (by decide +kernel)⟩
theorem lw_p27 : lw_okq (⟨"TinKitchen$Schedule", "nextEnd", "(I)I"⟩, 9) := ⟨⟨by decide +kernel, by decide +kernel⟩, List.mem_of_getElem? (i := 346) (by decide +kernel), List.mem_of_getElem? (i := 777) (by decide +kernel), List.mem_of_getElem? (i := 778) (by decide +kernel)⟩
theorem lw_p28 : lw_okq (⟨"TinKitchen", "ofShopping", "(I)I"⟩, 8) := ⟨⟨by decide +kernel, by decide +kernel⟩, List.mem_of_getElem? (i := 16) (by decide +kernel), List.mem_of_getElem? (i := 789) (by decide +kernel), List.mem_of_getElem? (i := 790) (by decide +kernel)⟩
theorem lw_p29 : lw_okq (⟨"TinKitchen", "ofSchedule", "(I)I"⟩, 8) := ⟨⟨by decide +kernel, by decide +kernel⟩, List.mem_of_getElem? (i := 16) (by decide +kernel), List.mem_of_getElem? (i := 797) (by decide +kernel), List.mem_of_getElem? (i := 798) (by decide +kernel)⟩
theorem lw_p30 : lw_okq (⟨"TinKitchenModel", "keep", "()V"⟩, 31) := ⟨⟨by decide +kernel, by decide +kernel⟩, List.mem_of_getElem? (i := 860) (by decide +kernel), List.mem_of_getElem? (i := 966) (by decide +kernel), List.mem_of_getElem? (i := 967) (by decide +kernel)⟩
theorem lw_p31 : lw_okq (⟨"TinKitchenModel", "lay", "(III)V"⟩, 31) := ⟨⟨by decide +kernel, by decide +kernel⟩, List.mem_of_getElem? (i := 860) (by decide +kernel), List.mem_of_getElem? (i := 970) (by decide +kernel), List.mem_of_getElem? (i := 971) (by decide +kernel)⟩
def lw_privs_2 : List (MethodName × Nat) := [(⟨"TinKitchen$Shopping", "replace", "(LTinKitchen$State;II)Z"⟩, 10), (⟨"TinKitchen", "canBeCooked", "()Z"⟩, 8), (⟨"TinKitchen", "tailInMenu", "(II)I"⟩, 8), (⟨"TinKitchen$Schedule", "gatherSteps", "(LTinKitchen$Recipe;I)V"⟩, 9), (⟨"TinKitchen$Schedule", "longestBehind", "(III)I"⟩, 9), (⟨"TinKitchen$Schedule", "insert", "(I)V"⟩, 9), (⟨"TinKitchen", "beginInMenu", "(II)I"⟩, 8), (⟨"TinKitchen$Schedule", "beginAt", "(II)V"⟩, 9), (⟨"TinKitchen$Schedule", "busyHands", "(I)I"⟩, 9), (⟨"TinKitchen$Schedule", "isReady", "(II)Z"⟩, 9), (⟨"TinKitchen$Schedule", "hasEnded", "(II)Z"⟩, 9), (⟨"TinKitchen$Schedule", "nextEnd", "(I)I"⟩, 9), (⟨"TinKitchen", "ofShopping", "(I)I"⟩, 8), (⟨"TinKitchen", "ofSchedule", "(I)I"⟩, 8), (⟨"TinKitchenModel", "keep", "()V"⟩, 31), (⟨"TinKitchenModel", "lay", "(III)V"⟩, 31)]
theorem lw_r2 : ∀ q ∈ lw_privs_2, lw_okq q := List.forall_mem_cons.mpr ⟨lw_p16, List.forall_mem_cons.mpr ⟨lw_p17, List.forall_mem_cons.mpr ⟨lw_p18, List.forall_mem_cons.mpr ⟨lw_p19, List.forall_mem_cons.mpr ⟨lw_p20, List.forall_mem_cons.mpr ⟨lw_p21, List.forall_mem_cons.mpr ⟨lw_p22, List.forall_mem_cons.mpr ⟨lw_p23, List.forall_mem_cons.mpr ⟨lw_p24, List.forall_mem_cons.mpr ⟨lw_p25, List.forall_mem_cons.mpr ⟨lw_p26, List.forall_mem_cons.mpr ⟨lw_p27, List.forall_mem_cons.mpr ⟨lw_p28, List.forall_mem_cons.mpr ⟨lw_p29, List.forall_mem_cons.mpr ⟨lw_p30, List.forall_mem_cons.mpr ⟨lw_p31, fun _ h => absurd h List.not_mem_nil⟩⟩⟩⟩⟩⟩⟩⟩⟩⟩⟩⟩⟩⟩⟩⟩
theorem lw_p32 : lw_okq (⟨"TinKitchenModel", "isIngredient", "(I)Z"⟩, 31) := ⟨⟨by decide +kernel, by decide +kernel⟩, List.mem_of_getElem? (i := 860) (by decide +kernel), List.mem_of_getElem? (i := 978) (by decide +kernel), List.mem_of_getElem? (i := 979) (by decide +kernel)⟩
theorem lw_p33 : lw_okq (⟨"TinKitchenModel", "of", "(II)I"⟩, 31) := ⟨⟨by decide +kernel, by decide +kernel⟩, List.mem_of_getElem? (i := 860) (by decide +kernel), List.mem_of_getElem? (i := 982) (by decide +kernel), List.mem_of_getElem? (i := 983) (by decide +kernel)⟩
theorem lw_p34 : lw_okq (⟨"TinKitchenModel", "sizeOf", "(II)I"⟩, 31) := ⟨⟨by decide +kernel, by decide +kernel⟩, List.mem_of_getElem? (i := 860) (by decide +kernel), List.mem_of_getElem? (i := 986) (by decide +kernel), List.mem_of_getElem? (i := 987) (by decide +kernel)⟩
theorem lw_p35 : lw_okq (⟨"TinKitchenModel", "pantry", "(I)I"⟩, 31) := ⟨⟨by decide +kernel, by decide +kernel⟩, List.mem_of_getElem? (i := 860) (by decide +kernel), List.mem_of_getElem? (i := 1002) (by decide +kernel), List.mem_of_getElem? (i := 1003) (by decide +kernel)⟩
theorem lw_p36 : lw_okq (⟨"TinKitchenModel", "putIn", "(II)V"⟩, 31) := ⟨⟨by decide +kernel, by decide +kernel⟩, List.mem_of_getElem? (i := 860) (by decide +kernel), List.mem_of_getElem? (i := 1007) (by decide +kernel), List.mem_of_getElem? (i := 1008) (by decide +kernel)⟩
theorem lw_p37 : lw_okq (⟨"TinKitchenModel", "lotOn", "(II)I"⟩, 31) := ⟨⟨by decide +kernel, by decide +kernel⟩, List.mem_of_getElem? (i := 860) (by decide +kernel), List.mem_of_getElem? (i := 1011) (by decide +kernel), List.mem_of_getElem? (i := 1012) (by decide +kernel)⟩
theorem lw_p38 : lw_okq (⟨"TinKitchenModel", "layLot", "(III)V"⟩, 31) := ⟨⟨by decide +kernel, by decide +kernel⟩, List.mem_of_getElem? (i := 860) (by decide +kernel), List.mem_of_getElem? (i := 1015) (by decide +kernel), List.mem_of_getElem? (i := 1016) (by decide +kernel)⟩
theorem lw_p39 : lw_okq (⟨"TinKitchenModel", "canCook", "()Z"⟩, 31) := ⟨⟨by decide +kernel, by decide +kernel⟩, List.mem_of_getElem? (i := 860) (by decide +kernel), List.mem_of_getElem? (i := 1027) (by decide +kernel), List.mem_of_getElem? (i := 1028) (by decide +kernel)⟩
theorem lw_p40 : lw_okq (⟨"TinKitchenModel", "findNeeds", "()V"⟩, 31) := ⟨⟨by decide +kernel, by decide +kernel⟩, List.mem_of_getElem? (i := 860) (by decide +kernel), List.mem_of_getElem? (i := 1031) (by decide +kernel), List.mem_of_getElem? (i := 1032) (by decide +kernel)⟩
theorem lw_p41 : lw_okq (⟨"TinKitchenModel", "clearNeeds", "()V"⟩, 31) := ⟨⟨by decide +kernel, by decide +kernel⟩, List.mem_of_getElem? (i := 860) (by decide +kernel), List.mem_of_getElem? (i := 1035) (by decide +kernel), List.mem_of_getElem? (i := 1036) (by decide +kernel)⟩
theorem lw_p42 : lw_okq (⟨"TinKitchenModel", "byRecipes", "(I)I"⟩, 31) := ⟨⟨by decide +kernel, by decide +kernel⟩, List.mem_of_getElem? (i := 860) (by decide +kernel), List.mem_of_getElem? (i := 1039) (by decide +kernel), List.mem_of_getElem? (i := 1040) (by decide +kernel)⟩
theorem lw_p43 : lw_okq (⟨"TinKitchenModel", "ofARecipe", "(II)I"⟩, 31) := ⟨⟨by decide +kernel, by decide +kernel⟩, List.mem_of_getElem? (i := 860) (by decide +kernel), List.mem_of_getElem? (i := 1043) (by decide +kernel), List.mem_of_getElem? (i := 1044) (by decide +kernel)⟩
theorem lw_p44 : lw_okq (⟨"TinKitchenModel", "getRest", "(II)V"⟩, 31) := ⟨⟨by decide +kernel, by decide +kernel⟩, List.mem_of_getElem? (i := 860) (by decide +kernel), List.mem_of_getElem? (i := 1050) (by decide +kernel), List.mem_of_getElem? (i := 1051) (by decide +kernel)⟩
theorem lw_p45 : lw_okq (⟨"TinKitchenModel", "buy", "(II)V"⟩, 31) := ⟨⟨by decide +kernel, by decide +kernel⟩, List.mem_of_getElem? (i := 860) (by decide +kernel), List.mem_of_getElem? (i := 1054) (by decide +kernel), List.mem_of_getElem? (i := 1055) (by decide +kernel)⟩
theorem lw_p46 : lw_okq (⟨"TinKitchenModel", "findTins", "(II)V"⟩, 31) := ⟨⟨by decide +kernel, by decide +kernel⟩, List.mem_of_getElem? (i := 860) (by decide +kernel), List.mem_of_getElem? (i := 1058) (by decide +kernel), List.mem_of_getElem? (i := 1059) (by decide +kernel)⟩
theorem lw_p47 : lw_okq (⟨"TinKitchenModel", "priceOf", "(II)I"⟩, 31) := ⟨⟨by decide +kernel, by decide +kernel⟩, List.mem_of_getElem? (i := 860) (by decide +kernel), List.mem_of_getElem? (i := 1063) (by decide +kernel), List.mem_of_getElem? (i := 1064) (by decide +kernel)⟩
def lw_privs_3 : List (MethodName × Nat) := [(⟨"TinKitchenModel", "isIngredient", "(I)Z"⟩, 31), (⟨"TinKitchenModel", "of", "(II)I"⟩, 31), (⟨"TinKitchenModel", "sizeOf", "(II)I"⟩, 31), (⟨"TinKitchenModel", "pantry", "(I)I"⟩, 31), (⟨"TinKitchenModel", "putIn", "(II)V"⟩, 31), (⟨"TinKitchenModel", "lotOn", "(II)I"⟩, 31), (⟨"TinKitchenModel", "layLot", "(III)V"⟩, 31), (⟨"TinKitchenModel", "canCook", "()Z"⟩, 31), (⟨"TinKitchenModel", "findNeeds", "()V"⟩, 31), (⟨"TinKitchenModel", "clearNeeds", "()V"⟩, 31), (⟨"TinKitchenModel", "byRecipes", "(I)I"⟩, 31), (⟨"TinKitchenModel", "ofARecipe", "(II)I"⟩, 31), (⟨"TinKitchenModel", "getRest", "(II)V"⟩, 31), (⟨"TinKitchenModel", "buy", "(II)V"⟩, 31), (⟨"TinKitchenModel", "findTins", "(II)V"⟩, 31), (⟨"TinKitchenModel", "priceOf", "(II)I"⟩, 31)]
theorem lw_r3 : ∀ q ∈ lw_privs_3, lw_okq q := List.forall_mem_cons.mpr ⟨lw_p32, List.forall_mem_cons.mpr ⟨lw_p33, List.forall_mem_cons.mpr ⟨lw_p34, List.forall_mem_cons.mpr ⟨lw_p35, List.forall_mem_cons.mpr ⟨lw_p36, List.forall_mem_cons.mpr ⟨lw_p37, List.forall_mem_cons.mpr ⟨lw_p38, List.forall_mem_cons.mpr ⟨lw_p39, List.forall_mem_cons.mpr ⟨lw_p40, List.forall_mem_cons.mpr ⟨lw_p41, List.forall_mem_cons.mpr ⟨lw_p42, List.forall_mem_cons.mpr ⟨lw_p43, List.forall_mem_cons.mpr ⟨lw_p44, List.forall_mem_cons.mpr ⟨lw_p45, List.forall_mem_cons.mpr ⟨lw_p46, List.forall_mem_cons.mpr ⟨lw_p47, fun _ h => absurd h List.not_mem_nil⟩⟩⟩⟩⟩⟩⟩⟩⟩⟩⟩⟩⟩⟩⟩⟩
theorem lw_p48 : lw_okq (⟨"TinKitchenModel", "consider", "(IIII)V"⟩, 31) := ⟨⟨by decide +kernel, by decide +kernel⟩, List.mem_of_getElem? (i := 860) (by decide +kernel), List.mem_of_getElem? (i := 1070) (by decide +kernel), List.mem_of_getElem? (i := 1071) (by decide +kernel)⟩
theorem lw_p49 : lw_okq (⟨"TinKitchenModel", "hasPortions", "()Z"⟩, 31) := ⟨⟨by decide +kernel, by decide +kernel⟩, List.mem_of_getElem? (i := 860) (by decide +kernel), List.mem_of_getElem? (i := 1074) (by decide +kernel), List.mem_of_getElem? (i := 1075) (by decide +kernel)⟩
theorem lw_p50 : lw_okq (⟨"TinKitchenModel", "missingSet", "()I"⟩, 31) := ⟨⟨by decide +kernel, by decide +kernel⟩, List.mem_of_getElem? (i := 860) (by decide +kernel), List.mem_of_getElem? (i := 1078) (by decide +kernel), List.mem_of_getElem? (i := 1079) (by decide +kernel)⟩
theorem lw_p51 : lw_okq (⟨"TinKitchenModel", "takeOut", "(II)V"⟩, 31) := ⟨⟨by decide +kernel, by decide +kernel⟩, List.mem_of_getElem? (i := 860) (by decide +kernel), List.mem_of_getElem? (i := 1082) (by decide +kernel), List.mem_of_getElem? (i := 1083) (by decide +kernel)⟩
theorem lw_p52 : lw_okq (⟨"TinKitchenModel", "sumOf", "([I)I"⟩, 31) := ⟨⟨by decide +kernel, by decide +kernel⟩, List.mem_of_getElem? (i := 860) (by decide +kernel), List.mem_of_getElem? (i := 1086) (by decide +kernel), List.mem_of_getElem? (i := 1087) (by decide +kernel)⟩
theorem lw_p53 : lw_okq (⟨"TinKitchenModel", "takeNumber", "(I)I"⟩, 31) := ⟨⟨by decide +kernel, by decide +kernel⟩, List.mem_of_getElem? (i := 860) (by decide +kernel), List.mem_of_getElem? (i := 1094) (by decide +kernel), List.mem_of_getElem? (i := 1095) (by decide +kernel)⟩
theorem lw_p54 : lw_okq (⟨"TinKitchenModel", "next", "()I"⟩, 31) := ⟨⟨by decide +kernel, by decide +kernel⟩, List.mem_of_getElem? (i := 860) (by decide +kernel), List.mem_of_getElem? (i := 1098) (by decide +kernel), List.mem_of_getElem? (i := 1099) (by decide +kernel)⟩
theorem lw_p55 : lw_okq (⟨"TinKitchenModel", "takeAmount", "()V"⟩, 31) := ⟨⟨by decide +kernel, by decide +kernel⟩, List.mem_of_getElem? (i := 860) (by decide +kernel), List.mem_of_getElem? (i := 1102) (by decide +kernel), List.mem_of_getElem? (i := 1103) (by decide +kernel)⟩
theorem lw_p56 : lw_okq (⟨"TinKitchenModel", "takeStep", "()V"⟩, 31) := ⟨⟨by decide +kernel, by decide +kernel⟩, List.mem_of_getElem? (i := 860) (by decide +kernel), List.mem_of_getElem? (i := 1106) (by decide +kernel), List.mem_of_getElem? (i := 1107) (by decide +kernel)⟩
theorem lw_p57 : lw_okq (⟨"TinKitchenModel", "takeDigit", "(II)I"⟩, 31) := ⟨⟨by decide +kernel, by decide +kernel⟩, List.mem_of_getElem? (i := 860) (by decide +kernel), List.mem_of_getElem? (i := 1110) (by decide +kernel), List.mem_of_getElem? (i := 1111) (by decide +kernel)⟩
theorem lw_p58 : lw_okq (⟨"TinKitchenModel", "isRecipe", "(I)Z"⟩, 31) := ⟨⟨by decide +kernel, by decide +kernel⟩, List.mem_of_getElem? (i := 860) (by decide +kernel), List.mem_of_getElem? (i := 1123) (by decide +kernel), List.mem_of_getElem? (i := 1124) (by decide +kernel)⟩
theorem lw_p59 : lw_okq (⟨"TinKitchenModel", "lots", "(I)I"⟩, 31) := ⟨⟨by decide +kernel, by decide +kernel⟩, List.mem_of_getElem? (i := 860) (by decide +kernel), List.mem_of_getElem? (i := 1139) (by decide +kernel), List.mem_of_getElem? (i := 1140) (by decide +kernel)⟩
theorem lw_p60 : lw_okq (⟨"TinKitchenModel", "firstDay", "(I)I"⟩, 31) := ⟨⟨by decide +kernel, by decide +kernel⟩, List.mem_of_getElem? (i := 860) (by decide +kernel), List.mem_of_getElem? (i := 1143) (by decide +kernel), List.mem_of_getElem? (i := 1144) (by decide +kernel)⟩
theorem lw_p61 : lw_okq (⟨"TinKitchenModel", "lastsOf", "(III)I"⟩, 31) := ⟨⟨by decide +kernel, by decide +kernel⟩, List.mem_of_getElem? (i := 860) (by decide +kernel), List.mem_of_getElem? (i := 1159) (by decide +kernel), List.mem_of_getElem? (i := 1160) (by decide +kernel)⟩
theorem lw_p62 : lw_okq (⟨"TinKitchenModel", "ofStep", "(III)I"⟩, 31) := ⟨⟨by decide +kernel, by decide +kernel⟩, List.mem_of_getElem? (i := 860) (by decide +kernel), List.mem_of_getElem? (i := 1163) (by decide +kernel), List.mem_of_getElem? (i := 1164) (by decide +kernel)⟩
theorem lw_p63 : lw_okq (⟨"TinKitchenModel", "findTimes", "(I)I"⟩, 31) := ⟨⟨by decide +kernel, by decide +kernel⟩, List.mem_of_getElem? (i := 860) (by decide +kernel), List.mem_of_getElem? (i := 1167) (by decide +kernel), List.mem_of_getElem? (i := 1168) (by decide +kernel)⟩
def lw_privs_4 : List (MethodName × Nat) := [(⟨"TinKitchenModel", "consider", "(IIII)V"⟩, 31), (⟨"TinKitchenModel", "hasPortions", "()Z"⟩, 31), (⟨"TinKitchenModel", "missingSet", "()I"⟩, 31), (⟨"TinKitchenModel", "takeOut", "(II)V"⟩, 31), (⟨"TinKitchenModel", "sumOf", "([I)I"⟩, 31), (⟨"TinKitchenModel", "takeNumber", "(I)I"⟩, 31), (⟨"TinKitchenModel", "next", "()I"⟩, 31), (⟨"TinKitchenModel", "takeAmount", "()V"⟩, 31), (⟨"TinKitchenModel", "takeStep", "()V"⟩, 31), (⟨"TinKitchenModel", "takeDigit", "(II)I"⟩, 31), (⟨"TinKitchenModel", "isRecipe", "(I)Z"⟩, 31), (⟨"TinKitchenModel", "lots", "(I)I"⟩, 31), (⟨"TinKitchenModel", "firstDay", "(I)I"⟩, 31), (⟨"TinKitchenModel", "lastsOf", "(III)I"⟩, 31), (⟨"TinKitchenModel", "ofStep", "(III)I"⟩, 31), (⟨"TinKitchenModel", "findTimes", "(I)I"⟩, 31)]
theorem lw_r4 : ∀ q ∈ lw_privs_4, lw_okq q := List.forall_mem_cons.mpr ⟨lw_p48, List.forall_mem_cons.mpr ⟨lw_p49, List.forall_mem_cons.mpr ⟨lw_p50, List.forall_mem_cons.mpr ⟨lw_p51, List.forall_mem_cons.mpr ⟨lw_p52, List.forall_mem_cons.mpr ⟨lw_p53, List.forall_mem_cons.mpr ⟨lw_p54, List.forall_mem_cons.mpr ⟨lw_p55, List.forall_mem_cons.mpr ⟨lw_p56, List.forall_mem_cons.mpr ⟨lw_p57, List.forall_mem_cons.mpr ⟨lw_p58, List.forall_mem_cons.mpr ⟨lw_p59, List.forall_mem_cons.mpr ⟨lw_p60, List.forall_mem_cons.mpr ⟨lw_p61, List.forall_mem_cons.mpr ⟨lw_p62, List.forall_mem_cons.mpr ⟨lw_p63, fun _ h => absurd h List.not_mem_nil⟩⟩⟩⟩⟩⟩⟩⟩⟩⟩⟩⟩⟩⟩⟩⟩
theorem lw_p64 : lw_okq (⟨"TinKitchenModel", "findTails", "()V"⟩, 31) := ⟨⟨by decide +kernel, by decide +kernel⟩, List.mem_of_getElem? (i := 860) (by decide +kernel), List.mem_of_getElem? (i := 1171) (by decide +kernel), List.mem_of_getElem? (i := 1172) (by decide +kernel)⟩
theorem lw_p65 : lw_okq (⟨"TinKitchenModel", "isOn", "(I)Z"⟩, 31) := ⟨⟨by decide +kernel, by decide +kernel⟩, List.mem_of_getElem? (i := 860) (by decide +kernel), List.mem_of_getElem? (i := 1175) (by decide +kernel), List.mem_of_getElem? (i := 1176) (by decide +kernel)⟩
theorem lw_p66 : lw_okq (⟨"TinKitchenModel", "aheadOf", "(I)I"⟩, 31) := ⟨⟨by decide +kernel, by decide +kernel⟩, List.mem_of_getElem? (i := 860) (by decide +kernel), List.mem_of_getElem? (i := 1179) (by decide +kernel), List.mem_of_getElem? (i := 1180) (by decide +kernel)⟩
theorem lw_p67 : lw_okq (⟨"TinKitchenModel", "handsOf", "(I)I"⟩, 31) := ⟨⟨by decide +kernel, by decide +kernel⟩, List.mem_of_getElem? (i := 860) (by decide +kernel), List.mem_of_getElem? (i := 1183) (by decide +kernel), List.mem_of_getElem? (i := 1184) (by decide +kernel)⟩
theorem lw_p68 : lw_okq (⟨"TinKitchenModel", "freeAt", "(II)I"⟩, 31) := ⟨⟨by decide +kernel, by decide +kernel⟩, List.mem_of_getElem? (i := 860) (by decide +kernel), List.mem_of_getElem? (i := 1187) (by decide +kernel), List.mem_of_getElem? (i := 1188) (by decide +kernel)⟩
theorem lw_p69 : lw_okq (⟨"TinKitchenModel", "hasEnded", "(II)Z"⟩, 31) := ⟨⟨by decide +kernel, by decide +kernel⟩, List.mem_of_getElem? (i := 860) (by decide +kernel), List.mem_of_getElem? (i := 1191) (by decide +kernel), List.mem_of_getElem? (i := 1192) (by decide +kernel)⟩
theorem lw_p70 : lw_okq (⟨"TinKitchenModel", "nextAt", "(II)I"⟩, 31) := ⟨⟨by decide +kernel, by decide +kernel⟩, List.mem_of_getElem? (i := 860) (by decide +kernel), List.mem_of_getElem? (i := 1195) (by decide +kernel), List.mem_of_getElem? (i := 1196) (by decide +kernel)⟩
theorem lw_p71 : lw_okq (⟨"TinKitchenModel", "isReady", "(II)Z"⟩, 31) := ⟨⟨by decide +kernel, by decide +kernel⟩, List.mem_of_getElem? (i := 860) (by decide +kernel), List.mem_of_getElem? (i := 1199) (by decide +kernel), List.mem_of_getElem? (i := 1200) (by decide +kernel)⟩
theorem lw_p72 : lw_okq (⟨"TinKitchenModel", "nextEnd", "(I)I"⟩, 31) := ⟨⟨by decide +kernel, by decide +kernel⟩, List.mem_of_getElem? (i := 860) (by decide +kernel), List.mem_of_getElem? (i := 1203) (by decide +kernel), List.mem_of_getElem? (i := 1204) (by decide +kernel)⟩
theorem lw_p73 : lw_okq (⟨"TinKitchenModel", "ofPlan", "(I)I"⟩, 31) := ⟨⟨by decide +kernel, by decide +kernel⟩, List.mem_of_getElem? (i := 860) (by decide +kernel), List.mem_of_getElem? (i := 1215) (by decide +kernel), List.mem_of_getElem? (i := 1216) (by decide +kernel)⟩
theorem lw_p74 : lw_okq (⟨"TinKitchenModel", "bound", "()I"⟩, 31) := ⟨⟨by decide +kernel, by decide +kernel⟩, List.mem_of_getElem? (i := 860) (by decide +kernel), List.mem_of_getElem? (i := 1219) (by decide +kernel), List.mem_of_getElem? (i := 1220) (by decide +kernel)⟩
def lw_privs_5 : List (MethodName × Nat) := [(⟨"TinKitchenModel", "findTails", "()V"⟩, 31), (⟨"TinKitchenModel", "isOn", "(I)Z"⟩, 31), (⟨"TinKitchenModel", "aheadOf", "(I)I"⟩, 31), (⟨"TinKitchenModel", "handsOf", "(I)I"⟩, 31), (⟨"TinKitchenModel", "freeAt", "(II)I"⟩, 31), (⟨"TinKitchenModel", "hasEnded", "(II)Z"⟩, 31), (⟨"TinKitchenModel", "nextAt", "(II)I"⟩, 31), (⟨"TinKitchenModel", "isReady", "(II)Z"⟩, 31), (⟨"TinKitchenModel", "nextEnd", "(I)I"⟩, 31), (⟨"TinKitchenModel", "ofPlan", "(I)I"⟩, 31), (⟨"TinKitchenModel", "bound", "()I"⟩, 31)]
theorem lw_r5 : ∀ q ∈ lw_privs_5, lw_okq q := List.forall_mem_cons.mpr ⟨lw_p64, List.forall_mem_cons.mpr ⟨lw_p65, List.forall_mem_cons.mpr ⟨lw_p66, List.forall_mem_cons.mpr ⟨lw_p67, List.forall_mem_cons.mpr ⟨lw_p68, List.forall_mem_cons.mpr ⟨lw_p69, List.forall_mem_cons.mpr ⟨lw_p70, List.forall_mem_cons.mpr ⟨lw_p71, List.forall_mem_cons.mpr ⟨lw_p72, List.forall_mem_cons.mpr ⟨lw_p73, List.forall_mem_cons.mpr ⟨lw_p74, fun _ h => absurd h List.not_mem_nil⟩⟩⟩⟩⟩⟩⟩⟩⟩⟩⟩
def lw_privs : List (MethodName × Nat) := lw_privs_1 ++ (lw_privs_2 ++ (lw_privs_3 ++ (lw_privs_4 ++ (lw_privs_5))))
def lw_tbl : List Cond := k2_sels lw_privs ++ tables_1
theorem lw_privs_ok : ∀ q ∈ lw_privs, lw_okq q := by
  show ∀ q ∈ lw_privs_1 ++ (lw_privs_2 ++ (lw_privs_3 ++ (lw_privs_4 ++ (lw_privs_5)))), lw_okq q
  exact List.forall_mem_append.mpr ⟨lw_r1, List.forall_mem_append.mpr ⟨lw_r2, List.forall_mem_append.mpr ⟨lw_r3, List.forall_mem_append.mpr ⟨lw_r4, lw_r5⟩⟩⟩⟩
end
section
/-! ===== BEGIN words of one list among another's, by their places ===== -/
theorem goodIn_r {big : List Cond} (ws : List Cond) (ps : List Nat) (hp : ws = ps.filterMap (fun i => big[i]?)) (h : ws.all goodWord = true) : GoodIn big ws := by
  intro w hw
  have h1 := List.all_eq_true.mp h w hw
  rw [hp] at hw
  obtain ⟨i, -, hi⟩ := List.mem_filterMap.mp hw
  have hm : w ∈ big := by first | exact List.mem_of_getElem? hi | exact List.getElem?_mem hi
  exact ⟨hm, good_of_word h1⟩
theorem goodIn_app {big a b : List Cond} (ha : GoodIn big a) (hb : GoodIn big b) : GoodIn big (a ++ b) := fun w h => (List.mem_append.mp h).elim (ha w) (hb w)
theorem goodIn_ca {big a b : List Cond} {c : Cond} (ha : GoodIn big (c :: a)) (hb : GoodIn big b) : GoodIn big (c :: (a ++ b)) := fun w h => (List.mem_cons.mp h).elim (fun e => ha w (List.mem_cons.mpr (Or.inl e))) (fun h => (List.mem_append.mp h).elim (fun h => ha w (List.mem_cons.mpr (Or.inr h))) (hb w))
theorem goodIn_sub {big ws : List Cond} (hm : ∀ w ∈ ws, w ∈ big) (h : ws.all goodWord = true) : GoodIn big ws := fun w hw => ⟨hm w hw, good_of_word (List.all_eq_true.mp h w hw)⟩
/-! ===== END ===== -/
/-! ===== BEGIN printed: names, fields, word lists, decode rows ===== -/
def RX0 : String := "TinKitchen$History"
def TX0 : u_T := fun k => match k with
  | 0 => ("TinKitchen$History", "kept", "I", false)
  | 1 => ("TinKitchen$History", "latest", "I", false)
  | _ => ("TinKitchen$History", "states", "[LTinKitchen$State;", true)
def tyX0 : Nat → FieldType := fun k => match k with
  | 0 => .int
  | 1 => .int
  | _ => .array (.object "TinKitchen$State")
abbrev wsX00 : List Cond := u_ws RX0 TX0 3
theorem nmX0 : ∀ a, a < 3 → ∀ b, b < 3 → a ≠ b → (TX0 a).2.1 ≠ (TX0 b).2.1 := by decide +kernel
theorem tyX0_ok : ∀ k, k < 3 → parseFieldDescriptor (TX0 k).2.2.1 = some (tyX0 k) := by decide +kernel
abbrev cX0_init : ByteArray := prog_2_method_1_code
def yX0_init : MethodName := ⟨RX0, "<init>", "()V"⟩
abbrev cX0_record : ByteArray := prog_2_method_2_code
def yX0_record : MethodName := ⟨RX0, "record", "(LTinKitchen$State;)V"⟩
abbrev cX0_giveBack : ByteArray := prog_2_method_3_code
def yX0_giveBack : MethodName := ⟨RX0, "giveBack", "(LTinKitchen$State;)V"⟩
def RX1 : String := "TinKitchen$Ingredient"
def TX1 : u_T := fun k => match k with
  | 0 => ("TinKitchen$Ingredient", "keptDays", "I", false)
  | 1 => ("TinKitchen$Ingredient", "canBeBought", "Z", false)
  | 2 => ("TinKitchen$Ingredient", "kinds", "I", false)
  | 3 => ("TinKitchen$Ingredient", "sizes", "[I", true)
  | 4 => ("TinKitchen$Ingredient", "prices", "[I", true)
  | 5 => ("TinKitchen$Ingredient", "replacedBy", "I", false)
  | 6 => ("TinKitchen$Ingredient", "rate", "I", false)
  | 7 => ("TinKitchen$Ingredient", "lots", "[I", true)
  | 8 => ("TinKitchen$Ingredient", "bought", "I", false)
  | 9 => ("TinKitchen$Ingredient", "used", "I", false)
  | 10 => ("TinKitchen$Ingredient", "thrownAway", "I", false)
  | _ => ("TinKitchen$Ingredient", "stocked", "I", false)
def tyX1 : Nat → FieldType := fun k => match k with
  | 0 => .int
  | 1 => .boolean
  | 2 => .int
  | 3 => .array .int
  | 4 => .array .int
  | 5 => .int
  | 6 => .int
  | 7 => .array .int
  | 8 => .int
  | 9 => .int
  | 10 => .int
  | _ => .int
abbrev wsX10 : List Cond := u_ws RX1 TX1 12
theorem nmX1 : ∀ a, a < 12 → ∀ b, b < 12 → a ≠ b → (TX1 a).2.1 ≠ (TX1 b).2.1 := by decide +kernel
theorem tyX1_ok : ∀ k, k < 12 → parseFieldDescriptor (TX1 k).2.2.1 = some (tyX1 k) := by decide +kernel
abbrev cX1_init : ByteArray := prog_3_method_1_code
def yX1_init : MethodName := ⟨RX1, "<init>", "()V"⟩
abbrev cX1_begin : ByteArray := prog_3_method_2_code
def yX1_begin : MethodName := ⟨RX1, "begin", "(I)V"⟩
abbrev cX1_copyFrom : ByteArray := prog_3_method_3_code
def yX1_copyFrom : MethodName := ⟨RX1, "copyFrom", "(LTinKitchen$Ingredient;)V"⟩
abbrev cX1_hasKind : ByteArray := prog_3_method_4_code
def yX1_hasKind : MethodName := ⟨RX1, "hasKind", "(I)Z"⟩
abbrev cX1_hasSize : ByteArray := prog_3_method_5_code
def yX1_hasSize : MethodName := ⟨RX1, "hasSize", "(I)Z"⟩
abbrev cX1_addKind : ByteArray := prog_3_method_6_code
def yX1_addKind : MethodName := ⟨RX1, "addKind", "(II)V"⟩
abbrev cX1_inPantry : ByteArray := prog_3_method_7_code
def yX1_inPantry : MethodName := ⟨RX1, "inPantry", "()I"⟩
abbrev cX1_lotsThere : ByteArray := prog_3_method_8_code
def yX1_lotsThere : MethodName := ⟨RX1, "lotsThere", "()I"⟩
abbrev cX1_firstSpoilDay : ByteArray := prog_3_method_9_code
def yX1_firstSpoilDay : MethodName := ⟨RX1, "firstSpoilDay", "(I)I"⟩
abbrev cX1_addLot : ByteArray := prog_3_method_10_code
def yX1_addLot : MethodName := ⟨RX1, "addLot", "(II)V"⟩
abbrev cX1_takeFromLots : ByteArray := prog_3_method_11_code
def yX1_takeFromLots : MethodName := ⟨RX1, "takeFromLots", "(II)V"⟩
abbrev cX1_throwAway : ByteArray := prog_3_method_12_code
def yX1_throwAway : MethodName := ⟨RX1, "throwAway", "(I)I"⟩
abbrev cX1_placeOf : ByteArray := prog_3_method_13_code
def yX1_placeOf : MethodName := ⟨RX1, "placeOf", "(I)I"⟩
def RX2 : String := "TinKitchen$Pad"
def TX2 : u_T := fun k => match k with
  | 0 => ("TinKitchen$Pad", "length", "I", false)
  | _ => ("TinKitchen$Pad", "text", "[C", true)
def tyX2 : Nat → FieldType := fun k => match k with
  | 0 => .int
  | _ => .array .char
abbrev wsX20 : List Cond := u_ws RX2 TX2 2
theorem nmX2 : ∀ a, a < 2 → ∀ b, b < 2 → a ≠ b → (TX2 a).2.1 ≠ (TX2 b).2.1 := by decide +kernel
theorem tyX2_ok : ∀ k, k < 2 → parseFieldDescriptor (TX2 k).2.2.1 = some (tyX2 k) := by decide +kernel
abbrev cX2_init : ByteArray := prog_4_method_1_code
def yX2_init : MethodName := ⟨RX2, "<init>", "()V"⟩
abbrev cX2_at : ByteArray := prog_4_method_2_code
def yX2_at : MethodName := ⟨RX2, "at", "(I)C"⟩
abbrev cX2_append : ByteArray := prog_4_method_3_code
def yX2_append : MethodName := ⟨RX2, "append", "(JI)V"⟩
def RX3 : String := "TinKitchen$Reader"
def TX3 : u_T := fun k => match k with
  | 0 => ("TinKitchen$Reader", "found", "LTinKitchen$Recipe;", true)
  | 1 => ("TinKitchen$Reader", "pad", "LTinKitchen$Pad;", true)
  | 2 => ("TinKitchen$Reader", "place", "I", false)
  | _ => ("TinKitchen$Reader", "isGood", "Z", false)
def tyX3 : Nat → FieldType := fun k => match k with
  | 0 => .object "TinKitchen$Recipe"
  | 1 => .object "TinKitchen$Pad"
  | 2 => .int
  | _ => .boolean
abbrev wsX30 : List Cond := u_ws RX3 TX3 4
theorem nmX3 : ∀ a, a < 4 → ∀ b, b < 4 → a ≠ b → (TX3 a).2.1 ≠ (TX3 b).2.1 := by decide +kernel
theorem tyX3_ok : ∀ k, k < 4 → parseFieldDescriptor (TX3 k).2.2.1 = some (tyX3 k) := by decide +kernel
abbrev cX3_init : ByteArray := prog_5_method_1_code
def yX3_init : MethodName := ⟨RX3, "<init>", "(LTinKitchen$Pad;)V"⟩
abbrev cX3_read : ByteArray := prog_5_method_2_code
def yX3_read : MethodName := ⟨RX3, "read", "()I"⟩
abbrev cX3_readNumber : ByteArray := prog_5_method_3_code
def yX3_readNumber : MethodName := ⟨RX3, "readNumber", "(I)I"⟩
abbrev cX3_readDigit : ByteArray := prog_5_method_4_code
def yX3_readDigit : MethodName := ⟨RX3, "readDigit", "(II)I"⟩
abbrev cX3_digitHere : ByteArray := prog_5_method_5_code
def yX3_digitHere : MethodName := ⟨RX3, "digitHere", "()I"⟩
abbrev cX3_nameHere : ByteArray := prog_5_method_6_code
def yX3_nameHere : MethodName := ⟨RX3, "nameHere", "()I"⟩
abbrev cX3_readAmount : ByteArray := prog_5_method_7_code
def yX3_readAmount : MethodName := ⟨RX3, "readAmount", "(I)V"⟩
abbrev cX3_readStep : ByteArray := prog_5_method_8_code
def yX3_readStep : MethodName := ⟨RX3, "readStep", "(I)V"⟩
abbrev cX3_readSign : ByteArray := prog_5_method_9_code
def yX3_readSign : MethodName := ⟨RX3, "readSign", "(C)V"⟩
abbrev cX3_readStepBefore : ByteArray := prog_5_method_10_code
def yX3_readStepBefore : MethodName := ⟨RX3, "readStepBefore", "(II)I"⟩
def RX4 : String := "TinKitchen$Recipe"
def TX4 : u_T := fun k => match k with
  | 0 => ("TinKitchen$Recipe", "basePortions", "I", false)
  | 1 => ("TinKitchen$Recipe", "portions", "I", false)
  | 2 => ("TinKitchen$Recipe", "stepCount", "I", false)
  | 3 => ("TinKitchen$Recipe", "amounts", "[I", true)
  | _ => ("TinKitchen$Recipe", "steps", "[LTinKitchen$Step;", true)
def tyX4 : Nat → FieldType := fun k => match k with
  | 0 => .int
  | 1 => .int
  | 2 => .int
  | 3 => .array .int
  | _ => .array (.object "TinKitchen$Step")
abbrev wsX40 : List Cond := u_ws RX4 TX4 5
theorem nmX4 : ∀ a, a < 5 → ∀ b, b < 5 → a ≠ b → (TX4 a).2.1 ≠ (TX4 b).2.1 := by decide +kernel
theorem tyX4_ok : ∀ k, k < 5 → parseFieldDescriptor (TX4 k).2.2.1 = some (tyX4 k) := by decide +kernel
abbrev cX4_init : ByteArray := prog_6_method_1_code
def yX4_init : MethodName := ⟨RX4, "<init>", "()V"⟩
abbrev cX4_clear : ByteArray := prog_6_method_2_code
def yX4_clear : MethodName := ⟨RX4, "clear", "()V"⟩
abbrev cX4_copyFrom : ByteArray := prog_6_method_3_code
def yX4_copyFrom : MethodName := ⟨RX4, "copyFrom", "(LTinKitchen$Recipe;)V"⟩
abbrev cX4_hasStep : ByteArray := prog_6_method_4_code
def yX4_hasStep : MethodName := ⟨RX4, "hasStep", "(I)Z"⟩
abbrev cX4_namesFrom : ByteArray := prog_6_method_5_code
def yX4_namesFrom : MethodName := ⟨RX4, "namesFrom", "(I)Z"⟩
abbrev cX4_scaled : ByteArray := prog_6_method_6_code
def yX4_scaled : MethodName := ⟨RX4, "scaled", "(I)I"⟩
abbrev cX4_lasts : ByteArray := prog_6_method_7_code
def yX4_lasts : MethodName := ⟨RX4, "lasts", "(I)I"⟩
def RX5 : String := "TinKitchen$Schedule"
def TX5 : u_T := fun k => match k with
  | 0 => ("TinKitchen$Schedule", "tails", "[I", true)
  | 1 => ("TinKitchen$Schedule", "begins", "[I", true)
  | 2 => ("TinKitchen$Schedule", "work", "I", false)
  | 3 => ("TinKitchen$Schedule", "durations", "[I", true)
  | 4 => ("TinKitchen$Schedule", "needsHands", "[I", true)
  | 5 => ("TinKitchen$Schedule", "before", "[I", true)
  | 6 => ("TinKitchen$Schedule", "order", "[I", true)
  | 7 => ("TinKitchen$Schedule", "steps", "I", false)
  | _ => ("TinKitchen$Schedule", "greatestTail", "I", false)
def tyX5 : Nat → FieldType := fun k => match k with
  | 0 => .array .int
  | 1 => .array .int
  | 2 => .int
  | 3 => .array .int
  | 4 => .array .int
  | 5 => .array .int
  | 6 => .array .int
  | 7 => .int
  | _ => .int
abbrev wsX50 : List Cond := u_ws RX5 TX5 9
theorem nmX5 : ∀ a, a < 9 → ∀ b, b < 9 → a ≠ b → (TX5 a).2.1 ≠ (TX5 b).2.1 := by decide +kernel
theorem tyX5_ok : ∀ k, k < 9 → parseFieldDescriptor (TX5 k).2.2.1 = some (tyX5 k) := by decide +kernel
abbrev cX5_init : ByteArray := prog_7_method_1_code
def yX5_init : MethodName := ⟨RX5, "<init>", "()V"⟩
abbrev cX5_gather : ByteArray := prog_7_method_2_code
def yX5_gather : MethodName := ⟨RX5, "gather", "(LTinKitchen$State;)V"⟩
abbrev cX5_gatherSteps : ByteArray := prog_7_method_3_code
def yX5_gatherSteps : MethodName := ⟨RX5, "gatherSteps", "(LTinKitchen$Recipe;I)V"⟩
abbrev cX5_longestBehind : ByteArray := prog_7_method_4_code
def yX5_longestBehind : MethodName := ⟨RX5, "longestBehind", "(III)I"⟩
abbrev cX5_insert : ByteArray := prog_7_method_5_code
def yX5_insert : MethodName := ⟨RX5, "insert", "(I)V"⟩
abbrev cX5_run : ByteArray := prog_7_method_6_code
def yX5_run : MethodName := ⟨RX5, "run", "(I)V"⟩
abbrev cX5_beginAt : ByteArray := prog_7_method_7_code
def yX5_beginAt : MethodName := ⟨RX5, "beginAt", "(II)V"⟩
abbrev cX5_busyHands : ByteArray := prog_7_method_8_code
def yX5_busyHands : MethodName := ⟨RX5, "busyHands", "(I)I"⟩
abbrev cX5_isReady : ByteArray := prog_7_method_9_code
def yX5_isReady : MethodName := ⟨RX5, "isReady", "(II)Z"⟩
abbrev cX5_hasEnded : ByteArray := prog_7_method_10_code
def yX5_hasEnded : MethodName := ⟨RX5, "hasEnded", "(II)Z"⟩
abbrev cX5_nextEnd : ByteArray := prog_7_method_11_code
def yX5_nextEnd : MethodName := ⟨RX5, "nextEnd", "(I)I"⟩
abbrev cX5_end : ByteArray := prog_7_method_12_code
def yX5_end : MethodName := ⟨RX5, "end", "()I"⟩
abbrev cX5_bound : ByteArray := prog_7_method_13_code
def yX5_bound : MethodName := ⟨RX5, "bound", "(I)I"⟩
def RX6 : String := "TinKitchen$Shopping"
def TX6 : u_T := fun k => match k with
  | 0 => ("TinKitchen$Shopping", "needed", "[I", true)
  | 1 => ("TinKitchen$Shopping", "replacing", "[I", true)
  | 2 => ("TinKitchen$Shopping", "fromPantry", "[I", true)
  | 3 => ("TinKitchen$Shopping", "bought", "[I", true)
  | 4 => ("TinKitchen$Shopping", "leftOver", "[I", true)
  | 5 => ("TinKitchen$Shopping", "replaced", "[I", true)
  | 6 => ("TinKitchen$Shopping", "missing", "[I", true)
  | 7 => ("TinKitchen$Shopping", "price", "[I", true)
  | 8 => ("TinKitchen$Shopping", "tins", "[[I", true)
  | _ => ("TinKitchen$Shopping", "search", "LTinKitchen$TinSearch;", true)
def tyX6 : Nat → FieldType := fun k => match k with
  | 0 => .array .int
  | 1 => .array .int
  | 2 => .array .int
  | 3 => .array .int
  | 4 => .array .int
  | 5 => .array .int
  | 6 => .array .int
  | 7 => .array .int
  | 8 => .array (.array .int)
  | _ => .object "TinKitchen$TinSearch"
abbrev wsX60 : List Cond := u_ws RX6 TX6 10
theorem nmX6 : ∀ a, a < 10 → ∀ b, b < 10 → a ≠ b → (TX6 a).2.1 ≠ (TX6 b).2.1 := by decide +kernel
theorem tyX6_ok : ∀ k, k < 10 → parseFieldDescriptor (TX6 k).2.2.1 = some (tyX6 k) := by decide +kernel
abbrev cX6_init : ByteArray := prog_8_method_1_code
def yX6_init : MethodName := ⟨RX6, "<init>", "()V"⟩
abbrev cX6_plan : ByteArray := prog_8_method_2_code
def yX6_plan : MethodName := ⟨RX6, "plan", "(LTinKitchen$State;)V"⟩
abbrev cX6_clear : ByteArray := prog_8_method_3_code
def yX6_clear : MethodName := ⟨RX6, "clear", "(I)V"⟩
abbrev cX6_planOne : ByteArray := prog_8_method_4_code
def yX6_planOne : MethodName := ⟨RX6, "planOne", "(LTinKitchen$State;I)V"⟩
abbrev cX6_buy : ByteArray := prog_8_method_5_code
def yX6_buy : MethodName := ⟨RX6, "buy", "(LTinKitchen$Ingredient;II)V"⟩
abbrev cX6_replace : ByteArray := prog_8_method_6_code
def yX6_replace : MethodName := ⟨RX6, "replace", "(LTinKitchen$State;II)Z"⟩
abbrev cX6_carryOut : ByteArray := prog_8_method_7_code
def yX6_carryOut : MethodName := ⟨RX6, "carryOut", "(LTinKitchen$State;)V"⟩
abbrev cX6_allPrices : ByteArray := prog_8_method_8_code
def yX6_allPrices : MethodName := ⟨RX6, "allPrices", "()I"⟩
abbrev cX6_allLeftOver : ByteArray := prog_8_method_9_code
def yX6_allLeftOver : MethodName := ⟨RX6, "allLeftOver", "()I"⟩
abbrev cX6_missingSet : ByteArray := prog_8_method_10_code
def yX6_missingSet : MethodName := ⟨RX6, "missingSet", "()I"⟩
abbrev cX6_sum : ByteArray := prog_8_method_11_code
def yX6_sum : MethodName := ⟨RX6, "sum", "([I)I"⟩
def RX7 : String := "TinKitchen$State"
def TX7 : u_T := fun k => match k with
  | 0 => ("TinKitchen$State", "day", "I", false)
  | 1 => ("TinKitchen$State", "allHands", "I", false)
  | 2 => ("TinKitchen$State", "spent", "I", false)
  | 3 => ("TinKitchen$State", "cooked", "I", false)
  | 4 => ("TinKitchen$State", "ingredients", "I", false)
  | 5 => ("TinKitchen$State", "recipes", "I", false)
  | 6 => ("TinKitchen$State", "larder", "[LTinKitchen$Ingredient;", true)
  | _ => ("TinKitchen$State", "book", "[LTinKitchen$Recipe;", true)
def tyX7 : Nat → FieldType := fun k => match k with
  | 0 => .int
  | 1 => .int
  | 2 => .int
  | 3 => .int
  | 4 => .int
  | 5 => .int
  | 6 => .array (.object "TinKitchen$Ingredient")
  | _ => .array (.object "TinKitchen$Recipe")
abbrev wsX70 : List Cond := u_ws RX7 TX7 8
theorem nmX7 : ∀ a, a < 8 → ∀ b, b < 8 → a ≠ b → (TX7 a).2.1 ≠ (TX7 b).2.1 := by decide +kernel
theorem tyX7_ok : ∀ k, k < 8 → parseFieldDescriptor (TX7 k).2.2.1 = some (tyX7 k) := by decide +kernel
abbrev cX7_init : ByteArray := prog_9_method_1_code
def yX7_init : MethodName := ⟨RX7, "<init>", "()V"⟩
abbrev cX7_copyFrom : ByteArray := prog_9_method_2_code
def yX7_copyFrom : MethodName := ⟨RX7, "copyFrom", "(LTinKitchen$State;)V"⟩
abbrev cX7_hasIngredient : ByteArray := prog_9_method_3_code
def yX7_hasIngredient : MethodName := ⟨RX7, "hasIngredient", "(I)Z"⟩
abbrev cX7_hasRecipe : ByteArray := prog_9_method_4_code
def yX7_hasRecipe : MethodName := ⟨RX7, "hasRecipe", "(I)Z"⟩
abbrev cX7_hasPortions : ByteArray := prog_9_method_5_code
def yX7_hasPortions : MethodName := ⟨RX7, "hasPortions", "()Z"⟩
abbrev cX7_neededByRecipes : ByteArray := prog_9_method_6_code
def yX7_neededByRecipes : MethodName := ⟨RX7, "neededByRecipes", "(I)I"⟩
abbrev cX7_emptyMenu : ByteArray := prog_9_method_7_code
def yX7_emptyMenu : MethodName := ⟨RX7, "emptyMenu", "()V"⟩
abbrev cX7_letPass : ByteArray := prog_9_method_8_code
def yX7_letPass : MethodName := ⟨RX7, "letPass", "(I)I"⟩
def RX8 : String := "TinKitchen$Step"
def TX8 : u_T := fun k => match k with
  | 0 => ("TinKitchen$Step", "duration", "I", false)
  | 1 => ("TinKitchen$Step", "needsHands", "I", false)
  | 2 => ("TinKitchen$Step", "before", "I", false)
  | _ => ("TinKitchen$Step", "grows", "Z", false)
def tyX8 : Nat → FieldType := fun k => match k with
  | 0 => .int
  | 1 => .int
  | 2 => .int
  | _ => .boolean
abbrev wsX80 : List Cond := u_ws RX8 TX8 4
theorem nmX8 : ∀ a, a < 4 → ∀ b, b < 4 → a ≠ b → (TX8 a).2.1 ≠ (TX8 b).2.1 := by decide +kernel
theorem tyX8_ok : ∀ k, k < 4 → parseFieldDescriptor (TX8 k).2.2.1 = some (tyX8 k) := by decide +kernel
abbrev cX8_init : ByteArray := prog_10_method_1_code
def yX8_init : MethodName := ⟨RX8, "<init>", "()V"⟩
abbrev cX8_copyFrom : ByteArray := prog_10_method_2_code
def yX8_copyFrom : MethodName := ⟨RX8, "copyFrom", "(LTinKitchen$Step;)V"⟩
def RX9 : String := "TinKitchen$TinSearch"
def TX9 : u_T := fun k => match k with
  | 0 => ("TinKitchen$TinSearch", "bestPrice", "I", false)
  | 1 => ("TinKitchen$TinSearch", "bestWeight", "I", false)
  | 2 => ("TinKitchen$TinSearch", "best", "[I", true)
  | 3 => ("TinKitchen$TinSearch", "bestTins", "I", false)
  | 4 => ("TinKitchen$TinSearch", "isFound", "Z", false)
  | 5 => ("TinKitchen$TinSearch", "tried", "[I", true)
  | 6 => ("TinKitchen$TinSearch", "ranked", "[I", true)
  | 7 => ("TinKitchen$TinSearch", "size", "[I", true)
  | 8 => ("TinKitchen$TinSearch", "price", "[I", true)
  | _ => ("TinKitchen$TinSearch", "most", "[I", true)
def tyX9 : Nat → FieldType := fun k => match k with
  | 0 => .int
  | 1 => .int
  | 2 => .array .int
  | 3 => .int
  | 4 => .boolean
  | 5 => .array .int
  | 6 => .array .int
  | 7 => .array .int
  | 8 => .array .int
  | _ => .array .int
abbrev wsX90 : List Cond := u_ws RX9 TX9 10
theorem nmX9 : ∀ a, a < 10 → ∀ b, b < 10 → a ≠ b → (TX9 a).2.1 ≠ (TX9 b).2.1 := by decide +kernel
theorem tyX9_ok : ∀ k, k < 10 → parseFieldDescriptor (TX9 k).2.2.1 = some (tyX9 k) := by decide +kernel
abbrev cX9_init : ByteArray := prog_11_method_1_code
def yX9_init : MethodName := ⟨RX9, "<init>", "()V"⟩
abbrev cX9_rank : ByteArray := prog_11_method_2_code
def yX9_rank : MethodName := ⟨RX9, "rank", "(LTinKitchen$Ingredient;)V"⟩
abbrev cX9_find : ByteArray := prog_11_method_3_code
def yX9_find : MethodName := ⟨RX9, "find", "(I)V"⟩
abbrev cX9_isAhead : ByteArray := prog_11_method_4_code
def yX9_isAhead : MethodName := ⟨RX9, "isAhead", "(LTinKitchen$Ingredient;II)Z"⟩
abbrev cX9_mostOf : ByteArray := prog_11_method_5_code
def yX9_mostOf : MethodName := ⟨RX9, "mostOf", "(I)I"⟩
abbrev cX9_commonDivisor : ByteArray := prog_11_method_6_code
def yX9_commonDivisor : MethodName := ⟨RX9, "commonDivisor", "(II)I"⟩
abbrev cX9_isTooDear : ByteArray := prog_11_method_7_code
def yX9_isTooDear : MethodName := ⟨RX9, "isTooDear", "(III)Z"⟩
abbrev cX9_offer : ByteArray := prog_11_method_8_code
def yX9_offer : MethodName := ⟨RX9, "offer", "(III)V"⟩
abbrev cX9_putTried : ByteArray := prog_11_method_9_code
def yX9_putTried : MethodName := ⟨RX9, "putTried", "(II)V"⟩
abbrev cX9_isBetter : ByteArray := prog_11_method_10_code
def yX9_isBetter : MethodName := ⟨RX9, "isBetter", "(III)Z"⟩
def RX10 : String := "TinKitchen"
def TX10 : u_T := fun k => match k with
  | 0 => ("TinKitchen", "now", "LTinKitchen$State;", true)
  | 1 => ("TinKitchen", "history", "LTinKitchen$History;", true)
  | 2 => ("TinKitchen", "slots", "[LTinKitchen$State;", true)
  | 3 => ("TinKitchen", "isSaved", "[Z", true)
  | 4 => ("TinKitchen", "pad", "LTinKitchen$Pad;", true)
  | 5 => ("TinKitchen", "reader", "LTinKitchen$Reader;", true)
  | 6 => ("TinKitchen", "shopping", "LTinKitchen$Shopping;", true)
  | _ => ("TinKitchen", "schedule", "LTinKitchen$Schedule;", true)
def tyX10 : Nat → FieldType := fun k => match k with
  | 0 => .object "TinKitchen$State"
  | 1 => .object "TinKitchen$History"
  | 2 => .array (.object "TinKitchen$State")
  | 3 => .array .boolean
  | 4 => .object "TinKitchen$Pad"
  | 5 => .object "TinKitchen$Reader"
  | 6 => .object "TinKitchen$Shopping"
  | _ => .object "TinKitchen$Schedule"
abbrev wsX100 : List Cond := u_ws RX10 TX10 8
theorem nmX10 : ∀ a, a < 8 → ∀ b, b < 8 → a ≠ b → (TX10 a).2.1 ≠ (TX10 b).2.1 := by decide +kernel
theorem tyX10_ok : ∀ k, k < 8 → parseFieldDescriptor (TX10 k).2.2.1 = some (tyX10 k) := by decide +kernel
abbrev cX10_init : ByteArray := prog_1_method_1_code
def yX10_init : MethodName := ⟨RX10, "<init>", "()V"⟩
abbrev cX10_ingredient : ByteArray := prog_1_method_2_code
def yX10_ingredient : MethodName := ⟨RX10, "ingredient", "(I)I"⟩
abbrev cX10_tin : ByteArray := prog_1_method_3_code
def yX10_tin : MethodName := ⟨RX10, "tin", "(III)I"⟩
abbrev cX10_buyable : ByteArray := prog_1_method_4_code
def yX10_buyable : MethodName := ⟨RX10, "buyable", "(II)I"⟩
abbrev cX10_substitute : ByteArray := prog_1_method_5_code
def yX10_substitute : MethodName := ⟨RX10, "substitute", "(III)I"⟩
abbrev cX10_stock : ByteArray := prog_1_method_6_code
def yX10_stock : MethodName := ⟨RX10, "stock", "(II)I"⟩
abbrev cX10_recipe : ByteArray := prog_1_method_7_code
def yX10_recipe : MethodName := ⟨RX10, "recipe", "()I"⟩
abbrev cX10_amount : ByteArray := prog_1_method_8_code
def yX10_amount : MethodName := ⟨RX10, "amount", "(III)I"⟩
abbrev cX10_menu : ByteArray := prog_1_method_9_code
def yX10_menu : MethodName := ⟨RX10, "menu", "(II)I"⟩
abbrev cX10_hands : ByteArray := prog_1_method_10_code
def yX10_hands : MethodName := ⟨RX10, "hands", "(I)I"⟩
abbrev cX10_cook : ByteArray := prog_1_method_11_code
def yX10_cook : MethodName := ⟨RX10, "cook", "()I"⟩
abbrev cX10_pass : ByteArray := prog_1_method_12_code
def yX10_pass : MethodName := ⟨RX10, "pass", "(I)I"⟩
abbrev cX10_about : ByteArray := prog_1_method_13_code
def yX10_about : MethodName := ⟨RX10, "about", "(II)I"⟩
abbrev cX10_ofTin : ByteArray := prog_1_method_14_code
def yX10_ofTin : MethodName := ⟨RX10, "ofTin", "(III)I"⟩
abbrev cX10_needs : ByteArray := prog_1_method_15_code
def yX10_needs : MethodName := ⟨RX10, "needs", "(II)I"⟩
abbrev cX10_step : ByteArray := prog_1_method_16_code
def yX10_step : MethodName := ⟨RX10, "step", "(III)I"⟩
abbrev cX10_ofRecipe : ByteArray := prog_1_method_17_code
def yX10_ofRecipe : MethodName := ⟨RX10, "ofRecipe", "(II)I"⟩
abbrev cX10_count : ByteArray := prog_1_method_18_code
def yX10_count : MethodName := ⟨RX10, "count", "(I)I"⟩
abbrev cX10_bestPortions : ByteArray := prog_1_method_19_code
def yX10_bestPortions : MethodName := ⟨RX10, "bestPortions", "(III)I"⟩
abbrev cX10_fewestHands : ByteArray := prog_1_method_20_code
def yX10_fewestHands : MethodName := ⟨RX10, "fewestHands", "(I)I"⟩
abbrev cX10_ifBuyable : ByteArray := prog_1_method_21_code
def yX10_ifBuyable : MethodName := ⟨RX10, "ifBuyable", "(II)I"⟩
abbrev cX10_put : ByteArray := prog_1_method_22_code
def yX10_put : MethodName := ⟨RX10, "put", "(J)I"⟩
abbrev cX10_wipe : ByteArray := prog_1_method_23_code
def yX10_wipe : MethodName := ⟨RX10, "wipe", "()I"⟩
abbrev cX10_fault : ByteArray := prog_1_method_24_code
def yX10_fault : MethodName := ⟨RX10, "fault", "()I"⟩
abbrev cX10_undo : ByteArray := prog_1_method_25_code
def yX10_undo : MethodName := ⟨RX10, "undo", "()I"⟩
abbrev cX10_save : ByteArray := prog_1_method_26_code
def yX10_save : MethodName := ⟨RX10, "save", "(I)I"⟩
abbrev cX10_restore : ByteArray := prog_1_method_27_code
def yX10_restore : MethodName := ⟨RX10, "restore", "(I)I"⟩
abbrev cX10_canBeCooked : ByteArray := prog_1_method_28_code
def yX10_canBeCooked : MethodName := ⟨RX10, "canBeCooked", "()Z"⟩
abbrev cX10_tailInMenu : ByteArray := prog_1_method_29_code
def yX10_tailInMenu : MethodName := ⟨RX10, "tailInMenu", "(II)I"⟩
abbrev cX10_beginInMenu : ByteArray := prog_1_method_30_code
def yX10_beginInMenu : MethodName := ⟨RX10, "beginInMenu", "(II)I"⟩
abbrev cX10_ofShopping : ByteArray := prog_1_method_31_code
def yX10_ofShopping : MethodName := ⟨RX10, "ofShopping", "(I)I"⟩
abbrev cX10_ofSchedule : ByteArray := prog_1_method_32_code
def yX10_ofSchedule : MethodName := ⟨RX10, "ofSchedule", "(I)I"⟩
abbrev cX10_lengthOf : ByteArray := prog_1_method_33_code
def yX10_lengthOf : MethodName := ⟨RX10, "lengthOf", "(J)I"⟩
abbrev cX10_isWithin : ByteArray := prog_1_method_34_code
def yX10_isWithin : MethodName := ⟨RX10, "isWithin", "(III)Z"⟩
abbrev cX10_asNumber : ByteArray := prog_1_method_35_code
def yX10_asNumber : MethodName := ⟨RX10, "asNumber", "(Z)I"⟩
abbrev cX10_roundedUp : ByteArray := prog_1_method_36_code
def yX10_roundedUp : MethodName := ⟨RX10, "roundedUp", "(II)I"⟩
def RX11 : String := "TinKitchenModel"
def TX11 : u_T := fun k => match k with
  | 0 => ("TinKitchenModel", "at", "[I", true)
  | 1 => ("TinKitchenModel", "past", "[I", true)
  | 2 => ("TinKitchenModel", "pastMany", "I", false)
  | 3 => ("TinKitchenModel", "slots", "[I", true)
  | 4 => ("TinKitchenModel", "isSaved", "[Z", true)
  | 5 => ("TinKitchenModel", "pad", "[I", true)
  | 6 => ("TinKitchenModel", "padMany", "I", false)
  | 7 => ("TinKitchenModel", "needed", "[I", true)
  | 8 => ("TinKitchenModel", "replaces", "[I", true)
  | 9 => ("TinKitchenModel", "taken", "[I", true)
  | 10 => ("TinKitchenModel", "bought", "[I", true)
  | 11 => ("TinKitchenModel", "over", "[I", true)
  | 12 => ("TinKitchenModel", "replaced", "[I", true)
  | 13 => ("TinKitchenModel", "missing", "[I", true)
  | 14 => ("TinKitchenModel", "price", "[I", true)
  | 15 => ("TinKitchenModel", "tins", "[I", true)
  | 16 => ("TinKitchenModel", "bestPrice", "I", false)
  | 17 => ("TinKitchenModel", "bestWeight", "I", false)
  | 18 => ("TinKitchenModel", "bestMany", "I", false)
  | 19 => ("TinKitchenModel", "lasts", "[I", true)
  | 20 => ("TinKitchenModel", "tails", "[I", true)
  | 21 => ("TinKitchenModel", "begins", "[I", true)
  | 22 => ("TinKitchenModel", "ended", "I", false)
  | 23 => ("TinKitchenModel", "greatestTail", "I", false)
  | 24 => ("TinKitchenModel", "work", "I", false)
  | 25 => ("TinKitchenModel", "spot", "I", false)
  | 26 => ("TinKitchenModel", "isWrong", "Z", false)
  | 27 => ("TinKitchenModel", "readBase", "I", false)
  | 28 => ("TinKitchenModel", "readAmount", "[I", true)
  | 29 => ("TinKitchenModel", "readStep", "[I", true)
  | _ => ("TinKitchenModel", "readSteps", "I", false)
def tyX11 : Nat → FieldType := fun k => match k with
  | 0 => .array .int
  | 1 => .array .int
  | 2 => .int
  | 3 => .array .int
  | 4 => .array .boolean
  | 5 => .array .int
  | 6 => .int
  | 7 => .array .int
  | 8 => .array .int
  | 9 => .array .int
  | 10 => .array .int
  | 11 => .array .int
  | 12 => .array .int
  | 13 => .array .int
  | 14 => .array .int
  | 15 => .array .int
  | 16 => .int
  | 17 => .int
  | 18 => .int
  | 19 => .array .int
  | 20 => .array .int
  | 21 => .array .int
  | 22 => .int
  | 23 => .int
  | 24 => .int
  | 25 => .int
  | 26 => .boolean
  | 27 => .int
  | 28 => .array .int
  | 29 => .array .int
  | _ => .int
abbrev wsX110 : List Cond := u_ws RX11 TX11 31
theorem nmX11 : ∀ a, a < 31 → ∀ b, b < 31 → a ≠ b → (TX11 a).2.1 ≠ (TX11 b).2.1 := by decide +kernel
theorem tyX11_ok : ∀ k, k < 31 → parseFieldDescriptor (TX11 k).2.2.1 = some (tyX11 k) := by decide +kernel
abbrev cX11_init : ByteArray := prog_13_method_1_code
def yX11_init : MethodName := ⟨RX11, "<init>", "()V"⟩
abbrev cX11_in : ByteArray := prog_13_method_3_code
def yX11_in : MethodName := ⟨RX11, "in", "(III)Z"⟩
abbrev cX11_up : ByteArray := prog_13_method_4_code
def yX11_up : MethodName := ⟨RX11, "up", "(II)I"⟩
abbrev cX11_of : ByteArray := prog_13_method_5_code
def yX11_of : MethodName := ⟨RX11, "of", "(II)I"⟩
abbrev cX11_lay : ByteArray := prog_13_method_6_code
def yX11_lay : MethodName := ⟨RX11, "lay", "(III)V"⟩
abbrev cX11_ofARecipe : ByteArray := prog_13_method_7_code
def yX11_ofARecipe : MethodName := ⟨RX11, "ofARecipe", "(II)I"⟩
abbrev cX11_ofStep : ByteArray := prog_13_method_8_code
def yX11_ofStep : MethodName := ⟨RX11, "ofStep", "(III)I"⟩
abbrev cX11_isIngredient : ByteArray := prog_13_method_9_code
def yX11_isIngredient : MethodName := ⟨RX11, "isIngredient", "(I)Z"⟩
abbrev cX11_isRecipe : ByteArray := prog_13_method_10_code
def yX11_isRecipe : MethodName := ⟨RX11, "isRecipe", "(I)Z"⟩
abbrev cX11_keep : ByteArray := prog_13_method_11_code
def yX11_keep : MethodName := ⟨RX11, "keep", "()V"⟩
abbrev cX11_ingredient : ByteArray := prog_13_method_12_code
def yX11_ingredient : MethodName := ⟨RX11, "ingredient", "(I)I"⟩
abbrev cX11_sizeOf : ByteArray := prog_13_method_13_code
def yX11_sizeOf : MethodName := ⟨RX11, "sizeOf", "(II)I"⟩
abbrev cX11_priceOf : ByteArray := prog_13_method_14_code
def yX11_priceOf : MethodName := ⟨RX11, "priceOf", "(II)I"⟩
abbrev cX11_tin : ByteArray := prog_13_method_15_code
def yX11_tin : MethodName := ⟨RX11, "tin", "(III)I"⟩
abbrev cX11_buyable : ByteArray := prog_13_method_16_code
def yX11_buyable : MethodName := ⟨RX11, "buyable", "(II)I"⟩
abbrev cX11_substitute : ByteArray := prog_13_method_17_code
def yX11_substitute : MethodName := ⟨RX11, "substitute", "(III)I"⟩
abbrev cX11_lotOn : ByteArray := prog_13_method_18_code
def yX11_lotOn : MethodName := ⟨RX11, "lotOn", "(II)I"⟩
abbrev cX11_layLot : ByteArray := prog_13_method_19_code
def yX11_layLot : MethodName := ⟨RX11, "layLot", "(III)V"⟩
abbrev cX11_pantry : ByteArray := prog_13_method_20_code
def yX11_pantry : MethodName := ⟨RX11, "pantry", "(I)I"⟩
abbrev cX11_lots : ByteArray := prog_13_method_21_code
def yX11_lots : MethodName := ⟨RX11, "lots", "(I)I"⟩
abbrev cX11_firstDay : ByteArray := prog_13_method_22_code
def yX11_firstDay : MethodName := ⟨RX11, "firstDay", "(I)I"⟩
abbrev cX11_putIn : ByteArray := prog_13_method_23_code
def yX11_putIn : MethodName := ⟨RX11, "putIn", "(II)V"⟩
abbrev cX11_takeOut : ByteArray := prog_13_method_24_code
def yX11_takeOut : MethodName := ⟨RX11, "takeOut", "(II)V"⟩
abbrev cX11_stock : ByteArray := prog_13_method_25_code
def yX11_stock : MethodName := ⟨RX11, "stock", "(II)I"⟩
abbrev cX11_pass : ByteArray := prog_13_method_26_code
def yX11_pass : MethodName := ⟨RX11, "pass", "(I)I"⟩
abbrev cX11_byRecipes : ByteArray := prog_13_method_27_code
def yX11_byRecipes : MethodName := ⟨RX11, "byRecipes", "(I)I"⟩
abbrev cX11_consider : ByteArray := prog_13_method_28_code
def yX11_consider : MethodName := ⟨RX11, "consider", "(IIII)V"⟩
abbrev cX11_stillNeeded : ByteArray := prog_13_method_29_code
def yX11_stillNeeded : MethodName := ⟨RX11, "stillNeeded", "(I)I"⟩
abbrev cX11_findTins : ByteArray := prog_13_method_30_code
def yX11_findTins : MethodName := ⟨RX11, "findTins", "(II)V"⟩
abbrev cX11_buy : ByteArray := prog_13_method_31_code
def yX11_buy : MethodName := ⟨RX11, "buy", "(II)V"⟩
abbrev cX11_clearNeeds : ByteArray := prog_13_method_32_code
def yX11_clearNeeds : MethodName := ⟨RX11, "clearNeeds", "()V"⟩
abbrev cX11_findNeeds : ByteArray := prog_13_method_33_code
def yX11_findNeeds : MethodName := ⟨RX11, "findNeeds", "()V"⟩
abbrev cX11_getRest : ByteArray := prog_13_method_34_code
def yX11_getRest : MethodName := ⟨RX11, "getRest", "(II)V"⟩
abbrev cX11_sumOf : ByteArray := prog_13_method_35_code
def yX11_sumOf : MethodName := ⟨RX11, "sumOf", "([I)I"⟩
abbrev cX11_missingSet : ByteArray := prog_13_method_36_code
def yX11_missingSet : MethodName := ⟨RX11, "missingSet", "()I"⟩
abbrev cX11_hasPortions : ByteArray := prog_13_method_37_code
def yX11_hasPortions : MethodName := ⟨RX11, "hasPortions", "()Z"⟩
abbrev cX11_canCook : ByteArray := prog_13_method_38_code
def yX11_canCook : MethodName := ⟨RX11, "canCook", "()Z"⟩
abbrev cX11_cook : ByteArray := prog_13_method_39_code
def yX11_cook : MethodName := ⟨RX11, "cook", "()I"⟩
abbrev cX11_lastsOf : ByteArray := prog_13_method_40_code
def yX11_lastsOf : MethodName := ⟨RX11, "lastsOf", "(III)I"⟩
abbrev cX11_isOn : ByteArray := prog_13_method_41_code
def yX11_isOn : MethodName := ⟨RX11, "isOn", "(I)Z"⟩
abbrev cX11_handsOf : ByteArray := prog_13_method_42_code
def yX11_handsOf : MethodName := ⟨RX11, "handsOf", "(I)I"⟩
abbrev cX11_aheadOf : ByteArray := prog_13_method_43_code
def yX11_aheadOf : MethodName := ⟨RX11, "aheadOf", "(I)I"⟩
abbrev cX11_findTails : ByteArray := prog_13_method_44_code
def yX11_findTails : MethodName := ⟨RX11, "findTails", "()V"⟩
abbrev cX11_hasEnded : ByteArray := prog_13_method_45_code
def yX11_hasEnded : MethodName := ⟨RX11, "hasEnded", "(II)Z"⟩
abbrev cX11_isReady : ByteArray := prog_13_method_46_code
def yX11_isReady : MethodName := ⟨RX11, "isReady", "(II)Z"⟩
abbrev cX11_freeAt : ByteArray := prog_13_method_47_code
def yX11_freeAt : MethodName := ⟨RX11, "freeAt", "(II)I"⟩
abbrev cX11_nextAt : ByteArray := prog_13_method_48_code
def yX11_nextAt : MethodName := ⟨RX11, "nextAt", "(II)I"⟩
abbrev cX11_nextEnd : ByteArray := prog_13_method_49_code
def yX11_nextEnd : MethodName := ⟨RX11, "nextEnd", "(I)I"⟩
abbrev cX11_findTimes : ByteArray := prog_13_method_50_code
def yX11_findTimes : MethodName := ⟨RX11, "findTimes", "(I)I"⟩
abbrev cX11_bound : ByteArray := prog_13_method_51_code
def yX11_bound : MethodName := ⟨RX11, "bound", "()I"⟩
abbrev cX11_next : ByteArray := prog_13_method_52_code
def yX11_next : MethodName := ⟨RX11, "next", "()I"⟩
abbrev cX11_takeNumber : ByteArray := prog_13_method_53_code
def yX11_takeNumber : MethodName := ⟨RX11, "takeNumber", "(I)I"⟩
abbrev cX11_takeAmount : ByteArray := prog_13_method_54_code
def yX11_takeAmount : MethodName := ⟨RX11, "takeAmount", "()V"⟩
abbrev cX11_takeDigit : ByteArray := prog_13_method_55_code
def yX11_takeDigit : MethodName := ⟨RX11, "takeDigit", "(II)I"⟩
abbrev cX11_takeStep : ByteArray := prog_13_method_56_code
def yX11_takeStep : MethodName := ⟨RX11, "takeStep", "()V"⟩
abbrev cX11_fault : ByteArray := prog_13_method_57_code
def yX11_fault : MethodName := ⟨RX11, "fault", "()I"⟩
abbrev cX11_recipe : ByteArray := prog_13_method_58_code
def yX11_recipe : MethodName := ⟨RX11, "recipe", "()I"⟩
abbrev cX11_amount : ByteArray := prog_13_method_59_code
def yX11_amount : MethodName := ⟨RX11, "amount", "(III)I"⟩
abbrev cX11_menu : ByteArray := prog_13_method_60_code
def yX11_menu : MethodName := ⟨RX11, "menu", "(II)I"⟩
abbrev cX11_hands : ByteArray := prog_13_method_61_code
def yX11_hands : MethodName := ⟨RX11, "hands", "(I)I"⟩
abbrev cX11_about : ByteArray := prog_13_method_62_code
def yX11_about : MethodName := ⟨RX11, "about", "(II)I"⟩
abbrev cX11_ofTin : ByteArray := prog_13_method_63_code
def yX11_ofTin : MethodName := ⟨RX11, "ofTin", "(III)I"⟩
abbrev cX11_needs : ByteArray := prog_13_method_64_code
def yX11_needs : MethodName := ⟨RX11, "needs", "(II)I"⟩
abbrev cX11_step : ByteArray := prog_13_method_65_code
def yX11_step : MethodName := ⟨RX11, "step", "(III)I"⟩
abbrev cX11_ofRecipe : ByteArray := prog_13_method_66_code
def yX11_ofRecipe : MethodName := ⟨RX11, "ofRecipe", "(II)I"⟩
abbrev cX11_ofPlan : ByteArray := prog_13_method_67_code
def yX11_ofPlan : MethodName := ⟨RX11, "ofPlan", "(I)I"⟩
abbrev cX11_count : ByteArray := prog_13_method_68_code
def yX11_count : MethodName := ⟨RX11, "count", "(I)I"⟩
abbrev cX11_bestPortions : ByteArray := prog_13_method_69_code
def yX11_bestPortions : MethodName := ⟨RX11, "bestPortions", "(III)I"⟩
abbrev cX11_fewestHands : ByteArray := prog_13_method_70_code
def yX11_fewestHands : MethodName := ⟨RX11, "fewestHands", "(I)I"⟩
abbrev cX11_ifBuyable : ByteArray := prog_13_method_71_code
def yX11_ifBuyable : MethodName := ⟨RX11, "ifBuyable", "(II)I"⟩
abbrev cX11_put : ByteArray := prog_13_method_72_code
def yX11_put : MethodName := ⟨RX11, "put", "(J)I"⟩
abbrev cX11_wipe : ByteArray := prog_13_method_73_code
def yX11_wipe : MethodName := ⟨RX11, "wipe", "()I"⟩
abbrev cX11_undo : ByteArray := prog_13_method_74_code
def yX11_undo : MethodName := ⟨RX11, "undo", "()I"⟩
abbrev cX11_save : ByteArray := prog_13_method_75_code
def yX11_save : MethodName := ⟨RX11, "save", "(I)I"⟩
abbrev cX11_restore : ByteArray := prog_13_method_76_code
def yX11_restore : MethodName := ⟨RX11, "restore", "(I)I"⟩
def RJ9 : String := "java/lang/Math"
def TJ9 : u_T := fun k => match k with
  | _ => ("", "", "", false)
def tyJ9 : Nat → FieldType := fun k => match k with
  | _ => .int
abbrev wsJ90 : List Cond := u_ws RJ9 TJ9 0
theorem nmJ9 : ∀ a, a < 0 → ∀ b, b < 0 → a ≠ b → (TJ9 a).2.1 ≠ (TJ9 b).2.1 := by decide +kernel
theorem tyJ9_ok : ∀ k, k < 0 → parseFieldDescriptor (TJ9 k).2.2.1 = some (tyJ9 k) := by decide +kernel
abbrev cJ9_floorMod_7cf53 : ByteArray := prog_14_method_50_code
def yJ9_floorMod_7cf53 : MethodName := ⟨RJ9, "floorMod", "(II)I"⟩
abbrev cJ9_max_7cf53 : ByteArray := prog_14_method_65_code
def yJ9_max_7cf53 : MethodName := ⟨RJ9, "max", "(II)I"⟩
abbrev cJ9_min_7cf53 : ByteArray := prog_14_method_69_code
def yJ9_min_7cf53 : MethodName := ⟨RJ9, "min", "(II)I"⟩
def RJ10 : String := "java/lang/System"
def TJ10 : u_T := fun k => match k with
  | _ => ("", "", "", false)
def tyJ10 : Nat → FieldType := fun k => match k with
  | _ => .int
abbrev wsJ100 : List Cond := u_ws RJ10 TJ10 0
theorem nmJ10 : ∀ a, a < 0 → ∀ b, b < 0 → a ≠ b → (TJ10 a).2.1 ≠ (TJ10 b).2.1 := by decide +kernel
theorem tyJ10_ok : ∀ k, k < 0 → parseFieldDescriptor (TJ10 k).2.2.1 = some (tyJ10 k) := by decide +kernel
def RL : String := "TinKitchenLaw"
abbrev cL_law : ByteArray := code
def yL_law : MethodName := ⟨RL, "law", "([I)Z"⟩
abbrev vwCl : List vw_C := [(RX0, TX0, 3), (RX1, TX1, 12), (RX2, TX2, 2), (RX3, TX3, 4), (RX4, TX4, 5), (RX5, TX5, 9), (RX6, TX6, 10), (RX7, TX7, 8), (RX8, TX8, 4), (RX9, TX9, 10), (RX10, TX10, 8), (RX11, TX11, 31)]
end
section
/-! THE PICTURE OF THE HEAP: every cell that the kitchen and its model have, by a tag and two numbers (tag, s, i). s: which state (0 now, 1 to 6 history, 7 and 8 slots; 9 the reader's recipe). Written by wip/whole/gen/tables.py. -/
abbrev zO : Type := Nat × Int × Int
abbrev tKIT : Nat := 0
abbrev tHIS : Nat := 1
abbrev tSTA : Nat := 2
abbrev tING : Nat := 3
abbrev tREC : Nat := 4
abbrev tSTP : Nat := 5
abbrev tPAD : Nat := 6
abbrev tREA : Nat := 7
abbrev tSHO : Nat := 8
abbrev tSEA : Nat := 9
abbrev tSCH : Nat := 10
abbrev tMOD : Nat := 11
abbrev tSIZ : Nat := 12
abbrev tPRI : Nat := 13
abbrev tLOT : Nat := 14
abbrev tLAR : Nat := 15
abbrev tBOK : Nat := 16
abbrev tAMT : Nat := 17
abbrev tSTS : Nat := 18
abbrev tHST : Nat := 19
abbrev tSLT : Nat := 20
abbrev tISV : Nat := 21
abbrev tTXT : Nat := 22
abbrev tSNEE : Nat := 23
abbrev tSRPG : Nat := 24
abbrev tSFRO : Nat := 25
abbrev tSBOU : Nat := 26
abbrev tSLEF : Nat := 27
abbrev tSRPD : Nat := 28
abbrev tSMIS : Nat := 29
abbrev tSPRC : Nat := 30
abbrev tTNS : Nat := 31
abbrev tTNR : Nat := 32
abbrev tQBES : Nat := 33
abbrev tQTRI : Nat := 34
abbrev tQRAN : Nat := 35
abbrev tQSZE : Nat := 36
abbrev tQPRX : Nat := 37
abbrev tQMOS : Nat := 38
abbrev tCTAI : Nat := 39
abbrev tCBEG : Nat := 40
abbrev tCDUR : Nat := 41
abbrev tCNHA : Nat := 42
abbrev tCBEF : Nat := 43
abbrev tCORD : Nat := 44
abbrev tMat : Nat := 45
abbrev tMpast : Nat := 46
abbrev tMslots : Nat := 47
abbrev tMisSaved : Nat := 48
abbrev tMpad : Nat := 49
abbrev tMneeded : Nat := 50
abbrev tMreplaces : Nat := 51
abbrev tMtaken : Nat := 52
abbrev tMbought : Nat := 53
abbrev tMover : Nat := 54
abbrev tMreplaced : Nat := 55
abbrev tMmissing : Nat := 56
abbrev tMprice : Nat := 57
abbrev tMtins : Nat := 58
abbrev tMlasts : Nat := 59
abbrev tMtails : Nat := 60
abbrev tMbegins : Nat := 61
abbrev tMreadAmount : Nat := 62
abbrev tMreadStep : Nat := 63
/-- a tag of objects: its class, by its place in vwCl -/
def zTO : Nat → Option Nat := fun t => match t with
  | 0 => some 10
  | 1 => some 0
  | 2 => some 7
  | 3 => some 1
  | 4 => some 4
  | 5 => some 8
  | 6 => some 2
  | 7 => some 3
  | 8 => some 6
  | 9 => some 9
  | 10 => some 5
  | 11 => some 11
  | _ => none
/-- a tag of arrays: its type, its length -/
def zTA : Nat → Option (Nat × Nat) := fun t => match t with
  | 12 => some (0, 3)
  | 13 => some (0, 3)
  | 14 => some (0, 30)
  | 15 => some (4, 8)
  | 16 => some (5, 4)
  | 17 => some (0, 8)
  | 18 => some (6, 8)
  | 19 => some (3, 6)
  | 20 => some (3, 2)
  | 21 => some (1, 2)
  | 22 => some (2, 80)
  | 23 => some (0, 8)
  | 24 => some (0, 8)
  | 25 => some (0, 8)
  | 26 => some (0, 8)
  | 27 => some (0, 8)
  | 28 => some (0, 8)
  | 29 => some (0, 8)
  | 30 => some (0, 8)
  | 31 => some (7, 8)
  | 32 => some (0, 3)
  | 33 => some (0, 3)
  | 34 => some (0, 3)
  | 35 => some (0, 3)
  | 36 => some (0, 3)
  | 37 => some (0, 3)
  | 38 => some (0, 3)
  | 39 => some (0, 32)
  | 40 => some (0, 32)
  | 41 => some (0, 32)
  | 42 => some (0, 32)
  | 43 => some (0, 32)
  | 44 => some (0, 32)
  | 45 => some (0, 546)
  | 46 => some (0, 3276)
  | 47 => some (0, 1092)
  | 48 => some (1, 2)
  | 49 => some (0, 80)
  | 50 => some (0, 8)
  | 51 => some (0, 8)
  | 52 => some (0, 8)
  | 53 => some (0, 8)
  | 54 => some (0, 8)
  | 55 => some (0, 8)
  | 56 => some (0, 8)
  | 57 => some (0, 8)
  | 58 => some (0, 24)
  | 59 => some (0, 32)
  | 60 => some (0, 32)
  | 61 => some (0, 32)
  | 62 => some (0, 8)
  | 63 => some (0, 32)
  | _ => none
def zTY : List FieldType := [.int, .boolean, .char, .object "TinKitchen$State", .object "TinKitchen$Ingredient", .object "TinKitchen$Recipe", .object "TinKitchen$Step", .array .int]
def zTR : Nat → Bool := fun t => match t with
  | 0 => false
  | 1 => false
  | 2 => false
  | 3 => true
  | 4 => true
  | 5 => true
  | 6 => true
  | 7 => true
  | _ => false
def zNF : Nat → Nat := fun c => match c with
  | 0 => 3
  | 1 => 12
  | 2 => 2
  | 3 => 4
  | 4 => 5
  | 5 => 9
  | 6 => 10
  | 7 => 8
  | 8 => 4
  | 9 => 10
  | 10 => 8
  | 11 => 31
  | _ => 0
/-- a field that refers -/
def zFR : Nat → Nat → Bool := fun c k => match c, k with
  | 0, 2 => true
  | 1, 3 => true
  | 1, 4 => true
  | 1, 7 => true
  | 2, 1 => true
  | 3, 0 => true
  | 3, 1 => true
  | 4, 3 => true
  | 4, 4 => true
  | 5, 0 => true
  | 5, 1 => true
  | 5, 3 => true
  | 5, 4 => true
  | 5, 5 => true
  | 5, 6 => true
  | 6, 0 => true
  | 6, 1 => true
  | 6, 2 => true
  | 6, 3 => true
  | 6, 4 => true
  | 6, 5 => true
  | 6, 6 => true
  | 6, 7 => true
  | 6, 8 => true
  | 6, 9 => true
  | 7, 6 => true
  | 7, 7 => true
  | 9, 2 => true
  | 9, 5 => true
  | 9, 6 => true
  | 9, 7 => true
  | 9, 8 => true
  | 9, 9 => true
  | 10, 0 => true
  | 10, 1 => true
  | 10, 2 => true
  | 10, 3 => true
  | 10, 4 => true
  | 10, 5 => true
  | 10, 6 => true
  | 10, 7 => true
  | 11, 0 => true
  | 11, 1 => true
  | 11, 3 => true
  | 11, 4 => true
  | 11, 5 => true
  | 11, 7 => true
  | 11, 8 => true
  | 11, 9 => true
  | 11, 10 => true
  | 11, 11 => true
  | 11, 12 => true
  | 11, 13 => true
  | 11, 14 => true
  | 11, 15 => true
  | 11, 19 => true
  | 11, 20 => true
  | 11, 21 => true
  | 11, 28 => true
  | 11, 29 => true
  | _, _ => false
def zFref : Nat → Int → Int → Nat → zO := fun t s i k => match t, k with
  | 0, 0 => (2, 0, 0)
  | 0, 1 => (1, 0, 0)
  | 0, 2 => (20, 0, 0)
  | 0, 3 => (21, 0, 0)
  | 0, 4 => (6, 0, 0)
  | 0, 5 => (7, 0, 0)
  | 0, 6 => (8, 0, 0)
  | 0, 7 => (10, 0, 0)
  | 1, 2 => (19, 0, 0)
  | 2, 6 => (15, s, 0)
  | 2, 7 => (16, s, 0)
  | 3, 3 => (12, s, i)
  | 3, 4 => (13, s, i)
  | 3, 7 => (14, s, i)
  | 4, 3 => (17, s, i)
  | 4, 4 => (18, s, i)
  | 6, 1 => (22, 0, 0)
  | 7, 0 => (4, 9, 0)
  | 7, 1 => (6, 0, 0)
  | 8, 0 => (23, 0, 0)
  | 8, 1 => (24, 0, 0)
  | 8, 2 => (25, 0, 0)
  | 8, 3 => (26, 0, 0)
  | 8, 4 => (27, 0, 0)
  | 8, 5 => (28, 0, 0)
  | 8, 6 => (29, 0, 0)
  | 8, 7 => (30, 0, 0)
  | 8, 8 => (31, 0, 0)
  | 8, 9 => (9, 0, 0)
  | 9, 2 => (33, 0, 0)
  | 9, 5 => (34, 0, 0)
  | 9, 6 => (35, 0, 0)
  | 9, 7 => (36, 0, 0)
  | 9, 8 => (37, 0, 0)
  | 9, 9 => (38, 0, 0)
  | 10, 0 => (39, 0, 0)
  | 10, 1 => (40, 0, 0)
  | 10, 3 => (41, 0, 0)
  | 10, 4 => (42, 0, 0)
  | 10, 5 => (43, 0, 0)
  | 10, 6 => (44, 0, 0)
  | 11, 0 => (45, 0, 0)
  | 11, 1 => (46, 0, 0)
  | 11, 3 => (47, 0, 0)
  | 11, 4 => (48, 0, 0)
  | 11, 5 => (49, 0, 0)
  | 11, 7 => (50, 0, 0)
  | 11, 8 => (51, 0, 0)
  | 11, 9 => (52, 0, 0)
  | 11, 10 => (53, 0, 0)
  | 11, 11 => (54, 0, 0)
  | 11, 12 => (55, 0, 0)
  | 11, 13 => (56, 0, 0)
  | 11, 14 => (57, 0, 0)
  | 11, 15 => (58, 0, 0)
  | 11, 19 => (59, 0, 0)
  | 11, 20 => (60, 0, 0)
  | 11, 21 => (61, 0, 0)
  | 11, 28 => (62, 0, 0)
  | 11, 29 => (63, 0, 0)
  | _, _ => (0, s, i)
def zAref : Nat → Int → Int → Int → zO := fun t s i j => match t with
  | 15 => (3, s, j)
  | 16 => (4, s, j)
  | 18 => (5, s, 8 * i + j)
  | 19 => (2, 1 + j, 0)
  | 20 => (2, 7 + j, 0)
  | 31 => (32, 0, j)
  | _ => (0, s, i)
/-- tag, first s, how many s, how many i -/
def zDIM : List (Nat × Nat × Nat × Nat) := [(0, 0, 1, 1), (1, 0, 1, 1), (2, 0, 9, 1), (3, 0, 9, 8), (4, 0, 9, 4), (4, 9, 1, 1), (5, 0, 9, 32), (5, 9, 1, 8), (6, 0, 1, 1), (7, 0, 1, 1), (8, 0, 1, 1), (9, 0, 1, 1), (10, 0, 1, 1), (11, 0, 1, 1), (12, 0, 9, 8), (13, 0, 9, 8), (14, 0, 9, 8), (15, 0, 9, 1), (16, 0, 9, 1), (17, 0, 9, 4), (17, 9, 1, 1), (18, 0, 9, 4), (18, 9, 1, 1), (19, 0, 1, 1), (20, 0, 1, 1), (21, 0, 1, 1), (22, 0, 1, 1), (23, 0, 1, 1), (24, 0, 1, 1), (25, 0, 1, 1), (26, 0, 1, 1), (27, 0, 1, 1), (28, 0, 1, 1), (29, 0, 1, 1), (30, 0, 1, 1), (31, 0, 1, 1), (32, 0, 1, 8), (33, 0, 1, 1), (34, 0, 1, 1), (35, 0, 1, 1), (36, 0, 1, 1), (37, 0, 1, 1), (38, 0, 1, 1), (39, 0, 1, 1), (40, 0, 1, 1), (41, 0, 1, 1), (42, 0, 1, 1), (43, 0, 1, 1), (44, 0, 1, 1), (45, 0, 1, 1), (46, 0, 1, 1), (47, 0, 1, 1), (48, 0, 1, 1), (49, 0, 1, 1), (50, 0, 1, 1), (51, 0, 1, 1), (52, 0, 1, 1), (53, 0, 1, 1), (54, 0, 1, 1), (55, 0, 1, 1), (56, 0, 1, 1), (57, 0, 1, 1), (58, 0, 1, 1), (59, 0, 1, 1), (60, 0, 1, 1), (61, 0, 1, 1), (62, 0, 1, 1), (63, 0, 1, 1)]
end
section
/-! NUMBERS: an int of the machine is an Int within its range -/
def zin (x : Int) : Prop := -2147483648 ≤ x ∧ x < 2147483648
theorem zti {x : Int} (h : zin x) : (Int32.ofInt x).toInt = x := Int32.toInt_ofInt_of_le (by have := h.1; omega) (by have := h.2; omega)
theorem zinT (v : Int32) : zin v.toInt := ⟨by have := v.le_toInt; omega, by have := v.toInt_lt; omega⟩
theorem zcl {x : Int} (h : zin x) : (Int32.ofInt x).toNatClampNeg = x.toNat := by rw [← Int32.toNat_toInt, zti h]
theorem zadd (x y : Int) : Int32.ofInt x + Int32.ofInt y = Int32.ofInt (x + y) := Int32.toInt_inj.mp (by simp [Int32.toInt_add])
theorem zsub (x y : Int) : Int32.ofInt x - Int32.ofInt y = Int32.ofInt (x - y) := Int32.toInt_inj.mp (by simp [Int32.toInt_sub])
theorem zmul (x y : Int) : Int32.ofInt x * Int32.ofInt y = Int32.ofInt (x * y) := Int32.toInt_inj.mp (by simp [Int32.toInt_mul])
theorem zlt {x y : Int} (hx : zin x) (hy : zin y) : Int32.ofInt x < Int32.ofInt y ↔ x < y := by rw [Int32.lt_iff_toInt_lt, zti hx, zti hy]
theorem zle {x y : Int} (hx : zin x) (hy : zin y) : Int32.ofInt x ≤ Int32.ofInt y ↔ x ≤ y := by rw [Int32.le_iff_toInt_le, zti hx, zti hy]
theorem zeq {x y : Int} (hx : zin x) (hy : zin y) : Int32.ofInt x = Int32.ofInt y ↔ x = y := by rw [← Int32.toInt_inj, zti hx, zti hy]
theorem z0in : zin 0 := ⟨by decide, by decide⟩
theorem z00 : Int32.ofInt 0 = 0 := rfl
theorem zdiv {x y : Int} (hx : zin x) (hy : zin y) (h0 : 0 ≤ x) (h1 : 0 < y) : Int32.ofInt x / Int32.ofInt y = Int32.ofInt (x / y) := by
  have hq : zin (x / y) := ⟨by have := Int.ediv_nonneg h0 (Int.le_of_lt h1); omega, by have := Int.ediv_le_self y h0; have := hx.2; omega⟩
  apply Int32.toInt_inj.mp
  rw [Int32.toInt_div, zti hx, zti hy, zti hq, Int.tdiv_eq_ediv_of_nonneg h0]
  exact Int.bmod_eq_of_le (by have := hq.1; omega) (by have := hq.2; omega)
theorem zmodin {x y : Int} (hy : zin y) (h1 : 0 < y) : zin (x % y) := ⟨by have := Int.emod_nonneg x (Int.ne_of_gt h1); omega, by have := Int.emod_lt_of_pos x h1; have := hy.2; omega⟩
theorem zrem {x y : Int} (hx : zin x) (hy : zin y) (h0 : 0 ≤ x) (h1 : 0 < y) : Int32.ofInt x - Int32.ofInt x / Int32.ofInt y * Int32.ofInt y = Int32.ofInt (x % y) := by
  rw [zdiv hx hy h0 h1, zmul, zsub]
  congr 1
  have := Int.emod_add_mul_ediv x y
  rw [Int.mul_comm] at this
  omega
def zwr (x : Int) : Int := (Int32.ofInt x).toInt
theorem zwr_eq {x : Int} (h : zin x) : zwr x = x := zti h
def zand (x y : Int) : Int := (Int32.ofInt x &&& Int32.ofInt y).toInt
def zor (x y : Int) : Int := (Int32.ofInt x ||| Int32.ofInt y).toInt
def zxor (x y : Int) : Int := (Int32.ofInt x ^^^ Int32.ofInt y).toInt
def zshl (x y : Int) : Int := (Int32.ofInt x <<< (Int32.ofInt y &&& 31)).toInt
def zshr (x y : Int) : Int := (Int32.ofInt x >>> (Int32.ofInt y &&& 31)).toInt
/-! CELLS -/
abbrev zV : Type := Int ⊕ Int64 ⊕ zO
abbrev zM : Type := Nat → Int → Int → Int → Int
abbrev zL : Type := List (Option zV)
abbrev zi (x : Int) : zV := Sum.inl x
abbrev zl (x : Int64) : zV := Sum.inr (Sum.inl x)
abbrev zr (t : Nat) (s i : Int) : zV := Sum.inr (Sum.inr (t, s, i))
/-- the machine's classes, the cells' addresses, the arrays' classes -/
abbrev zG : Type := va_G × (zO → Nat) × (Nat → ClassId)
def zup (g : zG) : zV → Value
  | .inl x => .int (Int32.ofInt x)
  | .inr (.inl x) => .long x
  | .inr (.inr o) => .ref (g.2.1 o)
def zOs : List zO := zDIM.flatMap fun d => (List.range d.2.2.1).flatMap fun (a : Nat) => (List.range d.2.2.2).map fun (b : Nat) => (d.1, ((d.2.1 + a : Nat) : Int), (b : Int))
theorem zmem {t : Nat} {s i : Int} (d : Nat × Nat × Nat × Nat) (hd : d ∈ zDIM) (ht : d.1 = t) (h1 : (d.2.1 : Int) ≤ s) (h2 : s < (d.2.1 : Int) + d.2.2.1) (h3 : 0 ≤ i) (h4 : i < d.2.2.2) : (t, s, i) ∈ zOs := by
  refine List.mem_flatMap.mpr ⟨d, hd, List.mem_flatMap.mpr ⟨(s - d.2.1).toNat, List.mem_range.mpr (by omega), List.mem_map.mpr ⟨i.toNat, List.mem_range.mpr (by omega), ?_⟩⟩⟩
  have e1 : ((d.2.1 + (s - (d.2.1 : Int)).toNat : Nat) : Int) = s := by omega
  have e2 : ((i.toNat : Nat) : Int) = i := by omega
  rw [e1, e2, ht]
theorem zmem_of {o : zO} (h : o ∈ zOs) : ∃ d ∈ zDIM, d.1 = o.1 ∧ (d.2.1 : Int) ≤ o.2.1 ∧ o.2.1 < (d.2.1 : Int) + d.2.2.1 ∧ 0 ≤ o.2.2 ∧ o.2.2 < d.2.2.2 := by
  obtain ⟨d, hd, h⟩ := List.mem_flatMap.mp h
  obtain ⟨a, ha, h⟩ := List.mem_flatMap.mp h
  obtain ⟨b, hb, h⟩ := List.mem_map.mp h
  have ha := List.mem_range.mp ha
  have hb := List.mem_range.mp hb
  subst h
  exact ⟨d, hd, rfl, by simp; omega, by simp; omega, by simp, by simp; omega⟩
theorem zDIM_apart : zDIM.Pairwise (fun d d' => d.1 ≠ d'.1 ∨ d.2.1 + d.2.2.1 ≤ d'.2.1) := by decide +kernel
theorem zOs_nd : zOs.Nodup := by
  refine List.pairwise_flatMap.mpr ⟨fun d _ => List.pairwise_flatMap.mpr ⟨fun a _ => List.pairwise_map.mpr ?_, ?_⟩, ?_⟩
  · exact List.Pairwise.imp (fun {x y} h e => by simp at e; omega) List.pairwise_lt_range
  · refine List.Pairwise.imp (fun {a b} h x hx y hy e => ?_) List.pairwise_lt_range
    obtain ⟨u, -, rfl⟩ := List.mem_map.mp hx
    obtain ⟨v, -, rfl⟩ := List.mem_map.mp hy
    simp at e
    omega
  · refine List.Pairwise.imp (fun {d d'} h x hx y hy e => ?_) zDIM_apart
    obtain ⟨a, ha, hx⟩ := List.mem_flatMap.mp hx
    obtain ⟨b, hb, hx⟩ := List.mem_map.mp hx
    obtain ⟨a', ha', hy⟩ := List.mem_flatMap.mp hy
    obtain ⟨b', hb', hy⟩ := List.mem_map.mp hy
    have ha := List.mem_range.mp ha
    subst hx
    subst hy
    simp at e
    omega
def zfv (g : zG) (mem : zM) (t : Nat) (s i : Int) (c k : Nat) : Value := if zFR c k = true then .ref (g.2.1 (zFref t s i k)) else .int (Int32.ofInt (mem t s i k))
def zent (g : zG) (mem : zM) (o : zO) : va_E := match zTO o.1 with
  | some c => .inr (c, (List.range (zNF c)).map fun k => zfv g mem o.1 o.2.1 o.2.2 c k)
  | none => match zTA o.1 with
    | some q => .inl (g.2.2 q.1, q.2, if zTR q.1 = true then .inr (.inr (.inr (.inr (fun j => if j < q.2 then some (g.2.1 (zAref o.1 o.2.1 o.2.2 j)) else none)))) else .inl (fun j => Int32.ofInt (mem o.1 o.2.1 o.2.2 j)))
    | none => .inr (0, [])
def zWS (g : zG) (mem : zM) : va_W := zOs.map fun o => (g.2.1 o, zent g mem o)
def zset (mem : zM) (t : Nat) (s i k v : Int) : zM := fun t' s' i' k' => if t' = t ∧ s' = s ∧ i' = i ∧ k' = k then v else mem t' s' i' k'
def zokM (mem : zM) : Prop := ∀ t s i k, zin (mem t s i k)
def zokV : zV → Prop
  | .inl x => zin x
  | .inr (.inl _) => True
  | .inr (.inr o) => o ∈ zOs
def zokL (ls : zL) : Prop := ∀ v, some v ∈ ls → zokV v
def zokS (st : List zV) : Prop := ∀ v ∈ st, zokV v
theorem zokM_set {mem : zM} (h : zokM mem) {v : Int} (hv : zin v) (t : Nat) (s i k : Int) : zokM (zset mem t s i k v) := by
  intro t' s' i' k'
  unfold zset
  split
  · exact hv
  · exact h _ _ _ _
theorem zokS_cons {v : zV} {st : List zV} : zokS (v :: st) ↔ zokV v ∧ zokS st := by simp [zokS]
theorem zokS_nil : zokS [] := fun v h => by cases h
def zGok (g : zG) : Prop := ∀ o ∈ zOs, ∀ o' ∈ zOs, g.2.1 o = g.2.1 o' → o = o'
def zA (g : zG) : Nat → Prop := fun q => ∃ o ∈ zOs, q = g.2.1 o
def zTYS (g : zG) : List (ClassId × FieldType) := (List.range 8).map fun k => (g.2.2 k, zTY.getD k .int)
theorem zplace {o : zO} (h : o ∈ zOs) (g : zG) (mem : zM) : ∃ q0 : Nat, zOs[q0]? = some o ∧ (zWS g mem)[q0]? = some (g.2.1 o, zent g mem o) := by
  obtain ⟨q, hq⟩ := List.getElem?_of_mem h
  exact ⟨q, hq, by simp [zWS, hq]⟩
theorem zDw {g : zG} (hg : zGok g) (mem : zM) : va_D (zA g) (zWS g mem) := by
  have key : ∀ (k : Nat) (q : Nat × va_E), (zWS g mem)[k]? = some q → ∃ o, zOs[k]? = some o ∧ q.1 = g.2.1 o := by
    intro k q h
    unfold zWS at h
    rw [List.getElem?_map] at h
    cases ho : zOs[k]? with
    | none => rw [ho] at h; cases h
    | some o => rw [ho] at h; cases h; exact ⟨o, rfl, rfl⟩
  refine ⟨fun i j p q hi hj hpq => ?_, fun k q hk => ?_⟩
  · obtain ⟨o, h1, h2⟩ := key i p hi
    obtain ⟨o', h3, h4⟩ := key j q hj
    have e : o = o' := hg o (List.mem_of_getElem? h1) o' (List.mem_of_getElem? h3) (by rw [← h2, ← h4, hpq])
    subst e
    exact (List.getElem?_inj (List.getElem?_eq_some_iff.mp h1).1 zOs_nd).mp (h1.trans h3.symm)
  · obtain ⟨o, h1, h2⟩ := key k q hk
    exact ⟨o, List.mem_of_getElem? h1, h2⟩
theorem zWS_set {g : zG} {mem mem' : zM} {o : zO} {q0 : Nat} (hq : zOs[q0]? = some o) {e : va_E} (he : zent g mem' o = e) (hne : ∀ o', o' ≠ o → zent g mem' o' = zent g mem o') : (zWS g mem).set q0 (g.2.1 o, e) = zWS g mem' := by
  apply List.ext_getElem?
  intro k
  have hl := (List.getElem?_eq_some_iff.mp hq).1
  by_cases hk : k = q0
  · subst hk
    rw [List.getElem?_set_self (by simp [zWS]; exact hl)]
    simp [zWS, hq, he]
  · rw [List.getElem?_set_ne (Ne.symm hk)]
    unfold zWS
    rw [List.getElem?_map, List.getElem?_map]
    cases ho : zOs[k]? with
    | none => rfl
    | some o' =>
      have hne' : o' ≠ o := fun z => hk ((List.getElem?_inj (List.getElem?_eq_some_iff.mp ho).1 zOs_nd).mp (by rw [ho, hq, z]))
      simp [hne o' hne']
/-- writing one slot of a cell leaves the others as they were -/
theorem zent_ne {g : zG} {mem : zM} {t : Nat} {s i k v : Int} {o' : zO} (h : o' ≠ (t, s, i)) : zent g (zset mem t s i k v) o' = zent g mem o' := by
  obtain ⟨t', s', i'⟩ := o'
  have hc : ∀ k' : Int, zset mem t s i k v t' s' i' k' = mem t' s' i' k' := by
    intro k'
    unfold zset
    rw [if_neg]
    rintro ⟨h1, h2, h3, -⟩
    exact h (by rw [h1, h2, h3])
  simp only [zent, zfv, hc]
/-! WORDS -/
def zW : List Cond := lw_tbl.filter goodWord
theorem zW_in {w : Cond} (h : w ∈ lw_tbl) (hg : goodWord w = true) : w ∈ zW := List.mem_filter.mpr ⟨h, hg⟩
theorem zW_tbl {w : Cond} (h : w ∈ zW) : w ∈ lw_tbl := (List.mem_filter.mp h).1
theorem zW_good : zW.all goodWord = true := List.all_eq_true.mpr fun _ h => (List.mem_filter.mp h).2
/-- links to a nest mate's private static method -/
def zNL : List (String × Nat × MethodName × String) := [(RX4, 48, yX10_roundedUp, RX10), (RX9, 78, yX10_roundedUp, RX10), (RX6, 120, yX10_roundedUp, RX10), (RX5, 108, yX10_roundedUp, RX10)]
def zNW : List Cond := zNL.map fun q => .methodLinkNest q.1 q.2.1 q.2.2.1 q.2.2.2
def zPW (g : zG) (mem : zM) (U : State) : Prop := va_P g.1 vwCl (zWS g mem) U.heap ∧ va_K g.1 vwCl (zTYS g) U ∧ ∀ w ∈ zNW, va_Nw w U
/-- a method: its name, code, locals, result, and how deep its calls go -/
abbrev zY : Type := MethodName × ByteArray × Nat × Option FieldType × Nat
def zYw (y : zY) : List Cond := .code y.1 y.2.1 y.2.2.1 y.2.2.2.1 :: zW
def zRoom (h : Nat) : Room := { frames := h, cells := 0, slots := 0, locals := 38 * h }
def zokR : Option zV → Prop
  | none => True
  | some v => zokV v
def zQc (g : zG) (Rt : Option zV → zM → Prop) : Array Value → State → Outcome → State → Prop := fun _ st oc t => (∃ (v : Option zV) (m' : zM), oc = .returned (v.map (zup g)) ∧ Rt v m' ∧ zPW g m' t ∧ zokM m' ∧ zokR v) ∧ va_F (zA g) st t
/-- THE CONTRACT of a method on these arguments and this memory: it ends, with an answer and a memory of Rt -/
def zMet (l : Launch) (g : zG) (y : zY) (av : List zV) (mem : zM) (Rt : Option zV → zM → Prop) : Prop :=
  zGok g → zokM mem → zokS av → Met l y.1 (zYw y) (zRoom y.2.2.2.2) (va_Pc (av.map (zup g)) (fun U => zPW g mem U)) (zQc g Rt) 0 0 (zA g)
/-! LOCALS -/
def zclr : zL → Nat → zL
  | [], _ => []
  | x :: r, 0 => x :: r
  | some (.inr (.inl _)) :: r, 1 => none :: r
  | x :: r, 1 => x :: r
  | x :: r, n + 2 => x :: zclr r (n + 1)
def zst1 (ls : zL) (k : Nat) (v : zV) : zL := (zclr ls k).set k (some v)
def zst2 (ls : zL) (k : Nat) (v : zV) : zL := ((zclr ls k).set k (some v)).set (k + 1) none
def zlr (g : zG) (n : Nat) (ls : zL) (lsA : Array Slot) : Prop := lsA.size = n ∧ lv_wf lsA ∧ ∀ (k : Nat) (v : zV), ls[k]? = some (some v) → lsA[k]? = some (.val (zup g v))
theorem zclr_at : ∀ (ls : zL) (n j : Nat) (v : zV), (zclr ls n)[j]? = some (some v) → ls[j]? = some (some v) ∧ ¬ (j + 1 = n ∧ ∃ x, v = .inr (.inl x))
  | [], n, j, v, h => by simp [zclr] at h
  | x :: r, 0, j, v, h => ⟨by simpa [zclr] using h, fun q => by omega⟩
  | none :: r, 1, j, v, h => by
    cases j with
    | zero => simp [zclr] at h
    | succ j => exact ⟨by simpa [zclr] using h, fun q => by omega⟩
  | some (.inl y) :: r, 1, j, v, h => by
    cases j with
    | zero =>
      simp [zclr] at h
      subst h
      exact ⟨by simp, fun q => by obtain ⟨-, x, hx⟩ := q; cases hx⟩
    | succ j => exact ⟨by simpa [zclr] using h, fun q => by omega⟩
  | some (.inr (.inl y)) :: r, 1, j, v, h => by
    cases j with
    | zero => simp [zclr] at h
    | succ j => exact ⟨by simpa [zclr] using h, fun q => by omega⟩
  | some (.inr (.inr y)) :: r, 1, j, v, h => by
    cases j with
    | zero =>
      simp [zclr] at h
      subst h
      exact ⟨by simp, fun q => by obtain ⟨-, x, hx⟩ := q; cases hx⟩
    | succ j => exact ⟨by simpa [zclr] using h, fun q => by omega⟩
  | x :: r, n + 2, 0, v, h => ⟨by simpa [zclr] using h, fun q => by omega⟩
  | x :: r, n + 2, j + 1, v, h => by
    have h' : (zclr r (n + 1))[j]? = some (some v) := by simpa [zclr] using h
    obtain ⟨h1, h2⟩ := zclr_at r (n + 1) j v h'
    exact ⟨by simpa using h1, fun q => h2 ⟨by omega, q.2⟩⟩
theorem zup_cat {g : zG} {v : zV} : (zup g v).category = 2 ↔ ∃ x, v = .inr (.inl x) := by
  rcases v with x | x | x <;> simp [zup, Value.category]
/-- the locals as the kit lists them -/
def zlist (g : zG) (ls : zL) : List (Nat × Value) := ls.zipIdx.filterMap fun q => q.1.map fun v => (q.2, zup g v)
theorem zlist_mem {g : zG} {ls : zL} {k : Nat} {w : Value} : (k, w) ∈ zlist g ls ↔ ∃ v, ls[k]? = some (some v) ∧ w = zup g v := by
  unfold zlist
  rw [List.mem_filterMap]
  constructor
  · rintro ⟨⟨o, j⟩, hm, h⟩
    cases o with
    | none => simp at h
    | some v =>
      simp at h
      have := List.mk_mem_zipIdx_iff_getElem?.mp hm
      obtain ⟨h1, h2⟩ := h
      subst h1
      exact ⟨v, this, h2.symm⟩
  · rintro ⟨v, h1, h2⟩
    exact ⟨(some v, k), List.mk_mem_zipIdx_iff_getElem?.mpr h1, by simp [h2]⟩
theorem zlr_has {g : zG} {n : Nat} {ls : zL} {lsA : Array Slot} (h : zlr g n ls lsA) : lv_has lsA n (zlist g ls) := by
  refine ⟨h.1, h.2.1, fun q hq => ?_⟩
  obtain ⟨k, w⟩ := q
  obtain ⟨v, h1, h2⟩ := zlist_mem.mp hq
  rw [h2]
  exact h.2.2 k v h1
theorem zst1_at {ls : zL} {k j : Nat} {v w : zV} (h : (zst1 ls k v)[j]? = some (some w)) : (j = k ∧ w = v) ∨ (j ≠ k ∧ ls[j]? = some (some w) ∧ ¬ (j + 1 = k ∧ ∃ x, w = .inr (.inl x))) := by
  unfold zst1 at h
  by_cases hj : j = k
  · subst hj
    by_cases hl : j < (zclr ls j).length
    · rw [List.getElem?_set_self hl] at h
      left
      exact ⟨rfl, by cases h; rfl⟩
    · rw [List.getElem?_eq_none (by simp; omega)] at h
      cases h
  · rw [List.getElem?_set_ne (Ne.symm hj)] at h
    exact Or.inr ⟨hj, zclr_at ls k j w h⟩
theorem zlr_st1 {g : zG} {n : Nat} {ls : zL} {lsA : Array Slot} {k : Nat} {v : zV} (ls' : Array Slot) (h : lv_has ls' n ((k, zup g v) :: (zlist g ls).filter (fun q => !(q.1 == k) && !(q.1 + 1 == k && q.2.category == 2)))) : zlr g n (zst1 ls k v) ls' := by
  refine ⟨h.1, h.2.1, fun j w hj => ?_⟩
  rcases zst1_at hj with ⟨e1, e2⟩ | ⟨e1, e2, e3⟩
  · rw [e1, e2]
    exact h.2.2 _ List.mem_cons_self
  · refine h.2.2 (j, zup g w) (List.mem_cons_of_mem _ (List.mem_filter.mpr ⟨zlist_mem.mpr ⟨w, e2, rfl⟩, ?_⟩))
    have hc : ¬ (j + 1 = k ∧ (zup g w).category = 2) := fun q => e3 ⟨q.1, zup_cat.mp q.2⟩
    simp [e1]
    rcases Classical.em (j + 1 = k) with q | q
    · exact Or.inr fun z => hc ⟨q, z⟩
    · exact Or.inl q
theorem zlr_st2 {g : zG} {n : Nat} {ls : zL} {lsA : Array Slot} {k : Nat} {v : zV} (ls' : Array Slot) (h : lv_has ls' n ((k, zup g v) :: (zlist g ls).filter (fun q => !(q.1 == k) && (!(q.1 == k + 1) && !(q.1 + 1 == k && q.2.category == 2))))) : zlr g n (zst2 ls k v) ls' := by
  refine ⟨h.1, h.2.1, fun j w hj => ?_⟩
  unfold zst2 at hj
  by_cases hj1 : j = k + 1
  · subst hj1
    by_cases hl : k + 1 < ((zclr ls k).set k (some v)).length
    · rw [List.getElem?_set_self hl] at hj
      cases hj
    · rw [List.getElem?_eq_none (by simp at hl ⊢; omega)] at hj
      cases hj
  · rw [List.getElem?_set_ne (Ne.symm hj1)] at hj
    rcases zst1_at hj with ⟨e1, e2⟩ | ⟨e1, e2, e3⟩
    · rw [e1, e2]
      exact h.2.2 _ List.mem_cons_self
    · refine h.2.2 (j, zup g w) (List.mem_cons_of_mem _ (List.mem_filter.mpr ⟨zlist_mem.mpr ⟨w, e2, rfl⟩, ?_⟩))
      have hc : ¬ (j + 1 = k ∧ (zup g w).category = 2) := fun q => e3 ⟨q.1, zup_cat.mp q.2⟩
      simp [e1, hj1]
      rcases Classical.em (j + 1 = k) with q | q
      · exact Or.inr fun z => hc ⟨q, z⟩
      · exact Or.inl q
theorem zokL_get {ls : zL} (h : zokL ls) {k : Nat} {v : zV} (hk : ls[k]? = some (some v)) : zokV v := h v (List.mem_of_getElem? hk)
theorem zokL_st1 {ls : zL} (h : zokL ls) {k : Nat} {v : zV} (hv : zokV v) : zokL (zst1 ls k v) := by
  intro w hw
  obtain ⟨j, hj⟩ := List.getElem?_of_mem hw
  rcases zst1_at hj with ⟨-, e2⟩ | ⟨-, e2, -⟩
  · rw [e2]; exact hv
  · exact zokL_get h e2
theorem zokL_st2 {ls : zL} (h : zokL ls) {k : Nat} {v : zV} (hv : zokV v) : zokL (zst2 ls k v) := by
  intro w hw
  unfold zst2 at hw
  have : some w ∈ (zst1 ls k v) ∨ some w = none := List.mem_or_eq_of_mem_set hw
  rcases this with h1 | h1
  · exact zokL_st1 h hv w h1
  · cases h1
/-- the judgement: the machine, here, comes to its end -/
abbrev zX : Type := Program × Launch × Env × Room × State × MethodId × Array Value × List Frame × Method × Code × (State → Prop) × zG
def zZ (X : zX) (pc : Nat) (ls : zL) (st : List zV) (mem : zM) : Prop := match X with
  | (p, l, e, R, s, m, args, below, meth, c, Q, g) => zokM mem → zokL ls → zokS st → ∀ (H : Heap) (locs : List Loc) (lsA : Array Slot), va_P g.1 vwCl (zWS g mem) H → va_S (zA g) s.heap H locs → zlr g c.maxLocals ls lsA → W p l e R s m args below meth c H locs 0 0 Q (F0 m pc lsA (st.map (zup g)))
/-- what holds of a method that runs -/
def zGood (X : zX) (l : Launch) (g : zG) (own : String) (cc : ByteArray) (h nL : Nat) : Prop := match X with
  | (p, l2, e, R, s, m, args, below, meth, c, Q, g2) => p.tables.exec = Jvm.exec ∧ c.code = cc ∧ c.maxLocals = nL ∧ s.vm.findClass own = some m.cls ∧ (∀ w ∈ zW, w.before args s = true) ∧ va_K g.1 vwCl (zTYS g) s ∧ (∀ w ∈ zNW, va_Nw w s) ∧ zGok g ∧ h ≤ R.frames ∧ 38 * h ≤ R.locals ∧ meth.locks = false ∧ l2 = l ∧ g2 = g
def zEnd (X : zX) (ret : Option FieldType) (Rt : Option zV → zM → Prop) : Prop := match X with
  | (p, l, e, R, s, m, args, below, meth, c, Q, g) => meth.sig.returnType = ret ∧ Q = MQ below (zQc g Rt) args s 0 0 (zA g)
end
section
theorem zi2c {x : Int} (h0 : 0 ≤ x) (h1 : x < 65536) : ((Int32.ofInt x).toUInt32 % 65536).toInt32 = Int32.ofInt x := by
  obtain ⟨n, rfl⟩ := Int.eq_ofNat_of_zero_le h0
  have hn : n < 65536 := by omega
  show ((nI n).toUInt32 % 65536).toInt32 = nI n
  rw [pk_char, pk_tn (by omega), Nat.mod_eq_of_lt hn]
section ZROWS
variable {X : zX} {l : Launch} {g : zG} {own : String} {cc : ByteArray} {h nL pc : Nat} {ls : zL} {st : List zV} {mem : zM}
def zb32 (n : Int) : Bool := decide (-2147483648 ≤ n) && decide (n < 2147483648)
def zb16 (n : Int) : Bool := decide (-32768 ≤ n) && decide (n < 32768)
def zb8 (n : Int) : Bool := decide (-128 ≤ n) && decide (n < 128)
theorem zb32_in {n : Int} (h : zb32 n = true) : zin n := by simp [zb32] at h; exact h
theorem zb16_in {n : Int} (h : zb16 n = true) : zin n := by simp [zb16] at h; exact ⟨by omega, by omega⟩
theorem zb8_in {n : Int} (h : zb8 n = true) : zin n := by simp [zb8] at h; exact ⟨by omega, by omega⟩
theorem zb8_v {n : Int} (h : zb8 n = true) : (Int8.ofInt n).toInt32 = Int32.ofInt n := by
  have h2 := zb8_in h
  simp [zb8] at h
  apply Int32.toInt_inj.mp
  rw [Int8.toInt_toInt32, Int8.toInt_ofInt_of_le (by omega) (by omega), zti h2]
theorem zb16_v {n : Int} (h : zb16 n = true) : (Int16.ofInt n).toInt32 = Int32.ofInt n := by
  have h2 := zb16_in h
  simp [zb16] at h
  apply Int32.toInt_inj.mp
  rw [Int16.toInt_toInt32, Int16.toInt_ofInt_of_le (by omega) (by omega), zti h2]
theorem z_iconst (hG : zGood X l g own cc h nL) {n : Int} (hd : decode cc pc = .ok (.iconst n, 1)) (hn : zb32 n = true) (k : zZ X (pc + 1) ls (zi n :: st) mem) : zZ X pc ls st mem := by
  obtain ⟨p, l, e, R, s, m, args, below, meth, c, Q, g⟩ := X
  obtain ⟨hx, hb, hml, hown, hts, hK, hN, hg, hR1, hR2, hlk, hl2, hg2⟩ := hG
  subst hl2 hg2
  intro hM hL hS H locs lsA hP hS0 hl
  refine lv_iconst hx hb hd (v := Int32.ofInt n) (rfl) ?_
  exact k hM hL (zokS_cons.mpr ⟨zb32_in hn, hS⟩) H locs lsA hP hS0 hl
theorem z_bipush (hG : zGood X l g own cc h nL) {n : Int} (hd : decode cc pc = .ok (.bipush n, 2)) (hn : zb8 n = true) (k : zZ X (pc + 2) ls (zi n :: st) mem) : zZ X pc ls st mem := by
  obtain ⟨p, l, e, R, s, m, args, below, meth, c, Q, g⟩ := X
  obtain ⟨hx, hb, hml, hown, hts, hK, hN, hg, hR1, hR2, hlk, hl2, hg2⟩ := hG
  subst hl2 hg2
  intro hM hL hS H locs lsA hP hS0 hl
  refine lv_bipush hx hb hd (v := Int32.ofInt n) (zb8_v hn) ?_
  exact k hM hL (zokS_cons.mpr ⟨zb8_in hn, hS⟩) H locs lsA hP hS0 hl
theorem z_sipush (hG : zGood X l g own cc h nL) {n : Int} (hd : decode cc pc = .ok (.sipush n, 3)) (hn : zb16 n = true) (k : zZ X (pc + 3) ls (zi n :: st) mem) : zZ X pc ls st mem := by
  obtain ⟨p, l, e, R, s, m, args, below, meth, c, Q, g⟩ := X
  obtain ⟨hx, hb, hml, hown, hts, hK, hN, hg, hR1, hR2, hlk, hl2, hg2⟩ := hG
  subst hl2 hg2
  intro hM hL hS H locs lsA hP hS0 hl
  refine lv_sipush hx hb hd (v := Int32.ofInt n) (zb16_v hn) ?_
  exact k hM hL (zokS_cons.mpr ⟨zb16_in hn, hS⟩) H locs lsA hP hS0 hl
theorem z_ldc (hG : zGood X l g own cc h nL) {i : Nat} {n : Int} (hd : decode cc pc = .ok (.ldc i, 2)) (hw : Cond.constant own i (Int32.ofInt n) ∈ zW) (hn : zb32 n = true) (k : zZ X (pc + 2) ls (zi n :: st) mem) : zZ X pc ls st mem := by
  obtain ⟨p, l, e, R, s, m, args, below, meth, c, Q, g⟩ := X
  obtain ⟨hx, hb, hml, hown, hts, hK, hN, hg, hR1, hR2, hlk, hl2, hg2⟩ := hG
  subst hl2 hg2
  intro hM hL hS H locs lsA hP hS0 hl
  refine lv_ldc hx hb hown (hts _ hw) hd ?_
  exact k hM hL (zokS_cons.mpr ⟨zb32_in hn, hS⟩) H locs lsA hP hS0 hl
theorem z_ldc2 (hG : zGood X l g own cc h nL) {i : Nat} {n : Int64} (hd : decode cc pc = .ok (.ldc2_w i, 3)) (hw : Cond.constantLong own i n ∈ zW) (k : zZ X (pc + 3) ls (zl n :: st) mem) : zZ X pc ls st mem := by
  obtain ⟨p, l, e, R, s, m, args, below, meth, c, Q, g⟩ := X
  obtain ⟨hx, hb, hml, hown, hts, hK, hN, hg, hR1, hR2, hlk, hl2, hg2⟩ := hG
  subst hl2 hg2
  intro hM hL hS H locs lsA hP hS0 hl
  refine lv_ldc2 hx hb hown (hts _ hw) hd ?_
  exact k hM hL (zokS_cons.mpr ⟨trivial, hS⟩) H locs lsA hP hS0 hl
theorem z_lconst (hG : zGood X l g own cc h nL) {n : Fin 2} (hd : decode cc pc = .ok (.lconst n, 1)) (k : zZ X (pc + 1) ls (zl (Int64.ofNat (n : Nat)) :: st) mem) : zZ X pc ls st mem := by
  obtain ⟨p, l, e, R, s, m, args, below, meth, c, Q, g⟩ := X
  obtain ⟨hx, hb, hml, hown, hts, hK, hN, hg, hR1, hR2, hlk, hl2, hg2⟩ := hG
  subst hl2 hg2
  intro hM hL hS H locs lsA hP hS0 hl
  refine lv_lconst hx hb hd rfl ?_
  exact k hM hL (zokS_cons.mpr ⟨trivial, hS⟩) H locs lsA hP hS0 hl
theorem z_iload_n (hG : zGood X l g own cc h nL) {q : Fin 4} {i : Nat} {x : Int} (hd : decode cc pc = .ok (.iload_n q, 1)) (hi : (q : Nat) = i) (hv : ls[i]? = some (some (zi x))) (k : zZ X (pc + 1) ls (zi x :: st) mem) : zZ X pc ls st mem := by
  obtain ⟨p, l, e, R, s, m, args, below, meth, c, Q, g⟩ := X
  obtain ⟨hx, hb, hml, hown, hts, hK, hN, hg, hR1, hR2, hlk, hl2, hg2⟩ := hG
  subst hl2 hg2
  intro hM hL hS H locs lsA hP hS0 hl
  refine lv_iload_n hx hb hd hi (hl.2.2 i _ hv) ?_
  exact k hM hL (zokS_cons.mpr ⟨zokL_get hL hv, hS⟩) H locs lsA hP hS0 hl
theorem z_iload (hG : zGood X l g own cc h nL) {i : Nat} {x : Int} (hd : decode cc pc = .ok (.iload i, 2)) (hv : ls[i]? = some (some (zi x))) (k : zZ X (pc + 2) ls (zi x :: st) mem) : zZ X pc ls st mem := by
  obtain ⟨p, l, e, R, s, m, args, below, meth, c, Q, g⟩ := X
  obtain ⟨hx, hb, hml, hown, hts, hK, hN, hg, hR1, hR2, hlk, hl2, hg2⟩ := hG
  subst hl2 hg2
  intro hM hL hS H locs lsA hP hS0 hl
  refine lv_iload hx hb hd (hl.2.2 i _ hv) ?_
  exact k hM hL (zokS_cons.mpr ⟨zokL_get hL hv, hS⟩) H locs lsA hP hS0 hl
theorem z_lload_n (hG : zGood X l g own cc h nL) {q : Fin 4} {i : Nat} {x : Int64} (hd : decode cc pc = .ok (.lload_n q, 1)) (hi : (q : Nat) = i) (hv : ls[i]? = some (some (zl x))) (k : zZ X (pc + 1) ls (zl x :: st) mem) : zZ X pc ls st mem := by
  obtain ⟨p, l, e, R, s, m, args, below, meth, c, Q, g⟩ := X
  obtain ⟨hx, hb, hml, hown, hts, hK, hN, hg, hR1, hR2, hlk, hl2, hg2⟩ := hG
  subst hl2 hg2
  intro hM hL hS H locs lsA hP hS0 hl
  refine lv_lload_n hx hb hd hi (hl.2.2 i _ hv) ?_
  exact k hM hL (zokS_cons.mpr ⟨zokL_get hL hv, hS⟩) H locs lsA hP hS0 hl
theorem z_lload (hG : zGood X l g own cc h nL) {i : Nat} {x : Int64} (hd : decode cc pc = .ok (.lload i, 2)) (hv : ls[i]? = some (some (zl x))) (k : zZ X (pc + 2) ls (zl x :: st) mem) : zZ X pc ls st mem := by
  obtain ⟨p, l, e, R, s, m, args, below, meth, c, Q, g⟩ := X
  obtain ⟨hx, hb, hml, hown, hts, hK, hN, hg, hR1, hR2, hlk, hl2, hg2⟩ := hG
  subst hl2 hg2
  intro hM hL hS H locs lsA hP hS0 hl
  refine lv_lload hx hb hd (hl.2.2 i _ hv) ?_
  exact k hM hL (zokS_cons.mpr ⟨zokL_get hL hv, hS⟩) H locs lsA hP hS0 hl
theorem z_aload_n (hG : zGood X l g own cc h nL) {q : Fin 4} {i : Nat} {o : zO} (hd : decode cc pc = .ok (.aload_n q, 1)) (hi : (q : Nat) = i) (hv : ls[i]? = some (some (.inr (.inr o)))) (k : zZ X (pc + 1) ls (.inr (.inr o) :: st) mem) : zZ X pc ls st mem := by
  obtain ⟨p, l, e, R, s, m, args, below, meth, c, Q, g⟩ := X
  obtain ⟨hx, hb, hml, hown, hts, hK, hN, hg, hR1, hR2, hlk, hl2, hg2⟩ := hG
  subst hl2 hg2
  intro hM hL hS H locs lsA hP hS0 hl
  refine lv_aload_n hx hb hd hi (hl.2.2 i _ hv) ?_
  exact k hM hL (zokS_cons.mpr ⟨zokL_get hL hv, hS⟩) H locs lsA hP hS0 hl
theorem z_aload (hG : zGood X l g own cc h nL) {i : Nat} {o : zO} (hd : decode cc pc = .ok (.aload i, 2)) (hv : ls[i]? = some (some (.inr (.inr o)))) (k : zZ X (pc + 2) ls (.inr (.inr o) :: st) mem) : zZ X pc ls st mem := by
  obtain ⟨p, l, e, R, s, m, args, below, meth, c, Q, g⟩ := X
  obtain ⟨hx, hb, hml, hown, hts, hK, hN, hg, hR1, hR2, hlk, hl2, hg2⟩ := hG
  subst hl2 hg2
  intro hM hL hS H locs lsA hP hS0 hl
  refine lv_aload hx hb hd (hl.2.2 i _ hv) ?_
  exact k hM hL (zokS_cons.mpr ⟨zokL_get hL hv, hS⟩) H locs lsA hP hS0 hl
theorem z_istore_n (hG : zGood X l g own cc h nL) {q : Fin 4} {i : Nat} {x : Int} (hd : decode cc pc = .ok (.istore_n q, 1)) (hi : (q : Nat) = i) (hn : i < nL) {ls2 : zL} (he : zst1 ls i (zi x) = ls2) (k : zZ X (pc + 1) ls2 st mem) : zZ X pc ls ((zi x) :: st) mem := by
  obtain ⟨p, l, e, R, s, m, args, below, meth, c, Q, g⟩ := X
  obtain ⟨hx, hb, hml, hown, hts, hK, hN, hg, hR1, hR2, hlk, hl2, hg2⟩ := hG
  subst hl2 hg2
  intro hM hL hS H locs lsA hP hS0 hl
  subst hml
  subst he
  refine lv_istore_n hx hb hd hi (zlr_has hl) hn rfl fun ls' hl' => ?_
  exact k hM (zokL_st1 hL (zokS_cons.mp hS).1) (zokS_cons.mp hS).2 H locs ls' hP hS0 (zlr_st1 (lsA := lsA) ls' hl')
theorem z_istore (hG : zGood X l g own cc h nL) {i : Nat} {x : Int} (hd : decode cc pc = .ok (.istore i, 2)) (hn : i < nL) {ls2 : zL} (he : zst1 ls i (zi x) = ls2) (k : zZ X (pc + 2) ls2 st mem) : zZ X pc ls ((zi x) :: st) mem := by
  obtain ⟨p, l, e, R, s, m, args, below, meth, c, Q, g⟩ := X
  obtain ⟨hx, hb, hml, hown, hts, hK, hN, hg, hR1, hR2, hlk, hl2, hg2⟩ := hG
  subst hl2 hg2
  intro hM hL hS H locs lsA hP hS0 hl
  subst hml
  subst he
  refine lv_istore hx hb hd (zlr_has hl) hn rfl fun ls' hl' => ?_
  exact k hM (zokL_st1 hL (zokS_cons.mp hS).1) (zokS_cons.mp hS).2 H locs ls' hP hS0 (zlr_st1 (lsA := lsA) ls' hl')
theorem z_astore_n (hG : zGood X l g own cc h nL) {q : Fin 4} {i : Nat} {o : zO} (hd : decode cc pc = .ok (.astore_n q, 1)) (hi : (q : Nat) = i) (hn : i < nL) {ls2 : zL} (he : zst1 ls i (.inr (.inr o)) = ls2) (k : zZ X (pc + 1) ls2 st mem) : zZ X pc ls ((.inr (.inr o)) :: st) mem := by
  obtain ⟨p, l, e, R, s, m, args, below, meth, c, Q, g⟩ := X
  obtain ⟨hx, hb, hml, hown, hts, hK, hN, hg, hR1, hR2, hlk, hl2, hg2⟩ := hG
  subst hl2 hg2
  intro hM hL hS H locs lsA hP hS0 hl
  subst hml
  subst he
  refine lv_astore_n hx hb hd hi (zlr_has hl) hn rfl fun ls' hl' => ?_
  exact k hM (zokL_st1 hL (zokS_cons.mp hS).1) (zokS_cons.mp hS).2 H locs ls' hP hS0 (zlr_st1 (lsA := lsA) ls' hl')
theorem z_astore (hG : zGood X l g own cc h nL) {i : Nat} {o : zO} (hd : decode cc pc = .ok (.astore i, 2)) (hn : i < nL) {ls2 : zL} (he : zst1 ls i (.inr (.inr o)) = ls2) (k : zZ X (pc + 2) ls2 st mem) : zZ X pc ls ((.inr (.inr o)) :: st) mem := by
  obtain ⟨p, l, e, R, s, m, args, below, meth, c, Q, g⟩ := X
  obtain ⟨hx, hb, hml, hown, hts, hK, hN, hg, hR1, hR2, hlk, hl2, hg2⟩ := hG
  subst hl2 hg2
  intro hM hL hS H locs lsA hP hS0 hl
  subst hml
  subst he
  refine lv_astore hx hb hd (zlr_has hl) hn rfl fun ls' hl' => ?_
  exact k hM (zokL_st1 hL (zokS_cons.mp hS).1) (zokS_cons.mp hS).2 H locs ls' hP hS0 (zlr_st1 (lsA := lsA) ls' hl')
theorem z_lstore_n (hG : zGood X l g own cc h nL) {q : Fin 4} {i : Nat} {x : Int64} (hd : decode cc pc = .ok (.lstore_n q, 1)) (hi : (q : Nat) = i) (hn : i + 1 < nL) {ls2 : zL} (he : zst2 ls i (zl x) = ls2) (k : zZ X (pc + 1) ls2 st mem) : zZ X pc ls ((zl x) :: st) mem := by
  obtain ⟨p, l, e, R, s, m, args, below, meth, c, Q, g⟩ := X
  obtain ⟨hx, hb, hml, hown, hts, hK, hN, hg, hR1, hR2, hlk, hl2, hg2⟩ := hG
  subst hl2 hg2
  intro hM hL hS H locs lsA hP hS0 hl
  subst hml
  subst he
  refine lv_lstore_n hx hb hd hi (zlr_has hl) hn rfl fun ls' hl' => ?_
  exact k hM (zokL_st2 hL (zokS_cons.mp hS).1) (zokS_cons.mp hS).2 H locs ls' hP hS0 (zlr_st2 (lsA := lsA) ls' hl')
theorem z_lstore (hG : zGood X l g own cc h nL) {i : Nat} {x : Int64} (hd : decode cc pc = .ok (.lstore i, 2)) (hn : i + 1 < nL) {ls2 : zL} (he : zst2 ls i (zl x) = ls2) (k : zZ X (pc + 2) ls2 st mem) : zZ X pc ls ((zl x) :: st) mem := by
  obtain ⟨p, l, e, R, s, m, args, below, meth, c, Q, g⟩ := X
  obtain ⟨hx, hb, hml, hown, hts, hK, hN, hg, hR1, hR2, hlk, hl2, hg2⟩ := hG
  subst hl2 hg2
  intro hM hL hS H locs lsA hP hS0 hl
  subst hml
  subst he
  refine lv_lstore hx hb hd (zlr_has hl) hn rfl fun ls' hl' => ?_
  exact k hM (zokL_st2 hL (zokS_cons.mp hS).1) (zokS_cons.mp hS).2 H locs ls' hP hS0 (zlr_st2 (lsA := lsA) ls' hl')
theorem z_iinc (hG : zGood X l g own cc h nL) {i : Nat} {n x : Int} (hd : decode cc pc = .ok (.iinc i n, 3)) (hn : i < nL) (hv : ls[i]? = some (some (zi x))) (hr1 : -2147483648 ≤ x + n) (hr2 : x + n < 2147483648) {ls2 : zL} (he : zst1 ls i (zi (x + n)) = ls2) (k : zZ X (pc + 3) ls2 st mem) : zZ X pc ls st mem := by
  obtain ⟨p, l, e, R, s, m, args, below, meth, c, Q, g⟩ := X
  obtain ⟨hx, hb, hml, hown, hts, hK, hN, hg, hR1, hR2, hlk, hl2, hg2⟩ := hG
  subst hl2 hg2
  intro hM hL hS H locs lsA hP hS0 hl
  subst hml
  subst he
  have hr : zin (x + n) := ⟨hr1, hr2⟩
  obtain ⟨q, hq⟩ := List.getElem?_of_mem (zlist_mem.mpr ⟨_, hv, rfl⟩ : (i, zup g (zi x)) ∈ zlist g ls)
  refine lv_iinc (k := q) (x := Int32.ofInt x) (v := Int32.ofInt (x + n)) hx hb hd (zlr_has hl) hq (zadd x n) hn rfl fun ls' hl' => ?_
  exact k hM (zokL_st1 hL hr) hS H locs ls' hP hS0 (zlr_st1 (lsA := lsA) (v := zi (x + n)) ls' hl')
theorem z_iadd (hG : zGood X l g own cc h nL) {x y : Int} (hd : decode cc pc = .ok (.iadd, 1)) (hr1 : -2147483648 ≤ x + y) (hr2 : x + y < 2147483648) (k : zZ X (pc + 1) ls (zi (x + y) :: st) mem) : zZ X pc ls (zi y :: zi x :: st) mem := by
  obtain ⟨p, l, e, R, s, m, args, below, meth, c, Q, g⟩ := X
  obtain ⟨hx, hb, hml, hown, hts, hK, hN, hg, hR1, hR2, hlk, hl2, hg2⟩ := hG
  subst hl2 hg2
  intro hM hL hS H locs lsA hP hS0 hl
  have hxx : zin x := (zokS_cons.mp (zokS_cons.mp hS).2).1
  have hyy : zin y := (zokS_cons.mp hS).1
  refine lv_iadd hx hb hd ?_
  rw [zadd]
  exact k hM hL (zokS_cons.mpr ⟨⟨hr1, hr2⟩, (zokS_cons.mp (zokS_cons.mp hS).2).2⟩) H locs lsA hP hS0 hl
theorem z_isub (hG : zGood X l g own cc h nL) {x y : Int} (hd : decode cc pc = .ok (.isub, 1)) (hr1 : -2147483648 ≤ x - y) (hr2 : x - y < 2147483648) (k : zZ X (pc + 1) ls (zi (x - y) :: st) mem) : zZ X pc ls (zi y :: zi x :: st) mem := by
  obtain ⟨p, l, e, R, s, m, args, below, meth, c, Q, g⟩ := X
  obtain ⟨hx, hb, hml, hown, hts, hK, hN, hg, hR1, hR2, hlk, hl2, hg2⟩ := hG
  subst hl2 hg2
  intro hM hL hS H locs lsA hP hS0 hl
  have hxx : zin x := (zokS_cons.mp (zokS_cons.mp hS).2).1
  have hyy : zin y := (zokS_cons.mp hS).1
  refine lv_isub hx hb hd ?_
  rw [zsub]
  exact k hM hL (zokS_cons.mpr ⟨⟨hr1, hr2⟩, (zokS_cons.mp (zokS_cons.mp hS).2).2⟩) H locs lsA hP hS0 hl
theorem z_imul (hG : zGood X l g own cc h nL) {x y : Int} (hd : decode cc pc = .ok (.imul, 1)) (hr1 : -2147483648 ≤ x * y) (hr2 : x * y < 2147483648) (k : zZ X (pc + 1) ls (zi (x * y) :: st) mem) : zZ X pc ls (zi y :: zi x :: st) mem := by
  obtain ⟨p, l, e, R, s, m, args, below, meth, c, Q, g⟩ := X
  obtain ⟨hx, hb, hml, hown, hts, hK, hN, hg, hR1, hR2, hlk, hl2, hg2⟩ := hG
  subst hl2 hg2
  intro hM hL hS H locs lsA hP hS0 hl
  have hxx : zin x := (zokS_cons.mp (zokS_cons.mp hS).2).1
  have hyy : zin y := (zokS_cons.mp hS).1
  refine lv_imul hx hb hd ?_
  rw [zmul]
  exact k hM hL (zokS_cons.mpr ⟨⟨hr1, hr2⟩, (zokS_cons.mp (zokS_cons.mp hS).2).2⟩) H locs lsA hP hS0 hl
theorem z_iaddw (hG : zGood X l g own cc h nL) {x y : Int} (hd : decode cc pc = .ok (.iadd, 1)) (k : zZ X (pc + 1) ls (zi (zwr (x + y)) :: st) mem) : zZ X pc ls (zi y :: zi x :: st) mem := by
  obtain ⟨p, l, e, R, s, m, args, below, meth, c, Q, g⟩ := X
  obtain ⟨hx, hb, hml, hown, hts, hK, hN, hg, hR1, hR2, hlk, hl2, hg2⟩ := hG
  subst hl2 hg2
  intro hM hL hS H locs lsA hP hS0 hl
  have hxx : zin x := (zokS_cons.mp (zokS_cons.mp hS).2).1
  have hyy : zin y := (zokS_cons.mp hS).1
  refine lv_iadd hx hb hd ?_
  rw [zadd, show Int32.ofInt (x + y) = Int32.ofInt (zwr (x + y)) from (Int32.ofInt_toInt _).symm]
  exact k hM hL (zokS_cons.mpr ⟨zinT _, (zokS_cons.mp (zokS_cons.mp hS).2).2⟩) H locs lsA hP hS0 hl
theorem z_isubw (hG : zGood X l g own cc h nL) {x y : Int} (hd : decode cc pc = .ok (.isub, 1)) (k : zZ X (pc + 1) ls (zi (zwr (x - y)) :: st) mem) : zZ X pc ls (zi y :: zi x :: st) mem := by
  obtain ⟨p, l, e, R, s, m, args, below, meth, c, Q, g⟩ := X
  obtain ⟨hx, hb, hml, hown, hts, hK, hN, hg, hR1, hR2, hlk, hl2, hg2⟩ := hG
  subst hl2 hg2
  intro hM hL hS H locs lsA hP hS0 hl
  have hxx : zin x := (zokS_cons.mp (zokS_cons.mp hS).2).1
  have hyy : zin y := (zokS_cons.mp hS).1
  refine lv_isub hx hb hd ?_
  rw [zsub, show Int32.ofInt (x - y) = Int32.ofInt (zwr (x - y)) from (Int32.ofInt_toInt _).symm]
  exact k hM hL (zokS_cons.mpr ⟨zinT _, (zokS_cons.mp (zokS_cons.mp hS).2).2⟩) H locs lsA hP hS0 hl
theorem z_idiv (hG : zGood X l g own cc h nL) {x y : Int} (hd : decode cc pc = .ok (.idiv, 1)) (h0 : 0 ≤ x) (h1 : 0 < y) (k : zZ X (pc + 1) ls (zi (x / y) :: st) mem) : zZ X pc ls (zi y :: zi x :: st) mem := by
  obtain ⟨p, l, e, R, s, m, args, below, meth, c, Q, g⟩ := X
  obtain ⟨hx, hb, hml, hown, hts, hK, hN, hg, hR1, hR2, hlk, hl2, hg2⟩ := hG
  subst hl2 hg2
  intro hM hL hS H locs lsA hP hS0 hl
  have hxx : zin x := (zokS_cons.mp (zokS_cons.mp hS).2).1
  have hyy : zin y := (zokS_cons.mp hS).1
  refine lv_idiv hx hb hd (fun q => by have q2 : Int32.ofInt y = Int32.ofInt 0 := q; have := (zeq hyy z0in).mp q2; omega) ?_
  rw [zdiv hxx hyy h0 h1]
  exact k hM hL (zokS_cons.mpr ⟨⟨by have := Int.ediv_nonneg h0 (Int.le_of_lt h1); omega, by have := Int.ediv_le_self y h0; have := hxx.2; omega⟩, (zokS_cons.mp (zokS_cons.mp hS).2).2⟩) H locs lsA hP hS0 hl
theorem z_irem (hG : zGood X l g own cc h nL) {x y : Int} (hd : decode cc pc = .ok (.irem, 1)) (h0 : 0 ≤ x) (h1 : 0 < y) (k : zZ X (pc + 1) ls (zi (x % y) :: st) mem) : zZ X pc ls (zi y :: zi x :: st) mem := by
  obtain ⟨p, l, e, R, s, m, args, below, meth, c, Q, g⟩ := X
  obtain ⟨hx, hb, hml, hown, hts, hK, hN, hg, hR1, hR2, hlk, hl2, hg2⟩ := hG
  subst hl2 hg2
  intro hM hL hS H locs lsA hP hS0 hl
  have hxx : zin x := (zokS_cons.mp (zokS_cons.mp hS).2).1
  have hyy : zin y := (zokS_cons.mp hS).1
  refine lv_irem hx hb hd (fun q => by have q2 : Int32.ofInt y = Int32.ofInt 0 := q; have := (zeq hyy z0in).mp q2; omega) ?_
  rw [zrem hxx hyy h0 h1]
  exact k hM hL (zokS_cons.mpr ⟨zmodin hyy h1, (zokS_cons.mp (zokS_cons.mp hS).2).2⟩) H locs lsA hP hS0 hl
theorem z_iand (hG : zGood X l g own cc h nL) {x y : Int} (hd : decode cc pc = .ok (.iand, 1)) (k : zZ X (pc + 1) ls (zi (zand x y) :: st) mem) : zZ X pc ls (zi y :: zi x :: st) mem := by
  obtain ⟨p, l, e, R, s, m, args, below, meth, c, Q, g⟩ := X
  obtain ⟨hx, hb, hml, hown, hts, hK, hN, hg, hR1, hR2, hlk, hl2, hg2⟩ := hG
  subst hl2 hg2
  intro hM hL hS H locs lsA hP hS0 hl
  have hxx : zin x := (zokS_cons.mp (zokS_cons.mp hS).2).1
  have hyy : zin y := (zokS_cons.mp hS).1
  refine lv_iand hx hb hd ?_
  rw [show Int32.ofInt x &&& Int32.ofInt y = Int32.ofInt (zand x y) from (Int32.ofInt_toInt _).symm]
  exact k hM hL (zokS_cons.mpr ⟨zinT _, (zokS_cons.mp (zokS_cons.mp hS).2).2⟩) H locs lsA hP hS0 hl
theorem z_ior (hG : zGood X l g own cc h nL) {x y : Int} (hd : decode cc pc = .ok (.ior, 1)) (k : zZ X (pc + 1) ls (zi (zor x y) :: st) mem) : zZ X pc ls (zi y :: zi x :: st) mem := by
  obtain ⟨p, l, e, R, s, m, args, below, meth, c, Q, g⟩ := X
  obtain ⟨hx, hb, hml, hown, hts, hK, hN, hg, hR1, hR2, hlk, hl2, hg2⟩ := hG
  subst hl2 hg2
  intro hM hL hS H locs lsA hP hS0 hl
  have hxx : zin x := (zokS_cons.mp (zokS_cons.mp hS).2).1
  have hyy : zin y := (zokS_cons.mp hS).1
  refine lv_ior hx hb hd ?_
  rw [show Int32.ofInt x ||| Int32.ofInt y = Int32.ofInt (zor x y) from (Int32.ofInt_toInt _).symm]
  exact k hM hL (zokS_cons.mpr ⟨zinT _, (zokS_cons.mp (zokS_cons.mp hS).2).2⟩) H locs lsA hP hS0 hl
theorem z_ixor (hG : zGood X l g own cc h nL) {x y : Int} (hd : decode cc pc = .ok (.ixor, 1)) (k : zZ X (pc + 1) ls (zi (zxor x y) :: st) mem) : zZ X pc ls (zi y :: zi x :: st) mem := by
  obtain ⟨p, l, e, R, s, m, args, below, meth, c, Q, g⟩ := X
  obtain ⟨hx, hb, hml, hown, hts, hK, hN, hg, hR1, hR2, hlk, hl2, hg2⟩ := hG
  subst hl2 hg2
  intro hM hL hS H locs lsA hP hS0 hl
  have hxx : zin x := (zokS_cons.mp (zokS_cons.mp hS).2).1
  have hyy : zin y := (zokS_cons.mp hS).1
  refine lv_ixor hx hb hd ?_
  rw [show Int32.ofInt x ^^^ Int32.ofInt y = Int32.ofInt (zxor x y) from (Int32.ofInt_toInt _).symm]
  exact k hM hL (zokS_cons.mpr ⟨zinT _, (zokS_cons.mp (zokS_cons.mp hS).2).2⟩) H locs lsA hP hS0 hl
theorem z_ishl (hG : zGood X l g own cc h nL) {x y : Int} (hd : decode cc pc = .ok (.ishl, 1)) (k : zZ X (pc + 1) ls (zi (zshl x y) :: st) mem) : zZ X pc ls (zi y :: zi x :: st) mem := by
  obtain ⟨p, l, e, R, s, m, args, below, meth, c, Q, g⟩ := X
  obtain ⟨hx, hb, hml, hown, hts, hK, hN, hg, hR1, hR2, hlk, hl2, hg2⟩ := hG
  subst hl2 hg2
  intro hM hL hS H locs lsA hP hS0 hl
  have hxx : zin x := (zokS_cons.mp (zokS_cons.mp hS).2).1
  have hyy : zin y := (zokS_cons.mp hS).1
  refine lv_ishl hx hb hd ?_
  rw [show Int32.ofInt x <<< (Int32.ofInt y &&& 31) = Int32.ofInt (zshl x y) from (Int32.ofInt_toInt _).symm]
  exact k hM hL (zokS_cons.mpr ⟨zinT _, (zokS_cons.mp (zokS_cons.mp hS).2).2⟩) H locs lsA hP hS0 hl
theorem z_ishr (hG : zGood X l g own cc h nL) {x y : Int} (hd : decode cc pc = .ok (.ishr, 1)) (k : zZ X (pc + 1) ls (zi (zshr x y) :: st) mem) : zZ X pc ls (zi y :: zi x :: st) mem := by
  obtain ⟨p, l, e, R, s, m, args, below, meth, c, Q, g⟩ := X
  obtain ⟨hx, hb, hml, hown, hts, hK, hN, hg, hR1, hR2, hlk, hl2, hg2⟩ := hG
  subst hl2 hg2
  intro hM hL hS H locs lsA hP hS0 hl
  have hxx : zin x := (zokS_cons.mp (zokS_cons.mp hS).2).1
  have hyy : zin y := (zokS_cons.mp hS).1
  refine lv_ishr hx hb hd ?_
  rw [show Int32.ofInt x >>> (Int32.ofInt y &&& 31) = Int32.ofInt (zshr x y) from (Int32.ofInt_toInt _).symm]
  exact k hM hL (zokS_cons.mpr ⟨zinT _, (zokS_cons.mp (zokS_cons.mp hS).2).2⟩) H locs lsA hP hS0 hl
theorem z_ladd (hG : zGood X l g own cc h nL) {x y : Int64} (hd : decode cc pc = .ok (.ladd, 1)) (k : zZ X (pc + 1) ls (zl (x + y) :: st) mem) : zZ X pc ls (zl y :: zl x :: st) mem := by
  obtain ⟨p, l, e, R, s, m, args, below, meth, c, Q, g⟩ := X
  obtain ⟨hx, hb, hml, hown, hts, hK, hN, hg, hR1, hR2, hlk, hl2, hg2⟩ := hG
  subst hl2 hg2
  intro hM hL hS H locs lsA hP hS0 hl
  refine lv_ladd hx hb hd ?_
  exact k hM hL (zokS_cons.mpr ⟨trivial, (zokS_cons.mp (zokS_cons.mp hS).2).2⟩) H locs lsA hP hS0 hl
theorem z_lmul (hG : zGood X l g own cc h nL) {x y : Int64} (hd : decode cc pc = .ok (.lmul, 1)) (k : zZ X (pc + 1) ls (zl (x * y) :: st) mem) : zZ X pc ls (zl y :: zl x :: st) mem := by
  obtain ⟨p, l, e, R, s, m, args, below, meth, c, Q, g⟩ := X
  obtain ⟨hx, hb, hml, hown, hts, hK, hN, hg, hR1, hR2, hlk, hl2, hg2⟩ := hG
  subst hl2 hg2
  intro hM hL hS H locs lsA hP hS0 hl
  refine lv_lmul hx hb hd ?_
  exact k hM hL (zokS_cons.mpr ⟨trivial, (zokS_cons.mp (zokS_cons.mp hS).2).2⟩) H locs lsA hP hS0 hl
theorem z_land (hG : zGood X l g own cc h nL) {x y : Int64} (hd : decode cc pc = .ok (.land, 1)) (k : zZ X (pc + 1) ls (zl (x &&& y) :: st) mem) : zZ X pc ls (zl y :: zl x :: st) mem := by
  obtain ⟨p, l, e, R, s, m, args, below, meth, c, Q, g⟩ := X
  obtain ⟨hx, hb, hml, hown, hts, hK, hN, hg, hR1, hR2, hlk, hl2, hg2⟩ := hG
  subst hl2 hg2
  intro hM hL hS H locs lsA hP hS0 hl
  refine lv_land hx hb hd ?_
  exact k hM hL (zokS_cons.mpr ⟨trivial, (zokS_cons.mp (zokS_cons.mp hS).2).2⟩) H locs lsA hP hS0 hl
theorem z_lor (hG : zGood X l g own cc h nL) {x y : Int64} (hd : decode cc pc = .ok (.lor, 1)) (k : zZ X (pc + 1) ls (zl (x ||| y) :: st) mem) : zZ X pc ls (zl y :: zl x :: st) mem := by
  obtain ⟨p, l, e, R, s, m, args, below, meth, c, Q, g⟩ := X
  obtain ⟨hx, hb, hml, hown, hts, hK, hN, hg, hR1, hR2, hlk, hl2, hg2⟩ := hG
  subst hl2 hg2
  intro hM hL hS H locs lsA hP hS0 hl
  refine lv_lor hx hb hd ?_
  exact k hM hL (zokS_cons.mpr ⟨trivial, (zokS_cons.mp (zokS_cons.mp hS).2).2⟩) H locs lsA hP hS0 hl
theorem z_lushr (hG : zGood X l g own cc h nL) {x : Int64} {y : Int} (hd : decode cc pc = .ok (.lushr, 1)) (k : zZ X (pc + 1) ls (zl ((x.toUInt64 >>> ((Int32.ofInt y).toInt64.toUInt64 &&& Int64.toUInt64 63)).toInt64) :: st) mem) : zZ X pc ls (zi y :: zl x :: st) mem := by
  obtain ⟨p, l, e, R, s, m, args, below, meth, c, Q, g⟩ := X
  obtain ⟨hx, hb, hml, hown, hts, hK, hN, hg, hR1, hR2, hlk, hl2, hg2⟩ := hG
  subst hl2 hg2
  intro hM hL hS H locs lsA hP hS0 hl
  refine lv_lushr hx hb hd rfl ?_
  exact k hM hL (zokS_cons.mpr ⟨trivial, (zokS_cons.mp (zokS_cons.mp hS).2).2⟩) H locs lsA hP hS0 hl
theorem z_lshl (hG : zGood X l g own cc h nL) {x : Int64} {y : Int} (hd : decode cc pc = .ok (.lshl, 1)) (k : zZ X (pc + 1) ls (zl (x <<< ((Int32.ofInt y).toInt64 &&& 63)) :: st) mem) : zZ X pc ls (zi y :: zl x :: st) mem := by
  obtain ⟨p, l, e, R, s, m, args, below, meth, c, Q, g⟩ := X
  obtain ⟨hx, hb, hml, hown, hts, hK, hN, hg, hR1, hR2, hlk, hl2, hg2⟩ := hG
  subst hl2 hg2
  intro hM hL hS H locs lsA hP hS0 hl
  refine lv_lshl hx hb hd rfl ?_
  exact k hM hL (zokS_cons.mpr ⟨trivial, (zokS_cons.mp (zokS_cons.mp hS).2).2⟩) H locs lsA hP hS0 hl
theorem z_lshr (hG : zGood X l g own cc h nL) {x : Int64} {y : Int} (hd : decode cc pc = .ok (.lshr, 1)) (k : zZ X (pc + 1) ls (zl (x >>> ((Int32.ofInt y).toInt64 &&& 63)) :: st) mem) : zZ X pc ls (zi y :: zl x :: st) mem := by
  obtain ⟨p, l, e, R, s, m, args, below, meth, c, Q, g⟩ := X
  obtain ⟨hx, hb, hml, hown, hts, hK, hN, hg, hR1, hR2, hlk, hl2, hg2⟩ := hG
  subst hl2 hg2
  intro hM hL hS H locs lsA hP hS0 hl
  refine lv_lshr hx hb hd rfl ?_
  exact k hM hL (zokS_cons.mpr ⟨trivial, (zokS_cons.mp (zokS_cons.mp hS).2).2⟩) H locs lsA hP hS0 hl
theorem z_i2l (hG : zGood X l g own cc h nL) {x : Int} (hd : decode cc pc = .ok (.i2l, 1)) (k : zZ X (pc + 1) ls (zl (Int32.ofInt x).toInt64 :: st) mem) : zZ X pc ls (zi x :: st) mem := by
  obtain ⟨p, l, e, R, s, m, args, below, meth, c, Q, g⟩ := X
  obtain ⟨hx, hb, hml, hown, hts, hK, hN, hg, hR1, hR2, hlk, hl2, hg2⟩ := hG
  subst hl2 hg2
  intro hM hL hS H locs lsA hP hS0 hl
  refine lv_i2l hx hb hd rfl ?_
  exact k hM hL (zokS_cons.mpr ⟨trivial, (zokS_cons.mp hS).2⟩) H locs lsA hP hS0 hl
theorem z_l2i (hG : zGood X l g own cc h nL) {x : Int64} (hd : decode cc pc = .ok (.l2i, 1)) (k : zZ X (pc + 1) ls (zi x.toInt32.toInt :: st) mem) : zZ X pc ls (zl x :: st) mem := by
  obtain ⟨p, l, e, R, s, m, args, below, meth, c, Q, g⟩ := X
  obtain ⟨hx, hb, hml, hown, hts, hK, hN, hg, hR1, hR2, hlk, hl2, hg2⟩ := hG
  subst hl2 hg2
  intro hM hL hS H locs lsA hP hS0 hl
  refine lv_l2i hx hb hd rfl ?_
  rw [show x.toInt32 = Int32.ofInt x.toInt32.toInt from (Int32.ofInt_toInt _).symm]
  exact k hM hL (zokS_cons.mpr ⟨zinT _, (zokS_cons.mp hS).2⟩) H locs lsA hP hS0 hl
theorem z_i2c (hG : zGood X l g own cc h nL) {x : Int} (hd : decode cc pc = .ok (.i2c, 1)) (h0 : 0 ≤ x) (h1 : x < 65536) (k : zZ X (pc + 1) ls (zi x :: st) mem) : zZ X pc ls (zi x :: st) mem := by
  obtain ⟨p, l, e, R, s, m, args, below, meth, c, Q, g⟩ := X
  obtain ⟨hx, hb, hml, hown, hts, hK, hN, hg, hR1, hR2, hlk, hl2, hg2⟩ := hG
  subst hl2 hg2
  intro hM hL hS H locs lsA hP hS0 hl
  refine lv_i2c hx hb hd (v := Int32.ofInt x) (zi2c h0 h1) ?_
  exact k hM hL hS H locs lsA hP hS0 hl
theorem z_lcmp (hG : zGood X l g own cc h nL) {x y : Int64} (hd : decode cc pc = .ok (.lcmp, 1)) (k : zZ X (pc + 1) ls (zi (lg_cmp x y).toInt :: st) mem) : zZ X pc ls (zl y :: zl x :: st) mem := by
  obtain ⟨p, l, e, R, s, m, args, below, meth, c, Q, g⟩ := X
  obtain ⟨hx, hb, hml, hown, hts, hK, hN, hg, hR1, hR2, hlk, hl2, hg2⟩ := hG
  subst hl2 hg2
  intro hM hL hS H locs lsA hP hS0 hl
  refine W.lcmp hx hb hd ?_
  rw [show lg_cmp x y = Int32.ofInt (lg_cmp x y).toInt from (Int32.ofInt_toInt _).symm]
  exact k hM hL (zokS_cons.mpr ⟨zinT _, (zokS_cons.mp (zokS_cons.mp hS).2).2⟩) H locs lsA hP hS0 hl
theorem z_dup_r (hG : zGood X l g own cc h nL) {o : zO} (hd : decode cc pc = .ok (.dup, 1)) (k : zZ X (pc + 1) ls (.inr (.inr o) :: .inr (.inr o) :: st) mem) : zZ X pc ls (.inr (.inr o) :: st) mem := by
  obtain ⟨p, l, e, R, s, m, args, below, meth, c, Q, g⟩ := X
  obtain ⟨hx, hb, hml, hown, hts, hK, hN, hg, hR1, hR2, hlk, hl2, hg2⟩ := hG
  subst hl2 hg2
  intro hM hL hS H locs lsA hP hS0 hl
  refine lv_dup hx hb hd rfl ?_
  exact k hM hL (zokS_cons.mpr ⟨(zokS_cons.mp hS).1, hS⟩) H locs lsA hP hS0 hl
theorem z_dup_i (hG : zGood X l g own cc h nL) {x : Int} (hd : decode cc pc = .ok (.dup, 1)) (k : zZ X (pc + 1) ls (zi x :: zi x :: st) mem) : zZ X pc ls (zi x :: st) mem := by
  obtain ⟨p, l, e, R, s, m, args, below, meth, c, Q, g⟩ := X
  obtain ⟨hx, hb, hml, hown, hts, hK, hN, hg, hR1, hR2, hlk, hl2, hg2⟩ := hG
  subst hl2 hg2
  intro hM hL hS H locs lsA hP hS0 hl
  refine lv_dup hx hb hd rfl ?_
  exact k hM hL (zokS_cons.mpr ⟨(zokS_cons.mp hS).1, hS⟩) H locs lsA hP hS0 hl
theorem z_dup2 (hG : zGood X l g own cc h nL) {x : Int} {o : zO} (hd : decode cc pc = .ok (.dup2, 1)) (k : zZ X (pc + 1) ls (zi x :: .inr (.inr o) :: zi x :: .inr (.inr o) :: st) mem) : zZ X pc ls (zi x :: .inr (.inr o) :: st) mem := by
  obtain ⟨p, l, e, R, s, m, args, below, meth, c, Q, g⟩ := X
  obtain ⟨hx, hb, hml, hown, hts, hK, hN, hg, hR1, hR2, hlk, hl2, hg2⟩ := hG
  subst hl2 hg2
  intro hM hL hS H locs lsA hP hS0 hl
  refine lv_dup2_11 hx hb hd rfl rfl ?_
  exact k hM hL (zokS_cons.mpr ⟨(zokS_cons.mp hS).1, zokS_cons.mpr ⟨(zokS_cons.mp (zokS_cons.mp hS).2).1, hS⟩⟩) H locs lsA hP hS0 hl
theorem z_if_eq (hG : zGood X l g own cc h nL) {x : Int} {off : Int} {tgt : Nat} (hd : decode cc pc = .ok (.ifCond .eq off, 3)) (ht : (pc : Int) + off = (tgt : Int)) (kt : x = 0 → zZ X tgt ls st mem) (kf : x ≠ 0 → zZ X (pc + 3) ls st mem) : zZ X pc ls (zi x :: st) mem := by
  obtain ⟨p, l, e, R, s, m, args, below, meth, c, Q, g⟩ := X
  obtain ⟨hx, hb, hml, hown, hts, hK, hN, hg, hR1, hR2, hlk, hl2, hg2⟩ := hG
  subst hl2 hg2
  intro hM hL hS H locs lsA hP hS0 hl
  have hxx : zin x := (zokS_cons.mp hS).1
  have hyy : zin 0 := z0in
  have h2 := (zokS_cons.mp hS).2
  refine lv_if_eq hx hb hd ht (fun q => ?_) (fun q => ?_)
  · rw [← z00] at q; exact kt ((zeq hxx hyy).mp q) hM hL h2 H locs lsA hP hS0 hl
  · rw [← z00] at q; exact kf (fun z => q ((zeq hxx hyy).mpr z)) hM hL h2 H locs lsA hP hS0 hl
theorem z_icmp_eq (hG : zGood X l g own cc h nL) {x y : Int} {off : Int} {tgt : Nat} (hd : decode cc pc = .ok (.if_icmp .eq off, 3)) (ht : (pc : Int) + off = (tgt : Int)) (kt : x = y → zZ X tgt ls st mem) (kf : x ≠ y → zZ X (pc + 3) ls st mem) : zZ X pc ls (zi y :: zi x :: st) mem := by
  obtain ⟨p, l, e, R, s, m, args, below, meth, c, Q, g⟩ := X
  obtain ⟨hx, hb, hml, hown, hts, hK, hN, hg, hR1, hR2, hlk, hl2, hg2⟩ := hG
  subst hl2 hg2
  intro hM hL hS H locs lsA hP hS0 hl
  have hxx : zin x := (zokS_cons.mp (zokS_cons.mp hS).2).1
  have hyy : zin y := (zokS_cons.mp hS).1
  have h2 := (zokS_cons.mp (zokS_cons.mp hS).2).2
  refine lv_icmp_eq hx hb hd ht (fun q => ?_) (fun q => ?_)
  · skip; exact kt ((zeq hxx hyy).mp q) hM hL h2 H locs lsA hP hS0 hl
  · skip; exact kf (fun z => q ((zeq hxx hyy).mpr z)) hM hL h2 H locs lsA hP hS0 hl
theorem z_if_ne (hG : zGood X l g own cc h nL) {x : Int} {off : Int} {tgt : Nat} (hd : decode cc pc = .ok (.ifCond .ne off, 3)) (ht : (pc : Int) + off = (tgt : Int)) (kt : x ≠ 0 → zZ X tgt ls st mem) (kf : x = 0 → zZ X (pc + 3) ls st mem) : zZ X pc ls (zi x :: st) mem := by
  obtain ⟨p, l, e, R, s, m, args, below, meth, c, Q, g⟩ := X
  obtain ⟨hx, hb, hml, hown, hts, hK, hN, hg, hR1, hR2, hlk, hl2, hg2⟩ := hG
  subst hl2 hg2
  intro hM hL hS H locs lsA hP hS0 hl
  have hxx : zin x := (zokS_cons.mp hS).1
  have hyy : zin 0 := z0in
  have h2 := (zokS_cons.mp hS).2
  refine lv_if_ne hx hb hd ht (fun q => ?_) (fun q => ?_)
  · rw [← z00] at q; exact kt (fun z => q ((zeq hxx hyy).mpr z)) hM hL h2 H locs lsA hP hS0 hl
  · rw [← z00] at q; exact kf ((zeq hxx hyy).mp q) hM hL h2 H locs lsA hP hS0 hl
theorem z_icmp_ne (hG : zGood X l g own cc h nL) {x y : Int} {off : Int} {tgt : Nat} (hd : decode cc pc = .ok (.if_icmp .ne off, 3)) (ht : (pc : Int) + off = (tgt : Int)) (kt : x ≠ y → zZ X tgt ls st mem) (kf : x = y → zZ X (pc + 3) ls st mem) : zZ X pc ls (zi y :: zi x :: st) mem := by
  obtain ⟨p, l, e, R, s, m, args, below, meth, c, Q, g⟩ := X
  obtain ⟨hx, hb, hml, hown, hts, hK, hN, hg, hR1, hR2, hlk, hl2, hg2⟩ := hG
  subst hl2 hg2
  intro hM hL hS H locs lsA hP hS0 hl
  have hxx : zin x := (zokS_cons.mp (zokS_cons.mp hS).2).1
  have hyy : zin y := (zokS_cons.mp hS).1
  have h2 := (zokS_cons.mp (zokS_cons.mp hS).2).2
  refine lv_icmp_ne hx hb hd ht (fun q => ?_) (fun q => ?_)
  · skip; exact kt (fun z => q ((zeq hxx hyy).mpr z)) hM hL h2 H locs lsA hP hS0 hl
  · skip; exact kf ((zeq hxx hyy).mp q) hM hL h2 H locs lsA hP hS0 hl
theorem z_if_lt (hG : zGood X l g own cc h nL) {x : Int} {off : Int} {tgt : Nat} (hd : decode cc pc = .ok (.ifCond .lt off, 3)) (ht : (pc : Int) + off = (tgt : Int)) (kt : x < 0 → zZ X tgt ls st mem) (kf : 0 ≤ x → zZ X (pc + 3) ls st mem) : zZ X pc ls (zi x :: st) mem := by
  obtain ⟨p, l, e, R, s, m, args, below, meth, c, Q, g⟩ := X
  obtain ⟨hx, hb, hml, hown, hts, hK, hN, hg, hR1, hR2, hlk, hl2, hg2⟩ := hG
  subst hl2 hg2
  intro hM hL hS H locs lsA hP hS0 hl
  have hxx : zin x := (zokS_cons.mp hS).1
  have hyy : zin 0 := z0in
  have h2 := (zokS_cons.mp hS).2
  refine lv_if_lt hx hb hd ht (fun q => ?_) (fun q => ?_)
  · rw [← z00] at q; exact kt ((zlt hxx hyy).mp q) hM hL h2 H locs lsA hP hS0 hl
  · rw [← z00] at q; rw [zlt hxx hyy] at q; exact kf (by omega) hM hL h2 H locs lsA hP hS0 hl
theorem z_icmp_lt (hG : zGood X l g own cc h nL) {x y : Int} {off : Int} {tgt : Nat} (hd : decode cc pc = .ok (.if_icmp .lt off, 3)) (ht : (pc : Int) + off = (tgt : Int)) (kt : x < y → zZ X tgt ls st mem) (kf : y ≤ x → zZ X (pc + 3) ls st mem) : zZ X pc ls (zi y :: zi x :: st) mem := by
  obtain ⟨p, l, e, R, s, m, args, below, meth, c, Q, g⟩ := X
  obtain ⟨hx, hb, hml, hown, hts, hK, hN, hg, hR1, hR2, hlk, hl2, hg2⟩ := hG
  subst hl2 hg2
  intro hM hL hS H locs lsA hP hS0 hl
  have hxx : zin x := (zokS_cons.mp (zokS_cons.mp hS).2).1
  have hyy : zin y := (zokS_cons.mp hS).1
  have h2 := (zokS_cons.mp (zokS_cons.mp hS).2).2
  refine lv_icmp_lt hx hb hd ht (fun q => ?_) (fun q => ?_)
  · skip; exact kt ((zlt hxx hyy).mp q) hM hL h2 H locs lsA hP hS0 hl
  · skip; rw [zlt hxx hyy] at q; exact kf (by omega) hM hL h2 H locs lsA hP hS0 hl
theorem z_if_ge (hG : zGood X l g own cc h nL) {x : Int} {off : Int} {tgt : Nat} (hd : decode cc pc = .ok (.ifCond .ge off, 3)) (ht : (pc : Int) + off = (tgt : Int)) (kt : 0 ≤ x → zZ X tgt ls st mem) (kf : x < 0 → zZ X (pc + 3) ls st mem) : zZ X pc ls (zi x :: st) mem := by
  obtain ⟨p, l, e, R, s, m, args, below, meth, c, Q, g⟩ := X
  obtain ⟨hx, hb, hml, hown, hts, hK, hN, hg, hR1, hR2, hlk, hl2, hg2⟩ := hG
  subst hl2 hg2
  intro hM hL hS H locs lsA hP hS0 hl
  have hxx : zin x := (zokS_cons.mp hS).1
  have hyy : zin 0 := z0in
  have h2 := (zokS_cons.mp hS).2
  refine lv_if_ge hx hb hd ht (fun q => ?_) (fun q => ?_)
  · rw [← z00] at q; exact kt ((zle hyy hxx).mp q) hM hL h2 H locs lsA hP hS0 hl
  · rw [← z00] at q; rw [zle hyy hxx] at q; exact kf (by omega) hM hL h2 H locs lsA hP hS0 hl
theorem z_icmp_ge (hG : zGood X l g own cc h nL) {x y : Int} {off : Int} {tgt : Nat} (hd : decode cc pc = .ok (.if_icmp .ge off, 3)) (ht : (pc : Int) + off = (tgt : Int)) (kt : y ≤ x → zZ X tgt ls st mem) (kf : x < y → zZ X (pc + 3) ls st mem) : zZ X pc ls (zi y :: zi x :: st) mem := by
  obtain ⟨p, l, e, R, s, m, args, below, meth, c, Q, g⟩ := X
  obtain ⟨hx, hb, hml, hown, hts, hK, hN, hg, hR1, hR2, hlk, hl2, hg2⟩ := hG
  subst hl2 hg2
  intro hM hL hS H locs lsA hP hS0 hl
  have hxx : zin x := (zokS_cons.mp (zokS_cons.mp hS).2).1
  have hyy : zin y := (zokS_cons.mp hS).1
  have h2 := (zokS_cons.mp (zokS_cons.mp hS).2).2
  refine lv_icmp_ge hx hb hd ht (fun q => ?_) (fun q => ?_)
  · skip; exact kt ((zle hyy hxx).mp q) hM hL h2 H locs lsA hP hS0 hl
  · skip; rw [zle hyy hxx] at q; exact kf (by omega) hM hL h2 H locs lsA hP hS0 hl
theorem z_if_gt (hG : zGood X l g own cc h nL) {x : Int} {off : Int} {tgt : Nat} (hd : decode cc pc = .ok (.ifCond .gt off, 3)) (ht : (pc : Int) + off = (tgt : Int)) (kt : 0 < x → zZ X tgt ls st mem) (kf : x ≤ 0 → zZ X (pc + 3) ls st mem) : zZ X pc ls (zi x :: st) mem := by
  obtain ⟨p, l, e, R, s, m, args, below, meth, c, Q, g⟩ := X
  obtain ⟨hx, hb, hml, hown, hts, hK, hN, hg, hR1, hR2, hlk, hl2, hg2⟩ := hG
  subst hl2 hg2
  intro hM hL hS H locs lsA hP hS0 hl
  have hxx : zin x := (zokS_cons.mp hS).1
  have hyy : zin 0 := z0in
  have h2 := (zokS_cons.mp hS).2
  refine lv_if_gt hx hb hd ht (fun q => ?_) (fun q => ?_)
  · rw [← z00] at q; exact kt ((zlt hyy hxx).mp q) hM hL h2 H locs lsA hP hS0 hl
  · rw [← z00] at q; rw [zlt hyy hxx] at q; exact kf (by omega) hM hL h2 H locs lsA hP hS0 hl
theorem z_icmp_gt (hG : zGood X l g own cc h nL) {x y : Int} {off : Int} {tgt : Nat} (hd : decode cc pc = .ok (.if_icmp .gt off, 3)) (ht : (pc : Int) + off = (tgt : Int)) (kt : y < x → zZ X tgt ls st mem) (kf : x ≤ y → zZ X (pc + 3) ls st mem) : zZ X pc ls (zi y :: zi x :: st) mem := by
  obtain ⟨p, l, e, R, s, m, args, below, meth, c, Q, g⟩ := X
  obtain ⟨hx, hb, hml, hown, hts, hK, hN, hg, hR1, hR2, hlk, hl2, hg2⟩ := hG
  subst hl2 hg2
  intro hM hL hS H locs lsA hP hS0 hl
  have hxx : zin x := (zokS_cons.mp (zokS_cons.mp hS).2).1
  have hyy : zin y := (zokS_cons.mp hS).1
  have h2 := (zokS_cons.mp (zokS_cons.mp hS).2).2
  refine lv_icmp_gt hx hb hd ht (fun q => ?_) (fun q => ?_)
  · skip; exact kt ((zlt hyy hxx).mp q) hM hL h2 H locs lsA hP hS0 hl
  · skip; rw [zlt hyy hxx] at q; exact kf (by omega) hM hL h2 H locs lsA hP hS0 hl
theorem z_if_le (hG : zGood X l g own cc h nL) {x : Int} {off : Int} {tgt : Nat} (hd : decode cc pc = .ok (.ifCond .le off, 3)) (ht : (pc : Int) + off = (tgt : Int)) (kt : x ≤ 0 → zZ X tgt ls st mem) (kf : 0 < x → zZ X (pc + 3) ls st mem) : zZ X pc ls (zi x :: st) mem := by
  obtain ⟨p, l, e, R, s, m, args, below, meth, c, Q, g⟩ := X
  obtain ⟨hx, hb, hml, hown, hts, hK, hN, hg, hR1, hR2, hlk, hl2, hg2⟩ := hG
  subst hl2 hg2
  intro hM hL hS H locs lsA hP hS0 hl
  have hxx : zin x := (zokS_cons.mp hS).1
  have hyy : zin 0 := z0in
  have h2 := (zokS_cons.mp hS).2
  refine lv_if_le hx hb hd ht (fun q => ?_) (fun q => ?_)
  · rw [← z00] at q; exact kt ((zle hxx hyy).mp q) hM hL h2 H locs lsA hP hS0 hl
  · rw [← z00] at q; rw [zle hxx hyy] at q; exact kf (by omega) hM hL h2 H locs lsA hP hS0 hl
theorem z_icmp_le (hG : zGood X l g own cc h nL) {x y : Int} {off : Int} {tgt : Nat} (hd : decode cc pc = .ok (.if_icmp .le off, 3)) (ht : (pc : Int) + off = (tgt : Int)) (kt : x ≤ y → zZ X tgt ls st mem) (kf : y < x → zZ X (pc + 3) ls st mem) : zZ X pc ls (zi y :: zi x :: st) mem := by
  obtain ⟨p, l, e, R, s, m, args, below, meth, c, Q, g⟩ := X
  obtain ⟨hx, hb, hml, hown, hts, hK, hN, hg, hR1, hR2, hlk, hl2, hg2⟩ := hG
  subst hl2 hg2
  intro hM hL hS H locs lsA hP hS0 hl
  have hxx : zin x := (zokS_cons.mp (zokS_cons.mp hS).2).1
  have hyy : zin y := (zokS_cons.mp hS).1
  have h2 := (zokS_cons.mp (zokS_cons.mp hS).2).2
  refine lv_icmp_le hx hb hd ht (fun q => ?_) (fun q => ?_)
  · skip; exact kt ((zle hxx hyy).mp q) hM hL h2 H locs lsA hP hS0 hl
  · skip; rw [zle hxx hyy] at q; exact kf (by omega) hM hL h2 H locs lsA hP hS0 hl
theorem z_goto (hG : zGood X l g own cc h nL) {off : Int} {tgt : Nat} (hd : decode cc pc = .ok (.goto off, 3)) (ht : (pc : Int) + off = (tgt : Int)) (k : zZ X tgt ls st mem) : zZ X pc ls st mem := by
  obtain ⟨p, l, e, R, s, m, args, below, meth, c, Q, g⟩ := X
  obtain ⟨hx, hb, hml, hown, hts, hK, hN, hg, hR1, hR2, hlk, hl2, hg2⟩ := hG
  subst hl2 hg2
  intro hM hL hS H locs lsA hP hS0 hl
  refine lv_goto hx hb hd ht ?_
  exact k hM hL hS H locs lsA hP hS0 hl
theorem z_tabIn (hG : zGood X l g own cc h nL) {dflt lo hi : Int} {offs : Array Int} {len : Nat} {x off : Int} {tgt : Nat} (hd : decode cc pc = .ok (.tableswitch dflt lo hi offs, len)) (h1 : lo ≤ x) (h2 : x ≤ hi) (ho : offs[(x - lo).toNat]? = some off) (ht : (pc : Int) + off = (tgt : Int)) (k : zZ X tgt ls st mem) : zZ X pc ls (zi x :: st) mem := by
  obtain ⟨p, l, e, R, s, m, args, below, meth, c, Q, g⟩ := X
  obtain ⟨hx, hb, hml, hown, hts, hK, hN, hg, hR1, hR2, hlk, hl2, hg2⟩ := hG
  subst hl2 hg2
  intro hM hL hS H locs lsA hP hS0 hl
  have hxx : zin x := (zokS_cons.mp hS).1
  refine lv_tableIn hx hb hd (by rw [zti hxx]; omega) (by rw [zti hxx]; omega) (by rw [zti hxx]; exact ho) ht ?_
  exact k hM hL (zokS_cons.mp hS).2 H locs lsA hP hS0 hl
theorem z_tabOut (hG : zGood X l g own cc h nL) {dflt lo hi : Int} {offs : Array Int} {len : Nat} {x : Int} {tgt : Nat} (hd : decode cc pc = .ok (.tableswitch dflt lo hi offs, len)) (h1 : x < lo ∨ hi < x) (ht : (pc : Int) + dflt = (tgt : Int)) (k : zZ X tgt ls st mem) : zZ X pc ls (zi x :: st) mem := by
  obtain ⟨p, l, e, R, s, m, args, below, meth, c, Q, g⟩ := X
  obtain ⟨hx, hb, hml, hown, hts, hK, hN, hg, hR1, hR2, hlk, hl2, hg2⟩ := hG
  subst hl2 hg2
  intro hM hL hS H locs lsA hP hS0 hl
  have hxx : zin x := (zokS_cons.mp hS).1
  refine lv_tableOut hx hb hd (by rw [zti hxx]; exact h1) ht ?_
  exact k hM hL (zokS_cons.mp hS).2 H locs lsA hP hS0 hl
theorem z_lookup (hG : zGood X l g own cc h nL) {dflt : Int} {ps : Array (Int × Int)} {len : Nat} {x off : Int} {tgt : Nat} (hd : decode cc pc = .ok (.lookupswitch dflt ps, len)) (hp : (ps.toList.zip (ps.toList.drop 1)).all (fun (a, next) => a.1 < next.1) = true) (ho : Op.lookupswitch.offset ps.toList dflt x = off) (ht : (pc : Int) + off = (tgt : Int)) (k : zZ X tgt ls st mem) : zZ X pc ls (zi x :: st) mem := by
  obtain ⟨p, l, e, R, s, m, args, below, meth, c, Q, g⟩ := X
  obtain ⟨hx, hb, hml, hown, hts, hK, hN, hg, hR1, hR2, hlk, hl2, hg2⟩ := hG
  subst hl2 hg2
  intro hM hL hS H locs lsA hP hS0 hl
  have hxx : zin x := (zokS_cons.mp hS).1
  refine lv_lookup hx hb hd hp (by rw [zti hxx]; exact ho) ht ?_
  exact k hM hL (zokS_cons.mp hS).2 H locs lsA hP hS0 hl
end ZROWS
end
section
/-! LINKS: what the tables say of a place in a class's constant pool -/
/-- own's place i names the field k of class ci -/
def zFL (own : String) (i ci k : Nat) : Prop := ∃ (C : String) (T : u_T) (N : Nat), vwCl[ci]? = some (C, T, N) ∧ zNF ci = N ∧ k < N ∧ (T k).1 = C ∧ Cond.fieldLink own i C (T k).2.1 (T k).2.2.1 ∈ zW ∧ ∀ w ∈ u_ws C T N, w ∈ zW
/-- a field that isn't final, of a type -/
def zFP (own : String) (i ci k : Nat) (ty : FieldType) : Prop := ∃ (C : String) (T : u_T) (N : Nat) (ty0 : Nat → FieldType), vwCl[ci]? = some (C, T, N) ∧ zNF ci = N ∧ k < N ∧ (T k).1 = C ∧ Cond.fieldLink own i C (T k).2.1 (T k).2.2.1 ∈ zW ∧ (∀ w ∈ u_ws C T N, w ∈ zW) ∧
  (∀ k, k < N → parseFieldDescriptor (T k).2.2.1 = some (ty0 k)) ∧ (∀ a, a < N → ∀ b, b < N → a ≠ b → (T a).2.1 ≠ (T b).2.1) ∧ (T k).2.2.2 = false ∧ ty0 k = ty
/-- own's place i names the method y, of class ci, with n arguments -/
def zLV (own : String) (i : Nat) (y : zY) (ci n : Nat) : Prop := (∃ (C : String) (T : u_T) (N : Nat), vwCl[ci]? = some (C, T, N) ∧ y.1.cls = C ∧ Cond.selects C y.1 y.1 ∈ zW) ∧ Cond.methodLink own i y.1 ∈ zW ∧ Cond.instanceMethod y.1 ∈ zW ∧ Cond.initialized y.1.cls ∈ zW ∧ Cond.code y.1 y.2.1 y.2.2.1 y.2.2.2.1 ∈ zW ∧
  (y.1.cls ≠ "java/lang/invoke/MethodHandle" ∧ y.1.cls ≠ "java/lang/invoke/VarHandle" ∧ (parseMethodDescriptor y.1.desc).map (fun d => d.parameters.length) = some n) ∧ y.2.2.1 ≤ 19
def zLS (own : String) (i : Nat) (y : zY) (n : Nat) : Prop := Cond.methodLink own i y.1 ∈ zW ∧ Cond.static y.1 ∈ zW ∧ Cond.initialized y.1.cls ∈ zW ∧ Cond.code y.1 y.2.1 y.2.2.1 y.2.2.2.1 ∈ zW ∧
  (y.1.cls ≠ "java/lang/invoke/MethodHandle" ∧ y.1.cls ≠ "java/lang/invoke/VarHandle" ∧ (parseMethodDescriptor y.1.desc).map (fun d => d.parameters.length) = some n) ∧ y.2.2.1 ≤ 19
def zLN (own : String) (i : Nat) (y : zY) (n : Nat) : Prop := (∃ host, Cond.methodLinkNest own i y.1 host ∈ zNW) ∧ Cond.static y.1 ∈ zW ∧ Cond.initialized y.1.cls ∈ zW ∧ Cond.code y.1 y.2.1 y.2.2.1 y.2.2.2.1 ∈ zW ∧
  (y.1.cls ≠ "java/lang/invoke/MethodHandle" ∧ y.1.cls ≠ "java/lang/invoke/VarHandle" ∧ (parseMethodDescriptor y.1.desc).map (fun d => d.parameters.length) = some n) ∧ y.2.2.1 ≤ 19
theorem zent_obj {g : zG} {mem : zM} {t ci : Nat} {s i : Int} (ht : zTO t = some ci) : zent g mem (t, s, i) = .inr (ci, (List.range (zNF ci)).map fun k => zfv g mem t s i ci k) := by
  simp only [zent, ht]
theorem zent_arr {g : zG} {mem : zM} {t : Nat} {q : Nat × Nat} {s i : Int} (ht : zTO t = none) (ha : zTA t = some q) (hr : zTR q.1 = false) : zent g mem (t, s, i) = .inl (g.2.2 q.1, q.2, .inl (fun j => Int32.ofInt (mem t s i j))) := by
  simp [zent, ht, ha, hr]
theorem zent_rarr {g : zG} {mem : zM} {t : Nat} {q : Nat × Nat} {s i : Int} (ht : zTO t = none) (ha : zTA t = some q) (hr : zTR q.1 = true) : zent g mem (t, s, i) = .inl (g.2.2 q.1, q.2, .inr (.inr (.inr (.inr (fun j => if j < q.2 then some (g.2.1 (zAref t s i j)) else none))))) := by
  simp [zent, ht, ha, hr]
theorem zfs_get {g : zG} {mem : zM} {t ci k : Nat} {s i : Int} (hk : k < zNF ci) : ((List.range (zNF ci)).map fun k => zfv g mem t s i ci k)[k]? = some (zfv g mem t s i ci k) := by
  simp [hk]
theorem zfs_set {g : zG} {mem : zM} {t ci k : Nat} {s i v : Int} (hf : zFR ci k = false) : ((List.range (zNF ci)).map fun k => zfv g mem t s i ci k).set k (.int (Int32.ofInt v)) = (List.range (zNF ci)).map fun j => zfv g (zset mem t s i k v) t s i ci j := by
  apply List.ext_getElem?
  intro j
  by_cases hj : j = k
  · subst hj
    by_cases hl : j < zNF ci
    · rw [List.getElem?_set_self (by simpa using hl)]
      simp [hl, zfv, hf, zset]
    · rw [List.getElem?_eq_none (by simp; omega), List.getElem?_eq_none (by simp; omega)]
  · rw [List.getElem?_set_ne (Ne.symm hj)]
    by_cases hl : j < zNF ci
    · have : ¬ ((j : Int) = (k : Int)) := by omega
      simp [hl, zfv, zset, this]
    · rw [List.getElem?_eq_none (by simp; omega), List.getElem?_eq_none (by simp; omega)]
theorem zTYS_at {g : zG} {k : Nat} (h : k < 8) : (zTYS g)[k]? = some (g.2.2 k, zTY.getD k .int) := by
  simp [zTYS, h]
theorem zvp {j : Int} {n : Nat} (hz : zin j) (h0 : 0 ≤ j) (h1 : j < n) : vp_in (Int32.ofInt j) n := by
  rw [vp_in_iff, zti hz]
  exact ⟨h0, h1⟩
section ZHEAP
variable {X : zX} {l : Launch} {g : zG} {own : String} {cc : ByteArray} {h nL pc : Nat} {ls : zL} {st : List zV} {mem : zM}
theorem z_getI (hG : zGood X l g own cc h nL) {i ci k t : Nat} {s i' kk : Int} (hd : decode cc pc = .ok (.getfield i, 3)) (hw : zFL own i ci k) (ht : zTO t = some ci) (hf : zFR ci k = false) (hkk : (k : Int) = kk) (K : zZ X (pc + 3) ls (zi (mem t s i' kk) :: st) mem) : zZ X pc ls (zr t s i' :: st) mem := by
  subst hkk
  obtain ⟨p, l, e, R, s2, m, args, below, meth, c, Q, g⟩ := X
  obtain ⟨hx, hb, hml, hown, hts, hK, hN, hg, hR1, hR2, hlk, hl2, hg2⟩ := hG
  subst hl2 hg2
  intro hM hL hS H locs lsA hP hS0 hl
  obtain ⟨C, T, N, hc, hnf, hkN, hC, hlw, hin⟩ := hw
  have ho : (t, s, i') ∈ zOs := (zokS_cons.mp hS).1
  obtain ⟨q0, hq, he⟩ := zplace ho g mem
  rw [zent_obj ht] at he
  refine va_get (D := g.1) (Ts := zW) hx hb hts hin hown hK hP q0 he hc k hkN (hts _ hlw) (by rw [hC]; exact fun _ z => z) (zfs_get (by omega)) hd ?_
  have e : zfv g mem t s i' ci k = .int (Int32.ofInt (mem t s i' k)) := by simp [zfv, hf]
  rw [e]
  exact K hM hL (zokS_cons.mpr ⟨hM _ _ _ _, (zokS_cons.mp hS).2⟩) H locs lsA hP hS0 hl
theorem z_getR (hG : zGood X l g own cc h nL) {i ci k t : Nat} {s i' : Int} {o : zO} (hd : decode cc pc = .ok (.getfield i, 3)) (hw : zFL own i ci k) (ht : zTO t = some ci) (hf : zFR ci k = true) (ho2 : zFref t s i' k = o) (hok : (t, s, i') ∈ zOs → o ∈ zOs) (K : zZ X (pc + 3) ls (.inr (.inr o) :: st) mem) : zZ X pc ls (zr t s i' :: st) mem := by
  subst ho2
  obtain ⟨p, l, e, R, s2, m, args, below, meth, c, Q, g⟩ := X
  obtain ⟨hx, hb, hml, hown, hts, hK, hN, hg, hR1, hR2, hlk, hl2, hg2⟩ := hG
  subst hl2 hg2
  intro hM hL hS H locs lsA hP hS0 hl
  obtain ⟨C, T, N, hc, hnf, hkN, hC, hlw, hin⟩ := hw
  have ho : (t, s, i') ∈ zOs := (zokS_cons.mp hS).1
  obtain ⟨q0, hq, he⟩ := zplace ho g mem
  rw [zent_obj ht] at he
  refine va_get (D := g.1) (Ts := zW) hx hb hts hin hown hK hP q0 he hc k hkN (hts _ hlw) (by rw [hC]; exact fun _ z => z) (zfs_get (by omega)) hd ?_
  have e : zfv g mem t s i' ci k = .ref (g.2.1 (zFref t s i' k)) := by simp [zfv, hf]
  rw [e]
  exact K hM hL (zokS_cons.mpr ⟨hok ho, (zokS_cons.mp hS).2⟩) H locs lsA hP hS0 hl
theorem z_putI (hG : zGood X l g own cc h nL) {i ci k t : Nat} {ty : FieldType} {s i' kk v : Int} (hd : decode cc pc = .ok (.putfield i, 3)) (hw : zFP own i ci k ty) (ht : zTO t = some ci) (hf : zFR ci k = false) (hkk : (k : Int) = kk) (hn : narrow ty (.int (Int32.ofInt v)) = .int (Int32.ofInt v)) (hfit : fits ty (.int (Int32.ofInt v)) = true) (K : zZ X (pc + 3) ls st (zset mem t s i' kk v)) : zZ X pc ls (zi v :: zr t s i' :: st) mem := by
  subst hkk
  obtain ⟨p, l, e, R, s2, m, args, below, meth, c, Q, g⟩ := X
  obtain ⟨hx, hb, hml, hown, hts, hK, hN, hg, hR1, hR2, hlk, hl2, hg2⟩ := hG
  subst hl2 hg2
  intro hM hL hS H locs lsA hP hS0 hl
  obtain ⟨C, T, N, ty0, hc, hnf, hkN, hC, hlw, hin, hty, hnm, hfin, hty2⟩ := hw
  have hv : zin v := (zokS_cons.mp hS).1
  have hS2 := (zokS_cons.mp hS).2
  have ho : (t, s, i') ∈ zOs := (zokS_cons.mp hS2).1
  obtain ⟨q0, hq, he⟩ := zplace ho g mem
  rw [zent_obj ht] at he
  refine va_put (D := g.1) (Ts := zW) hx hb hts hin ty0 hty hnm hown hK hP (zDw hg mem) hS0 q0 he hc k hkN (hts _ hlw) (by rw [hC]; exact fun _ z => z) hfin (ty := ty) (by rw [hty k hkN, hty2]) hn hfit (by simp; omega) hd fun H1 locs1 hP1 _ hS1 => ?_
  rw [show zup g (zi v) = Value.int (Int32.ofInt v) from rfl, zfs_set hf, zWS_set hq (mem' := zset mem t s i' k v) (zent_obj ht) (fun o' h' => zent_ne h')] at hP1
  exact K (zokM_set hM hv _ _ _ _) hL (zokS_cons.mp hS2).2 H1 locs1 lsA hP1 hS1 hl
theorem z_put (hG : zGood X l g own cc h nL) {i ci k t : Nat} {s i' kk v : Int} (hd : decode cc pc = .ok (.putfield i, 3)) (hw : zFP own i ci k .int) (ht : zTO t = some ci) (hf : zFR ci k = false) (hkk : (k : Int) = kk) (K : zZ X (pc + 3) ls st (zset mem t s i' kk v)) : zZ X pc ls (zi v :: zr t s i' :: st) mem :=
  z_putI hG hd hw ht hf hkk rfl rfl K
theorem z_putB (hG : zGood X l g own cc h nL) {i ci k t : Nat} {s i' kk v : Int} (hd : decode cc pc = .ok (.putfield i, 3)) (hw : zFP own i ci k .boolean) (ht : zTO t = some ci) (hf : zFR ci k = false) (hkk : (k : Int) = kk) (hv : v = 0 ∨ v = 1) (K : zZ X (pc + 3) ls st (zset mem t s i' kk v)) : zZ X pc ls (zi v :: zr t s i' :: st) mem := by
  rcases hv with rfl | rfl
  · exact z_putI hG hd hw ht hf hkk rfl rfl K
  · exact z_putI hG hd hw ht hf hkk rfl rfl K
theorem z_alen (hG : zGood X l g own cc h nL) {t : Nat} {q : Nat × Nat} {s i' n : Int} (hd : decode cc pc = .ok (.arraylength, 1)) (ht : zTO t = none) (ha : zTA t = some q) (hq8 : q.1 < 8) (hn : (q.2 : Int) = n) (hz : zb32 n = true) (K : zZ X (pc + 1) ls (zi n :: st) mem) : zZ X pc ls (zr t s i' :: st) mem := by
  obtain ⟨p, l, e, R, s2, m, args, below, meth, c, Q, g⟩ := X
  obtain ⟨hx, hb, hml, hown, hts, hK, hN, hg, hR1, hR2, hlk, hl2, hg2⟩ := hG
  subst hl2 hg2
  intro hM hL hS H locs lsA hP hS0 hl
  have ho : (t, s, i') ∈ zOs := (zokS_cons.mp hS).1
  obtain ⟨q0, hq, he⟩ := zplace ho g mem
  have e1 : Int32.ofNat q.2 = Int32.ofInt n := by rw [← hn]; exact (Int32.ofInt_eq_ofNat).symm
  have key : ∃ x, zent g mem (t, s, i') = .inl (g.2.2 q.1, q.2, x) := by
    cases hr : zTR q.1 with
    | false => exact ⟨_, zent_arr ht ha hr⟩
    | true => exact ⟨_, zent_rarr ht ha hr⟩
  obtain ⟨x, hxx⟩ := key
  rw [hxx] at he
  refine va_alen (D := g.1) hx hb hK hP q0 q.1 he (zTYS_at hq8) (v := Int32.ofInt n) e1 hd ?_
  exact K hM hL (zokS_cons.mpr ⟨zb32_in hz, (zokS_cons.mp hS).2⟩) H locs lsA hP hS0 hl
theorem z_iald (hG : zGood X l g own cc h nL) {t n : Nat} {s i' j : Int} (hd : decode cc pc = .ok (.iaload, 1)) (ht : zTO t = none) (ha : zTA t = some (0, n)) (h0 : 0 ≤ j) (h1 : j < n) (K : zZ X (pc + 1) ls (zi (mem t s i' j) :: st) mem) : zZ X pc ls (zi j :: zr t s i' :: st) mem := by
  obtain ⟨p, l, e, R, s2, m, args, below, meth, c, Q, g⟩ := X
  obtain ⟨hx, hb, hml, hown, hts, hK, hN, hg, hR1, hR2, hlk, hl2, hg2⟩ := hG
  subst hl2 hg2
  intro hM hL hS H locs lsA hP hS0 hl
  have hz : zin j := (zokS_cons.mp hS).1
  have hS2 := (zokS_cons.mp hS).2
  have ho : (t, s, i') ∈ zOs := (zokS_cons.mp hS2).1
  obtain ⟨q0, hq, he⟩ := zplace ho g mem
  rw [zent_arr ht ha rfl] at he
  refine va_iald (D := g.1) hx hb hK hP q0 0 he (zTYS_at (by decide)) (zvp hz h0 h1) hd ?_
  rw [zcl hz, Int.toNat_of_nonneg h0]
  exact K hM hL (zokS_cons.mpr ⟨hM _ _ _ _, (zokS_cons.mp hS2).2⟩) H locs lsA hP hS0 hl
theorem z_zald (hG : zGood X l g own cc h nL) {t n : Nat} {s i' j : Int} (hd : decode cc pc = .ok (.baload, 1)) (ht : zTO t = none) (ha : zTA t = some (1, n)) (h0 : 0 ≤ j) (h1 : j < n) (K : zZ X (pc + 1) ls (zi (mem t s i' j) :: st) mem) : zZ X pc ls (zi j :: zr t s i' :: st) mem := by
  obtain ⟨p, l, e, R, s2, m, args, below, meth, c, Q, g⟩ := X
  obtain ⟨hx, hb, hml, hown, hts, hK, hN, hg, hR1, hR2, hlk, hl2, hg2⟩ := hG
  subst hl2 hg2
  intro hM hL hS H locs lsA hP hS0 hl
  have hz : zin j := (zokS_cons.mp hS).1
  have hS2 := (zokS_cons.mp hS).2
  have ho : (t, s, i') ∈ zOs := (zokS_cons.mp hS2).1
  obtain ⟨q0, hq, he⟩ := zplace ho g mem
  rw [zent_arr ht ha rfl] at he
  refine va_zald (D := g.1) hx hb hK hP q0 1 he (zTYS_at (by decide)) (zvp hz h0 h1) hd ?_
  rw [zcl hz, Int.toNat_of_nonneg h0]
  exact K hM hL (zokS_cons.mpr ⟨hM _ _ _ _, (zokS_cons.mp hS2).2⟩) H locs lsA hP hS0 hl
theorem z_cald (hG : zGood X l g own cc h nL) {t n : Nat} {s i' j : Int} (hd : decode cc pc = .ok (.caload, 1)) (ht : zTO t = none) (ha : zTA t = some (2, n)) (h0 : 0 ≤ j) (h1 : j < n) (K : zZ X (pc + 1) ls (zi (mem t s i' j) :: st) mem) : zZ X pc ls (zi j :: zr t s i' :: st) mem := by
  obtain ⟨p, l, e, R, s2, m, args, below, meth, c, Q, g⟩ := X
  obtain ⟨hx, hb, hml, hown, hts, hK, hN, hg, hR1, hR2, hlk, hl2, hg2⟩ := hG
  subst hl2 hg2
  intro hM hL hS H locs lsA hP hS0 hl
  have hz : zin j := (zokS_cons.mp hS).1
  have hS2 := (zokS_cons.mp hS).2
  have ho : (t, s, i') ∈ zOs := (zokS_cons.mp hS2).1
  obtain ⟨q0, hq, he⟩ := zplace ho g mem
  rw [zent_arr ht ha rfl] at he
  refine va_cald (D := g.1) hx hb hK hP q0 2 he (zTYS_at (by decide)) (zvp hz h0 h1) hd ?_
  rw [zcl hz, Int.toNat_of_nonneg h0]
  exact K hM hL (zokS_cons.mpr ⟨hM _ _ _ _, (zokS_cons.mp hS2).2⟩) H locs lsA hP hS0 hl
theorem z_aald (hG : zGood X l g own cc h nL) {t : Nat} {q : Nat × Nat} {s i' j : Int} {o : zO} (hd : decode cc pc = .ok (.aaload, 1)) (ht : zTO t = none) (ha : zTA t = some q) (hr : zTR q.1 = true) (hq8 : q.1 < 8) (hrt : (zTY.getD q.1 .int).isReference = true) (h0 : 0 ≤ j) (h1 : j < q.2) (ho2 : zAref t s i' j = o) (hok : (t, s, i') ∈ zOs → o ∈ zOs) (K : zZ X (pc + 1) ls (.inr (.inr o) :: st) mem) : zZ X pc ls (zi j :: zr t s i' :: st) mem := by
  subst ho2
  obtain ⟨p, l, e, R, s2, m, args, below, meth, c, Q, g⟩ := X
  obtain ⟨hx, hb, hml, hown, hts, hK, hN, hg, hR1, hR2, hlk, hl2, hg2⟩ := hG
  subst hl2 hg2
  intro hM hL hS H locs lsA hP hS0 hl
  have hz : zin j := (zokS_cons.mp hS).1
  have hS2 := (zokS_cons.mp hS).2
  have ho : (t, s, i') ∈ zOs := (zokS_cons.mp hS2).1
  obtain ⟨q0, hq, he⟩ := zplace ho g mem
  rw [zent_rarr ht ha hr] at he
  have hin := zvp hz h0 h1
  have hlt : (Int32.ofInt j).toNatClampNeg < q.2 := by rw [zcl hz]; omega
  have hcell := hP q0 _ he
  refine W.aald (v := .ref (g.2.1 (zAref t s i' j))) (ty := zTY.getD q.1 .int) hx hb hcell ((hK.2 q.1 _ (zTYS_at hq8)).1 q.2 (fun j => va_rf (if j < q.2 then some (g.2.1 (zAref t s i' j)) else none))) hrt (fun q => by cases q) (by show ¬ (_ < 0 ∨ (arrV _ _ _).slots.size ≤ _); rw [arrV_size]; exact hin) ?_ rfl rfl hd ?_
  · show (arrV _ _ _).slots[_]? = _
    rw [arrV_read _ _ hlt]
    show some (va_rf (if (Int32.ofInt j).toNatClampNeg < q.2 then some (g.2.1 (zAref t s i' ((Int32.ofInt j).toNatClampNeg : Nat))) else none)) = _
    rw [if_pos hlt, zcl hz, Int.toNat_of_nonneg h0]
    rfl
  · exact K hM hL (zokS_cons.mpr ⟨hok ho, (zokS_cons.mp hS2).2⟩) H locs lsA hP hS0 hl
/-- an array's contents with one place written -/
theorem zent_upd {g : zG} {mem : zM} {t : Nat} {q : Nat × Nat} {s i' j v : Int} (h0 : 0 ≤ j) (ht : zTO t = none) (ha : zTA t = some q) (hr : zTR q.1 = false) : zent g (zset mem t s i' j v) (t, s, i') = .inl (g.2.2 q.1, q.2, .inl (upd (fun j => Int32.ofInt (mem t s i' j)) j.toNat (Int32.ofInt v))) := by
  rw [zent_arr ht ha hr]
  congr 3
  congr 1
  funext k
  by_cases hk : k = j.toNat
  · subst hk
    simp [upd, zset, Int.toNat_of_nonneg h0]
  · have : ¬ ((k : Int) = j) := by omega
    simp [upd, hk, zset, this]
theorem z_iast (hG : zGood X l g own cc h nL) {t n : Nat} {s i' j v : Int} (hd : decode cc pc = .ok (.iastore, 1)) (ht : zTO t = none) (ha : zTA t = some (0, n)) (h0 : 0 ≤ j) (h1 : j < n) (K : zZ X (pc + 1) ls st (zset mem t s i' j v)) : zZ X pc ls (zi v :: zi j :: zr t s i' :: st) mem := by
  obtain ⟨p, l, e, R, s2, m, args, below, meth, c, Q, g⟩ := X
  obtain ⟨hx, hb, hml, hown, hts, hK, hN, hg, hR1, hR2, hlk, hl2, hg2⟩ := hG
  subst hl2 hg2
  intro hM hL hS H locs lsA hP hS0 hl
  have hv : zin v := (zokS_cons.mp hS).1
  have hz : zin j := (zokS_cons.mp (zokS_cons.mp hS).2).1
  have hS2 := (zokS_cons.mp (zokS_cons.mp hS).2).2
  have ho : (t, s, i') ∈ zOs := (zokS_cons.mp hS2).1
  obtain ⟨q0, hq, he⟩ := zplace ho g mem
  rw [zent_arr ht ha rfl] at he
  refine va_iast (D := g.1) hx hb hK hP (zDw hg mem) hS0 q0 0 he (zTYS_at (by decide)) (zvp hz h0 h1) hd fun H1 locs1 hP1 _ hS1 => ?_
  rw [zcl hz, zWS_set hq (mem' := zset mem t s i' j v) (zent_upd h0 ht ha rfl) (fun o' h' => zent_ne h')] at hP1
  exact K (zokM_set hM hv _ _ _ _) hL (zokS_cons.mp hS2).2 H1 locs1 lsA hP1 hS1 hl
theorem z_zast (hG : zGood X l g own cc h nL) {t n : Nat} {s i' j v : Int} (hd : decode cc pc = .ok (.bastore, 1)) (ht : zTO t = none) (ha : zTA t = some (1, n)) (h0 : 0 ≤ j) (h1 : j < n) (hv2 : v = 0 ∨ v = 1) (K : zZ X (pc + 1) ls st (zset mem t s i' j v)) : zZ X pc ls (zi v :: zi j :: zr t s i' :: st) mem := by
  obtain ⟨p, l, e, R, s2, m, args, below, meth, c, Q, g⟩ := X
  obtain ⟨hx, hb, hml, hown, hts, hK, hN, hg, hR1, hR2, hlk, hl2, hg2⟩ := hG
  subst hl2 hg2
  intro hM hL hS H locs lsA hP hS0 hl
  have hv : zin v := (zokS_cons.mp hS).1
  have hz : zin j := (zokS_cons.mp (zokS_cons.mp hS).2).1
  have hS2 := (zokS_cons.mp (zokS_cons.mp hS).2).2
  have ho : (t, s, i') ∈ zOs := (zokS_cons.mp hS2).1
  obtain ⟨q0, hq, he⟩ := zplace ho g mem
  rw [zent_arr ht ha rfl] at he
  refine va_zast (D := g.1) hx hb hK hP (zDw hg mem) hS0 q0 1 he (zTYS_at (by decide)) (zvp hz h0 h1) hd fun H1 locs1 hP1 _ hS1 => ?_
  have e : vp_nar .boolean (Int32.ofInt v) = Int32.ofInt v := by rcases hv2 with rfl | rfl <;> rfl
  rw [e, zcl hz, zWS_set hq (mem' := zset mem t s i' j v) (zent_upd h0 ht ha rfl) (fun o' h' => zent_ne h')] at hP1
  exact K (zokM_set hM hv _ _ _ _) hL (zokS_cons.mp hS2).2 H1 locs1 lsA hP1 hS1 hl
theorem z_cast (hG : zGood X l g own cc h nL) {t n : Nat} {s i' j v : Int} (hd : decode cc pc = .ok (.castore, 1)) (ht : zTO t = none) (ha : zTA t = some (2, n)) (h0 : 0 ≤ j) (h1 : j < n) (hv0 : 0 ≤ v) (hv1 : v < 65536) (K : zZ X (pc + 1) ls st (zset mem t s i' j v)) : zZ X pc ls (zi v :: zi j :: zr t s i' :: st) mem := by
  obtain ⟨p, l, e, R, s2, m, args, below, meth, c, Q, g⟩ := X
  obtain ⟨hx, hb, hml, hown, hts, hK, hN, hg, hR1, hR2, hlk, hl2, hg2⟩ := hG
  subst hl2 hg2
  intro hM hL hS H locs lsA hP hS0 hl
  have hv : zin v := (zokS_cons.mp hS).1
  have hz : zin j := (zokS_cons.mp (zokS_cons.mp hS).2).1
  have hS2 := (zokS_cons.mp (zokS_cons.mp hS).2).2
  have ho : (t, s, i') ∈ zOs := (zokS_cons.mp hS2).1
  obtain ⟨q0, hq, he⟩ := zplace ho g mem
  rw [zent_arr ht ha rfl] at he
  refine va_cast (D := g.1) hx hb hK hP (zDw hg mem) hS0 q0 2 he (zTYS_at (by decide)) (zvp hz h0 h1) hd fun H1 locs1 hP1 _ hS1 => ?_
  have e : vp_nar .char (Int32.ofInt v) = Int32.ofInt v := by
    rw [vp_nar_char]
    obtain ⟨n2, rfl⟩ := Int.eq_ofNat_of_zero_le hv0
    have h2 := (pk_charN (q := n2) (by omega)).1
    have h3 : vp_nar .char (nI n2) = nI n2 := by unfold vp_nar; rw [h2]
    rw [vp_nar_char] at h3
    exact h3
  rw [e, zcl hz, zWS_set hq (mem' := zset mem t s i' j v) (zent_upd h0 ht ha rfl) (fun o' h' => zent_ne h')] at hP1
  exact K (zokM_set hM hv _ _ _ _) hL (zokS_cons.mp hS2).2 H1 locs1 lsA hP1 hS1 hl
end ZHEAP
end
section
theorem zPW_blind {g : zG} {mem : zM} {av : List Value} : FrameBlind (va_Pc av (fun U => zPW g mem U)) := by
  intro a U gg mk q
  obtain ⟨q0, q1, q2, q3⟩ := q
  exact ⟨q0, q1, va_K.moved (u := U) (U := U.calling gg mk a) (Vm.Alike.refl U.vm) q2, fun w hw => by
    have h1 := q3 w hw
    obtain ⟨r, -, rfl⟩ := List.mem_map.mp hw
    exact va_Nw.same rfl rfl h1⟩
theorem zPW_of {g : zG} {mem : zM} {s U : State} {H : Heap} (hP : va_P g.1 vwCl (zWS g mem) H) (hK : va_K g.1 vwCl (zTYS g) s) (hN : ∀ w ∈ zNW, va_Nw w s) (hU : U.heap = H) (hW : s.WarmedH U.vm) : zPW g mem U :=
  ⟨by rw [hU]; exact hP, va_K.moved hW.alike hK, fun w hw => by
    have h1 := hN w hw
    obtain ⟨r, -, rfl⟩ := List.mem_map.mp hw
    exact va_Nw.warmM hW h1⟩
theorem zYw_good {y : zY} {Ts : List Cond} (hT : ∀ w ∈ zW, w ∈ Ts) (hc : Cond.code y.1 y.2.1 y.2.2.1 y.2.2.2.1 ∈ zW) : GoodIn Ts (zYw y) := by
  refine goodIn_sub (fun w hw => ?_) (List.all_eq_true.mpr fun w hw => ?_)
  · rcases List.mem_cons.mp hw with rfl | h
    · exact hT _ hc
    · exact hT w h
  · rcases List.mem_cons.mp hw with rfl | h
    · rfl
    · exact List.all_eq_true.mp zW_good w h
def zcat (st : List zV) : Nat := (st.map fun v => match v with | .inr (.inl _) => 2 | _ => 1).sum
theorem zcat_up {g : zG} : ∀ st : List zV, ((st.map (zup g)).map fun v => v.category).sum = zcat st
  | [] => rfl
  | v :: r => by
    have ih := zcat_up (g := g) r
    rcases v with x | x | x <;> simp [zcat, zup, Value.category] at ih ⊢ <;> omega
section ZCALL
variable {X : zX} {l : Launch} {g : zG} {own : String} {cc : ByteArray} {h nL pc : Nat} {ls : zL} {st : List zV} {mem : zM}
/-- behind a call -/
theorem z_back {p : Program} {l : Launch} {e : Env} {R : Room} {s : State} {m : MethodId} {args : Array Value} {below : List Frame} {meth : Method} {c : Code} {Q : State → Prop} {g : zG} {H : Heap} {locs : List Loc} {lsA : Array Slot} {st0 : List Value} {ls : zL} {st : List zV} {pc : Nat} {a : Array Value} {Rt : Option zV → zM → Prop}
    (hr : va_Run p l e R s m args below meth c H locs 0 0 0 0 (F0 m pc lsA st0) (st.map (zup g)) (zQc g Rt a) (zA g)) (hS0 : va_S (zA g) s.heap H locs) (hL : zokL ls) (hS : zokS st) (hl : zlr g c.maxLocals ls lsA)
    (K : ∀ v m', Rt v m' → zZ (p, l, e, R, s, m, args, below, meth, c, Q, g) (pc + 3) ls (v.toList ++ st) m') : W p l e R s m args below meth c H locs 0 0 Q (F0 m pc lsA st0) := by
  intro T hT X
  obtain ⟨v, st₀, t, T', L, h0, X', hL1, e1, e2, ⟨⟨v2, m', hv, hR, hPW, hM', hv2⟩, hz, hk⟩, stp⟩ := hr T hT X
  have hv : v = v2.map (zup g) := Outcome.returned.inj hv
  subst hv
  rw [h0] at hz hk
  have hSt : zokS (v2.toList ++ st) := by
    cases v2 with
    | none => exact hS
    | some w => exact zokS_cons.mpr ⟨hv2, hS⟩
  have hP1 : va_P g.1 vwCl (zWS g m') T'.heap := by rw [e1]; exact hPW.1
  have hS1 : va_S (zA g) s.heap T'.heap (locs ++ L) := ⟨Nat.le_trans hS0.1 (by rw [e1]; exact hz), fun q h1 h2 => by rw [e1, hk q (Nat.lt_of_lt_of_le h1 hS0.1) h2]; exact hS0.2.1 q h1 h2, fun q hq => by
      rcases List.mem_append.mp hq with h | h
      · exact hS0.2.2 q h
      · exact hL1 q h⟩
  obtain ⟨t2, a1, b1⟩ := K v2 m' hR hM' hL hSt T'.heap (locs ++ L) lsA hP1 hS1 hl T' rfl X'
  refine ⟨t2, stp t2 ?_, b1⟩
  have e3 : (v2.toList ++ st).map (zup g) = (v2.map (zup g)).toList ++ st.map (zup g) := by cases v2 <;> rfl
  rw [e3] at a1
  exact a1
theorem z_callV (hG : zGood X l g own cc h nL) {i ci n t : Nat} {y : zY} {av : List zV} {s0 i0 : Int} {stk : List zV} {Rt : Option zV → zM → Prop} (hd : decode cc pc = .ok (.invokevirtual i, 3)) (hw : zLV own i y ci n) (hM2 : zMet l g y (zr t s0 i0 :: av) mem Rt) (hh : y.2.2.2.2 + 1 ≤ h) (ht : zTO t = some ci) (hn : av.length = n) (hst : stk = av.reverse ++ zr t s0 i0 :: st) (hc : zcat st ≤ 8) (K : ∀ v m', Rt v m' → zZ X (pc + 3) ls (v.toList ++ st) m') : zZ X pc ls stk mem := by
  subst hst
  obtain ⟨p, l, e, R, s, m, args, below, meth, c, Q, g⟩ := X
  obtain ⟨hx, hb, hml, hown, hts, hK, hN, hg, hR1, hR2, hlk, hl2, hg2⟩ := hG
  subst hl2 hg2
  intro hM hL hS H locs lsA hP hS0 hl
  obtain ⟨⟨C, T, N, hcl, hC, hsel⟩, hlink, hinst, hini, hcode, hd3, hmL⟩ := hw
  have hSav : zokS (zr t s0 i0 :: av) := fun v hv => hS v (by
    rcases List.mem_cons.mp hv with rfl | h
    · simp
    · simp [h])
  have hSr : zokS st := fun v hv => hS v (by simp [hv])
  have ho : (t, s0, i0) ∈ zOs := (zokS_cons.mp hSav).1
  obtain ⟨q0, hq, he⟩ := zplace ho g mem
  rw [zent_obj ht] at he
  have hMet := hM2 hg hM hSav
  have cb : CallB R s args own i y.1 y.2.1 y.2.2.1 y.2.2.2.1 (zYw y) (zRoom y.2.2.2.2) 0 0 n := callB_of n hts (zYw_good (fun _ z => z) hcode) rfl rfl rfl (hts _ hini) (hts _ hlink) hd3 ⟨by show y.2.2.2.2 + 1 ≤ _; omega, by show 8 + (y.2.2.1 + 11) + 38 * y.2.2.2.2 ≤ _; omega⟩
  refine z_back (st0 := ((av.reverse ++ zr t s0 i0 :: st).map (zup g))) (va_runV (C := C) (As := av.map (zup g)) ⟨hx, hb, rfl, hown, hts⟩ hMet ⟨cb, hts _ hinst, hts _ hsel⟩ ⟨zPW_blind, by rw [← hC] at hcl; have := va_recv hK hP hcl he; rw [hC] at this; exact this, fun U hU hW => ⟨rfl, zPW_of hP hK hN hU hW⟩⟩ rfl (by simp [hn]) hl.1 (by simp [zup]) (lv_room (by rw [zcat_up]; exact hc)) hd ⟨Nat.zero_le _, Nat.zero_le _⟩) hS0 hL hSr hl K
theorem z_callS (hG : zGood X l g own cc h nL) {i n : Nat} {y : zY} {av : List zV} {stk : List zV} {Rt : Option zV → zM → Prop} (hd : decode cc pc = .ok (.invokestatic i, 3)) (hw : zLS own i y n) (hM2 : zMet l g y av mem Rt) (hh : y.2.2.2.2 + 1 ≤ h) (hn : av.length = n) (hst : stk = av.reverse ++ st) (hc : zcat st ≤ 8) (K : ∀ v m', Rt v m' → zZ X (pc + 3) ls (v.toList ++ st) m') : zZ X pc ls stk mem := by
  subst hst
  obtain ⟨p, l, e, R, s, m, args, below, meth, c, Q, g⟩ := X
  obtain ⟨hx, hb, hml, hown, hts, hK, hN, hg, hR1, hR2, hlk, hl2, hg2⟩ := hG
  subst hl2 hg2
  intro hM hL hS H locs lsA hP hS0 hl
  obtain ⟨hlink, hstat, hini, hcode, hd3, hmL⟩ := hw
  have hSav : zokS av := fun v hv => hS v (by simp [hv])
  have hSr : zokS st := fun v hv => hS v (by simp [hv])
  have hMet := hM2 hg hM hSav
  have cb : CallB R s args own i y.1 y.2.1 y.2.2.1 y.2.2.2.1 (zYw y) (zRoom y.2.2.2.2) 0 0 n := callB_of n hts (zYw_good (fun _ z => z) hcode) rfl rfl rfl (hts _ hini) (hts _ hlink) hd3 ⟨by show y.2.2.2.2 + 1 ≤ _; omega, by show 8 + (y.2.2.1 + 11) + 38 * y.2.2.2.2 ≤ _; omega⟩
  refine z_back (st0 := ((av.reverse ++ st).map (zup g))) (va_runS (As := av.map (zup g)) ⟨hx, hb, rfl, hown, hts⟩ hMet ⟨cb, hts _ hstat⟩ ⟨zPW_blind, fun U hU hW => ⟨rfl, zPW_of hP hK hN hU hW⟩⟩ rfl (by simp [hn]) hl.1 (by simp) (lv_room (by rw [zcat_up]; exact hc)) hd ⟨Nat.zero_le _, Nat.zero_le _⟩) hS0 hL hSr hl K
theorem z_callN (hG : zGood X l g own cc h nL) {i n : Nat} {y : zY} {av : List zV} {stk : List zV} {Rt : Option zV → zM → Prop} (hd : decode cc pc = .ok (.invokestatic i, 3)) (hw : zLN own i y n) (hM2 : zMet l g y av mem Rt) (hh : y.2.2.2.2 + 1 ≤ h) (hn : av.length = n) (hst : stk = av.reverse ++ st) (hc : zcat st ≤ 8) (K : ∀ v m', Rt v m' → zZ X (pc + 3) ls (v.toList ++ st) m') : zZ X pc ls stk mem := by
  subst hst
  obtain ⟨p, l, e, R, s, m, args, below, meth, c, Q, g⟩ := X
  obtain ⟨hx, hb, hml, hown, hts, hK, hN, hg, hR1, hR2, hlk, hl2, hg2⟩ := hG
  subst hl2 hg2
  intro hM hL hS H locs lsA hP hS0 hl
  obtain ⟨⟨host, hlink⟩, hstat, hini, hcode, hd3, hmL⟩ := hw
  have hSav : zokS av := fun v hv => hS v (by simp [hv])
  have hSr : zokS st := fun v hv => hS v (by simp [hv])
  have hMet := hM2 hg hM hSav
  have cn : va_CN R s args own i y.1 host y.2.1 y.2.2.1 y.2.2.2.1 (zYw y) (zRoom y.2.2.2.2) 0 0 n := va_cnB n hts (zYw_good (fun _ z => z) hcode) rfl rfl rfl (hN _ hlink) (hts _ hini) hd3 ⟨by show y.2.2.2.2 + 1 ≤ _; omega, by show 8 + (y.2.2.1 + 11) + 38 * y.2.2.2.2 ≤ _; omega⟩
  refine z_back (st0 := ((av.reverse ++ st).map (zup g))) (va_runSN (As := av.map (zup g)) ⟨hx, hb, rfl, hown, hts⟩ hMet ⟨cn, hts _ hstat, trivial⟩ ⟨zPW_blind, fun U hU hW => ⟨rfl, zPW_of hP hK hN hU hW⟩⟩ rfl (by simp [hn]) hl.1 (by simp) (lv_room (by rw [zcat_up]; exact hc)) hd ⟨Nat.zero_le _, Nat.zero_le _⟩) hS0 hL hSr hl K
def zLM (own : String) (i : Nat) (y : MethodName) (bytes : ByteArray) : Prop := Cond.methodLink own i y ∈ zW ∧ Cond.static y ∈ zW ∧ Cond.initialized "java/lang/Math" ∈ zW ∧ Cond.code y bytes 2 (some .int) ∈ zW
theorem z_max (hG : zGood X l g own cc h nL) {i : Nat} {x y : Int} (hd : decode cc pc = .ok (.invokestatic i, 3)) (hw : zLM own i Lib.Math.max.name Lib.Math.max.code) (hh : 1 ≤ h) (hc : zcat st ≤ 25) (K : zZ X (pc + 3) ls (zi (if x < y then y else x) :: st) mem) : zZ X pc ls (zi y :: zi x :: st) mem := by
  obtain ⟨p, l, e, R, s, m, args, below, meth, c, Q, g⟩ := X
  obtain ⟨hx, hb, hml, hown, hts, hK, hN, hg, hR1, hR2, hlk, hl2, hg2⟩ := hG
  subst hl2 hg2
  intro hM hL hS H locs lsA hP hS0 hl
  have hyy : zin y := (zokS_cons.mp hS).1
  have hxx : zin x := (zokS_cons.mp (zokS_cons.mp hS).2).1
  have hS2 := (zokS_cons.mp (zokS_cons.mp hS).2).2
  refine va_mmax hx hb hl.1.symm hown (hts _ hw.1) (hts _ hw.2.1) (hts _ hw.2.2.1) (hts _ hw.2.2.2) (by omega) (by rw [zcat_up]; omega) (Nat.zero_le _) (Nat.zero_le _) hd ?_
  have e1 : (if Int32.ofInt x < Int32.ofInt y then Int32.ofInt y else Int32.ofInt x) = Int32.ofInt (if x < y then y else x) := by
    by_cases q : x < y
    · rw [if_pos q, if_pos ((zlt hxx hyy).mpr q)]
    · rw [if_neg q, if_neg (fun z => q ((zlt hxx hyy).mp z))]
  rw [e1]
  exact K hM hL (zokS_cons.mpr ⟨by show zin _; split <;> assumption, hS2⟩) H locs lsA hP hS0 hl
theorem z_min (hG : zGood X l g own cc h nL) {i : Nat} {x y : Int} (hd : decode cc pc = .ok (.invokestatic i, 3)) (hw : zLM own i Lib.Math.min.name Lib.Math.min.code) (hh : 1 ≤ h) (hc : zcat st ≤ 25) (K : zZ X (pc + 3) ls (zi (if y < x then y else x) :: st) mem) : zZ X pc ls (zi y :: zi x :: st) mem := by
  obtain ⟨p, l, e, R, s, m, args, below, meth, c, Q, g⟩ := X
  obtain ⟨hx, hb, hml, hown, hts, hK, hN, hg, hR1, hR2, hlk, hl2, hg2⟩ := hG
  subst hl2 hg2
  intro hM hL hS H locs lsA hP hS0 hl
  have hyy : zin y := (zokS_cons.mp hS).1
  have hxx : zin x := (zokS_cons.mp (zokS_cons.mp hS).2).1
  have hS2 := (zokS_cons.mp (zokS_cons.mp hS).2).2
  refine va_mmin hx hb hl.1.symm hown (hts _ hw.1) (hts _ hw.2.1) (hts _ hw.2.2.1) (hts _ hw.2.2.2) (by omega) (by rw [zcat_up]; omega) (Nat.zero_le _) (Nat.zero_le _) hd ?_
  have e1 : (if Int32.ofInt y < Int32.ofInt x then Int32.ofInt y else Int32.ofInt x) = Int32.ofInt (if y < x then y else x) := by
    by_cases q : y < x
    · rw [if_pos q, if_pos ((zlt hyy hxx).mpr q)]
    · rw [if_neg q, if_neg (fun z => q ((zlt hyy hxx).mp z))]
  rw [e1]
  exact K hM hL (zokS_cons.mpr ⟨by show zin _; split <;> assumption, hS2⟩) H locs lsA hP hS0 hl
/-- some places of an int array are written over by another's -/
def zcpy (mem : zM) (t : Nat) (s i : Int) (t2 : Nat) (s2 i2 : Int) (sp dp n : Int) : zM := fun t' s' i' k' => if t' = t2 ∧ s' = s2 ∧ i' = i2 ∧ dp ≤ k' ∧ k' < dp + n then mem t s i (sp + (k' - dp)) else mem t' s' i' k'
theorem zcpy_ok {mem : zM} (h : zokM mem) {t : Nat} {s i : Int} {t2 : Nat} {s2 i2 : Int} {sp dp n : Int} : zokM (zcpy mem t s i t2 s2 i2 sp dp n) := by
  intro t' s' i' k'
  unfold zcpy
  split
  · exact h _ _ _ _
  · exact h _ _ _ _
def zLC (own : String) (i : Nat) : Prop := Cond.methodLink own i arraycopyName ∈ zW ∧ Cond.native arraycopyName ∈ zW ∧ Cond.static arraycopyName ∈ zW ∧ Cond.initialized "java/lang/System" ∈ zW
theorem z_copy (hG : zGood X l g own cc h nL) {i t t2 n1 n2 : Nat} {s0 i0 s2 i2 sp dp n : Int} (hd : decode cc pc = .ok (.invokestatic i, 3)) (hw : zLC own i) (hh : 1 ≤ h) (hc : zcat st ≤ 20) (ht : zTO t = none) (ha : zTA t = some (0, n1)) (ht2 : zTO t2 = none) (ha2 : zTA t2 = some (0, n2)) (hsp : 0 ≤ sp) (hdp : 0 ≤ dp) (hn : 0 ≤ n) (h1 : sp + n ≤ n1) (h2 : dp + n ≤ n2)
    (K : zZ X (pc + 3) ls st (zcpy mem t s0 i0 t2 s2 i2 sp dp n)) : zZ X pc ls (zi n :: zi dp :: zr t2 s2 i2 :: zi sp :: zr t s0 i0 :: st) mem := by
  obtain ⟨p, l, e, R, s, m, args, below, meth, c, Q, g⟩ := X
  obtain ⟨hx, hb, hml, hown, hts, hK, hN, hg, hR1, hR2, hlk, hl2, hg2⟩ := hG
  subst hl2 hg2
  intro hM hL hS H locs lsA hP hS0 hl
  have hzn : zin n := hS (zi n) (by simp)
  have hzd : zin dp := hS (zi dp) (by simp)
  have hzs : zin sp := hS (zi sp) (by simp)
  have ho : (t, s0, i0) ∈ zOs := hS (zr t s0 i0) (by simp)
  have ho2 : (t2, s2, i2) ∈ zOs := hS (zr t2 s2 i2) (by simp)
  have hSr : zokS st := fun v hv => hS v (by simp [hv])
  obtain ⟨q0, hq, he⟩ := zplace ho g mem
  obtain ⟨q2, hq2, he2⟩ := zplace ho2 g mem
  rw [zent_arr ht ha rfl] at he
  rw [zent_arr ht2 ha2 rfl] at he2
  have nz : ∀ {z : Int}, zin z → 0 ≤ z → ¬ Int32.ofInt z < 0 := fun {z} h h0 q => by
    have q2 : Int32.ofInt z < Int32.ofInt 0 := q
    have := (zlt h z0in).mp q2
    omega
  refine va_copyi (D := g.1) hx hb hl.1.symm hown (hts _ hw.1) (hts _ hw.2.1) (hts _ hw.2.2.1) (hts _ hw.2.2.2) hK hP (zDw hg mem) hS0 q0 q2 0 0 he he2 (zTYS_at (by decide)) (zTYS_at (by decide)) rfl (nz hzs hsp) (nz hzd hdp) (nz hzn hn) (by rw [zcl hzs, zcl hzn]; omega) (by rw [zcl hzd, zcl hzn]; omega) (fun _ _ => rfl) (by omega)
    (by rw [zcat_up]; have : nativeFrameWords "java/lang/System" "arraycopy" 5 = 7 := by decide +kernel
        rw [this]; omega) hd fun H1 locs1 hP1 _ hS1 => ?_
  rw [zcl hzs, zcl hzd, zcl hzn] at hP1
  have e1 : zent g (zcpy mem t s0 i0 t2 s2 i2 sp dp n) (t2, s2, i2) = .inl (g.2.2 0, n2, .inl (va_cpy (fun j => Int32.ofInt (mem t s0 i0 j)) (fun j => Int32.ofInt (mem t2 s2 i2 j)) sp.toNat dp.toNat n.toNat)) := by
    rw [zent_arr ht2 ha2 rfl]
    congr 3
    congr 1
    funext k
    unfold zcpy va_cpy
    by_cases q : dp.toNat ≤ k ∧ k < dp.toNat + n.toNat
    · rw [if_pos q, if_pos ⟨rfl, rfl, rfl, by omega, by omega⟩]
      congr 2
      omega
    · rw [if_neg q, if_neg (fun z => q ⟨by omega, by omega⟩)]
  rw [zWS_set hq2 (mem' := zcpy mem t s0 i0 t2 s2 i2 sp dp n) e1 (fun o' h' => by
    obtain ⟨t', s', i'⟩ := o'
    have hcc : ∀ k' : Int, zcpy mem t s0 i0 t2 s2 i2 sp dp n t' s' i' k' = mem t' s' i' k' := by
      intro k'
      unfold zcpy
      rw [if_neg]
      rintro ⟨h1, h2, h3, -⟩
      exact h' (by rw [h1, h2, h3])
    simp only [zent, zfv, hcc])] at hP1
  exact K (zcpy_ok hM) hL hSr H1 locs1 lsA hP1 hS1 hl
def zfit (ret : Option FieldType) (v : Int) : Prop := match ret with
  | some .int => True
  | some .boolean => v = 0 ∨ v = 1
  | some .char => 0 ≤ v ∧ v < 65536
  | _ => False
theorem z_iret (hG : zGood X l g own cc h nL) {ret : Option FieldType} {Rt : Option zV → zM → Prop} (hE : zEnd X ret Rt) {v : Int} (hd : decode cc pc = .ok (.ireturn, 1)) (hf : zfit ret v) (K : Rt (some (zi v)) mem) : zZ X pc ls [zi v] mem := by
  obtain ⟨p, l, e, R, s, m, args, below, meth, c, Q, g⟩ := X
  obtain ⟨hx, hb, hml, hown, hts, hK, hN, hg, hR1, hR2, hlk, hl2, hg2⟩ := hG
  subst hl2 hg2
  obtain ⟨hr, hQ⟩ := hE
  subst hQ
  intro hM hL hS H locs lsA hP hS0 hl
  have hv : zin v := (zokS_cons.mp hS).1
  have key : ∀ ty : FieldType, ret = some ty → narrow ty (.int (Int32.ofInt v)) = .int (Int32.ofInt v) → W p l e R s m args below meth c H locs 0 0 (MQ below (zQc g Rt) args s 0 0 (zA g)) (F0 m pc lsA [.int (Int32.ofInt v)]) := by
    intro ty hty hn
    refine W.zret hx hb (hr.trans hty) hn (fun t ht hW => ?_) hS0.2.2 hd hlk
    exact ⟨⟨some (zi v), mem, rfl, K, zPW_of hP hK hN ht hW, hM, hv⟩, hS0.F ht⟩
  unfold zfit at hf
  split at hf
  · exact key .int rfl rfl
  · exact key .boolean rfl (by rcases hf with rfl | rfl <;> rfl)
  · refine key .char rfl ?_
    obtain ⟨n2, rfl⟩ := Int.eq_ofNat_of_zero_le hf.1
    exact (pk_charN (q := n2) (by omega)).1
  · exact hf.elim
theorem z_vret (hG : zGood X l g own cc h nL) {Rt : Option zV → zM → Prop} (hE : zEnd X none Rt) (hd : decode cc pc = .ok (.return_, 1)) (K : Rt none mem) : zZ X pc ls [] mem := by
  obtain ⟨p, l, e, R, s, m, args, below, meth, c, Q, g⟩ := X
  obtain ⟨hx, hb, hml, hown, hts, hK, hN, hg, hR1, hR2, hlk, hl2, hg2⟩ := hG
  subst hl2 hg2
  obtain ⟨hr, hQ⟩ := hE
  subst hQ
  intro hM hL hS H locs lsA hP hS0 hl
  refine W.vret hx hb hr (fun t ht hW => ?_) hS0.2.2 hd hlk
  exact ⟨⟨none, mem, rfl, K, zPW_of hP hK hN ht hW, hM, trivial⟩, hS0.F ht⟩
end ZCALL
/-- the locals with which a method begins -/
def zin0 : List zV → zL
  | [] => []
  | (.inr (.inl x)) :: r => some (.inr (.inl x)) :: none :: zin0 r
  | v :: r => some v :: zin0 r
def zentry (av : List zV) (n : Nat) : zL := zin0 av ++ List.replicate (n - (zin0 av).length) none
theorem zin0_at {g : zG} : ∀ (av : List zV) (k : Nat) (v : zV), (zin0 av)[k]? = some (some v) → (lg_sl (av.map (zup g)))[k]? = some (.val (zup g v))
  | [], k, v, h => by simp [zin0] at h
  | (.inr (.inl x)) :: r, 0, v, h => by
    simp [zin0] at h
    subst h
    simp [lg_sl, zup, Value.category]
  | (.inr (.inl x)) :: r, 1, v, h => by simp [zin0] at h
  | (.inr (.inl x)) :: r, k + 2, v, h => by
    have h1 : (zin0 r)[k]? = some (some v) := by simpa [zin0] using h
    have := zin0_at (g := g) r k v h1
    simpa [lg_sl, zup, Value.category] using this
  | (.inl x) :: r, 0, v, h => by
    simp [zin0] at h
    subst h
    simp [lg_sl, zup, Value.category]
  | (.inl x) :: r, k + 1, v, h => by
    have h1 : (zin0 r)[k]? = some (some v) := by simpa [zin0] using h
    have := zin0_at (g := g) r k v h1
    simpa [lg_sl, zup, Value.category] using this
  | (.inr (.inr x)) :: r, 0, v, h => by
    simp [zin0] at h
    subst h
    simp [lg_sl, zup, Value.category]
  | (.inr (.inr x)) :: r, k + 1, v, h => by
    have h1 : (zin0 r)[k]? = some (some v) := by simpa [zin0] using h
    have := zin0_at (g := g) r k v h1
    simpa [lg_sl, zup, Value.category] using this
theorem zin0_len {g : zG} : ∀ av : List zV, (lg_sl (av.map (zup g))).length = (zin0 av).length
  | [] => rfl
  | (.inr (.inl x)) :: r => by
    have := zin0_len (g := g) r
    simp [lg_sl, zin0, zup, Value.category] at this ⊢
    omega
  | (.inl x) :: r => by
    have := zin0_len (g := g) r
    simp [lg_sl, zin0, zup, Value.category] at this ⊢
    omega
  | (.inr (.inr x)) :: r => by
    have := zin0_len (g := g) r
    simp [lg_sl, zin0, zup, Value.category] at this ⊢
    omega
theorem zin0_mem : ∀ (av : List zV) (v : zV), some v ∈ zin0 av → v ∈ av
  | [], v, h => by simp [zin0] at h
  | (.inr (.inl x)) :: r, v, h => by
    simp [zin0] at h
    rcases h with h | h
    · simp [h]
    · simp [zin0_mem r v h]
  | (.inl x) :: r, v, h => by
    simp [zin0] at h
    rcases h with h | h
    · simp [h]
    · simp [zin0_mem r v h]
  | (.inr (.inr x)) :: r, v, h => by
    simp [zin0] at h
    rcases h with h | h
    · simp [h]
    · simp [zin0_mem r v h]
/-- A CONTRACT out of a walk of the method's body -/
theorem zMet_intro {l : Launch} {g : zG} {y : zY} {av : List zV} {mem : zM} {Rt : Option zV → zM → Prop} (hy : plainName y.1.cls = true) (hlen : (zin0 av).length ≤ y.2.2.1) {ls0 : zL} (he : zentry av y.2.2.1 = ls0)
    (body : ∀ X : zX, zGood X l g y.1.cls y.2.1 y.2.2.2.2 y.2.2.1 → zEnd X y.2.2.2.1 Rt → zZ X 0 ls0 [] mem) : zMet l g y av mem Rt := by
  subst he
  intro hg hM hS
  refine Met.ofW (cc := y.2.1) (maxL := y.2.2.1) (ret := y.2.2.2.1) hy rfl ?_
  intro p e s m args below meth c s₁ B hml hv
  obtain ⟨rfl, hP, hK, hN⟩ := hv
  have hts := atoms_spec (ws := zYw y) B.pre
  have hown : s.vm.findClass y.1.cls = some m.cls := findClass_of_methodNamed B.named
  have hG : zGood (p, l, e, (headSpec (zYw y) (zRoom y.2.2.2.2)).room, s, m, (av.map (zup g)).toArray, below, meth, c, MQ below (zQc g Rt) (av.map (zup g)).toArray s 0 0 (zA g), g) l g y.1.cls y.2.1 y.2.2.2.2 y.2.2.1 :=
    ⟨B.exec, B.bytes, hml, hown, fun w hw => hts w (List.mem_cons_of_mem _ hw), hK, hN, hg, Nat.le_refl _, Nat.le_refl _, B.notSynchronized, rfl, rfl⟩
  have hl := lv_entry (av.map (zup g)) (n := y.2.2.1) (by rw [zin0_len]; exact hlen)
  rw [lg_entry_eq]
  refine body _ hG ⟨B.returns, rfl⟩ hM ?_ zokS_nil s.heap [] _ hP va_S.rf ⟨?_, hl.2.1, ?_⟩
  · intro v hv
    rcases List.mem_append.mp hv with h | h
    · exact hS v (zin0_mem av v h)
    · have := List.eq_of_mem_replicate h
      cases this
  · rw [hml]; exact hl.1
  · intro k v hk
    unfold zentry at hk
    by_cases hlt : k < (zin0 av).length
    · rw [List.getElem?_append_left hlt] at hk
      have h1 := zin0_at (g := g) av k v hk
      simp only [List.getElem?_toArray]
      rw [List.getElem?_append_left (by rw [zin0_len]; exact hlt)]
      exact h1
    · rw [List.getElem?_append_right (by omega)] at hk
      have := List.eq_of_mem_replicate (List.mem_of_getElem? hk)
      cases this
/-- forgetting locals -/
def zfor : zL → List Bool → zL
  | [], _ => []
  | x :: r, [] => none :: zfor r []
  | x :: r, true :: b => x :: zfor r b
  | _ :: r, false :: b => none :: zfor r b
theorem zfor_at : ∀ (ls : zL) (b : List Bool) (k : Nat) (v : zV), (zfor ls b)[k]? = some (some v) → ls[k]? = some (some v)
  | [], b, k, v, h => by simp [zfor] at h
  | x :: r, [], 0, v, h => by simp [zfor] at h
  | x :: r, [], k + 1, v, h => by simpa using zfor_at r [] k v (by simpa [zfor] using h)
  | x :: r, true :: b, 0, v, h => by simpa [zfor] using h
  | x :: r, true :: b, k + 1, v, h => by simpa using zfor_at r b k v (by simpa [zfor] using h)
  | x :: r, false :: b, 0, v, h => by simp [zfor] at h
  | x :: r, false :: b, k + 1, v, h => by simpa using zfor_at r b k v (by simpa [zfor] using h)
theorem z_forget {X : zX} {pc : Nat} {ls ls2 : zL} {st : List zV} {mem : zM} (b : List Bool) (he : zfor ls b = ls2) (K : zZ X pc ls2 st mem) : zZ X pc ls st mem := by
  subst he
  obtain ⟨p, l, e, R, s, m, args, below, meth, c, Q, g⟩ := X
  intro hM hL hS H locs lsA hP hS0 hl
  refine K hM (fun v hv => ?_) hS H locs lsA hP hS0 ⟨hl.1, hl.2.1, fun k v hk => hl.2.2 k v (zfor_at ls b k v hk)⟩
  obtain ⟨k, hk⟩ := List.getElem?_of_mem hv
  exact hL v (List.mem_of_getElem? (zfor_at ls b k v hk))
/-- what is known of the memory and of the values at hand -/
theorem z_okM {X : zX} {pc : Nat} {ls : zL} {st : List zV} {mem : zM} (K : zokM mem → zZ X pc ls st mem) : zZ X pc ls st mem := by
  obtain ⟨p, l, e, R, s, m, args, below, meth, c, Q, g⟩ := X
  intro hM hL hS
  exact K hM hM hL hS
theorem z_okL {X : zX} {pc : Nat} {ls : zL} {st : List zV} {mem : zM} (K : zokL ls → zZ X pc ls st mem) : zZ X pc ls st mem := by
  obtain ⟨p, l, e, R, s, m, args, below, meth, c, Q, g⟩ := X
  intro hM hL hS
  exact K hL hM hL hS
theorem z_okS {X : zX} {pc : Nat} {ls : zL} {st : List zV} {mem : zM} (K : zokS st → zZ X pc ls st mem) : zZ X pc ls st mem := by
  obtain ⟨p, l, e, R, s, m, args, below, meth, c, Q, g⟩ := X
  intro hM hL hS
  exact K hS hM hL hS
theorem z_mem {X : zX} {pc : Nat} {ls : zL} {st : List zV} {mem mem' : zM} (h : mem = mem') (K : zZ X pc ls st mem') : zZ X pc ls st mem := h ▸ K
end
section
/-! METHODS AND LINKS: written by wip/whole/gen/links.py -/
theorem zWi {w : Cond} (i : Nat) (h : lw_tbl[i]? = some w) (hg : goodWord w = true) : w ∈ zW := zW_in (List.mem_of_getElem? h) hg
theorem zWs {l : List Cond} (ps : List Nat) (h : l = ps.filterMap (fun i => lw_tbl[i]?)) (hg : l.all goodWord = true) : ∀ w ∈ l, w ∈ zW := by
  intro w hw
  have hg2 := List.all_eq_true.mp hg w hw
  rw [h] at hw
  obtain ⟨i, -, hi⟩ := List.mem_filterMap.mp hw
  exact zW_in (List.mem_of_getElem? hi) hg2
abbrev Y_X0_init : zY := (yX0_init, cX0_init, 2, none, 3)
theorem wc_X0_init : Cond.code yX0_init cX0_init 2 (none) ∈ zW := zWi 277 (by decide +kernel) rfl
abbrev Y_X0_record : zY := (yX0_record, cX0_record, 2, none, 3)
theorem wc_X0_record : Cond.code yX0_record cX0_record 2 (none) ∈ zW := zWi 492 (by decide +kernel) rfl
abbrev Y_X0_giveBack : zY := (yX0_giveBack, cX0_giveBack, 2, none, 3)
theorem wc_X0_giveBack : Cond.code yX0_giveBack cX0_giveBack 2 (none) ∈ zW := zWi 924 (by decide +kernel) rfl
abbrev Y_X1_init : zY := (yX1_init, cX1_init, 1, none, 0)
theorem wc_X1_init : Cond.code yX1_init cX1_init 1 (none) ∈ zW := zWi 111 (by decide +kernel) rfl
abbrev Y_X1_begin : zY := (yX1_begin, cX1_begin, 3, none, 0)
theorem wc_X1_begin : Cond.code yX1_begin cX1_begin 3 (none) ∈ zW := zWi 522 (by decide +kernel) rfl
abbrev Y_X1_copyFrom : zY := (yX1_copyFrom, cX1_copyFrom, 2, none, 1)
theorem wc_X1_copyFrom : Cond.code yX1_copyFrom cX1_copyFrom 2 (none) ∈ zW := zWi 503 (by decide +kernel) rfl
abbrev Y_X1_hasKind : zY := (yX1_hasKind, cX1_hasKind, 2, some .boolean, 0)
theorem wc_X1_hasKind : Cond.code yX1_hasKind cX1_hasKind 2 (some .boolean) ∈ zW := zWi 681 (by decide +kernel) rfl
abbrev Y_X1_hasSize : zY := (yX1_hasSize, cX1_hasSize, 3, some .boolean, 0)
theorem wc_X1_hasSize : Cond.code yX1_hasSize cX1_hasSize 3 (some .boolean) ∈ zW := zWi 534 (by decide +kernel) rfl
abbrev Y_X1_addKind : zY := (yX1_addKind, cX1_addKind, 3, none, 0)
theorem wc_X1_addKind : Cond.code yX1_addKind cX1_addKind 3 (none) ∈ zW := zWi 538 (by decide +kernel) rfl
abbrev Y_X1_inPantry : zY := (yX1_inPantry, cX1_inPantry, 6, some .int, 0)
theorem wc_X1_inPantry : Cond.code yX1_inPantry cX1_inPantry 6 (some .int) ∈ zW := zWi 557 (by decide +kernel) rfl
abbrev Y_X1_lotsThere : zY := (yX1_lotsThere, cX1_lotsThere, 6, some .int, 0)
theorem wc_X1_lotsThere : Cond.code yX1_lotsThere cX1_lotsThere 6 (some .int) ∈ zW := zWi 775 (by decide +kernel) rfl
abbrev Y_X1_firstSpoilDay : zY := (yX1_firstSpoilDay, cX1_firstSpoilDay, 3, some .int, 2)
theorem wc_X1_firstSpoilDay : Cond.code yX1_firstSpoilDay cX1_firstSpoilDay 3 (some .int) ∈ zW := zWi 779 (by decide +kernel) rfl
abbrev Y_X1_addLot : zY := (yX1_addLot, cX1_addLot, 3, none, 2)
theorem wc_X1_addLot : Cond.code yX1_addLot cX1_addLot 3 (none) ∈ zW := zWi 562 (by decide +kernel) rfl
abbrev Y_X1_takeFromLots : zY := (yX1_takeFromLots, cX1_takeFromLots, 7, none, 2)
theorem wc_X1_takeFromLots : Cond.code yX1_takeFromLots cX1_takeFromLots 7 (none) ∈ zW := zWi 742 (by decide +kernel) rfl
abbrev Y_X1_throwAway : zY := (yX1_throwAway, cX1_throwAway, 4, some .int, 2)
theorem wc_X1_throwAway : Cond.code yX1_throwAway cX1_throwAway 4 (some .int) ∈ zW := zWi 767 (by decide +kernel) rfl
abbrev Y_X1_placeOf : zY := (yX1_placeOf, cX1_placeOf, 1, some .int, 1)
theorem wc_X1_placeOf : Cond.code yX1_placeOf cX1_placeOf 1 (some .int) ∈ zW := zWi 565 (by decide +kernel) rfl
abbrev Y_X2_init : zY := (yX2_init, cX2_init, 1, none, 0)
theorem wc_X2_init : Cond.code yX2_init cX2_init 1 (none) ∈ zW := zWi 297 (by decide +kernel) rfl
abbrev Y_X2_at : zY := (yX2_at, cX2_at, 2, some .char, 0)
theorem wc_X2_at : Cond.code yX2_at cX2_at 2 (some .char) ∈ zW := zWi 594 (by decide +kernel) rfl
abbrev Y_X2_append : zY := (yX2_append, cX2_append, 5, none, 0)
theorem wc_X2_append : Cond.code yX2_append cX2_append 5 (none) ∈ zW := zWi 907 (by decide +kernel) rfl
abbrev Y_X3_init : zY := (yX3_init, cX3_init, 2, none, 2)
theorem wc_X3_init : Cond.code yX3_init cX3_init 2 (none) ∈ zW := zWi 314 (by decide +kernel) rfl
abbrev Y_X3_read : zY := (yX3_read, cX3_read, 2, some .int, 5)
theorem wc_X3_read : Cond.code yX3_read cX3_read 2 (some .int) ∈ zW := zWi 574 (by decide +kernel) rfl
abbrev Y_X3_readNumber : zY := (yX3_readNumber, cX3_readNumber, 4, some .int, 3)
theorem wc_X3_readNumber : Cond.code yX3_readNumber cX3_readNumber 4 (some .int) ∈ zW := zWi 582 (by decide +kernel) rfl
abbrev Y_X3_readDigit : zY := (yX3_readDigit, cX3_readDigit, 4, some .int, 2)
theorem wc_X3_readDigit : Cond.code yX3_readDigit cX3_readDigit 4 (some .int) ∈ zW := zWi 586 (by decide +kernel) rfl
abbrev Y_X3_digitHere : zY := (yX3_digitHere, cX3_digitHere, 2, some .int, 1)
theorem wc_X3_digitHere : Cond.code yX3_digitHere cX3_digitHere 2 (some .int) ∈ zW := zWi 590 (by decide +kernel) rfl
abbrev Y_X3_nameHere : zY := (yX3_nameHere, cX3_nameHere, 2, some .int, 1)
theorem wc_X3_nameHere : Cond.code yX3_nameHere cX3_nameHere 2 (some .int) ∈ zW := zWi 599 (by decide +kernel) rfl
abbrev Y_X3_readAmount : zY := (yX3_readAmount, cX3_readAmount, 3, none, 4)
theorem wc_X3_readAmount : Cond.code yX3_readAmount cX3_readAmount 3 (none) ∈ zW := zWi 603 (by decide +kernel) rfl
abbrev Y_X3_readStep : zY := (yX3_readStep, cX3_readStep, 4, none, 4)
theorem wc_X3_readStep : Cond.code yX3_readStep cX3_readStep 4 (none) ∈ zW := zWi 607 (by decide +kernel) rfl
abbrev Y_X3_readSign : zY := (yX3_readSign, cX3_readSign, 2, none, 1)
theorem wc_X3_readSign : Cond.code yX3_readSign cX3_readSign 2 (none) ∈ zW := zWi 611 (by decide +kernel) rfl
abbrev Y_X3_readStepBefore : zY := (yX3_readStepBefore, cX3_readStepBefore, 4, some .int, 2)
theorem wc_X3_readStepBefore : Cond.code yX3_readStepBefore cX3_readStepBefore 4 (some .int) ∈ zW := zWi 615 (by decide +kernel) rfl
abbrev Y_X4_init : zY := (yX4_init, cX4_init, 2, none, 1)
theorem wc_X4_init : Cond.code yX4_init cX4_init 2 (none) ∈ zW := zWi 173 (by decide +kernel) rfl
abbrev Y_X4_clear : zY := (yX4_clear, cX4_clear, 2, none, 0)
theorem wc_X4_clear : Cond.code yX4_clear cX4_clear 2 (none) ∈ zW := zWi 578 (by decide +kernel) rfl
abbrev Y_X4_copyFrom : zY := (yX4_copyFrom, cX4_copyFrom, 3, none, 1)
theorem wc_X4_copyFrom : Cond.code yX4_copyFrom cX4_copyFrom 3 (none) ∈ zW := zWi 510 (by decide +kernel) rfl
abbrev Y_X4_hasStep : zY := (yX4_hasStep, cX4_hasStep, 2, some .boolean, 0)
theorem wc_X4_hasStep : Cond.code yX4_hasStep cX4_hasStep 2 (some .boolean) ∈ zW := zWi 796 (by decide +kernel) rfl
abbrev Y_X4_namesFrom : zY := (yX4_namesFrom, cX4_namesFrom, 3, some .boolean, 1)
theorem wc_X4_namesFrom : Cond.code yX4_namesFrom cX4_namesFrom 3 (some .boolean) ∈ zW := zWi 619 (by decide +kernel) rfl
abbrev Y_X4_scaled : zY := (yX4_scaled, cX4_scaled, 2, some .int, 1)
theorem wc_X4_scaled : Cond.code yX4_scaled cX4_scaled 2 (some .int) ∈ zW := zWi 660 (by decide +kernel) rfl
abbrev Y_X4_lasts : zY := (yX4_lasts, cX4_lasts, 2, some .int, 2)
theorem wc_X4_lasts : Cond.code yX4_lasts cX4_lasts 2 (some .int) ∈ zW := zWi 800 (by decide +kernel) rfl
abbrev Y_X5_init : zY := (yX5_init, cX5_init, 1, none, 0)
theorem wc_X5_init : Cond.code yX5_init cX5_init 1 (none) ∈ zW := zWi 424 (by decide +kernel) rfl
abbrev Y_X5_gather : zY := (yX5_gather, cX5_gather, 3, none, 4)
theorem wc_X5_gather : Cond.code yX5_gather cX5_gather 3 (none) ∈ zW := zWi 810 (by decide +kernel) rfl
abbrev Y_X5_gatherSteps : zY := (yX5_gatherSteps, cX5_gatherSteps, 5, none, 3)
theorem wc_X5_gatherSteps : Cond.code yX5_gatherSteps cX5_gatherSteps 5 (none) ∈ zW := zWi 814 (by decide +kernel) rfl
abbrev Y_X5_longestBehind : zY := (yX5_longestBehind, cX5_longestBehind, 6, some .int, 1)
theorem wc_X5_longestBehind : Cond.code yX5_longestBehind cX5_longestBehind 6 (some .int) ∈ zW := zWi 820 (by decide +kernel) rfl
abbrev Y_X5_insert : zY := (yX5_insert, cX5_insert, 3, none, 0)
theorem wc_X5_insert : Cond.code yX5_insert cX5_insert 3 (none) ∈ zW := zWi 825 (by decide +kernel) rfl
abbrev Y_X5_run : zY := (yX5_run, cX5_run, 4, none, 3)
theorem wc_X5_run : Cond.code yX5_run cX5_run 4 (none) ∈ zW := zWi 833 (by decide +kernel) rfl
abbrev Y_X5_beginAt : zY := (yX5_beginAt, cX5_beginAt, 6, none, 2)
theorem wc_X5_beginAt : Cond.code yX5_beginAt cX5_beginAt 6 (none) ∈ zW := zWi 837 (by decide +kernel) rfl
abbrev Y_X5_busyHands : zY := (yX5_busyHands, cX5_busyHands, 5, some .int, 0)
theorem wc_X5_busyHands : Cond.code yX5_busyHands cX5_busyHands 5 (some .int) ∈ zW := zWi 841 (by decide +kernel) rfl
abbrev Y_X5_isReady : zY := (yX5_isReady, cX5_isReady, 5, some .boolean, 1)
theorem wc_X5_isReady : Cond.code yX5_isReady cX5_isReady 5 (some .boolean) ∈ zW := zWi 845 (by decide +kernel) rfl
abbrev Y_X5_hasEnded : zY := (yX5_hasEnded, cX5_hasEnded, 3, some .boolean, 0)
theorem wc_X5_hasEnded : Cond.code yX5_hasEnded cX5_hasEnded 3 (some .boolean) ∈ zW := zWi 850 (by decide +kernel) rfl
abbrev Y_X5_nextEnd : zY := (yX5_nextEnd, cX5_nextEnd, 6, some .int, 0)
theorem wc_X5_nextEnd : Cond.code yX5_nextEnd cX5_nextEnd 6 (some .int) ∈ zW := zWi 854 (by decide +kernel) rfl
abbrev Y_X5_end : zY := (yX5_end, cX5_end, 4, some .int, 1)
theorem wc_X5_end : Cond.code yX5_end cX5_end 4 (some .int) ∈ zW := zWi 878 (by decide +kernel) rfl
abbrev Y_X5_bound : zY := (yX5_bound, cX5_bound, 2, some .int, 1)
theorem wc_X5_bound : Cond.code yX5_bound cX5_bound 2 (some .int) ∈ zW := zWi 882 (by decide +kernel) rfl
abbrev Y_X6_init : zY := (yX6_init, cX6_init, 1, none, 1)
theorem wc_X6_init : Cond.code yX6_init cX6_init 1 (none) ∈ zW := zWi 336 (by decide +kernel) rfl
abbrev Y_X6_plan : zY := (yX6_plan, cX6_plan, 3, none, 5)
theorem wc_X6_plan : Cond.code yX6_plan cX6_plan 3 (none) ∈ zW := zWi 647 (by decide +kernel) rfl
abbrev Y_X6_clear : zY := (yX6_clear, cX6_clear, 3, none, 0)
theorem wc_X6_clear : Cond.code yX6_clear cX6_clear 3 (none) ∈ zW := zWi 651 (by decide +kernel) rfl
abbrev Y_X6_planOne : zY := (yX6_planOne, cX6_planOne, 5, none, 4)
theorem wc_X6_planOne : Cond.code yX6_planOne cX6_planOne 5 (none) ∈ zW := zWi 667 (by decide +kernel) rfl
abbrev Y_X6_buy : zY := (yX6_buy, cX6_buy, 5, none, 3)
theorem wc_X6_buy : Cond.code yX6_buy cX6_buy 5 (none) ∈ zW := zWi 673 (by decide +kernel) rfl
abbrev Y_X6_replace : zY := (yX6_replace, cX6_replace, 6, some .boolean, 1)
theorem wc_X6_replace : Cond.code yX6_replace cX6_replace 6 (some .boolean) ∈ zW := zWi 719 (by decide +kernel) rfl
abbrev Y_X6_carryOut : zY := (yX6_carryOut, cX6_carryOut, 4, none, 3)
theorem wc_X6_carryOut : Cond.code yX6_carryOut cX6_carryOut 4 (none) ∈ zW := zWi 738 (by decide +kernel) rfl
abbrev Y_X6_allPrices : zY := (yX6_allPrices, cX6_allPrices, 1, some .int, 1)
theorem wc_X6_allPrices : Cond.code yX6_allPrices cX6_allPrices 1 (some .int) ∈ zW := zWi 748 (by decide +kernel) rfl
abbrev Y_X6_allLeftOver : zY := (yX6_allLeftOver, cX6_allLeftOver, 1, some .int, 1)
theorem wc_X6_allLeftOver : Cond.code yX6_allLeftOver cX6_allLeftOver 1 (some .int) ∈ zW := zWi 870 (by decide +kernel) rfl
abbrev Y_X6_missingSet : zY := (yX6_missingSet, cX6_missingSet, 3, some .int, 0)
theorem wc_X6_missingSet : Cond.code yX6_missingSet cX6_missingSet 3 (some .int) ∈ zW := zWi 730 (by decide +kernel) rfl
abbrev Y_X6_sum : zY := (yX6_sum, cX6_sum, 6, some .int, 0)
theorem wc_X6_sum : Cond.code yX6_sum cX6_sum 6 (some .int) ∈ zW := zWi 751 (by decide +kernel) rfl
abbrev Y_X7_init : zY := (yX7_init, cX7_init, 2, none, 2)
theorem wc_X7_init : Cond.code yX7_init cX7_init 2 (none) ∈ zW := zWi 102 (by decide +kernel) rfl
abbrev Y_X7_copyFrom : zY := (yX7_copyFrom, cX7_copyFrom, 3, none, 2)
theorem wc_X7_copyFrom : Cond.code yX7_copyFrom cX7_copyFrom 3 (none) ∈ zW := zWi 499 (by decide +kernel) rfl
abbrev Y_X7_hasIngredient : zY := (yX7_hasIngredient, cX7_hasIngredient, 2, some .boolean, 0)
theorem wc_X7_hasIngredient : Cond.code yX7_hasIngredient cX7_hasIngredient 2 (some .boolean) ∈ zW := zWi 530 (by decide +kernel) rfl
abbrev Y_X7_hasRecipe : zY := (yX7_hasRecipe, cX7_hasRecipe, 2, some .boolean, 0)
theorem wc_X7_hasRecipe : Cond.code yX7_hasRecipe cX7_hasRecipe 2 (some .boolean) ∈ zW := zWi 631 (by decide +kernel) rfl
abbrev Y_X7_hasPortions : zY := (yX7_hasPortions, cX7_hasPortions, 5, some .boolean, 0)
theorem wc_X7_hasPortions : Cond.code yX7_hasPortions cX7_hasPortions 5 (some .boolean) ∈ zW := zWi 734 (by decide +kernel) rfl
abbrev Y_X7_neededByRecipes : zY := (yX7_neededByRecipes, cX7_neededByRecipes, 7, some .int, 2)
theorem wc_X7_neededByRecipes : Cond.code yX7_neededByRecipes cX7_neededByRecipes 7 (some .int) ∈ zW := zWi 655 (by decide +kernel) rfl
abbrev Y_X7_emptyMenu : zY := (yX7_emptyMenu, cX7_emptyMenu, 5, none, 0)
theorem wc_X7_emptyMenu : Cond.code yX7_emptyMenu cX7_emptyMenu 5 (none) ∈ zW := zWi 755 (by decide +kernel) rfl
abbrev Y_X7_letPass : zY := (yX7_letPass, cX7_letPass, 8, some .int, 3)
theorem wc_X7_letPass : Cond.code yX7_letPass cX7_letPass 8 (some .int) ∈ zW := zWi 763 (by decide +kernel) rfl
abbrev Y_X8_init : zY := (yX8_init, cX8_init, 1, none, 0)
theorem wc_X8_init : Cond.code yX8_init cX8_init 1 (none) ∈ zW := zWi 180 (by decide +kernel) rfl
abbrev Y_X8_copyFrom : zY := (yX8_copyFrom, cX8_copyFrom, 2, none, 0)
theorem wc_X8_copyFrom : Cond.code yX8_copyFrom cX8_copyFrom 2 (none) ∈ zW := zWi 515 (by decide +kernel) rfl
abbrev Y_X9_init : zY := (yX9_init, cX9_init, 1, none, 0)
theorem wc_X9_init : Cond.code yX9_init cX9_init 1 (none) ∈ zW := zWi 344 (by decide +kernel) rfl
abbrev Y_X9_rank : zY := (yX9_rank, cX9_rank, 4, none, 2)
theorem wc_X9_rank : Cond.code yX9_rank cX9_rank 4 (none) ∈ zW := zWi 677 (by decide +kernel) rfl
abbrev Y_X9_find : zY := (yX9_find, cX9_find, 4, none, 2)
theorem wc_X9_find : Cond.code yX9_find cX9_find 4 (none) ∈ zW := zWi 696 (by decide +kernel) rfl
abbrev Y_X9_isAhead : zY := (yX9_isAhead, cX9_isAhead, 5, some .boolean, 1)
theorem wc_X9_isAhead : Cond.code yX9_isAhead cX9_isAhead 5 (some .boolean) ∈ zW := zWi 684 (by decide +kernel) rfl
abbrev Y_X9_mostOf : zY := (yX9_mostOf, cX9_mostOf, 5, some .int, 1)
theorem wc_X9_mostOf : Cond.code yX9_mostOf cX9_mostOf 5 (some .int) ∈ zW := zWi 688 (by decide +kernel) rfl
abbrev Y_X9_commonDivisor : zY := (yX9_commonDivisor, cX9_commonDivisor, 6, some .int, 0)
theorem wc_X9_commonDivisor : Cond.code yX9_commonDivisor cX9_commonDivisor 6 (some .int) ∈ zW := zWi 691 (by decide +kernel) rfl
abbrev Y_X9_isTooDear : zY := (yX9_isTooDear, cX9_isTooDear, 8, some .boolean, 1)
theorem wc_X9_isTooDear : Cond.code yX9_isTooDear cX9_isTooDear 8 (some .boolean) ∈ zW := zWi 700 (by decide +kernel) rfl
abbrev Y_X9_offer : zY := (yX9_offer, cX9_offer, 9, none, 1)
theorem wc_X9_offer : Cond.code yX9_offer cX9_offer 9 (none) ∈ zW := zWi 705 (by decide +kernel) rfl
abbrev Y_X9_putTried : zY := (yX9_putTried, cX9_putTried, 4, none, 0)
theorem wc_X9_putTried : Cond.code yX9_putTried cX9_putTried 4 (none) ∈ zW := zWi 710 (by decide +kernel) rfl
abbrev Y_X9_isBetter : zY := (yX9_isBetter, cX9_isBetter, 4, some .boolean, 0)
theorem wc_X9_isBetter : Cond.code yX9_isBetter cX9_isBetter 4 (some .boolean) ∈ zW := zWi 714 (by decide +kernel) rfl
abbrev Y_X10_init : zY := (yX10_init, cX10_init, 2, none, 4)
theorem wc_X10_init : Cond.code yX10_init cX10_init 2 (none) ∈ zW := zWi 94 (by decide +kernel) rfl
abbrev Y_X10_ingredient : zY := (yX10_ingredient, cX10_ingredient, 3, some .int, 4)
theorem wc_X10_ingredient : Cond.code yX10_ingredient cX10_ingredient 3 (some .int) ∈ zW := zWi 485 (by decide +kernel) rfl
abbrev Y_X10_tin : zY := (yX10_tin, cX10_tin, 5, some .int, 4)
theorem wc_X10_tin : Cond.code yX10_tin cX10_tin 5 (some .int) ∈ zW := zWi 526 (by decide +kernel) rfl
abbrev Y_X10_buyable : zY := (yX10_buyable, cX10_buyable, 5, some .int, 4)
theorem wc_X10_buyable : Cond.code yX10_buyable cX10_buyable 5 (some .int) ∈ zW := zWi 542 (by decide +kernel) rfl
abbrev Y_X10_substitute : zY := (yX10_substitute, cX10_substitute, 7, some .int, 4)
theorem wc_X10_substitute : Cond.code yX10_substitute cX10_substitute 7 (some .int) ∈ zW := zWi 549 (by decide +kernel) rfl
abbrev Y_X10_stock : zY := (yX10_stock, cX10_stock, 5, some .int, 4)
theorem wc_X10_stock : Cond.code yX10_stock cX10_stock 5 (some .int) ∈ zW := zWi 553 (by decide +kernel) rfl
abbrev Y_X10_recipe : zY := (yX10_recipe, cX10_recipe, 2, some .int, 6)
theorem wc_X10_recipe : Cond.code yX10_recipe cX10_recipe 2 (some .int) ∈ zW := zWi 570 (by decide +kernel) rfl
abbrev Y_X10_amount : zY := (yX10_amount, cX10_amount, 6, some .int, 4)
theorem wc_X10_amount : Cond.code yX10_amount cX10_amount 6 (some .int) ∈ zW := zWi 627 (by decide +kernel) rfl
abbrev Y_X10_menu : zY := (yX10_menu, cX10_menu, 4, some .int, 4)
theorem wc_X10_menu : Cond.code yX10_menu cX10_menu 4 (some .int) ∈ zW := zWi 635 (by decide +kernel) rfl
abbrev Y_X10_hands : zY := (yX10_hands, cX10_hands, 3, some .int, 4)
theorem wc_X10_hands : Cond.code yX10_hands cX10_hands 3 (some .int) ∈ zW := zWi 639 (by decide +kernel) rfl
abbrev Y_X10_cook : zY := (yX10_cook, cX10_cook, 2, some .int, 6)
theorem wc_X10_cook : Cond.code yX10_cook cX10_cook 2 (some .int) ∈ zW := zWi 643 (by decide +kernel) rfl
abbrev Y_X10_pass : zY := (yX10_pass, cX10_pass, 2, some .int, 4)
theorem wc_X10_pass : Cond.code yX10_pass cX10_pass 2 (some .int) ∈ zW := zWi 759 (by decide +kernel) rfl
abbrev Y_X10_about : zY := (yX10_about, cX10_about, 4, some .int, 3)
theorem wc_X10_about : Cond.code yX10_about cX10_about 4 (some .int) ∈ zW := zWi 771 (by decide +kernel) rfl
abbrev Y_X10_ofTin : zY := (yX10_ofTin, cX10_ofTin, 4, some .int, 6)
theorem wc_X10_ofTin : Cond.code yX10_ofTin cX10_ofTin 4 (some .int) ∈ zW := zWi 783 (by decide +kernel) rfl
abbrev Y_X10_needs : zY := (yX10_needs, cX10_needs, 3, some .int, 6)
theorem wc_X10_needs : Cond.code yX10_needs cX10_needs 3 (some .int) ∈ zW := zWi 788 (by decide +kernel) rfl
abbrev Y_X10_step : zY := (yX10_step, cX10_step, 5, some .int, 6)
theorem wc_X10_step : Cond.code yX10_step cX10_step 5 (some .int) ∈ zW := zWi 792 (by decide +kernel) rfl
abbrev Y_X10_ofRecipe : zY := (yX10_ofRecipe, cX10_ofRecipe, 4, some .int, 1)
theorem wc_X10_ofRecipe : Cond.code yX10_ofRecipe cX10_ofRecipe 4 (some .int) ∈ zW := zWi 858 (by decide +kernel) rfl
abbrev Y_X10_count : zY := (yX10_count, cX10_count, 2, some .int, 6)
theorem wc_X10_count : Cond.code yX10_count cX10_count 2 (some .int) ∈ zW := zWi 862 (by decide +kernel) rfl
abbrev Y_X10_bestPortions : zY := (yX10_bestPortions, cX10_bestPortions, 10, some .int, 6)
theorem wc_X10_bestPortions : Cond.code yX10_bestPortions cX10_bestPortions 10 (some .int) ∈ zW := zWi 887 (by decide +kernel) rfl
abbrev Y_X10_fewestHands : zY := (yX10_fewestHands, cX10_fewestHands, 4, some .int, 5)
theorem wc_X10_fewestHands : Cond.code yX10_fewestHands cX10_fewestHands 4 (some .int) ∈ zW := zWi 891 (by decide +kernel) rfl
abbrev Y_X10_ifBuyable : zY := (yX10_ifBuyable, cX10_ifBuyable, 5, some .int, 6)
theorem wc_X10_ifBuyable : Cond.code yX10_ifBuyable cX10_ifBuyable 5 (some .int) ∈ zW := zWi 895 (by decide +kernel) rfl
abbrev Y_X10_put : zY := (yX10_put, cX10_put, 4, some .int, 2)
theorem wc_X10_put : Cond.code yX10_put cX10_put 4 (some .int) ∈ zW := zWi 899 (by decide +kernel) rfl
abbrev Y_X10_wipe : zY := (yX10_wipe, cX10_wipe, 2, some .int, 0)
theorem wc_X10_wipe : Cond.code yX10_wipe cX10_wipe 2 (some .int) ∈ zW := zWi 912 (by decide +kernel) rfl
abbrev Y_X10_fault : zY := (yX10_fault, cX10_fault, 1, some .int, 6)
theorem wc_X10_fault : Cond.code yX10_fault cX10_fault 1 (some .int) ∈ zW := zWi 916 (by decide +kernel) rfl
abbrev Y_X10_undo : zY := (yX10_undo, cX10_undo, 1, some .int, 4)
theorem wc_X10_undo : Cond.code yX10_undo cX10_undo 1 (some .int) ∈ zW := zWi 920 (by decide +kernel) rfl
abbrev Y_X10_save : zY := (yX10_save, cX10_save, 2, some .int, 3)
theorem wc_X10_save : Cond.code yX10_save cX10_save 2 (some .int) ∈ zW := zWi 928 (by decide +kernel) rfl
abbrev Y_X10_restore : zY := (yX10_restore, cX10_restore, 2, some .int, 4)
theorem wc_X10_restore : Cond.code yX10_restore cX10_restore 2 (some .int) ∈ zW := zWi 933 (by decide +kernel) rfl
abbrev Y_X10_canBeCooked : zY := (yX10_canBeCooked, cX10_canBeCooked, 1, some .boolean, 1)
theorem wc_X10_canBeCooked : Cond.code yX10_canBeCooked cX10_canBeCooked 1 (some .boolean) ∈ zW := zWi 726 (by decide +kernel) rfl
abbrev Y_X10_tailInMenu : zY := (yX10_tailInMenu, cX10_tailInMenu, 3, some .int, 5)
theorem wc_X10_tailInMenu : Cond.code yX10_tailInMenu cX10_tailInMenu 3 (some .int) ∈ zW := zWi 806 (by decide +kernel) rfl
abbrev Y_X10_beginInMenu : zY := (yX10_beginInMenu, cX10_beginInMenu, 3, some .int, 5)
theorem wc_X10_beginInMenu : Cond.code yX10_beginInMenu cX10_beginInMenu 3 (some .int) ∈ zW := zWi 829 (by decide +kernel) rfl
abbrev Y_X10_ofShopping : zY := (yX10_ofShopping, cX10_ofShopping, 2, some .int, 2)
theorem wc_X10_ofShopping : Cond.code yX10_ofShopping cX10_ofShopping 2 (some .int) ∈ zW := zWi 866 (by decide +kernel) rfl
abbrev Y_X10_ofSchedule : zY := (yX10_ofSchedule, cX10_ofSchedule, 2, some .int, 4)
theorem wc_X10_ofSchedule : Cond.code yX10_ofSchedule cX10_ofSchedule 2 (some .int) ∈ zW := zWi 874 (by decide +kernel) rfl
abbrev Y_X10_lengthOf : zY := (yX10_lengthOf, cX10_lengthOf, 5, some .int, 1)
theorem wc_X10_lengthOf : Cond.code yX10_lengthOf cX10_lengthOf 5 (some .int) ∈ zW := zWi 902 (by decide +kernel) rfl
abbrev Y_X10_isWithin : zY := (yX10_isWithin, cX10_isWithin, 3, some .boolean, 0)
theorem wc_X10_isWithin : Cond.code yX10_isWithin cX10_isWithin 3 (some .boolean) ∈ zW := zWi 488 (by decide +kernel) rfl
abbrev Y_X10_asNumber : zY := (yX10_asNumber, cX10_asNumber, 1, some .int, 0)
theorem wc_X10_asNumber : Cond.code yX10_asNumber cX10_asNumber 1 (some .int) ∈ zW := zWi 545 (by decide +kernel) rfl
abbrev Y_X10_roundedUp : zY := (yX10_roundedUp, cX10_roundedUp, 2, some .int, 0)
theorem wc_X10_roundedUp : Cond.code yX10_roundedUp cX10_roundedUp 2 (some .int) ∈ zW := zWi 663 (by decide +kernel) rfl
abbrev Y_X11_init : zY := (yX11_init, cX11_init, 1, none, 0)
theorem wc_X11_init : Cond.code yX11_init cX11_init 1 (none) ∈ zW := zWi 938 (by decide +kernel) rfl
abbrev Y_X11_in : zY := (yX11_in, cX11_in, 3, some .boolean, 0)
theorem wc_X11_in : Cond.code yX11_in cX11_in 3 (some .boolean) ∈ zW := zWi 1039 (by decide +kernel) rfl
abbrev Y_X11_up : zY := (yX11_up, cX11_up, 2, some .int, 0)
theorem wc_X11_up : Cond.code yX11_up cX11_up 2 (some .int) ∈ zW := zWi 1123 (by decide +kernel) rfl
abbrev Y_X11_of : zY := (yX11_of, cX11_of, 3, some .int, 0)
theorem wc_X11_of : Cond.code yX11_of cX11_of 3 (some .int) ∈ zW := zWi 1059 (by decide +kernel) rfl
abbrev Y_X11_lay : zY := (yX11_lay, cX11_lay, 4, none, 0)
theorem wc_X11_lay : Cond.code yX11_lay cX11_lay 4 (none) ∈ zW := zWi 1047 (by decide +kernel) rfl
abbrev Y_X11_ofARecipe : zY := (yX11_ofARecipe, cX11_ofARecipe, 3, some .int, 0)
theorem wc_X11_ofARecipe : Cond.code yX11_ofARecipe cX11_ofARecipe 3 (some .int) ∈ zW := zWi 1120 (by decide +kernel) rfl
abbrev Y_X11_ofStep : zY := (yX11_ofStep, cX11_ofStep, 4, some .int, 1)
theorem wc_X11_ofStep : Cond.code yX11_ofStep cX11_ofStep 4 (some .int) ∈ zW := zWi 1240 (by decide +kernel) rfl
abbrev Y_X11_isIngredient : zY := (yX11_isIngredient, cX11_isIngredient, 2, some .boolean, 0)
theorem wc_X11_isIngredient : Cond.code yX11_isIngredient cX11_isIngredient 2 (some .boolean) ∈ zW := zWi 1055 (by decide +kernel) rfl
abbrev Y_X11_isRecipe : zY := (yX11_isRecipe, cX11_isRecipe, 2, some .boolean, 0)
theorem wc_X11_isRecipe : Cond.code yX11_isRecipe cX11_isRecipe 2 (some .boolean) ∈ zW := zWi 1200 (by decide +kernel) rfl
abbrev Y_X11_keep : zY := (yX11_keep, cX11_keep, 2, none, 0)
theorem wc_X11_keep : Cond.code yX11_keep cX11_keep 2 (none) ∈ zW := zWi 1043 (by decide +kernel) rfl
abbrev Y_X11_ingredient : zY := (yX11_ingredient, cX11_ingredient, 3, some .int, 1)
theorem wc_X11_ingredient : Cond.code yX11_ingredient cX11_ingredient 3 (some .int) ∈ zW := zWi 1036 (by decide +kernel) rfl
abbrev Y_X11_sizeOf : zY := (yX11_sizeOf, cX11_sizeOf, 3, some .int, 1)
theorem wc_X11_sizeOf : Cond.code yX11_sizeOf cX11_sizeOf 3 (some .int) ∈ zW := zWi 1063 (by decide +kernel) rfl
abbrev Y_X11_priceOf : zY := (yX11_priceOf, cX11_priceOf, 3, some .int, 1)
theorem wc_X11_priceOf : Cond.code yX11_priceOf cX11_priceOf 3 (some .int) ∈ zW := zWi 1140 (by decide +kernel) rfl
abbrev Y_X11_tin : zY := (yX11_tin, cX11_tin, 6, some .int, 2)
theorem wc_X11_tin : Cond.code yX11_tin cX11_tin 6 (some .int) ∈ zW := zWi 1051 (by decide +kernel) rfl
abbrev Y_X11_buyable : zY := (yX11_buyable, cX11_buyable, 4, some .int, 1)
theorem wc_X11_buyable : Cond.code yX11_buyable cX11_buyable 4 (some .int) ∈ zW := zWi 1067 (by decide +kernel) rfl
abbrev Y_X11_substitute : zY := (yX11_substitute, cX11_substitute, 5, some .int, 1)
theorem wc_X11_substitute : Cond.code yX11_substitute cX11_substitute 5 (some .int) ∈ zW := zWi 1071 (by decide +kernel) rfl
abbrev Y_X11_lotOn : zY := (yX11_lotOn, cX11_lotOn, 3, some .int, 1)
theorem wc_X11_lotOn : Cond.code yX11_lotOn cX11_lotOn 3 (some .int) ∈ zW := zWi 1088 (by decide +kernel) rfl
abbrev Y_X11_layLot : zY := (yX11_layLot, cX11_layLot, 4, none, 1)
theorem wc_X11_layLot : Cond.code yX11_layLot cX11_layLot 4 (none) ∈ zW := zWi 1092 (by decide +kernel) rfl
abbrev Y_X11_pantry : zY := (yX11_pantry, cX11_pantry, 4, some .int, 1)
theorem wc_X11_pantry : Cond.code yX11_pantry cX11_pantry 4 (some .int) ∈ zW := zWi 1079 (by decide +kernel) rfl
abbrev Y_X11_lots : zY := (yX11_lots, cX11_lots, 4, some .int, 1)
theorem wc_X11_lots : Cond.code yX11_lots cX11_lots 4 (some .int) ∈ zW := zWi 1216 (by decide +kernel) rfl
abbrev Y_X11_firstDay : zY := (yX11_firstDay, cX11_firstDay, 3, some .int, 2)
theorem wc_X11_firstDay : Cond.code yX11_firstDay cX11_firstDay 3 (some .int) ∈ zW := zWi 1220 (by decide +kernel) rfl
abbrev Y_X11_putIn : zY := (yX11_putIn, cX11_putIn, 4, none, 2)
theorem wc_X11_putIn : Cond.code yX11_putIn cX11_putIn 4 (none) ∈ zW := zWi 1084 (by decide +kernel) rfl
abbrev Y_X11_takeOut : zY := (yX11_takeOut, cX11_takeOut, 6, none, 2)
theorem wc_X11_takeOut : Cond.code yX11_takeOut cX11_takeOut 6 (none) ∈ zW := zWi 1159 (by decide +kernel) rfl
abbrev Y_X11_stock : zY := (yX11_stock, cX11_stock, 3, some .int, 3)
theorem wc_X11_stock : Cond.code yX11_stock cX11_stock 3 (some .int) ∈ zW := zWi 1075 (by decide +kernel) rfl
abbrev Y_X11_pass : zY := (yX11_pass, cX11_pass, 6, some .int, 2)
theorem wc_X11_pass : Cond.code yX11_pass cX11_pass 6 (some .int) ∈ zW := zWi 1096 (by decide +kernel) rfl
abbrev Y_X11_byRecipes : zY := (yX11_byRecipes, cX11_byRecipes, 4, some .int, 1)
theorem wc_X11_byRecipes : Cond.code yX11_byRecipes cX11_byRecipes 4 (some .int) ∈ zW := zWi 1116 (by decide +kernel) rfl
abbrev Y_X11_consider : zY := (yX11_consider, cX11_consider, 9, none, 2)
theorem wc_X11_consider : Cond.code yX11_consider cX11_consider 9 (none) ∈ zW := zWi 1147 (by decide +kernel) rfl
abbrev Y_X11_stillNeeded : zY := (yX11_stillNeeded, cX11_stillNeeded, 1, some .int, 0)
theorem wc_X11_stillNeeded : Cond.code yX11_stillNeeded cX11_stillNeeded 1 (some .int) ∈ zW := zWi 1143 (by decide +kernel) rfl
abbrev Y_X11_findTins : zY := (yX11_findTins, cX11_findTins, 10, none, 3)
theorem wc_X11_findTins : Cond.code yX11_findTins cX11_findTins 10 (none) ∈ zW := zWi 1135 (by decide +kernel) rfl
abbrev Y_X11_buy : zY := (yX11_buy, cX11_buy, 3, none, 4)
theorem wc_X11_buy : Cond.code yX11_buy cX11_buy 3 (none) ∈ zW := zWi 1131 (by decide +kernel) rfl
abbrev Y_X11_clearNeeds : zY := (yX11_clearNeeds, cX11_clearNeeds, 3, none, 2)
theorem wc_X11_clearNeeds : Cond.code yX11_clearNeeds cX11_clearNeeds 3 (none) ∈ zW := zWi 1112 (by decide +kernel) rfl
abbrev Y_X11_findNeeds : zY := (yX11_findNeeds, cX11_findNeeds, 4, none, 6)
theorem wc_X11_findNeeds : Cond.code yX11_findNeeds cX11_findNeeds 4 (none) ∈ zW := zWi 1108 (by decide +kernel) rfl
abbrev Y_X11_getRest : zY := (yX11_getRest, cX11_getRest, 5, none, 5)
theorem wc_X11_getRest : Cond.code yX11_getRest cX11_getRest 5 (none) ∈ zW := zWi 1127 (by decide +kernel) rfl
abbrev Y_X11_sumOf : zY := (yX11_sumOf, cX11_sumOf, 4, some .int, 0)
theorem wc_X11_sumOf : Cond.code yX11_sumOf cX11_sumOf 4 (some .int) ∈ zW := zWi 1163 (by decide +kernel) rfl
abbrev Y_X11_missingSet : zY := (yX11_missingSet, cX11_missingSet, 3, some .int, 0)
theorem wc_X11_missingSet : Cond.code yX11_missingSet cX11_missingSet 3 (some .int) ∈ zW := zWi 1155 (by decide +kernel) rfl
abbrev Y_X11_hasPortions : zY := (yX11_hasPortions, cX11_hasPortions, 3, some .boolean, 1)
theorem wc_X11_hasPortions : Cond.code yX11_hasPortions cX11_hasPortions 3 (some .boolean) ∈ zW := zWi 1151 (by decide +kernel) rfl
abbrev Y_X11_canCook : zY := (yX11_canCook, cX11_canCook, 1, some .boolean, 7)
theorem wc_X11_canCook : Cond.code yX11_canCook cX11_canCook 1 (some .boolean) ∈ zW := zWi 1104 (by decide +kernel) rfl
abbrev Y_X11_cook : zY := (yX11_cook, cX11_cook, 2, some .int, 8)
theorem wc_X11_cook : Cond.code yX11_cook cX11_cook 2 (some .int) ∈ zW := zWi 1100 (by decide +kernel) rfl
abbrev Y_X11_lastsOf : zY := (yX11_lastsOf, cX11_lastsOf, 6, some .int, 2)
theorem wc_X11_lastsOf : Cond.code yX11_lastsOf cX11_lastsOf 6 (some .int) ∈ zW := zWi 1236 (by decide +kernel) rfl
abbrev Y_X11_isOn : zY := (yX11_isOn, cX11_isOn, 3, some .boolean, 1)
theorem wc_X11_isOn : Cond.code yX11_isOn cX11_isOn 3 (some .boolean) ∈ zW := zWi 1252 (by decide +kernel) rfl
abbrev Y_X11_handsOf : zY := (yX11_handsOf, cX11_handsOf, 2, some .int, 2)
theorem wc_X11_handsOf : Cond.code yX11_handsOf cX11_handsOf 2 (some .int) ∈ zW := zWi 1260 (by decide +kernel) rfl
abbrev Y_X11_aheadOf : zY := (yX11_aheadOf, cX11_aheadOf, 2, some .int, 2)
theorem wc_X11_aheadOf : Cond.code yX11_aheadOf cX11_aheadOf 2 (some .int) ∈ zW := zWi 1256 (by decide +kernel) rfl
abbrev Y_X11_findTails : zY := (yX11_findTails, cX11_findTails, 5, none, 3)
theorem wc_X11_findTails : Cond.code yX11_findTails cX11_findTails 5 (none) ∈ zW := zWi 1248 (by decide +kernel) rfl
abbrev Y_X11_hasEnded : zY := (yX11_hasEnded, cX11_hasEnded, 3, some .boolean, 0)
theorem wc_X11_hasEnded : Cond.code yX11_hasEnded cX11_hasEnded 3 (some .boolean) ∈ zW := zWi 1268 (by decide +kernel) rfl
abbrev Y_X11_isReady : zY := (yX11_isReady, cX11_isReady, 5, some .boolean, 3)
theorem wc_X11_isReady : Cond.code yX11_isReady cX11_isReady 5 (some .boolean) ∈ zW := zWi 1276 (by decide +kernel) rfl
abbrev Y_X11_freeAt : zY := (yX11_freeAt, cX11_freeAt, 5, some .int, 3)
theorem wc_X11_freeAt : Cond.code yX11_freeAt cX11_freeAt 5 (some .int) ∈ zW := zWi 1264 (by decide +kernel) rfl
abbrev Y_X11_nextAt : zY := (yX11_nextAt, cX11_nextAt, 5, some .int, 4)
theorem wc_X11_nextAt : Cond.code yX11_nextAt cX11_nextAt 5 (some .int) ∈ zW := zWi 1272 (by decide +kernel) rfl
abbrev Y_X11_nextEnd : zY := (yX11_nextEnd, cX11_nextEnd, 5, some .int, 2)
theorem wc_X11_nextEnd : Cond.code yX11_nextEnd cX11_nextEnd 5 (some .int) ∈ zW := zWi 1280 (by decide +kernel) rfl
abbrev Y_X11_findTimes : zY := (yX11_findTimes, cX11_findTimes, 6, some .int, 5)
theorem wc_X11_findTimes : Cond.code yX11_findTimes cX11_findTimes 6 (some .int) ∈ zW := zWi 1244 (by decide +kernel) rfl
abbrev Y_X11_bound : zY := (yX11_bound, cX11_bound, 2, some .int, 4)
theorem wc_X11_bound : Cond.code yX11_bound cX11_bound 2 (some .int) ∈ zW := zWi 1296 (by decide +kernel) rfl
abbrev Y_X11_next : zY := (yX11_next, cX11_next, 1, some .int, 0)
theorem wc_X11_next : Cond.code yX11_next cX11_next 1 (some .int) ∈ zW := zWi 1175 (by decide +kernel) rfl
abbrev Y_X11_takeNumber : zY := (yX11_takeNumber, cX11_takeNumber, 3, some .int, 1)
theorem wc_X11_takeNumber : Cond.code yX11_takeNumber cX11_takeNumber 3 (some .int) ∈ zW := zWi 1171 (by decide +kernel) rfl
abbrev Y_X11_takeAmount : zY := (yX11_takeAmount, cX11_takeAmount, 2, none, 2)
theorem wc_X11_takeAmount : Cond.code yX11_takeAmount cX11_takeAmount 2 (none) ∈ zW := zWi 1179 (by decide +kernel) rfl
abbrev Y_X11_takeDigit : zY := (yX11_takeDigit, cX11_takeDigit, 4, some .int, 1)
theorem wc_X11_takeDigit : Cond.code yX11_takeDigit cX11_takeDigit 4 (some .int) ∈ zW := zWi 1187 (by decide +kernel) rfl
abbrev Y_X11_takeStep : zY := (yX11_takeStep, cX11_takeStep, 3, none, 2)
theorem wc_X11_takeStep : Cond.code yX11_takeStep cX11_takeStep 3 (none) ∈ zW := zWi 1183 (by decide +kernel) rfl
abbrev Y_X11_fault : zY := (yX11_fault, cX11_fault, 2, some .int, 3)
theorem wc_X11_fault : Cond.code yX11_fault cX11_fault 2 (some .int) ∈ zW := zWi 1167 (by decide +kernel) rfl
abbrev Y_X11_recipe : zY := (yX11_recipe, cX11_recipe, 3, some .int, 4)
theorem wc_X11_recipe : Cond.code yX11_recipe cX11_recipe 3 (some .int) ∈ zW := zWi 1191 (by decide +kernel) rfl
abbrev Y_X11_amount : zY := (yX11_amount, cX11_amount, 5, some .int, 1)
theorem wc_X11_amount : Cond.code yX11_amount cX11_amount 5 (some .int) ∈ zW := zWi 1196 (by decide +kernel) rfl
abbrev Y_X11_menu : zY := (yX11_menu, cX11_menu, 4, some .int, 1)
theorem wc_X11_menu : Cond.code yX11_menu cX11_menu 4 (some .int) ∈ zW := zWi 1204 (by decide +kernel) rfl
abbrev Y_X11_hands : zY := (yX11_hands, cX11_hands, 3, some .int, 1)
theorem wc_X11_hands : Cond.code yX11_hands cX11_hands 3 (some .int) ∈ zW := zWi 1208 (by decide +kernel) rfl
abbrev Y_X11_about : zY := (yX11_about, cX11_about, 3, some .int, 3)
theorem wc_X11_about : Cond.code yX11_about cX11_about 3 (some .int) ∈ zW := zWi 1212 (by decide +kernel) rfl
abbrev Y_X11_ofTin : zY := (yX11_ofTin, cX11_ofTin, 4, some .int, 7)
theorem wc_X11_ofTin : Cond.code yX11_ofTin cX11_ofTin 4 (some .int) ∈ zW := zWi 1224 (by decide +kernel) rfl
abbrev Y_X11_needs : zY := (yX11_needs, cX11_needs, 3, some .int, 7)
theorem wc_X11_needs : Cond.code yX11_needs cX11_needs 3 (some .int) ∈ zW := zWi 1228 (by decide +kernel) rfl
abbrev Y_X11_step : zY := (yX11_step, cX11_step, 5, some .int, 6)
theorem wc_X11_step : Cond.code yX11_step cX11_step 5 (some .int) ∈ zW := zWi 1232 (by decide +kernel) rfl
abbrev Y_X11_ofRecipe : zY := (yX11_ofRecipe, cX11_ofRecipe, 3, some .int, 1)
theorem wc_X11_ofRecipe : Cond.code yX11_ofRecipe cX11_ofRecipe 3 (some .int) ∈ zW := zWi 1284 (by decide +kernel) rfl
abbrev Y_X11_ofPlan : zY := (yX11_ofPlan, cX11_ofPlan, 3, some .int, 8)
theorem wc_X11_ofPlan : Cond.code yX11_ofPlan cX11_ofPlan 3 (some .int) ∈ zW := zWi 1292 (by decide +kernel) rfl
abbrev Y_X11_count : zY := (yX11_count, cX11_count, 2, some .int, 9)
theorem wc_X11_count : Cond.code yX11_count cX11_count 2 (some .int) ∈ zW := zWi 1288 (by decide +kernel) rfl
abbrev Y_X11_bestPortions : zY := (yX11_bestPortions, cX11_bestPortions, 9, some .int, 8)
theorem wc_X11_bestPortions : Cond.code yX11_bestPortions cX11_bestPortions 9 (some .int) ∈ zW := zWi 1300 (by decide +kernel) rfl
abbrev Y_X11_fewestHands : zY := (yX11_fewestHands, cX11_fewestHands, 4, some .int, 6)
theorem wc_X11_fewestHands : Cond.code yX11_fewestHands cX11_fewestHands 4 (some .int) ∈ zW := zWi 1304 (by decide +kernel) rfl
abbrev Y_X11_ifBuyable : zY := (yX11_ifBuyable, cX11_ifBuyable, 4, some .int, 7)
theorem wc_X11_ifBuyable : Cond.code yX11_ifBuyable cX11_ifBuyable 4 (some .int) ∈ zW := zWi 1308 (by decide +kernel) rfl
abbrev Y_X11_put : zY := (yX11_put, cX11_put, 7, some .int, 1)
theorem wc_X11_put : Cond.code yX11_put cX11_put 7 (some .int) ∈ zW := zWi 1312 (by decide +kernel) rfl
abbrev Y_X11_wipe : zY := (yX11_wipe, cX11_wipe, 2, some .int, 0)
theorem wc_X11_wipe : Cond.code yX11_wipe cX11_wipe 2 (some .int) ∈ zW := zWi 1317 (by decide +kernel) rfl
abbrev Y_X11_undo : zY := (yX11_undo, cX11_undo, 2, some .int, 0)
theorem wc_X11_undo : Cond.code yX11_undo cX11_undo 2 (some .int) ∈ zW := zWi 1321 (by decide +kernel) rfl
abbrev Y_X11_save : zY := (yX11_save, cX11_save, 3, some .int, 1)
theorem wc_X11_save : Cond.code yX11_save cX11_save 3 (some .int) ∈ zW := zWi 1325 (by decide +kernel) rfl
abbrev Y_X11_restore : zY := (yX11_restore, cX11_restore, 3, some .int, 1)
theorem wc_X11_restore : Cond.code yX11_restore cX11_restore 3 (some .int) ∈ zW := zWi 1329 (by decide +kernel) rfl
abbrev Y_J9_floorMod_7cf53 : zY := (yJ9_floorMod_7cf53, cJ9_floorMod_7cf53, 3, some .int, 0)
theorem wc_J9_floorMod_7cf53 : Cond.code yJ9_floorMod_7cf53 cJ9_floorMod_7cf53 3 (some .int) ∈ zW := zWi 495 (by decide +kernel) rfl
abbrev Y_J9_max_7cf53 : zY := (yJ9_max_7cf53, cJ9_max_7cf53, 2, some .int, 0)
theorem wc_J9_max_7cf53 : Cond.code yJ9_max_7cf53 cJ9_max_7cf53 2 (some .int) ∈ zW := zWi 622 (by decide +kernel) rfl
abbrev Y_J9_min_7cf53 : zY := (yJ9_min_7cf53, cJ9_min_7cf53, 2, some .int, 0)
theorem wc_J9_min_7cf53 : Cond.code yJ9_min_7cf53 cJ9_min_7cf53 2 (some .int) ∈ zW := zWi 518 (by decide +kernel) rfl
theorem wi_X10 : Cond.initialized RX10 ∈ zW := zWi 76 (by decide +kernel) rfl
theorem wi_X0 : Cond.initialized RX0 ∈ zW := zWi 81 (by decide +kernel) rfl
theorem wi_X1 : Cond.initialized RX1 ∈ zW := zWi 78 (by decide +kernel) rfl
theorem wi_X2 : Cond.initialized RX2 ∈ zW := zWi 82 (by decide +kernel) rfl
theorem wi_X3 : Cond.initialized RX3 ∈ zW := zWi 83 (by decide +kernel) rfl
theorem wi_X4 : Cond.initialized RX4 ∈ zW := zWi 79 (by decide +kernel) rfl
theorem wi_X5 : Cond.initialized RX5 ∈ zW := zWi 86 (by decide +kernel) rfl
theorem wi_X6 : Cond.initialized RX6 ∈ zW := zWi 84 (by decide +kernel) rfl
theorem wi_X7 : Cond.initialized RX7 ∈ zW := zWi 77 (by decide +kernel) rfl
theorem wi_X8 : Cond.initialized RX8 ∈ zW := zWi 80 (by decide +kernel) rfl
theorem wi_X9 : Cond.initialized RX9 ∈ zW := zWi 85 (by decide +kernel) rfl
theorem wi_X11 : Cond.initialized RX11 ∈ zW := zWi 87 (by decide +kernel) rfl
theorem wi_J9 : Cond.initialized RJ9 ∈ zW := zWi 88 (by decide +kernel) rfl
theorem wi_sys : Cond.initialized "java/lang/System" ∈ zW := zWi 89 (by decide +kernel) rfl
theorem wu_X0 : ∀ w ∈ u_ws RX0 TX0 3, w ∈ zW := zWs [286, 288, 290] (by decide +kernel) (by decide +kernel)
theorem wu_X1 : ∀ w ∈ u_ws RX1 TX1 12, w ∈ zW := zWs [144, 146, 148, 150, 152, 154, 156, 158, 160, 162, 164, 166] (by decide +kernel) (by decide +kernel)
theorem wu_X2 : ∀ w ∈ u_ws RX2 TX2 2, w ∈ zW := zWs [303, 305] (by decide +kernel) (by decide +kernel)
theorem wu_X3 : ∀ w ∈ u_ws RX3 TX3 4, w ∈ zW := zWs [323, 325, 327, 329] (by decide +kernel) (by decide +kernel)
theorem wu_X4 : ∀ w ∈ u_ws RX4 TX4 5, w ∈ zW := zWs [226, 228, 230, 232, 234] (by decide +kernel) (by decide +kernel)
theorem wu_X5 : ∀ w ∈ u_ws RX5 TX5 9, w ∈ zW := zWs [438, 440, 442, 444, 446, 448, 450, 452, 454] (by decide +kernel) (by decide +kernel)
theorem wu_X6 : ∀ w ∈ u_ws RX6 TX6 10, w ∈ zW := zWs [399, 401, 403, 405, 407, 409, 411, 413, 415, 417] (by decide +kernel) (by decide +kernel)
theorem wu_X7 : ∀ w ∈ u_ws RX7 TX7 8, w ∈ zW := zWs [256, 258, 260, 262, 264, 266, 268, 270] (by decide +kernel) (by decide +kernel)
theorem wu_X8 : ∀ w ∈ u_ws RX8 TX8 4, w ∈ zW := zWs [198, 200, 202, 204] (by decide +kernel) (by decide +kernel)
theorem wu_X9 : ∀ w ∈ u_ws RX9 TX9 10, w ∈ zW := zWs [359, 361, 363, 365, 367, 369, 371, 373, 375, 377] (by decide +kernel) (by decide +kernel)
theorem wu_X10 : ∀ w ∈ u_ws RX10 TX10 8, w ∈ zW := zWs [465, 467, 469, 471, 473, 475, 477, 479] (by decide +kernel) (by decide +kernel)
theorem wu_X11 : ∀ w ∈ u_ws RX11 TX11 31, w ∈ zW := zWs [970, 972, 974, 976, 978, 980, 982, 984, 986, 988, 990, 992, 994, 996, 998, 1000, 1002, 1004, 1006, 1008, 1010, 1012, 1014, 1016, 1018, 1020, 1022, 1024, 1026, 1028, 1030] (by decide +kernel) (by decide +kernel)
theorem wf_X1_21 : Cond.fieldLink RX1 21 RX1 (TX1 0).2.1 (TX1 0).2.2.1 ∈ zW := zWi 113 (by decide +kernel) rfl
theorem FL_X1_21 : zFL RX1 21 1 0 := ⟨RX1, TX1, 12, rfl, rfl, by decide, rfl, wf_X1_21, wu_X1⟩
theorem FP_X1_21 : zFP RX1 21 1 0 .int := ⟨RX1, TX1, 12, tyX1, rfl, rfl, by decide, rfl, wf_X1_21, wu_X1, tyX1_ok, nmX1, rfl, rfl⟩
theorem wf_X10_190 : Cond.fieldLink RX10 190 RX1 (TX1 0).2.1 (TX1 0).2.2.1 ∈ zW := zWi 114 (by decide +kernel) rfl
theorem FL_X10_190 : zFL RX10 190 1 0 := ⟨RX1, TX1, 12, rfl, rfl, by decide, rfl, wf_X10_190, wu_X1⟩
theorem FP_X10_190 : zFP RX10 190 1 0 .int := ⟨RX1, TX1, 12, tyX1, rfl, rfl, by decide, rfl, wf_X10_190, wu_X1, tyX1_ok, nmX1, rfl, rfl⟩
theorem wf_X1_25 : Cond.fieldLink RX1 25 RX1 (TX1 1).2.1 (TX1 1).2.2.1 ∈ zW := zWi 115 (by decide +kernel) rfl
theorem FL_X1_25 : zFL RX1 25 1 1 := ⟨RX1, TX1, 12, rfl, rfl, by decide, rfl, wf_X1_25, wu_X1⟩
theorem FP_X1_25 : zFP RX1 25 1 1 .boolean := ⟨RX1, TX1, 12, tyX1, rfl, rfl, by decide, rfl, wf_X1_25, wu_X1, tyX1_ok, nmX1, rfl, rfl⟩
theorem wf_X10_97 : Cond.fieldLink RX10 97 RX1 (TX1 1).2.1 (TX1 1).2.2.1 ∈ zW := zWi 116 (by decide +kernel) rfl
theorem FL_X10_97 : zFL RX10 97 1 1 := ⟨RX1, TX1, 12, rfl, rfl, by decide, rfl, wf_X10_97, wu_X1⟩
theorem FP_X10_97 : zFP RX10 97 1 1 .boolean := ⟨RX1, TX1, 12, tyX1, rfl, rfl, by decide, rfl, wf_X10_97, wu_X1, tyX1_ok, nmX1, rfl, rfl⟩
theorem wf_X6_78 : Cond.fieldLink RX6 78 RX1 (TX1 1).2.1 (TX1 1).2.2.1 ∈ zW := zWi 117 (by decide +kernel) rfl
theorem FL_X6_78 : zFL RX6 78 1 1 := ⟨RX1, TX1, 12, rfl, rfl, by decide, rfl, wf_X6_78, wu_X1⟩
theorem FP_X6_78 : zFP RX6 78 1 1 .boolean := ⟨RX1, TX1, 12, tyX1, rfl, rfl, by decide, rfl, wf_X6_78, wu_X1, tyX1_ok, nmX1, rfl, rfl⟩
theorem wf_X1_29 : Cond.fieldLink RX1 29 RX1 (TX1 2).2.1 (TX1 2).2.2.1 ∈ zW := zWi 118 (by decide +kernel) rfl
theorem FL_X1_29 : zFL RX1 29 1 2 := ⟨RX1, TX1, 12, rfl, rfl, by decide, rfl, wf_X1_29, wu_X1⟩
theorem FP_X1_29 : zFP RX1 29 1 2 .int := ⟨RX1, TX1, 12, tyX1, rfl, rfl, by decide, rfl, wf_X1_29, wu_X1, tyX1_ok, nmX1, rfl, rfl⟩
theorem wf_X10_87 : Cond.fieldLink RX10 87 RX1 (TX1 2).2.1 (TX1 2).2.2.1 ∈ zW := zWi 119 (by decide +kernel) rfl
theorem FL_X10_87 : zFL RX10 87 1 2 := ⟨RX1, TX1, 12, rfl, rfl, by decide, rfl, wf_X10_87, wu_X1⟩
theorem FP_X10_87 : zFP RX10 87 1 2 .int := ⟨RX1, TX1, 12, tyX1, rfl, rfl, by decide, rfl, wf_X10_87, wu_X1, tyX1_ok, nmX1, rfl, rfl⟩
theorem wf_X6_82 : Cond.fieldLink RX6 82 RX1 (TX1 2).2.1 (TX1 2).2.2.1 ∈ zW := zWi 120 (by decide +kernel) rfl
theorem FL_X6_82 : zFL RX6 82 1 2 := ⟨RX1, TX1, 12, rfl, rfl, by decide, rfl, wf_X6_82, wu_X1⟩
theorem FP_X6_82 : zFP RX6 82 1 2 .int := ⟨RX1, TX1, 12, tyX1, rfl, rfl, by decide, rfl, wf_X6_82, wu_X1, tyX1_ok, nmX1, rfl, rfl⟩
theorem wf_X1_9 : Cond.fieldLink RX1 9 RX1 (TX1 3).2.1 (TX1 3).2.2.1 ∈ zW := zWi 121 (by decide +kernel) rfl
theorem FL_X1_9 : zFL RX1 9 1 3 := ⟨RX1, TX1, 12, rfl, rfl, by decide, rfl, wf_X1_9, wu_X1⟩
theorem wf_X9_40 : Cond.fieldLink RX9 40 RX1 (TX1 3).2.1 (TX1 3).2.2.1 ∈ zW := zWi 122 (by decide +kernel) rfl
theorem FL_X9_40 : zFL RX9 40 1 3 := ⟨RX1, TX1, 12, rfl, rfl, by decide, rfl, wf_X9_40, wu_X1⟩
theorem wf_X10_211 : Cond.fieldLink RX10 211 RX1 (TX1 3).2.1 (TX1 3).2.2.1 ∈ zW := zWi 123 (by decide +kernel) rfl
theorem FL_X10_211 : zFL RX10 211 1 3 := ⟨RX1, TX1, 12, rfl, rfl, by decide, rfl, wf_X10_211, wu_X1⟩
theorem wf_X1_15 : Cond.fieldLink RX1 15 RX1 (TX1 4).2.1 (TX1 4).2.2.1 ∈ zW := zWi 124 (by decide +kernel) rfl
theorem FL_X1_15 : zFL RX1 15 1 4 := ⟨RX1, TX1, 12, rfl, rfl, by decide, rfl, wf_X1_15, wu_X1⟩
theorem wf_X9_43 : Cond.fieldLink RX9 43 RX1 (TX1 4).2.1 (TX1 4).2.2.1 ∈ zW := zWi 125 (by decide +kernel) rfl
theorem FL_X9_43 : zFL RX9 43 1 4 := ⟨RX1, TX1, 12, rfl, rfl, by decide, rfl, wf_X9_43, wu_X1⟩
theorem wf_X10_214 : Cond.fieldLink RX10 214 RX1 (TX1 4).2.1 (TX1 4).2.2.1 ∈ zW := zWi 126 (by decide +kernel) rfl
theorem FL_X10_214 : zFL RX10 214 1 4 := ⟨RX1, TX1, 12, rfl, rfl, by decide, rfl, wf_X10_214, wu_X1⟩
theorem wf_X1_32 : Cond.fieldLink RX1 32 RX1 (TX1 5).2.1 (TX1 5).2.2.1 ∈ zW := zWi 127 (by decide +kernel) rfl
theorem FL_X1_32 : zFL RX1 32 1 5 := ⟨RX1, TX1, 12, rfl, rfl, by decide, rfl, wf_X1_32, wu_X1⟩
theorem FP_X1_32 : zFP RX1 32 1 5 .int := ⟨RX1, TX1, 12, tyX1, rfl, rfl, by decide, rfl, wf_X1_32, wu_X1, tyX1_ok, nmX1, rfl, rfl⟩
theorem wf_X10_105 : Cond.fieldLink RX10 105 RX1 (TX1 5).2.1 (TX1 5).2.2.1 ∈ zW := zWi 128 (by decide +kernel) rfl
theorem FL_X10_105 : zFL RX10 105 1 5 := ⟨RX1, TX1, 12, rfl, rfl, by decide, rfl, wf_X10_105, wu_X1⟩
theorem FP_X10_105 : zFP RX10 105 1 5 .int := ⟨RX1, TX1, 12, tyX1, rfl, rfl, by decide, rfl, wf_X10_105, wu_X1, tyX1_ok, nmX1, rfl, rfl⟩
theorem wf_X6_110 : Cond.fieldLink RX6 110 RX1 (TX1 5).2.1 (TX1 5).2.2.1 ∈ zW := zWi 129 (by decide +kernel) rfl
theorem FL_X6_110 : zFL RX6 110 1 5 := ⟨RX1, TX1, 12, rfl, rfl, by decide, rfl, wf_X6_110, wu_X1⟩
theorem FP_X6_110 : zFP RX6 110 1 5 .int := ⟨RX1, TX1, 12, tyX1, rfl, rfl, by decide, rfl, wf_X6_110, wu_X1, tyX1_ok, nmX1, rfl, rfl⟩
theorem wf_X1_35 : Cond.fieldLink RX1 35 RX1 (TX1 6).2.1 (TX1 6).2.2.1 ∈ zW := zWi 130 (by decide +kernel) rfl
theorem FL_X1_35 : zFL RX1 35 1 6 := ⟨RX1, TX1, 12, rfl, rfl, by decide, rfl, wf_X1_35, wu_X1⟩
theorem FP_X1_35 : zFP RX1 35 1 6 .int := ⟨RX1, TX1, 12, tyX1, rfl, rfl, by decide, rfl, wf_X1_35, wu_X1, tyX1_ok, nmX1, rfl, rfl⟩
theorem wf_X10_108 : Cond.fieldLink RX10 108 RX1 (TX1 6).2.1 (TX1 6).2.2.1 ∈ zW := zWi 131 (by decide +kernel) rfl
theorem FL_X10_108 : zFL RX10 108 1 6 := ⟨RX1, TX1, 12, rfl, rfl, by decide, rfl, wf_X10_108, wu_X1⟩
theorem FP_X10_108 : zFP RX10 108 1 6 .int := ⟨RX1, TX1, 12, tyX1, rfl, rfl, by decide, rfl, wf_X10_108, wu_X1, tyX1_ok, nmX1, rfl, rfl⟩
theorem wf_X6_117 : Cond.fieldLink RX6 117 RX1 (TX1 6).2.1 (TX1 6).2.2.1 ∈ zW := zWi 132 (by decide +kernel) rfl
theorem FL_X6_117 : zFL RX6 117 1 6 := ⟨RX1, TX1, 12, rfl, rfl, by decide, rfl, wf_X6_117, wu_X1⟩
theorem FP_X6_117 : zFP RX6 117 1 6 .int := ⟨RX1, TX1, 12, tyX1, rfl, rfl, by decide, rfl, wf_X6_117, wu_X1, tyX1_ok, nmX1, rfl, rfl⟩
theorem wf_X1_18 : Cond.fieldLink RX1 18 RX1 (TX1 7).2.1 (TX1 7).2.2.1 ∈ zW := zWi 133 (by decide +kernel) rfl
theorem FL_X1_18 : zFL RX1 18 1 7 := ⟨RX1, TX1, 12, rfl, rfl, by decide, rfl, wf_X1_18, wu_X1⟩
theorem wf_X1_38 : Cond.fieldLink RX1 38 RX1 (TX1 8).2.1 (TX1 8).2.2.1 ∈ zW := zWi 134 (by decide +kernel) rfl
theorem FL_X1_38 : zFL RX1 38 1 8 := ⟨RX1, TX1, 12, rfl, rfl, by decide, rfl, wf_X1_38, wu_X1⟩
theorem FP_X1_38 : zFP RX1 38 1 8 .int := ⟨RX1, TX1, 12, tyX1, rfl, rfl, by decide, rfl, wf_X1_38, wu_X1, tyX1_ok, nmX1, rfl, rfl⟩
theorem wf_X6_134 : Cond.fieldLink RX6 134 RX1 (TX1 8).2.1 (TX1 8).2.2.1 ∈ zW := zWi 135 (by decide +kernel) rfl
theorem FL_X6_134 : zFL RX6 134 1 8 := ⟨RX1, TX1, 12, rfl, rfl, by decide, rfl, wf_X6_134, wu_X1⟩
theorem FP_X6_134 : zFP RX6 134 1 8 .int := ⟨RX1, TX1, 12, tyX1, rfl, rfl, by decide, rfl, wf_X6_134, wu_X1, tyX1_ok, nmX1, rfl, rfl⟩
theorem wf_X10_199 : Cond.fieldLink RX10 199 RX1 (TX1 8).2.1 (TX1 8).2.2.1 ∈ zW := zWi 136 (by decide +kernel) rfl
theorem FL_X10_199 : zFL RX10 199 1 8 := ⟨RX1, TX1, 12, rfl, rfl, by decide, rfl, wf_X10_199, wu_X1⟩
theorem FP_X10_199 : zFP RX10 199 1 8 .int := ⟨RX1, TX1, 12, tyX1, rfl, rfl, by decide, rfl, wf_X10_199, wu_X1, tyX1_ok, nmX1, rfl, rfl⟩
theorem wf_X1_41 : Cond.fieldLink RX1 41 RX1 (TX1 9).2.1 (TX1 9).2.2.1 ∈ zW := zWi 137 (by decide +kernel) rfl
theorem FL_X1_41 : zFL RX1 41 1 9 := ⟨RX1, TX1, 12, rfl, rfl, by decide, rfl, wf_X1_41, wu_X1⟩
theorem FP_X1_41 : zFP RX1 41 1 9 .int := ⟨RX1, TX1, 12, tyX1, rfl, rfl, by decide, rfl, wf_X1_41, wu_X1, tyX1_ok, nmX1, rfl, rfl⟩
theorem wf_X6_136 : Cond.fieldLink RX6 136 RX1 (TX1 9).2.1 (TX1 9).2.2.1 ∈ zW := zWi 138 (by decide +kernel) rfl
theorem FL_X6_136 : zFL RX6 136 1 9 := ⟨RX1, TX1, 12, rfl, rfl, by decide, rfl, wf_X6_136, wu_X1⟩
theorem FP_X6_136 : zFP RX6 136 1 9 .int := ⟨RX1, TX1, 12, tyX1, rfl, rfl, by decide, rfl, wf_X6_136, wu_X1, tyX1_ok, nmX1, rfl, rfl⟩
theorem wf_X10_202 : Cond.fieldLink RX10 202 RX1 (TX1 9).2.1 (TX1 9).2.2.1 ∈ zW := zWi 139 (by decide +kernel) rfl
theorem FL_X10_202 : zFL RX10 202 1 9 := ⟨RX1, TX1, 12, rfl, rfl, by decide, rfl, wf_X10_202, wu_X1⟩
theorem FP_X10_202 : zFP RX10 202 1 9 .int := ⟨RX1, TX1, 12, tyX1, rfl, rfl, by decide, rfl, wf_X10_202, wu_X1, tyX1_ok, nmX1, rfl, rfl⟩
theorem wf_X1_44 : Cond.fieldLink RX1 44 RX1 (TX1 10).2.1 (TX1 10).2.2.1 ∈ zW := zWi 140 (by decide +kernel) rfl
theorem FL_X1_44 : zFL RX1 44 1 10 := ⟨RX1, TX1, 12, rfl, rfl, by decide, rfl, wf_X1_44, wu_X1⟩
theorem FP_X1_44 : zFP RX1 44 1 10 .int := ⟨RX1, TX1, 12, tyX1, rfl, rfl, by decide, rfl, wf_X1_44, wu_X1, tyX1_ok, nmX1, rfl, rfl⟩
theorem wf_X10_205 : Cond.fieldLink RX10 205 RX1 (TX1 10).2.1 (TX1 10).2.2.1 ∈ zW := zWi 141 (by decide +kernel) rfl
theorem FL_X10_205 : zFL RX10 205 1 10 := ⟨RX1, TX1, 12, rfl, rfl, by decide, rfl, wf_X10_205, wu_X1⟩
theorem FP_X10_205 : zFP RX10 205 1 10 .int := ⟨RX1, TX1, 12, tyX1, rfl, rfl, by decide, rfl, wf_X10_205, wu_X1, tyX1_ok, nmX1, rfl, rfl⟩
theorem wf_X1_47 : Cond.fieldLink RX1 47 RX1 (TX1 11).2.1 (TX1 11).2.2.1 ∈ zW := zWi 142 (by decide +kernel) rfl
theorem FL_X1_47 : zFL RX1 47 1 11 := ⟨RX1, TX1, 12, rfl, rfl, by decide, rfl, wf_X1_47, wu_X1⟩
theorem FP_X1_47 : zFP RX1 47 1 11 .int := ⟨RX1, TX1, 12, tyX1, rfl, rfl, by decide, rfl, wf_X1_47, wu_X1, tyX1_ok, nmX1, rfl, rfl⟩
theorem wf_X10_122 : Cond.fieldLink RX10 122 RX1 (TX1 11).2.1 (TX1 11).2.2.1 ∈ zW := zWi 143 (by decide +kernel) rfl
theorem FL_X10_122 : zFL RX10 122 1 11 := ⟨RX1, TX1, 12, rfl, rfl, by decide, rfl, wf_X10_122, wu_X1⟩
theorem FP_X10_122 : zFP RX10 122 1 11 .int := ⟨RX1, TX1, 12, tyX1, rfl, rfl, by decide, rfl, wf_X10_122, wu_X1, tyX1_ok, nmX1, rfl, rfl⟩
theorem wf_X8_7 : Cond.fieldLink RX8 7 RX8 (TX8 0).2.1 (TX8 0).2.2.1 ∈ zW := zWi 182 (by decide +kernel) rfl
theorem FL_X8_7 : zFL RX8 7 8 0 := ⟨RX8, TX8, 4, rfl, rfl, by decide, rfl, wf_X8_7, wu_X8⟩
theorem FP_X8_7 : zFP RX8 7 8 0 .int := ⟨RX8, TX8, 4, tyX8, rfl, rfl, by decide, rfl, wf_X8_7, wu_X8, tyX8_ok, nmX8, rfl, rfl⟩
theorem wf_X4_59 : Cond.fieldLink RX4 59 RX8 (TX8 0).2.1 (TX8 0).2.2.1 ∈ zW := zWi 183 (by decide +kernel) rfl
theorem FL_X4_59 : zFL RX4 59 8 0 := ⟨RX8, TX8, 4, rfl, rfl, by decide, rfl, wf_X4_59, wu_X8⟩
theorem FP_X4_59 : zFP RX4 59 8 0 .int := ⟨RX8, TX8, 4, tyX8, rfl, rfl, by decide, rfl, wf_X4_59, wu_X8, tyX8_ok, nmX8, rfl, rfl⟩
theorem wf_X3_80 : Cond.fieldLink RX3 80 RX8 (TX8 0).2.1 (TX8 0).2.2.1 ∈ zW := zWi 184 (by decide +kernel) rfl
theorem FL_X3_80 : zFL RX3 80 8 0 := ⟨RX8, TX8, 4, rfl, rfl, by decide, rfl, wf_X3_80, wu_X8⟩
theorem FP_X3_80 : zFP RX3 80 8 0 .int := ⟨RX8, TX8, 4, tyX8, rfl, rfl, by decide, rfl, wf_X3_80, wu_X8, tyX8_ok, nmX8, rfl, rfl⟩
theorem wf_X10_251 : Cond.fieldLink RX10 251 RX8 (TX8 0).2.1 (TX8 0).2.2.1 ∈ zW := zWi 185 (by decide +kernel) rfl
theorem FL_X10_251 : zFL RX10 251 8 0 := ⟨RX8, TX8, 4, rfl, rfl, by decide, rfl, wf_X10_251, wu_X8⟩
theorem FP_X10_251 : zFP RX10 251 8 0 .int := ⟨RX8, TX8, 4, tyX8, rfl, rfl, by decide, rfl, wf_X10_251, wu_X8, tyX8_ok, nmX8, rfl, rfl⟩
theorem wf_X8_13 : Cond.fieldLink RX8 13 RX8 (TX8 1).2.1 (TX8 1).2.2.1 ∈ zW := zWi 186 (by decide +kernel) rfl
theorem FL_X8_13 : zFL RX8 13 8 1 := ⟨RX8, TX8, 4, rfl, rfl, by decide, rfl, wf_X8_13, wu_X8⟩
theorem FP_X8_13 : zFP RX8 13 8 1 .int := ⟨RX8, TX8, 4, tyX8, rfl, rfl, by decide, rfl, wf_X8_13, wu_X8, tyX8_ok, nmX8, rfl, rfl⟩
theorem wf_X5_71 : Cond.fieldLink RX5 71 RX8 (TX8 1).2.1 (TX8 1).2.2.1 ∈ zW := zWi 187 (by decide +kernel) rfl
theorem FL_X5_71 : zFL RX5 71 8 1 := ⟨RX8, TX8, 4, rfl, rfl, by decide, rfl, wf_X5_71, wu_X8⟩
theorem FP_X5_71 : zFP RX5 71 8 1 .int := ⟨RX8, TX8, 4, tyX8, rfl, rfl, by decide, rfl, wf_X5_71, wu_X8, tyX8_ok, nmX8, rfl, rfl⟩
theorem wf_X3_89 : Cond.fieldLink RX3 89 RX8 (TX8 1).2.1 (TX8 1).2.2.1 ∈ zW := zWi 188 (by decide +kernel) rfl
theorem FL_X3_89 : zFL RX3 89 8 1 := ⟨RX8, TX8, 4, rfl, rfl, by decide, rfl, wf_X3_89, wu_X8⟩
theorem FP_X3_89 : zFP RX3 89 8 1 .int := ⟨RX8, TX8, 4, tyX8, rfl, rfl, by decide, rfl, wf_X3_89, wu_X8, tyX8_ok, nmX8, rfl, rfl⟩
theorem wf_X10_259 : Cond.fieldLink RX10 259 RX8 (TX8 1).2.1 (TX8 1).2.2.1 ∈ zW := zWi 189 (by decide +kernel) rfl
theorem FL_X10_259 : zFL RX10 259 8 1 := ⟨RX8, TX8, 4, rfl, rfl, by decide, rfl, wf_X10_259, wu_X8⟩
theorem FP_X10_259 : zFP RX10 259 8 1 .int := ⟨RX8, TX8, 4, tyX8, rfl, rfl, by decide, rfl, wf_X10_259, wu_X8, tyX8_ok, nmX8, rfl, rfl⟩
theorem wf_X8_16 : Cond.fieldLink RX8 16 RX8 (TX8 2).2.1 (TX8 2).2.2.1 ∈ zW := zWi 190 (by decide +kernel) rfl
theorem FL_X8_16 : zFL RX8 16 8 2 := ⟨RX8, TX8, 4, rfl, rfl, by decide, rfl, wf_X8_16, wu_X8⟩
theorem FP_X8_16 : zFP RX8 16 8 2 .int := ⟨RX8, TX8, 4, tyX8, rfl, rfl, by decide, rfl, wf_X8_16, wu_X8, tyX8_ok, nmX8, rfl, rfl⟩
theorem wf_X5_75 : Cond.fieldLink RX5 75 RX8 (TX8 2).2.1 (TX8 2).2.2.1 ∈ zW := zWi 191 (by decide +kernel) rfl
theorem FL_X5_75 : zFL RX5 75 8 2 := ⟨RX8, TX8, 4, rfl, rfl, by decide, rfl, wf_X5_75, wu_X8⟩
theorem FP_X5_75 : zFP RX5 75 8 2 .int := ⟨RX8, TX8, 4, tyX8, rfl, rfl, by decide, rfl, wf_X5_75, wu_X8, tyX8_ok, nmX8, rfl, rfl⟩
theorem wf_X3_95 : Cond.fieldLink RX3 95 RX8 (TX8 2).2.1 (TX8 2).2.2.1 ∈ zW := zWi 192 (by decide +kernel) rfl
theorem FL_X3_95 : zFL RX3 95 8 2 := ⟨RX8, TX8, 4, rfl, rfl, by decide, rfl, wf_X3_95, wu_X8⟩
theorem FP_X3_95 : zFP RX3 95 8 2 .int := ⟨RX8, TX8, 4, tyX8, rfl, rfl, by decide, rfl, wf_X3_95, wu_X8, tyX8_ok, nmX8, rfl, rfl⟩
theorem wf_X10_262 : Cond.fieldLink RX10 262 RX8 (TX8 2).2.1 (TX8 2).2.2.1 ∈ zW := zWi 193 (by decide +kernel) rfl
theorem FL_X10_262 : zFL RX10 262 8 2 := ⟨RX8, TX8, 4, rfl, rfl, by decide, rfl, wf_X10_262, wu_X8⟩
theorem FP_X10_262 : zFP RX10 262 8 2 .int := ⟨RX8, TX8, 4, tyX8, rfl, rfl, by decide, rfl, wf_X10_262, wu_X8, tyX8_ok, nmX8, rfl, rfl⟩
theorem wf_X8_19 : Cond.fieldLink RX8 19 RX8 (TX8 3).2.1 (TX8 3).2.2.1 ∈ zW := zWi 194 (by decide +kernel) rfl
theorem FL_X8_19 : zFL RX8 19 8 3 := ⟨RX8, TX8, 4, rfl, rfl, by decide, rfl, wf_X8_19, wu_X8⟩
theorem FP_X8_19 : zFP RX8 19 8 3 .boolean := ⟨RX8, TX8, 4, tyX8, rfl, rfl, by decide, rfl, wf_X8_19, wu_X8, tyX8_ok, nmX8, rfl, rfl⟩
theorem wf_X4_55 : Cond.fieldLink RX4 55 RX8 (TX8 3).2.1 (TX8 3).2.2.1 ∈ zW := zWi 195 (by decide +kernel) rfl
theorem FL_X4_55 : zFL RX4 55 8 3 := ⟨RX8, TX8, 4, rfl, rfl, by decide, rfl, wf_X4_55, wu_X8⟩
theorem FP_X4_55 : zFP RX4 55 8 3 .boolean := ⟨RX8, TX8, 4, tyX8, rfl, rfl, by decide, rfl, wf_X4_55, wu_X8, tyX8_ok, nmX8, rfl, rfl⟩
theorem wf_X3_92 : Cond.fieldLink RX3 92 RX8 (TX8 3).2.1 (TX8 3).2.2.1 ∈ zW := zWi 196 (by decide +kernel) rfl
theorem FL_X3_92 : zFL RX3 92 8 3 := ⟨RX8, TX8, 4, rfl, rfl, by decide, rfl, wf_X3_92, wu_X8⟩
theorem FP_X3_92 : zFP RX3 92 8 3 .boolean := ⟨RX8, TX8, 4, tyX8, rfl, rfl, by decide, rfl, wf_X3_92, wu_X8, tyX8_ok, nmX8, rfl, rfl⟩
theorem wf_X10_265 : Cond.fieldLink RX10 265 RX8 (TX8 3).2.1 (TX8 3).2.2.1 ∈ zW := zWi 197 (by decide +kernel) rfl
theorem FL_X10_265 : zFL RX10 265 8 3 := ⟨RX8, TX8, 4, rfl, rfl, by decide, rfl, wf_X10_265, wu_X8⟩
theorem FP_X10_265 : zFP RX10 265 8 3 .boolean := ⟨RX8, TX8, 4, tyX8, rfl, rfl, by decide, rfl, wf_X10_265, wu_X8, tyX8_ok, nmX8, rfl, rfl⟩
theorem wf_X4_22 : Cond.fieldLink RX4 22 RX4 (TX4 0).2.1 (TX4 0).2.2.1 ∈ zW := zWi 207 (by decide +kernel) rfl
theorem FL_X4_22 : zFL RX4 22 4 0 := ⟨RX4, TX4, 5, rfl, rfl, by decide, rfl, wf_X4_22, wu_X4⟩
theorem FP_X4_22 : zFP RX4 22 4 0 .int := ⟨RX4, TX4, 5, tyX4, rfl, rfl, by decide, rfl, wf_X4_22, wu_X4, tyX4_ok, nmX4, rfl, rfl⟩
theorem wf_X3_37 : Cond.fieldLink RX3 37 RX4 (TX4 0).2.1 (TX4 0).2.2.1 ∈ zW := zWi 208 (by decide +kernel) rfl
theorem FL_X3_37 : zFL RX3 37 4 0 := ⟨RX4, TX4, 5, rfl, rfl, by decide, rfl, wf_X3_37, wu_X4⟩
theorem FP_X3_37 : zFP RX3 37 4 0 .int := ⟨RX4, TX4, 5, tyX4, rfl, rfl, by decide, rfl, wf_X3_37, wu_X4, tyX4_ok, nmX4, rfl, rfl⟩
theorem wf_X10_275 : Cond.fieldLink RX10 275 RX4 (TX4 0).2.1 (TX4 0).2.2.1 ∈ zW := zWi 209 (by decide +kernel) rfl
theorem FL_X10_275 : zFL RX10 275 4 0 := ⟨RX4, TX4, 5, rfl, rfl, by decide, rfl, wf_X10_275, wu_X4⟩
theorem FP_X10_275 : zFP RX10 275 4 0 .int := ⟨RX4, TX4, 5, tyX4, rfl, rfl, by decide, rfl, wf_X10_275, wu_X4, tyX4_ok, nmX4, rfl, rfl⟩
theorem wf_X4_26 : Cond.fieldLink RX4 26 RX4 (TX4 1).2.1 (TX4 1).2.2.1 ∈ zW := zWi 210 (by decide +kernel) rfl
theorem FL_X4_26 : zFL RX4 26 4 1 := ⟨RX4, TX4, 5, rfl, rfl, by decide, rfl, wf_X4_26, wu_X4⟩
theorem FP_X4_26 : zFP RX4 26 4 1 .int := ⟨RX4, TX4, 5, tyX4, rfl, rfl, by decide, rfl, wf_X4_26, wu_X4, tyX4_ok, nmX4, rfl, rfl⟩
theorem wf_X5_46 : Cond.fieldLink RX5 46 RX4 (TX4 1).2.1 (TX4 1).2.2.1 ∈ zW := zWi 211 (by decide +kernel) rfl
theorem FL_X5_46 : zFL RX5 46 4 1 := ⟨RX4, TX4, 5, rfl, rfl, by decide, rfl, wf_X5_46, wu_X4⟩
theorem FP_X5_46 : zFP RX5 46 4 1 .int := ⟨RX4, TX4, 5, tyX4, rfl, rfl, by decide, rfl, wf_X5_46, wu_X4, tyX4_ok, nmX4, rfl, rfl⟩
theorem wf_X7_51 : Cond.fieldLink RX7 51 RX4 (TX4 1).2.1 (TX4 1).2.2.1 ∈ zW := zWi 212 (by decide +kernel) rfl
theorem FL_X7_51 : zFL RX7 51 4 1 := ⟨RX4, TX4, 5, rfl, rfl, by decide, rfl, wf_X7_51, wu_X4⟩
theorem FP_X7_51 : zFP RX7 51 4 1 .int := ⟨RX4, TX4, 5, tyX4, rfl, rfl, by decide, rfl, wf_X7_51, wu_X4, tyX4_ok, nmX4, rfl, rfl⟩
theorem wf_X10_158 : Cond.fieldLink RX10 158 RX4 (TX4 1).2.1 (TX4 1).2.2.1 ∈ zW := zWi 213 (by decide +kernel) rfl
theorem FL_X10_158 : zFL RX10 158 4 1 := ⟨RX4, TX4, 5, rfl, rfl, by decide, rfl, wf_X10_158, wu_X4⟩
theorem FP_X10_158 : zFP RX10 158 4 1 .int := ⟨RX4, TX4, 5, tyX4, rfl, rfl, by decide, rfl, wf_X10_158, wu_X4, tyX4_ok, nmX4, rfl, rfl⟩
theorem wf_X4_29 : Cond.fieldLink RX4 29 RX4 (TX4 2).2.1 (TX4 2).2.2.1 ∈ zW := zWi 214 (by decide +kernel) rfl
theorem FL_X4_29 : zFL RX4 29 4 2 := ⟨RX4, TX4, 5, rfl, rfl, by decide, rfl, wf_X4_29, wu_X4⟩
theorem FP_X4_29 : zFP RX4 29 4 2 .int := ⟨RX4, TX4, 5, tyX4, rfl, rfl, by decide, rfl, wf_X4_29, wu_X4, tyX4_ok, nmX4, rfl, rfl⟩
theorem wf_X5_55 : Cond.fieldLink RX5 55 RX4 (TX4 2).2.1 (TX4 2).2.2.1 ∈ zW := zWi 215 (by decide +kernel) rfl
theorem FL_X5_55 : zFL RX5 55 4 2 := ⟨RX4, TX4, 5, rfl, rfl, by decide, rfl, wf_X5_55, wu_X4⟩
theorem FP_X5_55 : zFP RX5 55 4 2 .int := ⟨RX4, TX4, 5, tyX4, rfl, rfl, by decide, rfl, wf_X5_55, wu_X4, tyX4_ok, nmX4, rfl, rfl⟩
theorem wf_X3_101 : Cond.fieldLink RX3 101 RX4 (TX4 2).2.1 (TX4 2).2.2.1 ∈ zW := zWi 216 (by decide +kernel) rfl
theorem FL_X3_101 : zFL RX3 101 4 2 := ⟨RX4, TX4, 5, rfl, rfl, by decide, rfl, wf_X3_101, wu_X4⟩
theorem FP_X3_101 : zFP RX3 101 4 2 .int := ⟨RX4, TX4, 5, tyX4, rfl, rfl, by decide, rfl, wf_X3_101, wu_X4, tyX4_ok, nmX4, rfl, rfl⟩
theorem wf_X10_278 : Cond.fieldLink RX10 278 RX4 (TX4 2).2.1 (TX4 2).2.2.1 ∈ zW := zWi 217 (by decide +kernel) rfl
theorem FL_X10_278 : zFL RX10 278 4 2 := ⟨RX4, TX4, 5, rfl, rfl, by decide, rfl, wf_X10_278, wu_X4⟩
theorem FP_X10_278 : zFP RX10 278 4 2 .int := ⟨RX4, TX4, 5, tyX4, rfl, rfl, by decide, rfl, wf_X10_278, wu_X4, tyX4_ok, nmX4, rfl, rfl⟩
theorem wf_X4_9 : Cond.fieldLink RX4 9 RX4 (TX4 3).2.1 (TX4 3).2.2.1 ∈ zW := zWi 218 (by decide +kernel) rfl
theorem FL_X4_9 : zFL RX4 9 4 3 := ⟨RX4, TX4, 5, rfl, rfl, by decide, rfl, wf_X4_9, wu_X4⟩
theorem wf_X3_72 : Cond.fieldLink RX3 72 RX4 (TX4 3).2.1 (TX4 3).2.2.1 ∈ zW := zWi 219 (by decide +kernel) rfl
theorem FL_X3_72 : zFL RX3 72 4 3 := ⟨RX4, TX4, 5, rfl, rfl, by decide, rfl, wf_X3_72, wu_X4⟩
theorem wf_X7_58 : Cond.fieldLink RX7 58 RX4 (TX4 3).2.1 (TX4 3).2.2.1 ∈ zW := zWi 220 (by decide +kernel) rfl
theorem FL_X7_58 : zFL RX7 58 4 3 := ⟨RX4, TX4, 5, rfl, rfl, by decide, rfl, wf_X7_58, wu_X4⟩
theorem wf_X10_154 : Cond.fieldLink RX10 154 RX4 (TX4 3).2.1 (TX4 3).2.2.1 ∈ zW := zWi 221 (by decide +kernel) rfl
theorem FL_X10_154 : zFL RX10 154 4 3 := ⟨RX4, TX4, 5, rfl, rfl, by decide, rfl, wf_X10_154, wu_X4⟩
theorem wf_X4_17 : Cond.fieldLink RX4 17 RX4 (TX4 4).2.1 (TX4 4).2.2.1 ∈ zW := zWi 222 (by decide +kernel) rfl
theorem FL_X4_17 : zFL RX4 17 4 4 := ⟨RX4, TX4, 5, rfl, rfl, by decide, rfl, wf_X4_17, wu_X4⟩
theorem wf_X5_68 : Cond.fieldLink RX5 68 RX4 (TX4 4).2.1 (TX4 4).2.2.1 ∈ zW := zWi 223 (by decide +kernel) rfl
theorem FL_X5_68 : zFL RX5 68 4 4 := ⟨RX4, TX4, 5, rfl, rfl, by decide, rfl, wf_X5_68, wu_X4⟩
theorem wf_X3_76 : Cond.fieldLink RX3 76 RX4 (TX4 4).2.1 (TX4 4).2.2.1 ∈ zW := zWi 224 (by decide +kernel) rfl
theorem FL_X3_76 : zFL RX3 76 4 4 := ⟨RX4, TX4, 5, rfl, rfl, by decide, rfl, wf_X3_76, wu_X4⟩
theorem wf_X10_247 : Cond.fieldLink RX10 247 RX4 (TX4 4).2.1 (TX4 4).2.2.1 ∈ zW := zWi 225 (by decide +kernel) rfl
theorem FL_X10_247 : zFL RX10 247 4 4 := ⟨RX4, TX4, 5, rfl, rfl, by decide, rfl, wf_X10_247, wu_X4⟩
theorem wf_X7_29 : Cond.fieldLink RX7 29 RX7 (TX7 0).2.1 (TX7 0).2.2.1 ∈ zW := zWi 237 (by decide +kernel) rfl
theorem FL_X7_29 : zFL RX7 29 7 0 := ⟨RX7, TX7, 8, rfl, rfl, by decide, rfl, wf_X7_29, wu_X7⟩
theorem FP_X7_29 : zFP RX7 29 7 0 .int := ⟨RX7, TX7, 8, tyX7, rfl, rfl, by decide, rfl, wf_X7_29, wu_X7, tyX7_ok, nmX7, rfl, rfl⟩
theorem wf_X10_116 : Cond.fieldLink RX10 116 RX7 (TX7 0).2.1 (TX7 0).2.2.1 ∈ zW := zWi 238 (by decide +kernel) rfl
theorem FL_X10_116 : zFL RX10 116 7 0 := ⟨RX7, TX7, 8, rfl, rfl, by decide, rfl, wf_X10_116, wu_X7⟩
theorem FP_X10_116 : zFP RX10 116 7 0 .int := ⟨RX7, TX7, 8, tyX7, rfl, rfl, by decide, rfl, wf_X10_116, wu_X7, tyX7_ok, nmX7, rfl, rfl⟩
theorem wf_X6_124 : Cond.fieldLink RX6 124 RX7 (TX7 0).2.1 (TX7 0).2.2.1 ∈ zW := zWi 239 (by decide +kernel) rfl
theorem FL_X6_124 : zFL RX6 124 7 0 := ⟨RX7, TX7, 8, rfl, rfl, by decide, rfl, wf_X6_124, wu_X7⟩
theorem FP_X6_124 : zFP RX6 124 7 0 .int := ⟨RX7, TX7, 8, tyX7, rfl, rfl, by decide, rfl, wf_X6_124, wu_X7, tyX7_ok, nmX7, rfl, rfl⟩
theorem wf_X7_9 : Cond.fieldLink RX7 9 RX7 (TX7 1).2.1 (TX7 1).2.2.1 ∈ zW := zWi 240 (by decide +kernel) rfl
theorem FL_X7_9 : zFL RX7 9 7 1 := ⟨RX7, TX7, 8, rfl, rfl, by decide, rfl, wf_X7_9, wu_X7⟩
theorem FP_X7_9 : zFP RX7 9 7 1 .int := ⟨RX7, TX7, 8, tyX7, rfl, rfl, by decide, rfl, wf_X7_9, wu_X7, tyX7_ok, nmX7, rfl, rfl⟩
theorem wf_X10_161 : Cond.fieldLink RX10 161 RX7 (TX7 1).2.1 (TX7 1).2.2.1 ∈ zW := zWi 241 (by decide +kernel) rfl
theorem FL_X10_161 : zFL RX10 161 7 1 := ⟨RX7, TX7, 8, rfl, rfl, by decide, rfl, wf_X10_161, wu_X7⟩
theorem FP_X10_161 : zFP RX10 161 7 1 .int := ⟨RX7, TX7, 8, tyX7, rfl, rfl, by decide, rfl, wf_X10_161, wu_X7, tyX7_ok, nmX7, rfl, rfl⟩
theorem wf_X7_32 : Cond.fieldLink RX7 32 RX7 (TX7 2).2.1 (TX7 2).2.2.1 ∈ zW := zWi 242 (by decide +kernel) rfl
theorem FL_X7_32 : zFL RX7 32 7 2 := ⟨RX7, TX7, 8, rfl, rfl, by decide, rfl, wf_X7_32, wu_X7⟩
theorem FP_X7_32 : zFP RX7 32 7 2 .int := ⟨RX7, TX7, 8, tyX7, rfl, rfl, by decide, rfl, wf_X7_32, wu_X7, tyX7_ok, nmX7, rfl, rfl⟩
theorem wf_X10_177 : Cond.fieldLink RX10 177 RX7 (TX7 2).2.1 (TX7 2).2.2.1 ∈ zW := zWi 243 (by decide +kernel) rfl
theorem FL_X10_177 : zFL RX10 177 7 2 := ⟨RX7, TX7, 8, rfl, rfl, by decide, rfl, wf_X10_177, wu_X7⟩
theorem FP_X10_177 : zFP RX10 177 7 2 .int := ⟨RX7, TX7, 8, tyX7, rfl, rfl, by decide, rfl, wf_X10_177, wu_X7, tyX7_ok, nmX7, rfl, rfl⟩
theorem wf_X7_35 : Cond.fieldLink RX7 35 RX7 (TX7 3).2.1 (TX7 3).2.2.1 ∈ zW := zWi 244 (by decide +kernel) rfl
theorem FL_X7_35 : zFL RX7 35 7 3 := ⟨RX7, TX7, 8, rfl, rfl, by decide, rfl, wf_X7_35, wu_X7⟩
theorem FP_X7_35 : zFP RX7 35 7 3 .int := ⟨RX7, TX7, 8, tyX7, rfl, rfl, by decide, rfl, wf_X7_35, wu_X7, tyX7_ok, nmX7, rfl, rfl⟩
theorem wf_X10_180 : Cond.fieldLink RX10 180 RX7 (TX7 3).2.1 (TX7 3).2.2.1 ∈ zW := zWi 245 (by decide +kernel) rfl
theorem FL_X10_180 : zFL RX10 180 7 3 := ⟨RX7, TX7, 8, rfl, rfl, by decide, rfl, wf_X10_180, wu_X7⟩
theorem FP_X10_180 : zFP RX10 180 7 3 .int := ⟨RX7, TX7, 8, tyX7, rfl, rfl, by decide, rfl, wf_X10_180, wu_X7, tyX7_ok, nmX7, rfl, rfl⟩
theorem wf_X10_65 : Cond.fieldLink RX10 65 RX7 (TX7 4).2.1 (TX7 4).2.2.1 ∈ zW := zWi 246 (by decide +kernel) rfl
theorem FL_X10_65 : zFL RX10 65 7 4 := ⟨RX7, TX7, 8, rfl, rfl, by decide, rfl, wf_X10_65, wu_X7⟩
theorem FP_X10_65 : zFP RX10 65 7 4 .int := ⟨RX7, TX7, 8, tyX7, rfl, rfl, by decide, rfl, wf_X10_65, wu_X7, tyX7_ok, nmX7, rfl, rfl⟩
theorem wf_X7_38 : Cond.fieldLink RX7 38 RX7 (TX7 4).2.1 (TX7 4).2.2.1 ∈ zW := zWi 247 (by decide +kernel) rfl
theorem FL_X7_38 : zFL RX7 38 7 4 := ⟨RX7, TX7, 8, rfl, rfl, by decide, rfl, wf_X7_38, wu_X7⟩
theorem FP_X7_38 : zFP RX7 38 7 4 .int := ⟨RX7, TX7, 8, tyX7, rfl, rfl, by decide, rfl, wf_X7_38, wu_X7, tyX7_ok, nmX7, rfl, rfl⟩
theorem wf_X7_41 : Cond.fieldLink RX7 41 RX7 (TX7 5).2.1 (TX7 5).2.2.1 ∈ zW := zWi 248 (by decide +kernel) rfl
theorem FL_X7_41 : zFL RX7 41 7 5 := ⟨RX7, TX7, 8, rfl, rfl, by decide, rfl, wf_X7_41, wu_X7⟩
theorem FP_X7_41 : zFP RX7 41 7 5 .int := ⟨RX7, TX7, 8, tyX7, rfl, rfl, by decide, rfl, wf_X7_41, wu_X7, tyX7_ok, nmX7, rfl, rfl⟩
theorem wf_X10_128 : Cond.fieldLink RX10 128 RX7 (TX7 5).2.1 (TX7 5).2.2.1 ∈ zW := zWi 249 (by decide +kernel) rfl
theorem FL_X10_128 : zFL RX10 128 7 5 := ⟨RX7, TX7, 8, rfl, rfl, by decide, rfl, wf_X10_128, wu_X7⟩
theorem FP_X10_128 : zFP RX10 128 7 5 .int := ⟨RX7, TX7, 8, tyX7, rfl, rfl, by decide, rfl, wf_X10_128, wu_X7, tyX7_ok, nmX7, rfl, rfl⟩
theorem wf_X7_17 : Cond.fieldLink RX7 17 RX7 (TX7 6).2.1 (TX7 6).2.2.1 ∈ zW := zWi 250 (by decide +kernel) rfl
theorem FL_X7_17 : zFL RX7 17 7 6 := ⟨RX7, TX7, 8, rfl, rfl, by decide, rfl, wf_X7_17, wu_X7⟩
theorem wf_X10_73 : Cond.fieldLink RX10 73 RX7 (TX7 6).2.1 (TX7 6).2.2.1 ∈ zW := zWi 251 (by decide +kernel) rfl
theorem FL_X10_73 : zFL RX10 73 7 6 := ⟨RX7, TX7, 8, rfl, rfl, by decide, rfl, wf_X10_73, wu_X7⟩
theorem wf_X6_62 : Cond.fieldLink RX6 62 RX7 (TX7 6).2.1 (TX7 6).2.2.1 ∈ zW := zWi 252 (by decide +kernel) rfl
theorem FL_X6_62 : zFL RX6 62 7 6 := ⟨RX7, TX7, 8, rfl, rfl, by decide, rfl, wf_X6_62, wu_X7⟩
theorem wf_X7_23 : Cond.fieldLink RX7 23 RX7 (TX7 7).2.1 (TX7 7).2.2.1 ∈ zW := zWi 253 (by decide +kernel) rfl
theorem FL_X7_23 : zFL RX7 23 7 7 := ⟨RX7, TX7, 8, rfl, rfl, by decide, rfl, wf_X7_23, wu_X7⟩
theorem wf_X5_40 : Cond.fieldLink RX5 40 RX7 (TX7 7).2.1 (TX7 7).2.2.1 ∈ zW := zWi 254 (by decide +kernel) rfl
theorem FL_X5_40 : zFL RX5 40 7 7 := ⟨RX7, TX7, 8, rfl, rfl, by decide, rfl, wf_X5_40, wu_X7⟩
theorem wf_X10_140 : Cond.fieldLink RX10 140 RX7 (TX7 7).2.1 (TX7 7).2.2.1 ∈ zW := zWi 255 (by decide +kernel) rfl
theorem FL_X10_140 : zFL RX10 140 7 7 := ⟨RX7, TX7, 8, rfl, rfl, by decide, rfl, wf_X10_140, wu_X7⟩
theorem wf_X0_32 : Cond.fieldLink RX0 32 RX0 (TX0 0).2.1 (TX0 0).2.2.1 ∈ zW := zWi 282 (by decide +kernel) rfl
theorem FL_X0_32 : zFL RX0 32 0 0 := ⟨RX0, TX0, 3, rfl, rfl, by decide, rfl, wf_X0_32, wu_X0⟩
theorem FP_X0_32 : zFP RX0 32 0 0 .int := ⟨RX0, TX0, 3, tyX0, rfl, rfl, by decide, rfl, wf_X0_32, wu_X0, tyX0_ok, nmX0, rfl, rfl⟩
theorem wf_X10_290 : Cond.fieldLink RX10 290 RX0 (TX0 0).2.1 (TX0 0).2.2.1 ∈ zW := zWi 283 (by decide +kernel) rfl
theorem FL_X10_290 : zFL RX10 290 0 0 := ⟨RX0, TX0, 3, rfl, rfl, by decide, rfl, wf_X10_290, wu_X0⟩
theorem FP_X10_290 : zFP RX10 290 0 0 .int := ⟨RX0, TX0, 3, tyX0, rfl, rfl, by decide, rfl, wf_X10_290, wu_X0, tyX0_ok, nmX0, rfl, rfl⟩
theorem wf_X0_9 : Cond.fieldLink RX0 9 RX0 (TX0 1).2.1 (TX0 1).2.2.1 ∈ zW := zWi 284 (by decide +kernel) rfl
theorem FL_X0_9 : zFL RX0 9 0 1 := ⟨RX0, TX0, 3, rfl, rfl, by decide, rfl, wf_X0_9, wu_X0⟩
theorem FP_X0_9 : zFP RX0 9 0 1 .int := ⟨RX0, TX0, 3, tyX0, rfl, rfl, by decide, rfl, wf_X0_9, wu_X0, tyX0_ok, nmX0, rfl, rfl⟩
theorem wf_X0_17 : Cond.fieldLink RX0 17 RX0 (TX0 2).2.1 (TX0 2).2.2.1 ∈ zW := zWi 285 (by decide +kernel) rfl
theorem FL_X0_17 : zFL RX0 17 0 2 := ⟨RX0, TX0, 3, rfl, rfl, by decide, rfl, wf_X0_17, wu_X0⟩
theorem wf_X2_15 : Cond.fieldLink RX2 15 RX2 (TX2 0).2.1 (TX2 0).2.2.1 ∈ zW := zWi 299 (by decide +kernel) rfl
theorem FL_X2_15 : zFL RX2 15 2 0 := ⟨RX2, TX2, 2, rfl, rfl, by decide, rfl, wf_X2_15, wu_X2⟩
theorem FP_X2_15 : zFP RX2 15 2 0 .int := ⟨RX2, TX2, 2, tyX2, rfl, rfl, by decide, rfl, wf_X2_15, wu_X2, tyX2_ok, nmX2, rfl, rfl⟩
theorem wf_X3_57 : Cond.fieldLink RX3 57 RX2 (TX2 0).2.1 (TX2 0).2.2.1 ∈ zW := zWi 300 (by decide +kernel) rfl
theorem FL_X3_57 : zFL RX3 57 2 0 := ⟨RX2, TX2, 2, rfl, rfl, by decide, rfl, wf_X3_57, wu_X2⟩
theorem FP_X3_57 : zFP RX3 57 2 0 .int := ⟨RX2, TX2, 2, tyX2, rfl, rfl, by decide, rfl, wf_X3_57, wu_X2, tyX2_ok, nmX2, rfl, rfl⟩
theorem wf_X10_148 : Cond.fieldLink RX10 148 RX2 (TX2 0).2.1 (TX2 0).2.2.1 ∈ zW := zWi 301 (by decide +kernel) rfl
theorem FL_X10_148 : zFL RX10 148 2 0 := ⟨RX2, TX2, 2, rfl, rfl, by decide, rfl, wf_X10_148, wu_X2⟩
theorem FP_X10_148 : zFP RX10 148 2 0 .int := ⟨RX2, TX2, 2, tyX2, rfl, rfl, by decide, rfl, wf_X10_148, wu_X2, tyX2_ok, nmX2, rfl, rfl⟩
theorem wf_X2_9 : Cond.fieldLink RX2 9 RX2 (TX2 1).2.1 (TX2 1).2.2.1 ∈ zW := zWi 302 (by decide +kernel) rfl
theorem FL_X2_9 : zFL RX2 9 2 1 := ⟨RX2, TX2, 2, rfl, rfl, by decide, rfl, wf_X2_9, wu_X2⟩
theorem wf_X3_12 : Cond.fieldLink RX3 12 RX3 (TX3 0).2.1 (TX3 0).2.2.1 ∈ zW := zWi 318 (by decide +kernel) rfl
theorem FL_X3_12 : zFL RX3 12 3 0 := ⟨RX3, TX3, 4, rfl, rfl, by decide, rfl, wf_X3_12, wu_X3⟩
theorem wf_X10_131 : Cond.fieldLink RX10 131 RX3 (TX3 0).2.1 (TX3 0).2.2.1 ∈ zW := zWi 319 (by decide +kernel) rfl
theorem FL_X10_131 : zFL RX10 131 3 0 := ⟨RX3, TX3, 4, rfl, rfl, by decide, rfl, wf_X10_131, wu_X3⟩
theorem wf_X3_18 : Cond.fieldLink RX3 18 RX3 (TX3 1).2.1 (TX3 1).2.2.1 ∈ zW := zWi 320 (by decide +kernel) rfl
theorem FL_X3_18 : zFL RX3 18 3 1 := ⟨RX3, TX3, 4, rfl, rfl, by decide, rfl, wf_X3_18, wu_X3⟩
theorem wf_X3_22 : Cond.fieldLink RX3 22 RX3 (TX3 2).2.1 (TX3 2).2.2.1 ∈ zW := zWi 321 (by decide +kernel) rfl
theorem FL_X3_22 : zFL RX3 22 3 2 := ⟨RX3, TX3, 4, rfl, rfl, by decide, rfl, wf_X3_22, wu_X3⟩
theorem FP_X3_22 : zFP RX3 22 3 2 .int := ⟨RX3, TX3, 4, tyX3, rfl, rfl, by decide, rfl, wf_X3_22, wu_X3, tyX3_ok, nmX3, rfl, rfl⟩
theorem wf_X3_26 : Cond.fieldLink RX3 26 RX3 (TX3 3).2.1 (TX3 3).2.2.1 ∈ zW := zWi 322 (by decide +kernel) rfl
theorem FL_X3_26 : zFL RX3 26 3 3 := ⟨RX3, TX3, 4, rfl, rfl, by decide, rfl, wf_X3_26, wu_X3⟩
theorem FP_X3_26 : zFP RX3 26 3 3 .boolean := ⟨RX3, TX3, 4, tyX3, rfl, rfl, by decide, rfl, wf_X3_26, wu_X3, tyX3_ok, nmX3, rfl, rfl⟩
theorem wf_X6_104 : Cond.fieldLink RX6 104 RX9 (TX9 0).2.1 (TX9 0).2.2.1 ∈ zW := zWi 346 (by decide +kernel) rfl
theorem FL_X6_104 : zFL RX6 104 9 0 := ⟨RX9, TX9, 10, rfl, rfl, by decide, rfl, wf_X6_104, wu_X9⟩
theorem FP_X6_104 : zFP RX6 104 9 0 .int := ⟨RX9, TX9, 10, tyX9, rfl, rfl, by decide, rfl, wf_X6_104, wu_X9, tyX9_ok, nmX9, rfl, rfl⟩
theorem wf_X9_74 : Cond.fieldLink RX9 74 RX9 (TX9 0).2.1 (TX9 0).2.2.1 ∈ zW := zWi 347 (by decide +kernel) rfl
theorem FL_X9_74 : zFL RX9 74 9 0 := ⟨RX9, TX9, 10, rfl, rfl, by decide, rfl, wf_X9_74, wu_X9⟩
theorem FP_X9_74 : zFP RX9 74 9 0 .int := ⟨RX9, TX9, 10, tyX9, rfl, rfl, by decide, rfl, wf_X9_74, wu_X9, tyX9_ok, nmX9, rfl, rfl⟩
theorem wf_X6_101 : Cond.fieldLink RX6 101 RX9 (TX9 1).2.1 (TX9 1).2.2.1 ∈ zW := zWi 348 (by decide +kernel) rfl
theorem FL_X6_101 : zFL RX6 101 9 1 := ⟨RX9, TX9, 10, rfl, rfl, by decide, rfl, wf_X6_101, wu_X9⟩
theorem FP_X6_101 : zFP RX6 101 9 1 .int := ⟨RX9, TX9, 10, tyX9, rfl, rfl, by decide, rfl, wf_X6_101, wu_X9, tyX9_ok, nmX9, rfl, rfl⟩
theorem wf_X9_88 : Cond.fieldLink RX9 88 RX9 (TX9 1).2.1 (TX9 1).2.2.1 ∈ zW := zWi 349 (by decide +kernel) rfl
theorem FL_X9_88 : zFL RX9 88 9 1 := ⟨RX9, TX9, 10, rfl, rfl, by decide, rfl, wf_X9_88, wu_X9⟩
theorem FP_X9_88 : zFP RX9 88 9 1 .int := ⟨RX9, TX9, 10, tyX9, rfl, rfl, by decide, rfl, wf_X9_88, wu_X9, tyX9_ok, nmX9, rfl, rfl⟩
theorem wf_X9_9 : Cond.fieldLink RX9 9 RX9 (TX9 2).2.1 (TX9 2).2.2.1 ∈ zW := zWi 350 (by decide +kernel) rfl
theorem FL_X9_9 : zFL RX9 9 9 2 := ⟨RX9, TX9, 10, rfl, rfl, by decide, rfl, wf_X9_9, wu_X9⟩
theorem wf_X6_107 : Cond.fieldLink RX6 107 RX9 (TX9 2).2.1 (TX9 2).2.2.1 ∈ zW := zWi 351 (by decide +kernel) rfl
theorem FL_X6_107 : zFL RX6 107 9 2 := ⟨RX9, TX9, 10, rfl, rfl, by decide, rfl, wf_X6_107, wu_X9⟩
theorem wf_X9_91 : Cond.fieldLink RX9 91 RX9 (TX9 3).2.1 (TX9 3).2.2.1 ∈ zW := zWi 352 (by decide +kernel) rfl
theorem FL_X9_91 : zFL RX9 91 9 3 := ⟨RX9, TX9, 10, rfl, rfl, by decide, rfl, wf_X9_91, wu_X9⟩
theorem FP_X9_91 : zFP RX9 91 9 3 .int := ⟨RX9, TX9, 10, tyX9, rfl, rfl, by decide, rfl, wf_X9_91, wu_X9, tyX9_ok, nmX9, rfl, rfl⟩
theorem wf_X9_50 : Cond.fieldLink RX9 50 RX9 (TX9 4).2.1 (TX9 4).2.2.1 ∈ zW := zWi 353 (by decide +kernel) rfl
theorem FL_X9_50 : zFL RX9 50 9 4 := ⟨RX9, TX9, 10, rfl, rfl, by decide, rfl, wf_X9_50, wu_X9⟩
theorem FP_X9_50 : zFP RX9 50 9 4 .boolean := ⟨RX9, TX9, 10, tyX9, rfl, rfl, by decide, rfl, wf_X9_50, wu_X9, tyX9_ok, nmX9, rfl, rfl⟩
theorem wf_X9_15 : Cond.fieldLink RX9 15 RX9 (TX9 5).2.1 (TX9 5).2.2.1 ∈ zW := zWi 354 (by decide +kernel) rfl
theorem FL_X9_15 : zFL RX9 15 9 5 := ⟨RX9, TX9, 10, rfl, rfl, by decide, rfl, wf_X9_15, wu_X9⟩
theorem wf_X9_18 : Cond.fieldLink RX9 18 RX9 (TX9 6).2.1 (TX9 6).2.2.1 ∈ zW := zWi 355 (by decide +kernel) rfl
theorem FL_X9_18 : zFL RX9 18 9 6 := ⟨RX9, TX9, 10, rfl, rfl, by decide, rfl, wf_X9_18, wu_X9⟩
theorem wf_X9_21 : Cond.fieldLink RX9 21 RX9 (TX9 7).2.1 (TX9 7).2.2.1 ∈ zW := zWi 356 (by decide +kernel) rfl
theorem FL_X9_21 : zFL RX9 21 9 7 := ⟨RX9, TX9, 10, rfl, rfl, by decide, rfl, wf_X9_21, wu_X9⟩
theorem wf_X9_24 : Cond.fieldLink RX9 24 RX9 (TX9 8).2.1 (TX9 8).2.2.1 ∈ zW := zWi 357 (by decide +kernel) rfl
theorem FL_X9_24 : zFL RX9 24 9 8 := ⟨RX9, TX9, 10, rfl, rfl, by decide, rfl, wf_X9_24, wu_X9⟩
theorem wf_X9_27 : Cond.fieldLink RX9 27 RX9 (TX9 9).2.1 (TX9 9).2.2.1 ∈ zW := zWi 358 (by decide +kernel) rfl
theorem FL_X9_27 : zFL RX9 27 9 9 := ⟨RX9, TX9, 10, rfl, rfl, by decide, rfl, wf_X9_27, wu_X9⟩
theorem wf_X6_9 : Cond.fieldLink RX6 9 RX6 (TX6 0).2.1 (TX6 0).2.2.1 ∈ zW := zWi 380 (by decide +kernel) rfl
theorem FL_X6_9 : zFL RX6 9 6 0 := ⟨RX6, TX6, 10, rfl, rfl, by decide, rfl, wf_X6_9, wu_X6⟩
theorem wf_X10_221 : Cond.fieldLink RX10 221 RX6 (TX6 0).2.1 (TX6 0).2.2.1 ∈ zW := zWi 381 (by decide +kernel) rfl
theorem FL_X10_221 : zFL RX10 221 6 0 := ⟨RX6, TX6, 10, rfl, rfl, by decide, rfl, wf_X10_221, wu_X6⟩
theorem wf_X6_15 : Cond.fieldLink RX6 15 RX6 (TX6 1).2.1 (TX6 1).2.2.1 ∈ zW := zWi 382 (by decide +kernel) rfl
theorem FL_X6_15 : zFL RX6 15 6 1 := ⟨RX6, TX6, 10, rfl, rfl, by decide, rfl, wf_X6_15, wu_X6⟩
theorem wf_X10_224 : Cond.fieldLink RX10 224 RX6 (TX6 1).2.1 (TX6 1).2.2.1 ∈ zW := zWi 383 (by decide +kernel) rfl
theorem FL_X10_224 : zFL RX10 224 6 1 := ⟨RX6, TX6, 10, rfl, rfl, by decide, rfl, wf_X10_224, wu_X6⟩
theorem wf_X6_18 : Cond.fieldLink RX6 18 RX6 (TX6 2).2.1 (TX6 2).2.2.1 ∈ zW := zWi 384 (by decide +kernel) rfl
theorem FL_X6_18 : zFL RX6 18 6 2 := ⟨RX6, TX6, 10, rfl, rfl, by decide, rfl, wf_X6_18, wu_X6⟩
theorem wf_X10_227 : Cond.fieldLink RX10 227 RX6 (TX6 2).2.1 (TX6 2).2.2.1 ∈ zW := zWi 385 (by decide +kernel) rfl
theorem FL_X10_227 : zFL RX10 227 6 2 := ⟨RX6, TX6, 10, rfl, rfl, by decide, rfl, wf_X10_227, wu_X6⟩
theorem wf_X6_21 : Cond.fieldLink RX6 21 RX6 (TX6 3).2.1 (TX6 3).2.2.1 ∈ zW := zWi 386 (by decide +kernel) rfl
theorem FL_X6_21 : zFL RX6 21 6 3 := ⟨RX6, TX6, 10, rfl, rfl, by decide, rfl, wf_X6_21, wu_X6⟩
theorem wf_X10_230 : Cond.fieldLink RX10 230 RX6 (TX6 3).2.1 (TX6 3).2.2.1 ∈ zW := zWi 387 (by decide +kernel) rfl
theorem FL_X10_230 : zFL RX10 230 6 3 := ⟨RX6, TX6, 10, rfl, rfl, by decide, rfl, wf_X10_230, wu_X6⟩
theorem wf_X6_24 : Cond.fieldLink RX6 24 RX6 (TX6 4).2.1 (TX6 4).2.2.1 ∈ zW := zWi 388 (by decide +kernel) rfl
theorem FL_X6_24 : zFL RX6 24 6 4 := ⟨RX6, TX6, 10, rfl, rfl, by decide, rfl, wf_X6_24, wu_X6⟩
theorem wf_X10_232 : Cond.fieldLink RX10 232 RX6 (TX6 4).2.1 (TX6 4).2.2.1 ∈ zW := zWi 389 (by decide +kernel) rfl
theorem FL_X10_232 : zFL RX10 232 6 4 := ⟨RX6, TX6, 10, rfl, rfl, by decide, rfl, wf_X10_232, wu_X6⟩
theorem wf_X6_27 : Cond.fieldLink RX6 27 RX6 (TX6 5).2.1 (TX6 5).2.2.1 ∈ zW := zWi 390 (by decide +kernel) rfl
theorem FL_X6_27 : zFL RX6 27 6 5 := ⟨RX6, TX6, 10, rfl, rfl, by decide, rfl, wf_X6_27, wu_X6⟩
theorem wf_X10_235 : Cond.fieldLink RX10 235 RX6 (TX6 5).2.1 (TX6 5).2.2.1 ∈ zW := zWi 391 (by decide +kernel) rfl
theorem FL_X10_235 : zFL RX10 235 6 5 := ⟨RX6, TX6, 10, rfl, rfl, by decide, rfl, wf_X10_235, wu_X6⟩
theorem wf_X6_30 : Cond.fieldLink RX6 30 RX6 (TX6 6).2.1 (TX6 6).2.2.1 ∈ zW := zWi 392 (by decide +kernel) rfl
theorem FL_X6_30 : zFL RX6 30 6 6 := ⟨RX6, TX6, 10, rfl, rfl, by decide, rfl, wf_X6_30, wu_X6⟩
theorem wf_X10_238 : Cond.fieldLink RX10 238 RX6 (TX6 6).2.1 (TX6 6).2.2.1 ∈ zW := zWi 393 (by decide +kernel) rfl
theorem FL_X10_238 : zFL RX10 238 6 6 := ⟨RX6, TX6, 10, rfl, rfl, by decide, rfl, wf_X10_238, wu_X6⟩
theorem wf_X6_33 : Cond.fieldLink RX6 33 RX6 (TX6 7).2.1 (TX6 7).2.2.1 ∈ zW := zWi 394 (by decide +kernel) rfl
theorem FL_X6_33 : zFL RX6 33 6 7 := ⟨RX6, TX6, 10, rfl, rfl, by decide, rfl, wf_X6_33, wu_X6⟩
theorem wf_X10_241 : Cond.fieldLink RX10 241 RX6 (TX6 7).2.1 (TX6 7).2.2.1 ∈ zW := zWi 395 (by decide +kernel) rfl
theorem FL_X10_241 : zFL RX10 241 6 7 := ⟨RX6, TX6, 10, rfl, rfl, by decide, rfl, wf_X10_241, wu_X6⟩
theorem wf_X6_38 : Cond.fieldLink RX6 38 RX6 (TX6 8).2.1 (TX6 8).2.2.1 ∈ zW := zWi 396 (by decide +kernel) rfl
theorem FL_X6_38 : zFL RX6 38 6 8 := ⟨RX6, TX6, 10, rfl, rfl, by decide, rfl, wf_X6_38, wu_X6⟩
theorem wf_X10_217 : Cond.fieldLink RX10 217 RX6 (TX6 8).2.1 (TX6 8).2.2.1 ∈ zW := zWi 397 (by decide +kernel) rfl
theorem FL_X10_217 : zFL RX10 217 6 8 := ⟨RX6, TX6, 10, rfl, rfl, by decide, rfl, wf_X10_217, wu_X6⟩
theorem wf_X6_44 : Cond.fieldLink RX6 44 RX6 (TX6 9).2.1 (TX6 9).2.2.1 ∈ zW := zWi 398 (by decide +kernel) rfl
theorem FL_X6_44 : zFL RX6 44 6 9 := ⟨RX6, TX6, 10, rfl, rfl, by decide, rfl, wf_X6_44, wu_X6⟩
theorem wf_X5_9 : Cond.fieldLink RX5 9 RX5 (TX5 0).2.1 (TX5 0).2.2.1 ∈ zW := zWi 426 (by decide +kernel) rfl
theorem FL_X5_9 : zFL RX5 9 5 0 := ⟨RX5, TX5, 9, rfl, rfl, by decide, rfl, wf_X5_9, wu_X5⟩
theorem wf_X10_321 : Cond.fieldLink RX10 321 RX5 (TX5 0).2.1 (TX5 0).2.2.1 ∈ zW := zWi 427 (by decide +kernel) rfl
theorem FL_X10_321 : zFL RX10 321 5 0 := ⟨RX5, TX5, 9, rfl, rfl, by decide, rfl, wf_X10_321, wu_X5⟩
theorem wf_X5_15 : Cond.fieldLink RX5 15 RX5 (TX5 1).2.1 (TX5 1).2.2.1 ∈ zW := zWi 428 (by decide +kernel) rfl
theorem FL_X5_15 : zFL RX5 15 5 1 := ⟨RX5, TX5, 9, rfl, rfl, by decide, rfl, wf_X5_15, wu_X5⟩
theorem wf_X10_324 : Cond.fieldLink RX10 324 RX5 (TX5 1).2.1 (TX5 1).2.2.1 ∈ zW := zWi 429 (by decide +kernel) rfl
theorem FL_X10_324 : zFL RX10 324 5 1 := ⟨RX5, TX5, 9, rfl, rfl, by decide, rfl, wf_X10_324, wu_X5⟩
theorem wf_X5_34 : Cond.fieldLink RX5 34 RX5 (TX5 2).2.1 (TX5 2).2.2.1 ∈ zW := zWi 430 (by decide +kernel) rfl
theorem FL_X5_34 : zFL RX5 34 5 2 := ⟨RX5, TX5, 9, rfl, rfl, by decide, rfl, wf_X5_34, wu_X5⟩
theorem FP_X5_34 : zFP RX5 34 5 2 .int := ⟨RX5, TX5, 9, tyX5, rfl, rfl, by decide, rfl, wf_X5_34, wu_X5, tyX5_ok, nmX5, rfl, rfl⟩
theorem wf_X10_330 : Cond.fieldLink RX10 330 RX5 (TX5 2).2.1 (TX5 2).2.2.1 ∈ zW := zWi 431 (by decide +kernel) rfl
theorem FL_X10_330 : zFL RX10 330 5 2 := ⟨RX5, TX5, 9, rfl, rfl, by decide, rfl, wf_X10_330, wu_X5⟩
theorem FP_X10_330 : zFP RX10 330 5 2 .int := ⟨RX5, TX5, 9, tyX5, rfl, rfl, by decide, rfl, wf_X10_330, wu_X5, tyX5_ok, nmX5, rfl, rfl⟩
theorem wf_X5_18 : Cond.fieldLink RX5 18 RX5 (TX5 3).2.1 (TX5 3).2.2.1 ∈ zW := zWi 432 (by decide +kernel) rfl
theorem FL_X5_18 : zFL RX5 18 5 3 := ⟨RX5, TX5, 9, rfl, rfl, by decide, rfl, wf_X5_18, wu_X5⟩
theorem wf_X5_21 : Cond.fieldLink RX5 21 RX5 (TX5 4).2.1 (TX5 4).2.2.1 ∈ zW := zWi 433 (by decide +kernel) rfl
theorem FL_X5_21 : zFL RX5 21 5 4 := ⟨RX5, TX5, 9, rfl, rfl, by decide, rfl, wf_X5_21, wu_X5⟩
theorem wf_X5_24 : Cond.fieldLink RX5 24 RX5 (TX5 5).2.1 (TX5 5).2.2.1 ∈ zW := zWi 434 (by decide +kernel) rfl
theorem FL_X5_24 : zFL RX5 24 5 5 := ⟨RX5, TX5, 9, rfl, rfl, by decide, rfl, wf_X5_24, wu_X5⟩
theorem wf_X5_27 : Cond.fieldLink RX5 27 RX5 (TX5 6).2.1 (TX5 6).2.2.1 ∈ zW := zWi 435 (by decide +kernel) rfl
theorem FL_X5_27 : zFL RX5 27 5 6 := ⟨RX5, TX5, 9, rfl, rfl, by decide, rfl, wf_X5_27, wu_X5⟩
theorem wf_X5_30 : Cond.fieldLink RX5 30 RX5 (TX5 7).2.1 (TX5 7).2.2.1 ∈ zW := zWi 436 (by decide +kernel) rfl
theorem FL_X5_30 : zFL RX5 30 5 7 := ⟨RX5, TX5, 9, rfl, rfl, by decide, rfl, wf_X5_30, wu_X5⟩
theorem FP_X5_30 : zFP RX5 30 5 7 .int := ⟨RX5, TX5, 9, tyX5, rfl, rfl, by decide, rfl, wf_X5_30, wu_X5, tyX5_ok, nmX5, rfl, rfl⟩
theorem wf_X5_37 : Cond.fieldLink RX5 37 RX5 (TX5 8).2.1 (TX5 8).2.2.1 ∈ zW := zWi 437 (by decide +kernel) rfl
theorem FL_X5_37 : zFL RX5 37 5 8 := ⟨RX5, TX5, 9, rfl, rfl, by decide, rfl, wf_X5_37, wu_X5⟩
theorem FP_X5_37 : zFP RX5 37 5 8 .int := ⟨RX5, TX5, 9, tyX5, rfl, rfl, by decide, rfl, wf_X5_37, wu_X5, tyX5_ok, nmX5, rfl, rfl⟩
theorem wf_X10_12 : Cond.fieldLink RX10 12 RX10 (TX10 0).2.1 (TX10 0).2.2.1 ∈ zW := zWi 457 (by decide +kernel) rfl
theorem FL_X10_12 : zFL RX10 12 10 0 := ⟨RX10, TX10, 8, rfl, rfl, by decide, rfl, wf_X10_12, wu_X10⟩
theorem wf_X10_19 : Cond.fieldLink RX10 19 RX10 (TX10 1).2.1 (TX10 1).2.2.1 ∈ zW := zWi 458 (by decide +kernel) rfl
theorem FL_X10_19 : zFL RX10 19 10 1 := ⟨RX10, TX10, 8, rfl, rfl, by decide, rfl, wf_X10_19, wu_X10⟩
theorem wf_X10_23 : Cond.fieldLink RX10 23 RX10 (TX10 2).2.1 (TX10 2).2.2.1 ∈ zW := zWi 459 (by decide +kernel) rfl
theorem FL_X10_23 : zFL RX10 23 10 2 := ⟨RX10, TX10, 8, rfl, rfl, by decide, rfl, wf_X10_23, wu_X10⟩
theorem wf_X10_27 : Cond.fieldLink RX10 27 RX10 (TX10 3).2.1 (TX10 3).2.2.1 ∈ zW := zWi 460 (by decide +kernel) rfl
theorem FL_X10_27 : zFL RX10 27 10 3 := ⟨RX10, TX10, 8, rfl, rfl, by decide, rfl, wf_X10_27, wu_X10⟩
theorem wf_X10_34 : Cond.fieldLink RX10 34 RX10 (TX10 4).2.1 (TX10 4).2.2.1 ∈ zW := zWi 461 (by decide +kernel) rfl
theorem FL_X10_34 : zFL RX10 34 10 4 := ⟨RX10, TX10, 8, rfl, rfl, by decide, rfl, wf_X10_34, wu_X10⟩
theorem wf_X10_43 : Cond.fieldLink RX10 43 RX10 (TX10 5).2.1 (TX10 5).2.2.1 ∈ zW := zWi 462 (by decide +kernel) rfl
theorem FL_X10_43 : zFL RX10 43 10 5 := ⟨RX10, TX10, 8, rfl, rfl, by decide, rfl, wf_X10_43, wu_X10⟩
theorem wf_X10_50 : Cond.fieldLink RX10 50 RX10 (TX10 6).2.1 (TX10 6).2.2.1 ∈ zW := zWi 463 (by decide +kernel) rfl
theorem FL_X10_50 : zFL RX10 50 10 6 := ⟨RX10, TX10, 8, rfl, rfl, by decide, rfl, wf_X10_50, wu_X10⟩
theorem wf_X10_57 : Cond.fieldLink RX10 57 RX10 (TX10 7).2.1 (TX10 7).2.2.1 ∈ zW := zWi 464 (by decide +kernel) rfl
theorem FL_X10_57 : zFL RX10 57 10 7 := ⟨RX10, TX10, 8, rfl, rfl, by decide, rfl, wf_X10_57, wu_X10⟩
theorem wf_X11_7 : Cond.fieldLink RX11 7 RX11 (TX11 0).2.1 (TX11 0).2.2.1 ∈ zW := zWi 940 (by decide +kernel) rfl
theorem FL_X11_7 : zFL RX11 7 11 0 := ⟨RX11, TX11, 31, rfl, rfl, by decide, rfl, wf_X11_7, wu_X11⟩
theorem wf_X11_13 : Cond.fieldLink RX11 13 RX11 (TX11 1).2.1 (TX11 1).2.2.1 ∈ zW := zWi 941 (by decide +kernel) rfl
theorem FL_X11_13 : zFL RX11 13 11 1 := ⟨RX11, TX11, 31, rfl, rfl, by decide, rfl, wf_X11_13, wu_X11⟩
theorem wf_X11_72 : Cond.fieldLink RX11 72 RX11 (TX11 2).2.1 (TX11 2).2.2.1 ∈ zW := zWi 942 (by decide +kernel) rfl
theorem FL_X11_72 : zFL RX11 72 11 2 := ⟨RX11, TX11, 31, rfl, rfl, by decide, rfl, wf_X11_72, wu_X11⟩
theorem FP_X11_72 : zFP RX11 72 11 2 .int := ⟨RX11, TX11, 31, tyX11, rfl, rfl, by decide, rfl, wf_X11_72, wu_X11, tyX11_ok, nmX11, rfl, rfl⟩
theorem wf_X11_16 : Cond.fieldLink RX11 16 RX11 (TX11 3).2.1 (TX11 3).2.2.1 ∈ zW := zWi 943 (by decide +kernel) rfl
theorem FL_X11_16 : zFL RX11 16 11 3 := ⟨RX11, TX11, 31, rfl, rfl, by decide, rfl, wf_X11_16, wu_X11⟩
theorem wf_X11_19 : Cond.fieldLink RX11 19 RX11 (TX11 4).2.1 (TX11 4).2.2.1 ∈ zW := zWi 944 (by decide +kernel) rfl
theorem FL_X11_19 : zFL RX11 19 11 4 := ⟨RX11, TX11, 31, rfl, rfl, by decide, rfl, wf_X11_19, wu_X11⟩
theorem wf_X11_23 : Cond.fieldLink RX11 23 RX11 (TX11 5).2.1 (TX11 5).2.2.1 ∈ zW := zWi 945 (by decide +kernel) rfl
theorem FL_X11_23 : zFL RX11 23 11 5 := ⟨RX11, TX11, 31, rfl, rfl, by decide, rfl, wf_X11_23, wu_X11⟩
theorem wf_X11_215 : Cond.fieldLink RX11 215 RX11 (TX11 6).2.1 (TX11 6).2.2.1 ∈ zW := zWi 946 (by decide +kernel) rfl
theorem FL_X11_215 : zFL RX11 215 11 6 := ⟨RX11, TX11, 31, rfl, rfl, by decide, rfl, wf_X11_215, wu_X11⟩
theorem FP_X11_215 : zFP RX11 215 11 6 .int := ⟨RX11, TX11, 31, tyX11, rfl, rfl, by decide, rfl, wf_X11_215, wu_X11, tyX11_ok, nmX11, rfl, rfl⟩
theorem wf_X11_26 : Cond.fieldLink RX11 26 RX11 (TX11 7).2.1 (TX11 7).2.2.1 ∈ zW := zWi 947 (by decide +kernel) rfl
theorem FL_X11_26 : zFL RX11 26 11 7 := ⟨RX11, TX11, 31, rfl, rfl, by decide, rfl, wf_X11_26, wu_X11⟩
theorem wf_X11_29 : Cond.fieldLink RX11 29 RX11 (TX11 8).2.1 (TX11 8).2.2.1 ∈ zW := zWi 948 (by decide +kernel) rfl
theorem FL_X11_29 : zFL RX11 29 11 8 := ⟨RX11, TX11, 31, rfl, rfl, by decide, rfl, wf_X11_29, wu_X11⟩
theorem wf_X11_32 : Cond.fieldLink RX11 32 RX11 (TX11 9).2.1 (TX11 9).2.2.1 ∈ zW := zWi 949 (by decide +kernel) rfl
theorem FL_X11_32 : zFL RX11 32 11 9 := ⟨RX11, TX11, 31, rfl, rfl, by decide, rfl, wf_X11_32, wu_X11⟩
theorem wf_X11_35 : Cond.fieldLink RX11 35 RX11 (TX11 10).2.1 (TX11 10).2.2.1 ∈ zW := zWi 950 (by decide +kernel) rfl
theorem FL_X11_35 : zFL RX11 35 11 10 := ⟨RX11, TX11, 31, rfl, rfl, by decide, rfl, wf_X11_35, wu_X11⟩
theorem wf_X11_38 : Cond.fieldLink RX11 38 RX11 (TX11 11).2.1 (TX11 11).2.2.1 ∈ zW := zWi 951 (by decide +kernel) rfl
theorem FL_X11_38 : zFL RX11 38 11 11 := ⟨RX11, TX11, 31, rfl, rfl, by decide, rfl, wf_X11_38, wu_X11⟩
theorem wf_X11_41 : Cond.fieldLink RX11 41 RX11 (TX11 12).2.1 (TX11 12).2.2.1 ∈ zW := zWi 952 (by decide +kernel) rfl
theorem FL_X11_41 : zFL RX11 41 11 12 := ⟨RX11, TX11, 31, rfl, rfl, by decide, rfl, wf_X11_41, wu_X11⟩
theorem wf_X11_44 : Cond.fieldLink RX11 44 RX11 (TX11 13).2.1 (TX11 13).2.2.1 ∈ zW := zWi 953 (by decide +kernel) rfl
theorem FL_X11_44 : zFL RX11 44 11 13 := ⟨RX11, TX11, 31, rfl, rfl, by decide, rfl, wf_X11_44, wu_X11⟩
theorem wf_X11_47 : Cond.fieldLink RX11 47 RX11 (TX11 14).2.1 (TX11 14).2.2.1 ∈ zW := zWi 954 (by decide +kernel) rfl
theorem FL_X11_47 : zFL RX11 47 11 14 := ⟨RX11, TX11, 31, rfl, rfl, by decide, rfl, wf_X11_47, wu_X11⟩
theorem wf_X11_50 : Cond.fieldLink RX11 50 RX11 (TX11 15).2.1 (TX11 15).2.2.1 ∈ zW := zWi 955 (by decide +kernel) rfl
theorem FL_X11_50 : zFL RX11 50 11 15 := ⟨RX11, TX11, 31, rfl, rfl, by decide, rfl, wf_X11_50, wu_X11⟩
theorem wf_X11_118 : Cond.fieldLink RX11 118 RX11 (TX11 16).2.1 (TX11 16).2.2.1 ∈ zW := zWi 956 (by decide +kernel) rfl
theorem FL_X11_118 : zFL RX11 118 11 16 := ⟨RX11, TX11, 31, rfl, rfl, by decide, rfl, wf_X11_118, wu_X11⟩
theorem FP_X11_118 : zFP RX11 118 11 16 .int := ⟨RX11, TX11, 31, tyX11, rfl, rfl, by decide, rfl, wf_X11_118, wu_X11, tyX11_ok, nmX11, rfl, rfl⟩
theorem wf_X11_121 : Cond.fieldLink RX11 121 RX11 (TX11 17).2.1 (TX11 17).2.2.1 ∈ zW := zWi 957 (by decide +kernel) rfl
theorem FL_X11_121 : zFL RX11 121 11 17 := ⟨RX11, TX11, 31, rfl, rfl, by decide, rfl, wf_X11_121, wu_X11⟩
theorem FP_X11_121 : zFP RX11 121 11 17 .int := ⟨RX11, TX11, 31, tyX11, rfl, rfl, by decide, rfl, wf_X11_121, wu_X11, tyX11_ok, nmX11, rfl, rfl⟩
theorem wf_X11_124 : Cond.fieldLink RX11 124 RX11 (TX11 18).2.1 (TX11 18).2.2.1 ∈ zW := zWi 958 (by decide +kernel) rfl
theorem FL_X11_124 : zFL RX11 124 11 18 := ⟨RX11, TX11, 31, rfl, rfl, by decide, rfl, wf_X11_124, wu_X11⟩
theorem FP_X11_124 : zFP RX11 124 11 18 .int := ⟨RX11, TX11, 31, tyX11, rfl, rfl, by decide, rfl, wf_X11_124, wu_X11, tyX11_ok, nmX11, rfl, rfl⟩
theorem wf_X11_53 : Cond.fieldLink RX11 53 RX11 (TX11 19).2.1 (TX11 19).2.2.1 ∈ zW := zWi 959 (by decide +kernel) rfl
theorem FL_X11_53 : zFL RX11 53 11 19 := ⟨RX11, TX11, 31, rfl, rfl, by decide, rfl, wf_X11_53, wu_X11⟩
theorem wf_X11_56 : Cond.fieldLink RX11 56 RX11 (TX11 20).2.1 (TX11 20).2.2.1 ∈ zW := zWi 960 (by decide +kernel) rfl
theorem FL_X11_56 : zFL RX11 56 11 20 := ⟨RX11, TX11, 31, rfl, rfl, by decide, rfl, wf_X11_56, wu_X11⟩
theorem wf_X11_59 : Cond.fieldLink RX11 59 RX11 (TX11 21).2.1 (TX11 21).2.2.1 ∈ zW := zWi 961 (by decide +kernel) rfl
theorem FL_X11_59 : zFL RX11 59 11 21 := ⟨RX11, TX11, 31, rfl, rfl, by decide, rfl, wf_X11_59, wu_X11⟩
theorem wf_X11_175 : Cond.fieldLink RX11 175 RX11 (TX11 23).2.1 (TX11 23).2.2.1 ∈ zW := zWi 962 (by decide +kernel) rfl
theorem FL_X11_175 : zFL RX11 175 11 23 := ⟨RX11, TX11, 31, rfl, rfl, by decide, rfl, wf_X11_175, wu_X11⟩
theorem FP_X11_175 : zFP RX11 175 11 23 .int := ⟨RX11, TX11, 31, tyX11, rfl, rfl, by decide, rfl, wf_X11_175, wu_X11, tyX11_ok, nmX11, rfl, rfl⟩
theorem wf_X11_178 : Cond.fieldLink RX11 178 RX11 (TX11 24).2.1 (TX11 24).2.2.1 ∈ zW := zWi 963 (by decide +kernel) rfl
theorem FL_X11_178 : zFL RX11 178 11 24 := ⟨RX11, TX11, 31, rfl, rfl, by decide, rfl, wf_X11_178, wu_X11⟩
theorem FP_X11_178 : zFP RX11 178 11 24 .int := ⟨RX11, TX11, 31, tyX11, rfl, rfl, by decide, rfl, wf_X11_178, wu_X11, tyX11_ok, nmX11, rfl, rfl⟩
theorem wf_X11_212 : Cond.fieldLink RX11 212 RX11 (TX11 25).2.1 (TX11 25).2.2.1 ∈ zW := zWi 964 (by decide +kernel) rfl
theorem FL_X11_212 : zFL RX11 212 11 25 := ⟨RX11, TX11, 31, rfl, rfl, by decide, rfl, wf_X11_212, wu_X11⟩
theorem FP_X11_212 : zFP RX11 212 11 25 .int := ⟨RX11, TX11, 31, tyX11, rfl, rfl, by decide, rfl, wf_X11_212, wu_X11, tyX11_ok, nmX11, rfl, rfl⟩
theorem wf_X11_218 : Cond.fieldLink RX11 218 RX11 (TX11 26).2.1 (TX11 26).2.2.1 ∈ zW := zWi 965 (by decide +kernel) rfl
theorem FL_X11_218 : zFL RX11 218 11 26 := ⟨RX11, TX11, 31, rfl, rfl, by decide, rfl, wf_X11_218, wu_X11⟩
theorem FP_X11_218 : zFP RX11 218 11 26 .boolean := ⟨RX11, TX11, 31, tyX11, rfl, rfl, by decide, rfl, wf_X11_218, wu_X11, tyX11_ok, nmX11, rfl, rfl⟩
theorem wf_X11_234 : Cond.fieldLink RX11 234 RX11 (TX11 27).2.1 (TX11 27).2.2.1 ∈ zW := zWi 966 (by decide +kernel) rfl
theorem FL_X11_234 : zFL RX11 234 11 27 := ⟨RX11, TX11, 31, rfl, rfl, by decide, rfl, wf_X11_234, wu_X11⟩
theorem FP_X11_234 : zFP RX11 234 11 27 .int := ⟨RX11, TX11, 31, tyX11, rfl, rfl, by decide, rfl, wf_X11_234, wu_X11, tyX11_ok, nmX11, rfl, rfl⟩
theorem wf_X11_62 : Cond.fieldLink RX11 62 RX11 (TX11 28).2.1 (TX11 28).2.2.1 ∈ zW := zWi 967 (by decide +kernel) rfl
theorem FL_X11_62 : zFL RX11 62 11 28 := ⟨RX11, TX11, 31, rfl, rfl, by decide, rfl, wf_X11_62, wu_X11⟩
theorem wf_X11_65 : Cond.fieldLink RX11 65 RX11 (TX11 29).2.1 (TX11 29).2.2.1 ∈ zW := zWi 968 (by decide +kernel) rfl
theorem FL_X11_65 : zFL RX11 65 11 29 := ⟨RX11, TX11, 31, rfl, rfl, by decide, rfl, wf_X11_65, wu_X11⟩
theorem wf_X11_228 : Cond.fieldLink RX11 228 RX11 (TX11 30).2.1 (TX11 30).2.2.1 ∈ zW := zWi 969 (by decide +kernel) rfl
theorem FL_X11_228 : zFL RX11 228 11 30 := ⟨RX11, TX11, 31, rfl, rfl, by decide, rfl, wf_X11_228, wu_X11⟩
theorem FP_X11_228 : zFP RX11 228 11 30 .int := ⟨RX11, TX11, 31, tyX11, rfl, rfl, by decide, rfl, wf_X11_228, wu_X11, tyX11_ok, nmX11, rfl, rfl⟩
theorem LV_L_13 : zLV RL 13 Y_X10_ingredient 10 1 := ⟨⟨RX10, TX10, 8, rfl, rfl, zWi 484 (by decide +kernel) rfl⟩, zWi 482 (by decide +kernel) rfl, zWi 483 (by decide +kernel) rfl, wi_X10, wc_X10_ingredient, ⟨by decide +kernel, by decide +kernel, by decide +kernel⟩, by decide⟩
theorem LS_X10_61 : zLS RX10 61 Y_X10_isWithin 3 := ⟨zWi 486 (by decide +kernel) rfl, zWi 487 (by decide +kernel) rfl, wi_X10, wc_X10_isWithin, ⟨by decide +kernel, by decide +kernel, by decide +kernel⟩, by decide⟩
theorem LV_X10_69 : zLV RX10 69 Y_X0_record 0 1 := ⟨⟨RX0, TX0, 3, rfl, rfl, zWi 491 (by decide +kernel) rfl⟩, zWi 489 (by decide +kernel) rfl, zWi 490 (by decide +kernel) rfl, wi_X0, wc_X0_record, ⟨by decide +kernel, by decide +kernel, by decide +kernel⟩, by decide⟩
theorem LS_X0_22 : zLS RX0 22 Y_J9_floorMod_7cf53 2 := ⟨zWi 493 (by decide +kernel) rfl, zWi 494 (by decide +kernel) rfl, wi_J9, wc_J9_floorMod_7cf53, ⟨by decide +kernel, by decide +kernel, by decide +kernel⟩, by decide⟩
theorem LV_X0_28 : zLV RX0 28 Y_X7_copyFrom 7 1 := ⟨⟨RX7, TX7, 8, rfl, rfl, zWi 498 (by decide +kernel) rfl⟩, zWi 496 (by decide +kernel) rfl, zWi 497 (by decide +kernel) rfl, wi_X7, wc_X7_copyFrom, ⟨by decide +kernel, by decide +kernel, by decide +kernel⟩, by decide⟩
theorem LV_X7_44 : zLV RX7 44 Y_X1_copyFrom 1 1 := ⟨⟨RX1, TX1, 12, rfl, rfl, zWi 502 (by decide +kernel) rfl⟩, zWi 500 (by decide +kernel) rfl, zWi 501 (by decide +kernel) rfl, wi_X1, wc_X1_copyFrom, ⟨by decide +kernel, by decide +kernel, by decide +kernel⟩, by decide⟩
theorem LC_X1_50 : zLC RX1 50 := ⟨zWi 504 (by decide +kernel) rfl, zWi 506 (by decide +kernel) rfl, zWi 505 (by decide +kernel) rfl, wi_sys⟩
theorem LV_X7_48 : zLV RX7 48 Y_X4_copyFrom 4 1 := ⟨⟨RX4, TX4, 5, rfl, rfl, zWi 509 (by decide +kernel) rfl⟩, zWi 507 (by decide +kernel) rfl, zWi 508 (by decide +kernel) rfl, wi_X4, wc_X4_copyFrom, ⟨by decide +kernel, by decide +kernel, by decide +kernel⟩, by decide⟩
theorem LC_X4_32 : zLC RX4 32 := ⟨zWi 511 (by decide +kernel) rfl, zWi 506 (by decide +kernel) rfl, zWi 505 (by decide +kernel) rfl, wi_sys⟩
theorem LV_X4_38 : zLV RX4 38 Y_X8_copyFrom 8 1 := ⟨⟨RX8, TX8, 4, rfl, rfl, zWi 514 (by decide +kernel) rfl⟩, zWi 512 (by decide +kernel) rfl, zWi 513 (by decide +kernel) rfl, wi_X8, wc_X8_copyFrom, ⟨by decide +kernel, by decide +kernel, by decide +kernel⟩, by decide⟩
theorem LM_X0_35 : zLM RX0 35 Lib.Math.min.name Lib.Math.min.code := ⟨zWi 516 (by decide +kernel) rfl, zWi 517 (by decide +kernel) rfl, wi_J9, zWi 518 (by decide +kernel) rfl⟩
theorem LV_X10_77 : zLV RX10 77 Y_X1_begin 1 1 := ⟨⟨RX1, TX1, 12, rfl, rfl, zWi 521 (by decide +kernel) rfl⟩, zWi 519 (by decide +kernel) rfl, zWi 520 (by decide +kernel) rfl, wi_X1, wc_X1_begin, ⟨by decide +kernel, by decide +kernel, by decide +kernel⟩, by decide⟩
theorem LV_L_18 : zLV RL 18 Y_X10_tin 10 3 := ⟨⟨RX10, TX10, 8, rfl, rfl, zWi 525 (by decide +kernel) rfl⟩, zWi 523 (by decide +kernel) rfl, zWi 524 (by decide +kernel) rfl, wi_X10, wc_X10_tin, ⟨by decide +kernel, by decide +kernel, by decide +kernel⟩, by decide⟩
theorem LV_X10_83 : zLV RX10 83 Y_X7_hasIngredient 7 1 := ⟨⟨RX7, TX7, 8, rfl, rfl, zWi 529 (by decide +kernel) rfl⟩, zWi 527 (by decide +kernel) rfl, zWi 528 (by decide +kernel) rfl, wi_X7, wc_X7_hasIngredient, ⟨by decide +kernel, by decide +kernel, by decide +kernel⟩, by decide⟩
theorem LV_X10_90 : zLV RX10 90 Y_X1_hasSize 1 1 := ⟨⟨RX1, TX1, 12, rfl, rfl, zWi 533 (by decide +kernel) rfl⟩, zWi 531 (by decide +kernel) rfl, zWi 532 (by decide +kernel) rfl, wi_X1, wc_X1_hasSize, ⟨by decide +kernel, by decide +kernel, by decide +kernel⟩, by decide⟩
theorem LV_X10_93 : zLV RX10 93 Y_X1_addKind 1 2 := ⟨⟨RX1, TX1, 12, rfl, rfl, zWi 537 (by decide +kernel) rfl⟩, zWi 535 (by decide +kernel) rfl, zWi 536 (by decide +kernel) rfl, wi_X1, wc_X1_addKind, ⟨by decide +kernel, by decide +kernel, by decide +kernel⟩, by decide⟩
theorem LV_L_23 : zLV RL 23 Y_X10_buyable 10 2 := ⟨⟨RX10, TX10, 8, rfl, rfl, zWi 541 (by decide +kernel) rfl⟩, zWi 539 (by decide +kernel) rfl, zWi 540 (by decide +kernel) rfl, wi_X10, wc_X10_buyable, ⟨by decide +kernel, by decide +kernel, by decide +kernel⟩, by decide⟩
theorem LS_X10_101 : zLS RX10 101 Y_X10_asNumber 1 := ⟨zWi 543 (by decide +kernel) rfl, zWi 544 (by decide +kernel) rfl, wi_X10, wc_X10_asNumber, ⟨by decide +kernel, by decide +kernel, by decide +kernel⟩, by decide⟩
theorem LV_L_28 : zLV RL 28 Y_X10_substitute 10 3 := ⟨⟨RX10, TX10, 8, rfl, rfl, zWi 548 (by decide +kernel) rfl⟩, zWi 546 (by decide +kernel) rfl, zWi 547 (by decide +kernel) rfl, wi_X10, wc_X10_substitute, ⟨by decide +kernel, by decide +kernel, by decide +kernel⟩, by decide⟩
theorem LV_L_32 : zLV RL 32 Y_X10_stock 10 2 := ⟨⟨RX10, TX10, 8, rfl, rfl, zWi 552 (by decide +kernel) rfl⟩, zWi 550 (by decide +kernel) rfl, zWi 551 (by decide +kernel) rfl, wi_X10, wc_X10_stock, ⟨by decide +kernel, by decide +kernel, by decide +kernel⟩, by decide⟩
theorem LV_X10_111 : zLV RX10 111 Y_X1_inPantry 1 0 := ⟨⟨RX1, TX1, 12, rfl, rfl, zWi 556 (by decide +kernel) rfl⟩, zWi 554 (by decide +kernel) rfl, zWi 555 (by decide +kernel) rfl, wi_X1, wc_X1_inPantry, ⟨by decide +kernel, by decide +kernel, by decide +kernel⟩, by decide⟩
theorem LV_X10_119 : zLV RX10 119 Y_X1_addLot 1 2 := ⟨⟨RX1, TX1, 12, rfl, rfl, zWi 561 (by decide +kernel) rfl⟩, zWi 559 (by decide +kernel) rfl, zWi 560 (by decide +kernel) rfl, wi_X1, wc_X1_addLot, ⟨by decide +kernel, by decide +kernel, by decide +kernel⟩, by decide⟩
theorem LS_X1_56 : zLS RX1 56 Y_X1_placeOf 1 := ⟨zWi 563 (by decide +kernel) rfl, zWi 564 (by decide +kernel) rfl, wi_X1, wc_X1_placeOf, ⟨by decide +kernel, by decide +kernel, by decide +kernel⟩, by decide⟩
theorem LS_X1_66 : zLS RX1 66 Y_J9_floorMod_7cf53 2 := ⟨zWi 566 (by decide +kernel) rfl, zWi 494 (by decide +kernel) rfl, wi_J9, wc_J9_floorMod_7cf53, ⟨by decide +kernel, by decide +kernel, by decide +kernel⟩, by decide⟩
theorem LV_L_36 : zLV RL 36 Y_X10_recipe 10 0 := ⟨⟨RX10, TX10, 8, rfl, rfl, zWi 569 (by decide +kernel) rfl⟩, zWi 567 (by decide +kernel) rfl, zWi 568 (by decide +kernel) rfl, wi_X10, wc_X10_recipe, ⟨by decide +kernel, by decide +kernel, by decide +kernel⟩, by decide⟩
theorem LV_X10_125 : zLV RX10 125 Y_X3_read 3 0 := ⟨⟨RX3, TX3, 4, rfl, rfl, zWi 573 (by decide +kernel) rfl⟩, zWi 571 (by decide +kernel) rfl, zWi 572 (by decide +kernel) rfl, wi_X3, wc_X3_read, ⟨by decide +kernel, by decide +kernel, by decide +kernel⟩, by decide⟩
theorem LV_X3_30 : zLV RX3 30 Y_X4_clear 4 0 := ⟨⟨RX4, TX4, 5, rfl, rfl, zWi 577 (by decide +kernel) rfl⟩, zWi 575 (by decide +kernel) rfl, zWi 576 (by decide +kernel) rfl, wi_X4, wc_X4_clear, ⟨by decide +kernel, by decide +kernel, by decide +kernel⟩, by decide⟩
theorem LV_X3_33 : zLV RX3 33 Y_X3_readNumber 3 1 := ⟨⟨RX3, TX3, 4, rfl, rfl, zWi 0 (by decide +kernel) rfl⟩, zWi 579 (by decide +kernel) rfl, zWi 581 (by decide +kernel) rfl, wi_X3, wc_X3_readNumber, ⟨by decide +kernel, by decide +kernel, by decide +kernel⟩, by decide⟩
theorem LV_X3_60 : zLV RX3 60 Y_X3_readDigit 3 2 := ⟨⟨RX3, TX3, 4, rfl, rfl, zWi 1 (by decide +kernel) rfl⟩, zWi 583 (by decide +kernel) rfl, zWi 585 (by decide +kernel) rfl, wi_X3, wc_X3_readDigit, ⟨by decide +kernel, by decide +kernel, by decide +kernel⟩, by decide⟩
theorem LV_X3_64 : zLV RX3 64 Y_X3_digitHere 3 0 := ⟨⟨RX3, TX3, 4, rfl, rfl, zWi 2 (by decide +kernel) rfl⟩, zWi 587 (by decide +kernel) rfl, zWi 589 (by decide +kernel) rfl, wi_X3, wc_X3_digitHere, ⟨by decide +kernel, by decide +kernel, by decide +kernel⟩, by decide⟩
theorem LV_X3_48 : zLV RX3 48 Y_X2_at 2 1 := ⟨⟨RX2, TX2, 2, rfl, rfl, zWi 593 (by decide +kernel) rfl⟩, zWi 591 (by decide +kernel) rfl, zWi 592 (by decide +kernel) rfl, wi_X2, wc_X2_at, ⟨by decide +kernel, by decide +kernel, by decide +kernel⟩, by decide⟩
theorem LM_X3_67 : zLM RX3 67 Lib.Math.min.name Lib.Math.min.code := ⟨zWi 595 (by decide +kernel) rfl, zWi 517 (by decide +kernel) rfl, wi_J9, zWi 518 (by decide +kernel) rfl⟩
theorem LV_X3_40 : zLV RX3 40 Y_X3_nameHere 3 0 := ⟨⟨RX3, TX3, 4, rfl, rfl, zWi 3 (by decide +kernel) rfl⟩, zWi 596 (by decide +kernel) rfl, zWi 598 (by decide +kernel) rfl, wi_X3, wc_X3_nameHere, ⟨by decide +kernel, by decide +kernel, by decide +kernel⟩, by decide⟩
theorem LV_X3_44 : zLV RX3 44 Y_X3_readAmount 3 1 := ⟨⟨RX3, TX3, 4, rfl, rfl, zWi 4 (by decide +kernel) rfl⟩, zWi 600 (by decide +kernel) rfl, zWi 602 (by decide +kernel) rfl, wi_X3, wc_X3_readAmount, ⟨by decide +kernel, by decide +kernel, by decide +kernel⟩, by decide⟩
theorem LV_X3_54 : zLV RX3 54 Y_X3_readStep 3 1 := ⟨⟨RX3, TX3, 4, rfl, rfl, zWi 5 (by decide +kernel) rfl⟩, zWi 604 (by decide +kernel) rfl, zWi 606 (by decide +kernel) rfl, wi_X3, wc_X3_readStep, ⟨by decide +kernel, by decide +kernel, by decide +kernel⟩, by decide⟩
theorem LV_X3_85 : zLV RX3 85 Y_X3_readSign 3 1 := ⟨⟨RX3, TX3, 4, rfl, rfl, zWi 6 (by decide +kernel) rfl⟩, zWi 608 (by decide +kernel) rfl, zWi 610 (by decide +kernel) rfl, wi_X3, wc_X3_readSign, ⟨by decide +kernel, by decide +kernel, by decide +kernel⟩, by decide⟩
theorem LV_X3_98 : zLV RX3 98 Y_X3_readStepBefore 3 2 := ⟨⟨RX3, TX3, 4, rfl, rfl, zWi 7 (by decide +kernel) rfl⟩, zWi 612 (by decide +kernel) rfl, zWi 614 (by decide +kernel) rfl, wi_X3, wc_X3_readStepBefore, ⟨by decide +kernel, by decide +kernel, by decide +kernel⟩, by decide⟩
theorem LV_X10_135 : zLV RX10 135 Y_X4_namesFrom 4 1 := ⟨⟨RX4, TX4, 5, rfl, rfl, zWi 618 (by decide +kernel) rfl⟩, zWi 616 (by decide +kernel) rfl, zWi 617 (by decide +kernel) rfl, wi_X4, wc_X4_namesFrom, ⟨by decide +kernel, by decide +kernel, by decide +kernel⟩, by decide⟩
theorem LM_X4_42 : zLM RX4 42 Lib.Math.max.name Lib.Math.max.code := ⟨zWi 620 (by decide +kernel) rfl, zWi 621 (by decide +kernel) rfl, wi_J9, zWi 622 (by decide +kernel) rfl⟩
theorem LV_X10_144 : zLV RX10 144 Y_X4_copyFrom 4 1 := ⟨⟨RX4, TX4, 5, rfl, rfl, zWi 509 (by decide +kernel) rfl⟩, zWi 623 (by decide +kernel) rfl, zWi 508 (by decide +kernel) rfl, wi_X4, wc_X4_copyFrom, ⟨by decide +kernel, by decide +kernel, by decide +kernel⟩, by decide⟩
theorem LV_L_41 : zLV RL 41 Y_X10_amount 10 3 := ⟨⟨RX10, TX10, 8, rfl, rfl, zWi 626 (by decide +kernel) rfl⟩, zWi 624 (by decide +kernel) rfl, zWi 625 (by decide +kernel) rfl, wi_X10, wc_X10_amount, ⟨by decide +kernel, by decide +kernel, by decide +kernel⟩, by decide⟩
theorem LV_X10_151 : zLV RX10 151 Y_X7_hasRecipe 7 1 := ⟨⟨RX7, TX7, 8, rfl, rfl, zWi 630 (by decide +kernel) rfl⟩, zWi 628 (by decide +kernel) rfl, zWi 629 (by decide +kernel) rfl, wi_X7, wc_X7_hasRecipe, ⟨by decide +kernel, by decide +kernel, by decide +kernel⟩, by decide⟩
theorem LV_L_45 : zLV RL 45 Y_X10_menu 10 2 := ⟨⟨RX10, TX10, 8, rfl, rfl, zWi 634 (by decide +kernel) rfl⟩, zWi 632 (by decide +kernel) rfl, zWi 633 (by decide +kernel) rfl, wi_X10, wc_X10_menu, ⟨by decide +kernel, by decide +kernel, by decide +kernel⟩, by decide⟩
theorem LV_L_49 : zLV RL 49 Y_X10_hands 10 1 := ⟨⟨RX10, TX10, 8, rfl, rfl, zWi 638 (by decide +kernel) rfl⟩, zWi 636 (by decide +kernel) rfl, zWi 637 (by decide +kernel) rfl, wi_X10, wc_X10_hands, ⟨by decide +kernel, by decide +kernel, by decide +kernel⟩, by decide⟩
theorem LV_L_53 : zLV RL 53 Y_X10_cook 10 0 := ⟨⟨RX10, TX10, 8, rfl, rfl, zWi 642 (by decide +kernel) rfl⟩, zWi 640 (by decide +kernel) rfl, zWi 641 (by decide +kernel) rfl, wi_X10, wc_X10_cook, ⟨by decide +kernel, by decide +kernel, by decide +kernel⟩, by decide⟩
theorem LV_X10_164 : zLV RX10 164 Y_X6_plan 6 1 := ⟨⟨RX6, TX6, 10, rfl, rfl, zWi 646 (by decide +kernel) rfl⟩, zWi 644 (by decide +kernel) rfl, zWi 645 (by decide +kernel) rfl, wi_X6, wc_X6_plan, ⟨by decide +kernel, by decide +kernel, by decide +kernel⟩, by decide⟩
theorem LV_X6_48 : zLV RX6 48 Y_X6_clear 6 1 := ⟨⟨RX6, TX6, 10, rfl, rfl, zWi 8 (by decide +kernel) rfl⟩, zWi 648 (by decide +kernel) rfl, zWi 650 (by decide +kernel) rfl, wi_X6, wc_X6_clear, ⟨by decide +kernel, by decide +kernel, by decide +kernel⟩, by decide⟩
theorem LV_X6_52 : zLV RX6 52 Y_X7_neededByRecipes 7 1 := ⟨⟨RX7, TX7, 8, rfl, rfl, zWi 654 (by decide +kernel) rfl⟩, zWi 652 (by decide +kernel) rfl, zWi 653 (by decide +kernel) rfl, wi_X7, wc_X7_neededByRecipes, ⟨by decide +kernel, by decide +kernel, by decide +kernel⟩, by decide⟩
theorem LV_X7_54 : zLV RX7 54 Y_X7_hasIngredient 7 1 := ⟨⟨RX7, TX7, 8, rfl, rfl, zWi 529 (by decide +kernel) rfl⟩, zWi 656 (by decide +kernel) rfl, zWi 528 (by decide +kernel) rfl, wi_X7, wc_X7_hasIngredient, ⟨by decide +kernel, by decide +kernel, by decide +kernel⟩, by decide⟩
theorem LV_X7_62 : zLV RX7 62 Y_X4_scaled 4 1 := ⟨⟨RX4, TX4, 5, rfl, rfl, zWi 659 (by decide +kernel) rfl⟩, zWi 657 (by decide +kernel) rfl, zWi 658 (by decide +kernel) rfl, wi_X4, wc_X4_scaled, ⟨by decide +kernel, by decide +kernel, by decide +kernel⟩, by decide⟩
theorem LV_X6_58 : zLV RX6 58 Y_X6_planOne 6 2 := ⟨⟨RX6, TX6, 10, rfl, rfl, zWi 9 (by decide +kernel) rfl⟩, zWi 664 (by decide +kernel) rfl, zWi 666 (by decide +kernel) rfl, wi_X6, wc_X6_planOne, ⟨by decide +kernel, by decide +kernel, by decide +kernel⟩, by decide⟩
theorem LV_X6_66 : zLV RX6 66 Y_X1_inPantry 1 0 := ⟨⟨RX1, TX1, 12, rfl, rfl, zWi 556 (by decide +kernel) rfl⟩, zWi 668 (by decide +kernel) rfl, zWi 555 (by decide +kernel) rfl, wi_X1, wc_X1_inPantry, ⟨by decide +kernel, by decide +kernel, by decide +kernel⟩, by decide⟩
theorem LM_X6_72 : zLM RX6 72 Lib.Math.min.name Lib.Math.min.code := ⟨zWi 669 (by decide +kernel) rfl, zWi 517 (by decide +kernel) rfl, wi_J9, zWi 518 (by decide +kernel) rfl⟩
theorem LV_X6_86 : zLV RX6 86 Y_X6_buy 6 3 := ⟨⟨RX6, TX6, 10, rfl, rfl, zWi 10 (by decide +kernel) rfl⟩, zWi 670 (by decide +kernel) rfl, zWi 672 (by decide +kernel) rfl, wi_X6, wc_X6_buy, ⟨by decide +kernel, by decide +kernel, by decide +kernel⟩, by decide⟩
theorem LV_X6_94 : zLV RX6 94 Y_X9_rank 9 1 := ⟨⟨RX9, TX9, 10, rfl, rfl, zWi 676 (by decide +kernel) rfl⟩, zWi 674 (by decide +kernel) rfl, zWi 675 (by decide +kernel) rfl, wi_X9, wc_X9_rank, ⟨by decide +kernel, by decide +kernel, by decide +kernel⟩, by decide⟩
theorem LV_X9_30 : zLV RX9 30 Y_X1_hasKind 1 1 := ⟨⟨RX1, TX1, 12, rfl, rfl, zWi 680 (by decide +kernel) rfl⟩, zWi 678 (by decide +kernel) rfl, zWi 679 (by decide +kernel) rfl, wi_X1, wc_X1_hasKind, ⟨by decide +kernel, by decide +kernel, by decide +kernel⟩, by decide⟩
theorem LS_X9_36 : zLS RX9 36 Y_X9_isAhead 3 := ⟨zWi 682 (by decide +kernel) rfl, zWi 683 (by decide +kernel) rfl, wi_X9, wc_X9_isAhead, ⟨by decide +kernel, by decide +kernel, by decide +kernel⟩, by decide⟩
theorem LV_X9_46 : zLV RX9 46 Y_X9_mostOf 9 1 := ⟨⟨RX9, TX9, 10, rfl, rfl, zWi 11 (by decide +kernel) rfl⟩, zWi 685 (by decide +kernel) rfl, zWi 687 (by decide +kernel) rfl, wi_X9, wc_X9_mostOf, ⟨by decide +kernel, by decide +kernel, by decide +kernel⟩, by decide⟩
theorem LS_X9_62 : zLS RX9 62 Y_X9_commonDivisor 2 := ⟨zWi 689 (by decide +kernel) rfl, zWi 690 (by decide +kernel) rfl, wi_X9, wc_X9_commonDivisor, ⟨by decide +kernel, by decide +kernel, by decide +kernel⟩, by decide⟩
theorem LM_X9_66 : zLM RX9 66 Lib.Math.min.name Lib.Math.min.code := ⟨zWi 692 (by decide +kernel) rfl, zWi 517 (by decide +kernel) rfl, wi_J9, zWi 518 (by decide +kernel) rfl⟩
theorem LV_X6_98 : zLV RX6 98 Y_X9_find 9 1 := ⟨⟨RX9, TX9, 10, rfl, rfl, zWi 695 (by decide +kernel) rfl⟩, zWi 693 (by decide +kernel) rfl, zWi 694 (by decide +kernel) rfl, wi_X9, wc_X9_find, ⟨by decide +kernel, by decide +kernel, by decide +kernel⟩, by decide⟩
theorem LV_X9_54 : zLV RX9 54 Y_X9_isTooDear 9 3 := ⟨⟨RX9, TX9, 10, rfl, rfl, zWi 12 (by decide +kernel) rfl⟩, zWi 697 (by decide +kernel) rfl, zWi 699 (by decide +kernel) rfl, wi_X9, wc_X9_isTooDear, ⟨by decide +kernel, by decide +kernel, by decide +kernel⟩, by decide⟩
theorem LM_X9_71 : zLM RX9 71 Lib.Math.max.name Lib.Math.max.code := ⟨zWi 701 (by decide +kernel) rfl, zWi 621 (by decide +kernel) rfl, wi_J9, zWi 622 (by decide +kernel) rfl⟩
theorem LV_X9_58 : zLV RX9 58 Y_X9_offer 9 3 := ⟨⟨RX9, TX9, 10, rfl, rfl, zWi 13 (by decide +kernel) rfl⟩, zWi 702 (by decide +kernel) rfl, zWi 704 (by decide +kernel) rfl, wi_X9, wc_X9_offer, ⟨by decide +kernel, by decide +kernel, by decide +kernel⟩, by decide⟩
theorem LV_X9_81 : zLV RX9 81 Y_X9_putTried 9 2 := ⟨⟨RX9, TX9, 10, rfl, rfl, zWi 14 (by decide +kernel) rfl⟩, zWi 707 (by decide +kernel) rfl, zWi 709 (by decide +kernel) rfl, wi_X9, wc_X9_putTried, ⟨by decide +kernel, by decide +kernel, by decide +kernel⟩, by decide⟩
theorem LV_X9_85 : zLV RX9 85 Y_X9_isBetter 9 3 := ⟨⟨RX9, TX9, 10, rfl, rfl, zWi 15 (by decide +kernel) rfl⟩, zWi 711 (by decide +kernel) rfl, zWi 713 (by decide +kernel) rfl, wi_X9, wc_X9_isBetter, ⟨by decide +kernel, by decide +kernel, by decide +kernel⟩, by decide⟩
theorem LC_X9_94 : zLC RX9 94 := ⟨zWi 715 (by decide +kernel) rfl, zWi 506 (by decide +kernel) rfl, zWi 505 (by decide +kernel) rfl, wi_sys⟩
theorem LV_X6_90 : zLV RX6 90 Y_X6_replace 6 3 := ⟨⟨RX6, TX6, 10, rfl, rfl, zWi 16 (by decide +kernel) rfl⟩, zWi 716 (by decide +kernel) rfl, zWi 718 (by decide +kernel) rfl, wi_X6, wc_X6_replace, ⟨by decide +kernel, by decide +kernel, by decide +kernel⟩, by decide⟩
theorem LV_X6_113 : zLV RX6 113 Y_X7_hasIngredient 7 1 := ⟨⟨RX7, TX7, 8, rfl, rfl, zWi 529 (by decide +kernel) rfl⟩, zWi 720 (by decide +kernel) rfl, zWi 528 (by decide +kernel) rfl, wi_X7, wc_X7_hasIngredient, ⟨by decide +kernel, by decide +kernel, by decide +kernel⟩, by decide⟩
theorem LV_X10_167 : zLV RX10 167 Y_X10_canBeCooked 10 0 := ⟨⟨RX10, TX10, 8, rfl, rfl, zWi 17 (by decide +kernel) rfl⟩, zWi 723 (by decide +kernel) rfl, zWi 725 (by decide +kernel) rfl, wi_X10, wc_X10_canBeCooked, ⟨by decide +kernel, by decide +kernel, by decide +kernel⟩, by decide⟩
theorem LV_X10_296 : zLV RX10 296 Y_X6_missingSet 6 0 := ⟨⟨RX6, TX6, 10, rfl, rfl, zWi 729 (by decide +kernel) rfl⟩, zWi 727 (by decide +kernel) rfl, zWi 728 (by decide +kernel) rfl, wi_X6, wc_X6_missingSet, ⟨by decide +kernel, by decide +kernel, by decide +kernel⟩, by decide⟩
theorem LV_X10_318 : zLV RX10 318 Y_X7_hasPortions 7 0 := ⟨⟨RX7, TX7, 8, rfl, rfl, zWi 733 (by decide +kernel) rfl⟩, zWi 731 (by decide +kernel) rfl, zWi 732 (by decide +kernel) rfl, wi_X7, wc_X7_hasPortions, ⟨by decide +kernel, by decide +kernel, by decide +kernel⟩, by decide⟩
theorem LV_X10_171 : zLV RX10 171 Y_X6_carryOut 6 1 := ⟨⟨RX6, TX6, 10, rfl, rfl, zWi 737 (by decide +kernel) rfl⟩, zWi 735 (by decide +kernel) rfl, zWi 736 (by decide +kernel) rfl, wi_X6, wc_X6_carryOut, ⟨by decide +kernel, by decide +kernel, by decide +kernel⟩, by decide⟩
theorem LV_X6_127 : zLV RX6 127 Y_X1_takeFromLots 1 2 := ⟨⟨RX1, TX1, 12, rfl, rfl, zWi 741 (by decide +kernel) rfl⟩, zWi 739 (by decide +kernel) rfl, zWi 740 (by decide +kernel) rfl, wi_X1, wc_X1_takeFromLots, ⟨by decide +kernel, by decide +kernel, by decide +kernel⟩, by decide⟩
theorem LM_X1_60 : zLM RX1 60 Lib.Math.min.name Lib.Math.min.code := ⟨zWi 743 (by decide +kernel) rfl, zWi 517 (by decide +kernel) rfl, wi_J9, zWi 518 (by decide +kernel) rfl⟩
theorem LV_X6_131 : zLV RX6 131 Y_X1_addLot 1 2 := ⟨⟨RX1, TX1, 12, rfl, rfl, zWi 561 (by decide +kernel) rfl⟩, zWi 744 (by decide +kernel) rfl, zWi 560 (by decide +kernel) rfl, wi_X1, wc_X1_addLot, ⟨by decide +kernel, by decide +kernel, by decide +kernel⟩, by decide⟩
theorem LV_X10_174 : zLV RX10 174 Y_X6_allPrices 6 0 := ⟨⟨RX6, TX6, 10, rfl, rfl, zWi 747 (by decide +kernel) rfl⟩, zWi 745 (by decide +kernel) rfl, zWi 746 (by decide +kernel) rfl, wi_X6, wc_X6_allPrices, ⟨by decide +kernel, by decide +kernel, by decide +kernel⟩, by decide⟩
theorem LS_X6_139 : zLS RX6 139 Y_X6_sum 1 := ⟨zWi 749 (by decide +kernel) rfl, zWi 750 (by decide +kernel) rfl, wi_X6, wc_X6_sum, ⟨by decide +kernel, by decide +kernel, by decide +kernel⟩, by decide⟩
theorem LV_X10_183 : zLV RX10 183 Y_X7_emptyMenu 7 0 := ⟨⟨RX7, TX7, 8, rfl, rfl, zWi 754 (by decide +kernel) rfl⟩, zWi 752 (by decide +kernel) rfl, zWi 753 (by decide +kernel) rfl, wi_X7, wc_X7_emptyMenu, ⟨by decide +kernel, by decide +kernel, by decide +kernel⟩, by decide⟩
theorem LV_L_57 : zLV RL 57 Y_X10_pass 10 1 := ⟨⟨RX10, TX10, 8, rfl, rfl, zWi 758 (by decide +kernel) rfl⟩, zWi 756 (by decide +kernel) rfl, zWi 757 (by decide +kernel) rfl, wi_X10, wc_X10_pass, ⟨by decide +kernel, by decide +kernel, by decide +kernel⟩, by decide⟩
theorem LV_X10_186 : zLV RX10 186 Y_X7_letPass 7 1 := ⟨⟨RX7, TX7, 8, rfl, rfl, zWi 762 (by decide +kernel) rfl⟩, zWi 760 (by decide +kernel) rfl, zWi 761 (by decide +kernel) rfl, wi_X7, wc_X7_letPass, ⟨by decide +kernel, by decide +kernel, by decide +kernel⟩, by decide⟩
theorem LV_X7_66 : zLV RX7 66 Y_X1_throwAway 1 1 := ⟨⟨RX1, TX1, 12, rfl, rfl, zWi 766 (by decide +kernel) rfl⟩, zWi 764 (by decide +kernel) rfl, zWi 765 (by decide +kernel) rfl, wi_X1, wc_X1_throwAway, ⟨by decide +kernel, by decide +kernel, by decide +kernel⟩, by decide⟩
theorem LV_L_61 : zLV RL 61 Y_X10_about 10 2 := ⟨⟨RX10, TX10, 8, rfl, rfl, zWi 770 (by decide +kernel) rfl⟩, zWi 768 (by decide +kernel) rfl, zWi 769 (by decide +kernel) rfl, wi_X10, wc_X10_about, ⟨by decide +kernel, by decide +kernel, by decide +kernel⟩, by decide⟩
theorem LV_X10_193 : zLV RX10 193 Y_X1_lotsThere 1 0 := ⟨⟨RX1, TX1, 12, rfl, rfl, zWi 774 (by decide +kernel) rfl⟩, zWi 772 (by decide +kernel) rfl, zWi 773 (by decide +kernel) rfl, wi_X1, wc_X1_lotsThere, ⟨by decide +kernel, by decide +kernel, by decide +kernel⟩, by decide⟩
theorem LV_X10_196 : zLV RX10 196 Y_X1_firstSpoilDay 1 1 := ⟨⟨RX1, TX1, 12, rfl, rfl, zWi 778 (by decide +kernel) rfl⟩, zWi 776 (by decide +kernel) rfl, zWi 777 (by decide +kernel) rfl, wi_X1, wc_X1_firstSpoilDay, ⟨by decide +kernel, by decide +kernel, by decide +kernel⟩, by decide⟩
theorem LV_L_65 : zLV RL 65 Y_X10_ofTin 10 3 := ⟨⟨RX10, TX10, 8, rfl, rfl, zWi 782 (by decide +kernel) rfl⟩, zWi 780 (by decide +kernel) rfl, zWi 781 (by decide +kernel) rfl, wi_X10, wc_X10_ofTin, ⟨by decide +kernel, by decide +kernel, by decide +kernel⟩, by decide⟩
theorem LV_X10_208 : zLV RX10 208 Y_X1_hasKind 1 1 := ⟨⟨RX1, TX1, 12, rfl, rfl, zWi 680 (by decide +kernel) rfl⟩, zWi 784 (by decide +kernel) rfl, zWi 679 (by decide +kernel) rfl, wi_X1, wc_X1_hasKind, ⟨by decide +kernel, by decide +kernel, by decide +kernel⟩, by decide⟩
theorem LV_L_69 : zLV RL 69 Y_X10_needs 10 2 := ⟨⟨RX10, TX10, 8, rfl, rfl, zWi 787 (by decide +kernel) rfl⟩, zWi 785 (by decide +kernel) rfl, zWi 786 (by decide +kernel) rfl, wi_X10, wc_X10_needs, ⟨by decide +kernel, by decide +kernel, by decide +kernel⟩, by decide⟩
theorem LV_L_73 : zLV RL 73 Y_X10_step 10 3 := ⟨⟨RX10, TX10, 8, rfl, rfl, zWi 791 (by decide +kernel) rfl⟩, zWi 789 (by decide +kernel) rfl, zWi 790 (by decide +kernel) rfl, wi_X10, wc_X10_step, ⟨by decide +kernel, by decide +kernel, by decide +kernel⟩, by decide⟩
theorem LV_X10_244 : zLV RX10 244 Y_X4_hasStep 4 1 := ⟨⟨RX4, TX4, 5, rfl, rfl, zWi 795 (by decide +kernel) rfl⟩, zWi 793 (by decide +kernel) rfl, zWi 794 (by decide +kernel) rfl, wi_X4, wc_X4_hasStep, ⟨by decide +kernel, by decide +kernel, by decide +kernel⟩, by decide⟩
theorem LV_X10_256 : zLV RX10 256 Y_X4_lasts 4 1 := ⟨⟨RX4, TX4, 5, rfl, rfl, zWi 799 (by decide +kernel) rfl⟩, zWi 797 (by decide +kernel) rfl, zWi 798 (by decide +kernel) rfl, wi_X4, wc_X4_lasts, ⟨by decide +kernel, by decide +kernel, by decide +kernel⟩, by decide⟩
theorem LV_X4_51 : zLV RX4 51 Y_X4_hasStep 4 1 := ⟨⟨RX4, TX4, 5, rfl, rfl, zWi 795 (by decide +kernel) rfl⟩, zWi 801 (by decide +kernel) rfl, zWi 794 (by decide +kernel) rfl, wi_X4, wc_X4_hasStep, ⟨by decide +kernel, by decide +kernel, by decide +kernel⟩, by decide⟩
theorem LV_X4_62 : zLV RX4 62 Y_X4_scaled 4 1 := ⟨⟨RX4, TX4, 5, rfl, rfl, zWi 659 (by decide +kernel) rfl⟩, zWi 802 (by decide +kernel) rfl, zWi 658 (by decide +kernel) rfl, wi_X4, wc_X4_scaled, ⟨by decide +kernel, by decide +kernel, by decide +kernel⟩, by decide⟩
theorem LV_X10_268 : zLV RX10 268 Y_X10_tailInMenu 10 2 := ⟨⟨RX10, TX10, 8, rfl, rfl, zWi 18 (by decide +kernel) rfl⟩, zWi 803 (by decide +kernel) rfl, zWi 805 (by decide +kernel) rfl, wi_X10, wc_X10_tailInMenu, ⟨by decide +kernel, by decide +kernel, by decide +kernel⟩, by decide⟩
theorem LV_X10_284 : zLV RX10 284 Y_X5_gather 5 1 := ⟨⟨RX5, TX5, 9, rfl, rfl, zWi 809 (by decide +kernel) rfl⟩, zWi 807 (by decide +kernel) rfl, zWi 808 (by decide +kernel) rfl, wi_X5, wc_X5_gather, ⟨by decide +kernel, by decide +kernel, by decide +kernel⟩, by decide⟩
theorem LV_X5_51 : zLV RX5 51 Y_X5_gatherSteps 5 2 := ⟨⟨RX5, TX5, 9, rfl, rfl, zWi 19 (by decide +kernel) rfl⟩, zWi 811 (by decide +kernel) rfl, zWi 813 (by decide +kernel) rfl, wi_X5, wc_X5_gatherSteps, ⟨by decide +kernel, by decide +kernel, by decide +kernel⟩, by decide⟩
theorem LM_X5_58 : zLM RX5 58 Lib.Math.min.name Lib.Math.min.code := ⟨zWi 815 (by decide +kernel) rfl, zWi 517 (by decide +kernel) rfl, wi_J9, zWi 518 (by decide +kernel) rfl⟩
theorem LV_X5_64 : zLV RX5 64 Y_X4_lasts 4 1 := ⟨⟨RX4, TX4, 5, rfl, rfl, zWi 799 (by decide +kernel) rfl⟩, zWi 816 (by decide +kernel) rfl, zWi 798 (by decide +kernel) rfl, wi_X4, wc_X4_lasts, ⟨by decide +kernel, by decide +kernel, by decide +kernel⟩, by decide⟩
theorem LV_X5_77 : zLV RX5 77 Y_X5_longestBehind 5 3 := ⟨⟨RX5, TX5, 9, rfl, rfl, zWi 20 (by decide +kernel) rfl⟩, zWi 817 (by decide +kernel) rfl, zWi 819 (by decide +kernel) rfl, wi_X5, wc_X5_longestBehind, ⟨by decide +kernel, by decide +kernel, by decide +kernel⟩, by decide⟩
theorem LM_X5_81 : zLM RX5 81 Lib.Math.max.name Lib.Math.max.code := ⟨zWi 821 (by decide +kernel) rfl, zWi 621 (by decide +kernel) rfl, wi_J9, zWi 622 (by decide +kernel) rfl⟩
theorem LV_X5_84 : zLV RX5 84 Y_X5_insert 5 1 := ⟨⟨RX5, TX5, 9, rfl, rfl, zWi 21 (by decide +kernel) rfl⟩, zWi 822 (by decide +kernel) rfl, zWi 824 (by decide +kernel) rfl, wi_X5, wc_X5_insert, ⟨by decide +kernel, by decide +kernel, by decide +kernel⟩, by decide⟩
theorem LV_X10_272 : zLV RX10 272 Y_X10_beginInMenu 10 2 := ⟨⟨RX10, TX10, 8, rfl, rfl, zWi 22 (by decide +kernel) rfl⟩, zWi 826 (by decide +kernel) rfl, zWi 828 (by decide +kernel) rfl, wi_X10, wc_X10_beginInMenu, ⟨by decide +kernel, by decide +kernel, by decide +kernel⟩, by decide⟩
theorem LV_X10_299 : zLV RX10 299 Y_X5_run 5 1 := ⟨⟨RX5, TX5, 9, rfl, rfl, zWi 832 (by decide +kernel) rfl⟩, zWi 830 (by decide +kernel) rfl, zWi 831 (by decide +kernel) rfl, wi_X5, wc_X5_run, ⟨by decide +kernel, by decide +kernel, by decide +kernel⟩, by decide⟩
theorem LV_X5_88 : zLV RX5 88 Y_X5_beginAt 5 2 := ⟨⟨RX5, TX5, 9, rfl, rfl, zWi 23 (by decide +kernel) rfl⟩, zWi 834 (by decide +kernel) rfl, zWi 836 (by decide +kernel) rfl, wi_X5, wc_X5_beginAt, ⟨by decide +kernel, by decide +kernel, by decide +kernel⟩, by decide⟩
theorem LV_X5_95 : zLV RX5 95 Y_X5_busyHands 5 1 := ⟨⟨RX5, TX5, 9, rfl, rfl, zWi 24 (by decide +kernel) rfl⟩, zWi 838 (by decide +kernel) rfl, zWi 840 (by decide +kernel) rfl, wi_X5, wc_X5_busyHands, ⟨by decide +kernel, by decide +kernel, by decide +kernel⟩, by decide⟩
theorem LV_X5_98 : zLV RX5 98 Y_X5_isReady 5 2 := ⟨⟨RX5, TX5, 9, rfl, rfl, zWi 25 (by decide +kernel) rfl⟩, zWi 842 (by decide +kernel) rfl, zWi 844 (by decide +kernel) rfl, wi_X5, wc_X5_isReady, ⟨by decide +kernel, by decide +kernel, by decide +kernel⟩, by decide⟩
theorem LS_X5_102 : zLS RX5 102 Y_J9_floorMod_7cf53 2 := ⟨zWi 846 (by decide +kernel) rfl, zWi 494 (by decide +kernel) rfl, wi_J9, wc_J9_floorMod_7cf53, ⟨by decide +kernel, by decide +kernel, by decide +kernel⟩, by decide⟩
theorem LV_X5_105 : zLV RX5 105 Y_X5_hasEnded 5 2 := ⟨⟨RX5, TX5, 9, rfl, rfl, zWi 26 (by decide +kernel) rfl⟩, zWi 847 (by decide +kernel) rfl, zWi 849 (by decide +kernel) rfl, wi_X5, wc_X5_hasEnded, ⟨by decide +kernel, by decide +kernel, by decide +kernel⟩, by decide⟩
theorem LV_X5_92 : zLV RX5 92 Y_X5_nextEnd 5 1 := ⟨⟨RX5, TX5, 9, rfl, rfl, zWi 27 (by decide +kernel) rfl⟩, zWi 851 (by decide +kernel) rfl, zWi 853 (by decide +kernel) rfl, wi_X5, wc_X5_nextEnd, ⟨by decide +kernel, by decide +kernel, by decide +kernel⟩, by decide⟩
theorem LV_L_77 : zLV RL 77 Y_X10_ofRecipe 10 2 := ⟨⟨RX10, TX10, 8, rfl, rfl, zWi 857 (by decide +kernel) rfl⟩, zWi 855 (by decide +kernel) rfl, zWi 856 (by decide +kernel) rfl, wi_X10, wc_X10_ofRecipe, ⟨by decide +kernel, by decide +kernel, by decide +kernel⟩, by decide⟩
theorem LV_L_81 : zLV RL 81 Y_X10_count 10 1 := ⟨⟨RX10, TX10, 8, rfl, rfl, zWi 861 (by decide +kernel) rfl⟩, zWi 859 (by decide +kernel) rfl, zWi 860 (by decide +kernel) rfl, wi_X10, wc_X10_count, ⟨by decide +kernel, by decide +kernel, by decide +kernel⟩, by decide⟩
theorem LV_X10_281 : zLV RX10 281 Y_X10_ofShopping 10 1 := ⟨⟨RX10, TX10, 8, rfl, rfl, zWi 28 (by decide +kernel) rfl⟩, zWi 863 (by decide +kernel) rfl, zWi 865 (by decide +kernel) rfl, wi_X10, wc_X10_ofShopping, ⟨by decide +kernel, by decide +kernel, by decide +kernel⟩, by decide⟩
theorem LV_X10_293 : zLV RX10 293 Y_X6_allLeftOver 6 0 := ⟨⟨RX6, TX6, 10, rfl, rfl, zWi 869 (by decide +kernel) rfl⟩, zWi 867 (by decide +kernel) rfl, zWi 868 (by decide +kernel) rfl, wi_X6, wc_X6_allLeftOver, ⟨by decide +kernel, by decide +kernel, by decide +kernel⟩, by decide⟩
theorem LV_X10_287 : zLV RX10 287 Y_X10_ofSchedule 10 1 := ⟨⟨RX10, TX10, 8, rfl, rfl, zWi 29 (by decide +kernel) rfl⟩, zWi 871 (by decide +kernel) rfl, zWi 873 (by decide +kernel) rfl, wi_X10, wc_X10_ofSchedule, ⟨by decide +kernel, by decide +kernel, by decide +kernel⟩, by decide⟩
theorem LV_X10_302 : zLV RX10 302 Y_X5_end 5 0 := ⟨⟨RX5, TX5, 9, rfl, rfl, zWi 877 (by decide +kernel) rfl⟩, zWi 875 (by decide +kernel) rfl, zWi 876 (by decide +kernel) rfl, wi_X5, wc_X5_end, ⟨by decide +kernel, by decide +kernel, by decide +kernel⟩, by decide⟩
theorem LV_X10_327 : zLV RX10 327 Y_X5_bound 5 1 := ⟨⟨RX5, TX5, 9, rfl, rfl, zWi 881 (by decide +kernel) rfl⟩, zWi 879 (by decide +kernel) rfl, zWi 880 (by decide +kernel) rfl, wi_X5, wc_X5_bound, ⟨by decide +kernel, by decide +kernel, by decide +kernel⟩, by decide⟩
theorem LV_L_85 : zLV RL 85 Y_X10_bestPortions 10 3 := ⟨⟨RX10, TX10, 8, rfl, rfl, zWi 886 (by decide +kernel) rfl⟩, zWi 884 (by decide +kernel) rfl, zWi 885 (by decide +kernel) rfl, wi_X10, wc_X10_bestPortions, ⟨by decide +kernel, by decide +kernel, by decide +kernel⟩, by decide⟩
theorem LV_L_89 : zLV RL 89 Y_X10_fewestHands 10 1 := ⟨⟨RX10, TX10, 8, rfl, rfl, zWi 890 (by decide +kernel) rfl⟩, zWi 888 (by decide +kernel) rfl, zWi 889 (by decide +kernel) rfl, wi_X10, wc_X10_fewestHands, ⟨by decide +kernel, by decide +kernel, by decide +kernel⟩, by decide⟩
theorem LV_L_93 : zLV RL 93 Y_X10_ifBuyable 10 2 := ⟨⟨RX10, TX10, 8, rfl, rfl, zWi 894 (by decide +kernel) rfl⟩, zWi 892 (by decide +kernel) rfl, zWi 893 (by decide +kernel) rfl, wi_X10, wc_X10_ifBuyable, ⟨by decide +kernel, by decide +kernel, by decide +kernel⟩, by decide⟩
theorem LV_L_99 : zLV RL 99 Y_X10_put 10 1 := ⟨⟨RX10, TX10, 8, rfl, rfl, zWi 898 (by decide +kernel) rfl⟩, zWi 896 (by decide +kernel) rfl, zWi 897 (by decide +kernel) rfl, wi_X10, wc_X10_put, ⟨by decide +kernel, by decide +kernel, by decide +kernel⟩, by decide⟩
theorem LS_X10_305 : zLS RX10 305 Y_X10_lengthOf 1 := ⟨zWi 900 (by decide +kernel) rfl, zWi 901 (by decide +kernel) rfl, wi_X10, wc_X10_lengthOf, ⟨by decide +kernel, by decide +kernel, by decide +kernel⟩, by decide⟩
theorem LV_X10_309 : zLV RX10 309 Y_X2_append 2 2 := ⟨⟨RX2, TX2, 2, rfl, rfl, zWi 906 (by decide +kernel) rfl⟩, zWi 904 (by decide +kernel) rfl, zWi 905 (by decide +kernel) rfl, wi_X2, wc_X2_append, ⟨by decide +kernel, by decide +kernel, by decide +kernel⟩, by decide⟩
theorem LV_L_104 : zLV RL 104 Y_X10_wipe 10 0 := ⟨⟨RX10, TX10, 8, rfl, rfl, zWi 911 (by decide +kernel) rfl⟩, zWi 909 (by decide +kernel) rfl, zWi 910 (by decide +kernel) rfl, wi_X10, wc_X10_wipe, ⟨by decide +kernel, by decide +kernel, by decide +kernel⟩, by decide⟩
theorem LV_L_108 : zLV RL 108 Y_X10_fault 10 0 := ⟨⟨RX10, TX10, 8, rfl, rfl, zWi 915 (by decide +kernel) rfl⟩, zWi 913 (by decide +kernel) rfl, zWi 914 (by decide +kernel) rfl, wi_X10, wc_X10_fault, ⟨by decide +kernel, by decide +kernel, by decide +kernel⟩, by decide⟩
theorem LV_L_112 : zLV RL 112 Y_X10_undo 10 0 := ⟨⟨RX10, TX10, 8, rfl, rfl, zWi 919 (by decide +kernel) rfl⟩, zWi 917 (by decide +kernel) rfl, zWi 918 (by decide +kernel) rfl, wi_X10, wc_X10_undo, ⟨by decide +kernel, by decide +kernel, by decide +kernel⟩, by decide⟩
theorem LV_X10_313 : zLV RX10 313 Y_X0_giveBack 0 1 := ⟨⟨RX0, TX0, 3, rfl, rfl, zWi 923 (by decide +kernel) rfl⟩, zWi 921 (by decide +kernel) rfl, zWi 922 (by decide +kernel) rfl, wi_X0, wc_X0_giveBack, ⟨by decide +kernel, by decide +kernel, by decide +kernel⟩, by decide⟩
theorem LV_L_116 : zLV RL 116 Y_X10_save 10 1 := ⟨⟨RX10, TX10, 8, rfl, rfl, zWi 927 (by decide +kernel) rfl⟩, zWi 925 (by decide +kernel) rfl, zWi 926 (by decide +kernel) rfl, wi_X10, wc_X10_save, ⟨by decide +kernel, by decide +kernel, by decide +kernel⟩, by decide⟩
theorem LV_X10_316 : zLV RX10 316 Y_X7_copyFrom 7 1 := ⟨⟨RX7, TX7, 8, rfl, rfl, zWi 498 (by decide +kernel) rfl⟩, zWi 929 (by decide +kernel) rfl, zWi 497 (by decide +kernel) rfl, wi_X7, wc_X7_copyFrom, ⟨by decide +kernel, by decide +kernel, by decide +kernel⟩, by decide⟩
theorem LV_L_120 : zLV RL 120 Y_X10_restore 10 1 := ⟨⟨RX10, TX10, 8, rfl, rfl, zWi 932 (by decide +kernel) rfl⟩, zWi 930 (by decide +kernel) rfl, zWi 931 (by decide +kernel) rfl, wi_X10, wc_X10_restore, ⟨by decide +kernel, by decide +kernel, by decide +kernel⟩, by decide⟩
theorem LV_L_17 : zLV RL 17 Y_X11_ingredient 11 1 := ⟨⟨RX11, TX11, 31, rfl, rfl, zWi 1035 (by decide +kernel) rfl⟩, zWi 1033 (by decide +kernel) rfl, zWi 1034 (by decide +kernel) rfl, wi_X11, wc_X11_ingredient, ⟨by decide +kernel, by decide +kernel, by decide +kernel⟩, by decide⟩
theorem LS_X11_76 : zLS RX11 76 Y_X11_in 3 := ⟨zWi 1037 (by decide +kernel) rfl, zWi 1038 (by decide +kernel) rfl, wi_X11, wc_X11_in, ⟨by decide +kernel, by decide +kernel, by decide +kernel⟩, by decide⟩
theorem LV_X11_80 : zLV RX11 80 Y_X11_keep 11 0 := ⟨⟨RX11, TX11, 31, rfl, rfl, zWi 30 (by decide +kernel) rfl⟩, zWi 1040 (by decide +kernel) rfl, zWi 1042 (by decide +kernel) rfl, wi_X11, wc_X11_keep, ⟨by decide +kernel, by decide +kernel, by decide +kernel⟩, by decide⟩
theorem LV_X11_83 : zLV RX11 83 Y_X11_lay 11 3 := ⟨⟨RX11, TX11, 31, rfl, rfl, zWi 31 (by decide +kernel) rfl⟩, zWi 1044 (by decide +kernel) rfl, zWi 1046 (by decide +kernel) rfl, wi_X11, wc_X11_lay, ⟨by decide +kernel, by decide +kernel, by decide +kernel⟩, by decide⟩
theorem LV_L_22 : zLV RL 22 Y_X11_tin 11 3 := ⟨⟨RX11, TX11, 31, rfl, rfl, zWi 1050 (by decide +kernel) rfl⟩, zWi 1048 (by decide +kernel) rfl, zWi 1049 (by decide +kernel) rfl, wi_X11, wc_X11_tin, ⟨by decide +kernel, by decide +kernel, by decide +kernel⟩, by decide⟩
theorem LV_X11_90 : zLV RX11 90 Y_X11_isIngredient 11 1 := ⟨⟨RX11, TX11, 31, rfl, rfl, zWi 32 (by decide +kernel) rfl⟩, zWi 1052 (by decide +kernel) rfl, zWi 1054 (by decide +kernel) rfl, wi_X11, wc_X11_isIngredient, ⟨by decide +kernel, by decide +kernel, by decide +kernel⟩, by decide⟩
theorem LV_X11_87 : zLV RX11 87 Y_X11_of 11 2 := ⟨⟨RX11, TX11, 31, rfl, rfl, zWi 33 (by decide +kernel) rfl⟩, zWi 1056 (by decide +kernel) rfl, zWi 1058 (by decide +kernel) rfl, wi_X11, wc_X11_of, ⟨by decide +kernel, by decide +kernel, by decide +kernel⟩, by decide⟩
theorem LV_X11_94 : zLV RX11 94 Y_X11_sizeOf 11 2 := ⟨⟨RX11, TX11, 31, rfl, rfl, zWi 34 (by decide +kernel) rfl⟩, zWi 1060 (by decide +kernel) rfl, zWi 1062 (by decide +kernel) rfl, wi_X11, wc_X11_sizeOf, ⟨by decide +kernel, by decide +kernel, by decide +kernel⟩, by decide⟩
theorem LV_L_27 : zLV RL 27 Y_X11_buyable 11 2 := ⟨⟨RX11, TX11, 31, rfl, rfl, zWi 1066 (by decide +kernel) rfl⟩, zWi 1064 (by decide +kernel) rfl, zWi 1065 (by decide +kernel) rfl, wi_X11, wc_X11_buyable, ⟨by decide +kernel, by decide +kernel, by decide +kernel⟩, by decide⟩
theorem LV_L_31 : zLV RL 31 Y_X11_substitute 11 3 := ⟨⟨RX11, TX11, 31, rfl, rfl, zWi 1070 (by decide +kernel) rfl⟩, zWi 1068 (by decide +kernel) rfl, zWi 1069 (by decide +kernel) rfl, wi_X11, wc_X11_substitute, ⟨by decide +kernel, by decide +kernel, by decide +kernel⟩, by decide⟩
theorem LV_L_35 : zLV RL 35 Y_X11_stock 11 2 := ⟨⟨RX11, TX11, 31, rfl, rfl, zWi 1074 (by decide +kernel) rfl⟩, zWi 1072 (by decide +kernel) rfl, zWi 1073 (by decide +kernel) rfl, wi_X11, wc_X11_stock, ⟨by decide +kernel, by decide +kernel, by decide +kernel⟩, by decide⟩
theorem LV_X11_103 : zLV RX11 103 Y_X11_pantry 11 1 := ⟨⟨RX11, TX11, 31, rfl, rfl, zWi 35 (by decide +kernel) rfl⟩, zWi 1076 (by decide +kernel) rfl, zWi 1078 (by decide +kernel) rfl, wi_X11, wc_X11_pantry, ⟨by decide +kernel, by decide +kernel, by decide +kernel⟩, by decide⟩
theorem LV_X11_108 : zLV RX11 108 Y_X11_putIn 11 2 := ⟨⟨RX11, TX11, 31, rfl, rfl, zWi 36 (by decide +kernel) rfl⟩, zWi 1081 (by decide +kernel) rfl, zWi 1083 (by decide +kernel) rfl, wi_X11, wc_X11_putIn, ⟨by decide +kernel, by decide +kernel, by decide +kernel⟩, by decide⟩
theorem LV_X11_97 : zLV RX11 97 Y_X11_lotOn 11 2 := ⟨⟨RX11, TX11, 31, rfl, rfl, zWi 37 (by decide +kernel) rfl⟩, zWi 1085 (by decide +kernel) rfl, zWi 1087 (by decide +kernel) rfl, wi_X11, wc_X11_lotOn, ⟨by decide +kernel, by decide +kernel, by decide +kernel⟩, by decide⟩
theorem LV_X11_100 : zLV RX11 100 Y_X11_layLot 11 3 := ⟨⟨RX11, TX11, 31, rfl, rfl, zWi 38 (by decide +kernel) rfl⟩, zWi 1089 (by decide +kernel) rfl, zWi 1091 (by decide +kernel) rfl, wi_X11, wc_X11_layLot, ⟨by decide +kernel, by decide +kernel, by decide +kernel⟩, by decide⟩
theorem LV_L_60 : zLV RL 60 Y_X11_pass 11 1 := ⟨⟨RX11, TX11, 31, rfl, rfl, zWi 1095 (by decide +kernel) rfl⟩, zWi 1093 (by decide +kernel) rfl, zWi 1094 (by decide +kernel) rfl, wi_X11, wc_X11_pass, ⟨by decide +kernel, by decide +kernel, by decide +kernel⟩, by decide⟩
theorem LV_L_56 : zLV RL 56 Y_X11_cook 11 0 := ⟨⟨RX11, TX11, 31, rfl, rfl, zWi 1099 (by decide +kernel) rfl⟩, zWi 1097 (by decide +kernel) rfl, zWi 1098 (by decide +kernel) rfl, wi_X11, wc_X11_cook, ⟨by decide +kernel, by decide +kernel, by decide +kernel⟩, by decide⟩
theorem LV_X11_161 : zLV RX11 161 Y_X11_canCook 11 0 := ⟨⟨RX11, TX11, 31, rfl, rfl, zWi 39 (by decide +kernel) rfl⟩, zWi 1101 (by decide +kernel) rfl, zWi 1103 (by decide +kernel) rfl, wi_X11, wc_X11_canCook, ⟨by decide +kernel, by decide +kernel, by decide +kernel⟩, by decide⟩
theorem LV_X11_150 : zLV RX11 150 Y_X11_findNeeds 11 0 := ⟨⟨RX11, TX11, 31, rfl, rfl, zWi 40 (by decide +kernel) rfl⟩, zWi 1105 (by decide +kernel) rfl, zWi 1107 (by decide +kernel) rfl, wi_X11, wc_X11_findNeeds, ⟨by decide +kernel, by decide +kernel, by decide +kernel⟩, by decide⟩
theorem LV_X11_141 : zLV RX11 141 Y_X11_clearNeeds 11 0 := ⟨⟨RX11, TX11, 31, rfl, rfl, zWi 41 (by decide +kernel) rfl⟩, zWi 1109 (by decide +kernel) rfl, zWi 1111 (by decide +kernel) rfl, wi_X11, wc_X11_clearNeeds, ⟨by decide +kernel, by decide +kernel, by decide +kernel⟩, by decide⟩
theorem LV_X11_138 : zLV RX11 138 Y_X11_byRecipes 11 1 := ⟨⟨RX11, TX11, 31, rfl, rfl, zWi 42 (by decide +kernel) rfl⟩, zWi 1113 (by decide +kernel) rfl, zWi 1115 (by decide +kernel) rfl, wi_X11, wc_X11_byRecipes, ⟨by decide +kernel, by decide +kernel, by decide +kernel⟩, by decide⟩
theorem LV_X11_68 : zLV RX11 68 Y_X11_ofARecipe 11 2 := ⟨⟨RX11, TX11, 31, rfl, rfl, zWi 43 (by decide +kernel) rfl⟩, zWi 1117 (by decide +kernel) rfl, zWi 1119 (by decide +kernel) rfl, wi_X11, wc_X11_ofARecipe, ⟨by decide +kernel, by decide +kernel, by decide +kernel⟩, by decide⟩
theorem LS_X11_112 : zLS RX11 112 Y_X11_up 2 := ⟨zWi 1121 (by decide +kernel) rfl, zWi 1122 (by decide +kernel) rfl, wi_X11, wc_X11_up, ⟨by decide +kernel, by decide +kernel, by decide +kernel⟩, by decide⟩
theorem LV_X11_144 : zLV RX11 144 Y_X11_getRest 11 2 := ⟨⟨RX11, TX11, 31, rfl, rfl, zWi 44 (by decide +kernel) rfl⟩, zWi 1124 (by decide +kernel) rfl, zWi 1126 (by decide +kernel) rfl, wi_X11, wc_X11_getRest, ⟨by decide +kernel, by decide +kernel, by decide +kernel⟩, by decide⟩
theorem LV_X11_147 : zLV RX11 147 Y_X11_buy 11 2 := ⟨⟨RX11, TX11, 31, rfl, rfl, zWi 45 (by decide +kernel) rfl⟩, zWi 1128 (by decide +kernel) rfl, zWi 1130 (by decide +kernel) rfl, wi_X11, wc_X11_buy, ⟨by decide +kernel, by decide +kernel, by decide +kernel⟩, by decide⟩
theorem LV_X11_135 : zLV RX11 135 Y_X11_findTins 11 2 := ⟨⟨RX11, TX11, 31, rfl, rfl, zWi 46 (by decide +kernel) rfl⟩, zWi 1132 (by decide +kernel) rfl, zWi 1134 (by decide +kernel) rfl, wi_X11, wc_X11_findTins, ⟨by decide +kernel, by decide +kernel, by decide +kernel⟩, by decide⟩
theorem LV_X11_115 : zLV RX11 115 Y_X11_priceOf 11 2 := ⟨⟨RX11, TX11, 31, rfl, rfl, zWi 47 (by decide +kernel) rfl⟩, zWi 1137 (by decide +kernel) rfl, zWi 1139 (by decide +kernel) rfl, wi_X11, wc_X11_priceOf, ⟨by decide +kernel, by decide +kernel, by decide +kernel⟩, by decide⟩
theorem LS_X11_128 : zLS RX11 128 Y_X11_stillNeeded 1 := ⟨zWi 1141 (by decide +kernel) rfl, zWi 1142 (by decide +kernel) rfl, wi_X11, wc_X11_stillNeeded, ⟨by decide +kernel, by decide +kernel, by decide +kernel⟩, by decide⟩
theorem LV_X11_131 : zLV RX11 131 Y_X11_consider 11 4 := ⟨⟨RX11, TX11, 31, rfl, rfl, zWi 48 (by decide +kernel) rfl⟩, zWi 1144 (by decide +kernel) rfl, zWi 1146 (by decide +kernel) rfl, wi_X11, wc_X11_consider, ⟨by decide +kernel, by decide +kernel, by decide +kernel⟩, by decide⟩
theorem LV_X11_153 : zLV RX11 153 Y_X11_hasPortions 11 0 := ⟨⟨RX11, TX11, 31, rfl, rfl, zWi 49 (by decide +kernel) rfl⟩, zWi 1148 (by decide +kernel) rfl, zWi 1150 (by decide +kernel) rfl, wi_X11, wc_X11_hasPortions, ⟨by decide +kernel, by decide +kernel, by decide +kernel⟩, by decide⟩
theorem LV_X11_157 : zLV RX11 157 Y_X11_missingSet 11 0 := ⟨⟨RX11, TX11, 31, rfl, rfl, zWi 50 (by decide +kernel) rfl⟩, zWi 1152 (by decide +kernel) rfl, zWi 1154 (by decide +kernel) rfl, wi_X11, wc_X11_missingSet, ⟨by decide +kernel, by decide +kernel, by decide +kernel⟩, by decide⟩
theorem LV_X11_164 : zLV RX11 164 Y_X11_takeOut 11 2 := ⟨⟨RX11, TX11, 31, rfl, rfl, zWi 51 (by decide +kernel) rfl⟩, zWi 1156 (by decide +kernel) rfl, zWi 1158 (by decide +kernel) rfl, wi_X11, wc_X11_takeOut, ⟨by decide +kernel, by decide +kernel, by decide +kernel⟩, by decide⟩
theorem LV_X11_167 : zLV RX11 167 Y_X11_sumOf 11 1 := ⟨⟨RX11, TX11, 31, rfl, rfl, zWi 52 (by decide +kernel) rfl⟩, zWi 1160 (by decide +kernel) rfl, zWi 1162 (by decide +kernel) rfl, wi_X11, wc_X11_sumOf, ⟨by decide +kernel, by decide +kernel, by decide +kernel⟩, by decide⟩
theorem LV_L_111 : zLV RL 111 Y_X11_fault 11 0 := ⟨⟨RX11, TX11, 31, rfl, rfl, zWi 1166 (by decide +kernel) rfl⟩, zWi 1164 (by decide +kernel) rfl, zWi 1165 (by decide +kernel) rfl, wi_X11, wc_X11_fault, ⟨by decide +kernel, by decide +kernel, by decide +kernel⟩, by decide⟩
theorem LV_X11_225 : zLV RX11 225 Y_X11_takeNumber 11 1 := ⟨⟨RX11, TX11, 31, rfl, rfl, zWi 53 (by decide +kernel) rfl⟩, zWi 1168 (by decide +kernel) rfl, zWi 1170 (by decide +kernel) rfl, wi_X11, wc_X11_takeNumber, ⟨by decide +kernel, by decide +kernel, by decide +kernel⟩, by decide⟩
theorem LV_X11_222 : zLV RX11 222 Y_X11_next 11 0 := ⟨⟨RX11, TX11, 31, rfl, rfl, zWi 54 (by decide +kernel) rfl⟩, zWi 1172 (by decide +kernel) rfl, zWi 1174 (by decide +kernel) rfl, wi_X11, wc_X11_next, ⟨by decide +kernel, by decide +kernel, by decide +kernel⟩, by decide⟩
theorem LV_X11_237 : zLV RX11 237 Y_X11_takeAmount 11 0 := ⟨⟨RX11, TX11, 31, rfl, rfl, zWi 55 (by decide +kernel) rfl⟩, zWi 1176 (by decide +kernel) rfl, zWi 1178 (by decide +kernel) rfl, wi_X11, wc_X11_takeAmount, ⟨by decide +kernel, by decide +kernel, by decide +kernel⟩, by decide⟩
theorem LV_X11_240 : zLV RX11 240 Y_X11_takeStep 11 0 := ⟨⟨RX11, TX11, 31, rfl, rfl, zWi 56 (by decide +kernel) rfl⟩, zWi 1180 (by decide +kernel) rfl, zWi 1182 (by decide +kernel) rfl, wi_X11, wc_X11_takeStep, ⟨by decide +kernel, by decide +kernel, by decide +kernel⟩, by decide⟩
theorem LV_X11_231 : zLV RX11 231 Y_X11_takeDigit 11 2 := ⟨⟨RX11, TX11, 31, rfl, rfl, zWi 57 (by decide +kernel) rfl⟩, zWi 1184 (by decide +kernel) rfl, zWi 1186 (by decide +kernel) rfl, wi_X11, wc_X11_takeDigit, ⟨by decide +kernel, by decide +kernel, by decide +kernel⟩, by decide⟩
theorem LV_L_40 : zLV RL 40 Y_X11_recipe 11 0 := ⟨⟨RX11, TX11, 31, rfl, rfl, zWi 1190 (by decide +kernel) rfl⟩, zWi 1188 (by decide +kernel) rfl, zWi 1189 (by decide +kernel) rfl, wi_X11, wc_X11_recipe, ⟨by decide +kernel, by decide +kernel, by decide +kernel⟩, by decide⟩
theorem LV_X11_243 : zLV RX11 243 Y_X11_fault 11 0 := ⟨⟨RX11, TX11, 31, rfl, rfl, zWi 1166 (by decide +kernel) rfl⟩, zWi 1192 (by decide +kernel) rfl, zWi 1165 (by decide +kernel) rfl, wi_X11, wc_X11_fault, ⟨by decide +kernel, by decide +kernel, by decide +kernel⟩, by decide⟩
theorem LV_L_44 : zLV RL 44 Y_X11_amount 11 3 := ⟨⟨RX11, TX11, 31, rfl, rfl, zWi 1195 (by decide +kernel) rfl⟩, zWi 1193 (by decide +kernel) rfl, zWi 1194 (by decide +kernel) rfl, wi_X11, wc_X11_amount, ⟨by decide +kernel, by decide +kernel, by decide +kernel⟩, by decide⟩
theorem LV_X11_246 : zLV RX11 246 Y_X11_isRecipe 11 1 := ⟨⟨RX11, TX11, 31, rfl, rfl, zWi 58 (by decide +kernel) rfl⟩, zWi 1197 (by decide +kernel) rfl, zWi 1199 (by decide +kernel) rfl, wi_X11, wc_X11_isRecipe, ⟨by decide +kernel, by decide +kernel, by decide +kernel⟩, by decide⟩
theorem LV_L_48 : zLV RL 48 Y_X11_menu 11 2 := ⟨⟨RX11, TX11, 31, rfl, rfl, zWi 1203 (by decide +kernel) rfl⟩, zWi 1201 (by decide +kernel) rfl, zWi 1202 (by decide +kernel) rfl, wi_X11, wc_X11_menu, ⟨by decide +kernel, by decide +kernel, by decide +kernel⟩, by decide⟩
theorem LV_L_52 : zLV RL 52 Y_X11_hands 11 1 := ⟨⟨RX11, TX11, 31, rfl, rfl, zWi 1207 (by decide +kernel) rfl⟩, zWi 1205 (by decide +kernel) rfl, zWi 1206 (by decide +kernel) rfl, wi_X11, wc_X11_hands, ⟨by decide +kernel, by decide +kernel, by decide +kernel⟩, by decide⟩
theorem LV_L_64 : zLV RL 64 Y_X11_about 11 2 := ⟨⟨RX11, TX11, 31, rfl, rfl, zWi 1211 (by decide +kernel) rfl⟩, zWi 1209 (by decide +kernel) rfl, zWi 1210 (by decide +kernel) rfl, wi_X11, wc_X11_about, ⟨by decide +kernel, by decide +kernel, by decide +kernel⟩, by decide⟩
theorem LV_X11_249 : zLV RX11 249 Y_X11_lots 11 1 := ⟨⟨RX11, TX11, 31, rfl, rfl, zWi 59 (by decide +kernel) rfl⟩, zWi 1213 (by decide +kernel) rfl, zWi 1215 (by decide +kernel) rfl, wi_X11, wc_X11_lots, ⟨by decide +kernel, by decide +kernel, by decide +kernel⟩, by decide⟩
theorem LV_X11_252 : zLV RX11 252 Y_X11_firstDay 11 1 := ⟨⟨RX11, TX11, 31, rfl, rfl, zWi 60 (by decide +kernel) rfl⟩, zWi 1217 (by decide +kernel) rfl, zWi 1219 (by decide +kernel) rfl, wi_X11, wc_X11_firstDay, ⟨by decide +kernel, by decide +kernel, by decide +kernel⟩, by decide⟩
theorem LV_L_68 : zLV RL 68 Y_X11_ofTin 11 3 := ⟨⟨RX11, TX11, 31, rfl, rfl, zWi 1223 (by decide +kernel) rfl⟩, zWi 1221 (by decide +kernel) rfl, zWi 1222 (by decide +kernel) rfl, wi_X11, wc_X11_ofTin, ⟨by decide +kernel, by decide +kernel, by decide +kernel⟩, by decide⟩
theorem LV_L_72 : zLV RL 72 Y_X11_needs 11 2 := ⟨⟨RX11, TX11, 31, rfl, rfl, zWi 1227 (by decide +kernel) rfl⟩, zWi 1225 (by decide +kernel) rfl, zWi 1226 (by decide +kernel) rfl, wi_X11, wc_X11_needs, ⟨by decide +kernel, by decide +kernel, by decide +kernel⟩, by decide⟩
theorem LV_L_76 : zLV RL 76 Y_X11_step 11 3 := ⟨⟨RX11, TX11, 31, rfl, rfl, zWi 1231 (by decide +kernel) rfl⟩, zWi 1229 (by decide +kernel) rfl, zWi 1230 (by decide +kernel) rfl, wi_X11, wc_X11_step, ⟨by decide +kernel, by decide +kernel, by decide +kernel⟩, by decide⟩
theorem LV_X11_184 : zLV RX11 184 Y_X11_lastsOf 11 3 := ⟨⟨RX11, TX11, 31, rfl, rfl, zWi 61 (by decide +kernel) rfl⟩, zWi 1233 (by decide +kernel) rfl, zWi 1235 (by decide +kernel) rfl, wi_X11, wc_X11_lastsOf, ⟨by decide +kernel, by decide +kernel, by decide +kernel⟩, by decide⟩
theorem LV_X11_171 : zLV RX11 171 Y_X11_ofStep 11 3 := ⟨⟨RX11, TX11, 31, rfl, rfl, zWi 62 (by decide +kernel) rfl⟩, zWi 1237 (by decide +kernel) rfl, zWi 1239 (by decide +kernel) rfl, wi_X11, wc_X11_ofStep, ⟨by decide +kernel, by decide +kernel, by decide +kernel⟩, by decide⟩
theorem LV_X11_255 : zLV RX11 255 Y_X11_findTimes 11 1 := ⟨⟨RX11, TX11, 31, rfl, rfl, zWi 63 (by decide +kernel) rfl⟩, zWi 1241 (by decide +kernel) rfl, zWi 1243 (by decide +kernel) rfl, wi_X11, wc_X11_findTimes, ⟨by decide +kernel, by decide +kernel, by decide +kernel⟩, by decide⟩
theorem LV_X11_200 : zLV RX11 200 Y_X11_findTails 11 0 := ⟨⟨RX11, TX11, 31, rfl, rfl, zWi 64 (by decide +kernel) rfl⟩, zWi 1245 (by decide +kernel) rfl, zWi 1247 (by decide +kernel) rfl, wi_X11, wc_X11_findTails, ⟨by decide +kernel, by decide +kernel, by decide +kernel⟩, by decide⟩
theorem LV_X11_181 : zLV RX11 181 Y_X11_isOn 11 1 := ⟨⟨RX11, TX11, 31, rfl, rfl, zWi 65 (by decide +kernel) rfl⟩, zWi 1249 (by decide +kernel) rfl, zWi 1251 (by decide +kernel) rfl, wi_X11, wc_X11_isOn, ⟨by decide +kernel, by decide +kernel, by decide +kernel⟩, by decide⟩
theorem LV_X11_187 : zLV RX11 187 Y_X11_aheadOf 11 1 := ⟨⟨RX11, TX11, 31, rfl, rfl, zWi 66 (by decide +kernel) rfl⟩, zWi 1253 (by decide +kernel) rfl, zWi 1255 (by decide +kernel) rfl, wi_X11, wc_X11_aheadOf, ⟨by decide +kernel, by decide +kernel, by decide +kernel⟩, by decide⟩
theorem LV_X11_190 : zLV RX11 190 Y_X11_handsOf 11 1 := ⟨⟨RX11, TX11, 31, rfl, rfl, zWi 67 (by decide +kernel) rfl⟩, zWi 1257 (by decide +kernel) rfl, zWi 1259 (by decide +kernel) rfl, wi_X11, wc_X11_handsOf, ⟨by decide +kernel, by decide +kernel, by decide +kernel⟩, by decide⟩
theorem LV_X11_203 : zLV RX11 203 Y_X11_freeAt 11 2 := ⟨⟨RX11, TX11, 31, rfl, rfl, zWi 68 (by decide +kernel) rfl⟩, zWi 1261 (by decide +kernel) rfl, zWi 1263 (by decide +kernel) rfl, wi_X11, wc_X11_freeAt, ⟨by decide +kernel, by decide +kernel, by decide +kernel⟩, by decide⟩
theorem LV_X11_193 : zLV RX11 193 Y_X11_hasEnded 11 2 := ⟨⟨RX11, TX11, 31, rfl, rfl, zWi 69 (by decide +kernel) rfl⟩, zWi 1265 (by decide +kernel) rfl, zWi 1267 (by decide +kernel) rfl, wi_X11, wc_X11_hasEnded, ⟨by decide +kernel, by decide +kernel, by decide +kernel⟩, by decide⟩
theorem LV_X11_206 : zLV RX11 206 Y_X11_nextAt 11 2 := ⟨⟨RX11, TX11, 31, rfl, rfl, zWi 70 (by decide +kernel) rfl⟩, zWi 1269 (by decide +kernel) rfl, zWi 1271 (by decide +kernel) rfl, wi_X11, wc_X11_nextAt, ⟨by decide +kernel, by decide +kernel, by decide +kernel⟩, by decide⟩
theorem LV_X11_197 : zLV RX11 197 Y_X11_isReady 11 2 := ⟨⟨RX11, TX11, 31, rfl, rfl, zWi 71 (by decide +kernel) rfl⟩, zWi 1273 (by decide +kernel) rfl, zWi 1275 (by decide +kernel) rfl, wi_X11, wc_X11_isReady, ⟨by decide +kernel, by decide +kernel, by decide +kernel⟩, by decide⟩
theorem LV_X11_209 : zLV RX11 209 Y_X11_nextEnd 11 1 := ⟨⟨RX11, TX11, 31, rfl, rfl, zWi 72 (by decide +kernel) rfl⟩, zWi 1277 (by decide +kernel) rfl, zWi 1279 (by decide +kernel) rfl, wi_X11, wc_X11_nextEnd, ⟨by decide +kernel, by decide +kernel, by decide +kernel⟩, by decide⟩
theorem LV_L_80 : zLV RL 80 Y_X11_ofRecipe 11 2 := ⟨⟨RX11, TX11, 31, rfl, rfl, zWi 1283 (by decide +kernel) rfl⟩, zWi 1281 (by decide +kernel) rfl, zWi 1282 (by decide +kernel) rfl, wi_X11, wc_X11_ofRecipe, ⟨by decide +kernel, by decide +kernel, by decide +kernel⟩, by decide⟩
theorem LV_L_84 : zLV RL 84 Y_X11_count 11 1 := ⟨⟨RX11, TX11, 31, rfl, rfl, zWi 1287 (by decide +kernel) rfl⟩, zWi 1285 (by decide +kernel) rfl, zWi 1286 (by decide +kernel) rfl, wi_X11, wc_X11_count, ⟨by decide +kernel, by decide +kernel, by decide +kernel⟩, by decide⟩
theorem LV_X11_258 : zLV RX11 258 Y_X11_ofPlan 11 1 := ⟨⟨RX11, TX11, 31, rfl, rfl, zWi 73 (by decide +kernel) rfl⟩, zWi 1289 (by decide +kernel) rfl, zWi 1291 (by decide +kernel) rfl, wi_X11, wc_X11_ofPlan, ⟨by decide +kernel, by decide +kernel, by decide +kernel⟩, by decide⟩
theorem LV_X11_261 : zLV RX11 261 Y_X11_bound 11 0 := ⟨⟨RX11, TX11, 31, rfl, rfl, zWi 74 (by decide +kernel) rfl⟩, zWi 1293 (by decide +kernel) rfl, zWi 1295 (by decide +kernel) rfl, wi_X11, wc_X11_bound, ⟨by decide +kernel, by decide +kernel, by decide +kernel⟩, by decide⟩
theorem LV_L_88 : zLV RL 88 Y_X11_bestPortions 11 3 := ⟨⟨RX11, TX11, 31, rfl, rfl, zWi 1299 (by decide +kernel) rfl⟩, zWi 1297 (by decide +kernel) rfl, zWi 1298 (by decide +kernel) rfl, wi_X11, wc_X11_bestPortions, ⟨by decide +kernel, by decide +kernel, by decide +kernel⟩, by decide⟩
theorem LV_L_92 : zLV RL 92 Y_X11_fewestHands 11 1 := ⟨⟨RX11, TX11, 31, rfl, rfl, zWi 1303 (by decide +kernel) rfl⟩, zWi 1301 (by decide +kernel) rfl, zWi 1302 (by decide +kernel) rfl, wi_X11, wc_X11_fewestHands, ⟨by decide +kernel, by decide +kernel, by decide +kernel⟩, by decide⟩
theorem LV_L_96 : zLV RL 96 Y_X11_ifBuyable 11 2 := ⟨⟨RX11, TX11, 31, rfl, rfl, zWi 1307 (by decide +kernel) rfl⟩, zWi 1305 (by decide +kernel) rfl, zWi 1306 (by decide +kernel) rfl, wi_X11, wc_X11_ifBuyable, ⟨by decide +kernel, by decide +kernel, by decide +kernel⟩, by decide⟩
theorem LV_L_103 : zLV RL 103 Y_X11_put 11 1 := ⟨⟨RX11, TX11, 31, rfl, rfl, zWi 1311 (by decide +kernel) rfl⟩, zWi 1309 (by decide +kernel) rfl, zWi 1310 (by decide +kernel) rfl, wi_X11, wc_X11_put, ⟨by decide +kernel, by decide +kernel, by decide +kernel⟩, by decide⟩
theorem LV_L_107 : zLV RL 107 Y_X11_wipe 11 0 := ⟨⟨RX11, TX11, 31, rfl, rfl, zWi 1316 (by decide +kernel) rfl⟩, zWi 1314 (by decide +kernel) rfl, zWi 1315 (by decide +kernel) rfl, wi_X11, wc_X11_wipe, ⟨by decide +kernel, by decide +kernel, by decide +kernel⟩, by decide⟩
theorem LV_L_115 : zLV RL 115 Y_X11_undo 11 0 := ⟨⟨RX11, TX11, 31, rfl, rfl, zWi 1320 (by decide +kernel) rfl⟩, zWi 1318 (by decide +kernel) rfl, zWi 1319 (by decide +kernel) rfl, wi_X11, wc_X11_undo, ⟨by decide +kernel, by decide +kernel, by decide +kernel⟩, by decide⟩
theorem LV_L_119 : zLV RL 119 Y_X11_save 11 1 := ⟨⟨RX11, TX11, 31, rfl, rfl, zWi 1324 (by decide +kernel) rfl⟩, zWi 1322 (by decide +kernel) rfl, zWi 1323 (by decide +kernel) rfl, wi_X11, wc_X11_save, ⟨by decide +kernel, by decide +kernel, by decide +kernel⟩, by decide⟩
theorem LV_L_123 : zLV RL 123 Y_X11_restore 11 1 := ⟨⟨RX11, TX11, 31, rfl, rfl, zWi 1328 (by decide +kernel) rfl⟩, zWi 1326 (by decide +kernel) rfl, zWi 1327 (by decide +kernel) rfl, wi_X11, wc_X11_restore, ⟨by decide +kernel, by decide +kernel, by decide +kernel⟩, by decide⟩
theorem LN_X4_48 : zLN RX4 48 Y_X10_roundedUp 2 := ⟨⟨RX10, by decide +kernel⟩, zWi 662 (by decide +kernel) rfl, wi_X10, wc_X10_roundedUp, ⟨by decide +kernel, by decide +kernel, by decide +kernel⟩, by decide⟩
theorem LN_X9_78 : zLN RX9 78 Y_X10_roundedUp 2 := ⟨⟨RX10, by decide +kernel⟩, zWi 662 (by decide +kernel) rfl, wi_X10, wc_X10_roundedUp, ⟨by decide +kernel, by decide +kernel, by decide +kernel⟩, by decide⟩
theorem LN_X6_120 : zLN RX6 120 Y_X10_roundedUp 2 := ⟨⟨RX10, by decide +kernel⟩, zWi 662 (by decide +kernel) rfl, wi_X10, wc_X10_roundedUp, ⟨by decide +kernel, by decide +kernel, by decide +kernel⟩, by decide⟩
theorem LN_X5_108 : zLN RX5 108 Y_X10_roundedUp 2 := ⟨⟨RX10, by decide +kernel⟩, zWi 662 (by decide +kernel) rfl, wi_X10, wc_X10_roundedUp, ⟨by decide +kernel, by decide +kernel, by decide +kernel⟩, by decide⟩
theorem KC_X10_115 : Cond.constant RX10 115 (Int32.ofInt 100000) ∈ zW := zWi 558 (by decide +kernel) rfl
theorem KC_X6_123 : Cond.constant RX6 123 (Int32.ofInt 100000) ∈ zW := zWi 722 (by decide +kernel) rfl
theorem KC_X10_333 : Cond.constantLong RX10 333 (255) ∈ zW := zWi 903 (by decide +kernel) rfl
theorem KC_X2_19 : Cond.constantLong RX2 19 (255) ∈ zW := zWi 908 (by decide +kernel) rfl
theorem KC_X11_107 : Cond.constant RX11 107 (Int32.ofInt 100000) ∈ zW := zWi 1080 (by decide +kernel) rfl
theorem KC_X11_127 : Cond.constant RX11 127 (Int32.ofInt 1000000000) ∈ zW := zWi 1136 (by decide +kernel) rfl
theorem KC_X11_264 : Cond.constantLong RX11 264 (255) ∈ zW := zWi 1313 (by decide +kernel) rfl
theorem KC_L_97 : Cond.constantLong RL 97 (4294967295) ∈ zW := zWi 1330 (by decide +kernel) rfl
end
