section
-- ===== PART A: goes FIRST, ahead of the names: the tables' words, and 'selects' of the private methods out of them =====
/-- a private method of a class that the tables say can be made, by its rows of tables_1 -/
def lw_okq (q : MethodName × Nat) : Prop := (q.1.cls ≠ "java/lang/invoke/MethodHandle" ∧ q.1.cls ≠ "java/lang/invoke/VarHandle") ∧ Cond.instantiable q.1.cls q.2 ∈ tables_1 ∧ Cond.privateMethod q.1 ∈ tables_1 ∧ Cond.instanceMethod q.1 ∈ tables_1
theorem lw_p0 : lw_okq (⟨"TinKitchen$Reader", "readNumber", "(I)I"⟩, 4) := ⟨⟨by decide +kernel, by decide +kernel⟩, List.mem_of_getElem? (i := 236) (by decide +kernel), List.mem_of_getElem? (i := 505) (by decide +kernel), List.mem_of_getElem? (i := 506) (by decide +kernel)⟩
theorem lw_p1 : lw_okq (⟨"TinKitchen$Reader", "readDigit", "(II)I"⟩, 4) := ⟨⟨by decide +kernel, by decide +kernel⟩, List.mem_of_getElem? (i := 236) (by decide +kernel), List.mem_of_getElem? (i := 509) (by decide +kernel), List.mem_of_getElem? (i := 510) (by decide +kernel)⟩
theorem lw_p2 : lw_okq (⟨"TinKitchen$Reader", "digitHere", "()I"⟩, 4) := ⟨⟨by decide +kernel, by decide +kernel⟩, List.mem_of_getElem? (i := 236) (by decide +kernel), List.mem_of_getElem? (i := 513) (by decide +kernel), List.mem_of_getElem? (i := 514) (by decide +kernel)⟩
theorem lw_p3 : lw_okq (⟨"TinKitchen$Reader", "nameHere", "()I"⟩, 4) := ⟨⟨by decide +kernel, by decide +kernel⟩, List.mem_of_getElem? (i := 236) (by decide +kernel), List.mem_of_getElem? (i := 522) (by decide +kernel), List.mem_of_getElem? (i := 523) (by decide +kernel)⟩
theorem lw_p4 : lw_okq (⟨"TinKitchen$Reader", "readAmount", "(I)V"⟩, 4) := ⟨⟨by decide +kernel, by decide +kernel⟩, List.mem_of_getElem? (i := 236) (by decide +kernel), List.mem_of_getElem? (i := 526) (by decide +kernel), List.mem_of_getElem? (i := 527) (by decide +kernel)⟩
theorem lw_p5 : lw_okq (⟨"TinKitchen$Reader", "readStep", "(I)V"⟩, 4) := ⟨⟨by decide +kernel, by decide +kernel⟩, List.mem_of_getElem? (i := 236) (by decide +kernel), List.mem_of_getElem? (i := 530) (by decide +kernel), List.mem_of_getElem? (i := 531) (by decide +kernel)⟩
theorem lw_p6 : lw_okq (⟨"TinKitchen$Reader", "readSign", "(C)V"⟩, 4) := ⟨⟨by decide +kernel, by decide +kernel⟩, List.mem_of_getElem? (i := 236) (by decide +kernel), List.mem_of_getElem? (i := 534) (by decide +kernel), List.mem_of_getElem? (i := 535) (by decide +kernel)⟩
theorem lw_p7 : lw_okq (⟨"TinKitchen$Reader", "readStepBefore", "(II)I"⟩, 4) := ⟨⟨by decide +kernel, by decide +kernel⟩, List.mem_of_getElem? (i := 236) (by decide +kernel), List.mem_of_getElem? (i := 538) (by decide +kernel), List.mem_of_getElem? (i := 539) (by decide +kernel)⟩
theorem lw_p8 : lw_okq (⟨"TinKitchen$Shopping", "clear", "(I)V"⟩, 10) := ⟨⟨by decide +kernel, by decide +kernel⟩, List.mem_of_getElem? (i := 258) (by decide +kernel), List.mem_of_getElem? (i := 574) (by decide +kernel), List.mem_of_getElem? (i := 575) (by decide +kernel)⟩
theorem lw_p9 : lw_okq (⟨"TinKitchen$Shopping", "planOne", "(LTinKitchen$State;I)V"⟩, 10) := ⟨⟨by decide +kernel, by decide +kernel⟩, List.mem_of_getElem? (i := 258) (by decide +kernel), List.mem_of_getElem? (i := 590) (by decide +kernel), List.mem_of_getElem? (i := 591) (by decide +kernel)⟩
theorem lw_p10 : lw_okq (⟨"TinKitchen$Shopping", "buy", "(LTinKitchen$Ingredient;II)V"⟩, 10) := ⟨⟨by decide +kernel, by decide +kernel⟩, List.mem_of_getElem? (i := 258) (by decide +kernel), List.mem_of_getElem? (i := 596) (by decide +kernel), List.mem_of_getElem? (i := 597) (by decide +kernel)⟩
theorem lw_p11 : lw_okq (⟨"TinKitchen$TinSearch", "mostOf", "(I)I"⟩, 10) := ⟨⟨by decide +kernel, by decide +kernel⟩, List.mem_of_getElem? (i := 266) (by decide +kernel), List.mem_of_getElem? (i := 611) (by decide +kernel), List.mem_of_getElem? (i := 612) (by decide +kernel)⟩
theorem lw_p12 : lw_okq (⟨"TinKitchen$TinSearch", "isTooDear", "(III)Z"⟩, 10) := ⟨⟨by decide +kernel, by decide +kernel⟩, List.mem_of_getElem? (i := 266) (by decide +kernel), List.mem_of_getElem? (i := 623) (by decide +kernel), List.mem_of_getElem? (i := 624) (by decide +kernel)⟩
theorem lw_p13 : lw_okq (⟨"TinKitchen$TinSearch", "offer", "(III)V"⟩, 10) := ⟨⟨by decide +kernel, by decide +kernel⟩, List.mem_of_getElem? (i := 266) (by decide +kernel), List.mem_of_getElem? (i := 628) (by decide +kernel), List.mem_of_getElem? (i := 629) (by decide +kernel)⟩
theorem lw_p14 : lw_okq (⟨"TinKitchen$TinSearch", "putTried", "(II)V"⟩, 10) := ⟨⟨by decide +kernel, by decide +kernel⟩, List.mem_of_getElem? (i := 266) (by decide +kernel), List.mem_of_getElem? (i := 633) (by decide +kernel), List.mem_of_getElem? (i := 634) (by decide +kernel)⟩
theorem lw_p15 : lw_okq (⟨"TinKitchen$TinSearch", "isBetter", "(III)Z"⟩, 10) := ⟨⟨by decide +kernel, by decide +kernel⟩, List.mem_of_getElem? (i := 266) (by decide +kernel), List.mem_of_getElem? (i := 637) (by decide +kernel), List.mem_of_getElem? (i := 638) (by decide +kernel)⟩
def lw_privs_1 : List (MethodName × Nat) := [(⟨"TinKitchen$Reader", "readNumber", "(I)I"⟩, 4), (⟨"TinKitchen$Reader", "readDigit", "(II)I"⟩, 4), (⟨"TinKitchen$Reader", "digitHere", "()I"⟩, 4), (⟨"TinKitchen$Reader", "nameHere", "()I"⟩, 4), (⟨"TinKitchen$Reader", "readAmount", "(I)V"⟩, 4), (⟨"TinKitchen$Reader", "readStep", "(I)V"⟩, 4), (⟨"TinKitchen$Reader", "readSign", "(C)V"⟩, 4), (⟨"TinKitchen$Reader", "readStepBefore", "(II)I"⟩, 4), (⟨"TinKitchen$Shopping", "clear", "(I)V"⟩, 10), (⟨"TinKitchen$Shopping", "planOne", "(LTinKitchen$State;I)V"⟩, 10), (⟨"TinKitchen$Shopping", "buy", "(LTinKitchen$Ingredient;II)V"⟩, 10), (⟨"TinKitchen$TinSearch", "mostOf", "(I)I"⟩, 10), (⟨"TinKitchen$TinSearch", "isTooDear", "(III)Z"⟩, 10), (⟨"TinKitchen$TinSearch", "offer", "(III)V"⟩, 10), (⟨"TinKitchen$TinSearch", "putTried", "(II)V"⟩, 10), (⟨"TinKitchen$TinSearch", "isBetter", "(III)Z"⟩, 10)]
theorem lw_r1 : ∀ q ∈ lw_privs_1, lw_okq q := List.forall_mem_cons.mpr ⟨lw_p0, List.forall_mem_cons.mpr ⟨lw_p1, List.forall_mem_cons.mpr ⟨lw_p2, List.forall_mem_cons.mpr ⟨lw_p3, List.forall_mem_cons.mpr ⟨lw_p4, List.forall_mem_cons.mpr ⟨lw_p5, List.forall_mem_cons.mpr ⟨lw_p6, List.forall_mem_cons.mpr ⟨lw_p7, List.forall_mem_cons.mpr ⟨lw_p8, List.forall_mem_cons.mpr ⟨lw_p9, List.forall_mem_cons.mpr ⟨lw_p10, List.forall_mem_cons.mpr ⟨lw_p11, List.forall_mem_cons.mpr ⟨lw_p12, List.forall_mem_cons.mpr ⟨lw_p13, List.forall_mem_cons.mpr ⟨lw_p14, List.forall_mem_cons.mpr ⟨lw_p15, fun _ h => absurd h List.not_mem_nil⟩⟩⟩⟩⟩⟩⟩⟩⟩⟩⟩⟩⟩⟩⟩⟩
theorem lw_p16 : lw_okq (⟨"TinKitchen$Shopping", "replace", "(LTinKitchen$State;II)Z"⟩, 10) := ⟨⟨by decide +kernel, by decide +kernel⟩, List.mem_of_getElem? (i := 258) (by decide +kernel), List.mem_of_getElem? (i := 642) (by decide +kernel), List.mem_of_getElem? (i := 643) (by decide +kernel)⟩
theorem lw_p17 : lw_okq (⟨"TinKitchen", "canBeCooked", "()Z"⟩, 8) := ⟨⟨by decide +kernel, by decide +kernel⟩, List.mem_of_getElem? (i := 16) (by decide +kernel), List.mem_of_getElem? (i := 649) (by decide +kernel), List.mem_of_getElem? (i := 650) (by decide +kernel)⟩
theorem lw_p18 : lw_okq (⟨"TinKitchen", "tailInMenu", "(II)I"⟩, 8) := ⟨⟨by decide +kernel, by decide +kernel⟩, List.mem_of_getElem? (i := 16) (by decide +kernel), List.mem_of_getElem? (i := 729) (by decide +kernel), List.mem_of_getElem? (i := 730) (by decide +kernel)⟩
theorem lw_p19 : lw_okq (⟨"TinKitchen$Schedule", "gatherSteps", "(LTinKitchen$Recipe;I)V"⟩, 9) := ⟨⟨by decide +kernel, by decide +kernel⟩, List.mem_of_getElem? (i := 346) (by decide +kernel), List.mem_of_getElem? (i := 737) (by decide +kernel), List.mem_of_getElem? (i := 738) (by decide +kernel)⟩
theorem lw_p20 : lw_okq (⟨"TinKitchen$Schedule", "longestBehind", "(III)I"⟩, 9) := ⟨⟨by decide +kernel, by decide +kernel⟩, List.mem_of_getElem? (i := 346) (by decide +kernel), List.mem_of_getElem? (i := 743) (by decide +kernel), List.mem_of_getElem? (i := 744) (by decide +kernel)⟩
theorem lw_p21 : lw_okq (⟨"TinKitchen$Schedule", "insert", "(I)V"⟩, 9) := ⟨⟨by decide +kernel, by decide +kernel⟩, List.mem_of_getElem? (i := 346) (by decide +kernel), List.mem_of_getElem? (i := 748) (by decide +kernel), List.mem_of_getElem? (i := 749) (by decide +kernel)⟩
theorem lw_p22 : lw_okq (⟨"TinKitchen", "beginInMenu", "(II)I"⟩, 8) := ⟨⟨by decide +kernel, by decide +kernel⟩, List.mem_of_getElem? (i := 16) (by decide +kernel), List.mem_of_getElem? (i := 752) (by decide +kernel), List.mem_of_getElem? (i := 753) (by decide +kernel)⟩
theorem lw_p23 : lw_okq (⟨"TinKitchen$Schedule", "beginAt", "(II)V"⟩, 9) := ⟨⟨by decide +kernel, by decide +kernel⟩, List.mem_of_getElem? (i := 346) (by decide +kernel), List.mem_of_getElem? (i := 760) (by decide +kernel), List.mem_of_getElem? (i := 761) (by decide +kernel)⟩
theorem lw_p24 : lw_okq (⟨"TinKitchen$Schedule", "busyHands", "(I)I"⟩, 9) := ⟨⟨by decide +kernel, by decide +kernel⟩, List.mem_of_getElem? (i := 346) (by decide +kernel), List.mem_of_getElem? (i := 764) (by decide +kernel), List.mem_of_getElem? (i := 765) (by decide +kernel)⟩
theorem lw_p25 : lw_okq (⟨"TinKitchen$Schedule", "isReady", "(II)Z"⟩, 9) := ⟨⟨by decide +kernel, by decide +kernel⟩, List.mem_of_getElem? (i := 346) (by decide +kernel), List.mem_of_getElem? (i := 768) (by decide +kernel), List.mem_of_getElem? (i := 769) (by decide +kernel)⟩
theorem lw_p26 : lw_okq (⟨"TinKitchen$Schedule", "hasEnded", "(II)Z"⟩, 9) := ⟨⟨by decide +kernel, by decide +kernel⟩, List.mem_of_getElem? (i := 346) (by decide +kernel), List.mem_of_getElem? (i := 773) (by decide +kernel), List.mem_of_getElem? (i := 774) (by decide +kernel)⟩
theorem lw_p27 : lw_okq (⟨"TinKitchen$Schedule", "nextEnd", "(I)I"⟩, 9) := ⟨⟨by decide +kernel, by decide +kernel⟩, List.mem_of_getElem? (i := 346) (by decide +kernel), List.mem_of_getElem? (i := 777) (by decide +kernel), List.mem_of_getElem? (i := 778) (by decide +kernel)⟩
theorem lw_p28 : lw_okq (⟨"TinKitchen", "ofShopping", "(I)I"⟩, 8) := ⟨⟨by decide +kernel, by decide +kernel⟩, List.mem_of_getElem? (i := 16) (by decide +kernel), List.mem_of_getElem? (i := 789) (by decide +kernel), List.mem_of_getElem? (i := 790) (by decide +kernel)⟩
theorem lw_p29 : lw_okq (⟨"TinKitchen", "ofSchedule", "(I)I"⟩, 8) := ⟨⟨by decide +kernel, by decide +kernel⟩, List.mem_of_getElem? (i := 16) (by decide +kernel), List.mem_of_getElem? (i := 797) (by decide +kernel), List.mem_of_getElem? (i := 798) (by decide +kernel)⟩
theorem lw_p30 : lw_okq (⟨"TinKitchenModel", "keep", "()V"⟩, 31) := ⟨⟨by decide +kernel, by decide +kernel⟩, List.mem_of_getElem? (i := 860) (by decide +kernel), List.mem_of_getElem? (i := 966) (by decide +kernel), List.mem_of_getElem? (i := 967) (by decide +kernel)⟩
theorem lw_p31 : lw_okq (⟨"TinKitchenModel", "lay", "(III)V"⟩, 31) := ⟨⟨by decide +kernel, by decide +kernel⟩, List.mem_of_getElem? (i := 860) (by decide +kernel), List.mem_of_getElem? (i := 970) (by decide +kernel), List.mem_of_getElem? (i := 971) (by decide +kernel)⟩
def lw_privs_2 : List (MethodName × Nat) := [(⟨"TinKitchen$Shopping", "replace", "(LTinKitchen$State;II)Z"⟩, 10), (⟨"TinKitchen", "canBeCooked", "()Z"⟩, 8), (⟨"TinKitchen", "tailInMenu", "(II)I"⟩, 8), (⟨"TinKitchen$Schedule", "gatherSteps", "(LTinKitchen$Recipe;I)V"⟩, 9), (⟨"TinKitchen$Schedule", "longestBehind", "(III)I"⟩, 9), (⟨"TinKitchen$Schedule", "insert", "(I)V"⟩, 9), (⟨"TinKitchen", "beginInMenu", "(II)I"⟩, 8), (⟨"TinKitchen$Schedule", "beginAt", "(II)V"⟩, 9), (⟨"TinKitchen$Schedule", "busyHands", "(I)I"⟩, 9), (⟨"TinKitchen$Schedule", "isReady", "(II)Z"⟩, 9), (⟨"TinKitchen$Schedule", "hasEnded", "(II)Z"⟩, 9), (⟨"TinKitchen$Schedule", "nextEnd", "(I)I"⟩, 9), (⟨"TinKitchen", "ofShopping", "(I)I"⟩, 8), (⟨"TinKitchen", "ofSchedule", "(I)I"⟩, 8), (⟨"TinKitchenModel", "keep", "()V"⟩, 31), (⟨"TinKitchenModel", "lay", "(III)V"⟩, 31)]
theorem lw_r2 : ∀ q ∈ lw_privs_2, lw_okq q := List.forall_mem_cons.mpr ⟨lw_p16, List.forall_mem_cons.mpr ⟨lw_p17, List.forall_mem_cons.mpr ⟨lw_p18, List.forall_mem_cons.mpr ⟨lw_p19, List.forall_mem_cons.mpr ⟨lw_p20, List.forall_mem_cons.mpr ⟨lw_p21, List.forall_mem_cons.mpr ⟨lw_p22, List.forall_mem_cons.mpr ⟨lw_p23, List.forall_mem_cons.mpr ⟨lw_p24, List.forall_mem_cons.mpr ⟨lw_p25, List.forall_mem_cons.mpr ⟨lw_p26, List.forall_mem_cons.mpr ⟨lw_p27, List.forall_mem_cons.mpr ⟨lw_p28, List.forall_mem_cons.mpr ⟨lw_p29, List.forall_mem_cons.mpr ⟨lw_p30, List.forall_mem_cons.mpr ⟨lw_p31, fun _ h => absurd h List.not_mem_nil⟩⟩⟩⟩⟩⟩⟩⟩⟩⟩⟩⟩⟩⟩⟩⟩
theorem lw_p32 : lw_okq (⟨"TinKitchenModel", "isIngredient", "(I)Z"⟩, 31) := ⟨⟨by decide +kernel, by decide +kernel⟩, List.mem_of_getElem? (i := 860) (by decide +kernel), List.mem_of_getElem? (i := 978) (by decide +kernel), List.mem_of_getElem? (i := 979) (by decide +kernel)⟩
theorem lw_p33 : lw_okq (⟨"TinKitchenModel", "of", "(II)I"⟩, 31) := ⟨⟨by decide +kernel, by decide +kernel⟩, List.mem_of_getElem? (i := 860) (by decide +kernel), List.mem_of_getElem? (i := 982) (by decide +kernel), List.mem_of_getElem? (i := 983) (by decide +kernel)⟩
theorem lw_p34 : lw_okq (⟨"TinKitchenModel", "sizeOf", "(II)I"⟩, 31) := ⟨⟨by decide +kernel, by decide +kernel⟩, List.mem_of_getElem? (i := 860) (by decide +kernel), List.mem_of_getElem? (i := 986) (by decide +kernel), List.mem_of_getElem? (i := 987) (by decide +kernel)⟩
theorem lw_p35 : lw_okq (⟨"TinKitchenModel", "pantry", "(I)I"⟩, 31) := ⟨⟨by decide +kernel, by decide +kernel⟩, List.mem_of_getElem? (i := 860) (by decide +kernel), List.mem_of_getElem? (i := 1002) (by decide +kernel), List.mem_of_getElem? (i := 1003) (by decide +kernel)⟩
theorem lw_p36 : lw_okq (⟨"TinKitchenModel", "putIn", "(II)V"⟩, 31) := ⟨⟨by decide +kernel, by decide +kernel⟩, List.mem_of_getElem? (i := 860) (by decide +kernel), List.mem_of_getElem? (i := 1007) (by decide +kernel), List.mem_of_getElem? (i := 1008) (by decide +kernel)⟩
theorem lw_p37 : lw_okq (⟨"TinKitchenModel", "lotOn", "(II)I"⟩, 31) := ⟨⟨by decide +kernel, by decide +kernel⟩, List.mem_of_getElem? (i := 860) (by decide +kernel), List.mem_of_getElem? (i := 1011) (by decide +kernel), List.mem_of_getElem? (i := 1012) (by decide +kernel)⟩
theorem lw_p38 : lw_okq (⟨"TinKitchenModel", "layLot", "(III)V"⟩, 31) := ⟨⟨by decide +kernel, by decide +kernel⟩, List.mem_of_getElem? (i := 860) (by decide +kernel), List.mem_of_getElem? (i := 1015) (by decide +kernel), List.mem_of_getElem? (i := 1016) (by decide +kernel)⟩
theorem lw_p39 : lw_okq (⟨"TinKitchenModel", "canCook", "()Z"⟩, 31) := ⟨⟨by decide +kernel, by decide +kernel⟩, List.mem_of_getElem? (i := 860) (by decide +kernel), List.mem_of_getElem? (i := 1027) (by decide +kernel), List.mem_of_getElem? (i := 1028) (by decide +kernel)⟩
theorem lw_p40 : lw_okq (⟨"TinKitchenModel", "findNeeds", "()V"⟩, 31) := ⟨⟨by decide +kernel, by decide +kernel⟩, List.mem_of_getElem? (i := 860) (by decide +kernel), List.mem_of_getElem? (i := 1031) (by decide +kernel), List.mem_of_getElem? (i := 1032) (by decide +kernel)⟩
theorem lw_p41 : lw_okq (⟨"TinKitchenModel", "clearNeeds", "()V"⟩, 31) := ⟨⟨by decide +kernel, by decide +kernel⟩, List.mem_of_getElem? (i := 860) (by decide +kernel), List.mem_of_getElem? (i := 1035) (by decide +kernel), List.mem_of_getElem? (i := 1036) (by decide +kernel)⟩
theorem lw_p42 : lw_okq (⟨"TinKitchenModel", "byRecipes", "(I)I"⟩, 31) := ⟨⟨by decide +kernel, by decide +kernel⟩, List.mem_of_getElem? (i := 860) (by decide +kernel), List.mem_of_getElem? (i := 1039) (by decide +kernel), List.mem_of_getElem? (i := 1040) (by decide +kernel)⟩
theorem lw_p43 : lw_okq (⟨"TinKitchenModel", "ofARecipe", "(II)I"⟩, 31) := ⟨⟨by decide +kernel, by decide +kernel⟩, List.mem_of_getElem? (i := 860) (by decide +kernel), List.mem_of_getElem? (i := 1043) (by decide +kernel), List.mem_of_getElem? (i := 1044) (by decide +kernel)⟩
theorem lw_p44 : lw_okq (⟨"TinKitchenModel", "getRest", "(II)V"⟩, 31) := ⟨⟨by decide +kernel, by decide +kernel⟩, List.mem_of_getElem? (i := 860) (by decide +kernel), List.mem_of_getElem? (i := 1050) (by decide +kernel), List.mem_of_getElem? (i := 1051) (by decide +kernel)⟩
theorem lw_p45 : lw_okq (⟨"TinKitchenModel", "buy", "(II)V"⟩, 31) := ⟨⟨by decide +kernel, by decide +kernel⟩, List.mem_of_getElem? (i := 860) (by decide +kernel), List.mem_of_getElem? (i := 1054) (by decide +kernel), List.mem_of_getElem? (i := 1055) (by decide +kernel)⟩
theorem lw_p46 : lw_okq (⟨"TinKitchenModel", "findTins", "(II)V"⟩, 31) := ⟨⟨by decide +kernel, by decide +kernel⟩, List.mem_of_getElem? (i := 860) (by decide +kernel), List.mem_of_getElem? (i := 1058) (by decide +kernel), List.mem_of_getElem? (i := 1059) (by decide +kernel)⟩
theorem lw_p47 : lw_okq (⟨"TinKitchenModel", "priceOf", "(II)I"⟩, 31) := ⟨⟨by decide +kernel, by decide +kernel⟩, List.mem_of_getElem? (i := 860) (by decide +kernel), List.mem_of_getElem? (i := 1063) (by decide +kernel), List.mem_of_getElem? (i := 1064) (by decide +kernel)⟩
def lw_privs_3 : List (MethodName × Nat) := [(⟨"TinKitchenModel", "isIngredient", "(I)Z"⟩, 31), (⟨"TinKitchenModel", "of", "(II)I"⟩, 31), (⟨"TinKitchenModel", "sizeOf", "(II)I"⟩, 31), (⟨"TinKitchenModel", "pantry", "(I)I"⟩, 31), (⟨"TinKitchenModel", "putIn", "(II)V"⟩, 31), (⟨"TinKitchenModel", "lotOn", "(II)I"⟩, 31), (⟨"TinKitchenModel", "layLot", "(III)V"⟩, 31), (⟨"TinKitchenModel", "canCook", "()Z"⟩, 31), (⟨"TinKitchenModel", "findNeeds", "()V"⟩, 31), (⟨"TinKitchenModel", "clearNeeds", "()V"⟩, 31), (⟨"TinKitchenModel", "byRecipes", "(I)I"⟩, 31), (⟨"TinKitchenModel", "ofARecipe", "(II)I"⟩, 31), (⟨"TinKitchenModel", "getRest", "(II)V"⟩, 31), (⟨"TinKitchenModel", "buy", "(II)V"⟩, 31), (⟨"TinKitchenModel", "findTins", "(II)V"⟩, 31), (⟨"TinKitchenModel", "priceOf", "(II)I"⟩, 31)]
theorem lw_r3 : ∀ q ∈ lw_privs_3, lw_okq q := List.forall_mem_cons.mpr ⟨lw_p32, List.forall_mem_cons.mpr ⟨lw_p33, List.forall_mem_cons.mpr ⟨lw_p34, List.forall_mem_cons.mpr ⟨lw_p35, List.forall_mem_cons.mpr ⟨lw_p36, List.forall_mem_cons.mpr ⟨lw_p37, List.forall_mem_cons.mpr ⟨lw_p38, List.forall_mem_cons.mpr ⟨lw_p39, List.forall_mem_cons.mpr ⟨lw_p40, List.forall_mem_cons.mpr ⟨lw_p41, List.forall_mem_cons.mpr ⟨lw_p42, List.forall_mem_cons.mpr ⟨lw_p43, List.forall_mem_cons.mpr ⟨lw_p44, List.forall_mem_cons.mpr ⟨lw_p45, List.forall_mem_cons.mpr ⟨lw_p46, List.forall_mem_cons.mpr ⟨lw_p47, fun _ h => absurd h List.not_mem_nil⟩⟩⟩⟩⟩⟩⟩⟩⟩⟩⟩⟩⟩⟩⟩⟩
theorem lw_p48 : lw_okq (⟨"TinKitchenModel", "consider", "(IIII)V"⟩, 31) := ⟨⟨by decide +kernel, by decide +kernel⟩, List.mem_of_getElem? (i := 860) (by decide +kernel), List.mem_of_getElem? (i := 1070) (by decide +kernel), List.mem_of_getElem? (i := 1071) (by decide +kernel)⟩
theorem lw_p49 : lw_okq (⟨"TinKitchenModel", "hasPortions", "()Z"⟩, 31) := ⟨⟨by decide +kernel, by decide +kernel⟩, List.mem_of_getElem? (i := 860) (by decide +kernel), List.mem_of_getElem? (i := 1074) (by decide +kernel), List.mem_of_getElem? (i := 1075) (by decide +kernel)⟩
theorem lw_p50 : lw_okq (⟨"TinKitchenModel", "missingSet", "()I"⟩, 31) := ⟨⟨by decide +kernel, by decide +kernel⟩, List.mem_of_getElem? (i := 860) (by decide +kernel), List.mem_of_getElem? (i := 1078) (by decide +kernel), List.mem_of_getElem? (i := 1079) (by decide +kernel)⟩
theorem lw_p51 : lw_okq (⟨"TinKitchenModel", "takeOut", "(II)V"⟩, 31) := ⟨⟨by decide +kernel, by decide +kernel⟩, List.mem_of_getElem? (i := 860) (by decide +kernel), List.mem_of_getElem? (i := 1082) (by decide +kernel), List.mem_of_getElem? (i := 1083) (by decide +kernel)⟩
theorem lw_p52 : lw_okq (⟨"TinKitchenModel", "sumOf", "([I)I"⟩, 31) := ⟨⟨by decide +kernel, by decide +kernel⟩, List.mem_of_getElem? (i := 860) (by decide +kernel), List.mem_of_getElem? (i := 1086) (by decide +kernel), List.mem_of_getElem? (i := 1087) (by decide +kernel)⟩
theorem lw_p53 : lw_okq (⟨"TinKitchenModel", "takeNumber", "(I)I"⟩, 31) := ⟨⟨by decide +kernel, by decide +kernel⟩, List.mem_of_getElem? (i := 860) (by decide +kernel), List.mem_of_getElem? (i := 1094) (by decide +kernel), List.mem_of_getElem? (i := 1095) (by decide +kernel)⟩
theorem lw_p54 : lw_okq (⟨"TinKitchenModel", "next", "()I"⟩, 31) := ⟨⟨by decide +kernel, by decide +kernel⟩, List.mem_of_getElem? (i := 860) (by decide +kernel), List.mem_of_getElem? (i := 1098) (by decide +kernel), List.mem_of_getElem? (i := 1099) (by decide +kernel)⟩
theorem lw_p55 : lw_okq (⟨"TinKitchenModel", "takeAmount", "()V"⟩, 31) := ⟨⟨by decide +kernel, by decide +kernel⟩, List.mem_of_getElem? (i := 860) (by decide +kernel), List.mem_of_getElem? (i := 1102) (by decide +kernel), List.mem_of_getElem? (i := 1103) (by decide +kernel)⟩
theorem lw_p56 : lw_okq (⟨"TinKitchenModel", "takeStep", "()V"⟩, 31) := ⟨⟨by decide +kernel, by decide +kernel⟩, List.mem_of_getElem? (i := 860) (by decide +kernel), List.mem_of_getElem? (i := 1106) (by decide +kernel), List.mem_of_getElem? (i := 1107) (by decide +kernel)⟩
theorem lw_p57 : lw_okq (⟨"TinKitchenModel", "takeDigit", "(II)I"⟩, 31) := ⟨⟨by decide +kernel, by decide +kernel⟩, List.mem_of_getElem? (i := 860) (by decide +kernel), List.mem_of_getElem? (i := 1110) (by decide +kernel), List.mem_of_getElem? (i := 1111) (by decide +kernel)⟩
theorem lw_p58 : lw_okq (⟨"TinKitchenModel", "isRecipe", "(I)Z"⟩, 31) := ⟨⟨by decide +kernel, by decide +kernel⟩, List.mem_of_getElem? (i := 860) (by decide +kernel), List.mem_of_getElem? (i := 1123) (by decide +kernel), List.mem_of_getElem? (i := 1124) (by decide +kernel)⟩
theorem lw_p59 : lw_okq (⟨"TinKitchenModel", "lots", "(I)I"⟩, 31) := ⟨⟨by decide +kernel, by decide +kernel⟩, List.mem_of_getElem? (i := 860) (by decide +kernel), List.mem_of_getElem? (i := 1139) (by decide +kernel), List.mem_of_getElem? (i := 1140) (by decide +kernel)⟩
theorem lw_p60 : lw_okq (⟨"TinKitchenModel", "firstDay", "(I)I"⟩, 31) := ⟨⟨by decide +kernel, by decide +kernel⟩, List.mem_of_getElem? (i := 860) (by decide +kernel), List.mem_of_getElem? (i := 1143) (by decide +kernel), List.mem_of_getElem? (i := 1144) (by decide +kernel)⟩
theorem lw_p61 : lw_okq (⟨"TinKitchenModel", "lastsOf", "(III)I"⟩, 31) := ⟨⟨by decide +kernel, by decide +kernel⟩, List.mem_of_getElem? (i := 860) (by decide +kernel), List.mem_of_getElem? (i := 1159) (by decide +kernel), List.mem_of_getElem? (i := 1160) (by decide +kernel)⟩
theorem lw_p62 : lw_okq (⟨"TinKitchenModel", "ofStep", "(III)I"⟩, 31) := ⟨⟨by decide +kernel, by decide +kernel⟩, List.mem_of_getElem? (i := 860) (by decide +kernel), List.mem_of_getElem? (i := 1163) (by decide +kernel), List.mem_of_getElem? (i := 1164) (by decide +kernel)⟩
theorem lw_p63 : lw_okq (⟨"TinKitchenModel", "findTimes", "(I)I"⟩, 31) := ⟨⟨by decide +kernel, by decide +kernel⟩, List.mem_of_getElem? (i := 860) (by decide +kernel), List.mem_of_getElem? (i := 1167) (by decide +kernel), List.mem_of_getElem? (i := 1168) (by decide +kernel)⟩
def lw_privs_4 : List (MethodName × Nat) := [(⟨"TinKitchenModel", "consider", "(IIII)V"⟩, 31), (⟨"TinKitchenModel", "hasPortions", "()Z"⟩, 31), (⟨"TinKitchenModel", "missingSet", "()I"⟩, 31), (⟨"TinKitchenModel", "takeOut", "(II)V"⟩, 31), (⟨"TinKitchenModel", "sumOf", "([I)I"⟩, 31), (⟨"TinKitchenModel", "takeNumber", "(I)I"⟩, 31), (⟨"TinKitchenModel", "next", "()I"⟩, 31), (⟨"TinKitchenModel", "takeAmount", "()V"⟩, 31), (⟨"TinKitchenModel", "takeStep", "()V"⟩, 31), (⟨"TinKitchenModel", "takeDigit", "(II)I"⟩, 31), (⟨"TinKitchenModel", "isRecipe", "(I)Z"⟩, 31), (⟨"TinKitchenModel", "lots", "(I)I"⟩, 31), (⟨"TinKitchenModel", "firstDay", "(I)I"⟩, 31), (⟨"TinKitchenModel", "lastsOf", "(III)I"⟩, 31), (⟨"TinKitchenModel", "ofStep", "(III)I"⟩, 31), (⟨"TinKitchenModel", "findTimes", "(I)I"⟩, 31)]
theorem lw_r4 : ∀ q ∈ lw_privs_4, lw_okq q := List.forall_mem_cons.mpr ⟨lw_p48, List.forall_mem_cons.mpr ⟨lw_p49, List.forall_mem_cons.mpr ⟨lw_p50, List.forall_mem_cons.mpr ⟨lw_p51, List.forall_mem_cons.mpr ⟨lw_p52, List.forall_mem_cons.mpr ⟨lw_p53, List.forall_mem_cons.mpr ⟨lw_p54, List.forall_mem_cons.mpr ⟨lw_p55, List.forall_mem_cons.mpr ⟨lw_p56, List.forall_mem_cons.mpr ⟨lw_p57, List.forall_mem_cons.mpr ⟨lw_p58, List.forall_mem_cons.mpr ⟨lw_p59, List.forall_mem_cons.mpr ⟨lw_p60, List.forall_mem_cons.mpr ⟨lw_p61, List.forall_mem_cons.mpr ⟨lw_p62, List.forall_mem_cons.mpr ⟨lw_p63, fun _ h => absurd h List.not_mem_nil⟩⟩⟩⟩⟩⟩⟩⟩⟩⟩⟩⟩⟩⟩⟩⟩
theorem lw_p64 : lw_okq (⟨"TinKitchenModel", "findTails", "()V"⟩, 31) := ⟨⟨by decide +kernel, by decide +kernel⟩, List.mem_of_getElem? (i := 860) (by decide +kernel), List.mem_of_getElem? (i := 1171) (by decide +kernel), List.mem_of_getElem? (i := 1172) (by decide +kernel)⟩
theorem lw_p65 : lw_okq (⟨"TinKitchenModel", "isOn", "(I)Z"⟩, 31) := ⟨⟨by decide +kernel, by decide +kernel⟩, List.mem_of_getElem? (i := 860) (by decide +kernel), List.mem_of_getElem? (i := 1175) (by decide +kernel), List.mem_of_getElem? (i := 1176) (by decide +kernel)⟩
theorem lw_p66 : lw_okq (⟨"TinKitchenModel", "aheadOf", "(I)I"⟩, 31) := ⟨⟨by decide +kernel, by decide +kernel⟩, List.mem_of_getElem? (i := 860) (by decide +kernel), List.mem_of_getElem? (i := 1179) (by decide +kernel), List.mem_of_getElem? (i := 1180) (by decide +kernel)⟩
theorem lw_p67 : lw_okq (⟨"TinKitchenModel", "handsOf", "(I)I"⟩, 31) := ⟨⟨by decide +kernel, by decide +kernel⟩, List.mem_of_getElem? (i := 860) (by decide +kernel), List.mem_of_getElem? (i := 1183) (by decide +kernel), List.mem_of_getElem? (i := 1184) (by decide +kernel)⟩
theorem lw_p68 : lw_okq (⟨"TinKitchenModel", "freeAt", "(II)I"⟩, 31) := ⟨⟨by decide +kernel, by decide +kernel⟩, List.mem_of_getElem? (i := 860) (by decide +kernel), List.mem_of_getElem? (i := 1187) (by decide +kernel), List.mem_of_getElem? (i := 1188) (by decide +kernel)⟩
theorem lw_p69 : lw_okq (⟨"TinKitchenModel", "hasEnded", "(II)Z"⟩, 31) := ⟨⟨by decide +kernel, by decide +kernel⟩, List.mem_of_getElem? (i := 860) (by decide +kernel), List.mem_of_getElem? (i := 1191) (by decide +kernel), List.mem_of_getElem? (i := 1192) (by decide +kernel)⟩
theorem lw_p70 : lw_okq (⟨"TinKitchenModel", "nextAt", "(II)I"⟩, 31) := ⟨⟨by decide +kernel, by decide +kernel⟩, List.mem_of_getElem? (i := 860) (by decide +kernel), List.mem_of_getElem? (i := 1195) (by decide +kernel), List.mem_of_getElem? (i := 1196) (by decide +kernel)⟩
theorem lw_p71 : lw_okq (⟨"TinKitchenModel", "isReady", "(II)Z"⟩, 31) := ⟨⟨by decide +kernel, by decide +kernel⟩, List.mem_of_getElem? (i := 860) (by decide +kernel), List.mem_of_getElem? (i := 1199) (by decide +kernel), List.mem_of_getElem? (i := 1200) (by decide +kernel)⟩
theorem lw_p72 : lw_okq (⟨"TinKitchenModel", "nextEnd", "(I)I"⟩, 31) := ⟨⟨by decide +kernel, by decide +kernel⟩, List.mem_of_getElem? (i := 860) (by decide +kernel), List.mem_of_getElem? (i := 1203) (by decide +kernel), List.mem_of_getElem? (i := 1204) (by decide +kernel)⟩
theorem lw_p73 : lw_okq (⟨"TinKitchenModel", "ofPlan", "(I)I"⟩, 31) := ⟨⟨by decide +kernel, by decide +kernel⟩, List.mem_of_getElem? (i := 860) (by decide +kernel), List.mem_of_getElem? (i := 1215) (by decide +kernel), List.mem_of_getElem? (i := 1216) (by decide +kernel)⟩
theorem lw_p74 : lw_okq (⟨"TinKitchenModel", "bound", "()I"⟩, 31) := ⟨⟨by decide +kernel, by decide +kernel⟩, List.mem_of_getElem? (i := 860) (by decide +kernel), List.mem_of_getElem? (i := 1219) (by decide +kernel), List.mem_of_getElem? (i := 1220) (by decide +kernel)⟩
def lw_privs_5 : List (MethodName × Nat) := [(⟨"TinKitchenModel", "findTails", "()V"⟩, 31), (⟨"TinKitchenModel", "isOn", "(I)Z"⟩, 31), (⟨"TinKitchenModel", "aheadOf", "(I)I"⟩, 31), (⟨"TinKitchenModel", "handsOf", "(I)I"⟩, 31), (⟨"TinKitchenModel", "freeAt", "(II)I"⟩, 31), (⟨"TinKitchenModel", "hasEnded", "(II)Z"⟩, 31), (⟨"TinKitchenModel", "nextAt", "(II)I"⟩, 31), (⟨"TinKitchenModel", "isReady", "(II)Z"⟩, 31), (⟨"TinKitchenModel", "nextEnd", "(I)I"⟩, 31), (⟨"TinKitchenModel", "ofPlan", "(I)I"⟩, 31), (⟨"TinKitchenModel", "bound", "()I"⟩, 31)]
theorem lw_r5 : ∀ q ∈ lw_privs_5, lw_okq q := List.forall_mem_cons.mpr ⟨lw_p64, List.forall_mem_cons.mpr ⟨lw_p65, List.forall_mem_cons.mpr ⟨lw_p66, List.forall_mem_cons.mpr ⟨lw_p67, List.forall_mem_cons.mpr ⟨lw_p68, List.forall_mem_cons.mpr ⟨lw_p69, List.forall_mem_cons.mpr ⟨lw_p70, List.forall_mem_cons.mpr ⟨lw_p71, List.forall_mem_cons.mpr ⟨lw_p72, List.forall_mem_cons.mpr ⟨lw_p73, List.forall_mem_cons.mpr ⟨lw_p74, fun _ h => absurd h List.not_mem_nil⟩⟩⟩⟩⟩⟩⟩⟩⟩⟩⟩
def lw_privs : List (MethodName × Nat) := lw_privs_1 ++ (lw_privs_2 ++ (lw_privs_3 ++ (lw_privs_4 ++ (lw_privs_5))))
def lw_tbl : List Cond := k2_sels lw_privs ++ tables_1
theorem lw_privs_ok : ∀ q ∈ lw_privs, lw_okq q := by
  show ∀ q ∈ lw_privs_1 ++ (lw_privs_2 ++ (lw_privs_3 ++ (lw_privs_4 ++ (lw_privs_5)))), lw_okq q
  exact List.forall_mem_append.mpr ⟨lw_r1, List.forall_mem_append.mpr ⟨lw_r2, List.forall_mem_append.mpr ⟨lw_r3, List.forall_mem_append.mpr ⟨lw_r4, lw_r5⟩⟩⟩⟩
end
section
/-! ===== BEGIN words of one list among another's, by their places ===== -/
theorem goodIn_r {big : List Cond} (ws : List Cond) (ps : List Nat) (hp : ws = ps.filterMap (fun i => big[i]?)) (h : ws.all goodWord = true) : GoodIn big ws := by
  intro w hw
  have h1 := List.all_eq_true.mp h w hw
  rw [hp] at hw
  obtain ⟨i, -, hi⟩ := List.mem_filterMap.mp hw
  have hm : w ∈ big := by first | exact List.mem_of_getElem? hi | exact List.getElem?_mem hi
  exact ⟨hm, good_of_word h1⟩
theorem goodIn_app {big a b : List Cond} (ha : GoodIn big a) (hb : GoodIn big b) : GoodIn big (a ++ b) := fun w h => (List.mem_append.mp h).elim (ha w) (hb w)
theorem goodIn_ca {big a b : List Cond} {c : Cond} (ha : GoodIn big (c :: a)) (hb : GoodIn big b) : GoodIn big (c :: (a ++ b)) := fun w h => (List.mem_cons.mp h).elim (fun e => ha w (List.mem_cons.mpr (Or.inl e))) (fun h => (List.mem_append.mp h).elim (fun h => ha w (List.mem_cons.mpr (Or.inr h))) (hb w))
theorem goodIn_sub {big ws : List Cond} (hm : ∀ w ∈ ws, w ∈ big) (h : ws.all goodWord = true) : GoodIn big ws := fun w hw => ⟨hm w hw, good_of_word (List.all_eq_true.mp h w hw)⟩
/-! ===== END ===== -/
/-! ===== BEGIN printed: names, fields, word lists, decode rows ===== -/
def RX0 : String := "TinKitchen$History"
def TX0 : u_T := fun k => match k with
  | 0 => ("TinKitchen$History", "kept", "I", false)
  | 1 => ("TinKitchen$History", "latest", "I", false)
  | _ => ("TinKitchen$History", "states", "[LTinKitchen$State;", true)
def tyX0 : Nat → FieldType := fun k => match k with
  | 0 => .int
  | 1 => .int
  | _ => .array (.object "TinKitchen$State")
abbrev wsX00 : List Cond := u_ws RX0 TX0 3
theorem nmX0 : ∀ a, a < 3 → ∀ b, b < 3 → a ≠ b → (TX0 a).2.1 ≠ (TX0 b).2.1 := by decide +kernel
theorem tyX0_ok : ∀ k, k < 3 → parseFieldDescriptor (TX0 k).2.2.1 = some (tyX0 k) := by decide +kernel
abbrev cX0_init : ByteArray := prog_2_method_1_code
def yX0_init : MethodName := ⟨RX0, "<init>", "()V"⟩
abbrev cX0_record : ByteArray := prog_2_method_2_code
def yX0_record : MethodName := ⟨RX0, "record", "(LTinKitchen$State;)V"⟩
abbrev cX0_giveBack : ByteArray := prog_2_method_3_code
def yX0_giveBack : MethodName := ⟨RX0, "giveBack", "(LTinKitchen$State;)V"⟩
def RX1 : String := "TinKitchen$Ingredient"
def TX1 : u_T := fun k => match k with
  | 0 => ("TinKitchen$Ingredient", "keptDays", "I", false)
  | 1 => ("TinKitchen$Ingredient", "canBeBought", "Z", false)
  | 2 => ("TinKitchen$Ingredient", "kinds", "I", false)
  | 3 => ("TinKitchen$Ingredient", "sizes", "[I", true)
  | 4 => ("TinKitchen$Ingredient", "prices", "[I", true)
  | 5 => ("TinKitchen$Ingredient", "replacedBy", "I", false)
  | 6 => ("TinKitchen$Ingredient", "rate", "I", false)
  | 7 => ("TinKitchen$Ingredient", "lots", "[I", true)
  | 8 => ("TinKitchen$Ingredient", "bought", "I", false)
  | 9 => ("TinKitchen$Ingredient", "used", "I", false)
  | 10 => ("TinKitchen$Ingredient", "thrownAway", "I", false)
  | _ => ("TinKitchen$Ingredient", "stocked", "I", false)
def tyX1 : Nat → FieldType := fun k => match k with
  | 0 => .int
  | 1 => .boolean
  | 2 => .int
  | 3 => .array .int
  | 4 => .array .int
  | 5 => .int
  | 6 => .int
  | 7 => .array .int
  | 8 => .int
  | 9 => .int
  | 10 => .int
  | _ => .int
abbrev wsX10 : List Cond := u_ws RX1 TX1 12
theorem nmX1 : ∀ a, a < 12 → ∀ b, b < 12 → a ≠ b → (TX1 a).2.1 ≠ (TX1 b).2.1 := by decide +kernel
theorem tyX1_ok : ∀ k, k < 12 → parseFieldDescriptor (TX1 k).2.2.1 = some (tyX1 k) := by decide +kernel
abbrev cX1_init : ByteArray := prog_3_method_1_code
def yX1_init : MethodName := ⟨RX1, "<init>", "()V"⟩
abbrev cX1_begin : ByteArray := prog_3_method_2_code
def yX1_begin : MethodName := ⟨RX1, "begin", "(I)V"⟩
abbrev cX1_copyFrom : ByteArray := prog_3_method_3_code
def yX1_copyFrom : MethodName := ⟨RX1, "copyFrom", "(LTinKitchen$Ingredient;)V"⟩
abbrev cX1_hasKind : ByteArray := prog_3_method_4_code
def yX1_hasKind : MethodName := ⟨RX1, "hasKind", "(I)Z"⟩
abbrev cX1_hasSize : ByteArray := prog_3_method_5_code
def yX1_hasSize : MethodName := ⟨RX1, "hasSize", "(I)Z"⟩
abbrev cX1_addKind : ByteArray := prog_3_method_6_code
def yX1_addKind : MethodName := ⟨RX1, "addKind", "(II)V"⟩
abbrev cX1_inPantry : ByteArray := prog_3_method_7_code
def yX1_inPantry : MethodName := ⟨RX1, "inPantry", "()I"⟩
abbrev cX1_lotsThere : ByteArray := prog_3_method_8_code
def yX1_lotsThere : MethodName := ⟨RX1, "lotsThere", "()I"⟩
abbrev cX1_firstSpoilDay : ByteArray := prog_3_method_9_code
def yX1_firstSpoilDay : MethodName := ⟨RX1, "firstSpoilDay", "(I)I"⟩
abbrev cX1_addLot : ByteArray := prog_3_method_10_code
def yX1_addLot : MethodName := ⟨RX1, "addLot", "(II)V"⟩
abbrev cX1_takeFromLots : ByteArray := prog_3_method_11_code
def yX1_takeFromLots : MethodName := ⟨RX1, "takeFromLots", "(II)V"⟩
abbrev cX1_throwAway : ByteArray := prog_3_method_12_code
def yX1_throwAway : MethodName := ⟨RX1, "throwAway", "(I)I"⟩
abbrev cX1_placeOf : ByteArray := prog_3_method_13_code
def yX1_placeOf : MethodName := ⟨RX1, "placeOf", "(I)I"⟩
def RX2 : String := "TinKitchen$Pad"
def TX2 : u_T := fun k => match k with
  | 0 => ("TinKitchen$Pad", "length", "I", false)
  | _ => ("TinKitchen$Pad", "text", "[C", true)
def tyX2 : Nat → FieldType := fun k => match k with
  | 0 => .int
  | _ => .array .char
abbrev wsX20 : List Cond := u_ws RX2 TX2 2
theorem nmX2 : ∀ a, a < 2 → ∀ b, b < 2 → a ≠ b → (TX2 a).2.1 ≠ (TX2 b).2.1 := by decide +kernel
theorem tyX2_ok : ∀ k, k < 2 → parseFieldDescriptor (TX2 k).2.2.1 = some (tyX2 k) := by decide +kernel
abbrev cX2_init : ByteArray := prog_4_method_1_code
def yX2_init : MethodName := ⟨RX2, "<init>", "()V"⟩
abbrev cX2_at : ByteArray := prog_4_method_2_code
def yX2_at : MethodName := ⟨RX2, "at", "(I)C"⟩
abbrev cX2_append : ByteArray := prog_4_method_3_code
def yX2_append : MethodName := ⟨RX2, "append", "(JI)V"⟩
def RX3 : String := "TinKitchen$Reader"
def TX3 : u_T := fun k => match k with
  | 0 => ("TinKitchen$Reader", "found", "LTinKitchen$Recipe;", true)
  | 1 => ("TinKitchen$Reader", "pad", "LTinKitchen$Pad;", true)
  | 2 => ("TinKitchen$Reader", "place", "I", false)
  | _ => ("TinKitchen$Reader", "isGood", "Z", false)
def tyX3 : Nat → FieldType := fun k => match k with
  | 0 => .object "TinKitchen$Recipe"
  | 1 => .object "TinKitchen$Pad"
  | 2 => .int
  | _ => .boolean
abbrev wsX30 : List Cond := u_ws RX3 TX3 4
theorem nmX3 : ∀ a, a < 4 → ∀ b, b < 4 → a ≠ b → (TX3 a).2.1 ≠ (TX3 b).2.1 := by decide +kernel
theorem tyX3_ok : ∀ k, k < 4 → parseFieldDescriptor (TX3 k).2.2.1 = some (tyX3 k) := by decide +kernel
abbrev cX3_init : ByteArray := prog_5_method_1_code
def yX3_init : MethodName := ⟨RX3, "<init>", "(LTinKitchen$Pad;)V"⟩
abbrev cX3_read : ByteArray := prog_5_method_2_code
def yX3_read : MethodName := ⟨RX3, "read", "()I"⟩
abbrev cX3_readNumber : ByteArray := prog_5_method_3_code
def yX3_readNumber : MethodName := ⟨RX3, "readNumber", "(I)I"⟩
abbrev cX3_readDigit : ByteArray := prog_5_method_4_code
def yX3_readDigit : MethodName := ⟨RX3, "readDigit", "(II)I"⟩
abbrev cX3_digitHere : ByteArray := prog_5_method_5_code
def yX3_digitHere : MethodName := ⟨RX3, "digitHere", "()I"⟩
abbrev cX3_nameHere : ByteArray := prog_5_method_6_code
def yX3_nameHere : MethodName := ⟨RX3, "nameHere", "()I"⟩
abbrev cX3_readAmount : ByteArray := prog_5_method_7_code
def yX3_readAmount : MethodName := ⟨RX3, "readAmount", "(I)V"⟩
abbrev cX3_readStep : ByteArray := prog_5_method_8_code
def yX3_readStep : MethodName := ⟨RX3, "readStep", "(I)V"⟩
abbrev cX3_readSign : ByteArray := prog_5_method_9_code
def yX3_readSign : MethodName := ⟨RX3, "readSign", "(C)V"⟩
abbrev cX3_readStepBefore : ByteArray := prog_5_method_10_code
def yX3_readStepBefore : MethodName := ⟨RX3, "readStepBefore", "(II)I"⟩
def RX4 : String := "TinKitchen$Recipe"
def TX4 : u_T := fun k => match k with
  | 0 => ("TinKitchen$Recipe", "basePortions", "I", false)
  | 1 => ("TinKitchen$Recipe", "portions", "I", false)
  | 2 => ("TinKitchen$Recipe", "stepCount", "I", false)
  | 3 => ("TinKitchen$Recipe", "amounts", "[I", true)
  | _ => ("TinKitchen$Recipe", "steps", "[LTinKitchen$Step;", true)
def tyX4 : Nat → FieldType := fun k => match k with
  | 0 => .int
  | 1 => .int
  | 2 => .int
  | 3 => .array .int
  | _ => .array (.object "TinKitchen$Step")
abbrev wsX40 : List Cond := u_ws RX4 TX4 5
theorem nmX4 : ∀ a, a < 5 → ∀ b, b < 5 → a ≠ b → (TX4 a).2.1 ≠ (TX4 b).2.1 := by decide +kernel
theorem tyX4_ok : ∀ k, k < 5 → parseFieldDescriptor (TX4 k).2.2.1 = some (tyX4 k) := by decide +kernel
abbrev cX4_init : ByteArray := prog_6_method_1_code
def yX4_init : MethodName := ⟨RX4, "<init>", "()V"⟩
abbrev cX4_clear : ByteArray := prog_6_method_2_code
def yX4_clear : MethodName := ⟨RX4, "clear", "()V"⟩
abbrev cX4_copyFrom : ByteArray := prog_6_method_3_code
def yX4_copyFrom : MethodName := ⟨RX4, "copyFrom", "(LTinKitchen$Recipe;)V"⟩
abbrev cX4_hasStep : ByteArray := prog_6_method_4_code
def yX4_hasStep : MethodName := ⟨RX4, "hasStep", "(I)Z"⟩
abbrev cX4_namesFrom : ByteArray := prog_6_method_5_code
def yX4_namesFrom : MethodName := ⟨RX4, "namesFrom", "(I)Z"⟩
abbrev cX4_scaled : ByteArray := prog_6_method_6_code
def yX4_scaled : MethodName := ⟨RX4, "scaled", "(I)I"⟩
abbrev cX4_lasts : ByteArray := prog_6_method_7_code
def yX4_lasts : MethodName := ⟨RX4, "lasts", "(I)I"⟩
def RX5 : String := "TinKitchen$Schedule"
def TX5 : u_T := fun k => match k with
  | 0 => ("TinKitchen$Schedule", "tails", "[I", true)
  | 1 => ("TinKitchen$Schedule", "begins", "[I", true)
  | 2 => ("TinKitchen$Schedule", "work", "I", false)
  | 3 => ("TinKitchen$Schedule", "durations", "[I", true)
  | 4 => ("TinKitchen$Schedule", "needsHands", "[I", true)
  | 5 => ("TinKitchen$Schedule", "before", "[I", true)
  | 6 => ("TinKitchen$Schedule", "order", "[I", true)
  | 7 => ("TinKitchen$Schedule", "steps", "I", false)
  | _ => ("TinKitchen$Schedule", "greatestTail", "I", false)
def tyX5 : Nat → FieldType := fun k => match k with
  | 0 => .array .int
  | 1 => .array .int
  | 2 => .int
  | 3 => .array .int
  | 4 => .array .int
  | 5 => .array .int
  | 6 => .array .int
  | 7 => .int
  | _ => .int
abbrev wsX50 : List Cond := u_ws RX5 TX5 9
theorem nmX5 : ∀ a, a < 9 → ∀ b, b < 9 → a ≠ b → (TX5 a).2.1 ≠ (TX5 b).2.1 := by decide +kernel
theorem tyX5_ok : ∀ k, k < 9 → parseFieldDescriptor (TX5 k).2.2.1 = some (tyX5 k) := by decide +kernel
abbrev cX5_init : ByteArray := prog_7_method_1_code
def yX5_init : MethodName := ⟨RX5, "<init>", "()V"⟩
abbrev cX5_gather : ByteArray := prog_7_method_2_code
def yX5_gather : MethodName := ⟨RX5, "gather", "(LTinKitchen$State;)V"⟩
abbrev cX5_gatherSteps : ByteArray := prog_7_method_3_code
def yX5_gatherSteps : MethodName := ⟨RX5, "gatherSteps", "(LTinKitchen$Recipe;I)V"⟩
abbrev cX5_longestBehind : ByteArray := prog_7_method_4_code
def yX5_longestBehind : MethodName := ⟨RX5, "longestBehind", "(III)I"⟩
abbrev cX5_insert : ByteArray := prog_7_method_5_code
def yX5_insert : MethodName := ⟨RX5, "insert", "(I)V"⟩
abbrev cX5_run : ByteArray := prog_7_method_6_code
def yX5_run : MethodName := ⟨RX5, "run", "(I)V"⟩
abbrev cX5_beginAt : ByteArray := prog_7_method_7_code
def yX5_beginAt : MethodName := ⟨RX5, "beginAt", "(II)V"⟩
abbrev cX5_busyHands : ByteArray := prog_7_method_8_code
def yX5_busyHands : MethodName := ⟨RX5, "busyHands", "(I)I"⟩
abbrev cX5_isReady : ByteArray := prog_7_method_9_code
def yX5_isReady : MethodName := ⟨RX5, "isReady", "(II)Z"⟩
abbrev cX5_hasEnded : ByteArray := prog_7_method_10_code
def yX5_hasEnded : MethodName := ⟨RX5, "hasEnded", "(II)Z"⟩
abbrev cX5_nextEnd : ByteArray := prog_7_method_11_code
def yX5_nextEnd : MethodName := ⟨RX5, "nextEnd", "(I)I"⟩
abbrev cX5_end : ByteArray := prog_7_method_12_code
def yX5_end : MethodName := ⟨RX5, "end", "()I"⟩
abbrev cX5_bound : ByteArray := prog_7_method_13_code
def yX5_bound : MethodName := ⟨RX5, "bound", "(I)I"⟩
def RX6 : String := "TinKitchen$Shopping"
def TX6 : u_T := fun k => match k with
  | 0 => ("TinKitchen$Shopping", "needed", "[I", true)
  | 1 => ("TinKitchen$Shopping", "replacing", "[I", true)
  | 2 => ("TinKitchen$Shopping", "fromPantry", "[I", true)
  | 3 => ("TinKitchen$Shopping", "bought", "[I", true)
  | 4 => ("TinKitchen$Shopping", "leftOver", "[I", true)
  | 5 => ("TinKitchen$Shopping", "replaced", "[I", true)
  | 6 => ("TinKitchen$Shopping", "missing", "[I", true)
  | 7 => ("TinKitchen$Shopping", "price", "[I", true)
  | 8 => ("TinKitchen$Shopping", "tins", "[[I", true)
  | _ => ("TinKitchen$Shopping", "search", "LTinKitchen$TinSearch;", true)
def tyX6 : Nat → FieldType := fun k => match k with
  | 0 => .array .int
  | 1 => .array .int
  | 2 => .array .int
  | 3 => .array .int
  | 4 => .array .int
  | 5 => .array .int
  | 6 => .array .int
  | 7 => .array .int
  | 8 => .array (.array .int)
  | _ => .object "TinKitchen$TinSearch"
abbrev wsX60 : List Cond := u_ws RX6 TX6 10
theorem nmX6 : ∀ a, a < 10 → ∀ b, b < 10 → a ≠ b → (TX6 a).2.1 ≠ (TX6 b).2.1 := by decide +kernel
theorem tyX6_ok : ∀ k, k < 10 → parseFieldDescriptor (TX6 k).2.2.1 = some (tyX6 k) := by decide +kernel
abbrev cX6_init : ByteArray := prog_8_method_1_code
def yX6_init : MethodName := ⟨RX6, "<init>", "()V"⟩
abbrev cX6_plan : ByteArray := prog_8_method_2_code
def yX6_plan : MethodName := ⟨RX6, "plan", "(LTinKitchen$State;)V"⟩
abbrev cX6_clear : ByteArray := prog_8_method_3_code
def yX6_clear : MethodName := ⟨RX6, "clear", "(I)V"⟩
abbrev cX6_planOne : ByteArray := prog_8_method_4_code
def yX6_planOne : MethodName := ⟨RX6, "planOne", "(LTinKitchen$State;I)V"⟩
abbrev cX6_buy : ByteArray := prog_8_method_5_code
def yX6_buy : MethodName := ⟨RX6, "buy", "(LTinKitchen$Ingredient;II)V"⟩
abbrev cX6_replace : ByteArray := prog_8_method_6_code
def yX6_replace : MethodName := ⟨RX6, "replace", "(LTinKitchen$State;II)Z"⟩
abbrev cX6_carryOut : ByteArray := prog_8_method_7_code
def yX6_carryOut : MethodName := ⟨RX6, "carryOut", "(LTinKitchen$State;)V"⟩
abbrev cX6_allPrices : ByteArray := prog_8_method_8_code
def yX6_allPrices : MethodName := ⟨RX6, "allPrices", "()I"⟩
abbrev cX6_allLeftOver : ByteArray := prog_8_method_9_code
def yX6_allLeftOver : MethodName := ⟨RX6, "allLeftOver", "()I"⟩
abbrev cX6_missingSet : ByteArray := prog_8_method_10_code
def yX6_missingSet : MethodName := ⟨RX6, "missingSet", "()I"⟩
abbrev cX6_sum : ByteArray := prog_8_method_11_code
def yX6_sum : MethodName := ⟨RX6, "sum", "([I)I"⟩
def RX7 : String := "TinKitchen$State"
def TX7 : u_T := fun k => match k with
  | 0 => ("TinKitchen$State", "day", "I", false)
  | 1 => ("TinKitchen$State", "allHands", "I", false)
  | 2 => ("TinKitchen$State", "spent", "I", false)
  | 3 => ("TinKitchen$State", "cooked", "I", false)
  | 4 => ("TinKitchen$State", "ingredients", "I", false)
  | 5 => ("TinKitchen$State", "recipes", "I", false)
  | 6 => ("TinKitchen$State", "larder", "[LTinKitchen$Ingredient;", true)
  | _ => ("TinKitchen$State", "book", "[LTinKitchen$Recipe;", true)
def tyX7 : Nat → FieldType := fun k => match k with
  | 0 => .int
  | 1 => .int
  | 2 => .int
  | 3 => .int
  | 4 => .int
  | 5 => .int
  | 6 => .array (.object "TinKitchen$Ingredient")
  | _ => .array (.object "TinKitchen$Recipe")
abbrev wsX70 : List Cond := u_ws RX7 TX7 8
theorem nmX7 : ∀ a, a < 8 → ∀ b, b < 8 → a ≠ b → (TX7 a).2.1 ≠ (TX7 b).2.1 := by decide +kernel
theorem tyX7_ok : ∀ k, k < 8 → parseFieldDescriptor (TX7 k).2.2.1 = some (tyX7 k) := by decide +kernel
abbrev cX7_init : ByteArray := prog_9_method_1_code
def yX7_init : MethodName := ⟨RX7, "<init>", "()V"⟩
abbrev cX7_copyFrom : ByteArray := prog_9_method_2_code
def yX7_copyFrom : MethodName := ⟨RX7, "copyFrom", "(LTinKitchen$State;)V"⟩
abbrev cX7_hasIngredient : ByteArray := prog_9_method_3_code
def yX7_hasIngredient : MethodName := ⟨RX7, "hasIngredient", "(I)Z"⟩
abbrev cX7_hasRecipe : ByteArray := prog_9_method_4_code
def yX7_hasRecipe : MethodName := ⟨RX7, "hasRecipe", "(I)Z"⟩
abbrev cX7_hasPortions : ByteArray := prog_9_method_5_code
def yX7_hasPortions : MethodName := ⟨RX7, "hasPortions", "()Z"⟩
abbrev cX7_neededByRecipes : ByteArray := prog_9_method_6_code
def yX7_neededByRecipes : MethodName := ⟨RX7, "neededByRecipes", "(I)I"⟩
abbrev cX7_emptyMenu : ByteArray := prog_9_method_7_code
def yX7_emptyMenu : MethodName := ⟨RX7, "emptyMenu", "()V"⟩
abbrev cX7_letPass : ByteArray := prog_9_method_8_code
def yX7_letPass : MethodName := ⟨RX7, "letPass", "(I)I"⟩
def RX8 : String := "TinKitchen$Step"
def TX8 : u_T := fun k => match k with
  | 0 => ("TinKitchen$Step", "duration", "I", false)
  | 1 => ("TinKitchen$Step", "needsHands", "I", false)
  | 2 => ("TinKitchen$Step", "before", "I", false)
  | _ => ("TinKitchen$Step", "grows", "Z", false)
def tyX8 : Nat → FieldType := fun k => match k with
  | 0 => .int
  | 1 => .int
  | 2 => .int
  | _ => .boolean
abbrev wsX80 : List Cond := u_ws RX8 TX8 4
theorem nmX8 : ∀ a, a < 4 → ∀ b, b < 4 → a ≠ b → (TX8 a).2.1 ≠ (TX8 b).2.1 := by decide +kernel
theorem tyX8_ok : ∀ k, k < 4 → parseFieldDescriptor (TX8 k).2.2.1 = some (tyX8 k) := by decide +kernel
abbrev cX8_init : ByteArray := prog_10_method_1_code
def yX8_init : MethodName := ⟨RX8, "<init>", "()V"⟩
abbrev cX8_copyFrom : ByteArray := prog_10_method_2_code
def yX8_copyFrom : MethodName := ⟨RX8, "copyFrom", "(LTinKitchen$Step;)V"⟩
def RX9 : String := "TinKitchen$TinSearch"
def TX9 : u_T := fun k => match k with
  | 0 => ("TinKitchen$TinSearch", "bestPrice", "I", false)
  | 1 => ("TinKitchen$TinSearch", "bestWeight", "I", false)
  | 2 => ("TinKitchen$TinSearch", "best", "[I", true)
  | 3 => ("TinKitchen$TinSearch", "bestTins", "I", false)
  | 4 => ("TinKitchen$TinSearch", "isFound", "Z", false)
  | 5 => ("TinKitchen$TinSearch", "tried", "[I", true)
  | 6 => ("TinKitchen$TinSearch", "ranked", "[I", true)
  | 7 => ("TinKitchen$TinSearch", "size", "[I", true)
  | 8 => ("TinKitchen$TinSearch", "price", "[I", true)
  | _ => ("TinKitchen$TinSearch", "most", "[I", true)
def tyX9 : Nat → FieldType := fun k => match k with
  | 0 => .int
  | 1 => .int
  | 2 => .array .int
  | 3 => .int
  | 4 => .boolean
  | 5 => .array .int
  | 6 => .array .int
  | 7 => .array .int
  | 8 => .array .int
  | _ => .array .int
abbrev wsX90 : List Cond := u_ws RX9 TX9 10
theorem nmX9 : ∀ a, a < 10 → ∀ b, b < 10 → a ≠ b → (TX9 a).2.1 ≠ (TX9 b).2.1 := by decide +kernel
theorem tyX9_ok : ∀ k, k < 10 → parseFieldDescriptor (TX9 k).2.2.1 = some (tyX9 k) := by decide +kernel
abbrev cX9_init : ByteArray := prog_11_method_1_code
def yX9_init : MethodName := ⟨RX9, "<init>", "()V"⟩
abbrev cX9_rank : ByteArray := prog_11_method_2_code
def yX9_rank : MethodName := ⟨RX9, "rank", "(LTinKitchen$Ingredient;)V"⟩
abbrev cX9_find : ByteArray := prog_11_method_3_code
def yX9_find : MethodName := ⟨RX9, "find", "(I)V"⟩
abbrev cX9_isAhead : ByteArray := prog_11_method_4_code
def yX9_isAhead : MethodName := ⟨RX9, "isAhead", "(LTinKitchen$Ingredient;II)Z"⟩
abbrev cX9_mostOf : ByteArray := prog_11_method_5_code
def yX9_mostOf : MethodName := ⟨RX9, "mostOf", "(I)I"⟩
abbrev cX9_commonDivisor : ByteArray := prog_11_method_6_code
def yX9_commonDivisor : MethodName := ⟨RX9, "commonDivisor", "(II)I"⟩
abbrev cX9_isTooDear : ByteArray := prog_11_method_7_code
def yX9_isTooDear : MethodName := ⟨RX9, "isTooDear", "(III)Z"⟩
abbrev cX9_offer : ByteArray := prog_11_method_8_code
def yX9_offer : MethodName := ⟨RX9, "offer", "(III)V"⟩
abbrev cX9_putTried : ByteArray := prog_11_method_9_code
def yX9_putTried : MethodName := ⟨RX9, "putTried", "(II)V"⟩
abbrev cX9_isBetter : ByteArray := prog_11_method_10_code
def yX9_isBetter : MethodName := ⟨RX9, "isBetter", "(III)Z"⟩
def RX10 : String := "TinKitchen"
def TX10 : u_T := fun k => match k with
  | 0 => ("TinKitchen", "now", "LTinKitchen$State;", true)
  | 1 => ("TinKitchen", "history", "LTinKitchen$History;", true)
  | 2 => ("TinKitchen", "slots", "[LTinKitchen$State;", true)
  | 3 => ("TinKitchen", "isSaved", "[Z", true)
  | 4 => ("TinKitchen", "pad", "LTinKitchen$Pad;", true)
  | 5 => ("TinKitchen", "reader", "LTinKitchen$Reader;", true)
  | 6 => ("TinKitchen", "shopping", "LTinKitchen$Shopping;", true)
  | _ => ("TinKitchen", "schedule", "LTinKitchen$Schedule;", true)
def tyX10 : Nat → FieldType := fun k => match k with
  | 0 => .object "TinKitchen$State"
  | 1 => .object "TinKitchen$History"
  | 2 => .array (.object "TinKitchen$State")
  | 3 => .array .boolean
  | 4 => .object "TinKitchen$Pad"
  | 5 => .object "TinKitchen$Reader"
  | 6 => .object "TinKitchen$Shopping"
  | _ => .object "TinKitchen$Schedule"
abbrev wsX100 : List Cond := u_ws RX10 TX10 8
theorem nmX10 : ∀ a, a < 8 → ∀ b, b < 8 → a ≠ b → (TX10 a).2.1 ≠ (TX10 b).2.1 := by decide +kernel
theorem tyX10_ok : ∀ k, k < 8 → parseFieldDescriptor (TX10 k).2.2.1 = some (tyX10 k) := by decide +kernel
abbrev cX10_init : ByteArray := prog_1_method_1_code
def yX10_init : MethodName := ⟨RX10, "<init>", "()V"⟩
abbrev cX10_ingredient : ByteArray := prog_1_method_2_code
def yX10_ingredient : MethodName := ⟨RX10, "ingredient", "(I)I"⟩
abbrev cX10_tin : ByteArray := prog_1_method_3_code
def yX10_tin : MethodName := ⟨RX10, "tin", "(III)I"⟩
abbrev cX10_buyable : ByteArray := prog_1_method_4_code
def yX10_buyable : MethodName := ⟨RX10, "buyable", "(II)I"⟩
abbrev cX10_substitute : ByteArray := prog_1_method_5_code
def yX10_substitute : MethodName := ⟨RX10, "substitute", "(III)I"⟩
abbrev cX10_stock : ByteArray := prog_1_method_6_code
def yX10_stock : MethodName := ⟨RX10, "stock", "(II)I"⟩
abbrev cX10_recipe : ByteArray := prog_1_method_7_code
def yX10_recipe : MethodName := ⟨RX10, "recipe", "()I"⟩
abbrev cX10_amount : ByteArray := prog_1_method_8_code
def yX10_amount : MethodName := ⟨RX10, "amount", "(III)I"⟩
abbrev cX10_menu : ByteArray := prog_1_method_9_code
def yX10_menu : MethodName := ⟨RX10, "menu", "(II)I"⟩
abbrev cX10_hands : ByteArray := prog_1_method_10_code
def yX10_hands : MethodName := ⟨RX10, "hands", "(I)I"⟩
abbrev cX10_cook : ByteArray := prog_1_method_11_code
def yX10_cook : MethodName := ⟨RX10, "cook", "()I"⟩
abbrev cX10_pass : ByteArray := prog_1_method_12_code
def yX10_pass : MethodName := ⟨RX10, "pass", "(I)I"⟩
abbrev cX10_about : ByteArray := prog_1_method_13_code
def yX10_about : MethodName := ⟨RX10, "about", "(II)I"⟩
abbrev cX10_ofTin : ByteArray := prog_1_method_14_code
def yX10_ofTin : MethodName := ⟨RX10, "ofTin", "(III)I"⟩
abbrev cX10_needs : ByteArray := prog_1_method_15_code
def yX10_needs : MethodName := ⟨RX10, "needs", "(II)I"⟩
abbrev cX10_step : ByteArray := prog_1_method_16_code
def yX10_step : MethodName := ⟨RX10, "step", "(III)I"⟩
abbrev cX10_ofRecipe : ByteArray := prog_1_method_17_code
def yX10_ofRecipe : MethodName := ⟨RX10, "ofRecipe", "(II)I"⟩
abbrev cX10_count : ByteArray := prog_1_method_18_code
def yX10_count : MethodName := ⟨RX10, "count", "(I)I"⟩
abbrev cX10_bestPortions : ByteArray := prog_1_method_19_code
def yX10_bestPortions : MethodName := ⟨RX10, "bestPortions", "(III)I"⟩
abbrev cX10_fewestHands : ByteArray := prog_1_method_20_code
def yX10_fewestHands : MethodName := ⟨RX10, "fewestHands", "(I)I"⟩
abbrev cX10_ifBuyable : ByteArray := prog_1_method_21_code
def yX10_ifBuyable : MethodName := ⟨RX10, "ifBuyable", "(II)I"⟩
abbrev cX10_put : ByteArray := prog_1_method_22_code
def yX10_put : MethodName := ⟨RX10, "put", "(J)I"⟩
abbrev cX10_wipe : ByteArray := prog_1_method_23_code
def yX10_wipe : MethodName := ⟨RX10, "wipe", "()I"⟩
abbrev cX10_fault : ByteArray := prog_1_method_24_code
def yX10_fault : MethodName := ⟨RX10, "fault", "()I"⟩
abbrev cX10_undo : ByteArray := prog_1_method_25_code
def yX10_undo : MethodName := ⟨RX10, "undo", "()I"⟩
abbrev cX10_save : ByteArray := prog_1_method_26_code
def yX10_save : MethodName := ⟨RX10, "save", "(I)I"⟩
abbrev cX10_restore : ByteArray := prog_1_method_27_code
def yX10_restore : MethodName := ⟨RX10, "restore", "(I)I"⟩
abbrev cX10_canBeCooked : ByteArray := prog_1_method_28_code
def yX10_canBeCooked : MethodName := ⟨RX10, "canBeCooked", "()Z"⟩
abbrev cX10_tailInMenu : ByteArray := prog_1_method_29_code
def yX10_tailInMenu : MethodName := ⟨RX10, "tailInMenu", "(II)I"⟩
abbrev cX10_beginInMenu : ByteArray := prog_1_method_30_code
def yX10_beginInMenu : MethodName := ⟨RX10, "beginInMenu", "(II)I"⟩
abbrev cX10_ofShopping : ByteArray := prog_1_method_31_code
def yX10_ofShopping : MethodName := ⟨RX10, "ofShopping", "(I)I"⟩
abbrev cX10_ofSchedule : ByteArray := prog_1_method_32_code
def yX10_ofSchedule : MethodName := ⟨RX10, "ofSchedule", "(I)I"⟩
abbrev cX10_lengthOf : ByteArray := prog_1_method_33_code
def yX10_lengthOf : MethodName := ⟨RX10, "lengthOf", "(J)I"⟩
abbrev cX10_isWithin : ByteArray := prog_1_method_34_code
def yX10_isWithin : MethodName := ⟨RX10, "isWithin", "(III)Z"⟩
abbrev cX10_asNumber : ByteArray := prog_1_method_35_code
def yX10_asNumber : MethodName := ⟨RX10, "asNumber", "(Z)I"⟩
abbrev cX10_roundedUp : ByteArray := prog_1_method_36_code
def yX10_roundedUp : MethodName := ⟨RX10, "roundedUp", "(II)I"⟩
def RX11 : String := "TinKitchenModel"
def TX11 : u_T := fun k => match k with
  | 0 => ("TinKitchenModel", "at", "[I", true)
  | 1 => ("TinKitchenModel", "past", "[I", true)
  | 2 => ("TinKitchenModel", "pastMany", "I", false)
  | 3 => ("TinKitchenModel", "slots", "[I", true)
  | 4 => ("TinKitchenModel", "isSaved", "[Z", true)
  | 5 => ("TinKitchenModel", "pad", "[I", true)
  | 6 => ("TinKitchenModel", "padMany", "I", false)
  | 7 => ("TinKitchenModel", "needed", "[I", true)
  | 8 => ("TinKitchenModel", "replaces", "[I", true)
  | 9 => ("TinKitchenModel", "taken", "[I", true)
  | 10 => ("TinKitchenModel", "bought", "[I", true)
  | 11 => ("TinKitchenModel", "over", "[I", true)
  | 12 => ("TinKitchenModel", "replaced", "[I", true)
  | 13 => ("TinKitchenModel", "missing", "[I", true)
  | 14 => ("TinKitchenModel", "price", "[I", true)
  | 15 => ("TinKitchenModel", "tins", "[I", true)
  | 16 => ("TinKitchenModel", "bestPrice", "I", false)
  | 17 => ("TinKitchenModel", "bestWeight", "I", false)
  | 18 => ("TinKitchenModel", "bestMany", "I", false)
  | 19 => ("TinKitchenModel", "lasts", "[I", true)
  | 20 => ("TinKitchenModel", "tails", "[I", true)
  | 21 => ("TinKitchenModel", "begins", "[I", true)
  | 22 => ("TinKitchenModel", "ended", "I", false)
  | 23 => ("TinKitchenModel", "greatestTail", "I", false)
  | 24 => ("TinKitchenModel", "work", "I", false)
  | 25 => ("TinKitchenModel", "spot", "I", false)
  | 26 => ("TinKitchenModel", "isWrong", "Z", false)
  | 27 => ("TinKitchenModel", "readBase", "I", false)
  | 28 => ("TinKitchenModel", "readAmount", "[I", true)
  | 29 => ("TinKitchenModel", "readStep", "[I", true)
  | _ => ("TinKitchenModel", "readSteps", "I", false)
def tyX11 : Nat → FieldType := fun k => match k with
  | 0 => .array .int
  | 1 => .array .int
  | 2 => .int
  | 3 => .array .int
  | 4 => .array .boolean
  | 5 => .array .int
  | 6 => .int
  | 7 => .array .int
  | 8 => .array .int
  | 9 => .array .int
  | 10 => .array .int
  | 11 => .array .int
  | 12 => .array .int
  | 13 => .array .int
  | 14 => .array .int
  | 15 => .array .int
  | 16 => .int
  | 17 => .int
  | 18 => .int
  | 19 => .array .int
  | 20 => .array .int
  | 21 => .array .int
  | 22 => .int
  | 23 => .int
  | 24 => .int
  | 25 => .int
  | 26 => .boolean
  | 27 => .int
  | 28 => .array .int
  | 29 => .array .int
  | _ => .int
abbrev wsX110 : List Cond := u_ws RX11 TX11 31
theorem nmX11 : ∀ a, a < 31 → ∀ b, b < 31 → a ≠ b → (TX11 a).2.1 ≠ (TX11 b).2.1 := by decide +kernel
theorem tyX11_ok : ∀ k, k < 31 → parseFieldDescriptor (TX11 k).2.2.1 = some (tyX11 k) := by decide +kernel
abbrev cX11_init : ByteArray := prog_13_method_1_code
def yX11_init : MethodName := ⟨RX11, "<init>", "()V"⟩
abbrev cX11_in : ByteArray := prog_13_method_3_code
def yX11_in : MethodName := ⟨RX11, "in", "(III)Z"⟩
abbrev cX11_up : ByteArray := prog_13_method_4_code
def yX11_up : MethodName := ⟨RX11, "up", "(II)I"⟩
abbrev cX11_of : ByteArray := prog_13_method_5_code
def yX11_of : MethodName := ⟨RX11, "of", "(II)I"⟩
abbrev cX11_lay : ByteArray := prog_13_method_6_code
def yX11_lay : MethodName := ⟨RX11, "lay", "(III)V"⟩
abbrev cX11_ofARecipe : ByteArray := prog_13_method_7_code
def yX11_ofARecipe : MethodName := ⟨RX11, "ofARecipe", "(II)I"⟩
abbrev cX11_ofStep : ByteArray := prog_13_method_8_code
def yX11_ofStep : MethodName := ⟨RX11, "ofStep", "(III)I"⟩
abbrev cX11_isIngredient : ByteArray := prog_13_method_9_code
def yX11_isIngredient : MethodName := ⟨RX11, "isIngredient", "(I)Z"⟩
abbrev cX11_isRecipe : ByteArray := prog_13_method_10_code
def yX11_isRecipe : MethodName := ⟨RX11, "isRecipe", "(I)Z"⟩
abbrev cX11_keep : ByteArray := prog_13_method_11_code
def yX11_keep : MethodName := ⟨RX11, "keep", "()V"⟩
abbrev cX11_ingredient : ByteArray := prog_13_method_12_code
def yX11_ingredient : MethodName := ⟨RX11, "ingredient", "(I)I"⟩
abbrev cX11_sizeOf : ByteArray := prog_13_method_13_code
def yX11_sizeOf : MethodName := ⟨RX11, "sizeOf", "(II)I"⟩
abbrev cX11_priceOf : ByteArray := prog_13_method_14_code
def yX11_priceOf : MethodName := ⟨RX11, "priceOf", "(II)I"⟩
abbrev cX11_tin : ByteArray := prog_13_method_15_code
def yX11_tin : MethodName := ⟨RX11, "tin", "(III)I"⟩
abbrev cX11_buyable : ByteArray := prog_13_method_16_code
def yX11_buyable : MethodName := ⟨RX11, "buyable", "(II)I"⟩
abbrev cX11_substitute : ByteArray := prog_13_method_17_code
def yX11_substitute : MethodName := ⟨RX11, "substitute", "(III)I"⟩
abbrev cX11_lotOn : ByteArray := prog_13_method_18_code
def yX11_lotOn : MethodName := ⟨RX11, "lotOn", "(II)I"⟩
abbrev cX11_layLot : ByteArray := prog_13_method_19_code
def yX11_layLot : MethodName := ⟨RX11, "layLot", "(III)V"⟩
abbrev cX11_pantry : ByteArray := prog_13_method_20_code
def yX11_pantry : MethodName := ⟨RX11, "pantry", "(I)I"⟩
abbrev cX11_lots : ByteArray := prog_13_method_21_code
def yX11_lots : MethodName := ⟨RX11, "lots", "(I)I"⟩
abbrev cX11_firstDay : ByteArray := prog_13_method_22_code
def yX11_firstDay : MethodName := ⟨RX11, "firstDay", "(I)I"⟩
abbrev cX11_putIn : ByteArray := prog_13_method_23_code
def yX11_putIn : MethodName := ⟨RX11, "putIn", "(II)V"⟩
abbrev cX11_takeOut : ByteArray := prog_13_method_24_code
def yX11_takeOut : MethodName := ⟨RX11, "takeOut", "(II)V"⟩
abbrev cX11_stock : ByteArray := prog_13_method_25_code
def yX11_stock : MethodName := ⟨RX11, "stock", "(II)I"⟩
abbrev cX11_pass : ByteArray := prog_13_method_26_code
def yX11_pass : MethodName := ⟨RX11, "pass", "(I)I"⟩
abbrev cX11_byRecipes : ByteArray := prog_13_method_27_code
def yX11_byRecipes : MethodName := ⟨RX11, "byRecipes", "(I)I"⟩
abbrev cX11_consider : ByteArray := prog_13_method_28_code
def yX11_consider : MethodName := ⟨RX11, "consider", "(IIII)V"⟩
abbrev cX11_stillNeeded : ByteArray := prog_13_method_29_code
def yX11_stillNeeded : MethodName := ⟨RX11, "stillNeeded", "(I)I"⟩
abbrev cX11_findTins : ByteArray := prog_13_method_30_code
def yX11_findTins : MethodName := ⟨RX11, "findTins", "(II)V"⟩
abbrev cX11_buy : ByteArray := prog_13_method_31_code
def yX11_buy : MethodName := ⟨RX11, "buy", "(II)V"⟩
abbrev cX11_clearNeeds : ByteArray := prog_13_method_32_code
def yX11_clearNeeds : MethodName := ⟨RX11, "clearNeeds", "()V"⟩
abbrev cX11_findNeeds : ByteArray := prog_13_method_33_code
def yX11_findNeeds : MethodName := ⟨RX11, "findNeeds", "()V"⟩
abbrev cX11_getRest : ByteArray := prog_13_method_34_code
def yX11_getRest : MethodName := ⟨RX11, "getRest", "(II)V"⟩
abbrev cX11_sumOf : ByteArray := prog_13_method_35_code
def yX11_sumOf : MethodName := ⟨RX11, "sumOf", "([I)I"⟩
abbrev cX11_missingSet : ByteArray := prog_13_method_36_code
def yX11_missingSet : MethodName := ⟨RX11, "missingSet", "()I"⟩
abbrev cX11_hasPortions : ByteArray := prog_13_method_37_code
def yX11_hasPortions : MethodName := ⟨RX11, "hasPortions", "()Z"⟩
abbrev cX11_canCook : ByteArray := prog_13_method_38_code
def yX11_canCook : MethodName := ⟨RX11, "canCook", "()Z"⟩
abbrev cX11_cook : ByteArray := prog_13_method_39_code
def yX11_cook : MethodName := ⟨RX11, "cook", "()I"⟩
abbrev cX11_lastsOf : ByteArray := prog_13_method_40_code
def yX11_lastsOf : MethodName := ⟨RX11, "lastsOf", "(III)I"⟩
abbrev cX11_isOn : ByteArray := prog_13_method_41_code
def yX11_isOn : MethodName := ⟨RX11, "isOn", "(I)Z"⟩
abbrev cX11_handsOf : ByteArray := prog_13_method_42_code
def yX11_handsOf : MethodName := ⟨RX11, "handsOf", "(I)I"⟩
abbrev cX11_aheadOf : ByteArray := prog_13_method_43_code
def yX11_aheadOf : MethodName := ⟨RX11, "aheadOf", "(I)I"⟩
abbrev cX11_findTails : ByteArray := prog_13_method_44_code
def yX11_findTails : MethodName := ⟨RX11, "findTails", "()V"⟩
abbrev cX11_hasEnded : ByteArray := prog_13_method_45_code
def yX11_hasEnded : MethodName := ⟨RX11, "hasEnded", "(II)Z"⟩
abbrev cX11_isReady : ByteArray := prog_13_method_46_code
def yX11_isReady : MethodName := ⟨RX11, "isReady", "(II)Z"⟩
abbrev cX11_freeAt : ByteArray := prog_13_method_47_code
def yX11_freeAt : MethodName := ⟨RX11, "freeAt", "(II)I"⟩
abbrev cX11_nextAt : ByteArray := prog_13_method_48_code
def yX11_nextAt : MethodName := ⟨RX11, "nextAt", "(II)I"⟩
abbrev cX11_nextEnd : ByteArray := prog_13_method_49_code
def yX11_nextEnd : MethodName := ⟨RX11, "nextEnd", "(I)I"⟩
abbrev cX11_findTimes : ByteArray := prog_13_method_50_code
def yX11_findTimes : MethodName := ⟨RX11, "findTimes", "(I)I"⟩
abbrev cX11_bound : ByteArray := prog_13_method_51_code
def yX11_bound : MethodName := ⟨RX11, "bound", "()I"⟩
abbrev cX11_next : ByteArray := prog_13_method_52_code
def yX11_next : MethodName := ⟨RX11, "next", "()I"⟩
abbrev cX11_takeNumber : ByteArray := prog_13_method_53_code
def yX11_takeNumber : MethodName := ⟨RX11, "takeNumber", "(I)I"⟩
abbrev cX11_takeAmount : ByteArray := prog_13_method_54_code
def yX11_takeAmount : MethodName := ⟨RX11, "takeAmount", "()V"⟩
abbrev cX11_takeDigit : ByteArray := prog_13_method_55_code
def yX11_takeDigit : MethodName := ⟨RX11, "takeDigit", "(II)I"⟩
abbrev cX11_takeStep : ByteArray := prog_13_method_56_code
def yX11_takeStep : MethodName := ⟨RX11, "takeStep", "()V"⟩
abbrev cX11_fault : ByteArray := prog_13_method_57_code
def yX11_fault : MethodName := ⟨RX11, "fault", "()I"⟩
abbrev cX11_recipe : ByteArray := prog_13_method_58_code
def yX11_recipe : MethodName := ⟨RX11, "recipe", "()I"⟩
abbrev cX11_amount : ByteArray := prog_13_method_59_code
def yX11_amount : MethodName := ⟨RX11, "amount", "(III)I"⟩
abbrev cX11_menu : ByteArray := prog_13_method_60_code
def yX11_menu : MethodName := ⟨RX11, "menu", "(II)I"⟩
abbrev cX11_hands : ByteArray := prog_13_method_61_code
def yX11_hands : MethodName := ⟨RX11, "hands", "(I)I"⟩
abbrev cX11_about : ByteArray := prog_13_method_62_code
def yX11_about : MethodName := ⟨RX11, "about", "(II)I"⟩
abbrev cX11_ofTin : ByteArray := prog_13_method_63_code
def yX11_ofTin : MethodName := ⟨RX11, "ofTin", "(III)I"⟩
abbrev cX11_needs : ByteArray := prog_13_method_64_code
def yX11_needs : MethodName := ⟨RX11, "needs", "(II)I"⟩
abbrev cX11_step : ByteArray := prog_13_method_65_code
def yX11_step : MethodName := ⟨RX11, "step", "(III)I"⟩
abbrev cX11_ofRecipe : ByteArray := prog_13_method_66_code
def yX11_ofRecipe : MethodName := ⟨RX11, "ofRecipe", "(II)I"⟩
abbrev cX11_ofPlan : ByteArray := prog_13_method_67_code
def yX11_ofPlan : MethodName := ⟨RX11, "ofPlan", "(I)I"⟩
abbrev cX11_count : ByteArray := prog_13_method_68_code
def yX11_count : MethodName := ⟨RX11, "count", "(I)I"⟩
abbrev cX11_bestPortions : ByteArray := prog_13_method_69_code
def yX11_bestPortions : MethodName := ⟨RX11, "bestPortions", "(III)I"⟩
abbrev cX11_fewestHands : ByteArray := prog_13_method_70_code
def yX11_fewestHands : MethodName := ⟨RX11, "fewestHands", "(I)I"⟩
abbrev cX11_ifBuyable : ByteArray := prog_13_method_71_code
def yX11_ifBuyable : MethodName := ⟨RX11, "ifBuyable", "(II)I"⟩
abbrev cX11_put : ByteArray := prog_13_method_72_code
def yX11_put : MethodName := ⟨RX11, "put", "(J)I"⟩
abbrev cX11_wipe : ByteArray := prog_13_method_73_code
def yX11_wipe : MethodName := ⟨RX11, "wipe", "()I"⟩
abbrev cX11_undo : ByteArray := prog_13_method_74_code
def yX11_undo : MethodName := ⟨RX11, "undo", "()I"⟩
abbrev cX11_save : ByteArray := prog_13_method_75_code
def yX11_save : MethodName := ⟨RX11, "save", "(I)I"⟩
abbrev cX11_restore : ByteArray := prog_13_method_76_code
def yX11_restore : MethodName := ⟨RX11, "restore", "(I)I"⟩
def RJ9 : String := "java/lang/Math"
def TJ9 : u_T := fun k => match k with
  | _ => ("", "", "", false)
def tyJ9 : Nat → FieldType := fun k => match k with
  | _ => .int
abbrev wsJ90 : List Cond := u_ws RJ9 TJ9 0
theorem nmJ9 : ∀ a, a < 0 → ∀ b, b < 0 → a ≠ b → (TJ9 a).2.1 ≠ (TJ9 b).2.1 := by decide +kernel
theorem tyJ9_ok : ∀ k, k < 0 → parseFieldDescriptor (TJ9 k).2.2.1 = some (tyJ9 k) := by decide +kernel
abbrev cJ9_floorMod_7cf53 : ByteArray := prog_14_method_50_code
def yJ9_floorMod_7cf53 : MethodName := ⟨RJ9, "floorMod", "(II)I"⟩
abbrev cJ9_max_7cf53 : ByteArray := prog_14_method_65_code
def yJ9_max_7cf53 : MethodName := ⟨RJ9, "max", "(II)I"⟩
abbrev cJ9_min_7cf53 : ByteArray := prog_14_method_69_code
def yJ9_min_7cf53 : MethodName := ⟨RJ9, "min", "(II)I"⟩
def RJ10 : String := "java/lang/System"
def TJ10 : u_T := fun k => match k with
  | _ => ("", "", "", false)
def tyJ10 : Nat → FieldType := fun k => match k with
  | _ => .int
abbrev wsJ100 : List Cond := u_ws RJ10 TJ10 0
theorem nmJ10 : ∀ a, a < 0 → ∀ b, b < 0 → a ≠ b → (TJ10 a).2.1 ≠ (TJ10 b).2.1 := by decide +kernel
theorem tyJ10_ok : ∀ k, k < 0 → parseFieldDescriptor (TJ10 k).2.2.1 = some (tyJ10 k) := by decide +kernel
def RL : String := "TinKitchenLaw"
abbrev cL_law : ByteArray := code
def yL_law : MethodName := ⟨RL, "law", "([I)Z"⟩
abbrev vwCl : List vw_C := [(RX0, TX0, 3), (RX1, TX1, 12), (RX2, TX2, 2), (RX3, TX3, 4), (RX4, TX4, 5), (RX5, TX5, 9), (RX6, TX6, 10), (RX7, TX7, 8), (RX8, TX8, 4), (RX9, TX9, 10), (RX10, TX10, 8), (RX11, TX11, 31)]
end
section
/-! THE PICTURE OF THE HEAP: every cell that the kitchen and its model have, by a tag and two numbers (tag, s, i). s: which state (0 now, 1 to 6 history, 7 and 8 slots; 9 the reader's recipe). Written by wip/whole/gen/tables.py. -/
abbrev zO : Type := Nat × Int × Int
abbrev tKIT : Nat := 0
abbrev tHIS : Nat := 1
abbrev tSTA : Nat := 2
abbrev tING : Nat := 3
abbrev tREC : Nat := 4
abbrev tSTP : Nat := 5
abbrev tPAD : Nat := 6
abbrev tREA : Nat := 7
abbrev tSHO : Nat := 8
abbrev tSEA : Nat := 9
abbrev tSCH : Nat := 10
abbrev tMOD : Nat := 11
abbrev tSIZ : Nat := 12
abbrev tPRI : Nat := 13
abbrev tLOT : Nat := 14
abbrev tLAR : Nat := 15
abbrev tBOK : Nat := 16
abbrev tAMT : Nat := 17
abbrev tSTS : Nat := 18
abbrev tHST : Nat := 19
abbrev tSLT : Nat := 20
abbrev tISV : Nat := 21
abbrev tTXT : Nat := 22
abbrev tSNEE : Nat := 23
abbrev tSRPG : Nat := 24
abbrev tSFRO : Nat := 25
abbrev tSBOU : Nat := 26
abbrev tSLEF : Nat := 27
abbrev tSRPD : Nat := 28
abbrev tSMIS : Nat := 29
abbrev tSPRC : Nat := 30
abbrev tTNS : Nat := 31
abbrev tTNR : Nat := 32
abbrev tQBES : Nat := 33
abbrev tQTRI : Nat := 34
abbrev tQRAN : Nat := 35
abbrev tQSZE : Nat := 36
abbrev tQPRX : Nat := 37
abbrev tQMOS : Nat := 38
abbrev tCTAI : Nat := 39
abbrev tCBEG : Nat := 40
abbrev tCDUR : Nat := 41
abbrev tCNHA : Nat := 42
abbrev tCBEF : Nat := 43
abbrev tCORD : Nat := 44
abbrev tMat : Nat := 45
abbrev tMpast : Nat := 46
abbrev tMslots : Nat := 47
abbrev tMisSaved : Nat := 48
abbrev tMpad : Nat := 49
abbrev tMneeded : Nat := 50
abbrev tMreplaces : Nat := 51
abbrev tMtaken : Nat := 52
abbrev tMbought : Nat := 53
abbrev tMover : Nat := 54
abbrev tMreplaced : Nat := 55
abbrev tMmissing : Nat := 56
abbrev tMprice : Nat := 57
abbrev tMtins : Nat := 58
abbrev tMlasts : Nat := 59
abbrev tMtails : Nat := 60
abbrev tMbegins : Nat := 61
abbrev tMreadAmount : Nat := 62
abbrev tMreadStep : Nat := 63
/-- a tag of objects: its class, by its place in vwCl -/
def zTO : Nat → Option Nat := fun t => match t with
  | 0 => some 10
  | 1 => some 0
  | 2 => some 7
  | 3 => some 1
  | 4 => some 4
  | 5 => some 8
  | 6 => some 2
  | 7 => some 3
  | 8 => some 6
  | 9 => some 9
  | 10 => some 5
  | 11 => some 11
  | _ => none
/-- a tag of arrays: its type, its length -/
def zTA : Nat → Option (Nat × Nat) := fun t => match t with
  | 12 => some (0, 3)
  | 13 => some (0, 3)
  | 14 => some (0, 30)
  | 15 => some (4, 8)
  | 16 => some (5, 4)
  | 17 => some (0, 8)
  | 18 => some (6, 8)
  | 19 => some (3, 6)
  | 20 => some (3, 2)
  | 21 => some (1, 2)
  | 22 => some (2, 80)
  | 23 => some (0, 8)
  | 24 => some (0, 8)
  | 25 => some (0, 8)
  | 26 => some (0, 8)
  | 27 => some (0, 8)
  | 28 => some (0, 8)
  | 29 => some (0, 8)
  | 30 => some (0, 8)
  | 31 => some (7, 8)
  | 32 => some (0, 3)
  | 33 => some (0, 3)
  | 34 => some (0, 3)
  | 35 => some (0, 3)
  | 36 => some (0, 3)
  | 37 => some (0, 3)
  | 38 => some (0, 3)
  | 39 => some (0, 32)
  | 40 => some (0, 32)
  | 41 => some (0, 32)
  | 42 => some (0, 32)
  | 43 => some (0, 32)
  | 44 => some (0, 32)
  | 45 => some (0, 546)
  | 46 => some (0, 3276)
  | 47 => some (0, 1092)
  | 48 => some (1, 2)
  | 49 => some (0, 80)
  | 50 => some (0, 8)
  | 51 => some (0, 8)
  | 52 => some (0, 8)
  | 53 => some (0, 8)
  | 54 => some (0, 8)
  | 55 => some (0, 8)
  | 56 => some (0, 8)
  | 57 => some (0, 8)
  | 58 => some (0, 24)
  | 59 => some (0, 32)
  | 60 => some (0, 32)
  | 61 => some (0, 32)
  | 62 => some (0, 8)
  | 63 => some (0, 32)
  | _ => none
def zTY : List FieldType := [.int, .boolean, .char, .object "TinKitchen$State", .object "TinKitchen$Ingredient", .object "TinKitchen$Recipe", .object "TinKitchen$Step", .array .int]
def zTR : Nat → Bool := fun t => match t with
  | 0 => false
  | 1 => false
  | 2 => false
  | 3 => true
  | 4 => true
  | 5 => true
  | 6 => true
  | 7 => true
  | _ => false
def zNF : Nat → Nat := fun c => match c with
  | 0 => 3
  | 1 => 12
  | 2 => 2
  | 3 => 4
  | 4 => 5
  | 5 => 9
  | 6 => 10
  | 7 => 8
  | 8 => 4
  | 9 => 10
  | 10 => 8
  | 11 => 31
  | _ => 0
/-- a field that refers -/
def zFR : Nat → Nat → Bool := fun c k => match c, k with
  | 0, 2 => true
  | 1, 3 => true
  | 1, 4 => true
  | 1, 7 => true
  | 2, 1 => true
  | 3, 0 => true
  | 3, 1 => true
  | 4, 3 => true
  | 4, 4 => true
  | 5, 0 => true
  | 5, 1 => true
  | 5, 3 => true
  | 5, 4 => true
  | 5, 5 => true
  | 5, 6 => true
  | 6, 0 => true
  | 6, 1 => true
  | 6, 2 => true
  | 6, 3 => true
  | 6, 4 => true
  | 6, 5 => true
  | 6, 6 => true
  | 6, 7 => true
  | 6, 8 => true
  | 6, 9 => true
  | 7, 6 => true
  | 7, 7 => true
  | 9, 2 => true
  | 9, 5 => true
  | 9, 6 => true
  | 9, 7 => true
  | 9, 8 => true
  | 9, 9 => true
  | 10, 0 => true
  | 10, 1 => true
  | 10, 2 => true
  | 10, 3 => true
  | 10, 4 => true
  | 10, 5 => true
  | 10, 6 => true
  | 10, 7 => true
  | 11, 0 => true
  | 11, 1 => true
  | 11, 3 => true
  | 11, 4 => true
  | 11, 5 => true
  | 11, 7 => true
  | 11, 8 => true
  | 11, 9 => true
  | 11, 10 => true
  | 11, 11 => true
  | 11, 12 => true
  | 11, 13 => true
  | 11, 14 => true
  | 11, 15 => true
  | 11, 19 => true
  | 11, 20 => true
  | 11, 21 => true
  | 11, 28 => true
  | 11, 29 => true
  | _, _ => false
def zFref : Nat → Int → Int → Nat → zO := fun t s i k => match t, k with
  | 0, 0 => (2, 0, 0)
  | 0, 1 => (1, 0, 0)
  | 0, 2 => (20, 0, 0)
  | 0, 3 => (21, 0, 0)
  | 0, 4 => (6, 0, 0)
  | 0, 5 => (7, 0, 0)
  | 0, 6 => (8, 0, 0)
  | 0, 7 => (10, 0, 0)
  | 1, 2 => (19, 0, 0)
  | 2, 6 => (15, s, 0)
  | 2, 7 => (16, s, 0)
  | 3, 3 => (12, s, i)
  | 3, 4 => (13, s, i)
  | 3, 7 => (14, s, i)
  | 4, 3 => (17, s, i)
  | 4, 4 => (18, s, i)
  | 6, 1 => (22, 0, 0)
  | 7, 0 => (4, 9, 0)
  | 7, 1 => (6, 0, 0)
  | 8, 0 => (23, 0, 0)
  | 8, 1 => (24, 0, 0)
  | 8, 2 => (25, 0, 0)
  | 8, 3 => (26, 0, 0)
  | 8, 4 => (27, 0, 0)
  | 8, 5 => (28, 0, 0)
  | 8, 6 => (29, 0, 0)
  | 8, 7 => (30, 0, 0)
  | 8, 8 => (31, 0, 0)
  | 8, 9 => (9, 0, 0)
  | 9, 2 => (33, 0, 0)
  | 9, 5 => (34, 0, 0)
  | 9, 6 => (35, 0, 0)
  | 9, 7 => (36, 0, 0)
  | 9, 8 => (37, 0, 0)
  | 9, 9 => (38, 0, 0)
  | 10, 0 => (39, 0, 0)
  | 10, 1 => (40, 0, 0)
  | 10, 3 => (41, 0, 0)
  | 10, 4 => (42, 0, 0)
  | 10, 5 => (43, 0, 0)
  | 10, 6 => (44, 0, 0)
  | 11, 0 => (45, 0, 0)
  | 11, 1 => (46, 0, 0)
  | 11, 3 => (47, 0, 0)
  | 11, 4 => (48, 0, 0)
  | 11, 5 => (49, 0, 0)
  | 11, 7 => (50, 0, 0)
  | 11, 8 => (51, 0, 0)
  | 11, 9 => (52, 0, 0)
  | 11, 10 => (53, 0, 0)
  | 11, 11 => (54, 0, 0)
  | 11, 12 => (55, 0, 0)
  | 11, 13 => (56, 0, 0)
  | 11, 14 => (57, 0, 0)
  | 11, 15 => (58, 0, 0)
  | 11, 19 => (59, 0, 0)
  | 11, 20 => (60, 0, 0)
  | 11, 21 => (61, 0, 0)
  | 11, 28 => (62, 0, 0)
  | 11, 29 => (63, 0, 0)
  | _, _ => (0, s, i)
def zAref : Nat → Int → Int → Int → zO := fun t s i j => match t with
  | 15 => (3, s, j)
  | 16 => (4, s, j)
  | 18 => (5, s, 8 * i + j)
  | 19 => (2, 1 + j, 0)
  | 20 => (2, 7 + j, 0)
  | 31 => (32, 0, j)
  | _ => (0, s, i)
/-- tag, first s, how many s, how many i -/
def zDIM : List (Nat × Nat × Nat × Nat) := [(0, 0, 1, 1), (1, 0, 1, 1), (2, 0, 9, 1), (3, 0, 9, 8), (4, 0, 9, 4), (4, 9, 1, 1), (5, 0, 9, 32), (5, 9, 1, 8), (6, 0, 1, 1), (7, 0, 1, 1), (8, 0, 1, 1), (9, 0, 1, 1), (10, 0, 1, 1), (11, 0, 1, 1), (12, 0, 9, 8), (13, 0, 9, 8), (14, 0, 9, 8), (15, 0, 9, 1), (16, 0, 9, 1), (17, 0, 9, 4), (17, 9, 1, 1), (18, 0, 9, 4), (18, 9, 1, 1), (19, 0, 1, 1), (20, 0, 1, 1), (21, 0, 1, 1), (22, 0, 1, 1), (23, 0, 1, 1), (24, 0, 1, 1), (25, 0, 1, 1), (26, 0, 1, 1), (27, 0, 1, 1), (28, 0, 1, 1), (29, 0, 1, 1), (30, 0, 1, 1), (31, 0, 1, 1), (32, 0, 1, 8), (33, 0, 1, 1), (34, 0, 1, 1), (35, 0, 1, 1), (36, 0, 1, 1), (37, 0, 1, 1), (38, 0, 1, 1), (39, 0, 1, 1), (40, 0, 1, 1), (41, 0, 1, 1), (42, 0, 1, 1), (43, 0, 1, 1), (44, 0, 1, 1), (45, 0, 1, 1), (46, 0, 1, 1), (47, 0, 1, 1), (48, 0, 1, 1), (49, 0, 1, 1), (50, 0, 1, 1), (51, 0, 1, 1), (52, 0, 1, 1), (53, 0, 1, 1), (54, 0, 1, 1), (55, 0, 1, 1), (56, 0, 1, 1), (57, 0, 1, 1), (58, 0, 1, 1), (59, 0, 1, 1), (60, 0, 1, 1), (61, 0, 1, 1), (62, 0, 1, 1), (63, 0, 1, 1)]
end
section
/-! NUMBERS: an int of the machine is an Int within its range -/
def zin (x : Int) : Prop := -2147483648 ≤ x ∧ x < 2147483648
theorem zti {x : Int} (h : zin x) : (Int32.ofInt x).toInt = x := Int32.toInt_ofInt_of_le (by have := h.1; omega) (by have := h.2; omega)
theorem zinT (v : Int32) : zin v.toInt := ⟨by have := v.le_toInt; omega, by have := v.toInt_lt; omega⟩
theorem zcl {x : Int} (h : zin x) : (Int32.ofInt x).toNatClampNeg = x.toNat := by rw [← Int32.toNat_toInt, zti h]
theorem zadd (x y : Int) : Int32.ofInt x + Int32.ofInt y = Int32.ofInt (x + y) := Int32.toInt_inj.mp (by simp [Int32.toInt_add])
theorem zsub (x y : Int) : Int32.ofInt x - Int32.ofInt y = Int32.ofInt (x - y) := Int32.toInt_inj.mp (by simp [Int32.toInt_sub])
theorem zmul (x y : Int) : Int32.ofInt x * Int32.ofInt y = Int32.ofInt (x * y) := Int32.toInt_inj.mp (by simp [Int32.toInt_mul])
theorem zlt {x y : Int} (hx : zin x) (hy : zin y) : Int32.ofInt x < Int32.ofInt y ↔ x < y := by rw [Int32.lt_iff_toInt_lt, zti hx, zti hy]
theorem zle {x y : Int} (hx : zin x) (hy : zin y) : Int32.ofInt x ≤ Int32.ofInt y ↔ x ≤ y := by rw [Int32.le_iff_toInt_le, zti hx, zti hy]
theorem zeq {x y : Int} (hx : zin x) (hy : zin y) : Int32.ofInt x = Int32.ofInt y ↔ x = y := by rw [← Int32.toInt_inj, zti hx, zti hy]
theorem z0in : zin 0 := ⟨by decide, by decide⟩
theorem z00 : Int32.ofInt 0 = 0 := rfl
theorem zdiv {x y : Int} (hx : zin x) (hy : zin y) (h0 : 0 ≤ x) (h1 : 0 < y) : Int32.ofInt x / Int32.ofInt y = Int32.ofInt (x / y) := by
  have hq : zin (x / y) := ⟨by have := Int.ediv_nonneg h0 (Int.le_of_lt h1); omega, by have := Int.ediv_le_self y h0; have := hx.2; omega⟩
  apply Int32.toInt_inj.mp
  rw [Int32.toInt_div, zti hx, zti hy, zti hq, Int.tdiv_eq_ediv_of_nonneg h0]
  exact Int.bmod_eq_of_le (by have := hq.1; omega) (by have := hq.2; omega)
theorem zmodin {x y : Int} (hy : zin y) (h1 : 0 < y) : zin (x % y) := ⟨by have := Int.emod_nonneg x (Int.ne_of_gt h1); omega, by have := Int.emod_lt_of_pos x h1; have := hy.2; omega⟩
theorem zrem {x y : Int} (hx : zin x) (hy : zin y) (h0 : 0 ≤ x) (h1 : 0 < y) : Int32.ofInt x - Int32.ofInt x / Int32.ofInt y * Int32.ofInt y = Int32.ofInt (x % y) := by
  rw [zdiv hx hy h0 h1, zmul, zsub]
  congr 1
  have := Int.emod_add_mul_ediv x y
  rw [Int.mul_comm] at this
  omega
def zwr (x : Int) : Int := (Int32.ofInt x).toInt
theorem zwr_eq {x : Int} (h : zin x) : zwr x = x := zti h
def zand (x y : Int) : Int := (Int32.ofInt x &&& Int32.ofInt y).toInt
def zor (x y : Int) : Int := (Int32.ofInt x ||| Int32.ofInt y).toInt
def zxor (x y : Int) : Int := (Int32.ofInt x ^^^ Int32.ofInt y).toInt
def zshl (x y : Int) : Int := (Int32.ofInt x <<< (Int32.ofInt y &&& 31)).toInt
def zshr (x y : Int) : Int := (Int32.ofInt x >>> (Int32.ofInt y &&& 31)).toInt
/-! CELLS -/
abbrev zV : Type := Int ⊕ Int64 ⊕ zO
abbrev zM : Type := Nat → Int → Int → Int → Int
abbrev zL : Type := List (Option zV)
abbrev zi (x : Int) : zV := Sum.inl x
abbrev zl (x : Int64) : zV := Sum.inr (Sum.inl x)
abbrev zr (t : Nat) (s i : Int) : zV := Sum.inr (Sum.inr (t, s, i))
/-- the machine's classes, the cells' addresses, the arrays' classes -/
abbrev zG : Type := va_G × (zO → Nat) × (Nat → ClassId)
def zup (g : zG) : zV → Value
  | .inl x => .int (Int32.ofInt x)
  | .inr (.inl x) => .long x
  | .inr (.inr o) => .ref (g.2.1 o)
def zOs : List zO := zDIM.flatMap fun d => (List.range d.2.2.1).flatMap fun (a : Nat) => (List.range d.2.2.2).map fun (b : Nat) => (d.1, ((d.2.1 + a : Nat) : Int), (b : Int))
theorem zmem {t : Nat} {s i : Int} (d : Nat × Nat × Nat × Nat) (hd : d ∈ zDIM) (ht : d.1 = t) (h1 : (d.2.1 : Int) ≤ s) (h2 : s < (d.2.1 : Int) + d.2.2.1) (h3 : 0 ≤ i) (h4 : i < d.2.2.2) : (t, s, i) ∈ zOs := by
  refine List.mem_flatMap.mpr ⟨d, hd, List.mem_flatMap.mpr ⟨(s - d.2.1).toNat, List.mem_range.mpr (by omega), List.mem_map.mpr ⟨i.toNat, List.mem_range.mpr (by omega), ?_⟩⟩⟩
  have e1 : ((d.2.1 + (s - (d.2.1 : Int)).toNat : Nat) : Int) = s := by omega
  have e2 : ((i.toNat : Nat) : Int) = i := by omega
  rw [e1, e2, ht]
theorem zmem_of {o : zO} (h : o ∈ zOs) : ∃ d ∈ zDIM, d.1 = o.1 ∧ (d.2.1 : Int) ≤ o.2.1 ∧ o.2.1 < (d.2.1 : Int) + d.2.2.1 ∧ 0 ≤ o.2.2 ∧ o.2.2 < d.2.2.2 := by
  obtain ⟨d, hd, h⟩ := List.mem_flatMap.mp h
  obtain ⟨a, ha, h⟩ := List.mem_flatMap.mp h
  obtain ⟨b, hb, h⟩ := List.mem_map.mp h
  have ha := List.mem_range.mp ha
  have hb := List.mem_range.mp hb
  subst h
  exact ⟨d, hd, rfl, by simp; omega, by simp; omega, by simp, by simp; omega⟩
theorem zDIM_apart : zDIM.Pairwise (fun d d' => d.1 ≠ d'.1 ∨ d.2.1 + d.2.2.1 ≤ d'.2.1) := by decide +kernel
theorem zOs_nd : zOs.Nodup := by
  refine List.pairwise_flatMap.mpr ⟨fun d _ => List.pairwise_flatMap.mpr ⟨fun a _ => List.pairwise_map.mpr ?_, ?_⟩, ?_⟩
  · exact List.Pairwise.imp (fun {x y} h e => by simp at e; omega) List.pairwise_lt_range
  · refine List.Pairwise.imp (fun {a b} h x hx y hy e => ?_) List.pairwise_lt_range
    obtain ⟨u, -, rfl⟩ := List.mem_map.mp hx
    obtain ⟨v, -, rfl⟩ := List.mem_map.mp hy
    simp at e
    omega
  · refine List.Pairwise.imp (fun {d d'} h x hx y hy e => ?_) zDIM_apart
    obtain ⟨a, ha, hx⟩ := List.mem_flatMap.mp hx
    obtain ⟨b, hb, hx⟩ := List.mem_map.mp hx
    obtain ⟨a', ha', hy⟩ := List.mem_flatMap.mp hy
    obtain ⟨b', hb', hy⟩ := List.mem_map.mp hy
    have ha := List.mem_range.mp ha
    subst hx
    subst hy
    simp at e
    omega
def zfv (g : zG) (mem : zM) (t : Nat) (s i : Int) (c k : Nat) : Value := if zFR c k = true then .ref (g.2.1 (zFref t s i k)) else .int (Int32.ofInt (mem t s i k))
def zent (g : zG) (mem : zM) (o : zO) : va_E := match zTO o.1 with
  | some c => .inr (c, (List.range (zNF c)).map fun k => zfv g mem o.1 o.2.1 o.2.2 c k)
  | none => match zTA o.1 with
    | some q => .inl (g.2.2 q.1, q.2, if zTR q.1 = true then .inr (.inr (.inr (.inr (fun j => if j < q.2 then some (g.2.1 (zAref o.1 o.2.1 o.2.2 j)) else none)))) else .inl (fun j => Int32.ofInt (mem o.1 o.2.1 o.2.2 j)))
    | none => .inr (0, [])
def zWS (g : zG) (mem : zM) : va_W := zOs.map fun o => (g.2.1 o, zent g mem o)
def zset (mem : zM) (t : Nat) (s i k v : Int) : zM := fun t' s' i' k' => if t' = t ∧ s' = s ∧ i' = i ∧ k' = k then v else mem t' s' i' k'
def zokM (mem : zM) : Prop := ∀ t s i k, zin (mem t s i k)
def zokV : zV → Prop
  | .inl x => zin x
  | .inr (.inl _) => True
  | .inr (.inr o) => o ∈ zOs
def zokL (ls : zL) : Prop := ∀ v, some v ∈ ls → zokV v
def zokS (st : List zV) : Prop := ∀ v ∈ st, zokV v
theorem zokM_set {mem : zM} (h : zokM mem) {v : Int} (hv : zin v) (t : Nat) (s i k : Int) : zokM (zset mem t s i k v) := by
  intro t' s' i' k'
  unfold zset
  split
  · exact hv
  · exact h _ _ _ _
theorem zokS_cons {v : zV} {st : List zV} : zokS (v :: st) ↔ zokV v ∧ zokS st := by simp [zokS]
theorem zokS_nil : zokS [] := fun v h => by cases h
def zGok (g : zG) : Prop := ∀ o ∈ zOs, ∀ o' ∈ zOs, g.2.1 o = g.2.1 o' → o = o'
def zA (g : zG) : Nat → Prop := fun q => ∃ o ∈ zOs, q = g.2.1 o
def zTYS (g : zG) : List (ClassId × FieldType) := (List.range 8).map fun k => (g.2.2 k, zTY.getD k .int)
theorem zplace {o : zO} (h : o ∈ zOs) (g : zG) (mem : zM) : ∃ q0 : Nat, zOs[q0]? = some o ∧ (zWS g mem)[q0]? = some (g.2.1 o, zent g mem o) := by
  obtain ⟨q, hq⟩ := List.getElem?_of_mem h
  exact ⟨q, hq, by simp [zWS, hq]⟩
theorem zDw {g : zG} (hg : zGok g) (mem : zM) : va_D (zA g) (zWS g mem) := by
  have key : ∀ (k : Nat) (q : Nat × va_E), (zWS g mem)[k]? = some q → ∃ o, zOs[k]? = some o ∧ q.1 = g.2.1 o := by
    intro k q h
    unfold zWS at h
    rw [List.getElem?_map] at h
    cases ho : zOs[k]? with
    | none => rw [ho] at h; cases h
    | some o => rw [ho] at h; cases h; exact ⟨o, rfl, rfl⟩
  refine ⟨fun i j p q hi hj hpq => ?_, fun k q hk => ?_⟩
  · obtain ⟨o, h1, h2⟩ := key i p hi
    obtain ⟨o', h3, h4⟩ := key j q hj
    have e : o = o' := hg o (List.mem_of_getElem? h1) o' (List.mem_of_getElem? h3) (by rw [← h2, ← h4, hpq])
    subst e
    exact (List.getElem?_inj (List.getElem?_eq_some_iff.mp h1).1 zOs_nd).mp (h1.trans h3.symm)
  · obtain ⟨o, h1, h2⟩ := key k q hk
    exact ⟨o, List.mem_of_getElem? h1, h2⟩
theorem zWS_set {g : zG} {mem mem' : zM} {o : zO} {q0 : Nat} (hq : zOs[q0]? = some o) {e : va_E} (he : zent g mem' o = e) (hne : ∀ o', o' ≠ o → zent g mem' o' = zent g mem o') : (zWS g mem).set q0 (g.2.1 o, e) = zWS g mem' := by
  apply List.ext_getElem?
  intro k
  have hl := (List.getElem?_eq_some_iff.mp hq).1
  by_cases hk : k = q0
  · subst hk
    rw [List.getElem?_set_self (by simp [zWS]; exact hl)]
    simp [zWS, hq, he]
  · rw [List.getElem?_set_ne (Ne.symm hk)]
    unfold zWS
    rw [List.getElem?_map, List.getElem?_map]
    cases ho : zOs[k]? with
    | none => rfl
    | some o' =>
      have hne' : o' ≠ o := fun z => hk ((List.getElem?_inj (List.getElem?_eq_some_iff.mp ho).1 zOs_nd).mp (by rw [ho, hq, z]))
      simp [hne o' hne']
/-- writing one slot of a cell leaves the others as they were -/
theorem zent_ne {g : zG} {mem : zM} {t : Nat} {s i k v : Int} {o' : zO} (h : o' ≠ (t, s, i)) : zent g (zset mem t s i k v) o' = zent g mem o' := by
  obtain ⟨t', s', i'⟩ := o'
  have hc : ∀ k' : Int, zset mem t s i k v t' s' i' k' = mem t' s' i' k' := by
    intro k'
    unfold zset
    rw [if_neg]
    rintro ⟨h1, h2, h3, -⟩
    exact h (by rw [h1, h2, h3])
  simp only [zent, zfv, hc]
/-! WORDS -/
def zW : List Cond := lw_tbl.filter goodWord
theorem zW_in {w : Cond} (h : w ∈ lw_tbl) (hg : goodWord w = true) : w ∈ zW := List.mem_filter.mpr ⟨h, hg⟩
theorem zW_tbl {w : Cond} (h : w ∈ zW) : w ∈ lw_tbl := (List.mem_filter.mp h).1
theorem zW_good : zW.all goodWord = true := List.all_eq_true.mpr fun _ h => (List.mem_filter.mp h).2
/-- links to a nest mate's private static method -/
def zNL : List (String × Nat × MethodName × String) := [(RX4, 48, yX10_roundedUp, RX10), (RX9, 78, yX10_roundedUp, RX10), (RX6, 120, yX10_roundedUp, RX10), (RX5, 108, yX10_roundedUp, RX10)]
def zNW : List Cond := zNL.map fun q => .methodLinkNest q.1 q.2.1 q.2.2.1 q.2.2.2
def zPW (g : zG) (mem : zM) (U : State) : Prop := va_P g.1 vwCl (zWS g mem) U.heap ∧ va_K g.1 vwCl (zTYS g) U ∧ ∀ w ∈ zNW, va_Nw w U
/-- a method: its name, code, locals, result, and how deep its calls go -/
abbrev zY : Type := MethodName × ByteArray × Nat × Option FieldType × Nat
def zYw (y : zY) : List Cond := .code y.1 y.2.1 y.2.2.1 y.2.2.2.1 :: zW
def zRoom (h : Nat) : Room := { frames := h, cells := 0, slots := 0, locals := 38 * h }
def zokR : Option zV → Prop
  | none => True
  | some v => zokV v
def zQc (g : zG) (Rt : Option zV → zM → Prop) : Array Value → State → Outcome → State → Prop := fun _ st oc t => (∃ (v : Option zV) (m' : zM), oc = .returned (v.map (zup g)) ∧ Rt v m' ∧ zPW g m' t ∧ zokM m' ∧ zokR v) ∧ va_F (zA g) st t
/-- THE CONTRACT of a method on these arguments and this memory: it ends, with an answer and a memory of Rt -/
def zMet (l : Launch) (g : zG) (y : zY) (av : List zV) (mem : zM) (Rt : Option zV → zM → Prop) : Prop :=
  zGok g → zokM mem → zokS av → Met l y.1 (zYw y) (zRoom y.2.2.2.2) (va_Pc (av.map (zup g)) (fun U => zPW g mem U)) (zQc g Rt) 0 0 (zA g)
/-! LOCALS -/
def zclr : zL → Nat → zL
  | [], _ => []
  | x :: r, 0 => x :: r
  | some (.inr (.inl _)) :: r, 1 => none :: r
  | x :: r, 1 => x :: r
  | x :: r, n + 2 => x :: zclr r (n + 1)
def zst1 (ls : zL) (k : Nat) (v : zV) : zL := (zclr ls k).set k (some v)
def zst2 (ls : zL) (k : Nat) (v : zV) : zL := ((zclr ls k).set k (some v)).set (k + 1) none
def zlr (g : zG) (n : Nat) (ls : zL) (lsA : Array Slot) : Prop := lsA.size = n ∧ lv_wf lsA ∧ ∀ (k : Nat) (v : zV), ls[k]? = some (some v) → lsA[k]? = some (.val (zup g v))
theorem zclr_at : ∀ (ls : zL) (n j : Nat) (v : zV), (zclr ls n)[j]? = some (some v) → ls[j]? = some (some v) ∧ ¬ (j + 1 = n ∧ ∃ x, v = .inr (.inl x))
  | [], n, j, v, h => by simp [zclr] at h
  | x :: r, 0, j, v, h => ⟨by simpa [zclr] using h, fun q => by omega⟩
  | none :: r, 1, j, v, h => by
    cases j with
    | zero => simp [zclr] at h
    | succ j => exact ⟨by simpa [zclr] using h, fun q => by omega⟩
  | some (.inl y) :: r, 1, j, v, h => by
    cases j with
    | zero =>
      simp [zclr] at h
      subst h
      exact ⟨by simp, fun q => by obtain ⟨-, x, hx⟩ := q; cases hx⟩
    | succ j => exact ⟨by simpa [zclr] using h, fun q => by omega⟩
  | some (.inr (.inl y)) :: r, 1, j, v, h => by
    cases j with
    | zero => simp [zclr] at h
    | succ j => exact ⟨by simpa [zclr] using h, fun q => by omega⟩
  | some (.inr (.inr y)) :: r, 1, j, v, h => by
    cases j with
    | zero =>
      simp [zclr] at h
      subst h
      exact ⟨by simp, fun q => by obtain ⟨-, x, hx⟩ := q; cases hx⟩
    | succ j => exact ⟨by simpa [zclr] using h, fun q => by omega⟩
  | x :: r, n + 2, 0, v, h => ⟨by simpa [zclr] using h, fun q => by omega⟩
  | x :: r, n + 2, j + 1, v, h => by
    have h' : (zclr r (n + 1))[j]? = some (some v) := by simpa [zclr] using h
    obtain ⟨h1, h2⟩ := zclr_at r (n + 1) j v h'
    exact ⟨by simpa using h1, fun q => h2 ⟨by omega, q.2⟩⟩
theorem zup_cat {g : zG} {v : zV} : (zup g v).category = 2 ↔ ∃ x, v = .inr (.inl x) := by
  rcases v with x | x | x <;> simp [zup, Value.category]
/-- the locals as the kit lists them -/
def zlist (g : zG) (ls : zL) : List (Nat × Value) := ls.zipIdx.filterMap fun q => q.1.map fun v => (q.2, zup g v)
theorem zlist_mem {g : zG} {ls : zL} {k : Nat} {w : Value} : (k, w) ∈ zlist g ls ↔ ∃ v, ls[k]? = some (some v) ∧ w = zup g v := by
  unfold zlist
  rw [List.mem_filterMap]
  constructor
  · rintro ⟨⟨o, j⟩, hm, h⟩
    cases o with
    | none => simp at h
    | some v =>
      simp at h
      have := List.mk_mem_zipIdx_iff_getElem?.mp hm
      obtain ⟨h1, h2⟩ := h
      subst h1
      exact ⟨v, this, h2.symm⟩
  · rintro ⟨v, h1, h2⟩
    exact ⟨(some v, k), List.mk_mem_zipIdx_iff_getElem?.mpr h1, by simp [h2]⟩
theorem zlr_has {g : zG} {n : Nat} {ls : zL} {lsA : Array Slot} (h : zlr g n ls lsA) : lv_has lsA n (zlist g ls) := by
  refine ⟨h.1, h.2.1, fun q hq => ?_⟩
  obtain ⟨k, w⟩ := q
  obtain ⟨v, h1, h2⟩ := zlist_mem.mp hq
  rw [h2]
  exact h.2.2 k v h1
theorem zst1_at {ls : zL} {k j : Nat} {v w : zV} (h : (zst1 ls k v)[j]? = some (some w)) : (j = k ∧ w = v) ∨ (j ≠ k ∧ ls[j]? = some (some w) ∧ ¬ (j + 1 = k ∧ ∃ x, w = .inr (.inl x))) := by
  unfold zst1 at h
  by_cases hj : j = k
  · subst hj
    by_cases hl : j < (zclr ls j).length
    · rw [List.getElem?_set_self hl] at h
      left
      exact ⟨rfl, by cases h; rfl⟩
    · rw [List.getElem?_eq_none (by simp; omega)] at h
      cases h
  · rw [List.getElem?_set_ne (Ne.symm hj)] at h
    exact Or.inr ⟨hj, zclr_at ls k j w h⟩
theorem zlr_st1 {g : zG} {n : Nat} {ls : zL} {lsA : Array Slot} {k : Nat} {v : zV} (ls' : Array Slot) (h : lv_has ls' n ((k, zup g v) :: (zlist g ls).filter (fun q => !(q.1 == k) && !(q.1 + 1 == k && q.2.category == 2)))) : zlr g n (zst1 ls k v) ls' := by
  refine ⟨h.1, h.2.1, fun j w hj => ?_⟩
  rcases zst1_at hj with ⟨e1, e2⟩ | ⟨e1, e2, e3⟩
  · rw [e1, e2]
    exact h.2.2 _ List.mem_cons_self
  · refine h.2.2 (j, zup g w) (List.mem_cons_of_mem _ (List.mem_filter.mpr ⟨zlist_mem.mpr ⟨w, e2, rfl⟩, ?_⟩))
    have hc : ¬ (j + 1 = k ∧ (zup g w).category = 2) := fun q => e3 ⟨q.1, zup_cat.mp q.2⟩
    simp [e1]
    rcases Classical.em (j + 1 = k) with q | q
    · exact Or.inr fun z => hc ⟨q, z⟩
    · exact Or.inl q
theorem zlr_st2 {g : zG} {n : Nat} {ls : zL} {lsA : Array Slot} {k : Nat} {v : zV} (ls' : Array Slot) (h : lv_has ls' n ((k, zup g v) :: (zlist g ls).filter (fun q => !(q.1 == k) && (!(q.1 == k + 1) && !(q.1 + 1 == k && q.2.category == 2))))) : zlr g n (zst2 ls k v) ls' := by
  refine ⟨h.1, h.2.1, fun j w hj => ?_⟩
  unfold zst2 at hj
  by_cases hj1 : j = k + 1
  · subst hj1
    by_cases hl : k + 1 < ((zclr ls k).set k (some v)).length
    · rw [List.getElem?_set_self hl] at hj
      cases hj
    · rw [List.getElem?_eq_none (by simp at hl ⊢; omega)] at hj
      cases hj
  · rw [List.getElem?_set_ne (Ne.symm hj1)] at hj
    rcases zst1_at hj with ⟨e1, e2⟩ | ⟨e1, e2, e3⟩
    · rw [e1, e2]
      exact h.2.2 _ List.mem_cons_self
    · refine h.2.2 (j, zup g w) (List.mem_cons_of_mem _ (List.mem_filter.mpr ⟨zlist_mem.mpr ⟨w, e2, rfl⟩, ?_⟩))
      have hc : ¬ (j + 1 = k ∧ (zup g w).category = 2) := fun q => e3 ⟨q.1, zup_cat.mp q.2⟩
      simp [e1, hj1]
      rcases Classical.em (j + 1 = k) with q | q
      · exact Or.inr fun z => hc ⟨q, z⟩
      · exact Or.inl q
theorem zokL_get {ls : zL} (h : zokL ls) {k : Nat} {v : zV} (hk : ls[k]? = some (some v)) : zokV v := h v (List.mem_of_getElem? hk)
theorem zokL_st1 {ls : zL} (h : zokL ls) {k : Nat} {v : zV} (hv : zokV v) : zokL (zst1 ls k v) := by
  intro w hw
  obtain ⟨j, hj⟩ := List.getElem?_of_mem hw
  rcases zst1_at hj with ⟨-, e2⟩ | ⟨-, e2, -⟩
  · rw [e2]; exact hv
  · exact zokL_get h e2
theorem zokL_st2 {ls : zL} (h : zokL ls) {k : Nat} {v : zV} (hv : zokV v) : zokL (zst2 ls k v) := by
  intro w hw
  unfold zst2 at hw
  have : some w ∈ (zst1 ls k v) ∨ some w = none := List.mem_or_eq_of_mem_set hw
  rcases this with h1 | h1
  · exact zokL_st1 h hv w h1
  · cases h1
/-- the judgement: the machine, here, comes to its end -/
abbrev zX : Type := Program × Launch × Env × Room × State × MethodId × Array Value × List Frame × Method × Code × (State → Prop) × zG
def zZ (X : zX) (pc : Nat) (ls : zL) (st : List zV) (mem : zM) : Prop := match X with
  | (p, l, e, R, s, m, args, below, meth, c, Q, g) => zokM mem → zokL ls → zokS st → ∀ (H : Heap) (locs : List Loc) (lsA : Array Slot), va_P g.1 vwCl (zWS g mem) H → va_S (zA g) s.heap H locs → zlr g c.maxLocals ls lsA → W p l e R s m args below meth c H locs 0 0 Q (F0 m pc lsA (st.map (zup g)))
/-- what holds of a method that runs -/
def zGood (X : zX) (l : Launch) (g : zG) (own : String) (cc : ByteArray) (h nL : Nat) : Prop := match X with
  | (p, l2, e, R, s, m, args, below, meth, c, Q, g2) => p.tables.exec = Jvm.exec ∧ c.code = cc ∧ c.maxLocals = nL ∧ s.vm.findClass own = some m.cls ∧ (∀ w ∈ zW, w.before args s = true) ∧ va_K g.1 vwCl (zTYS g) s ∧ (∀ w ∈ zNW, va_Nw w s) ∧ zGok g ∧ h ≤ R.frames ∧ 38 * h ≤ R.locals ∧ meth.locks = false ∧ l2 = l ∧ g2 = g
def zEnd (X : zX) (ret : Option FieldType) (Rt : Option zV → zM → Prop) : Prop := match X with
  | (p, l, e, R, s, m, args, below, meth, c, Q, g) => meth.sig.returnType = ret ∧ Q = MQ below (zQc g Rt) args s 0 0 (zA g)
end
section
theorem zi2c {x : Int} (h0 : 0 ≤ x) (h1 : x < 65536) : ((Int32.ofInt x).toUInt32 % 65536).toInt32 = Int32.ofInt x := by
  obtain ⟨n, rfl⟩ := Int.eq_ofNat_of_zero_le h0
  have hn : n < 65536 := by omega
  show ((nI n).toUInt32 % 65536).toInt32 = nI n
  rw [pk_char, pk_tn (by omega), Nat.mod_eq_of_lt hn]
section ZROWS
variable {X : zX} {l : Launch} {g : zG} {own : String} {cc : ByteArray} {h nL pc : Nat} {ls : zL} {st : List zV} {mem : zM}
def zb32 (n : Int) : Bool := decide (-2147483648 ≤ n) && decide (n < 2147483648)
def zb16 (n : Int) : Bool := decide (-32768 ≤ n) && decide (n < 32768)
def zb8 (n : Int) : Bool := decide (-128 ≤ n) && decide (n < 128)
theorem zb32_in {n : Int} (h : zb32 n = true) : zin n := by simp [zb32] at h; exact h
theorem zb16_in {n : Int} (h : zb16 n = true) : zin n := by simp [zb16] at h; exact ⟨by omega, by omega⟩
theorem zb8_in {n : Int} (h : zb8 n = true) : zin n := by simp [zb8] at h; exact ⟨by omega, by omega⟩
theorem zb8_v {n : Int} (h : zb8 n = true) : (Int8.ofInt n).toInt32 = Int32.ofInt n := by
  have h2 := zb8_in h
  simp [zb8] at h
  apply Int32.toInt_inj.mp
  rw [Int8.toInt_toInt32, Int8.toInt_ofInt_of_le (by omega) (by omega), zti h2]
theorem zb16_v {n : Int} (h : zb16 n = true) : (Int16.ofInt n).toInt32 = Int32.ofInt n := by
  have h2 := zb16_in h
  simp [zb16] at h
  apply Int32.toInt_inj.mp
  rw [Int16.toInt_toInt32, Int16.toInt_ofInt_of_le (by omega) (by omega), zti h2]
theorem z_iconst (hG : zGood X l g own cc h nL) {n : Int} (hd : decode cc pc = .ok (.iconst n, 1)) (hn : zb32 n = true) (k : zZ X (pc + 1) ls (zi n :: st) mem) : zZ X pc ls st mem := by
  obtain ⟨p, l, e, R, s, m, args, below, meth, c, Q, g⟩ := X
  obtain ⟨hx, hb, hml, hown, hts, hK, hN, hg, hR1, hR2, hlk, hl2, hg2⟩ := hG
  subst hl2 hg2
  intro hM hL hS H locs lsA hP hS0 hl
  refine lv_iconst hx hb hd (v := Int32.ofInt n) (rfl) ?_
  exact k hM hL (zokS_cons.mpr ⟨zb32_in hn, hS⟩) H locs lsA hP hS0 hl
theorem z_bipush (hG : zGood X l g own cc h nL) {n : Int} (hd : decode cc pc = .ok (.bipush n, 2)) (hn : zb8 n = true) (k : zZ X (pc + 2) ls (zi n :: st) mem) : zZ X pc ls st mem := by
  obtain ⟨p, l, e, R, s, m, args, below, meth, c, Q, g⟩ := X
  obtain ⟨hx, hb, hml, hown, hts, hK, hN, hg, hR1, hR2, hlk, hl2, hg2⟩ := hG
  subst hl2 hg2
  intro hM hL hS H locs lsA hP hS0 hl
  refine lv_bipush hx hb hd (v := Int32.ofInt n) (zb8_v hn) ?_
  exact k hM hL (zokS_cons.mpr ⟨zb8_in hn, hS⟩) H locs lsA hP hS0 hl
theorem z_sipush (hG : zGood X l g own cc h nL) {n : Int} (hd : decode cc pc = .ok (.sipush n, 3)) (hn : zb16 n = true) (k : zZ X (pc + 3) ls (zi n :: st) mem) : zZ X pc ls st mem := by
  obtain ⟨p, l, e, R, s, m, args, below, meth, c, Q, g⟩ := X
  obtain ⟨hx, hb, hml, hown, hts, hK, hN, hg, hR1, hR2, hlk, hl2, hg2⟩ := hG
  subst hl2 hg2
  intro hM hL hS H locs lsA hP hS0 hl
  refine lv_sipush hx hb hd (v := Int32.ofInt n) (zb16_v hn) ?_
  exact k hM hL (zokS_cons.mpr ⟨zb16_in hn, hS⟩) H locs lsA hP hS0 hl
theorem z_ldc (hG : zGood X l g own cc h nL) {i : Nat} {n : Int} (hd : decode cc pc = .ok (.ldc i, 2)) (hw : Cond.constant own i (Int32.ofInt n) ∈ zW) (hn : zb32 n = true) (k : zZ X (pc + 2) ls (zi n :: st) mem) : zZ X pc ls st mem := by
  obtain ⟨p, l, e, R, s, m, args, below, meth, c, Q, g⟩ := X
  obtain ⟨hx, hb, hml, hown, hts, hK, hN, hg, hR1, hR2, hlk, hl2, hg2⟩ := hG
  subst hl2 hg2
  intro hM hL hS H locs lsA hP hS0 hl
  refine lv_ldc hx hb hown (hts _ hw) hd ?_
  exact k hM hL (zokS_cons.mpr ⟨zb32_in hn, hS⟩) H locs lsA hP hS0 hl
theorem z_ldc2 (hG : zGood X l g own cc h nL) {i : Nat} {n : Int64} (hd : decode cc pc = .ok (.ldc2_w i, 3)) (hw : Cond.constantLong own i n ∈ zW) (k : zZ X (pc + 3) ls (zl n :: st) mem) : zZ X pc ls st mem := by
  obtain ⟨p, l, e, R, s, m, args, below, meth, c, Q, g⟩ := X
  obtain ⟨hx, hb, hml, hown, hts, hK, hN, hg, hR1, hR2, hlk, hl2, hg2⟩ := hG
  subst hl2 hg2
  intro hM hL hS H locs lsA hP hS0 hl
  refine lv_ldc2 hx hb hown (hts _ hw) hd ?_
  exact k hM hL (zokS_cons.mpr ⟨trivial, hS⟩) H locs lsA hP hS0 hl
theorem z_lconst (hG : zGood X l g own cc h nL) {n : Fin 2} (hd : decode cc pc = .ok (.lconst n, 1)) (k : zZ X (pc + 1) ls (zl (Int64.ofNat (n : Nat)) :: st) mem) : zZ X pc ls st mem := by
  obtain ⟨p, l, e, R, s, m, args, below, meth, c, Q, g⟩ := X
  obtain ⟨hx, hb, hml, hown, hts, hK, hN, hg, hR1, hR2, hlk, hl2, hg2⟩ := hG
  subst hl2 hg2
  intro hM hL hS H locs lsA hP hS0 hl
  refine lv_lconst hx hb hd rfl ?_
  exact k hM hL (zokS_cons.mpr ⟨trivial, hS⟩) H locs lsA hP hS0 hl
theorem z_iload_n (hG : zGood X l g own cc h nL) {q : Fin 4} {i : Nat} {x : Int} (hd : decode cc pc = .ok (.iload_n q, 1)) (hi : (q : Nat) = i) (hv : ls[i]? = some (some (zi x))) (k : zZ X (pc + 1) ls (zi x :: st) mem) : zZ X pc ls st mem := by
  obtain ⟨p, l, e, R, s, m, args, below, meth, c, Q, g⟩ := X
  obtain ⟨hx, hb, hml, hown, hts, hK, hN, hg, hR1, hR2, hlk, hl2, hg2⟩ := hG
  subst hl2 hg2
  intro hM hL hS H locs lsA hP hS0 hl
  refine lv_iload_n hx hb hd hi (hl.2.2 i _ hv) ?_
  exact k hM hL (zokS_cons.mpr ⟨zokL_get hL hv, hS⟩) H locs lsA hP hS0 hl
theorem z_iload (hG : zGood X l g own cc h nL) {i : Nat} {x : Int} (hd : decode cc pc = .ok (.iload i, 2)) (hv : ls[i]? = some (some (zi x))) (k : zZ X (pc + 2) ls (zi x :: st) mem) : zZ X pc ls st mem := by
  obtain ⟨p, l, e, R, s, m, args, below, meth, c, Q, g⟩ := X
  obtain ⟨hx, hb, hml, hown, hts, hK, hN, hg, hR1, hR2, hlk, hl2, hg2⟩ := hG
  subst hl2 hg2
  intro hM hL hS H locs lsA hP hS0 hl
  refine lv_iload hx hb hd (hl.2.2 i _ hv) ?_
  exact k hM hL (zokS_cons.mpr ⟨zokL_get hL hv, hS⟩) H locs lsA hP hS0 hl
theorem z_lload_n (hG : zGood X l g own cc h nL) {q : Fin 4} {i : Nat} {x : Int64} (hd : decode cc pc = .ok (.lload_n q, 1)) (hi : (q : Nat) = i) (hv : ls[i]? = some (some (zl x))) (k : zZ X (pc + 1) ls (zl x :: st) mem) : zZ X pc ls st mem := by
  obtain ⟨p, l, e, R, s, m, args, below, meth, c, Q, g⟩ := X
  obtain ⟨hx, hb, hml, hown, hts, hK, hN, hg, hR1, hR2, hlk, hl2, hg2⟩ := hG
  subst hl2 hg2
  intro hM hL hS H locs lsA hP hS0 hl
  refine lv_lload_n hx hb hd hi (hl.2.2 i _ hv) ?_
  exact k hM hL (zokS_cons.mpr ⟨zokL_get hL hv, hS⟩) H locs lsA hP hS0 hl
theorem z_lload (hG : zGood X l g own cc h nL) {i : Nat} {x : Int64} (hd : decode cc pc = .ok (.lload i, 2)) (hv : ls[i]? = some (some (zl x))) (k : zZ X (pc + 2) ls (zl x :: st) mem) : zZ X pc ls st mem := by
  obtain ⟨p, l, e, R, s, m, args, below, meth, c, Q, g⟩ := X
  obtain ⟨hx, hb, hml, hown, hts, hK, hN, hg, hR1, hR2, hlk, hl2, hg2⟩ := hG
  subst hl2 hg2
  intro hM hL hS H locs lsA hP hS0 hl
  refine lv_lload hx hb hd (hl.2.2 i _ hv) ?_
  exact k hM hL (zokS_cons.mpr ⟨zokL_get hL hv, hS⟩) H locs lsA hP hS0 hl
theorem z_aload_n (hG : zGood X l g own cc h nL) {q : Fin 4} {i : Nat} {o : zO} (hd : decode cc pc = .ok (.aload_n q, 1)) (hi : (q : Nat) = i) (hv : ls[i]? = some (some (.inr (.inr o)))) (k : zZ X (pc + 1) ls (.inr (.inr o) :: st) mem) : zZ X pc ls st mem := by
  obtain ⟨p, l, e, R, s, m, args, below, meth, c, Q, g⟩ := X
  obtain ⟨hx, hb, hml, hown, hts, hK, hN, hg, hR1, hR2, hlk, hl2, hg2⟩ := hG
  subst hl2 hg2
  intro hM hL hS H locs lsA hP hS0 hl
  refine lv_aload_n hx hb hd hi (hl.2.2 i _ hv) ?_
  exact k hM hL (zokS_cons.mpr ⟨zokL_get hL hv, hS⟩) H locs lsA hP hS0 hl
theorem z_aload (hG : zGood X l g own cc h nL) {i : Nat} {o : zO} (hd : decode cc pc = .ok (.aload i, 2)) (hv : ls[i]? = some (some (.inr (.inr o)))) (k : zZ X (pc + 2) ls (.inr (.inr o) :: st) mem) : zZ X pc ls st mem := by
  obtain ⟨p, l, e, R, s, m, args, below, meth, c, Q, g⟩ := X
  obtain ⟨hx, hb, hml, hown, hts, hK, hN, hg, hR1, hR2, hlk, hl2, hg2⟩ := hG
  subst hl2 hg2
  intro hM hL hS H locs lsA hP hS0 hl
  refine lv_aload hx hb hd (hl.2.2 i _ hv) ?_
  exact k hM hL (zokS_cons.mpr ⟨zokL_get hL hv, hS⟩) H locs lsA hP hS0 hl
theorem z_istore_n (hG : zGood X l g own cc h nL) {q : Fin 4} {i : Nat} {x : Int} (hd : decode cc pc = .ok (.istore_n q, 1)) (hi : (q : Nat) = i) (hn : i < nL) {ls2 : zL} (he : zst1 ls i (zi x) = ls2) (k : zZ X (pc + 1) ls2 st mem) : zZ X pc ls ((zi x) :: st) mem := by
  obtain ⟨p, l, e, R, s, m, args, below, meth, c, Q, g⟩ := X
  obtain ⟨hx, hb, hml, hown, hts, hK, hN, hg, hR1, hR2, hlk, hl2, hg2⟩ := hG
  subst hl2 hg2
  intro hM hL hS H locs lsA hP hS0 hl
  subst hml
  subst he
  refine lv_istore_n hx hb hd hi (zlr_has hl) hn rfl fun ls' hl' => ?_
  exact k hM (zokL_st1 hL (zokS_cons.mp hS).1) (zokS_cons.mp hS).2 H locs ls' hP hS0 (zlr_st1 (lsA := lsA) ls' hl')
theorem z_istore (hG : zGood X l g own cc h nL) {i : Nat} {x : Int} (hd : decode cc pc = .ok (.istore i, 2)) (hn : i < nL) {ls2 : zL} (he : zst1 ls i (zi x) = ls2) (k : zZ X (pc + 2) ls2 st mem) : zZ X pc ls ((zi x) :: st) mem := by
  obtain ⟨p, l, e, R, s, m, args, below, meth, c, Q, g⟩ := X
  obtain ⟨hx, hb, hml, hown, hts, hK, hN, hg, hR1, hR2, hlk, hl2, hg2⟩ := hG
  subst hl2 hg2
  intro hM hL hS H locs lsA hP hS0 hl
  subst hml
  subst he
  refine lv_istore hx hb hd (zlr_has hl) hn rfl fun ls' hl' => ?_
  exact k hM (zokL_st1 hL (zokS_cons.mp hS).1) (zokS_cons.mp hS).2 H locs ls' hP hS0 (zlr_st1 (lsA := lsA) ls' hl')
theorem z_astore_n (hG : zGood X l g own cc h nL) {q : Fin 4} {i : Nat} {o : zO} (hd : decode cc pc = .ok (.astore_n q, 1)) (hi : (q : Nat) = i) (hn : i < nL) {ls2 : zL} (he : zst1 ls i (.inr (.inr o)) = ls2) (k : zZ X (pc + 1) ls2 st mem) : zZ X pc ls ((.inr (.inr o)) :: st) mem := by
  obtain ⟨p, l, e, R, s, m, args, below, meth, c, Q, g⟩ := X
  obtain ⟨hx, hb, hml, hown, hts, hK, hN, hg, hR1, hR2, hlk, hl2, hg2⟩ := hG
  subst hl2 hg2
  intro hM hL hS H locs lsA hP hS0 hl
  subst hml
  subst he
  refine lv_astore_n hx hb hd hi (zlr_has hl) hn rfl fun ls' hl' => ?_
  exact k hM (zokL_st1 hL (zokS_cons.mp hS).1) (zokS_cons.mp hS).2 H locs ls' hP hS0 (zlr_st1 (lsA := lsA) ls' hl')
theorem z_astore (hG : zGood X l g own cc h nL) {i : Nat} {o : zO} (hd : decode cc pc = .ok (.astore i, 2)) (hn : i < nL) {ls2 : zL} (he : zst1 ls i (.inr (.inr o)) = ls2) (k : zZ X (pc + 2) ls2 st mem) : zZ X pc ls ((.inr (.inr o)) :: st) mem := by
  obtain ⟨p, l, e, R, s, m, args, below, meth, c, Q, g⟩ := X
  obtain ⟨hx, hb, hml, hown, hts, hK, hN, hg, hR1, hR2, hlk, hl2, hg2⟩ := hG
  subst hl2 hg2
  intro hM hL hS H locs lsA hP hS0 hl
  subst hml
  subst he
  refine lv_astore hx hb hd (zlr_has hl) hn rfl fun ls' hl' => ?_
  exact k hM (zokL_st1 hL (zokS_cons.mp hS).1) (zokS_cons.mp hS).2 H locs ls' hP hS0 (zlr_st1 (lsA := lsA) ls' hl')
theorem z_lstore_n (hG : zGood X l g own cc h nL) {q : Fin 4} {i : Nat} {x : Int64} (hd : decode cc pc = .ok (.lstore_n q, 1)) (hi : (q : Nat) = i) (hn : i + 1 < nL) {ls2 : zL} (he : zst2 ls i (zl x) = ls2) (k : zZ X (pc + 1) ls2 st mem) : zZ X pc ls ((zl x) :: st) mem := by
  obtain ⟨p, l, e, R, s, m, args, below, meth, c, Q, g⟩ := X
  obtain ⟨hx, hb, hml, hown, hts, hK, hN, hg, hR1, hR2, hlk, hl2, hg2⟩ := hG
  subst hl2 hg2
  intro hM hL hS H locs lsA hP hS0 hl
  subst hml
  subst he
  refine lv_lstore_n hx hb hd hi (zlr_has hl) hn rfl fun ls' hl' => ?_
  exact k hM (zokL_st2 hL (zokS_cons.mp hS).1) (zokS_cons.mp hS).2 H locs ls' hP hS0 (zlr_st2 (lsA := lsA) ls' hl')
theorem z_lstore (hG : zGood X l g own cc h nL) {i : Nat} {x : Int64} (hd : decode cc pc = .ok (.lstore i, 2)) (hn : i + 1 < nL) {ls2 : zL} (he : zst2 ls i (zl x) = ls2) (k : zZ X (pc + 2) ls2 st mem) : zZ X pc ls ((zl x) :: st) mem := by
  obtain ⟨p, l, e, R, s, m, args, below, meth, c, Q, g⟩ := X
  obtain ⟨hx, hb, hml, hown, hts, hK, hN, hg, hR1, hR2, hlk, hl2, hg2⟩ := hG
  subst hl2 hg2
  intro hM hL hS H locs lsA hP hS0 hl
  subst hml
  subst he
  refine lv_lstore hx hb hd (zlr_has hl) hn rfl fun ls' hl' => ?_
  exact k hM (zokL_st2 hL (zokS_cons.mp hS).1) (zokS_cons.mp hS).2 H locs ls' hP hS0 (zlr_st2 (lsA := lsA) ls' hl')
theorem z_iinc (hG : zGood X l g own cc h nL) {i : Nat} {n x : Int} (hd : decode cc pc = .ok (.iinc i n, 3)) (hn : i < nL) (hv : ls[i]? = some (some (zi x))) (hr1 : -2147483648 ≤ x + n) (hr2 : x + n < 2147483648) {ls2 : zL} (he : zst1 ls i (zi (x + n)) = ls2) (k : zZ X (pc + 3) ls2 st mem) : zZ X pc ls st mem := by
  obtain ⟨p, l, e, R, s, m, args, below, meth, c, Q, g⟩ := X
  obtain ⟨hx, hb, hml, hown, hts, hK, hN, hg, hR1, hR2, hlk, hl2, hg2⟩ := hG
  subst hl2 hg2
  intro hM hL hS H locs lsA hP hS0 hl
  subst hml
  subst he
  have hr : zin (x + n) := ⟨hr1, hr2⟩
  obtain ⟨q, hq⟩ := List.getElem?_of_mem (zlist_mem.mpr ⟨_, hv, rfl⟩ : (i, zup g (zi x)) ∈ zlist g ls)
  refine lv_iinc (k := q) (x := Int32.ofInt x) (v := Int32.ofInt (x + n)) hx hb hd (zlr_has hl) hq (zadd x n) hn rfl fun ls' hl' => ?_
  exact k hM (zokL_st1 hL hr) hS H locs ls' hP hS0 (zlr_st1 (lsA := lsA) (v := zi (x + n)) ls' hl')
theorem z_iadd (hG : zGood X l g own cc h nL) {x y : Int} (hd : decode cc pc = .ok (.iadd, 1)) (hr1 : -2147483648 ≤ x + y) (hr2 : x + y < 2147483648) (k : zZ X (pc + 1) ls (zi (x + y) :: st) mem) : zZ X pc ls (zi y :: zi x :: st) mem := by
  obtain ⟨p, l, e, R, s, m, args, below, meth, c, Q, g⟩ := X
  obtain ⟨hx, hb, hml, hown, hts, hK, hN, hg, hR1, hR2, hlk, hl2, hg2⟩ := hG
  subst hl2 hg2
  intro hM hL hS H locs lsA hP hS0 hl
  have hxx : zin x := (zokS_cons.mp (zokS_cons.mp hS).2).1
  have hyy : zin y := (zokS_cons.mp hS).1
  refine lv_iadd hx hb hd ?_
  rw [zadd]
  exact k hM hL (zokS_cons.mpr ⟨⟨hr1, hr2⟩, (zokS_cons.mp (zokS_cons.mp hS).2).2⟩) H locs lsA hP hS0 hl
theorem z_isub (hG : zGood X l g own cc h nL) {x y : Int} (hd : decode cc pc = .ok (.isub, 1)) (hr1 : -2147483648 ≤ x - y) (hr2 : x - y < 2147483648) (k : zZ X (pc + 1) ls (zi (x - y) :: st) mem) : zZ X pc ls (zi y :: zi x :: st) mem := by
  obtain ⟨p, l, e, R, s, m, args, below, meth, c, Q, g⟩ := X
  obtain ⟨hx, hb, hml, hown, hts, hK, hN, hg, hR1, hR2, hlk, hl2, hg2⟩ := hG
  subst hl2 hg2
  intro hM hL hS H locs lsA hP hS0 hl
  have hxx : zin x := (zokS_cons.mp (zokS_cons.mp hS).2).1
  have hyy : zin y := (zokS_cons.mp hS).1
  refine lv_isub hx hb hd ?_
  rw [zsub]
  exact k hM hL (zokS_cons.mpr ⟨⟨hr1, hr2⟩, (zokS_cons.mp (zokS_cons.mp hS).2).2⟩) H locs lsA hP hS0 hl
theorem z_imul (hG : zGood X l g own cc h nL) {x y : Int} (hd : decode cc pc = .ok (.imul, 1)) (hr1 : -2147483648 ≤ x * y) (hr2 : x * y < 2147483648) (k : zZ X (pc + 1) ls (zi (x * y) :: st) mem) : zZ X pc ls (zi y :: zi x :: st) mem := by
  obtain ⟨p, l, e, R, s, m, args, below, meth, c, Q, g⟩ := X
  obtain ⟨hx, hb, hml, hown, hts, hK, hN, hg, hR1, hR2, hlk, hl2, hg2⟩ := hG
  subst hl2 hg2
  intro hM hL hS H locs lsA hP hS0 hl
  have hxx : zin x := (zokS_cons.mp (zokS_cons.mp hS).2).1
  have hyy : zin y := (zokS_cons.mp hS).1
  refine lv_imul hx hb hd ?_
  rw [zmul]
  exact k hM hL (zokS_cons.mpr ⟨⟨hr1, hr2⟩, (zokS_cons.mp (zokS_cons.mp hS).2).2⟩) H locs lsA hP hS0 hl
theorem z_iaddw (hG : zGood X l g own cc h nL) {x y : Int} (hd : decode cc pc = .ok (.iadd, 1)) (k : zZ X (pc + 1) ls (zi (zwr (x + y)) :: st) mem) : zZ X pc ls (zi y :: zi x :: st) mem := by
  obtain ⟨p, l, e, R, s, m, args, below, meth, c, Q, g⟩ := X
  obtain ⟨hx, hb, hml, hown, hts, hK, hN, hg, hR1, hR2, hlk, hl2, hg2⟩ := hG
  subst hl2 hg2
  intro hM hL hS H locs lsA hP hS0 hl
  have hxx : zin x := (zokS_cons.mp (zokS_cons.mp hS).2).1
  have hyy : zin y := (zokS_cons.mp hS).1
  refine lv_iadd hx hb hd ?_
  rw [zadd, show Int32.ofInt (x + y) = Int32.ofInt (zwr (x + y)) from (Int32.ofInt_toInt _).symm]
  exact k hM hL (zokS_cons.mpr ⟨zinT _, (zokS_cons.mp (zokS_cons.mp hS).2).2⟩) H locs lsA hP hS0 hl
theorem z_isubw (hG : zGood X l g own cc h nL) {x y : Int} (hd : decode cc pc = .ok (.isub, 1)) (k : zZ X (pc + 1) ls (zi (zwr (x - y)) :: st) mem) : zZ X pc ls (zi y :: zi x :: st) mem := by
  obtain ⟨p, l, e, R, s, m, args, below, meth, c, Q, g⟩ := X
  obtain ⟨hx, hb, hml, hown, hts, hK, hN, hg, hR1, hR2, hlk, hl2, hg2⟩ := hG
  subst hl2 hg2
  intro hM hL hS H locs lsA hP hS0 hl
  have hxx : zin x := (zokS_cons.mp (zokS_cons.mp hS).2).1
  have hyy : zin y := (zokS_cons.mp hS).1
  refine lv_isub hx hb hd ?_
  rw [zsub, show Int32.ofInt (x - y) = Int32.ofInt (zwr (x - y)) from (Int32.ofInt_toInt _).symm]
  exact k hM hL (zokS_cons.mpr ⟨zinT _, (zokS_cons.mp (zokS_cons.mp hS).2).2⟩) H locs lsA hP hS0 hl
theorem z_idiv (hG : zGood X l g own cc h nL) {x y : Int} (hd : decode cc pc = .ok (.idiv, 1)) (h0 : 0 ≤ x) (h1 : 0 < y) (k : zZ X (pc + 1) ls (zi (x / y) :: st) mem) : zZ X pc ls (zi y :: zi x :: st) mem := by
  obtain ⟨p, l, e, R, s, m, args, below, meth, c, Q, g⟩ := X
  obtain ⟨hx, hb, hml, hown, hts, hK, hN, hg, hR1, hR2, hlk, hl2, hg2⟩ := hG
  subst hl2 hg2
  intro hM hL hS H locs lsA hP hS0 hl
  have hxx : zin x := (zokS_cons.mp (zokS_cons.mp hS).2).1
  have hyy : zin y := (zokS_cons.mp hS).1
  refine lv_idiv hx hb hd (fun q => by have q2 : Int32.ofInt y = Int32.ofInt 0 := q; have := (zeq hyy z0in).mp q2; omega) ?_
  rw [zdiv hxx hyy h0 h1]
  exact k hM hL (zokS_cons.mpr ⟨⟨by have := Int.ediv_nonneg h0 (Int.le_of_lt h1); omega, by have := Int.ediv_le_self y h0; have := hxx.2; omega⟩, (zokS_cons.mp (zokS_cons.mp hS).2).2⟩) H locs lsA hP hS0 hl
theorem z_irem (hG : zGood X l g own cc h nL) {x y : Int} (hd : decode cc pc = .ok (.irem, 1)) (h0 : 0 ≤ x) (h1 : 0 < y) (k : zZ X (pc + 1) ls (zi (x % y) :: st) mem) : zZ X pc ls (zi y :: zi x :: st) mem := by
  obtain ⟨p, l, e, R, s, m, args, below, meth, c, Q, g⟩ := X
  obtain ⟨hx, hb, hml, hown, hts, hK, hN, hg, hR1, hR2, hlk, hl2, hg2⟩ := hG
  subst hl2 hg2
  intro hM hL hS H locs lsA hP hS0 hl
  have hxx : zin x := (zokS_cons.mp (zokS_cons.mp hS).2).1
  have hyy : zin y := (zokS_cons.mp hS).1
  refine lv_irem hx hb hd (fun q => by have q2 : Int32.ofInt y = Int32.ofInt 0 := q; have := (zeq hyy z0in).mp q2; omega) ?_
  rw [zrem hxx hyy h0 h1]
  exact k hM hL (zokS_cons.mpr ⟨zmodin hyy h1, (zokS_cons.mp (zokS_cons.mp hS).2).2⟩) H locs lsA hP hS0 hl
theorem z_iand (hG : zGood X l g own cc h nL) {x y : Int} (hd : decode cc pc = .ok (.iand, 1)) (k : zZ X (pc + 1) ls (zi (zand x y) :: st) mem) : zZ X pc ls (zi y :: zi x :: st) mem := by
  obtain ⟨p, l, e, R, s, m, args, below, meth, c, Q, g⟩ := X
  obtain ⟨hx, hb, hml, hown, hts, hK, hN, hg, hR1, hR2, hlk, hl2, hg2⟩ := hG
  subst hl2 hg2
  intro hM hL hS H locs lsA hP hS0 hl
  have hxx : zin x := (zokS_cons.mp (zokS_cons.mp hS).2).1
  have hyy : zin y := (zokS_cons.mp hS).1
  refine lv_iand hx hb hd ?_
  rw [show Int32.ofInt x &&& Int32.ofInt y = Int32.ofInt (zand x y) from (Int32.ofInt_toInt _).symm]
  exact k hM hL (zokS_cons.mpr ⟨zinT _, (zokS_cons.mp (zokS_cons.mp hS).2).2⟩) H locs lsA hP hS0 hl
theorem z_ior (hG : zGood X l g own cc h nL) {x y : Int} (hd : decode cc pc = .ok (.ior, 1)) (k : zZ X (pc + 1) ls (zi (zor x y) :: st) mem) : zZ X pc ls (zi y :: zi x :: st) mem := by
  obtain ⟨p, l, e, R, s, m, args, below, meth, c, Q, g⟩ := X
  obtain ⟨hx, hb, hml, hown, hts, hK, hN, hg, hR1, hR2, hlk, hl2, hg2⟩ := hG
  subst hl2 hg2
  intro hM hL hS H locs lsA hP hS0 hl
  have hxx : zin x := (zokS_cons.mp (zokS_cons.mp hS).2).1
  have hyy : zin y := (zokS_cons.mp hS).1
  refine lv_ior hx hb hd ?_
  rw [show Int32.ofInt x ||| Int32.ofInt y = Int32.ofInt (zor x y) from (Int32.ofInt_toInt _).symm]
  exact k hM hL (zokS_cons.mpr ⟨zinT _, (zokS_cons.mp (zokS_cons.mp hS).2).2⟩) H locs lsA hP hS0 hl
theorem z_ixor (hG : zGood X l g own cc h nL) {x y : Int} (hd : decode cc pc = .ok (.ixor, 1)) (k : zZ X (pc + 1) ls (zi (zxor x y) :: st) mem) : zZ X pc ls (zi y :: zi x :: st) mem := by
  obtain ⟨p, l, e, R, s, m, args, below, meth, c, Q, g⟩ := X
  obtain ⟨hx, hb, hml, hown, hts, hK, hN, hg, hR1, hR2, hlk, hl2, hg2⟩ := hG
  subst hl2 hg2
  intro hM hL hS H locs lsA hP hS0 hl
  have hxx : zin x := (zokS_cons.mp (zokS_cons.mp hS).2).1
  have hyy : zin y := (zokS_cons.mp hS).1
  refine lv_ixor hx hb hd ?_
  rw [show Int32.ofInt x ^^^ Int32.ofInt y = Int32.ofInt (zxor x y) from (Int32.ofInt_toInt _).symm]
  exact k hM hL (zokS_cons.mpr ⟨zinT _, (zokS_cons.mp (zokS_cons.mp hS).2).2⟩) H locs lsA hP hS0 hl
theorem z_ishl (hG : zGood X l g own cc h nL) {x y : Int} (hd : decode cc pc = .ok (.ishl, 1)) (k : zZ X (pc + 1) ls (zi (zshl x y) :: st) mem) : zZ X pc ls (zi y :: zi x :: st) mem := by
  obtain ⟨p, l, e, R, s, m, args, below, meth, c, Q, g⟩ := X
  obtain ⟨hx, hb, hml, hown, hts, hK, hN, hg, hR1, hR2, hlk, hl2, hg2⟩ := hG
  subst hl2 hg2
  intro hM hL hS H locs lsA hP hS0 hl
  have hxx : zin x := (zokS_cons.mp (zokS_cons.mp hS).2).1
  have hyy : zin y := (zokS_cons.mp hS).1
  refine lv_ishl hx hb hd ?_
  rw [show Int32.ofInt x <<< (Int32.ofInt y &&& 31) = Int32.ofInt (zshl x y) from (Int32.ofInt_toInt _).symm]
  exact k hM hL (zokS_cons.mpr ⟨zinT _, (zokS_cons.mp (zokS_cons.mp hS).2).2⟩) H locs lsA hP hS0 hl
theorem z_ishr (hG : zGood X l g own cc h nL) {x y : Int} (hd : decode cc pc = .ok (.ishr, 1)) (k : zZ X (pc + 1) ls (zi (zshr x y) :: st) mem) : zZ X pc ls (zi y :: zi x :: st) mem := by
  obtain ⟨p, l, e, R, s, m, args, below, meth, c, Q, g⟩ := X
  obtain ⟨hx, hb, hml, hown, hts, hK, hN, hg, hR1, hR2, hlk, hl2, hg2⟩ := hG
  subst hl2 hg2
  intro hM hL hS H locs lsA hP hS0 hl
  have hxx : zin x := (zokS_cons.mp (zokS_cons.mp hS).2).1
  have hyy : zin y := (zokS_cons.mp hS).1
  refine lv_ishr hx hb hd ?_
  rw [show Int32.ofInt x >>> (Int32.ofInt y &&& 31) = Int32.ofInt (zshr x y) from (Int32.ofInt_toInt _).symm]
  exact k hM hL (zokS_cons.mpr ⟨zinT _, (zokS_cons.mp (zokS_cons.mp hS).2).2⟩) H locs lsA hP hS0 hl
theorem z_ladd (hG : zGood X l g own cc h nL) {x y : Int64} (hd : decode cc pc = .ok (.ladd, 1)) (k : zZ X (pc + 1) ls (zl (x + y) :: st) mem) : zZ X pc ls (zl y :: zl x :: st) mem := by
  obtain ⟨p, l, e, R, s, m, args, below, meth, c, Q, g⟩ := X
  obtain ⟨hx, hb, hml, hown, hts, hK, hN, hg, hR1, hR2, hlk, hl2, hg2⟩ := hG
  subst hl2 hg2
  intro hM hL hS H locs lsA hP hS0 hl
  refine lv_ladd hx hb hd ?_
  exact k hM hL (zokS_cons.mpr ⟨trivial, (zokS_cons.mp (zokS_cons.mp hS).2).2⟩) H locs lsA hP hS0 hl
theorem z_lmul (hG : zGood X l g own cc h nL) {x y : Int64} (hd : decode cc pc = .ok (.lmul, 1)) (k : zZ X (pc + 1) ls (zl (x * y) :: st) mem) : zZ X pc ls (zl y :: zl x :: st) mem := by
  obtain ⟨p, l, e, R, s, m, args, below, meth, c, Q, g⟩ := X
  obtain ⟨hx, hb, hml, hown, hts, hK, hN, hg, hR1, hR2, hlk, hl2, hg2⟩ := hG
  subst hl2 hg2
  intro hM hL hS H locs lsA hP hS0 hl
  refine lv_lmul hx hb hd ?_
  exact k hM hL (zokS_cons.mpr ⟨trivial, (zokS_cons.mp (zokS_cons.mp hS).2).2⟩) H locs lsA hP hS0 hl
theorem z_land (hG : zGood X l g own cc h nL) {x y : Int64} (hd : decode cc pc = .ok (.land, 1)) (k : zZ X (pc + 1) ls (zl (x &&& y) :: st) mem) : zZ X pc ls (zl y :: zl x :: st) mem := by
  obtain ⟨p, l, e, R, s, m, args, below, meth, c, Q, g⟩ := X
  obtain ⟨hx, hb, hml, hown, hts, hK, hN, hg, hR1, hR2, hlk, hl2, hg2⟩ := hG
  subst hl2 hg2
  intro hM hL hS H locs lsA hP hS0 hl
  refine lv_land hx hb hd ?_
  exact k hM hL (zokS_cons.mpr ⟨trivial, (zokS_cons.mp (zokS_cons.mp hS).2).2⟩) H locs lsA hP hS0 hl
theorem z_lor (hG : zGood X l g own cc h nL) {x y : Int64} (hd : decode cc pc = .ok (.lor, 1)) (k : zZ X (pc + 1) ls (zl (x ||| y) :: st) mem) : zZ X pc ls (zl y :: zl x :: st) mem := by
  obtain ⟨p, l, e, R, s, m, args, below, meth, c, Q, g⟩ := X
  obtain ⟨hx, hb, hml, hown, hts, hK, hN, hg, hR1, hR2, hlk, hl2, hg2⟩ := hG
  subst hl2 hg2
  intro hM hL hS H locs lsA hP hS0 hl
  refine lv_lor hx hb hd ?_
  exact k hM hL (zokS_cons.mpr ⟨trivial, (zokS_cons.mp (zokS_cons.mp hS).2).2⟩) H locs lsA hP hS0 hl
theorem z_lushr (hG : zGood X l g own cc h nL) {x : Int64} {y : Int} (hd : decode cc pc = .ok (.lushr, 1)) (k : zZ X (pc + 1) ls (zl ((x.toUInt64 >>> ((Int32.ofInt y).toInt64.toUInt64 &&& Int64.toUInt64 63)).toInt64) :: st) mem) : zZ X pc ls (zi y :: zl x :: st) mem := by
  obtain ⟨p, l, e, R, s, m, args, below, meth, c, Q, g⟩ := X
  obtain ⟨hx, hb, hml, hown, hts, hK, hN, hg, hR1, hR2, hlk, hl2, hg2⟩ := hG
  subst hl2 hg2
  intro hM hL hS H locs lsA hP hS0 hl
  refine lv_lushr hx hb hd rfl ?_
  exact k hM hL (zokS_cons.mpr ⟨trivial, (zokS_cons.mp (zokS_cons.mp hS).2).2⟩) H locs lsA hP hS0 hl
theorem z_lshl (hG : zGood X l g own cc h nL) {x : Int64} {y : Int} (hd : decode cc pc = .ok (.lshl, 1)) (k : zZ X (pc + 1) ls (zl (x <<< ((Int32.ofInt y).toInt64 &&& 63)) :: st) mem) : zZ X pc ls (zi y :: zl x :: st) mem := by
  obtain ⟨p, l, e, R, s, m, args, below, meth, c, Q, g⟩ := X
  obtain ⟨hx, hb, hml, hown, hts, hK, hN, hg, hR1, hR2, hlk, hl2, hg2⟩ := hG
  subst hl2 hg2
  intro hM hL hS H locs lsA hP hS0 hl
  refine lv_lshl hx hb hd rfl ?_
  exact k hM hL (zokS_cons.mpr ⟨trivial, (zokS_cons.mp (zokS_cons.mp hS).2).2⟩) H locs lsA hP hS0 hl
theorem z_lshr (hG : zGood X l g own cc h nL) {x : Int64} {y : Int} (hd : decode cc pc = .ok (.lshr, 1)) (k : zZ X (pc + 1) ls (zl (x >>> ((Int32.ofInt y).toInt64 &&& 63)) :: st) mem) : zZ X pc ls (zi y :: zl x :: st) mem := by
  obtain ⟨p, l, e, R, s, m, args, below, meth, c, Q, g⟩ := X
  obtain ⟨hx, hb, hml, hown, hts, hK, hN, hg, hR1, hR2, hlk, hl2, hg2⟩ := hG
  subst hl2 hg2
  intro hM hL hS H locs lsA hP hS0 hl
  refine lv_lshr hx hb hd rfl ?_
  exact k hM hL (zokS_cons.mpr ⟨trivial, (zokS_cons.mp (zokS_cons.mp hS).2).2⟩) H locs lsA hP hS0 hl
theorem z_i2l (hG : zGood X l g own cc h nL) {x : Int} (hd : decode cc pc = .ok (.i2l, 1)) (k : zZ X (pc + 1) ls (zl (Int32.ofInt x).toInt64 :: st) mem) : zZ X pc ls (zi x :: st) mem := by
  obtain ⟨p, l, e, R, s, m, args, below, meth, c, Q, g⟩ := X
  obtain ⟨hx, hb, hml, hown, hts, hK, hN, hg, hR1, hR2, hlk, hl2, hg2⟩ := hG
  subst hl2 hg2
  intro hM hL hS H locs lsA hP hS0 hl
  refine lv_i2l hx hb hd rfl ?_
  exact k hM hL (zokS_cons.mpr ⟨trivial, (zokS_cons.mp hS).2⟩) H locs lsA hP hS0 hl
theorem z_l2i (hG : zGood X l g own cc h nL) {x : Int64} (hd : decode cc pc = .ok (.l2i, 1)) (k : zZ X (pc + 1) ls (zi x.toInt32.toInt :: st) mem) : zZ X pc ls (zl x :: st) mem := by
  obtain ⟨p, l, e, R, s, m, args, below, meth, c, Q, g⟩ := X
  obtain ⟨hx, hb, hml, hown, hts, hK, hN, hg, hR1, hR2, hlk, hl2, hg2⟩ := hG
  subst hl2 hg2
  intro hM hL hS H locs lsA hP hS0 hl
  refine lv_l2i hx hb hd rfl ?_
  rw [show x.toInt32 = Int32.ofInt x.toInt32.toInt from (Int32.ofInt_toInt _).symm]
  exact k hM hL (zokS_cons.mpr ⟨zinT _, (zokS_cons.mp hS).2⟩) H locs lsA hP hS0 hl
theorem z_i2c (hG : zGood X l g own cc h nL) {x : Int} (hd : decode cc pc = .ok (.i2c, 1)) (h0 : 0 ≤ x) (h1 : x < 65536) (k : zZ X (pc + 1) ls (zi x :: st) mem) : zZ X pc ls (zi x :: st) mem := by
  obtain ⟨p, l, e, R, s, m, args, below, meth, c, Q, g⟩ := X
  obtain ⟨hx, hb, hml, hown, hts, hK, hN, hg, hR1, hR2, hlk, hl2, hg2⟩ := hG
  subst hl2 hg2
  intro hM hL hS H locs lsA hP hS0 hl
  refine lv_i2c hx hb hd (v := Int32.ofInt x) (zi2c h0 h1) ?_
  exact k hM hL hS H locs lsA hP hS0 hl
theorem z_lcmp (hG : zGood X l g own cc h nL) {x y : Int64} (hd : decode cc pc = .ok (.lcmp, 1)) (k : zZ X (pc + 1) ls (zi (lg_cmp x y).toInt :: st) mem) : zZ X pc ls (zl y :: zl x :: st) mem := by
  obtain ⟨p, l, e, R, s, m, args, below, meth, c, Q, g⟩ := X
  obtain ⟨hx, hb, hml, hown, hts, hK, hN, hg, hR1, hR2, hlk, hl2, hg2⟩ := hG
  subst hl2 hg2
  intro hM hL hS H locs lsA hP hS0 hl
  refine W.lcmp hx hb hd ?_
  rw [show lg_cmp x y = Int32.ofInt (lg_cmp x y).toInt from (Int32.ofInt_toInt _).symm]
  exact k hM hL (zokS_cons.mpr ⟨zinT _, (zokS_cons.mp (zokS_cons.mp hS).2).2⟩) H locs lsA hP hS0 hl
theorem z_dup_r (hG : zGood X l g own cc h nL) {o : zO} (hd : decode cc pc = .ok (.dup, 1)) (k : zZ X (pc + 1) ls (.inr (.inr o) :: .inr (.inr o) :: st) mem) : zZ X pc ls (.inr (.inr o) :: st) mem := by
  obtain ⟨p, l, e, R, s, m, args, below, meth, c, Q, g⟩ := X
  obtain ⟨hx, hb, hml, hown, hts, hK, hN, hg, hR1, hR2, hlk, hl2, hg2⟩ := hG
  subst hl2 hg2
  intro hM hL hS H locs lsA hP hS0 hl
  refine lv_dup hx hb hd rfl ?_
  exact k hM hL (zokS_cons.mpr ⟨(zokS_cons.mp hS).1, hS⟩) H locs lsA hP hS0 hl
theorem z_dup_i (hG : zGood X l g own cc h nL) {x : Int} (hd : decode cc pc = .ok (.dup, 1)) (k : zZ X (pc + 1) ls (zi x :: zi x :: st) mem) : zZ X pc ls (zi x :: st) mem := by
  obtain ⟨p, l, e, R, s, m, args, below, meth, c, Q, g⟩ := X
  obtain ⟨hx, hb, hml, hown, hts, hK, hN, hg, hR1, hR2, hlk, hl2, hg2⟩ := hG
  subst hl2 hg2
  intro hM hL hS H locs lsA hP hS0 hl
  refine lv_dup hx hb hd rfl ?_
  exact k hM hL (zokS_cons.mpr ⟨(zokS_cons.mp hS).1, hS⟩) H locs lsA hP hS0 hl
theorem z_dup2 (hG : zGood X l g own cc h nL) {x : Int} {o : zO} (hd : decode cc pc = .ok (.dup2, 1)) (k : zZ X (pc + 1) ls (zi x :: .inr (.inr o) :: zi x :: .inr (.inr o) :: st) mem) : zZ X pc ls (zi x :: .inr (.inr o) :: st) mem := by
  obtain ⟨p, l, e, R, s, m, args, below, meth, c, Q, g⟩ := X
  obtain ⟨hx, hb, hml, hown, hts, hK, hN, hg, hR1, hR2, hlk, hl2, hg2⟩ := hG
  subst hl2 hg2
  intro hM hL hS H locs lsA hP hS0 hl
  refine lv_dup2_11 hx hb hd rfl rfl ?_
  exact k hM hL (zokS_cons.mpr ⟨(zokS_cons.mp hS).1, zokS_cons.mpr ⟨(zokS_cons.mp (zokS_cons.mp hS).2).1, hS⟩⟩) H locs lsA hP hS0 hl
theorem z_if_eq (hG : zGood X l g own cc h nL) {x : Int} {off : Int} {tgt : Nat} (hd : decode cc pc = .ok (.ifCond .eq off, 3)) (ht : (pc : Int) + off = (tgt : Int)) (kt : x = 0 → zZ X tgt ls st mem) (kf : x ≠ 0 → zZ X (pc + 3) ls st mem) : zZ X pc ls (zi x :: st) mem := by
  obtain ⟨p, l, e, R, s, m, args, below, meth, c, Q, g⟩ := X
  obtain ⟨hx, hb, hml, hown, hts, hK, hN, hg, hR1, hR2, hlk, hl2, hg2⟩ := hG
  subst hl2 hg2
  intro hM hL hS H locs lsA hP hS0 hl
  have hxx : zin x := (zokS_cons.mp hS).1
  have hyy : zin 0 := z0in
  have h2 := (zokS_cons.mp hS).2
  refine lv_if_eq hx hb hd ht (fun q => ?_) (fun q => ?_)
  · rw [← z00] at q; exact kt ((zeq hxx hyy).mp q) hM hL h2 H locs lsA hP hS0 hl
  · rw [← z00] at q; exact kf (fun z => q ((zeq hxx hyy).mpr z)) hM hL h2 H locs lsA hP hS0 hl
theorem z_icmp_eq (hG : zGood X l g own cc h nL) {x y : Int} {off : Int} {tgt : Nat} (hd : decode cc pc = .ok (.if_icmp .eq off, 3)) (ht : (pc : Int) + off = (tgt : Int)) (kt : x = y → zZ X tgt ls st mem) (kf : x ≠ y → zZ X (pc + 3) ls st mem) : zZ X pc ls (zi y :: zi x :: st) mem := by
  obtain ⟨p, l, e, R, s, m, args, below, meth, c, Q, g⟩ := X
  obtain ⟨hx, hb, hml, hown, hts, hK, hN, hg, hR1, hR2, hlk, hl2, hg2⟩ := hG
  subst hl2 hg2
  intro hM hL hS H locs lsA hP hS0 hl
  have hxx : zin x := (zokS_cons.mp (zokS_cons.mp hS).2).1
  have hyy : zin y := (zokS_cons.mp hS).1
  have h2 := (zokS_cons.mp (zokS_cons.mp hS).2).2
  refine lv_icmp_eq hx hb hd ht (fun q => ?_) (fun q => ?_)
  · skip; exact kt ((zeq hxx hyy).mp q) hM hL h2 H locs lsA hP hS0 hl
  · skip; exact kf (fun z => q ((zeq hxx hyy).mpr z)) hM hL h2 H locs lsA hP hS0 hl
theorem z_if_ne (hG : zGood X l g own cc h nL) {x : Int} {off : Int} {tgt : Nat} (hd : decode cc pc = .ok (.ifCond .ne off, 3)) (ht : (pc : Int) + off = (tgt : Int)) (kt : x ≠ 0 → zZ X tgt ls st mem) (kf : x = 0 → zZ X (pc + 3) ls st mem) : zZ X pc ls (zi x :: st) mem := by
  obtain ⟨p, l, e, R, s, m, args, below, meth, c, Q, g⟩ := X
  obtain ⟨hx, hb, hml, hown, hts, hK, hN, hg, hR1, hR2, hlk, hl2, hg2⟩ := hG
  subst hl2 hg2
  intro hM hL hS H locs lsA hP hS0 hl
  have hxx : zin x := (zokS_cons.mp hS).1
  have hyy : zin 0 := z0in
  have h2 := (zokS_cons.mp hS).2
  refine lv_if_ne hx hb hd ht (fun q => ?_) (fun q => ?_)
  · rw [← z00] at q; exact kt (fun z => q ((zeq hxx hyy).mpr z)) hM hL h2 H locs lsA hP hS0 hl
  · rw [← z00] at q; exact kf ((zeq hxx hyy).mp q) hM hL h2 H locs lsA hP hS0 hl
theorem z_icmp_ne (hG : zGood X l g own cc h nL) {x y : Int} {off : Int} {tgt : Nat} (hd : decode cc pc = .ok (.if_icmp .ne off, 3)) (ht : (pc : Int) + off = (tgt : Int)) (kt : x ≠ y → zZ X tgt ls st mem) (kf : x = y → zZ X (pc + 3) ls st mem) : zZ X pc ls (zi y :: zi x :: st) mem := by
  obtain ⟨p, l, e, R, s, m, args, below, meth, c, Q, g⟩ := X
  obtain ⟨hx, hb, hml, hown, hts, hK, hN, hg, hR1, hR2, hlk, hl2, hg2⟩ := hG
  subst hl2 hg2
  intro hM hL hS H locs lsA hP hS0 hl
  have hxx : zin x := (zokS_cons.mp (zokS_cons.mp hS).2).1
  have hyy : zin y := (zokS_cons.mp hS).1
  have h2 := (zokS_cons.mp (zokS_cons.mp hS).2).2
  refine lv_icmp_ne hx hb hd ht (fun q => ?_) (fun q => ?_)
  · skip; exact kt (fun z => q ((zeq hxx hyy).mpr z)) hM hL h2 H locs lsA hP hS0 hl
  · skip; exact kf ((zeq hxx hyy).mp q) hM hL h2 H locs lsA hP hS0 hl
theorem z_if_lt (hG : zGood X l g own cc h nL) {x : Int} {off : Int} {tgt : Nat} (hd : decode cc pc = .ok (.ifCond .lt off, 3)) (ht : (pc : Int) + off = (tgt : Int)) (kt : x < 0 → zZ X tgt ls st mem) (kf : 0 ≤ x → zZ X (pc + 3) ls st mem) : zZ X pc ls (zi x :: st) mem := by
  obtain ⟨p, l, e, R, s, m, args, below, meth, c, Q, g⟩ := X
  obtain ⟨hx, hb, hml, hown, hts, hK, hN, hg, hR1, hR2, hlk, hl2, hg2⟩ := hG
  subst hl2 hg2
  intro hM hL hS H locs lsA hP hS0 hl
  have hxx : zin x := (zokS_cons.mp hS).1
  have hyy : zin 0 := z0in
  have h2 := (zokS_cons.mp hS).2
  refine lv_if_lt hx hb hd ht (fun q => ?_) (fun q => ?_)
  · rw [← z00] at q; exact kt ((zlt hxx hyy).mp q) hM hL h2 H locs lsA hP hS0 hl
  · rw [← z00] at q; rw [zlt hxx hyy] at q; exact kf (by omega) hM hL h2 H locs lsA hP hS0 hl
theorem z_icmp_lt (hG : zGood X l g own cc h nL) {x y : Int} {off : Int} {tgt : Nat} (hd : decode cc pc = .ok (.if_icmp .lt off, 3)) (ht : (pc : Int) + off = (tgt : Int)) (kt : x < y → zZ X tgt ls st mem) (kf : y ≤ x → zZ X (pc + 3) ls st mem) : zZ X pc ls (zi y :: zi x :: st) mem := by
  obtain ⟨p, l, e, R, s, m, args, below, meth, c, Q, g⟩ := X
  obtain ⟨hx, hb, hml, hown, hts, hK, hN, hg, hR1, hR2, hlk, hl2, hg2⟩ := hG
  subst hl2 hg2
  intro hM hL hS H locs lsA hP hS0 hl
  have hxx : zin x := (zokS_cons.mp (zokS_cons.mp hS).2).1
  have hyy : zin y := (zokS_cons.mp hS).1
  have h2 := (zokS_cons.mp (zokS_cons.mp hS).2).2
  refine lv_icmp_lt hx hb hd ht (fun q => ?_) (fun q => ?_)
  · skip; exact kt ((zlt hxx hyy).mp q) hM hL h2 H locs lsA hP hS0 hl
  · skip; rw [zlt hxx hyy] at q; exact kf (by omega) hM hL h2 H locs lsA hP hS0 hl
theorem z_if_ge (hG : zGood X l g own cc h nL) {x : Int} {off : Int} {tgt : Nat} (hd : decode cc pc = .ok (.ifCond .ge off, 3)) (ht : (pc : Int) + off = (tgt : Int)) (kt : 0 ≤ x → zZ X tgt ls st mem) (kf : x < 0 → zZ X (pc + 3) ls st mem) : zZ X pc ls (zi x :: st) mem := by
  obtain ⟨p, l, e, R, s, m, args, below, meth, c, Q, g⟩ := X
  obtain ⟨hx, hb, hml, hown, hts, hK, hN, hg, hR1, hR2, hlk, hl2, hg2⟩ := hG
  subst hl2 hg2
  intro hM hL hS H locs lsA hP hS0 hl
  have hxx : zin x := (zokS_cons.mp hS).1
  have hyy : zin 0 := z0in
  have h2 := (zokS_cons.mp hS).2
  refine lv_if_ge hx hb hd ht (fun q => ?_) (fun q => ?_)
  · rw [← z00] at q; exact kt ((zle hyy hxx).mp q) hM hL h2 H locs lsA hP hS0 hl
  · rw [← z00] at q; rw [zle hyy hxx] at q; exact kf (by omega) hM hL h2 H locs lsA hP hS0 hl
theorem z_icmp_ge (hG : zGood X l g own cc h nL) {x y : Int} {off : Int} {tgt : Nat} (hd : decode cc pc = .ok (.if_icmp .ge off, 3)) (ht : (pc : Int) + off = (tgt : Int)) (kt : y ≤ x → zZ X tgt ls st mem) (kf : x < y → zZ X (pc + 3) ls st mem) : zZ X pc ls (zi y :: zi x :: st) mem := by
  obtain ⟨p, l, e, R, s, m, args, below, meth, c, Q, g⟩ := X
  obtain ⟨hx, hb, hml, hown, hts, hK, hN, hg, hR1, hR2, hlk, hl2, hg2⟩ := hG
  subst hl2 hg2
  intro hM hL hS H locs lsA hP hS0 hl
  have hxx : zin x := (zokS_cons.mp (zokS_cons.mp hS).2).1
  have hyy : zin y := (zokS_cons.mp hS).1
  have h2 := (zokS_cons.mp (zokS_cons.mp hS).2).2
  refine lv_icmp_ge hx hb hd ht (fun q => ?_) (fun q => ?_)
  · skip; exact kt ((zle hyy hxx).mp q) hM hL h2 H locs lsA hP hS0 hl
  · skip; rw [zle hyy hxx] at q; exact kf (by omega) hM hL h2 H locs lsA hP hS0 hl
theorem z_if_gt (hG : zGood X l g own cc h nL) {x : Int} {off : Int} {tgt : Nat} (hd : decode cc pc = .ok (.ifCond .gt off, 3)) (ht : (pc : Int) + off = (tgt : Int)) (kt : 0 < x → zZ X tgt ls st mem) (kf : x ≤ 0 → zZ X (pc + 3) ls st mem) : zZ X pc ls (zi x :: st) mem := by
  obtain ⟨p, l, e, R, s, m, args, below, meth, c, Q, g⟩ := X
  obtain ⟨hx, hb, hml, hown, hts, hK, hN, hg, hR1, hR2, hlk, hl2, hg2⟩ := hG
  subst hl2 hg2
  intro hM hL hS H locs lsA hP hS0 hl
  have hxx : zin x := (zokS_cons.mp hS).1
  have hyy : zin 0 := z0in
  have h2 := (zokS_cons.mp hS).2
  refine lv_if_gt hx hb hd ht (fun q => ?_) (fun q => ?_)
  · rw [← z00] at q; exact kt ((zlt hyy hxx).mp q) hM hL h2 H locs lsA hP hS0 hl
  · rw [← z00] at q; rw [zlt hyy hxx] at q; exact kf (by omega) hM hL h2 H locs lsA hP hS0 hl
theorem z_icmp_gt (hG : zGood X l g own cc h nL) {x y : Int} {off : Int} {tgt : Nat} (hd : decode cc pc = .ok (.if_icmp .gt off, 3)) (ht : (pc : Int) + off = (tgt : Int)) (kt : y < x → zZ X tgt ls st mem) (kf : x ≤ y → zZ X (pc + 3) ls st mem) : zZ X pc ls (zi y :: zi x :: st) mem := by
  obtain ⟨p, l, e, R, s, m, args, below, meth, c, Q, g⟩ := X
  obtain ⟨hx, hb, hml, hown, hts, hK, hN, hg, hR1, hR2, hlk, hl2, hg2⟩ := hG
  subst hl2 hg2
  intro hM hL hS H locs lsA hP hS0 hl
  have hxx : zin x := (zokS_cons.mp (zokS_cons.mp hS).2).1
  have hyy : zin y := (zokS_cons.mp hS).1
  have h2 := (zokS_cons.mp (zokS_cons.mp hS).2).2
  refine lv_icmp_gt hx hb hd ht (fun q => ?_) (fun q => ?_)
  · skip; exact kt ((zlt hyy hxx).mp q) hM hL h2 H locs lsA hP hS0 hl
  · skip; rw [zlt hyy hxx] at q; exact kf (by omega) hM hL h2 H locs lsA hP hS0 hl
theorem z_if_le (hG : zGood X l g own cc h nL) {x : Int} {off : Int} {tgt : Nat} (hd : decode cc pc = .ok (.ifCond .le off, 3)) (ht : (pc : Int) + off = (tgt : Int)) (kt : x ≤ 0 → zZ X tgt ls st mem) (kf : 0 < x → zZ X (pc + 3) ls st mem) : zZ X pc ls (zi x :: st) mem := by
  obtain ⟨p, l, e, R, s, m, args, below, meth, c, Q, g⟩ := X
  obtain ⟨hx, hb, hml, hown, hts, hK, hN, hg, hR1, hR2, hlk, hl2, hg2⟩ := hG
  subst hl2 hg2
  intro hM hL hS H locs lsA hP hS0 hl
  have hxx : zin x := (zokS_cons.mp hS).1
  have hyy : zin 0 := z0in
  have h2 := (zokS_cons.mp hS).2
  refine lv_if_le hx hb hd ht (fun q => ?_) (fun q => ?_)
  · rw [← z00] at q; exact kt ((zle hxx hyy).mp q) hM hL h2 H locs lsA hP hS0 hl
  · rw [← z00] at q; rw [zle hxx hyy] at q; exact kf (by omega) hM hL h2 H locs lsA hP hS0 hl
theorem z_icmp_le (hG : zGood X l g own cc h nL) {x y : Int} {off : Int} {tgt : Nat} (hd : decode cc pc = .ok (.if_icmp .le off, 3)) (ht : (pc : Int) + off = (tgt : Int)) (kt : x ≤ y → zZ X tgt ls st mem) (kf : y < x → zZ X (pc + 3) ls st mem) : zZ X pc ls (zi y :: zi x :: st) mem := by
  obtain ⟨p, l, e, R, s, m, args, below, meth, c, Q, g⟩ := X
  obtain ⟨hx, hb, hml, hown, hts, hK, hN, hg, hR1, hR2, hlk, hl2, hg2⟩ := hG
  subst hl2 hg2
  intro hM hL hS H locs lsA hP hS0 hl
  have hxx : zin x := (zokS_cons.mp (zokS_cons.mp hS).2).1
  have hyy : zin y := (zokS_cons.mp hS).1
  have h2 := (zokS_cons.mp (zokS_cons.mp hS).2).2
  refine lv_icmp_le hx hb hd ht (fun q => ?_) (fun q => ?_)
  · skip; exact kt ((zle hxx hyy).mp q) hM hL h2 H locs lsA hP hS0 hl
  · skip; rw [zle hxx hyy] at q; exact kf (by omega) hM hL h2 H locs lsA hP hS0 hl
theorem z_goto (hG : zGood X l g own cc h nL) {off : Int} {tgt : Nat} (hd : decode cc pc = .ok (.goto off, 3)) (ht : (pc : Int) + off = (tgt : Int)) (k : zZ X tgt ls st mem) : zZ X pc ls st mem := by
  obtain ⟨p, l, e, R, s, m, args, below, meth, c, Q, g⟩ := X
  obtain ⟨hx, hb, hml, hown, hts, hK, hN, hg, hR1, hR2, hlk, hl2, hg2⟩ := hG
  subst hl2 hg2
  intro hM hL hS H locs lsA hP hS0 hl
  refine lv_goto hx hb hd ht ?_
  exact k hM hL hS H locs lsA hP hS0 hl
theorem z_tabIn (hG : zGood X l g own cc h nL) {dflt lo hi : Int} {offs : Array Int} {len : Nat} {x off : Int} {tgt : Nat} (hd : decode cc pc = .ok (.tableswitch dflt lo hi offs, len)) (h1 : lo ≤ x) (h2 : x ≤ hi) (ho : offs[(x - lo).toNat]? = some off) (ht : (pc : Int) + off = (tgt : Int)) (k : zZ X tgt ls st mem) : zZ X pc ls (zi x :: st) mem := by
  obtain ⟨p, l, e, R, s, m, args, below, meth, c, Q, g⟩ := X
  obtain ⟨hx, hb, hml, hown, hts, hK, hN, hg, hR1, hR2, hlk, hl2, hg2⟩ := hG
  subst hl2 hg2
  intro hM hL hS H locs lsA hP hS0 hl
  have hxx : zin x := (zokS_cons.mp hS).1
  refine lv_tableIn hx hb hd (by rw [zti hxx]; omega) (by rw [zti hxx]; omega) (by rw [zti hxx]; exact ho) ht ?_
  exact k hM hL (zokS_cons.mp hS).2 H locs lsA hP hS0 hl
theorem z_tabOut (hG : zGood X l g own cc h nL) {dflt lo hi : Int} {offs : Array Int} {len : Nat} {x : Int} {tgt : Nat} (hd : decode cc pc = .ok (.tableswitch dflt lo hi offs, len)) (h1 : x < lo ∨ hi < x) (ht : (pc : Int) + dflt = (tgt : Int)) (k : zZ X tgt ls st mem) : zZ X pc ls (zi x :: st) mem := by
  obtain ⟨p, l, e, R, s, m, args, below, meth, c, Q, g⟩ := X
  obtain ⟨hx, hb, hml, hown, hts, hK, hN, hg, hR1, hR2, hlk, hl2, hg2⟩ := hG
  subst hl2 hg2
  intro hM hL hS H locs lsA hP hS0 hl
  have hxx : zin x := (zokS_cons.mp hS).1
  refine lv_tableOut hx hb hd (by rw [zti hxx]; exact h1) ht ?_
  exact k hM hL (zokS_cons.mp hS).2 H locs lsA hP hS0 hl
theorem z_lookup (hG : zGood X l g own cc h nL) {dflt : Int} {ps : Array (Int × Int)} {len : Nat} {x off : Int} {tgt : Nat} (hd : decode cc pc = .ok (.lookupswitch dflt ps, len)) (hp : (ps.toList.zip (ps.toList.drop 1)).all (fun (a, next) => a.1 < next.1) = true) (ho : Op.lookupswitch.offset ps.toList dflt x = off) (ht : (pc : Int) + off = (tgt : Int)) (k : zZ X tgt ls st mem) : zZ X pc ls (zi x :: st) mem := by
  obtain ⟨p, l, e, R, s, m, args, below, meth, c, Q, g⟩ := X
  obtain ⟨hx, hb, hml, hown, hts, hK, hN, hg, hR1, hR2, hlk, hl2, hg2⟩ := hG
  subst hl2 hg2
  intro hM hL hS H locs lsA hP hS0 hl
  have hxx : zin x := (zokS_cons.mp hS).1
  refine lv_lookup hx hb hd hp (by rw [zti hxx]; exact ho) ht ?_
  exact k hM hL (zokS_cons.mp hS).2 H locs lsA hP hS0 hl
end ZROWS
end
section
/-! LINKS: what the tables say of a place in a class's constant pool -/
/-- own's place i names the field k of class ci -/
def zFL (own : String) (i ci k : Nat) : Prop := ∃ (C : String) (T : u_T) (N : Nat), vwCl[ci]? = some (C, T, N) ∧ zNF ci = N ∧ k < N ∧ (T k).1 = C ∧ Cond.fieldLink own i C (T k).2.1 (T k).2.2.1 ∈ zW ∧ ∀ w ∈ u_ws C T N, w ∈ zW
/-- a field that isn't final, of a type -/
def zFP (own : String) (i ci k : Nat) (ty : FieldType) : Prop := ∃ (C : String) (T : u_T) (N : Nat) (ty0 : Nat → FieldType), vwCl[ci]? = some (C, T, N) ∧ zNF ci = N ∧ k < N ∧ (T k).1 = C ∧ Cond.fieldLink own i C (T k).2.1 (T k).2.2.1 ∈ zW ∧ (∀ w ∈ u_ws C T N, w ∈ zW) ∧
  (∀ k, k < N → parseFieldDescriptor (T k).2.2.1 = some (ty0 k)) ∧ (∀ a, a < N → ∀ b, b < N → a ≠ b → (T a).2.1 ≠ (T b).2.1) ∧ (T k).2.2.2 = false ∧ ty0 k = ty
/-- own's place i names the method y, of class ci, with n arguments -/
def zLV (own : String) (i : Nat) (y : zY) (ci n : Nat) : Prop := (∃ (C : String) (T : u_T) (N : Nat), vwCl[ci]? = some (C, T, N) ∧ y.1.cls = C ∧ Cond.selects C y.1 y.1 ∈ zW) ∧ Cond.methodLink own i y.1 ∈ zW ∧ Cond.instanceMethod y.1 ∈ zW ∧ Cond.initialized y.1.cls ∈ zW ∧ Cond.code y.1 y.2.1 y.2.2.1 y.2.2.2.1 ∈ zW ∧
  (y.1.cls ≠ "java/lang/invoke/MethodHandle" ∧ y.1.cls ≠ "java/lang/invoke/VarHandle" ∧ (parseMethodDescriptor y.1.desc).map (fun d => d.parameters.length) = some n) ∧ y.2.2.1 ≤ 19
def zLS (own : String) (i : Nat) (y : zY) (n : Nat) : Prop := Cond.methodLink own i y.1 ∈ zW ∧ Cond.static y.1 ∈ zW ∧ Cond.initialized y.1.cls ∈ zW ∧ Cond.code y.1 y.2.1 y.2.2.1 y.2.2.2.1 ∈ zW ∧
  (y.1.cls ≠ "java/lang/invoke/MethodHandle" ∧ y.1.cls ≠ "java/lang/invoke/VarHandle" ∧ (parseMethodDescriptor y.1.desc).map (fun d => d.parameters.length) = some n) ∧ y.2.2.1 ≤ 19
def zLN (own : String) (i : Nat) (y : zY) (n : Nat) : Prop := (∃ host, Cond.methodLinkNest own i y.1 host ∈ zNW) ∧ Cond.static y.1 ∈ zW ∧ Cond.initialized y.1.cls ∈ zW ∧ Cond.code y.1 y.2.1 y.2.2.1 y.2.2.2.1 ∈ zW ∧
  (y.1.cls ≠ "java/lang/invoke/MethodHandle" ∧ y.1.cls ≠ "java/lang/invoke/VarHandle" ∧ (parseMethodDescriptor y.1.desc).map (fun d => d.parameters.length) = some n) ∧ y.2.2.1 ≤ 19
theorem zent_obj {g : zG} {mem : zM} {t ci : Nat} {s i : Int} (ht : zTO t = some ci) : zent g mem (t, s, i) = .inr (ci, (List.range (zNF ci)).map fun k => zfv g mem t s i ci k) := by
  simp only [zent, ht]
theorem zent_arr {g : zG} {mem : zM} {t : Nat} {q : Nat × Nat} {s i : Int} (ht : zTO t = none) (ha : zTA t = some q) (hr : zTR q.1 = false) : zent g mem (t, s, i) = .inl (g.2.2 q.1, q.2, .inl (fun j => Int32.ofInt (mem t s i j))) := by
  simp [zent, ht, ha, hr]
theorem zent_rarr {g : zG} {mem : zM} {t : Nat} {q : Nat × Nat} {s i : Int} (ht : zTO t = none) (ha : zTA t = some q) (hr : zTR q.1 = true) : zent g mem (t, s, i) = .inl (g.2.2 q.1, q.2, .inr (.inr (.inr (.inr (fun j => if j < q.2 then some (g.2.1 (zAref t s i j)) else none))))) := by
  simp [zent, ht, ha, hr]
theorem zfs_get {g : zG} {mem : zM} {t ci k : Nat} {s i : Int} (hk : k < zNF ci) : ((List.range (zNF ci)).map fun k => zfv g mem t s i ci k)[k]? = some (zfv g mem t s i ci k) := by
  simp [hk]
theorem zfs_set {g : zG} {mem : zM} {t ci k : Nat} {s i v : Int} (hf : zFR ci k = false) : ((List.range (zNF ci)).map fun k => zfv g mem t s i ci k).set k (.int (Int32.ofInt v)) = (List.range (zNF ci)).map fun j => zfv g (zset mem t s i k v) t s i ci j := by
  apply List.ext_getElem?
  intro j
  by_cases hj : j = k
  · subst hj
    by_cases hl : j < zNF ci
    · rw [List.getElem?_set_self (by simpa using hl)]
      simp [hl, zfv, hf, zset]
    · rw [List.getElem?_eq_none (by simp; omega), List.getElem?_eq_none (by simp; omega)]
  · rw [List.getElem?_set_ne (Ne.symm hj)]
    by_cases hl : j < zNF ci
    · have : ¬ ((j : Int) = (k : Int)) := by omega
      simp [hl, zfv, zset, this]
    · rw [List.getElem?_eq_none (by simp; omega), List.getElem?_eq_none (by simp; omega)]
theorem zTYS_at {g : zG} {k : Nat} (h : k < 8) : (zTYS g)[k]? = some (g.2.2 k, zTY.getD k .int) := by
  simp [zTYS, h]
theorem zvp {j : Int} {n : Nat} (hz : zin j) (h0 : 0 ≤ j) (h1 : j < n) : vp_in (Int32.ofInt j) n := by
  rw [vp_in_iff, zti hz]
  exact ⟨h0, h1⟩
section ZHEAP
variable {X : zX} {l : Launch} {g : zG} {own : String} {cc : ByteArray} {h nL pc : Nat} {ls : zL} {st : List zV} {mem : zM}
theorem z_getI (hG : zGood X l g own cc h nL) {i ci k t : Nat} {s i' kk : Int} (hd : decode cc pc = .ok (.getfield i, 3)) (hw : zFL own i ci k) (ht : zTO t = some ci) (hf : zFR ci k = false) (hkk : (k : Int) = kk) (K : zZ X (pc + 3) ls (zi (mem t s i' kk) :: st) mem) : zZ X pc ls (zr t s i' :: st) mem := by
  subst hkk
  obtain ⟨p, l, e, R, s2, m, args, below, meth, c, Q, g⟩ := X
  obtain ⟨hx, hb, hml, hown, hts, hK, hN, hg, hR1, hR2, hlk, hl2, hg2⟩ := hG
  subst hl2 hg2
  intro hM hL hS H locs lsA hP hS0 hl
  obtain ⟨C, T, N, hc, hnf, hkN, hC, hlw, hin⟩ := hw
  have ho : (t, s, i') ∈ zOs := (zokS_cons.mp hS).1
  obtain ⟨q0, hq, he⟩ := zplace ho g mem
  rw [zent_obj ht] at he
  refine va_get (D := g.1) (Ts := zW) hx hb hts hin hown hK hP q0 he hc k hkN (hts _ hlw) (by rw [hC]; exact fun _ z => z) (zfs_get (by omega)) hd ?_
  have e : zfv g mem t s i' ci k = .int (Int32.ofInt (mem t s i' k)) := by simp [zfv, hf]
  rw [e]
  exact K hM hL (zokS_cons.mpr ⟨hM _ _ _ _, (zokS_cons.mp hS).2⟩) H locs lsA hP hS0 hl
theorem z_getR (hG : zGood X l g own cc h nL) {i ci k t : Nat} {s i' : Int} {o : zO} (hd : decode cc pc = .ok (.getfield i, 3)) (hw : zFL own i ci k) (ht : zTO t = some ci) (hf : zFR ci k = true) (ho2 : zFref t s i' k = o) (hok : (t, s, i') ∈ zOs → o ∈ zOs) (K : zZ X (pc + 3) ls (.inr (.inr o) :: st) mem) : zZ X pc ls (zr t s i' :: st) mem := by
  subst ho2
  obtain ⟨p, l, e, R, s2, m, args, below, meth, c, Q, g⟩ := X
  obtain ⟨hx, hb, hml, hown, hts, hK, hN, hg, hR1, hR2, hlk, hl2, hg2⟩ := hG
  subst hl2 hg2
  intro hM hL hS H locs lsA hP hS0 hl
  obtain ⟨C, T, N, hc, hnf, hkN, hC, hlw, hin⟩ := hw
  have ho : (t, s, i') ∈ zOs := (zokS_cons.mp hS).1
  obtain ⟨q0, hq, he⟩ := zplace ho g mem
  rw [zent_obj ht] at he
  refine va_get (D := g.1) (Ts := zW) hx hb hts hin hown hK hP q0 he hc k hkN (hts _ hlw) (by rw [hC]; exact fun _ z => z) (zfs_get (by omega)) hd ?_
  have e : zfv g mem t s i' ci k = .ref (g.2.1 (zFref t s i' k)) := by simp [zfv, hf]
  rw [e]
  exact K hM hL (zokS_cons.mpr ⟨hok ho, (zokS_cons.mp hS).2⟩) H locs lsA hP hS0 hl
theorem z_putI (hG : zGood X l g own cc h nL) {i ci k t : Nat} {ty : FieldType} {s i' kk v : Int} (hd : decode cc pc = .ok (.putfield i, 3)) (hw : zFP own i ci k ty) (ht : zTO t = some ci) (hf : zFR ci k = false) (hkk : (k : Int) = kk) (hn : narrow ty (.int (Int32.ofInt v)) = .int (Int32.ofInt v)) (hfit : fits ty (.int (Int32.ofInt v)) = true) (K : zZ X (pc + 3) ls st (zset mem t s i' kk v)) : zZ X pc ls (zi v :: zr t s i' :: st) mem := by
  subst hkk
  obtain ⟨p, l, e, R, s2, m, args, below, meth, c, Q, g⟩ := X
  obtain ⟨hx, hb, hml, hown, hts, hK, hN, hg, hR1, hR2, hlk, hl2, hg2⟩ := hG
  subst hl2 hg2
  intro hM hL hS H locs lsA hP hS0 hl
  obtain ⟨C, T, N, ty0, hc, hnf, hkN, hC, hlw, hin, hty, hnm, hfin, hty2⟩ := hw
  have hv : zin v := (zokS_cons.mp hS).1
  have hS2 := (zokS_cons.mp hS).2
  have ho : (t, s, i') ∈ zOs := (zokS_cons.mp hS2).1
  obtain ⟨q0, hq, he⟩ := zplace ho g mem
  rw [zent_obj ht] at he
  refine va_put (D := g.1) (Ts := zW) hx hb hts hin ty0 hty hnm hown hK hP (zDw hg mem) hS0 q0 he hc k hkN (hts _ hlw) (by rw [hC]; exact fun _ z => z) hfin (ty := ty) (by rw [hty k hkN, hty2]) hn hfit (by simp; omega) hd fun H1 locs1 hP1 _ hS1 => ?_
  rw [show zup g (zi v) = Value.int (Int32.ofInt v) from rfl, zfs_set hf, zWS_set hq (mem' := zset mem t s i' k v) (zent_obj ht) (fun o' h' => zent_ne h')] at hP1
  exact K (zokM_set hM hv _ _ _ _) hL (zokS_cons.mp hS2).2 H1 locs1 lsA hP1 hS1 hl
theorem z_put (hG : zGood X l g own cc h nL) {i ci k t : Nat} {s i' kk v : Int} (hd : decode cc pc = .ok (.putfield i, 3)) (hw : zFP own i ci k .int) (ht : zTO t = some ci) (hf : zFR ci k = false) (hkk : (k : Int) = kk) (K : zZ X (pc + 3) ls st (zset mem t s i' kk v)) : zZ X pc ls (zi v :: zr t s i' :: st) mem :=
  z_putI hG hd hw ht hf hkk rfl rfl K
theorem z_putB (hG : zGood X l g own cc h nL) {i ci k t : Nat} {s i' kk v : Int} (hd : decode cc pc = .ok (.putfield i, 3)) (hw : zFP own i ci k .boolean) (ht : zTO t = some ci) (hf : zFR ci k = false) (hkk : (k : Int) = kk) (hv : v = 0 ∨ v = 1) (K : zZ X (pc + 3) ls st (zset mem t s i' kk v)) : zZ X pc ls (zi v :: zr t s i' :: st) mem := by
  rcases hv with rfl | rfl
  · exact z_putI hG hd hw ht hf hkk rfl rfl K
  · exact z_putI hG hd hw ht hf hkk rfl rfl K
theorem z_alen (hG : zGood X l g own cc h nL) {t : Nat} {q : Nat × Nat} {s i' n : Int} (hd : decode cc pc = .ok (.arraylength, 1)) (ht : zTO t = none) (ha : zTA t = some q) (hq8 : q.1 < 8) (hn : (q.2 : Int) = n) (hz : zb32 n = true) (K : zZ X (pc + 1) ls (zi n :: st) mem) : zZ X pc ls (zr t s i' :: st) mem := by
  obtain ⟨p, l, e, R, s2, m, args, below, meth, c, Q, g⟩ := X
  obtain ⟨hx, hb, hml, hown, hts, hK, hN, hg, hR1, hR2, hlk, hl2, hg2⟩ := hG
  subst hl2 hg2
  intro hM hL hS H locs lsA hP hS0 hl
  have ho : (t, s, i') ∈ zOs := (zokS_cons.mp hS).1
  obtain ⟨q0, hq, he⟩ := zplace ho g mem
  have e1 : Int32.ofNat q.2 = Int32.ofInt n := by rw [← hn]; exact (Int32.ofInt_eq_ofNat).symm
  have key : ∃ x, zent g mem (t, s, i') = .inl (g.2.2 q.1, q.2, x) := by
    cases hr : zTR q.1 with
    | false => exact ⟨_, zent_arr ht ha hr⟩
    | true => exact ⟨_, zent_rarr ht ha hr⟩
  obtain ⟨x, hxx⟩ := key
  rw [hxx] at he
  refine va_alen (D := g.1) hx hb hK hP q0 q.1 he (zTYS_at hq8) (v := Int32.ofInt n) e1 hd ?_
  exact K hM hL (zokS_cons.mpr ⟨zb32_in hz, (zokS_cons.mp hS).2⟩) H locs lsA hP hS0 hl
theorem z_iald (hG : zGood X l g own cc h nL) {t n : Nat} {s i' j : Int} (hd : decode cc pc = .ok (.iaload, 1)) (ht : zTO t = none) (ha : zTA t = some (0, n)) (h0 : 0 ≤ j) (h1 : j < n) (K : zZ X (pc + 1) ls (zi (mem t s i' j) :: st) mem) : zZ X pc ls (zi j :: zr t s i' :: st) mem := by
  obtain ⟨p, l, e, R, s2, m, args, below, meth, c, Q, g⟩ := X
  obtain ⟨hx, hb, hml, hown, hts, hK, hN, hg, hR1, hR2, hlk, hl2, hg2⟩ := hG
  subst hl2 hg2
  intro hM hL hS H locs lsA hP hS0 hl
  have hz : zin j := (zokS_cons.mp hS).1
  have hS2 := (zokS_cons.mp hS).2
  have ho : (t, s, i') ∈ zOs := (zokS_cons.mp hS2).1
  obtain ⟨q0, hq, he⟩ := zplace ho g mem
  rw [zent_arr ht ha rfl] at he
  refine va_iald (D := g.1) hx hb hK hP q0 0 he (zTYS_at (by decide)) (zvp hz h0 h1) hd ?_
  rw [zcl hz, Int.toNat_of_nonneg h0]
  exact K hM hL (zokS_cons.mpr ⟨hM _ _ _ _, (zokS_cons.mp hS2).2⟩) H locs lsA hP hS0 hl
theorem z_zald (hG : zGood X l g own cc h nL) {t n : Nat} {s i' j : Int} (hd : decode cc pc = .ok (.baload, 1)) (ht : zTO t = none) (ha : zTA t = some (1, n)) (h0 : 0 ≤ j) (h1 : j < n) (K : zZ X (pc + 1) ls (zi (mem t s i' j) :: st) mem) : zZ X pc ls (zi j :: zr t s i' :: st) mem := by
  obtain ⟨p, l, e, R, s2, m, args, below, meth, c, Q, g⟩ := X
  obtain ⟨hx, hb, hml, hown, hts, hK, hN, hg, hR1, hR2, hlk, hl2, hg2⟩ := hG
  subst hl2 hg2
  intro hM hL hS H locs lsA hP hS0 hl
  have hz : zin j := (zokS_cons.mp hS).1
  have hS2 := (zokS_cons.mp hS).2
  have ho : (t, s, i') ∈ zOs := (zokS_cons.mp hS2).1
  obtain ⟨q0, hq, he⟩ := zplace ho g mem
  rw [zent_arr ht ha rfl] at he
  refine va_zald (D := g.1) hx hb hK hP q0 1 he (zTYS_at (by decide)) (zvp hz h0 h1) hd ?_
  rw [zcl hz, Int.toNat_of_nonneg h0]
  exact K hM hL (zokS_cons.mpr ⟨hM _ _ _ _, (zokS_cons.mp hS2).2⟩) H locs lsA hP hS0 hl
theorem z_cald (hG : zGood X l g own cc h nL) {t n : Nat} {s i' j : Int} (hd : decode cc pc = .ok (.caload, 1)) (ht : zTO t = none) (ha : zTA t = some (2, n)) (h0 : 0 ≤ j) (h1 : j < n) (K : zZ X (pc + 1) ls (zi (mem t s i' j) :: st) mem) : zZ X pc ls (zi j :: zr t s i' :: st) mem := by
  obtain ⟨p, l, e, R, s2, m, args, below, meth, c, Q, g⟩ := X
  obtain ⟨hx, hb, hml, hown, hts, hK, hN, hg, hR1, hR2, hlk, hl2, hg2⟩ := hG
  subst hl2 hg2
  intro hM hL hS H locs lsA hP hS0 hl
  have hz : zin j := (zokS_cons.mp hS).1
  have hS2 := (zokS_cons.mp hS).2
  have ho : (t, s, i') ∈ zOs := (zokS_cons.mp hS2).1
  obtain ⟨q0, hq, he⟩ := zplace ho g mem
  rw [zent_arr ht ha rfl] at he
  refine va_cald (D := g.1) hx hb hK hP q0 2 he (zTYS_at (by decide)) (zvp hz h0 h1) hd ?_
  rw [zcl hz, Int.toNat_of_nonneg h0]
  exact K hM hL (zokS_cons.mpr ⟨hM _ _ _ _, (zokS_cons.mp hS2).2⟩) H locs lsA hP hS0 hl
theorem z_aald (hG : zGood X l g own cc h nL) {t : Nat} {q : Nat × Nat} {s i' j : Int} {o : zO} (hd : decode cc pc = .ok (.aaload, 1)) (ht : zTO t = none) (ha : zTA t = some q) (hr : zTR q.1 = true) (hq8 : q.1 < 8) (hrt : (zTY.getD q.1 .int).isReference = true) (h0 : 0 ≤ j) (h1 : j < q.2) (ho2 : zAref t s i' j = o) (hok : (t, s, i') ∈ zOs → o ∈ zOs) (K : zZ X (pc + 1) ls (.inr (.inr o) :: st) mem) : zZ X pc ls (zi j :: zr t s i' :: st) mem := by
  subst ho2
  obtain ⟨p, l, e, R, s2, m, args, below, meth, c, Q, g⟩ := X
  obtain ⟨hx, hb, hml, hown, hts, hK, hN, hg, hR1, hR2, hlk, hl2, hg2⟩ := hG
  subst hl2 hg2
  intro hM hL hS H locs lsA hP hS0 hl
  have hz : zin j := (zokS_cons.mp hS).1
  have hS2 := (zokS_cons.mp hS).2
  have ho : (t, s, i') ∈ zOs := (zokS_cons.mp hS2).1
  obtain ⟨q0, hq, he⟩ := zplace ho g mem
  rw [zent_rarr ht ha hr] at he
  have hin := zvp hz h0 h1
  have hlt : (Int32.ofInt j).toNatClampNeg < q.2 := by rw [zcl hz]; omega
  have hcell := hP q0 _ he
  refine W.aald (v := .ref (g.2.1 (zAref t s i' j))) (ty := zTY.getD q.1 .int) hx hb hcell ((hK.2 q.1 _ (zTYS_at hq8)).1 q.2 (fun j => va_rf (if j < q.2 then some (g.2.1 (zAref t s i' j)) else none))) hrt (fun q => by cases q) (by show ¬ (_ < 0 ∨ (arrV _ _ _).slots.size ≤ _); rw [arrV_size]; exact hin) ?_ rfl rfl hd ?_
  · show (arrV _ _ _).slots[_]? = _
    rw [arrV_read _ _ hlt]
    show some (va_rf (if (Int32.ofInt j).toNatClampNeg < q.2 then some (g.2.1 (zAref t s i' ((Int32.ofInt j).toNatClampNeg : Nat))) else none)) = _
    rw [if_pos hlt, zcl hz, Int.toNat_of_nonneg h0]
    rfl
  · exact K hM hL (zokS_cons.mpr ⟨hok ho, (zokS_cons.mp hS2).2⟩) H locs lsA hP hS0 hl
/-- an array's contents with one place written -/
theorem zent_upd {g : zG} {mem : zM} {t : Nat} {q : Nat × Nat} {s i' j v : Int} (h0 : 0 ≤ j) (ht : zTO t = none) (ha : zTA t = some q) (hr : zTR q.1 = false) : zent g (zset mem t s i' j v) (t, s, i') = .inl (g.2.2 q.1, q.2, .inl (upd (fun j => Int32.ofInt (mem t s i' j)) j.toNat (Int32.ofInt v))) := by
  rw [zent_arr ht ha hr]
  congr 3
  congr 1
  funext k
  by_cases hk : k = j.toNat
  · subst hk
    simp [upd, zset, Int.toNat_of_nonneg h0]
  · have : ¬ ((k : Int) = j) := by omega
    simp [upd, hk, zset, this]
theorem z_iast (hG : zGood X l g own cc h nL) {t n : Nat} {s i' j v : Int} (hd : decode cc pc = .ok (.iastore, 1)) (ht : zTO t = none) (ha : zTA t = some (0, n)) (h0 : 0 ≤ j) (h1 : j < n) (K : zZ X (pc + 1) ls st (zset mem t s i' j v)) : zZ X pc ls (zi v :: zi j :: zr t s i' :: st) mem := by
  obtain ⟨p, l, e, R, s2, m, args, below, meth, c, Q, g⟩ := X
  obtain ⟨hx, hb, hml, hown, hts, hK, hN, hg, hR1, hR2, hlk, hl2, hg2⟩ := hG
  subst hl2 hg2
  intro hM hL hS H locs lsA hP hS0 hl
  have hv : zin v := (zokS_cons.mp hS).1
  have hz : zin j := (zokS_cons.mp (zokS_cons.mp hS).2).1
  have hS2 := (zokS_cons.mp (zokS_cons.mp hS).2).2
  have ho : (t, s, i') ∈ zOs := (zokS_cons.mp hS2).1
  obtain ⟨q0, hq, he⟩ := zplace ho g mem
  rw [zent_arr ht ha rfl] at he
  refine va_iast (D := g.1) hx hb hK hP (zDw hg mem) hS0 q0 0 he (zTYS_at (by decide)) (zvp hz h0 h1) hd fun H1 locs1 hP1 _ hS1 => ?_
  rw [zcl hz, zWS_set hq (mem' := zset mem t s i' j v) (zent_upd h0 ht ha rfl) (fun o' h' => zent_ne h')] at hP1
  exact K (zokM_set hM hv _ _ _ _) hL (zokS_cons.mp hS2).2 H1 locs1 lsA hP1 hS1 hl
theorem z_zast (hG : zGood X l g own cc h nL) {t n : Nat} {s i' j v : Int} (hd : decode cc pc = .ok (.bastore, 1)) (ht : zTO t = none) (ha : zTA t = some (1, n)) (h0 : 0 ≤ j) (h1 : j < n) (hv2 : v = 0 ∨ v = 1) (K : zZ X (pc + 1) ls st (zset mem t s i' j v)) : zZ X pc ls (zi v :: zi j :: zr t s i' :: st) mem := by
  obtain ⟨p, l, e, R, s2, m, args, below, meth, c, Q, g⟩ := X
  obtain ⟨hx, hb, hml, hown, hts, hK, hN, hg, hR1, hR2, hlk, hl2, hg2⟩ := hG
  subst hl2 hg2
  intro hM hL hS H locs lsA hP hS0 hl
  have hv : zin v := (zokS_cons.mp hS).1
  have hz : zin j := (zokS_cons.mp (zokS_cons.mp hS).2).1
  have hS2 := (zokS_cons.mp (zokS_cons.mp hS).2).2
  have ho : (t, s, i') ∈ zOs := (zokS_cons.mp hS2).1
  obtain ⟨q0, hq, he⟩ := zplace ho g mem
  rw [zent_arr ht ha rfl] at he
  refine va_zast (D := g.1) hx hb hK hP (zDw hg mem) hS0 q0 1 he (zTYS_at (by decide)) (zvp hz h0 h1) hd fun H1 locs1 hP1 _ hS1 => ?_
  have e : vp_nar .boolean (Int32.ofInt v) = Int32.ofInt v := by rcases hv2 with rfl | rfl <;> rfl
  rw [e, zcl hz, zWS_set hq (mem' := zset mem t s i' j v) (zent_upd h0 ht ha rfl) (fun o' h' => zent_ne h')] at hP1
  exact K (zokM_set hM hv _ _ _ _) hL (zokS_cons.mp hS2).2 H1 locs1 lsA hP1 hS1 hl
theorem z_cast (hG : zGood X l g own cc h nL) {t n : Nat} {s i' j v : Int} (hd : decode cc pc = .ok (.castore, 1)) (ht : zTO t = none) (ha : zTA t = some (2, n)) (h0 : 0 ≤ j) (h1 : j < n) (hv0 : 0 ≤ v) (hv1 : v < 65536) (K : zZ X (pc + 1) ls st (zset mem t s i' j v)) : zZ X pc ls (zi v :: zi j :: zr t s i' :: st) mem := by
  obtain ⟨p, l, e, R, s2, m, args, below, meth, c, Q, g⟩ := X
  obtain ⟨hx, hb, hml, hown, hts, hK, hN, hg, hR1, hR2, hlk, hl2, hg2⟩ := hG
  subst hl2 hg2
  intro hM hL hS H locs lsA hP hS0 hl
  have hv : zin v := (zokS_cons.mp hS).1
  have hz : zin j := (zokS_cons.mp (zokS_cons.mp hS).2).1
  have hS2 := (zokS_cons.mp (zokS_cons.mp hS).2).2
  have ho : (t, s, i') ∈ zOs := (zokS_cons.mp hS2).1
  obtain ⟨q0, hq, he⟩ := zplace ho g mem
  rw [zent_arr ht ha rfl] at he
  refine va_cast (D := g.1) hx hb hK hP (zDw hg mem) hS0 q0 2 he (zTYS_at (by decide)) (zvp hz h0 h1) hd fun H1 locs1 hP1 _ hS1 => ?_
  have e : vp_nar .char (Int32.ofInt v) = Int32.ofInt v := by
    rw [vp_nar_char]
    obtain ⟨n2, rfl⟩ := Int.eq_ofNat_of_zero_le hv0
    have h2 := (pk_charN (q := n2) (by omega)).1
    have h3 : vp_nar .char (nI n2) = nI n2 := by unfold vp_nar; rw [h2]
    rw [vp_nar_char] at h3
    exact h3
  rw [e, zcl hz, zWS_set hq (mem' := zset mem t s i' j v) (zent_upd h0 ht ha rfl) (fun o' h' => zent_ne h')] at hP1
  exact K (zokM_set hM hv _ _ _ _) hL (zokS_cons.mp hS2).2 H1 locs1 lsA hP1 hS1 hl
end ZHEAP
end
