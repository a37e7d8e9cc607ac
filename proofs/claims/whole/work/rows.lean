section
-- ===== PART A: goes FIRST, ahead of the names: the tables' words, and 'selects' of the private methods out of them =====
/-- a private method of a class that the tables say can be made, by its rows of tables_1 -/
def lw_okq (q : MethodName × Nat) : Prop := (q.1.cls ≠ "java/lang/invoke/MethodHandle" ∧ q.1.cls ≠ "java/lang/invoke/VarHandle") ∧ Cond.instantiable q.1.cls q.2 ∈ tables_1 ∧ Cond.privateMethod q.1 ∈ tables_1 ∧ Cond.instanceMethod q.1 ∈ tables_1
theorem lw_p0 : lw_okq (⟨"TinKitchen$Reader", "readNumber", "(I)I"⟩, 4) := ⟨⟨by decide +kernel, by decide +kernel⟩, List.mem_of_getElem? (i := 236) (by decide +kernel), List.mem_of_getElem? (i := 505) (by decide +kernel), List.mem_of_getElem? (i := 506) (by decide +kernel)⟩
theorem lw_p1 : lw_okq (⟨"TinKitchen$Reader", "readDigit", "(II)I"⟩, 4) := ⟨⟨by decide +kernel, by decide +kernel⟩, List.mem_of_getElem? (i := 236) (by decide +kernel), List.mem_of_getElem? (i := 509) (by decide +kernel), List.mem_of_getElem? (i := 510) (by decide +kernel)⟩
theorem lw_p2 : lw_okq (⟨"TinKitchen$Reader", "digitHere", "()I"⟩, 4) := ⟨⟨by decide +kernel, by decide +kernel⟩, List.mem_of_getElem? (i := 236) (by decide +kernel), List.mem_of_getElem? (i := 513) (by decide +kernel), List.mem_of_getElem? (i := 514) (by decide +kernel)⟩
theorem lw_p3 : lw_okq (⟨"TinKitchen$Reader", "nameHere", "()I"⟩, 4) := ⟨⟨by decide +kernel, by decide +kernel⟩, List.mem_of_getElem? (i := 236) (by decide +kernel), List.mem_of_getElem? (i := 522) (by decide +kernel), List.mem_of_getElem? (i := 523) (by decide +kernel)⟩
theorem lw_p4 : lw_okq (⟨"TinKitchen$Reader", "readAmount", "(I)V"⟩, 4) := ⟨⟨by decide +kernel, by decide +kernel⟩, List.mem_of_getElem? (i := 236) (by decide +kernel), List.mem_of_getElem? (i := 526) (by decide +kernel), List.mem_of_getElem? (i := 527) (by decide +kernel)⟩
theorem lw_p5 : lw_okq (⟨"TinKitchen$Reader", "readStep", "(I)V"⟩, 4) := ⟨⟨by decide +kernel, by decide +kernel⟩, List.mem_of_getElem? (i := 236) (by decide +kernel), List.mem_of_getElem? (i := 530) (by decide +kernel), List.mem_of_getElem? (i := 531) (by decide +kernel)⟩
theorem lw_p6 : lw_okq (⟨"TinKitchen$Reader", "readSign", "(C)V"⟩, 4) := ⟨⟨by decide +kernel, by decide +kernel⟩, List.mem_of_getElem? (i := 236) (by decide +kernel), List.mem_of_getElem? (i := 534) (by decide +kernel), List.mem_of_getElem? (i := 535) (by decide +kernel)⟩
theorem lw_p7 : lw_okq (⟨"TinKitchen$Reader", "readStepBefore", "(II)I"⟩, 4) := ⟨⟨by decide +kernel, by decide +kernel⟩, List.mem_of_getElem? (i := 236) (by decide +kernel), List.mem_of_getElem? (i := 538) (by decide +kernel), List.mem_of_getElem? (i := 539) (by decide +kernel)⟩
theorem lw_p8 : lw_okq (⟨"TinKitchen$Shopping", "clear", "(I)V"⟩, 10) := ⟨⟨by decide +kernel, by decide +kernel⟩, List.mem_of_getElem? (i := 258) (by decide +kernel), List.mem_of_getElem? (i := 574) (by decide +kernel), List.mem_of_getElem? (i := 575) (by decide +kernel)⟩
theorem lw_p9 : lw_okq (⟨"TinKitchen$Shopping", "planOne", "(LTinKitchen$State;I)V"⟩, 10) := ⟨⟨by decide +kernel, by decide +kernel⟩, List.mem_of_getElem? (i := 258) (by decide +kernel), List.mem_of_getElem? (i := 590) (by decide +kernel), List.mem_of_getElem? (i := 591) (by decide +kernel)⟩
theorem lw_p10 : lw_okq (⟨"TinKitchen$Shopping", "buy", "(LTinKitchen$Ingredient;II)V"⟩, 10) := ⟨⟨by decide +kernel, by decide +kernel⟩, List.mem_of_getElem? (i := 258) (by decide +kernel), List.mem_of_getElem? (i := 596) (by decide +kernel), List.mem_of_getElem? (i := 597) (by decide +kernel)⟩
theorem lw_p11 : lw_okq (⟨"TinKitchen$TinSearch", "mostOf", "(I)I"⟩, 10) := ⟨⟨by decide +kernel, by decide +kernel⟩, List.mem_of_getElem? (i := 266) (by decide +kernel), List.mem_of_getElem? (i := 611) (by decide +kernel), List.mem_of_getElem? (i := 612) (by decide +kernel)⟩
theorem lw_p12 : lw_okq (⟨"TinKitchen$TinSearch", "isTooDear", "(III)Z"⟩, 10) := ⟨⟨by decide +kernel, by decide +kernel⟩, List.mem_of_getElem? (i := 266) (by decide +kernel), List.mem_of_getElem? (i := 623) (by decide +kernel), List.mem_of_getElem? (i := 624) (by decide +kernel)⟩
theorem lw_p13 : lw_okq (⟨"TinKitchen$TinSearch", "offer", "(III)V"⟩, 10) := ⟨⟨by decide +kernel, by decide +kernel⟩, List.mem_of_getElem? (i := 266) (by decide +kernel), List.mem_of_getElem? (i := 628) (by decide +kernel), List.mem_of_getElem? (i := 629) (by decide +kernel)⟩
theorem lw_p14 : lw_okq (⟨"TinKitchen$TinSearch", "putTried", "(II)V"⟩, 10) := ⟨⟨by decide +kernel, by decide +kernel⟩, List.mem_of_getElem? (i := 266) (by decide +kernel), List.mem_of_getElem? (i := 633) (by decide +kernel), List.mem_of_getElem? (i := 634) (by decide +kernel)⟩
theorem lw_p15 : lw_okq (⟨"TinKitchen$TinSearch", "isBetter", "(III)Z"⟩, 10) := ⟨⟨by decide +kernel, by decide +kernel⟩, List.mem_of_getElem? (i := 266) (by decide +kernel), List.mem_of_getElem? (i := 637) (by decide +kernel), List.mem_of_getElem? (i := 638) (by decide +kernel)⟩
def lw_privs_1 : List (MethodName × Nat) := [(⟨"TinKitchen$Reader", "readNumber", "(I)I"⟩, 4), (⟨"TinKitchen$Reader", "readDigit", "(II)I"⟩, 4), (⟨"TinKitchen$Reader", "digitHere", "()I"⟩, 4), (⟨"TinKitchen$Reader", "nameHere", "()I"⟩, 4), (⟨"TinKitchen$Reader", "readAmount", "(I)V"⟩, 4), (⟨"TinKitchen$Reader", "readStep", "(I)V"⟩, 4), (⟨"TinKitchen$Reader", "readSign", "(C)V"⟩, 4), (⟨"TinKitchen$Reader", "readStepBefore", "(II)I"⟩, 4), (⟨"TinKitchen$Shopping", "clear", "(I)V"⟩, 10), (⟨"TinKitchen$Shopping", "planOne", "(LTinKitchen$State;I)V"⟩, 10), (⟨"TinKitchen$Shopping", "buy", "(LTinKitchen$Ingredient;II)V"⟩, 10), (⟨"TinKitchen$TinSearch", "mostOf", "(I)I"⟩, 10), (⟨"TinKitchen$TinSearch", "isTooDear", "(III)Z"⟩, 10), (⟨"TinKitchen$TinSearch", "offer", "(III)V"⟩, 10), (⟨"TinKitchen$TinSearch", "putTried", "(II)V"⟩, 10), (⟨"TinKitchen$TinSearch", "isBetter", "(III)Z"⟩, 10)]
theorem lw_r1 : ∀ q ∈ lw_privs_1, lw_okq q := List.forall_mem_cons.mpr ⟨lw_p0, List.forall_mem_cons.mpr ⟨lw_p1, List.forall_mem_cons.mpr ⟨lw_p2, List.forall_mem_cons.mpr ⟨lw_p3, List.forall_mem_cons.mpr ⟨lw_p4, List.forall_mem_cons.mpr ⟨lw_p5, List.forall_mem_cons.mpr ⟨lw_p6, List.forall_mem_cons.mpr ⟨lw_p7, List.forall_mem_cons.mpr ⟨lw_p8, List.forall_mem_cons.mpr ⟨lw_p9, List.forall_mem_cons.mpr ⟨lw_p10, List.forall_mem_cons.mpr ⟨lw_p11, List.forall_mem_cons.mpr ⟨lw_p12, List.forall_mem_cons.mpr ⟨lw_p13, List.forall_mem_cons.mpr ⟨lw_p14, List.forall_mem_cons.mpr ⟨lw_p15, fun _ h => absurd h List.not_mem_nil⟩⟩⟩⟩⟩⟩⟩⟩⟩⟩⟩⟩⟩⟩⟩⟩
theorem lw_p16 : lw_okq (⟨"TinKitchen$Shopping", "replace", "(LTinKitchen$State;II)Z"⟩, 10) := ⟨⟨by decide +kernel, by decide +kernel⟩, List.mem_of_getElem? (i := 258) (by decide +kernel), List.mem_of_getElem? (i := 642) (by decide +kernel), List.mem_of_getElem? (i := 643) (by decide +kernel)⟩
theorem lw_p17 : lw_okq (⟨"TinKitchen", "canBeCooked", "()Z"⟩, 8) := ⟨⟨by decide +kernel, by decide +kernel⟩, List.mem_of_getElem? (i := 16) (by decide +kernel), List.mem_of_getElem? (i := 649) (by decide +kernel), List.mem_of_getElem? (i := 650) (by decide +kernel)⟩
theorem lw_p18 : lw_okq (⟨"TinKitchen", "tailInMenu", "(II)I"⟩, 8) := ⟨⟨by decide +kernel, by decide +kernel⟩, List.mem_of_getElem? (i := 16) (by decide +kernel), List.mem_of_getElem? (i := 729) (by decide +kernel), List.mem_of_getElem? (i := 730) (by decide +kernel)⟩
theorem lw_p19 : lw_okq (⟨"TinKitchen$Schedule", "gatherSteps", "(LTinKitchen$Recipe;I)V"⟩, 9) := ⟨⟨by decide +kernel, by decide +kernel⟩, List.mem_of_getElem? (i := 346) (by decide +kernel), List.mem_of_getElem? (i := 737) (by decide +kernel), List.mem_of_getElem? (i := 738) (by decide +kernel)⟩
theorem lw_p20 : lw_okq (⟨"TinKitchen$Schedule", "longestBehind", "(III)I"⟩, 9) := ⟨⟨by decide +kernel, by decide +kernel⟩, List.mem_of_getElem? (i := 346) (by decide +kernel), List.mem_of_getElem? (i := 743) (by decide +kernel), List.mem_of_getElem? (i := 744) (by decide +kernel)⟩
theorem lw_p21 : lw_okq (⟨"TinKitchen$Schedule", "insert", "(I)V"⟩, 9) := ⟨⟨by decide +kernel, by decide +kernel⟩, List.mem_of_getElem? (i := 346) (by decide +kernel), List.mem_of_getElem? (i := 748) (by decide +kernel), List.mem_of_getElem? (i := 749) (by decide +kernel)⟩
theorem lw_p22 : lw_okq (⟨"TinKitchen", "beginInMenu", "(II)I"⟩, 8) := ⟨⟨by decide +kernel, by decide +kernel⟩, List.mem_of_getElem? (i := 16) (by decide +kernel), List.mem_of_getElem? (i := 752) (by decide +kernel), List.mem_of_getElem? (i := 753) (by decide +kernel)⟩
theorem lw_p23 : lw_okq (⟨"TinKitchen$Schedule", "beginAt", "(II)V"⟩, 9) := ⟨⟨by decide +kernel, by decide +kernel⟩, List.mem_of_getElem? (i := 346) (by decide +kernel), List.mem_of_getElem? (i := 760) (by decide +kernel), List.mem_of_getElem? (i := 761) (by decide +kernel)⟩
theorem lw_p24 : lw_okq (⟨"TinKitchen$Schedule", "busyHands", "(I)I"⟩, 9) := ⟨⟨by decide +kernel, by decide +kernel⟩, List.mem_of_getElem? (i := 346) (by decide +kernel), List.mem_of_getElem? (i := 764) (by decide +kernel), List.mem_of_getElem? (i := 765) (by decide +kernel)⟩
theorem lw_p25 : lw_okq (⟨"TinKitchen$Schedule", "isReady", "(II)Z"⟩, 9) := ⟨⟨by decide +kernel, by decide +kernel⟩, List.mem_of_getElem? (i := 346) (by decide +kernel), List.mem_of_getElem? (i := 768) (by decide +kernel), List.mem_of_getElem? (i := 769) (by decide +kernel)⟩
theorem lw_p26 : lw_okq (⟨"TinKitchen$Schedule", "hasEnded", "(II)Z"⟩, 9) := ⟨⟨by decide +kernel, by decide +kernel⟩, List.mem_of_getElem? (i := 346) (by decide +kernel), List.mem_of_getElem? (i := 773) (by decide +kernel), List.mem_of_getElem? (i := 774) (by decide +kernel)⟩
theorem lw_p27 : lw_okq (⟨"TinKitchen$Schedule", "nextEnd", "(I)I"⟩, 9) := ⟨⟨by decide +kernel, by decide +kernel⟩, List.mem_of_getElem? (i := 346) (by decide +kernel), List.mem_of_getElem? (i := 777) (by decide +kernel), List.mem_of_getElem? (i := 778) (by decide +kernel)⟩
theorem lw_p28 : lw_okq (⟨"TinKitchen", "ofShopping", "(I)I"⟩, 8) := ⟨⟨by decide +kernel, by decide +kernel⟩, List.mem_of_getElem? (i := 16) (by decide +kernel), List.mem_of_getElem? (i := 789) (by decide +kernel), List.mem_of_getElem? (i := 790) (by decide +kernel)⟩
theorem lw_p29 : lw_okq (⟨"TinKitchen", "ofSchedule", "(I)I"⟩, 8) := ⟨⟨by decide +kernel, by decide +kernel⟩, List.mem_of_getElem? (i := 16) (by decide +kernel), List.mem_of_getElem? (i := 797) (by decide +kernel), List.mem_of_getElem? (i := 798) (by decide +kernel)⟩
theorem lw_p30 : lw_okq (⟨"TinKitchenModel", "keep", "()V"⟩, 31) := ⟨⟨by decide +kernel, by decide +kernel⟩, List.mem_of_getElem? (i := 860) (by decide +kernel), List.mem_of_getElem? (i := 966) (by decide +kernel), List.mem_of_getElem? (i := 967) (by decide +kernel)⟩
theorem lw_p31 : lw_okq (⟨"TinKitchenModel", "lay", "(III)V"⟩, 31) := ⟨⟨by decide +kernel, by decide +kernel⟩, List.mem_of_getElem? (i := 860) (by decide +kernel), List.mem_of_getElem? (i := 970) (by decide +kernel), List.mem_of_getElem? (i := 971) (by decide +kernel)⟩
def lw_privs_2 : List (MethodName × Nat) := [(⟨"TinKitchen$Shopping", "replace", "(LTinKitchen$State;II)Z"⟩, 10), (⟨"TinKitchen", "canBeCooked", "()Z"⟩, 8), (⟨"TinKitchen", "tailInMenu", "(II)I"⟩, 8), (⟨"TinKitchen$Schedule", "gatherSteps", "(LTinKitchen$Recipe;I)V"⟩, 9), (⟨"TinKitchen$Schedule", "longestBehind", "(III)I"⟩, 9), (⟨"TinKitchen$Schedule", "insert", "(I)V"⟩, 9), (⟨"TinKitchen", "beginInMenu", "(II)I"⟩, 8), (⟨"TinKitchen$Schedule", "beginAt", "(II)V"⟩, 9), (⟨"TinKitchen$Schedule", "busyHands", "(I)I"⟩, 9), (⟨"TinKitchen$Schedule", "isReady", "(II)Z"⟩, 9), (⟨"TinKitchen$Schedule", "hasEnded", "(II)Z"⟩, 9), (⟨"TinKitchen$Schedule", "nextEnd", "(I)I"⟩, 9), (⟨"TinKitchen", "ofShopping", "(I)I"⟩, 8), (⟨"TinKitchen", "ofSchedule", "(I)I"⟩, 8), (⟨"TinKitchenModel", "keep", "()V"⟩, 31), (⟨"TinKitchenModel", "lay", "(III)V"⟩, 31)]
theorem lw_r2 : ∀ q ∈ lw_privs_2, lw_okq q := List.forall_mem_cons.mpr ⟨lw_p16, List.forall_mem_cons.mpr ⟨lw_p17, List.forall_mem_cons.mpr ⟨lw_p18, List.forall_mem_cons.mpr ⟨lw_p19, List.forall_mem_cons.mpr ⟨lw_p20, List.forall_mem_cons.mpr ⟨lw_p21, List.forall_mem_cons.mpr ⟨lw_p22, List.forall_mem_cons.mpr ⟨lw_p23, List.forall_mem_cons.mpr ⟨lw_p24, List.forall_mem_cons.mpr ⟨lw_p25, List.forall_mem_cons.mpr ⟨lw_p26, List.forall_mem_cons.mpr ⟨lw_p27, List.forall_mem_cons.mpr ⟨lw_p28, List.forall_mem_cons.mpr ⟨lw_p29, List.forall_mem_cons.mpr ⟨lw_p30, List.forall_mem_cons.mpr ⟨lw_p31, fun _ h => absurd h List.not_mem_nil⟩⟩⟩⟩⟩⟩⟩⟩⟩⟩⟩⟩⟩⟩⟩⟩
theorem lw_p32 : lw_okq (⟨"TinKitchenModel", "isIngredient", "(I)Z"⟩, 31) := ⟨⟨by decide +kernel, by decide +kernel⟩, List.mem_of_getElem? (i := 860) (by decide +kernel), List.mem_of_getElem? (i := 978) (by decide +kernel), List.mem_of_getElem? (i := 979) (by decide +kernel)⟩
theorem lw_p33 : lw_okq (⟨"TinKitchenModel", "of", "(II)I"⟩, 31) := ⟨⟨by decide +kernel, by decide +kernel⟩, List.mem_of_getElem? (i := 860) (by decide +kernel), List.mem_of_getElem? (i := 982) (by decide +kernel), List.mem_of_getElem? (i := 983) (by decide +kernel)⟩
theorem lw_p34 : lw_okq (⟨"TinKitchenModel", "sizeOf", "(II)I"⟩, 31) := ⟨⟨by decide +kernel, by decide +kernel⟩, List.mem_of_getElem? (i := 860) (by decide +kernel), List.mem_of_getElem? (i := 986) (by decide +kernel), List.mem_of_getElem? (i := 987) (by decide +kernel)⟩
theorem lw_p35 : lw_okq (⟨"TinKitchenModel", "pantry", "(I)I"⟩, 31) := ⟨⟨by decide +kernel, by decide +kernel⟩, List.mem_of_getElem? (i := 860) (by decide +kernel), List.mem_of_getElem? (i := 1002) (by decide +kernel), List.mem_of_getElem? (i := 1003) (by decide +kernel)⟩
theorem lw_p36 : lw_okq (⟨"TinKitchenModel", "putIn", "(II)V"⟩, 31) := ⟨⟨by decide +kernel, by decide +kernel⟩, List.mem_of_getElem? (i := 860) (by decide +kernel), List.mem_of_getElem? (i := 1007) (by decide +kernel), List.mem_of_getElem? (i := 1008) (by decide +kernel)⟩
theorem lw_p37 : lw_okq (⟨"TinKitchenModel", "lotOn", "(II)I"⟩, 31) := ⟨⟨by decide +kernel, by decide +kernel⟩, List.mem_of_getElem? (i := 860) (by decide +kernel), List.mem_of_getElem? (i := 1011) (by decide +kernel), List.mem_of_getElem? (i := 1012) (by decide +kernel)⟩
theorem lw_p38 : lw_okq (⟨"TinKitchenModel", "layLot", "(III)V"⟩, 31) := ⟨⟨by decide +kernel, by decide +kernel⟩, List.mem_of_getElem? (i := 860) (by decide +kernel), List.mem_of_getElem? (i := 1015) (by decide +kernel), List.mem_of_getElem? (i := 1016) (by decide +kernel)⟩
theorem lw_p39 : lw_okq (⟨"TinKitchenModel", "canCook", "()Z"⟩, 31) := ⟨⟨by decide +kernel, by decide +kernel⟩, List.mem_of_getElem? (i := 860) (by decide +kernel), List.mem_of_getElem? (i := 1027) (by decide +kernel), List.mem_of_getElem? (i := 1028) (by decide +kernel)⟩
theorem lw_p40 : lw_okq (⟨"TinKitchenModel", "findNeeds", "()V"⟩, 31) := ⟨⟨by decide +kernel, by decide +kernel⟩, List.mem_of_getElem? (i := 860) (by decide +kernel), List.mem_of_getElem? (i := 1031) (by decide +kernel), List.mem_of_getElem? (i := 1032) (by decide +kernel)⟩
theorem lw_p41 : lw_okq (⟨"TinKitchenModel", "clearNeeds", "()V"⟩, 31) := ⟨⟨by decide +kernel, by decide +kernel⟩, List.mem_of_getElem? (i := 860) (by decide +kernel), List.mem_of_getElem? (i := 1035) (by decide +kernel), List.mem_of_getElem? (i := 1036) (by decide +kernel)⟩
theorem lw_p42 : lw_okq (⟨"TinKitchenModel", "byRecipes", "(I)I"⟩, 31) := ⟨⟨by decide +kernel, by decide +kernel⟩, List.mem_of_getElem? (i := 860) (by decide +kernel), List.mem_of_getElem? (i := 1039) (by decide +kernel), List.mem_of_getElem? (i := 1040) (by decide +kernel)⟩
theorem lw_p43 : lw_okq (⟨"TinKitchenModel", "ofARecipe", "(II)I"⟩, 31) := ⟨⟨by decide +kernel, by decide +kernel⟩, List.mem_of_getElem? (i := 860) (by decide +kernel), List.mem_of_getElem? (i := 1043) (by decide +kernel), List.mem_of_getElem? (i := 1044) (by decide +kernel)⟩
theorem lw_p44 : lw_okq (⟨"TinKitchenModel", "getRest", "(II)V"⟩, 31) := ⟨⟨by decide +kernel, by decide +kernel⟩, List.mem_of_getElem? (i := 860) (by decide +kernel), List.mem_of_getElem? (i := 1050) (by decide +kernel), List.mem_of_getElem? (i := 1051) (by decide +kernel)⟩
theorem lw_p45 : lw_okq (⟨"TinKitchenModel", "buy", "(II)V"⟩, 31) := ⟨⟨by decide +kernel, by decide +kernel⟩, List.mem_of_getElem? (i := 860) (by decide +kernel), List.mem_of_getElem? (i := 1054) (by decide +kernel), List.mem_of_getElem? (i := 1055) (by decide +kernel)⟩
theorem lw_p46 : lw_okq (⟨"TinKitchenModel", "findTins", "(II)V"⟩, 31) := ⟨⟨by decide +kernel, by decide +kernel⟩, List.mem_of_getElem? (i := 860) (by decide +kernel), List.mem_of_getElem? (i := 1058) (by decide +kernel), List.mem_of_getElem? (i := 1059) (by decide +kernel)⟩
theorem lw_p47 : lw_okq (⟨"TinKitchenModel", "priceOf", "(II)I"⟩, 31) := ⟨⟨by decide +kernel, by decide +kernel⟩, List.mem_of_getElem? (i := 860) (by decide +kernel), List.mem_of_getElem? (i := 1063) (by decide +kernel), List.mem_of_getElem? (i := 1064) (by decide +kernel)⟩
def lw_privs_3 : List (MethodName × Nat) := [(⟨"TinKitchenModel", "isIngredient", "(I)Z"⟩, 31), (⟨"TinKitchenModel", "of", "(II)I"⟩, 31), (⟨"TinKitchenModel", "sizeOf", "(II)I"⟩, 31), (⟨"TinKitchenModel", "pantry", "(I)I"⟩, 31), (⟨"TinKitchenModel", "putIn", "(II)V"⟩, 31), (⟨"TinKitchenModel", "lotOn", "(II)I"⟩, 31), (⟨"TinKitchenModel", "layLot", "(III)V"⟩, 31), (⟨"TinKitchenModel", "canCook", "()Z"⟩, 31), (⟨"TinKitchenModel", "findNeeds", "()V"⟩, 31), (⟨"TinKitchenModel", "clearNeeds", "()V"⟩, 31), (⟨"TinKitchenModel", "byRecipes", "(I)I"⟩, 31), (⟨"TinKitchenModel", "ofARecipe", "(II)I"⟩, 31), (⟨"TinKitchenModel", "getRest", "(II)V"⟩, 31), (⟨"TinKitchenModel", "buy", "(II)V"⟩, 31), (⟨"TinKitchenModel", "findTins", "(II)V"⟩, 31), (⟨"TinKitchenModel", "priceOf", "(II)I"⟩, 31)]
theorem lw_r3 : ∀ q ∈ lw_privs_3, lw_okq q := List.forall_mem_cons.mpr ⟨lw_p32, List.forall_mem_cons.mpr ⟨lw_p33, List.forall_mem_cons.mpr ⟨lw_p34, List.forall_mem_cons.mpr ⟨lw_p35, List.forall_mem_cons.mpr ⟨lw_p36, List.forall_mem_cons.mpr ⟨lw_p37, List.forall_mem_cons.mpr ⟨lw_p38, List.forall_mem_cons.mpr ⟨lw_p39, List.forall_mem_cons.mpr ⟨lw_p40, List.forall_mem_cons.mpr ⟨lw_p41, List.forall_mem_cons.mpr ⟨lw_p42, List.forall_mem_cons.mpr ⟨lw_p43, List.forall_mem_cons.mpr ⟨lw_p44, List.forall_mem_cons.mpr ⟨lw_p45, List.forall_mem_cons.mpr ⟨lw_p46, List.forall_mem_cons.mpr ⟨lw_p47, fun _ h => absurd h List.not_mem_nil⟩⟩⟩⟩⟩⟩⟩⟩⟩⟩⟩⟩⟩⟩⟩⟩
theorem lw_p48 : lw_okq (⟨"TinKitchenModel", "consider", "(IIII)V"⟩, 31) := ⟨⟨by decide +kernel, by decide +kernel⟩, List.mem_of_getElem? (i := 860) (by decide +kernel), List.mem_of_getElem? (i := 1070) (by decide +kernel), List.mem_of_getElem? (i := 1071) (by decide +kernel)⟩
theorem lw_p49 : lw_okq (⟨"TinKitchenModel", "hasPortions", "()Z"⟩, 31) := ⟨⟨by decide +kernel, by decide +kernel⟩, List.mem_of_getElem? (i := 860) (by decide +kernel), List.mem_of_getElem? (i := 1074) (by decide +kernel), List.mem_of_getElem? (i := 1075) (by decide +kernel)⟩
theorem lw_p50 : lw_okq (⟨"TinKitchenModel", "missingSet", "()I"⟩, 31) := ⟨⟨by decide +kernel, by decide +kernel⟩, List.mem_of_getElem? (i := 860) (by decide +kernel), List.mem_of_getElem? (i := 1078) (by decide +kernel), List.mem_of_getElem? (i := 1079) (by decide +kernel)⟩
theorem lw_p51 : lw_okq (⟨"TinKitchenModel", "takeOut", "(II)V"⟩, 31) := ⟨⟨by decide +kernel, by decide +kernel⟩, List.mem_of_getElem? (i := 860) (by decide +kernel), List.mem_of_getElem? (i := 1082) (by decide +kernel), List.mem_of_getElem? (i := 1083) (by decide +kernel)⟩
theorem lw_p52 : lw_okq (⟨"TinKitchenModel", "sumOf", "([I)I"⟩, 31) := ⟨⟨by decide +kernel, by decide +kernel⟩, List.mem_of_getElem? (i := 860) (by decide +kernel), List.mem_of_getElem? (i := 1086) (by decide +kernel), List.mem_of_getElem? (i := 1087) (by decide +kernel)⟩
theorem lw_p53 : lw_okq (⟨"TinKitchenModel", "takeNumber", "(I)I"⟩, 31) := ⟨⟨by decide +kernel, by decide +kernel⟩, List.mem_of_getElem? (i := 860) (by decide +kernel), List.mem_of_getElem? (i := 1094) (by decide +kernel), List.mem_of_getElem? (i := 1095) (by decide +kernel)⟩
theorem lw_p54 : lw_okq (⟨"TinKitchenModel", "next", "()I"⟩, 31) := ⟨⟨by decide +kernel, by decide +kernel⟩, List.mem_of_getElem? (i := 860) (by decide +kernel), List.mem_of_getElem? (i := 1098) (by decide +kernel), List.mem_of_getElem? (i := 1099) (by decide +kernel)⟩
theorem lw_p55 : lw_okq (⟨"TinKitchenModel", "takeAmount", "()V"⟩, 31) := ⟨⟨by decide +kernel, by decide +kernel⟩, List.mem_of_getElem? (i := 860) (by decide +kernel), List.mem_of_getElem? (i := 1102) (by decide +kernel), List.mem_of_getElem? (i := 1103) (by decide +kernel)⟩
theorem lw_p56 : lw_okq (⟨"TinKitchenModel", "takeStep", "()V"⟩, 31) := ⟨⟨by decide +kernel, by decide +kernel⟩, List.mem_of_getElem? (i := 860) (by decide +kernel), List.mem_of_getElem? (i := 1106) (by decide +kernel), List.mem_of_getElem? (i := 1107) (by decide +kernel)⟩
theorem lw_p57 : lw_okq (⟨"TinKitchenModel", "takeDigit", "(II)I"⟩, 31) := ⟨⟨by decide +kernel, by decide +kernel⟩, List.mem_of_getElem? (i := 860) (by decide +kernel), List.mem_of_getElem? (i := 1110) (by decide +kernel), List.mem_of_getElem? (i := 1111) (by decide +kernel)⟩
theorem lw_p58 : lw_okq (⟨"TinKitchenModel", "isRecipe", "(I)Z"⟩, 31) := ⟨⟨by decide +kernel, by decide +kernel⟩, List.mem_of_getElem? (i := 860) (by decide +kernel), List.mem_of_getElem? (i := 1123) (by decide +kernel), List.mem_of_getElem? (i := 1124) (by decide +kernel)⟩
theorem lw_p59 : lw_okq (⟨"TinKitchenModel", "lots", "(I)I"⟩, 31) := ⟨⟨by decide +kernel, by decide +kernel⟩, List.mem_of_getElem? (i := 860) (by decide +kernel), List.mem_of_getElem? (i := 1139) (by decide +kernel), List.mem_of_getElem? (i := 1140) (by decide +kernel)⟩
theorem lw_p60 : lw_okq (⟨"TinKitchenModel", "firstDay", "(I)I"⟩, 31) := ⟨⟨by decide +kernel, by decide +kernel⟩, List.mem_of_getElem? (i := 860) (by decide +kernel), List.mem_of_getElem? (i := 1143) (by decide +kernel), List.mem_of_getElem? (i := 1144) (by decide +kernel)⟩
theorem lw_p61 : lw_okq (⟨"TinKitchenModel", "lastsOf", "(III)I"⟩, 31) := ⟨⟨by decide +kernel, by decide +kernel⟩, List.mem_of_getElem? (i := 860) (by decide +kernel), List.mem_of_getElem? (i := 1159) (by decide +kernel), List.mem_of_getElem? (i := 1160) (by decide +kernel)⟩
theorem lw_p62 : lw_okq (⟨"TinKitchenModel", "ofStep", "(III)I"⟩, 31) := ⟨⟨by decide +kernel, by decide +kernel⟩, List.mem_of_getElem? (i := 860) (by decide +kernel), List.mem_of_getElem? (i := 1163) (by decide +kernel), List.mem_of_getElem? (i := 1164) (by decide +kernel)⟩
theorem lw_p63 : lw_okq (⟨"TinKitchenModel", "findTimes", "(I)I"⟩, 31) := ⟨⟨by decide +kernel, by decide +kernel⟩, List.mem_of_getElem? (i := 860) (by decide +kernel), List.mem_of_getElem? (i := 1167) (by decide +kernel), List.mem_of_getElem? (i := 1168) (by decide +kernel)⟩
def lw_privs_4 : List (MethodName × Nat) := [(⟨"TinKitchenModel", "consider", "(IIII)V"⟩, 31), (⟨"TinKitchenModel", "hasPortions", "()Z"⟩, 31), (⟨"TinKitchenModel", "missingSet", "()I"⟩, 31), (⟨"TinKitchenModel", "takeOut", "(II)V"⟩, 31), (⟨"TinKitchenModel", "sumOf", "([I)I"⟩, 31), (⟨"TinKitchenModel", "takeNumber", "(I)I"⟩, 31), (⟨"TinKitchenModel", "next", "()I"⟩, 31), (⟨"TinKitchenModel", "takeAmount", "()V"⟩, 31), (⟨"TinKitchenModel", "takeStep", "()V"⟩, 31), (⟨"TinKitchenModel", "takeDigit", "(II)I"⟩, 31), (⟨"TinKitchenModel", "isRecipe", "(I)Z"⟩, 31), (⟨"TinKitchenModel", "lots", "(I)I"⟩, 31), (⟨"TinKitchenModel", "firstDay", "(I)I"⟩, 31), (⟨"TinKitchenModel", "lastsOf", "(III)I"⟩, 31), (⟨"TinKitchenModel", "ofStep", "(III)I"⟩, 31), (⟨"TinKitchenModel", "findTimes", "(I)I"⟩, 31)]
theorem lw_r4 : ∀ q ∈ lw_privs_4, lw_okq q := List.forall_mem_cons.mpr ⟨lw_p48, List.forall_mem_cons.mpr ⟨lw_p49, List.forall_mem_cons.mpr ⟨lw_p50, List.forall_mem_cons.mpr ⟨lw_p51, List.forall_mem_cons.mpr ⟨lw_p52, List.forall_mem_cons.mpr ⟨lw_p53, List.forall_mem_cons.mpr ⟨lw_p54, List.forall_mem_cons.mpr ⟨lw_p55, List.forall_mem_cons.mpr ⟨lw_p56, List.forall_mem_cons.mpr ⟨lw_p57, List.forall_mem_cons.mpr ⟨lw_p58, List.forall_mem_cons.mpr ⟨lw_p59, List.forall_mem_cons.mpr ⟨lw_p60, List.forall_mem_cons.mpr ⟨lw_p61, List.forall_mem_cons.mpr ⟨lw_p62, List.forall_mem_cons.mpr ⟨lw_p63, fun _ h => absurd h List.not_mem_nil⟩⟩⟩⟩⟩⟩⟩⟩⟩⟩⟩⟩⟩⟩⟩⟩
theorem lw_p64 : lw_okq (⟨"TinKitchenModel", "findTails", "()V"⟩, 31) := ⟨⟨by decide +kernel, by decide +kernel⟩, List.mem_of_getElem? (i := 860) (by decide +kernel), List.mem_of_getElem? (i := 1171) (by decide +kernel), List.mem_of_getElem? (i := 1172) (by decide +kernel)⟩
theorem lw_p65 : lw_okq (⟨"TinKitchenModel", "isOn", "(I)Z"⟩, 31) := ⟨⟨by decide +kernel, by decide +kernel⟩, List.mem_of_getElem? (i := 860) (by decide +kernel), List.mem_of_getElem? (i := 1175) (by decide +kernel), List.mem_of_getElem? (i := 1176) (by decide +kernel)⟩
theorem lw_p66 : lw_okq (⟨"TinKitchenModel", "aheadOf", "(I)I"⟩, 31) := ⟨⟨by decide +kernel, by decide +kernel⟩, List.mem_of_getElem? (i := 860) (by decide +kernel), List.mem_of_getElem? (i := 1179) (by decide +kernel), List.mem_of_getElem? (i := 1180) (by decide +kernel)⟩
theorem lw_p67 : lw_okq (⟨"TinKitchenModel", "handsOf", "(I)I"⟩, 31) := ⟨⟨by decide +kernel, by decide +kernel⟩, List.mem_of_getElem? (i := 860) (by decide +kernel), List.mem_of_getElem? (i := 1183) (by decide +kernel), List.mem_of_getElem? (i := 1184) (by decide +kernel)⟩
theorem lw_p68 : lw_okq (⟨"TinKitchenModel", "freeAt", "(II)I"⟩, 31) := ⟨⟨by decide +kernel, by decide +kernel⟩, List.mem_of_getElem? (i := 860) (by decide +kernel), List.mem_of_getElem? (i := 1187) (by decide +kernel), List.mem_of_getElem? (i := 1188) (by decide +kernel)⟩
theorem lw_p69 : lw_okq (⟨"TinKitchenModel", "hasEnded", "(II)Z"⟩, 31) := ⟨⟨by decide +kernel, by decide +kernel⟩, List.mem_of_getElem? (i := 860) (by decide +kernel), List.mem_of_getElem? (i := 1191) (by decide +kernel), List.mem_of_getElem? (i := 1192) (by decide +kernel)⟩
theorem lw_p70 : lw_okq (⟨"TinKitchenModel", "nextAt", "(II)I"⟩, 31) := ⟨⟨by decide +kernel, by decide +kernel⟩, List.mem_of_getElem? (i := 860) (by decide +kernel), List.mem_of_getElem? (i := 1195) (by decide +kernel), List.mem_of_getElem? (i := 1196) (by decide +kernel)⟩
theorem lw_p71 : lw_okq (⟨"TinKitchenModel", "isReady", "(II)Z"⟩, 31) := ⟨⟨by decide +kernel, by decide +kernel⟩, List.mem_of_getElem? (i := 860) (by decide +kernel), List.mem_of_getElem? (i := 1199) (by decide +kernel), List.mem_of_getElem? (i := 1200) (by decide +kernel)⟩
theorem lw_p72 : lw_okq (⟨"TinKitchenModel", "nextEnd", "(I)I"⟩, 31) := ⟨⟨by decide +kernel, by decide +kernel⟩, List.mem_of_getElem? (i := 860) (by decide +kernel), List.mem_of_getElem? (i := 1203) (by decide +kernel), List.mem_of_getElem? (i := 1204) (by decide +kernel)⟩
theorem lw_p73 : lw_okq (⟨"TinKitchenModel", "ofPlan", "(I)I"⟩, 31) := ⟨⟨by decide +kernel, by decide +kernel⟩, List.mem_of_getElem? (i := 860) (by decide +kernel), List.mem_of_getElem? (i := 1215) (by decide +kernel), List.mem_of_getElem? (i := 1216) (by decide +kernel)⟩
theorem lw_p74 : lw_okq (⟨"TinKitchenModel", "bound", "()I"⟩, 31) := ⟨⟨by decide +kernel, by decide +kernel⟩, List.mem_of_getElem? (i := 860) (by decide +kernel), List.mem_of_getElem? (i := 1219) (by decide +kernel), List.mem_of_getElem? (i := 1220) (by decide +kernel)⟩
def lw_privs_5 : List (MethodName × Nat) := [(⟨"TinKitchenModel", "findTails", "()V"⟩, 31), (⟨"TinKitchenModel", "isOn", "(I)Z"⟩, 31), (⟨"TinKitchenModel", "aheadOf", "(I)I"⟩, 31), (⟨"TinKitchenModel", "handsOf", "(I)I"⟩, 31), (⟨"TinKitchenModel", "freeAt", "(II)I"⟩, 31), (⟨"TinKitchenModel", "hasEnded", "(II)Z"⟩, 31), (⟨"TinKitchenModel", "nextAt", "(II)I"⟩, 31), (⟨"TinKitchenModel", "isReady", "(II)Z"⟩, 31), (⟨"TinKitchenModel", "nextEnd", "(I)I"⟩, 31), (⟨"TinKitchenModel", "ofPlan", "(I)I"⟩, 31), (⟨"TinKitchenModel", "bound", "()I"⟩, 31)]
theorem lw_r5 : ∀ q ∈ lw_privs_5, lw_okq q := List.forall_mem_cons.mpr ⟨lw_p64, List.forall_mem_cons.mpr ⟨lw_p65, List.forall_mem_cons.mpr ⟨lw_p66, List.forall_mem_cons.mpr ⟨lw_p67, List.forall_mem_cons.mpr ⟨lw_p68, List.forall_mem_cons.mpr ⟨lw_p69, List.forall_mem_cons.mpr ⟨lw_p70, List.forall_mem_cons.mpr ⟨lw_p71, List.forall_mem_cons.mpr ⟨lw_p72, List.forall_mem_cons.mpr ⟨lw_p73, List.forall_mem_cons.mpr ⟨lw_p74, fun _ h => absurd h List.not_mem_nil⟩⟩⟩⟩⟩⟩⟩⟩⟩⟩⟩
def lw_privs : List (MethodName × Nat) := lw_privs_1 ++ (lw_privs_2 ++ (lw_privs_3 ++ (lw_privs_4 ++ (lw_privs_5))))
def lw_tbl : List Cond := k2_sels lw_privs ++ tables_1
theorem lw_privs_ok : ∀ q ∈ lw_privs, lw_okq q := by
  show ∀ q ∈ lw_privs_1 ++ (lw_privs_2 ++ (lw_privs_3 ++ (lw_privs_4 ++ (lw_privs_5)))), lw_okq q
  exact List.forall_mem_append.mpr ⟨lw_r1, List.forall_mem_append.mpr ⟨lw_r2, List.forall_mem_append.mpr ⟨lw_r3, List.forall_mem_append.mpr ⟨lw_r4, lw_r5⟩⟩⟩⟩
end
section
/-! ===== BEGIN words of one list among another's, by their places ===== -/
theorem goodIn_r {big : List Cond} (ws : List Cond) (ps : List Nat) (hp : ws = ps.filterMap (fun i => big[i]?)) (h : ws.all goodWord = true) : GoodIn big ws := by
  intro w hw
  have h1 := List.all_eq_true.mp h w hw
  rw [hp] at hw
  obtain ⟨i, -, hi⟩ := List.mem_filterMap.mp hw
  have hm : w ∈ big := by first | exact List.mem_of_getElem? hi | exact List.getElem?_mem hi
  exact ⟨hm, good_of_word h1⟩
theorem goodIn_app {big a b : List Cond} (ha : GoodIn big a) (hb : GoodIn big b) : GoodIn big (a ++ b) := fun w h => (List.mem_append.mp h).elim (ha w) (hb w)
theorem goodIn_ca {big a b : List Cond} {c : Cond} (ha : GoodIn big (c :: a)) (hb : GoodIn big b) : GoodIn big (c :: (a ++ b)) := fun w h => (List.mem_cons.mp h).elim (fun e => ha w (List.mem_cons.mpr (Or.inl e))) (fun h => (List.mem_append.mp h).elim (fun h => ha w (List.mem_cons.mpr (Or.inr h))) (hb w))
theorem goodIn_sub {big ws : List Cond} (hm : ∀ w ∈ ws, w ∈ big) (h : ws.all goodWord = true) : GoodIn big ws := fun w hw => ⟨hm w hw, good_of_word (List.all_eq_true.mp h w hw)⟩
/-! ===== END ===== -/
/-! ===== BEGIN printed: names, fields, word lists, decode rows ===== -/
def RX0 : String := "TinKitchen$History"
def TX0 : u_T := fun k => match k with
  | 0 => ("TinKitchen$History", "kept", "I", false)
  | 1 => ("TinKitchen$History", "latest", "I", false)
  | _ => ("TinKitchen$History", "states", "[LTinKitchen$State;", true)
def tyX0 : Nat → FieldType := fun k => match k with
  | 0 => .int
  | 1 => .int
  | _ => .array (.object "TinKitchen$State")
abbrev wsX00 : List Cond := u_ws RX0 TX0 3
theorem nmX0 : ∀ a, a < 3 → ∀ b, b < 3 → a ≠ b → (TX0 a).2.1 ≠ (TX0 b).2.1 := by decide +kernel
theorem tyX0_ok : ∀ k, k < 3 → parseFieldDescriptor (TX0 k).2.2.1 = some (tyX0 k) := by decide +kernel
abbrev cX0_init : ByteArray := prog_2_method_1_code
def yX0_init : MethodName := ⟨RX0, "<init>", "()V"⟩
abbrev cX0_record : ByteArray := prog_2_method_2_code
def yX0_record : MethodName := ⟨RX0, "record", "(LTinKitchen$State;)V"⟩
abbrev cX0_giveBack : ByteArray := prog_2_method_3_code
def yX0_giveBack : MethodName := ⟨RX0, "giveBack", "(LTinKitchen$State;)V"⟩
def RX1 : String := "TinKitchen$Ingredient"
def TX1 : u_T := fun k => match k with
  | 0 => ("TinKitchen$Ingredient", "keptDays", "I", false)
  | 1 => ("TinKitchen$Ingredient", "canBeBought", "Z", false)
  | 2 => ("TinKitchen$Ingredient", "kinds", "I", false)
  | 3 => ("TinKitchen$Ingredient", "sizes", "[I", true)
  | 4 => ("TinKitchen$Ingredient", "prices", "[I", true)
  | 5 => ("TinKitchen$Ingredient", "replacedBy", "I", false)
  | 6 => ("TinKitchen$Ingredient", "rate", "I", false)
  | 7 => ("TinKitchen$Ingredient", "lots", "[I", true)
  | 8 => ("TinKitchen$Ingredient", "bought", "I", false)
  | 9 => ("TinKitchen$Ingredient", "used", "I", false)
  | 10 => ("TinKitchen$Ingredient", "thrownAway", "I", false)
  | _ => ("TinKitchen$Ingredient", "stocked", "I", false)
def tyX1 : Nat → FieldType := fun k => match k with
  | 0 => .int
  | 1 => .boolean
  | 2 => .int
  | 3 => .array .int
  | 4 => .array .int
  | 5 => .int
  | 6 => .int
  | 7 => .array .int
  | 8 => .int
  | 9 => .int
  | 10 => .int
  | _ => .int
abbrev wsX10 : List Cond := u_ws RX1 TX1 12
theorem nmX1 : ∀ a, a < 12 → ∀ b, b < 12 → a ≠ b → (TX1 a).2.1 ≠ (TX1 b).2.1 := by decide +kernel
theorem tyX1_ok : ∀ k, k < 12 → parseFieldDescriptor (TX1 k).2.2.1 = some (tyX1 k) := by decide +kernel
abbrev cX1_init : ByteArray := prog_3_method_1_code
def yX1_init : MethodName := ⟨RX1, "<init>", "()V"⟩
abbrev cX1_begin : ByteArray := prog_3_method_2_code
def yX1_begin : MethodName := ⟨RX1, "begin", "(I)V"⟩
abbrev cX1_copyFrom : ByteArray := prog_3_method_3_code
def yX1_copyFrom : MethodName := ⟨RX1, "copyFrom", "(LTinKitchen$Ingredient;)V"⟩
abbrev cX1_hasKind : ByteArray := prog_3_method_4_code
def yX1_hasKind : MethodName := ⟨RX1, "hasKind", "(I)Z"⟩
abbrev cX1_hasSize : ByteArray := prog_3_method_5_code
def yX1_hasSize : MethodName := ⟨RX1, "hasSize", "(I)Z"⟩
abbrev cX1_addKind : ByteArray := prog_3_method_6_code
def yX1_addKind : MethodName := ⟨RX1, "addKind", "(II)V"⟩
abbrev cX1_inPantry : ByteArray := prog_3_method_7_code
def yX1_inPantry : MethodName := ⟨RX1, "inPantry", "()I"⟩
abbrev cX1_lotsThere : ByteArray := prog_3_method_8_code
def yX1_lotsThere : MethodName := ⟨RX1, "lotsThere", "()I"⟩
abbrev cX1_firstSpoilDay : ByteArray := prog_3_method_9_code
def yX1_firstSpoilDay : MethodName := ⟨RX1, "firstSpoilDay", "(I)I"⟩
abbrev cX1_addLot : ByteArray := prog_3_method_10_code
def yX1_addLot : MethodName := ⟨RX1, "addLot", "(II)V"⟩
abbrev cX1_takeFromLots : ByteArray := prog_3_method_11_code
def yX1_takeFromLots : MethodName := ⟨RX1, "takeFromLots", "(II)V"⟩
abbrev cX1_throwAway : ByteArray := prog_3_method_12_code
def yX1_throwAway : MethodName := ⟨RX1, "throwAway", "(I)I"⟩
abbrev cX1_placeOf : ByteArray := prog_3_method_13_code
def yX1_placeOf : MethodName := ⟨RX1, "placeOf", "(I)I"⟩
def RX2 : String := "TinKitchen$Pad"
def TX2 : u_T := fun k => match k with
  | 0 => ("TinKitchen$Pad", "length", "I", false)
  | _ => ("TinKitchen$Pad", "text", "[C", true)
def tyX2 : Nat → FieldType := fun k => match k with
  | 0 => .int
  | _ => .array .char
abbrev wsX20 : List Cond := u_ws RX2 TX2 2
theorem nmX2 : ∀ a, a < 2 → ∀ b, b < 2 → a ≠ b → (TX2 a).2.1 ≠ (TX2 b).2.1 := by decide +kernel
theorem tyX2_ok : ∀ k, k < 2 → parseFieldDescriptor (TX2 k).2.2.1 = some (tyX2 k) := by decide +kernel
abbrev cX2_init : ByteArray := prog_4_method_1_code
def yX2_init : MethodName := ⟨RX2, "<init>", "()V"⟩
abbrev cX2_at : ByteArray := prog_4_method_2_code
def yX2_at : MethodName := ⟨RX2, "at", "(I)C"⟩
abbrev cX2_append : ByteArray := prog_4_method_3_code
def yX2_append : MethodName := ⟨RX2, "append", "(JI)V"⟩
def RX3 : String := "TinKitchen$Reader"
def TX3 : u_T := fun k => match k with
  | 0 => ("TinKitchen$Reader", "found", "LTinKitchen$Recipe;", true)
  | 1 => ("TinKitchen$Reader", "pad", "LTinKitchen$Pad;", true)
  | 2 => ("TinKitchen$Reader", "place", "I", false)
  | _ => ("TinKitchen$Reader", "isGood", "Z", false)
def tyX3 : Nat → FieldType := fun k => match k with
  | 0 => .object "TinKitchen$Recipe"
  | 1 => .object "TinKitchen$Pad"
  | 2 => .int
  | _ => .boolean
abbrev wsX30 : List Cond := u_ws RX3 TX3 4
theorem nmX3 : ∀ a, a < 4 → ∀ b, b < 4 → a ≠ b → (TX3 a).2.1 ≠ (TX3 b).2.1 := by decide +kernel
theorem tyX3_ok : ∀ k, k < 4 → parseFieldDescriptor (TX3 k).2.2.1 = some (tyX3 k) := by decide +kernel
abbrev cX3_init : ByteArray := prog_5_method_1_code
def yX3_init : MethodName := ⟨RX3, "<init>", "(LTinKitchen$Pad;)V"⟩
abbrev cX3_read : ByteArray := prog_5_method_2_code
def yX3_read : MethodName := ⟨RX3, "read", "()I"⟩
abbrev cX3_readNumber : ByteArray := prog_5_method_3_code
def yX3_readNumber : MethodName := ⟨RX3, "readNumber", "(I)I"⟩
abbrev cX3_readDigit : ByteArray := prog_5_method_4_code
def yX3_readDigit : MethodName := ⟨RX3, "readDigit", "(II)I"⟩
abbrev cX3_digitHere : ByteArray := prog_5_method_5_code
def yX3_digitHere : MethodName := ⟨RX3, "digitHere", "()I"⟩
abbrev cX3_nameHere : ByteArray := prog_5_method_6_code
def yX3_nameHere : MethodName := ⟨RX3, "nameHere", "()I"⟩
abbrev cX3_readAmount : ByteArray := prog_5_method_7_code
def yX3_readAmount : MethodName := ⟨RX3, "readAmount", "(I)V"⟩
abbrev cX3_readStep : ByteArray := prog_5_method_8_code
def yX3_readStep : MethodName := ⟨RX3, "readStep", "(I)V"⟩
abbrev cX3_readSign : ByteArray := prog_5_method_9_code
def yX3_readSign : MethodName := ⟨RX3, "readSign", "(C)V"⟩
abbrev cX3_readStepBefore : ByteArray := prog_5_method_10_code
def yX3_readStepBefore : MethodName := ⟨RX3, "readStepBefore", "(II)I"⟩
def RX4 : String := "TinKitchen$Recipe"
def TX4 : u_T := fun k => match k with
  | 0 => ("TinKitchen$Recipe", "basePortions", "I", false)
  | 1 => ("TinKitchen$Recipe", "portions", "I", false)
  | 2 => ("TinKitchen$Recipe", "stepCount", "I", false)
  | 3 => ("TinKitchen$Recipe", "amounts", "[I", true)
  | _ => ("TinKitchen$Recipe", "steps", "[LTinKitchen$Step;", true)
def tyX4 : Nat → FieldType := fun k => match k with
  | 0 => .int
  | 1 => .int
  | 2 => .int
  | 3 => .array .int
  | _ => .array (.object "TinKitchen$Step")
abbrev wsX40 : List Cond := u_ws RX4 TX4 5
theorem nmX4 : ∀ a, a < 5 → ∀ b, b < 5 → a ≠ b → (TX4 a).2.1 ≠ (TX4 b).2.1 := by decide +kernel
theorem tyX4_ok : ∀ k, k < 5 → parseFieldDescriptor (TX4 k).2.2.1 = some (tyX4 k) := by decide +kernel
abbrev cX4_init : ByteArray := prog_6_method_1_code
def yX4_init : MethodName := ⟨RX4, "<init>", "()V"⟩
abbrev cX4_clear : ByteArray := prog_6_method_2_code
def yX4_clear : MethodName := ⟨RX4, "clear", "()V"⟩
abbrev cX4_copyFrom : ByteArray := prog_6_method_3_code
def yX4_copyFrom : MethodName := ⟨RX4, "copyFrom", "(LTinKitchen$Recipe;)V"⟩
abbrev cX4_hasStep : ByteArray := prog_6_method_4_code
def yX4_hasStep : MethodName := ⟨RX4, "hasStep", "(I)Z"⟩
abbrev cX4_namesFrom : ByteArray := prog_6_method_5_code
def yX4_namesFrom : MethodName := ⟨RX4, "namesFrom", "(I)Z"⟩
abbrev cX4_scaled : ByteArray := prog_6_method_6_code
def yX4_scaled : MethodName := ⟨RX4, "scaled", "(I)I"⟩
abbrev cX4_lasts : ByteArray := prog_6_method_7_code
def yX4_lasts : MethodName := ⟨RX4, "lasts", "(I)I"⟩
def RX5 : String := "TinKitchen$Schedule"
def TX5 : u_T := fun k => match k with
  | 0 => ("TinKitchen$Schedule", "tails", "[I", true)
  | 1 => ("TinKitchen$Schedule", "begins", "[I", true)
  | 2 => ("TinKitchen$Schedule", "work", "I", false)
  | 3 => ("TinKitchen$Schedule", "durations", "[I", true)
  | 4 => ("TinKitchen$Schedule", "needsHands", "[I", true)
  | 5 => ("TinKitchen$Schedule", "before", "[I", true)
  | 6 => ("TinKitchen$Schedule", "order", "[I", true)
  | 7 => ("TinKitchen$Schedule", "steps", "I", false)
  | _ => ("TinKitchen$Schedule", "greatestTail", "I", false)
def tyX5 : Nat → FieldType := fun k => match k with
  | 0 => .array .int
  | 1 => .array .int
  | 2 => .int
  | 3 => .array .int
  | 4 => .array .int
  | 5 => .array .int
  | 6 => .array .int
  | 7 => .int
  | _ => .int
abbrev wsX50 : List Cond := u_ws RX5 TX5 9
theorem nmX5 : ∀ a, a < 9 → ∀ b, b < 9 → a ≠ b → (TX5 a).2.1 ≠ (TX5 b).2.1 := by decide +kernel
theorem tyX5_ok : ∀ k, k < 9 → parseFieldDescriptor (TX5 k).2.2.1 = some (tyX5 k) := by decide +kernel
abbrev cX5_init : ByteArray := prog_7_method_1_code
def yX5_init : MethodName := ⟨RX5, "<init>", "()V"⟩
abbrev cX5_gather : ByteArray := prog_7_method_2_code
def yX5_gather : MethodName := ⟨RX5, "gather", "(LTinKitchen$State;)V"⟩
abbrev cX5_gatherSteps : ByteArray := prog_7_method_3_code
def yX5_gatherSteps : MethodName := ⟨RX5, "gatherSteps", "(LTinKitchen$Recipe;I)V"⟩
abbrev cX5_longestBehind : ByteArray := prog_7_method_4_code
def yX5_longestBehind : MethodName := ⟨RX5, "longestBehind", "(III)I"⟩
abbrev cX5_insert : ByteArray := prog_7_method_5_code
def yX5_insert : MethodName := ⟨RX5, "insert", "(I)V"⟩
abbrev cX5_run : ByteArray := prog_7_method_6_code
def yX5_run : MethodName := ⟨RX5, "run", "(I)V"⟩
abbrev cX5_beginAt : ByteArray := prog_7_method_7_code
def yX5_beginAt : MethodName := ⟨RX5, "beginAt", "(II)V"⟩
abbrev cX5_busyHands : ByteArray := prog_7_method_8_code
def yX5_busyHands : MethodName := ⟨RX5, "busyHands", "(I)I"⟩
abbrev cX5_isReady : ByteArray := prog_7_method_9_code
def yX5_isReady : MethodName := ⟨RX5, "isReady", "(II)Z"⟩
abbrev cX5_hasEnded : ByteArray := prog_7_method_10_code
def yX5_hasEnded : MethodName := ⟨RX5, "hasEnded", "(II)Z"⟩
abbrev cX5_nextEnd : ByteArray := prog_7_method_11_code
def yX5_nextEnd : MethodName := ⟨RX5, "nextEnd", "(I)I"⟩
abbrev cX5_end : ByteArray := prog_7_method_12_code
def yX5_end : MethodName := ⟨RX5, "end", "()I"⟩
abbrev cX5_bound : ByteArray := prog_7_method_13_code
def yX5_bound : MethodName := ⟨RX5, "bound", "(I)I"⟩
def RX6 : String := "TinKitchen$Shopping"
def TX6 : u_T := fun k => match k with
  | 0 => ("TinKitchen$Shopping", "needed", "[I", true)
  | 1 => ("TinKitchen$Shopping", "replacing", "[I", true)
  | 2 => ("TinKitchen$Shopping", "fromPantry", "[I", true)
  | 3 => ("TinKitchen$Shopping", "bought", "[I", true)
  | 4 => ("TinKitchen$Shopping", "leftOver", "[I", true)
  | 5 => ("TinKitchen$Shopping", "replaced", "[I", true)
  | 6 => ("TinKitchen$Shopping", "missing", "[I", true)
  | 7 => ("TinKitchen$Shopping", "price", "[I", true)
  | 8 => ("TinKitchen$Shopping", "tins", "[[I", true)
  | _ => ("TinKitchen$Shopping", "search", "LTinKitchen$TinSearch;", true)
def tyX6 : Nat → FieldType := fun k => match k with
  | 0 => .array .int
  | 1 => .array .int
  | 2 => .array .int
  | 3 => .array .int
  | 4 => .array .int
  | 5 => .array .int
  | 6 => .array .int
  | 7 => .array .int
  | 8 => .array (.array .int)
  | _ => .object "TinKitchen$TinSearch"
abbrev wsX60 : List Cond := u_ws RX6 TX6 10
theorem nmX6 : ∀ a, a < 10 → ∀ b, b < 10 → a ≠ b → (TX6 a).2.1 ≠ (TX6 b).2.1 := by decide +kernel
theorem tyX6_ok : ∀ k, k < 10 → parseFieldDescriptor (TX6 k).2.2.1 = some (tyX6 k) := by decide +kernel
abbrev cX6_init : ByteArray := prog_8_method_1_code
def yX6_init : MethodName := ⟨RX6, "<init>", "()V"⟩
abbrev cX6_plan : ByteArray := prog_8_method_2_code
def yX6_plan : MethodName := ⟨RX6, "plan", "(LTinKitchen$State;)V"⟩
abbrev cX6_clear : ByteArray := prog_8_method_3_code
def yX6_clear : MethodName := ⟨RX6, "clear", "(I)V"⟩
abbrev cX6_planOne : ByteArray := prog_8_method_4_code
def yX6_planOne : MethodName := ⟨RX6, "planOne", "(LTinKitchen$State;I)V"⟩
abbrev cX6_buy : ByteArray := prog_8_method_5_code
def yX6_buy : MethodName := ⟨RX6, "buy", "(LTinKitchen$Ingredient;II)V"⟩
abbrev cX6_replace : ByteArray := prog_8_method_6_code
def yX6_replace : MethodName := ⟨RX6, "replace", "(LTinKitchen$State;II)Z"⟩
abbrev cX6_carryOut : ByteArray := prog_8_method_7_code
def yX6_carryOut : MethodName := ⟨RX6, "carryOut", "(LTinKitchen$State;)V"⟩
abbrev cX6_allPrices : ByteArray := prog_8_method_8_code
def yX6_allPrices : MethodName := ⟨RX6, "allPrices", "()I"⟩
abbrev cX6_allLeftOver : ByteArray := prog_8_method_9_code
def yX6_allLeftOver : MethodName := ⟨RX6, "allLeftOver", "()I"⟩
abbrev cX6_missingSet : ByteArray := prog_8_method_10_code
def yX6_missingSet : MethodName := ⟨RX6, "missingSet", "()I"⟩
abbrev cX6_sum : ByteArray := prog_8_method_11_code
def yX6_sum : MethodName := ⟨RX6, "sum", "([I)I"⟩
def RX7 : String := "TinKitchen$State"
def TX7 : u_T := fun k => match k with
  | 0 => ("TinKitchen$State", "day", "I", false)
  | 1 => ("TinKitchen$State", "allHands", "I", false)
  | 2 => ("TinKitchen$State", "spent", "I", false)
  | 3 => ("TinKitchen$State", "cooked", "I", false)
  | 4 => ("TinKitchen$State", "ingredients", "I", false)
  | 5 => ("TinKitchen$State", "recipes", "I", false)
  | 6 => ("TinKitchen$State", "larder", "[LTinKitchen$Ingredient;", true)
  | _ => ("TinKitchen$State", "book", "[LTinKitchen$Recipe;", true)
def tyX7 : Nat → FieldType := fun k => match k with
  | 0 => .int
  | 1 => .int
  | 2 => .int
  | 3 => .int
  | 4 => .int
  | 5 => .int
  | 6 => .array (.object "TinKitchen$Ingredient")
  | _ => .array (.object "TinKitchen$Recipe")
abbrev wsX70 : List Cond := u_ws RX7 TX7 8
theorem nmX7 : ∀ a, a < 8 → ∀ b, b < 8 → a ≠ b → (TX7 a).2.1 ≠ (TX7 b).2.1 := by decide +kernel
theorem tyX7_ok : ∀ k, k < 8 → parseFieldDescriptor (TX7 k).2.2.1 = some (tyX7 k) := by decide +kernel
abbrev cX7_init : ByteArray := prog_9_method_1_code
def yX7_init : MethodName := ⟨RX7, "<init>", "()V"⟩
abbrev cX7_copyFrom : ByteArray := prog_9_method_2_code
def yX7_copyFrom : MethodName := ⟨RX7, "copyFrom", "(LTinKitchen$State;)V"⟩
abbrev cX7_hasIngredient : ByteArray := prog_9_method_3_code
def yX7_hasIngredient : MethodName := ⟨RX7, "hasIngredient", "(I)Z"⟩
abbrev cX7_hasRecipe : ByteArray := prog_9_method_4_code
def yX7_hasRecipe : MethodName := ⟨RX7, "hasRecipe", "(I)Z"⟩
abbrev cX7_hasPortions : ByteArray := prog_9_method_5_code
def yX7_hasPortions : MethodName := ⟨RX7, "hasPortions", "()Z"⟩
abbrev cX7_neededByRecipes : ByteArray := prog_9_method_6_code
def yX7_neededByRecipes : MethodName := ⟨RX7, "neededByRecipes", "(I)I"⟩
abbrev cX7_emptyMenu : ByteArray := prog_9_method_7_code
def yX7_emptyMenu : MethodName := ⟨RX7, "emptyMenu", "()V"⟩
abbrev cX7_letPass : ByteArray := prog_9_method_8_code
def yX7_letPass : MethodName := ⟨RX7, "letPass", "(I)I"⟩
def RX8 : String := "TinKitchen$Step"
def TX8 : u_T := fun k => match k with
  | 0 => ("TinKitchen$Step", "duration", "I", false)
  | 1 => ("TinKitchen$Step", "needsHands", "I", false)
  | 2 => ("TinKitchen$Step", "before", "I", false)
  | _ => ("TinKitchen$Step", "grows", "Z", false)
def tyX8 : Nat → FieldType := fun k => match k with
  | 0 => .int
  | 1 => .int
  | 2 => .int
  | _ => .boolean
abbrev wsX80 : List Cond := u_ws RX8 TX8 4
theorem nmX8 : ∀ a, a < 4 → ∀ b, b < 4 → a ≠ b → (TX8 a).2.1 ≠ (TX8 b).2.1 := by decide +kernel
theorem tyX8_ok : ∀ k, k < 4 → parseFieldDescriptor (TX8 k).2.2.1 = some (tyX8 k) := by decide +kernel
abbrev cX8_init : ByteArray := prog_10_method_1_code
def yX8_init : MethodName := ⟨RX8, "<init>", "()V"⟩
abbrev cX8_copyFrom : ByteArray := prog_10_method_2_code
def yX8_copyFrom : MethodName := ⟨RX8, "copyFrom", "(LTinKitchen$Step;)V"⟩
def RX9 : String := "TinKitchen$TinSearch"
def TX9 : u_T := fun k => match k with
  | 0 => ("TinKitchen$TinSearch", "bestPrice", "I", false)
  | 1 => ("TinKitchen$TinSearch", "bestWeight", "I", false)
  | 2 => ("TinKitchen$TinSearch", "best", "[I", true)
  | 3 => ("TinKitchen$TinSearch", "bestTins", "I", false)
  | 4 => ("TinKitchen$TinSearch", "isFound", "Z", false)
  | 5 => ("TinKitchen$TinSearch", "tried", "[I", true)
  | 6 => ("TinKitchen$TinSearch", "ranked", "[I", true)
  | 7 => ("TinKitchen$TinSearch", "size", "[I", true)
  | 8 => ("TinKitchen$TinSearch", "price", "[I", true)
  | _ => ("TinKitchen$TinSearch", "most", "[I", true)
def tyX9 : Nat → FieldType := fun k => match k with
  | 0 => .int
  | 1 => .int
  | 2 => .array .int
  | 3 => .int
  | 4 => .boolean
  | 5 => .array .int
  | 6 => .array .int
  | 7 => .array .int
  | 8 => .array .int
  | _ => .array .int
abbrev wsX90 : List Cond := u_ws RX9 TX9 10
theorem nmX9 : ∀ a, a < 10 → ∀ b, b < 10 → a ≠ b → (TX9 a).2.1 ≠ (TX9 b).2.1 := by decide +kernel
theorem tyX9_ok : ∀ k, k < 10 → parseFieldDescriptor (TX9 k).2.2.1 = some (tyX9 k) := by decide +kernel
abbrev cX9_init : ByteArray := prog_11_method_1_code
def yX9_init : MethodName := ⟨RX9, "<init>", "()V"⟩
abbrev cX9_rank : ByteArray := prog_11_method_2_code
def yX9_rank : MethodName := ⟨RX9, "rank", "(LTinKitchen$Ingredient;)V"⟩
abbrev cX9_find : ByteArray := prog_11_method_3_code
def yX9_find : MethodName := ⟨RX9, "find", "(I)V"⟩
abbrev cX9_isAhead : ByteArray := prog_11_method_4_code
def yX9_isAhead : MethodName := ⟨RX9, "isAhead", "(LTinKitchen$Ingredient;II)Z"⟩
abbrev cX9_mostOf : ByteArray := prog_11_method_5_code
def yX9_mostOf : MethodName := ⟨RX9, "mostOf", "(I)I"⟩
abbrev cX9_commonDivisor : ByteArray := prog_11_method_6_code
def yX9_commonDivisor : MethodName := ⟨RX9, "commonDivisor", "(II)I"⟩
abbrev cX9_isTooDear : ByteArray := prog_11_method_7_code
def yX9_isTooDear : MethodName := ⟨RX9, "isTooDear", "(III)Z"⟩
abbrev cX9_offer : ByteArray := prog_11_method_8_code
def yX9_offer : MethodName := ⟨RX9, "offer", "(III)V"⟩
abbrev cX9_putTried : ByteArray := prog_11_method_9_code
def yX9_putTried : MethodName := ⟨RX9, "putTried", "(II)V"⟩
abbrev cX9_isBetter : ByteArray := prog_11_method_10_code
def yX9_isBetter : MethodName := ⟨RX9, "isBetter", "(III)Z"⟩
def RX10 : String := "TinKitchen"
def TX10 : u_T := fun k => match k with
  | 0 => ("TinKitchen", "now", "LTinKitchen$State;", true)
  | 1 => ("TinKitchen", "history", "LTinKitchen$History;", true)
  | 2 => ("TinKitchen", "slots", "[LTinKitchen$State;", true)
  | 3 => ("TinKitchen", "isSaved", "[Z", true)
  | 4 => ("TinKitchen", "pad", "LTinKitchen$Pad;", true)
  | 5 => ("TinKitchen", "reader", "LTinKitchen$Reader;", true)
  | 6 => ("TinKitchen", "shopping", "LTinKitchen$Shopping;", true)
  | _ => ("TinKitchen", "schedule", "LTinKitchen$Schedule;", true)
def tyX10 : Nat → FieldType := fun k => match k with
  | 0 => .object "TinKitchen$State"
  | 1 => .object "TinKitchen$History"
  | 2 => .array (.object "TinKitchen$State")
  | 3 => .array .boolean
  | 4 => .object "TinKitchen$Pad"
  | 5 => .object "TinKitchen$Reader"
  | 6 => .object "TinKitchen$Shopping"
  | _ => .object "TinKitchen$Schedule"
abbrev wsX100 : List Cond := u_ws RX10 TX10 8
theorem nmX10 : ∀ a, a < 8 → ∀ b, b < 8 → a ≠ b → (TX10 a).2.1 ≠ (TX10 b).2.1 := by decide +kernel
theorem tyX10_ok : ∀ k, k < 8 → parseFieldDescriptor (TX10 k).2.2.1 = some (tyX10 k) := by decide +kernel
abbrev cX10_init : ByteArray := prog_1_method_1_code
def yX10_init : MethodName := ⟨RX10, "<init>", "()V"⟩
abbrev cX10_ingredient : ByteArray := prog_1_method_2_code
def yX10_ingredient : MethodName := ⟨RX10, "ingredient", "(I)I"⟩
abbrev cX10_tin : ByteArray := prog_1_method_3_code
def yX10_tin : MethodName := ⟨RX10, "tin", "(III)I"⟩
abbrev cX10_buyable : ByteArray := prog_1_method_4_code
def yX10_buyable : MethodName := ⟨RX10, "buyable", "(II)I"⟩
abbrev cX10_substitute : ByteArray := prog_1_method_5_code
def yX10_substitute : MethodName := ⟨RX10, "substitute", "(III)I"⟩
abbrev cX10_stock : ByteArray := prog_1_method_6_code
def yX10_stock : MethodName := ⟨RX10, "stock", "(II)I"⟩
abbrev cX10_recipe : ByteArray := prog_1_method_7_code
def yX10_recipe : MethodName := ⟨RX10, "recipe", "()I"⟩
abbrev cX10_amount : ByteArray := prog_1_method_8_code
def yX10_amount : MethodName := ⟨RX10, "amount", "(III)I"⟩
abbrev cX10_menu : ByteArray := prog_1_method_9_code
def yX10_menu : MethodName := ⟨RX10, "menu", "(II)I"⟩
abbrev cX10_hands : ByteArray := prog_1_method_10_code
def yX10_hands : MethodName := ⟨RX10, "hands", "(I)I"⟩
abbrev cX10_cook : ByteArray := prog_1_method_11_code
def yX10_cook : MethodName := ⟨RX10, "cook", "()I"⟩
abbrev cX10_pass : ByteArray := prog_1_method_12_code
def yX10_pass : MethodName := ⟨RX10, "pass", "(I)I"⟩
abbrev cX10_about : ByteArray := prog_1_method_13_code
def yX10_about : MethodName := ⟨RX10, "about", "(II)I"⟩
abbrev cX10_ofTin : ByteArray := prog_1_method_14_code
def yX10_ofTin : MethodName := ⟨RX10, "ofTin", "(III)I"⟩
abbrev cX10_needs : ByteArray := prog_1_method_15_code
def yX10_needs : MethodName := ⟨RX10, "needs", "(II)I"⟩
abbrev cX10_step : ByteArray := prog_1_method_16_code
def yX10_step : MethodName := ⟨RX10, "step", "(III)I"⟩
abbrev cX10_ofRecipe : ByteArray := prog_1_method_17_code
def yX10_ofRecipe : MethodName := ⟨RX10, "ofRecipe", "(II)I"⟩
abbrev cX10_count : ByteArray := prog_1_method_18_code
def yX10_count : MethodName := ⟨RX10, "count", "(I)I"⟩
abbrev cX10_bestPortions : ByteArray := prog_1_method_19_code
def yX10_bestPortions : MethodName := ⟨RX10, "bestPortions", "(III)I"⟩
abbrev cX10_fewestHands : ByteArray := prog_1_method_20_code
def yX10_fewestHands : MethodName := ⟨RX10, "fewestHands", "(I)I"⟩
abbrev cX10_ifBuyable : ByteArray := prog_1_method_21_code
def yX10_ifBuyable : MethodName := ⟨RX10, "ifBuyable", "(II)I"⟩
abbrev cX10_put : ByteArray := prog_1_method_22_code
def yX10_put : MethodName := ⟨RX10, "put", "(J)I"⟩
abbrev cX10_wipe : ByteArray := prog_1_method_23_code
def yX10_wipe : MethodName := ⟨RX10, "wipe", "()I"⟩
abbrev cX10_fault : ByteArray := prog_1_method_24_code
def yX10_fault : MethodName := ⟨RX10, "fault", "()I"⟩
abbrev cX10_undo : ByteArray := prog_1_method_25_code
def yX10_undo : MethodName := ⟨RX10, "undo", "()I"⟩
abbrev cX10_save : ByteArray := prog_1_method_26_code
def yX10_save : MethodName := ⟨RX10, "save", "(I)I"⟩
abbrev cX10_restore : ByteArray := prog_1_method_27_code
def yX10_restore : MethodName := ⟨RX10, "restore", "(I)I"⟩
abbrev cX10_canBeCooked : ByteArray := prog_1_method_28_code
def yX10_canBeCooked : MethodName := ⟨RX10, "canBeCooked", "()Z"⟩
abbrev cX10_tailInMenu : ByteArray := prog_1_method_29_code
def yX10_tailInMenu : MethodName := ⟨RX10, "tailInMenu", "(II)I"⟩
abbrev cX10_beginInMenu : ByteArray := prog_1_method_30_code
def yX10_beginInMenu : MethodName := ⟨RX10, "beginInMenu", "(II)I"⟩
abbrev cX10_ofShopping : ByteArray := prog_1_method_31_code
def yX10_ofShopping : MethodName := ⟨RX10, "ofShopping", "(I)I"⟩
abbrev cX10_ofSchedule : ByteArray := prog_1_method_32_code
def yX10_ofSchedule : MethodName := ⟨RX10, "ofSchedule", "(I)I"⟩
abbrev cX10_lengthOf : ByteArray := prog_1_method_33_code
def yX10_lengthOf : MethodName := ⟨RX10, "lengthOf", "(J)I"⟩
abbrev cX10_isWithin : ByteArray := prog_1_method_34_code
def yX10_isWithin : MethodName := ⟨RX10, "isWithin", "(III)Z"⟩
abbrev cX10_asNumber : ByteArray := prog_1_method_35_code
def yX10_asNumber : MethodName := ⟨RX10, "asNumber", "(Z)I"⟩
abbrev cX10_roundedUp : ByteArray := prog_1_method_36_code
def yX10_roundedUp : MethodName := ⟨RX10, "roundedUp", "(II)I"⟩
def RX11 : String := "TinKitchenModel"
def TX11 : u_T := fun k => match k with
  | 0 => ("TinKitchenModel", "at", "[I", true)
  | 1 => ("TinKitchenModel", "past", "[I", true)
  | 2 => ("TinKitchenModel", "pastMany", "I", false)
  | 3 => ("TinKitchenModel", "slots", "[I", true)
  | 4 => ("TinKitchenModel", "isSaved", "[Z", true)
  | 5 => ("TinKitchenModel", "pad", "[I", true)
  | 6 => ("TinKitchenModel", "padMany", "I", false)
  | 7 => ("TinKitchenModel", "needed", "[I", true)
  | 8 => ("TinKitchenModel", "replaces", "[I", true)
  | 9 => ("TinKitchenModel", "taken", "[I", true)
  | 10 => ("TinKitchenModel", "bought", "[I", true)
  | 11 => ("TinKitchenModel", "over", "[I", true)
  | 12 => ("TinKitchenModel", "replaced", "[I", true)
  | 13 => ("TinKitchenModel", "missing", "[I", true)
  | 14 => ("TinKitchenModel", "price", "[I", true)
  | 15 => ("TinKitchenModel", "tins", "[I", true)
  | 16 => ("TinKitchenModel", "bestPrice", "I", false)
  | 17 => ("TinKitchenModel", "bestWeight", "I", false)
  | 18 => ("TinKitchenModel", "bestMany", "I", false)
  | 19 => ("TinKitchenModel", "lasts", "[I", true)
  | 20 => ("TinKitchenModel", "tails", "[I", true)
  | 21 => ("TinKitchenModel", "begins", "[I", true)
  | 22 => ("TinKitchenModel", "ended", "I", false)
  | 23 => ("TinKitchenModel", "greatestTail", "I", false)
  | 24 => ("TinKitchenModel", "work", "I", false)
  | 25 => ("TinKitchenModel", "spot", "I", false)
  | 26 => ("TinKitchenModel", "isWrong", "Z", false)
  | 27 => ("TinKitchenModel", "readBase", "I", false)
  | 28 => ("TinKitchenModel", "readAmount", "[I", true)
  | 29 => ("TinKitchenModel", "readStep", "[I", true)
  | _ => ("TinKitchenModel", "readSteps", "I", false)
def tyX11 : Nat → FieldType := fun k => match k with
  | 0 => .array .int
  | 1 => .array .int
  | 2 => .int
  | 3 => .array .int
  | 4 => .array .boolean
  | 5 => .array .int
  | 6 => .int
  | 7 => .array .int
  | 8 => .array .int
  | 9 => .array .int
  | 10 => .array .int
  | 11 => .array .int
  | 12 => .array .int
  | 13 => .array .int
  | 14 => .array .int
  | 15 => .array .int
  | 16 => .int
  | 17 => .int
  | 18 => .int
  | 19 => .array .int
  | 20 => .array .int
  | 21 => .array .int
  | 22 => .int
  | 23 => .int
  | 24 => .int
  | 25 => .int
  | 26 => .boolean
  | 27 => .int
  | 28 => .array .int
  | 29 => .array .int
  | _ => .int
abbrev wsX110 : List Cond := u_ws RX11 TX11 31
theorem nmX11 : ∀ a, a < 31 → ∀ b, b < 31 → a ≠ b → (TX11 a).2.1 ≠ (TX11 b).2.1 := by decide +kernel
theorem tyX11_ok : ∀ k, k < 31 → parseFieldDescriptor (TX11 k).2.2.1 = some (tyX11 k) := by decide +kernel
abbrev cX11_init : ByteArray := prog_13_method_1_code
def yX11_init : MethodName := ⟨RX11, "<init>", "()V"⟩
abbrev cX11_in : ByteArray := prog_13_method_3_code
def yX11_in : MethodName := ⟨RX11, "in", "(III)Z"⟩
abbrev cX11_up : ByteArray := prog_13_method_4_code
def yX11_up : MethodName := ⟨RX11, "up", "(II)I"⟩
abbrev cX11_of : ByteArray := prog_13_method_5_code
def yX11_of : MethodName := ⟨RX11, "of", "(II)I"⟩
abbrev cX11_lay : ByteArray := prog_13_method_6_code
def yX11_lay : MethodName := ⟨RX11, "lay", "(III)V"⟩
abbrev cX11_ofARecipe : ByteArray := prog_13_method_7_code
def yX11_ofARecipe : MethodName := ⟨RX11, "ofARecipe", "(II)I"⟩
abbrev cX11_ofStep : ByteArray := prog_13_method_8_code
def yX11_ofStep : MethodName := ⟨RX11, "ofStep", "(III)I"⟩
abbrev cX11_isIngredient : ByteArray := prog_13_method_9_code
def yX11_isIngredient : MethodName := ⟨RX11, "isIngredient", "(I)Z"⟩
abbrev cX11_isRecipe : ByteArray := prog_13_method_10_code
def yX11_isRecipe : MethodName := ⟨RX11, "isRecipe", "(I)Z"⟩
abbrev cX11_keep : ByteArray := prog_13_method_11_code
def yX11_keep : MethodName := ⟨RX11, "keep", "()V"⟩
abbrev cX11_ingredient : ByteArray := prog_13_method_12_code
def yX11_ingredient : MethodName := ⟨RX11, "ingredient", "(I)I"⟩
abbrev cX11_sizeOf : ByteArray := prog_13_method_13_code
def yX11_sizeOf : MethodName := ⟨RX11, "sizeOf", "(II)I"⟩
abbrev cX11_priceOf : ByteArray := prog_13_method_14_code
def yX11_priceOf : MethodName := ⟨RX11, "priceOf", "(II)I"⟩
abbrev cX11_tin : ByteArray := prog_13_method_15_code
def yX11_tin : MethodName := ⟨RX11, "tin", "(III)I"⟩
abbrev cX11_buyable : ByteArray := prog_13_method_16_code
def yX11_buyable : MethodName := ⟨RX11, "buyable", "(II)I"⟩
abbrev cX11_substitute : ByteArray := prog_13_method_17_code
def yX11_substitute : MethodName := ⟨RX11, "substitute", "(III)I"⟩
abbrev cX11_lotOn : ByteArray := prog_13_method_18_code
def yX11_lotOn : MethodName := ⟨RX11, "lotOn", "(II)I"⟩
abbrev cX11_layLot : ByteArray := prog_13_method_19_code
def yX11_layLot : MethodName := ⟨RX11, "layLot", "(III)V"⟩
abbrev cX11_pantry : ByteArray := prog_13_method_20_code
def yX11_pantry : MethodName := ⟨RX11, "pantry", "(I)I"⟩
abbrev cX11_lots : ByteArray := prog_13_method_21_code
def yX11_lots : MethodName := ⟨RX11, "lots", "(I)I"⟩
abbrev cX11_firstDay : ByteArray := prog_13_method_22_code
def yX11_firstDay : MethodName := ⟨RX11, "firstDay", "(I)I"⟩
abbrev cX11_putIn : ByteArray := prog_13_method_23_code
def yX11_putIn : MethodName := ⟨RX11, "putIn", "(II)V"⟩
abbrev cX11_takeOut : ByteArray := prog_13_method_24_code
def yX11_takeOut : MethodName := ⟨RX11, "takeOut", "(II)V"⟩
abbrev cX11_stock : ByteArray := prog_13_method_25_code
def yX11_stock : MethodName := ⟨RX11, "stock", "(II)I"⟩
abbrev cX11_pass : ByteArray := prog_13_method_26_code
def yX11_pass : MethodName := ⟨RX11, "pass", "(I)I"⟩
abbrev cX11_byRecipes : ByteArray := prog_13_method_27_code
def yX11_byRecipes : MethodName := ⟨RX11, "byRecipes", "(I)I"⟩
abbrev cX11_consider : ByteArray := prog_13_method_28_code
def yX11_consider : MethodName := ⟨RX11, "consider", "(IIII)V"⟩
abbrev cX11_stillNeeded : ByteArray := prog_13_method_29_code
def yX11_stillNeeded : MethodName := ⟨RX11, "stillNeeded", "(I)I"⟩
abbrev cX11_findTins : ByteArray := prog_13_method_30_code
def yX11_findTins : MethodName := ⟨RX11, "findTins", "(II)V"⟩
abbrev cX11_buy : ByteArray := prog_13_method_31_code
def yX11_buy : MethodName := ⟨RX11, "buy", "(II)V"⟩
abbrev cX11_clearNeeds : ByteArray := prog_13_method_32_code
def yX11_clearNeeds : MethodName := ⟨RX11, "clearNeeds", "()V"⟩
abbrev cX11_findNeeds : ByteArray := prog_13_method_33_code
def yX11_findNeeds : MethodName := ⟨RX11, "findNeeds", "()V"⟩
abbrev cX11_getRest : ByteArray := prog_13_method_34_code
def yX11_getRest : MethodName := ⟨RX11, "getRest", "(II)V"⟩
abbrev cX11_sumOf : ByteArray := prog_13_method_35_code
def yX11_sumOf : MethodName := ⟨RX11, "sumOf", "([I)I"⟩
abbrev cX11_missingSet : ByteArray := prog_13_method_36_code
def yX11_missingSet : MethodName := ⟨RX11, "missingSet", "()I"⟩
abbrev cX11_hasPortions : ByteArray := prog_13_method_37_code
def yX11_hasPortions : MethodName := ⟨RX11, "hasPortions", "()Z"⟩
abbrev cX11_canCook : ByteArray := prog_13_method_38_code
def yX11_canCook : MethodName := ⟨RX11, "canCook", "()Z"⟩
abbrev cX11_cook : ByteArray := prog_13_method_39_code
def yX11_cook : MethodName := ⟨RX11, "cook", "()I"⟩
abbrev cX11_lastsOf : ByteArray := prog_13_method_40_code
def yX11_lastsOf : MethodName := ⟨RX11, "lastsOf", "(III)I"⟩
abbrev cX11_isOn : ByteArray := prog_13_method_41_code
def yX11_isOn : MethodName := ⟨RX11, "isOn", "(I)Z"⟩
abbrev cX11_handsOf : ByteArray := prog_13_method_42_code
def yX11_handsOf : MethodName := ⟨RX11, "handsOf", "(I)I"⟩
abbrev cX11_aheadOf : ByteArray := prog_13_method_43_code
def yX11_aheadOf : MethodName := ⟨RX11, "aheadOf", "(I)I"⟩
abbrev cX11_findTails : ByteArray := prog_13_method_44_code
def yX11_findTails : MethodName := ⟨RX11, "findTails", "()V"⟩
abbrev cX11_hasEnded : ByteArray := prog_13_method_45_code
def yX11_hasEnded : MethodName := ⟨RX11, "hasEnded", "(II)Z"⟩
abbrev cX11_isReady : ByteArray := prog_13_method_46_code
def yX11_isReady : MethodName := ⟨RX11, "isReady", "(II)Z"⟩
abbrev cX11_freeAt : ByteArray := prog_13_method_47_code
def yX11_freeAt : MethodName := ⟨RX11, "freeAt", "(II)I"⟩
abbrev cX11_nextAt : ByteArray := prog_13_method_48_code
def yX11_nextAt : MethodName := ⟨RX11, "nextAt", "(II)I"⟩
abbrev cX11_nextEnd : ByteArray := prog_13_method_49_code
def yX11_nextEnd : MethodName := ⟨RX11, "nextEnd", "(I)I"⟩
abbrev cX11_findTimes : ByteArray := prog_13_method_50_code
def yX11_findTimes : MethodName := ⟨RX11, "findTimes", "(I)I"⟩
abbrev cX11_bound : ByteArray := prog_13_method_51_code
def yX11_bound : MethodName := ⟨RX11, "bound", "()I"⟩
abbrev cX11_next : ByteArray := prog_13_method_52_code
def yX11_next : MethodName := ⟨RX11, "next", "()I"⟩
abbrev cX11_takeNumber : ByteArray := prog_13_method_53_code
def yX11_takeNumber : MethodName := ⟨RX11, "takeNumber", "(I)I"⟩
abbrev cX11_takeAmount : ByteArray := prog_13_method_54_code
def yX11_takeAmount : MethodName := ⟨RX11, "takeAmount", "()V"⟩
abbrev cX11_takeDigit : ByteArray := prog_13_method_55_code
def yX11_takeDigit : MethodName := ⟨RX11, "takeDigit", "(II)I"⟩
abbrev cX11_takeStep : ByteArray := prog_13_method_56_code
def yX11_takeStep : MethodName := ⟨RX11, "takeStep", "()V"⟩
abbrev cX11_fault : ByteArray := prog_13_method_57_code
def yX11_fault : MethodName := ⟨RX11, "fault", "()I"⟩
abbrev cX11_recipe : ByteArray := prog_13_method_58_code
def yX11_recipe : MethodName := ⟨RX11, "recipe", "()I"⟩
abbrev cX11_amount : ByteArray := prog_13_method_59_code
def yX11_amount : MethodName := ⟨RX11, "amount", "(III)I"⟩
abbrev cX11_menu : ByteArray := prog_13_method_60_code
def yX11_menu : MethodName := ⟨RX11, "menu", "(II)I"⟩
abbrev cX11_hands : ByteArray := prog_13_method_61_code
def yX11_hands : MethodName := ⟨RX11, "hands", "(I)I"⟩
abbrev cX11_about : ByteArray := prog_13_method_62_code
def yX11_about : MethodName := ⟨RX11, "about", "(II)I"⟩
abbrev cX11_ofTin : ByteArray := prog_13_method_63_code
def yX11_ofTin : MethodName := ⟨RX11, "ofTin", "(III)I"⟩
abbrev cX11_needs : ByteArray := prog_13_method_64_code
def yX11_needs : MethodName := ⟨RX11, "needs", "(II)I"⟩
abbrev cX11_step : ByteArray := prog_13_method_65_code
def yX11_step : MethodName := ⟨RX11, "step", "(III)I"⟩
abbrev cX11_ofRecipe : ByteArray := prog_13_method_66_code
def yX11_ofRecipe : MethodName := ⟨RX11, "ofRecipe", "(II)I"⟩
abbrev cX11_ofPlan : ByteArray := prog_13_method_67_code
def yX11_ofPlan : MethodName := ⟨RX11, "ofPlan", "(I)I"⟩
abbrev cX11_count : ByteArray := prog_13_method_68_code
def yX11_count : MethodName := ⟨RX11, "count", "(I)I"⟩
abbrev cX11_bestPortions : ByteArray := prog_13_method_69_code
def yX11_bestPortions : MethodName := ⟨RX11, "bestPortions", "(III)I"⟩
abbrev cX11_fewestHands : ByteArray := prog_13_method_70_code
def yX11_fewestHands : MethodName := ⟨RX11, "fewestHands", "(I)I"⟩
abbrev cX11_ifBuyable : ByteArray := prog_13_method_71_code
def yX11_ifBuyable : MethodName := ⟨RX11, "ifBuyable", "(II)I"⟩
abbrev cX11_put : ByteArray := prog_13_method_72_code
def yX11_put : MethodName := ⟨RX11, "put", "(J)I"⟩
abbrev cX11_wipe : ByteArray := prog_13_method_73_code
def yX11_wipe : MethodName := ⟨RX11, "wipe", "()I"⟩
abbrev cX11_undo : ByteArray := prog_13_method_74_code
def yX11_undo : MethodName := ⟨RX11, "undo", "()I"⟩
abbrev cX11_save : ByteArray := prog_13_method_75_code
def yX11_save : MethodName := ⟨RX11, "save", "(I)I"⟩
abbrev cX11_restore : ByteArray := prog_13_method_76_code
def yX11_restore : MethodName := ⟨RX11, "restore", "(I)I"⟩
def RJ9 : String := "java/lang/Math"
def TJ9 : u_T := fun k => match k with
  | _ => ("", "", "", false)
def tyJ9 : Nat → FieldType := fun k => match k with
  | _ => .int
abbrev wsJ90 : List Cond := u_ws RJ9 TJ9 0
theorem nmJ9 : ∀ a, a < 0 → ∀ b, b < 0 → a ≠ b → (TJ9 a).2.1 ≠ (TJ9 b).2.1 := by decide +kernel
theorem tyJ9_ok : ∀ k, k < 0 → parseFieldDescriptor (TJ9 k).2.2.1 = some (tyJ9 k) := by decide +kernel
abbrev cJ9_floorMod_7cf53 : ByteArray := prog_14_method_50_code
def yJ9_floorMod_7cf53 : MethodName := ⟨RJ9, "floorMod", "(II)I"⟩
abbrev cJ9_max_7cf53 : ByteArray := prog_14_method_65_code
def yJ9_max_7cf53 : MethodName := ⟨RJ9, "max", "(II)I"⟩
abbrev cJ9_min_7cf53 : ByteArray := prog_14_method_69_code
def yJ9_min_7cf53 : MethodName := ⟨RJ9, "min", "(II)I"⟩
def RJ10 : String := "java/lang/System"
def TJ10 : u_T := fun k => match k with
  | _ => ("", "", "", false)
def tyJ10 : Nat → FieldType := fun k => match k with
  | _ => .int
abbrev wsJ100 : List Cond := u_ws RJ10 TJ10 0
theorem nmJ10 : ∀ a, a < 0 → ∀ b, b < 0 → a ≠ b → (TJ10 a).2.1 ≠ (TJ10 b).2.1 := by decide +kernel
theorem tyJ10_ok : ∀ k, k < 0 → parseFieldDescriptor (TJ10 k).2.2.1 = some (tyJ10 k) := by decide +kernel
def RL : String := "TinKitchenLaw"
abbrev cL_law : ByteArray := code
def yL_law : MethodName := ⟨RL, "law", "([I)Z"⟩
abbrev vwCl : List vw_C := [(RX0, TX0, 3), (RX1, TX1, 12), (RX2, TX2, 2), (RX3, TX3, 4), (RX4, TX4, 5), (RX5, TX5, 9), (RX6, TX6, 10), (RX7, TX7, 8), (RX8, TX8, 4), (RX9, TX9, 10), (RX10, TX10, 8), (RX11, TX11, 31)]
end
