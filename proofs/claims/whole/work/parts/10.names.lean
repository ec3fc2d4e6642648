-- ===== PART A: goes FIRST, ahead of the names: the tables' words, and 'selects' of the private methods out of them =====
/-- a private method of a class that the tables say can be made, by its rows of tables_1 -/
def lw_okq (q : MethodName × Nat) : Prop := (q.1.cls ≠ "java/lang/invoke/MethodHandle" ∧ q.1.cls ≠ "java/lang/invoke/VarHandle") ∧ Cond.instantiable q.1.cls q.2 ∈ tables_1 ∧ Cond.privateMethod q.1 ∈ tables_1 ∧ Cond.instanceMethod q.1 ∈ tables_1
theorem lw_p0 : lw_okq (⟨"java/util/ArrayList", "add", "(Ljava/lang/Object;[Ljava/lang/Object;I)V"⟩, 3) := ⟨⟨by decide +kernel, by decide +kernel⟩, List.mem_of_getElem? (i := 25) (by decide +kernel), List.mem_of_getElem? (i := 106) (by decide +kernel), List.mem_of_getElem? (i := 107) (by decide +kernel)⟩
theorem lw_p1 : lw_okq (⟨"java/util/ArrayList", "grow", "()[Ljava/lang/Object;"⟩, 3) := ⟨⟨by decide +kernel, by decide +kernel⟩, List.mem_of_getElem? (i := 25) (by decide +kernel), List.mem_of_getElem? (i := 110) (by decide +kernel), List.mem_of_getElem? (i := 111) (by decide +kernel)⟩
theorem lw_p2 : lw_okq (⟨"java/util/ArrayList", "grow", "(I)[Ljava/lang/Object;"⟩, 3) := ⟨⟨by decide +kernel, by decide +kernel⟩, List.mem_of_getElem? (i := 25) (by decide +kernel), List.mem_of_getElem? (i := 114) (by decide +kernel), List.mem_of_getElem? (i := 115) (by decide +kernel)⟩
theorem lw_p3 : lw_okq (⟨"ThingHeap", "setRoot", "(ILThingHeap$Thing;)V"⟩, 5) := ⟨⟨by decide +kernel, by decide +kernel⟩, List.mem_of_getElem? (i := 15) (by decide +kernel), List.mem_of_getElem? (i := 154) (by decide +kernel), List.mem_of_getElem? (i := 155) (by decide +kernel)⟩
theorem lw_p4 : lw_okq (⟨"ThingHeap", "release", "(LThingHeap$Thing;)V"⟩, 5) := ⟨⟨by decide +kernel, by decide +kernel⟩, List.mem_of_getElem? (i := 15) (by decide +kernel), List.mem_of_getElem? (i := 161) (by decide +kernel), List.mem_of_getElem? (i := 162) (by decide +kernel)⟩
theorem lw_p5 : lw_okq (⟨"ThingHeap", "loseHold", "(LThingHeap$Thing;)V"⟩, 5) := ⟨⟨by decide +kernel, by decide +kernel⟩, List.mem_of_getElem? (i := 15) (by decide +kernel), List.mem_of_getElem? (i := 165) (by decide +kernel), List.mem_of_getElem? (i := 166) (by decide +kernel)⟩
theorem lw_p6 : lw_okq (⟨"ThingHeap", "removeUnheld", "()V"⟩, 5) := ⟨⟨by decide +kernel, by decide +kernel⟩, List.mem_of_getElem? (i := 15) (by decide +kernel), List.mem_of_getElem? (i := 169) (by decide +kernel), List.mem_of_getElem? (i := 170) (by decide +kernel)⟩
theorem lw_p7 : lw_okq (⟨"ThingHeap", "dropItems", "(LThingHeap$Thing;)V"⟩, 5) := ⟨⟨by decide +kernel, by decide +kernel⟩, List.mem_of_getElem? (i := 15) (by decide +kernel), List.mem_of_getElem? (i := 187) (by decide +kernel), List.mem_of_getElem? (i := 188) (by decide +kernel)⟩
theorem lw_p8 : lw_okq (⟨"ThingHeap", "keepHeld", "()V"⟩, 5) := ⟨⟨by decide +kernel, by decide +kernel⟩, List.mem_of_getElem? (i := 15) (by decide +kernel), List.mem_of_getElem? (i := 200) (by decide +kernel), List.mem_of_getElem? (i := 201) (by decide +kernel)⟩
theorem lw_p9 : lw_okq (⟨"java/util/ArrayList", "fastRemove", "([Ljava/lang/Object;I)V"⟩, 3) := ⟨⟨by decide +kernel, by decide +kernel⟩, List.mem_of_getElem? (i := 25) (by decide +kernel), List.mem_of_getElem? (i := 212) (by decide +kernel), List.mem_of_getElem? (i := 213) (by decide +kernel)⟩
theorem lw_p10 : lw_okq (⟨"ThingHeap", "find", "(I)LThingHeap$Thing;"⟩, 5) := ⟨⟨by decide +kernel, by decide +kernel⟩, List.mem_of_getElem? (i := 15) (by decide +kernel), List.mem_of_getElem? (i := 221) (by decide +kernel), List.mem_of_getElem? (i := 222) (by decide +kernel)⟩
theorem lw_p11 : lw_okq (⟨"ThingHeap", "append", "(LThingHeap$Thing;LThingHeap$Thing;I)I"⟩, 5) := ⟨⟨by decide +kernel, by decide +kernel⟩, List.mem_of_getElem? (i := 15) (by decide +kernel), List.mem_of_getElem? (i := 229) (by decide +kernel), List.mem_of_getElem? (i := 230) (by decide +kernel)⟩
theorem lw_p12 : lw_okq (⟨"ThingHeap", "markReached", "()V"⟩, 5) := ⟨⟨by decide +kernel, by decide +kernel⟩, List.mem_of_getElem? (i := 15) (by decide +kernel), List.mem_of_getElem? (i := 286) (by decide +kernel), List.mem_of_getElem? (i := 287) (by decide +kernel)⟩
theorem lw_p13 : lw_okq (⟨"ThingHeap", "reach", "(LThingHeap$Thing;)V"⟩, 5) := ⟨⟨by decide +kernel, by decide +kernel⟩, List.mem_of_getElem? (i := 15) (by decide +kernel), List.mem_of_getElem? (i := 290) (by decide +kernel), List.mem_of_getElem? (i := 291) (by decide +kernel)⟩
theorem lw_p14 : lw_okq (⟨"ThingHeap", "reachItems", "(LThingHeap$Thing;)V"⟩, 5) := ⟨⟨by decide +kernel, by decide +kernel⟩, List.mem_of_getElem? (i := 15) (by decide +kernel), List.mem_of_getElem? (i := 294) (by decide +kernel), List.mem_of_getElem? (i := 295) (by decide +kernel)⟩
theorem lw_p15 : lw_okq (⟨"ThingHeapModel", "grow", "()V"⟩, 8) := ⟨⟨by decide +kernel, by decide +kernel⟩, List.mem_of_getElem? (i := 302) (by decide +kernel), List.mem_of_getElem? (i := 346) (by decide +kernel), List.mem_of_getElem? (i := 347) (by decide +kernel)⟩
def lw_privs_1 : List (MethodName × Nat) := [(⟨"java/util/ArrayList", "add", "(Ljava/lang/Object;[Ljava/lang/Object;I)V"⟩, 3), (⟨"java/util/ArrayList", "grow", "()[Ljava/lang/Object;"⟩, 3), (⟨"java/util/ArrayList", "grow", "(I)[Ljava/lang/Object;"⟩, 3), (⟨"ThingHeap", "setRoot", "(ILThingHeap$Thing;)V"⟩, 5), (⟨"ThingHeap", "release", "(LThingHeap$Thing;)V"⟩, 5), (⟨"ThingHeap", "loseHold", "(LThingHeap$Thing;)V"⟩, 5), (⟨"ThingHeap", "removeUnheld", "()V"⟩, 5), (⟨"ThingHeap", "dropItems", "(LThingHeap$Thing;)V"⟩, 5), (⟨"ThingHeap", "keepHeld", "()V"⟩, 5), (⟨"java/util/ArrayList", "fastRemove", "([Ljava/lang/Object;I)V"⟩, 3), (⟨"ThingHeap", "find", "(I)LThingHeap$Thing;"⟩, 5), (⟨"ThingHeap", "append", "(LThingHeap$Thing;LThingHeap$Thing;I)I"⟩, 5), (⟨"ThingHeap", "markReached", "()V"⟩, 5), (⟨"ThingHeap", "reach", "(LThingHeap$Thing;)V"⟩, 5), (⟨"ThingHeap", "reachItems", "(LThingHeap$Thing;)V"⟩, 5), (⟨"ThingHeapModel", "grow", "()V"⟩, 8)]
theorem lw_r1 : ∀ q ∈ lw_privs_1, lw_okq q := List.forall_mem_cons.mpr ⟨lw_p0, List.forall_mem_cons.mpr ⟨lw_p1, List.forall_mem_cons.mpr ⟨lw_p2, List.forall_mem_cons.mpr ⟨lw_p3, List.forall_mem_cons.mpr ⟨lw_p4, List.forall_mem_cons.mpr ⟨lw_p5, List.forall_mem_cons.mpr ⟨lw_p6, List.forall_mem_cons.mpr ⟨lw_p7, List.forall_mem_cons.mpr ⟨lw_p8, List.forall_mem_cons.mpr ⟨lw_p9, List.forall_mem_cons.mpr ⟨lw_p10, List.forall_mem_cons.mpr ⟨lw_p11, List.forall_mem_cons.mpr ⟨lw_p12, List.forall_mem_cons.mpr ⟨lw_p13, List.forall_mem_cons.mpr ⟨lw_p14, List.forall_mem_cons.mpr ⟨lw_p15, fun _ h => absurd h List.not_mem_nil⟩⟩⟩⟩⟩⟩⟩⟩⟩⟩⟩⟩⟩⟩⟩⟩
theorem lw_p16 : lw_okq (⟨"ThingHeapModel", "settle", "()V"⟩, 8) := ⟨⟨by decide +kernel, by decide +kernel⟩, List.mem_of_getElem? (i := 302) (by decide +kernel), List.mem_of_getElem? (i := 360) (by decide +kernel), List.mem_of_getElem? (i := 361) (by decide +kernel)⟩
theorem lw_p17 : lw_okq (⟨"ThingHeapModel", "count", "()V"⟩, 8) := ⟨⟨by decide +kernel, by decide +kernel⟩, List.mem_of_getElem? (i := 302) (by decide +kernel), List.mem_of_getElem? (i := 364) (by decide +kernel), List.mem_of_getElem? (i := 365) (by decide +kernel)⟩
theorem lw_p18 : lw_okq (⟨"ThingHeapModel", "hold", "(II)V"⟩, 8) := ⟨⟨by decide +kernel, by decide +kernel⟩, List.mem_of_getElem? (i := 302) (by decide +kernel), List.mem_of_getElem? (i := 374) (by decide +kernel), List.mem_of_getElem? (i := 375) (by decide +kernel)⟩
theorem lw_p19 : lw_okq (⟨"ThingHeapModel", "gone", "(II)I"⟩, 8) := ⟨⟨by decide +kernel, by decide +kernel⟩, List.mem_of_getElem? (i := 302) (by decide +kernel), List.mem_of_getElem? (i := 379) (by decide +kernel), List.mem_of_getElem? (i := 380) (by decide +kernel)⟩
theorem lw_p20 : lw_okq (⟨"ThingHeapModel", "isThere", "(I)Z"⟩, 8) := ⟨⟨by decide +kernel, by decide +kernel⟩, List.mem_of_getElem? (i := 302) (by decide +kernel), List.mem_of_getElem? (i := 388) (by decide +kernel), List.mem_of_getElem? (i := 389) (by decide +kernel)⟩
theorem lw_p21 : lw_okq (⟨"ThingHeapModel", "add", "(IJ)I"⟩, 8) := ⟨⟨by decide +kernel, by decide +kernel⟩, List.mem_of_getElem? (i := 302) (by decide +kernel), List.mem_of_getElem? (i := 396) (by decide +kernel), List.mem_of_getElem? (i := 397) (by decide +kernel)⟩
theorem lw_p22 : lw_okq (⟨"ThingHeapModel", "reach", "(II)I"⟩, 8) := ⟨⟨by decide +kernel, by decide +kernel⟩, List.mem_of_getElem? (i := 302) (by decide +kernel), List.mem_of_getElem? (i := 441) (by decide +kernel), List.mem_of_getElem? (i := 442) (by decide +kernel)⟩
def lw_privs_2 : List (MethodName × Nat) := [(⟨"ThingHeapModel", "settle", "()V"⟩, 8), (⟨"ThingHeapModel", "count", "()V"⟩, 8), (⟨"ThingHeapModel", "hold", "(II)V"⟩, 8), (⟨"ThingHeapModel", "gone", "(II)I"⟩, 8), (⟨"ThingHeapModel", "isThere", "(I)Z"⟩, 8), (⟨"ThingHeapModel", "add", "(IJ)I"⟩, 8), (⟨"ThingHeapModel", "reach", "(II)I"⟩, 8)]
theorem lw_r2 : ∀ q ∈ lw_privs_2, lw_okq q := List.forall_mem_cons.mpr ⟨lw_p16, List.forall_mem_cons.mpr ⟨lw_p17, List.forall_mem_cons.mpr ⟨lw_p18, List.forall_mem_cons.mpr ⟨lw_p19, List.forall_mem_cons.mpr ⟨lw_p20, List.forall_mem_cons.mpr ⟨lw_p21, List.forall_mem_cons.mpr ⟨lw_p22, fun _ h => absurd h List.not_mem_nil⟩⟩⟩⟩⟩⟩⟩
def lw_privs : List (MethodName × Nat) := lw_privs_1 ++ (lw_privs_2)
def lw_tbl : List Cond := k2_sels lw_privs ++ tables_1
theorem lw_privs_ok : ∀ q ∈ lw_privs, lw_okq q := by
  show ∀ q ∈ lw_privs_1 ++ (lw_privs_2), lw_okq q
  exact List.forall_mem_append.mpr ⟨lw_r1, lw_r2⟩
abbrev yn_TH_init : MethodName := ⟨"ThingHeap", "<init>", "()V"⟩
abbrev cd_TH_init : ByteArray := prog_1_method_1_code
abbrev yn_OJ_init : MethodName := ⟨"java/lang/Object", "<init>", "()V"⟩
abbrev cd_OJ_init : ByteArray := object_method_1_code
abbrev yn_AL_init : MethodName := ⟨"java/util/ArrayList", "<init>", "()V"⟩
abbrev cd_AL_init : ByteArray := prog_13_method_2_code
abbrev yn_AB_init : MethodName := ⟨"java/util/AbstractList", "<init>", "()V"⟩
abbrev cd_AB_init : ByteArray := prog_12_method_1_code
abbrev yn_AC_init : MethodName := ⟨"java/util/AbstractCollection", "<init>", "()V"⟩
abbrev cd_AC_init : ByteArray := prog_11_method_1_code
abbrev yn_TH_make : MethodName := ⟨"ThingHeap", "make", "(I)I"⟩
abbrev cd_TH_make : ByteArray := prog_1_method_2_code
abbrev yn_TH_isRoot : MethodName := ⟨"ThingHeap", "isRoot", "(I)Z"⟩
abbrev cd_TH_isRoot : ByteArray := prog_1_method_14_code
abbrev yn_AL_size : MethodName := ⟨"java/util/ArrayList", "size", "()I"⟩
abbrev cd_AL_size : ByteArray := prog_13_method_8_code
abbrev yn_TG_init : MethodName := ⟨"ThingHeap$Thing", "<init>", "(I)V"⟩
abbrev cd_TG_init : ByteArray := prog_3_method_1_code
abbrev yn_AL_add1 : MethodName := ⟨"java/util/ArrayList", "add", "(Ljava/lang/Object;)Z"⟩
abbrev cd_AL_add1 : ByteArray := prog_13_method_25_code
abbrev yn_AL_add3 : MethodName := ⟨"java/util/ArrayList", "add", "(Ljava/lang/Object;[Ljava/lang/Object;I)V"⟩
abbrev cd_AL_add3 : ByteArray := prog_13_method_24_code
abbrev yn_AL_grow0 : MethodName := ⟨"java/util/ArrayList", "grow", "()[Ljava/lang/Object;"⟩
abbrev cd_AL_grow0 : ByteArray := prog_13_method_7_code
abbrev yn_AL_grow1 : MethodName := ⟨"java/util/ArrayList", "grow", "(I)[Ljava/lang/Object;"⟩
abbrev cd_AL_grow1 : ByteArray := prog_13_method_6_code
abbrev yn_AS_newLength : MethodName := ⟨"jdk/internal/util/ArraysSupport", "newLength", "(III)I"⟩
abbrev cd_AS_newLength : ByteArray := prog_20_method_27_code
abbrev yn_MA_max : MethodName := ⟨"java/lang/Math", "max", "(II)I"⟩
abbrev cd_MA_max : ByteArray := prog_9_method_65_code
abbrev yn_AS_hugeLength : MethodName := ⟨"jdk/internal/util/ArraysSupport", "hugeLength", "(II)I"⟩
abbrev cd_AS_hugeLength : ByteArray := prog_20_method_28_code
abbrev yn_AR_copyOf2 : MethodName := ⟨"java/util/Arrays", "copyOf", "([Ljava/lang/Object;I)[Ljava/lang/Object;"⟩
abbrev cd_AR_copyOf2 : ByteArray := prog_14_method_119_code
abbrev yn_AR_copyOf3 : MethodName := ⟨"java/util/Arrays", "copyOf", "([Ljava/lang/Object;ILjava/lang/Class;)[Ljava/lang/Object;"⟩
abbrev cd_AR_copyOf3 : ByteArray := prog_14_method_120_code
abbrev yn_MA_min : MethodName := ⟨"java/lang/Math", "min", "(II)I"⟩
abbrev cd_MA_min : ByteArray := prog_9_method_69_code
abbrev yn_TH_setRoot : MethodName := ⟨"ThingHeap", "setRoot", "(ILThingHeap$Thing;)V"⟩
abbrev cd_TH_setRoot : ByteArray := prog_1_method_16_code
abbrev yn_TH_hold : MethodName := ⟨"ThingHeap", "hold", "(LThingHeap$Thing;)V"⟩
abbrev cd_TH_hold : ByteArray := prog_1_method_18_code
abbrev yn_TH_release : MethodName := ⟨"ThingHeap", "release", "(LThingHeap$Thing;)V"⟩
abbrev cd_TH_release : ByteArray := prog_1_method_19_code
abbrev yn_TH_loseHold : MethodName := ⟨"ThingHeap", "loseHold", "(LThingHeap$Thing;)V"⟩
abbrev cd_TH_loseHold : ByteArray := prog_1_method_20_code
abbrev yn_TH_removeUnheld : MethodName := ⟨"ThingHeap", "removeUnheld", "()V"⟩
abbrev cd_TH_removeUnheld : ByteArray := prog_1_method_22_code
abbrev yn_AL_get : MethodName := ⟨"java/util/ArrayList", "get", "(I)Ljava/lang/Object;"⟩
abbrev cd_AL_get : ByteArray := prog_13_method_20_code
abbrev yn_OB_checkIndex : MethodName := ⟨"java/util/Objects", "checkIndex", "(II)I"⟩
abbrev cd_OB_checkIndex : ByteArray := prog_17_method_17_code
abbrev yn_PR_checkIndex : MethodName := ⟨"jdk/internal/util/Preconditions", "checkIndex", "(IILjava/util/function/BiFunction;)I"⟩
abbrev cd_PR_checkIndex : ByteArray := prog_21_method_11_code
abbrev yn_AL_elementData : MethodName := ⟨"java/util/ArrayList", "elementData", "(I)Ljava/lang/Object;"⟩
abbrev cd_AL_elementData : ByteArray := prog_13_method_18_code
abbrev yn_TH_dropItems : MethodName := ⟨"ThingHeap", "dropItems", "(LThingHeap$Thing;)V"⟩
abbrev cd_TH_dropItems : ByteArray := prog_1_method_21_code
abbrev yn_AL_clear : MethodName := ⟨"java/util/ArrayList", "clear", "()V"⟩
abbrev cd_AL_clear : ByteArray := prog_13_method_40_code
abbrev yn_AL_isEmpty : MethodName := ⟨"java/util/ArrayList", "isEmpty", "()Z"⟩
abbrev cd_AL_isEmpty : ByteArray := prog_13_method_9_code
abbrev yn_TH_keepHeld : MethodName := ⟨"ThingHeap", "keepHeld", "()V"⟩
abbrev cd_TH_keepHeld : ByteArray := prog_1_method_23_code
abbrev yn_AL_set : MethodName := ⟨"java/util/ArrayList", "set", "(ILjava/lang/Object;)Ljava/lang/Object;"⟩
abbrev cd_AL_set : ByteArray := prog_13_method_23_code
abbrev yn_AL_remove : MethodName := ⟨"java/util/ArrayList", "remove", "(I)Ljava/lang/Object;"⟩
abbrev cd_AL_remove : ByteArray := prog_13_method_29_code
abbrev yn_AL_fastRemove : MethodName := ⟨"java/util/ArrayList", "fastRemove", "([Ljava/lang/Object;I)V"⟩
abbrev cd_AL_fastRemove : ByteArray := prog_13_method_39_code
abbrev yn_TH_root : MethodName := ⟨"ThingHeap", "root", "(II)I"⟩
abbrev cd_TH_root : ByteArray := prog_1_method_3_code
abbrev yn_TH_find : MethodName := ⟨"ThingHeap", "find", "(I)LThingHeap$Thing;"⟩
abbrev cd_TH_find : ByteArray := prog_1_method_15_code
abbrev yn_TH_point : MethodName := ⟨"ThingHeap", "point", "(II)I"⟩
abbrev cd_TH_point : ByteArray := prog_1_method_4_code
abbrev yn_TH_append : MethodName := ⟨"ThingHeap", "append", "(LThingHeap$Thing;LThingHeap$Thing;I)I"⟩
abbrev cd_TH_append : ByteArray := prog_1_method_17_code
abbrev yn_IT_init : MethodName := ⟨"ThingHeap$Item", "<init>", "(LThingHeap$Thing;I)V"⟩
abbrev cd_IT_init : ByteArray := prog_2_method_1_code
abbrev yn_TH_note : MethodName := ⟨"ThingHeap", "note", "(II)I"⟩
abbrev cd_TH_note : ByteArray := prog_1_method_5_code
abbrev yn_TH_turn : MethodName := ⟨"ThingHeap", "turn", "(III)I"⟩
abbrev cd_TH_turn : ByteArray := prog_1_method_6_code
abbrev yn_TG_hasItem : MethodName := ⟨"ThingHeap$Thing", "hasItem", "(I)Z"⟩
abbrev cd_TG_hasItem : ByteArray := prog_3_method_2_code
abbrev yn_TH_take : MethodName := ⟨"ThingHeap", "take", "(II)I"⟩
abbrev cd_TH_take : ByteArray := prog_1_method_7_code
abbrev yn_TH_item : MethodName := ⟨"ThingHeap", "item", "(II)J"⟩
abbrev cd_TH_item : ByteArray := prog_1_method_8_code
abbrev yn_TH_held : MethodName := ⟨"ThingHeap", "held", "(I)I"⟩
abbrev cd_TH_held : ByteArray := prog_1_method_9_code
abbrev yn_TH_holders : MethodName := ⟨"ThingHeap", "holders", "(I)I"⟩
abbrev cd_TH_holders : ByteArray := prog_1_method_10_code
abbrev yn_TH_items : MethodName := ⟨"ThingHeap", "items", "(I)I"⟩
abbrev cd_TH_items : ByteArray := prog_1_method_11_code
abbrev yn_TH_collect : MethodName := ⟨"ThingHeap", "collect", "()I"⟩
abbrev cd_TH_collect : ByteArray := prog_1_method_12_code
abbrev yn_TH_markReached : MethodName := ⟨"ThingHeap", "markReached", "()V"⟩
abbrev cd_TH_markReached : ByteArray := prog_1_method_24_code
abbrev yn_TH_reach : MethodName := ⟨"ThingHeap", "reach", "(LThingHeap$Thing;)V"⟩
abbrev cd_TH_reach : ByteArray := prog_1_method_26_code
abbrev yn_TH_reachItems : MethodName := ⟨"ThingHeap", "reachItems", "(LThingHeap$Thing;)V"⟩
abbrev cd_TH_reachItems : ByteArray := prog_1_method_25_code
abbrev yn_TH_count1 : MethodName := ⟨"ThingHeap", "count", "(I)I"⟩
abbrev cd_TH_count1 : ByteArray := prog_1_method_13_code
abbrev yn_MO_init : MethodName := ⟨"ThingHeapModel", "<init>", "()V"⟩
abbrev cd_MO_init : ByteArray := prog_5_method_1_code
abbrev yn_AR_fill2 : MethodName := ⟨"java/util/Arrays", "fill", "([II)V"⟩
abbrev cd_AR_fill2 : ByteArray := prog_14_method_103_code
abbrev yn_MO_make : MethodName := ⟨"ThingHeapModel", "make", "(I)I"⟩
abbrev cd_MO_make : ByteArray := prog_5_method_9_code
abbrev yn_MO_in : MethodName := ⟨"ThingHeapModel", "in", "(III)Z"⟩
abbrev cd_MO_in : ByteArray := prog_5_method_2_code
abbrev yn_MO_grow : MethodName := ⟨"ThingHeapModel", "grow", "()V"⟩
abbrev cd_MO_grow : ByteArray := prog_5_method_4_code
abbrev yn_AR_copyOfI : MethodName := ⟨"java/util/Arrays", "copyOf", "([II)[I"⟩
abbrev cd_AR_copyOfI : ByteArray := prog_14_method_123_code
abbrev yn_MO_settle : MethodName := ⟨"ThingHeapModel", "settle", "()V"⟩
abbrev cd_MO_settle : ByteArray := prog_5_method_8_code
abbrev yn_MO_count0 : MethodName := ⟨"ThingHeapModel", "count", "()V"⟩
abbrev cd_MO_count0 : ByteArray := prog_5_method_5_code
abbrev yn_AR_fill4 : MethodName := ⟨"java/util/Arrays", "fill", "([IIII)V"⟩
abbrev cd_AR_fill4 : ByteArray := prog_14_method_104_code
abbrev yn_AR_rangeCheck : MethodName := ⟨"java/util/Arrays", "rangeCheck", "(III)V"⟩
abbrev cd_AR_rangeCheck : ByteArray := prog_14_method_30_code
abbrev yn_MO_hold : MethodName := ⟨"ThingHeapModel", "hold", "(II)V"⟩
abbrev cd_MO_hold : ByteArray := prog_5_method_6_code
abbrev yn_MO_gone : MethodName := ⟨"ThingHeapModel", "gone", "(II)I"⟩
abbrev cd_MO_gone : ByteArray := prog_5_method_7_code
abbrev yn_MO_root : MethodName := ⟨"ThingHeapModel", "root", "(II)I"⟩
abbrev cd_MO_root : ByteArray := prog_5_method_10_code
abbrev yn_MO_isThere : MethodName := ⟨"ThingHeapModel", "isThere", "(I)Z"⟩
abbrev cd_MO_isThere : ByteArray := prog_5_method_3_code
abbrev yn_MO_point : MethodName := ⟨"ThingHeapModel", "point", "(II)I"⟩
abbrev cd_MO_point : ByteArray := prog_5_method_12_code
abbrev yn_MO_add : MethodName := ⟨"ThingHeapModel", "add", "(IJ)I"⟩
abbrev cd_MO_add : ByteArray := prog_5_method_11_code
abbrev yn_AR_copyOfJ : MethodName := ⟨"java/util/Arrays", "copyOf", "([JI)[J"⟩
abbrev cd_AR_copyOfJ : ByteArray := prog_14_method_124_code
abbrev yn_MO_note : MethodName := ⟨"ThingHeapModel", "note", "(II)I"⟩
abbrev cd_MO_note : ByteArray := prog_5_method_13_code
abbrev yn_MO_turn : MethodName := ⟨"ThingHeapModel", "turn", "(III)I"⟩
abbrev cd_MO_turn : ByteArray := prog_5_method_14_code
abbrev yn_MO_take : MethodName := ⟨"ThingHeapModel", "take", "(II)I"⟩
abbrev cd_MO_take : ByteArray := prog_5_method_15_code
abbrev yn_MO_item : MethodName := ⟨"ThingHeapModel", "item", "(II)J"⟩
abbrev cd_MO_item : ByteArray := prog_5_method_16_code
abbrev yn_MO_held : MethodName := ⟨"ThingHeapModel", "held", "(I)I"⟩
abbrev cd_MO_held : ByteArray := prog_5_method_17_code
abbrev yn_MO_holders : MethodName := ⟨"ThingHeapModel", "holders", "(I)I"⟩
abbrev cd_MO_holders : ByteArray := prog_5_method_18_code
abbrev yn_MO_items : MethodName := ⟨"ThingHeapModel", "items", "(I)I"⟩
abbrev cd_MO_items : ByteArray := prog_5_method_19_code
abbrev yn_MO_collect : MethodName := ⟨"ThingHeapModel", "collect", "()I"⟩
abbrev cd_MO_collect : ByteArray := prog_5_method_20_code
abbrev yn_MO_reach : MethodName := ⟨"ThingHeapModel", "reach", "(II)I"⟩
abbrev cd_MO_reach : ByteArray := prog_5_method_21_code
abbrev yn_MO_count1 : MethodName := ⟨"ThingHeapModel", "count", "(I)I"⟩
abbrev cd_MO_count1 : ByteArray := prog_5_method_22_code
abbrev yn_LW_law : MethodName := ⟨"ThingHeapLaw", "law", "([I)Z"⟩
abbrev cd_LW_law : ByteArray := code
abbrev yn_OJ_getClass : MethodName := ⟨"java/lang/Object", "getClass", "()Ljava/lang/Class;"⟩
abbrev yn_SY_arraycopy : MethodName := ⟨"java/lang/System", "arraycopy", "(Ljava/lang/Object;ILjava/lang/Object;II)V"⟩
abbrev yn_AI_clone : MethodName := ⟨"[I", "clone", "()Ljava/lang/Object;"⟩
abbrev yn_OJ_clone : MethodName := ⟨"java/lang/Object", "clone", "()Ljava/lang/Object;"⟩
abbrev yn_AJ_clone : MethodName := ⟨"[J", "clone", "()Ljava/lang/Object;"⟩
/-- the words that every method may use -/
def bw_L : List Cond := lw_tbl.filter goodWord
theorem bw_tb {w : Cond} (i : Nat) (h : tables_1[i]? = some w) : w ∈ lw_tbl := List.mem_append_right _ (List.mem_of_getElem? h)
theorem bw_in {w : Cond} (i : Nat) (h : tables_1[i]? = some w) (hg : goodWord w = true) : w ∈ bw_L := List.mem_filter.mpr ⟨bw_tb i h, hg⟩
theorem bw_sl {w : Cond} (i : Nat) (h : (k2_sels lw_privs)[i]? = some w) (hg : goodWord w = true) : w ∈ bw_L := List.mem_filter.mpr ⟨List.mem_append_left _ (List.mem_of_getElem? h), hg⟩
theorem bw_gd {w : Cond} (h : w ∈ bw_L) : (w.onTables && w.keeps) = true ∨ ∃ ty, w = .arrayClass ty := good_of_word (List.mem_filter.mp h).2
theorem bw_gi {c c' : Cond} (h : c' ∈ bw_L) : GoodIn (c :: bw_L) (c' :: bw_L) := fun w hw => by
  rcases List.mem_cons.mp hw with rfl | hw
  · exact ⟨List.mem_cons_of_mem _ h, bw_gd h⟩
  · exact ⟨List.mem_cons_of_mem _ hw, bw_gd hw⟩
theorem bw_gl {c : Cond} {l : List Cond} (hl : ∀ w ∈ l, w ∈ bw_L) {ws : List Cond} (h : GoodIn (c :: bw_L) ws) : GoodIn (c :: bw_L) (l ++ ws) := fun w hw => by
  rcases List.mem_append.mp hw with hw | hw
  · exact ⟨List.mem_cons_of_mem _ (hl w hw), bw_gd (hl w hw)⟩
  · exact h w hw
theorem ww_0 : (Cond.initialized "ThingHeapLaw") ∈ bw_L := bw_in 0 rfl rfl
theorem ww_1 : (Cond.initialized "ThingHeap") ∈ bw_L := bw_in 1 rfl rfl
theorem ww_2 : (Cond.initialized "java/util/AbstractCollection") ∈ bw_L := bw_in 2 rfl rfl
theorem ww_3 : (Cond.initialized "java/util/AbstractList") ∈ bw_L := bw_in 3 rfl rfl
theorem ww_4 : (Cond.initialized "java/util/ArrayList") ∈ bw_L := bw_in 4 rfl rfl
theorem ww_5 : (Cond.initialized "ThingHeapModel") ∈ bw_L := bw_in 5 rfl rfl
theorem ww_6 : (Cond.initialized "java/util/Arrays") ∈ bw_L := bw_in 6 rfl rfl
theorem ww_7 : (Cond.initialized "ThingHeap$Thing") ∈ bw_L := bw_in 7 rfl rfl
theorem ww_8 : (Cond.initialized "jdk/internal/util/ArraysSupport") ∈ bw_L := bw_in 8 rfl rfl
theorem ww_9 : (Cond.initialized "java/lang/Math") ∈ bw_L := bw_in 9 rfl rfl
theorem ww_10 : (Cond.initialized "java/lang/System") ∈ bw_L := bw_in 10 rfl rfl
theorem ww_11 : (Cond.initialized "java/util/Objects") ∈ bw_L := bw_in 11 rfl rfl
theorem ww_12 : (Cond.initialized "jdk/internal/util/Preconditions") ∈ bw_L := bw_in 12 rfl rfl
theorem ww_13 : (Cond.initialized "ThingHeap$Item") ∈ bw_L := bw_in 13 rfl rfl
theorem ww_14 : (Cond.classLink "ThingHeapLaw" 7 "ThingHeap") ∈ bw_L := bw_in 14 rfl rfl
theorem ww_15 : (Cond.instantiable "ThingHeap" 5) ∈ bw_L := bw_in 15 rfl rfl
theorem ww_16 : (Cond.methodLink "ThingHeapLaw" 9 yn_TH_init) ∈ bw_L := bw_in 16 rfl rfl
theorem ww_17 : (Cond.instanceMethod yn_TH_init) ∈ bw_L := bw_in 17 rfl rfl
theorem ww_18 : (Cond.code yn_TH_init prog_1_method_1_code 1 none) ∈ bw_L := bw_in 18 rfl rfl
theorem ww_19 : (Cond.methodLink "ThingHeap" 1 yn_OJ_init) ∈ bw_L := bw_in 19 rfl rfl
theorem ww_20 : (Cond.instanceMethod yn_OJ_init) ∈ bw_L := bw_in 20 rfl rfl
theorem ww_21 : (Cond.code yn_OJ_init object_method_1_code 1 none) ∈ bw_L := bw_in 21 rfl rfl
theorem ww_22 : (Cond.classLink "ThingHeap" 9 "ThingHeap$Thing") ∈ bw_L := bw_in 22 rfl rfl
theorem wt_23 : (Cond.arrayOver (FieldType.object "ThingHeap$Thing")) ∈ lw_tbl := bw_tb 23 rfl
theorem ww_24 : (Cond.classLink "ThingHeap" 15 "java/util/ArrayList") ∈ bw_L := bw_in 24 rfl rfl
theorem ww_25 : (Cond.instantiable "java/util/ArrayList" 3) ∈ bw_L := bw_in 25 rfl rfl
theorem ww_26 : (Cond.methodLink "ThingHeap" 17 yn_AL_init) ∈ bw_L := bw_in 26 rfl rfl
theorem ww_27 : (Cond.instanceMethod yn_AL_init) ∈ bw_L := bw_in 27 rfl rfl
theorem ww_28 : (Cond.code yn_AL_init prog_13_method_2_code 1 none) ∈ bw_L := bw_in 28 rfl rfl
theorem ww_29 : (Cond.methodLink "java/util/ArrayList" 1 yn_AB_init) ∈ bw_L := bw_in 29 rfl rfl
theorem ww_30 : (Cond.instanceMethod yn_AB_init) ∈ bw_L := bw_in 30 rfl rfl
theorem ww_31 : (Cond.code yn_AB_init prog_12_method_1_code 1 none) ∈ bw_L := bw_in 31 rfl rfl
theorem ww_32 : (Cond.methodLink "java/util/AbstractList" 1 yn_AC_init) ∈ bw_L := bw_in 32 rfl rfl
theorem ww_33 : (Cond.instanceMethod yn_AC_init) ∈ bw_L := bw_in 33 rfl rfl
theorem ww_34 : (Cond.code yn_AC_init prog_11_method_1_code 1 none) ∈ bw_L := bw_in 34 rfl rfl
theorem ww_35 : (Cond.methodLink "java/util/AbstractCollection" 1 yn_OJ_init) ∈ bw_L := bw_in 35 rfl rfl
theorem ww_36 : (Cond.fieldLink "java/util/ArrayList" 39 "java/util/ArrayList" "DEFAULTCAPACITY_EMPTY_ELEMENTDATA" "[Ljava/lang/Object;") ∈ bw_L := bw_in 36 rfl rfl
theorem wt_37 : (Cond.laysStatic "java/util/ArrayList" "DEFAULTCAPACITY_EMPTY_ELEMENTDATA" "[Ljava/lang/Object;") ∈ lw_tbl := bw_tb 37 rfl
theorem ww_38 : (Cond.fieldLink "java/util/ArrayList" 9 "java/util/ArrayList" "elementData" "[Ljava/lang/Object;") ∈ bw_L := bw_in 38 rfl rfl
theorem ww_39 : (Cond.fieldLink "java/util/ArrayList" 48 "java/util/ArrayList" "size" "I") ∈ bw_L := bw_in 39 rfl rfl
theorem ww_40 : (Cond.fieldLink "java/util/AbstractList" 7 "java/util/AbstractList" "modCount" "I") ∈ bw_L := bw_in 40 rfl rfl
theorem ww_41 : (Cond.fieldLink "java/util/ArrayList" 63 "java/util/ArrayList" "modCount" "I") ∈ bw_L := bw_in 41 rfl rfl
theorem ww_42 : (Cond.sameField "java/util/ArrayList" "java/util/AbstractList" "modCount" "I") ∈ bw_L := bw_in 42 rfl rfl
theorem ww_43 : (Cond.lays "java/util/ArrayList" "java/util/ArrayList" "elementData" "[Ljava/lang/Object;") ∈ bw_L := bw_in 43 rfl rfl
theorem ww_45 : (Cond.lays "java/util/ArrayList" "java/util/ArrayList" "size" "I") ∈ bw_L := bw_in 45 rfl rfl
theorem ww_47 : (Cond.lays "java/util/ArrayList" "java/util/AbstractList" "modCount" "I") ∈ bw_L := bw_in 47 rfl rfl
theorem ww_49 : (Cond.superclass "java/util/ArrayList" "java/util/AbstractList") ∈ bw_L := bw_in 49 rfl rfl
theorem ww_50 : (Cond.fieldLink "ThingHeap" 11 "ThingHeap" "roots" "[LThingHeap$Thing;") ∈ bw_L := bw_in 50 rfl rfl
theorem ww_51 : (Cond.fieldLink "ThingHeap" 18 "ThingHeap" "things" "Ljava/util/ArrayList;") ∈ bw_L := bw_in 51 rfl rfl
theorem ww_52 : (Cond.fieldLink "ThingHeap" 22 "ThingHeap" "unheld" "Ljava/util/ArrayList;") ∈ bw_L := bw_in 52 rfl rfl
theorem ww_53 : (Cond.fieldLink "ThingHeap" 25 "ThingHeap" "reachedSoFar" "Ljava/util/ArrayList;") ∈ bw_L := bw_in 53 rfl rfl
theorem ww_54 : (Cond.fieldLink "ThingHeap" 28 "ThingHeap" "made" "I") ∈ bw_L := bw_in 54 rfl rfl
theorem ww_55 : (Cond.laysFinal "ThingHeap" "ThingHeap" "roots" "[LThingHeap$Thing;") ∈ bw_L := bw_in 55 rfl rfl
theorem ww_57 : (Cond.laysFinal "ThingHeap" "ThingHeap" "things" "Ljava/util/ArrayList;") ∈ bw_L := bw_in 57 rfl rfl
theorem ww_59 : (Cond.laysFinal "ThingHeap" "ThingHeap" "unheld" "Ljava/util/ArrayList;") ∈ bw_L := bw_in 59 rfl rfl
theorem ww_61 : (Cond.laysFinal "ThingHeap" "ThingHeap" "reachedSoFar" "Ljava/util/ArrayList;") ∈ bw_L := bw_in 61 rfl rfl
theorem ww_63 : (Cond.lays "ThingHeap" "ThingHeap" "made" "I") ∈ bw_L := bw_in 63 rfl rfl
theorem ww_65 : (Cond.superclass "ThingHeap" "java/lang/Object") ∈ bw_L := bw_in 65 rfl rfl
theorem ww_66 : (Cond.methodLink "ThingHeapLaw" 13 yn_TH_make) ∈ bw_L := bw_in 66 rfl rfl
theorem ww_67 : (Cond.instanceMethod yn_TH_make) ∈ bw_L := bw_in 67 rfl rfl
theorem ww_68 : (Cond.selects "ThingHeap" yn_TH_make yn_TH_make) ∈ bw_L := bw_in 68 rfl rfl
theorem ww_69 : (Cond.code yn_TH_make prog_1_method_2_code 3 (some FieldType.int)) ∈ bw_L := bw_in 69 rfl rfl
theorem ww_70 : (Cond.methodLink "ThingHeap" 32 yn_TH_isRoot) ∈ bw_L := bw_in 70 rfl rfl
theorem ww_71 : (Cond.static yn_TH_isRoot) ∈ bw_L := bw_in 71 rfl rfl
theorem ww_72 : (Cond.code yn_TH_isRoot prog_1_method_14_code 1 (some FieldType.boolean)) ∈ bw_L := bw_in 72 rfl rfl
theorem ww_73 : (Cond.methodLink "ThingHeap" 36 yn_AL_size) ∈ bw_L := bw_in 73 rfl rfl
theorem ww_74 : (Cond.instanceMethod yn_AL_size) ∈ bw_L := bw_in 74 rfl rfl
theorem ww_75 : (Cond.selects "java/util/ArrayList" yn_AL_size yn_AL_size) ∈ bw_L := bw_in 75 rfl rfl
theorem ww_76 : (Cond.code yn_AL_size prog_13_method_8_code 1 (some FieldType.int)) ∈ bw_L := bw_in 76 rfl rfl
theorem ww_77 : (Cond.instantiable "ThingHeap$Thing" 4) ∈ bw_L := bw_in 77 rfl rfl
theorem ww_78 : (Cond.methodLink "ThingHeap" 40 yn_TG_init) ∈ bw_L := bw_in 78 rfl rfl
theorem ww_79 : (Cond.instanceMethod yn_TG_init) ∈ bw_L := bw_in 79 rfl rfl
theorem ww_80 : (Cond.code yn_TG_init prog_3_method_1_code 2 none) ∈ bw_L := bw_in 80 rfl rfl
theorem ww_81 : (Cond.methodLink "ThingHeap$Thing" 1 yn_OJ_init) ∈ bw_L := bw_in 81 rfl rfl
theorem ww_82 : (Cond.classLink "ThingHeap$Thing" 7 "java/util/ArrayList") ∈ bw_L := bw_in 82 rfl rfl
theorem ww_83 : (Cond.methodLink "ThingHeap$Thing" 9 yn_AL_init) ∈ bw_L := bw_in 83 rfl rfl
theorem ww_84 : (Cond.fieldLink "ThingHeap$Thing" 24 "ThingHeap$Thing" "number" "I") ∈ bw_L := bw_in 84 rfl rfl
theorem ww_85 : (Cond.fieldLink "ThingHeap" 51 "ThingHeap$Thing" "number" "I") ∈ bw_L := bw_in 85 rfl rfl
theorem ww_86 : (Cond.fieldLink "ThingHeap$Thing" 10 "ThingHeap$Thing" "row" "Ljava/util/ArrayList;") ∈ bw_L := bw_in 86 rfl rfl
theorem ww_87 : (Cond.fieldLink "ThingHeap" 65 "ThingHeap$Thing" "row" "Ljava/util/ArrayList;") ∈ bw_L := bw_in 87 rfl rfl
theorem ww_88 : (Cond.fieldLink "ThingHeap$Thing" 16 "ThingHeap$Thing" "timesHeld" "I") ∈ bw_L := bw_in 88 rfl rfl
theorem ww_89 : (Cond.fieldLink "ThingHeap" 102 "ThingHeap$Thing" "timesHeld" "I") ∈ bw_L := bw_in 89 rfl rfl
theorem ww_90 : (Cond.fieldLink "ThingHeap$Thing" 20 "ThingHeap$Thing" "reached" "Z") ∈ bw_L := bw_in 90 rfl rfl
theorem ww_91 : (Cond.fieldLink "ThingHeap" 108 "ThingHeap$Thing" "reached" "Z") ∈ bw_L := bw_in 91 rfl rfl
theorem ww_92 : (Cond.laysFinal "ThingHeap$Thing" "ThingHeap$Thing" "number" "I") ∈ bw_L := bw_in 92 rfl rfl
theorem ww_94 : (Cond.laysFinal "ThingHeap$Thing" "ThingHeap$Thing" "row" "Ljava/util/ArrayList;") ∈ bw_L := bw_in 94 rfl rfl
theorem ww_96 : (Cond.lays "ThingHeap$Thing" "ThingHeap$Thing" "timesHeld" "I") ∈ bw_L := bw_in 96 rfl rfl
theorem ww_98 : (Cond.lays "ThingHeap$Thing" "ThingHeap$Thing" "reached" "Z") ∈ bw_L := bw_in 98 rfl rfl
theorem ww_100 : (Cond.superclass "ThingHeap$Thing" "java/lang/Object") ∈ bw_L := bw_in 100 rfl rfl
theorem ww_101 : (Cond.methodLink "ThingHeap" 43 yn_AL_add1) ∈ bw_L := bw_in 101 rfl rfl
theorem ww_102 : (Cond.instanceMethod yn_AL_add1) ∈ bw_L := bw_in 102 rfl rfl
theorem ww_103 : (Cond.selects "java/util/ArrayList" yn_AL_add1 yn_AL_add1) ∈ bw_L := bw_in 103 rfl rfl
theorem ww_104 : (Cond.code yn_AL_add1 prog_13_method_25_code 2 (some FieldType.boolean)) ∈ bw_L := bw_in 104 rfl rfl
theorem ww_105 : (Cond.methodLink "java/util/ArrayList" 131 yn_AL_add3) ∈ bw_L := bw_in 105 rfl rfl
theorem ww_107 : (Cond.instanceMethod yn_AL_add3) ∈ bw_L := bw_in 107 rfl rfl
theorem ww_108 : (Cond.code yn_AL_add3 prog_13_method_24_code 4 none) ∈ bw_L := bw_in 108 rfl rfl
theorem ww_109 : (Cond.methodLink "java/util/ArrayList" 129 yn_AL_grow0) ∈ bw_L := bw_in 109 rfl rfl
theorem ww_111 : (Cond.instanceMethod yn_AL_grow0) ∈ bw_L := bw_in 111 rfl rfl
theorem ww_112 : (Cond.code yn_AL_grow0 prog_13_method_7_code 1 (some (FieldType.array (FieldType.object "java/lang/Object")))) ∈ bw_L := bw_in 112 rfl rfl
theorem ww_113 : (Cond.methodLink "java/util/ArrayList" 69 yn_AL_grow1) ∈ bw_L := bw_in 113 rfl rfl
theorem ww_115 : (Cond.instanceMethod yn_AL_grow1) ∈ bw_L := bw_in 115 rfl rfl
theorem ww_116 : (Cond.code yn_AL_grow1 prog_13_method_6_code 4 (some (FieldType.array (FieldType.object "java/lang/Object")))) ∈ bw_L := bw_in 116 rfl rfl
theorem ww_117 : (Cond.methodLink "java/util/ArrayList" 73 yn_AS_newLength) ∈ bw_L := bw_in 117 rfl rfl
theorem ww_118 : (Cond.static yn_AS_newLength) ∈ bw_L := bw_in 118 rfl rfl
theorem ww_119 : (Cond.code yn_AS_newLength prog_20_method_27_code 4 (some FieldType.int)) ∈ bw_L := bw_in 119 rfl rfl
theorem ww_120 : (Cond.methodLink "jdk/internal/util/ArraysSupport" 194 yn_MA_max) ∈ bw_L := bw_in 120 rfl rfl
theorem ww_121 : (Cond.static yn_MA_max) ∈ bw_L := bw_in 121 rfl rfl
theorem ww_122 : (Cond.code yn_MA_max prog_9_method_65_code 2 (some FieldType.int)) ∈ bw_L := bw_in 122 rfl rfl
theorem ww_123 : (Cond.constant "jdk/internal/util/ArraysSupport" 200 (2147483639)) ∈ bw_L := bw_in 123 rfl rfl
theorem ww_124 : (Cond.methodLink "jdk/internal/util/ArraysSupport" 201 yn_AS_hugeLength) ∈ bw_L := bw_in 124 rfl rfl
theorem ww_125 : (Cond.static yn_AS_hugeLength) ∈ bw_L := bw_in 125 rfl rfl
theorem ww_126 : (Cond.code yn_AS_hugeLength prog_20_method_28_code 3 (some FieldType.int)) ∈ bw_L := bw_in 126 rfl rfl
theorem ww_127 : (Cond.methodLink "java/util/ArrayList" 66 yn_AR_copyOf2) ∈ bw_L := bw_in 127 rfl rfl
theorem ww_128 : (Cond.static yn_AR_copyOf2) ∈ bw_L := bw_in 128 rfl rfl
theorem ww_129 : (Cond.code yn_AR_copyOf2 prog_14_method_119_code 2 (some (FieldType.array (FieldType.object "java/lang/Object")))) ∈ bw_L := bw_in 129 rfl rfl
theorem ww_130 : (Cond.methodLink "java/util/Arrays" 86 yn_OJ_getClass) ∈ bw_L := bw_in 130 rfl rfl
theorem ww_131 : (Cond.instanceMethod yn_OJ_getClass) ∈ bw_L := bw_in 131 rfl rfl
theorem ww_132 : (Cond.sameMethod "java/lang/Object" "java/lang/Object" "getClass" "()Ljava/lang/Class;") ∈ bw_L := bw_in 132 rfl rfl
theorem ww_133 : (Cond.selects "ThingHeap" yn_OJ_getClass yn_OJ_getClass) ∈ bw_L := bw_in 133 rfl rfl
theorem ww_134 : (Cond.selects "ThingHeap$Item" yn_OJ_getClass yn_OJ_getClass) ∈ bw_L := bw_in 134 rfl rfl
theorem ww_135 : (Cond.selects "ThingHeap$Thing" yn_OJ_getClass yn_OJ_getClass) ∈ bw_L := bw_in 135 rfl rfl
theorem ww_136 : (Cond.selects "ThingHeapModel" yn_OJ_getClass yn_OJ_getClass) ∈ bw_L := bw_in 136 rfl rfl
theorem ww_137 : (Cond.selects "java/util/ArrayList" yn_OJ_getClass yn_OJ_getClass) ∈ bw_L := bw_in 137 rfl rfl
theorem ww_138 : (Cond.native yn_OJ_getClass) ∈ bw_L := bw_in 138 rfl rfl
theorem ww_139 : (Cond.methodLink "java/util/Arrays" 300 yn_AR_copyOf3) ∈ bw_L := bw_in 139 rfl rfl
theorem ww_140 : (Cond.static yn_AR_copyOf3) ∈ bw_L := bw_in 140 rfl rfl
theorem ww_141 : (Cond.code yn_AR_copyOf3 prog_14_method_120_code 4 (some (FieldType.array (FieldType.object "java/lang/Object")))) ∈ bw_L := bw_in 141 rfl rfl
theorem ww_142 : (Cond.classLink "java/util/Arrays" 110 "[Ljava/lang/Object;") ∈ bw_L := bw_in 142 rfl rfl
theorem wt_143 : (Cond.arrayOver (FieldType.object "java/lang/Object")) ∈ lw_tbl := bw_tb 143 rfl
theorem ww_144 : (Cond.classLink "java/util/Arrays" 2 "java/lang/Object") ∈ bw_L := bw_in 144 rfl rfl
theorem ww_145 : (Cond.methodLink "java/util/Arrays" 304 yn_MA_min) ∈ bw_L := bw_in 145 rfl rfl
theorem ww_146 : (Cond.static yn_MA_min) ∈ bw_L := bw_in 146 rfl rfl
theorem ww_147 : (Cond.code yn_MA_min prog_9_method_69_code 2 (some FieldType.int)) ∈ bw_L := bw_in 147 rfl rfl
theorem ww_148 : (Cond.methodLink "java/util/Arrays" 150 yn_SY_arraycopy) ∈ bw_L := bw_in 148 rfl rfl
theorem ww_149 : (Cond.static yn_SY_arraycopy) ∈ bw_L := bw_in 149 rfl rfl
theorem ww_150 : (Cond.native yn_SY_arraycopy) ∈ bw_L := bw_in 150 rfl rfl
theorem ww_151 : (Cond.methodLink "java/util/ArrayList" 79 yn_MA_max) ∈ bw_L := bw_in 151 rfl rfl
theorem ww_152 : (Cond.classLink "java/util/ArrayList" 7 "java/lang/Object") ∈ bw_L := bw_in 152 rfl rfl
theorem ww_153 : (Cond.methodLink "ThingHeap" 47 yn_TH_setRoot) ∈ bw_L := bw_in 153 rfl rfl
theorem ww_155 : (Cond.instanceMethod yn_TH_setRoot) ∈ bw_L := bw_in 155 rfl rfl
theorem ww_156 : (Cond.code yn_TH_setRoot prog_1_method_16_code 4 none) ∈ bw_L := bw_in 156 rfl rfl
theorem ww_157 : (Cond.methodLink "ThingHeap" 78 yn_TH_hold) ∈ bw_L := bw_in 157 rfl rfl
theorem ww_158 : (Cond.static yn_TH_hold) ∈ bw_L := bw_in 158 rfl rfl
theorem ww_159 : (Cond.code yn_TH_hold prog_1_method_18_code 1 none) ∈ bw_L := bw_in 159 rfl rfl
theorem ww_160 : (Cond.methodLink "ThingHeap" 89 yn_TH_release) ∈ bw_L := bw_in 160 rfl rfl
theorem ww_162 : (Cond.instanceMethod yn_TH_release) ∈ bw_L := bw_in 162 rfl rfl
theorem ww_163 : (Cond.code yn_TH_release prog_1_method_19_code 2 none) ∈ bw_L := bw_in 163 rfl rfl
theorem ww_164 : (Cond.methodLink "ThingHeap" 118 yn_TH_loseHold) ∈ bw_L := bw_in 164 rfl rfl
theorem ww_166 : (Cond.instanceMethod yn_TH_loseHold) ∈ bw_L := bw_in 166 rfl rfl
theorem ww_167 : (Cond.code yn_TH_loseHold prog_1_method_20_code 2 none) ∈ bw_L := bw_in 167 rfl rfl
theorem ww_168 : (Cond.methodLink "ThingHeap" 115 yn_TH_removeUnheld) ∈ bw_L := bw_in 168 rfl rfl
theorem ww_170 : (Cond.instanceMethod yn_TH_removeUnheld) ∈ bw_L := bw_in 170 rfl rfl
theorem ww_171 : (Cond.code yn_TH_removeUnheld prog_1_method_22_code 3 none) ∈ bw_L := bw_in 171 rfl rfl
theorem ww_172 : (Cond.methodLink "ThingHeap" 68 yn_AL_get) ∈ bw_L := bw_in 172 rfl rfl
theorem ww_173 : (Cond.instanceMethod yn_AL_get) ∈ bw_L := bw_in 173 rfl rfl
theorem ww_174 : (Cond.selects "java/util/ArrayList" yn_AL_get yn_AL_get) ∈ bw_L := bw_in 174 rfl rfl
theorem ww_175 : (Cond.code yn_AL_get prog_13_method_20_code 2 (some (FieldType.object "java/lang/Object"))) ∈ bw_L := bw_in 175 rfl rfl
theorem ww_176 : (Cond.methodLink "java/util/ArrayList" 118 yn_OB_checkIndex) ∈ bw_L := bw_in 176 rfl rfl
theorem ww_177 : (Cond.static yn_OB_checkIndex) ∈ bw_L := bw_in 177 rfl rfl
theorem ww_178 : (Cond.code yn_OB_checkIndex prog_17_method_17_code 2 (some FieldType.int)) ∈ bw_L := bw_in 178 rfl rfl
theorem ww_179 : (Cond.methodLink "java/util/Objects" 105 yn_PR_checkIndex) ∈ bw_L := bw_in 179 rfl rfl
theorem ww_180 : (Cond.static yn_PR_checkIndex) ∈ bw_L := bw_in 180 rfl rfl
theorem ww_181 : (Cond.code yn_PR_checkIndex prog_21_method_11_code 3 (some FieldType.int)) ∈ bw_L := bw_in 181 rfl rfl
theorem ww_182 : (Cond.methodLink "java/util/ArrayList" 123 yn_AL_elementData) ∈ bw_L := bw_in 182 rfl rfl
theorem ww_183 : (Cond.instanceMethod yn_AL_elementData) ∈ bw_L := bw_in 183 rfl rfl
theorem ww_184 : (Cond.selects "java/util/ArrayList" yn_AL_elementData yn_AL_elementData) ∈ bw_L := bw_in 184 rfl rfl
theorem ww_185 : (Cond.code yn_AL_elementData prog_13_method_18_code 2 (some (FieldType.object "java/lang/Object"))) ∈ bw_L := bw_in 185 rfl rfl
theorem ww_186 : (Cond.methodLink "ThingHeap" 112 yn_TH_dropItems) ∈ bw_L := bw_in 186 rfl rfl
theorem ww_188 : (Cond.instanceMethod yn_TH_dropItems) ∈ bw_L := bw_in 188 rfl rfl
theorem ww_189 : (Cond.code yn_TH_dropItems prog_1_method_21_code 3 none) ∈ bw_L := bw_in 189 rfl rfl
theorem ww_190 : (Cond.classLink "ThingHeap" 72 "ThingHeap$Item") ∈ bw_L := bw_in 190 rfl rfl
theorem ww_191 : (Cond.methodLink "ThingHeap" 121 yn_AL_clear) ∈ bw_L := bw_in 191 rfl rfl
theorem ww_192 : (Cond.instanceMethod yn_AL_clear) ∈ bw_L := bw_in 192 rfl rfl
theorem ww_193 : (Cond.selects "java/util/ArrayList" yn_AL_clear yn_AL_clear) ∈ bw_L := bw_in 193 rfl rfl
theorem ww_194 : (Cond.code yn_AL_clear prog_13_method_40_code 4 none) ∈ bw_L := bw_in 194 rfl rfl
theorem ww_195 : (Cond.methodLink "ThingHeap" 124 yn_AL_isEmpty) ∈ bw_L := bw_in 195 rfl rfl
theorem ww_196 : (Cond.instanceMethod yn_AL_isEmpty) ∈ bw_L := bw_in 196 rfl rfl
theorem ww_197 : (Cond.selects "java/util/ArrayList" yn_AL_isEmpty yn_AL_isEmpty) ∈ bw_L := bw_in 197 rfl rfl
theorem ww_198 : (Cond.code yn_AL_isEmpty prog_13_method_9_code 1 (some FieldType.boolean)) ∈ bw_L := bw_in 198 rfl rfl
theorem ww_199 : (Cond.methodLink "ThingHeap" 128 yn_TH_keepHeld) ∈ bw_L := bw_in 199 rfl rfl
theorem ww_201 : (Cond.instanceMethod yn_TH_keepHeld) ∈ bw_L := bw_in 201 rfl rfl
theorem ww_202 : (Cond.code yn_TH_keepHeld prog_1_method_23_code 5 none) ∈ bw_L := bw_in 202 rfl rfl
theorem ww_203 : (Cond.methodLink "ThingHeap" 85 yn_AL_set) ∈ bw_L := bw_in 203 rfl rfl
theorem ww_204 : (Cond.instanceMethod yn_AL_set) ∈ bw_L := bw_in 204 rfl rfl
theorem ww_205 : (Cond.selects "java/util/ArrayList" yn_AL_set yn_AL_set) ∈ bw_L := bw_in 205 rfl rfl
theorem ww_206 : (Cond.code yn_AL_set prog_13_method_23_code 4 (some (FieldType.object "java/lang/Object"))) ∈ bw_L := bw_in 206 rfl rfl
theorem ww_207 : (Cond.methodLink "ThingHeap" 92 yn_AL_remove) ∈ bw_L := bw_in 207 rfl rfl
theorem ww_208 : (Cond.instanceMethod yn_AL_remove) ∈ bw_L := bw_in 208 rfl rfl
theorem ww_209 : (Cond.selects "java/util/ArrayList" yn_AL_remove yn_AL_remove) ∈ bw_L := bw_in 209 rfl rfl
theorem ww_210 : (Cond.code yn_AL_remove prog_13_method_29_code 4 (some (FieldType.object "java/lang/Object"))) ∈ bw_L := bw_in 210 rfl rfl
theorem ww_211 : (Cond.methodLink "java/util/ArrayList" 144 yn_AL_fastRemove) ∈ bw_L := bw_in 211 rfl rfl
theorem ww_213 : (Cond.instanceMethod yn_AL_fastRemove) ∈ bw_L := bw_in 213 rfl rfl
theorem ww_214 : (Cond.code yn_AL_fastRemove prog_13_method_39_code 4 none) ∈ bw_L := bw_in 214 rfl rfl
theorem ww_215 : (Cond.methodLink "java/util/ArrayList" 112 yn_SY_arraycopy) ∈ bw_L := bw_in 215 rfl rfl
theorem ww_216 : (Cond.methodLink "ThingHeapLaw" 18 yn_TH_root) ∈ bw_L := bw_in 216 rfl rfl
theorem ww_217 : (Cond.instanceMethod yn_TH_root) ∈ bw_L := bw_in 217 rfl rfl
theorem ww_218 : (Cond.selects "ThingHeap" yn_TH_root yn_TH_root) ∈ bw_L := bw_in 218 rfl rfl
theorem ww_219 : (Cond.code yn_TH_root prog_1_method_3_code 4 (some FieldType.int)) ∈ bw_L := bw_in 219 rfl rfl
theorem ww_220 : (Cond.methodLink "ThingHeap" 54 yn_TH_find) ∈ bw_L := bw_in 220 rfl rfl
theorem ww_222 : (Cond.instanceMethod yn_TH_find) ∈ bw_L := bw_in 222 rfl rfl
theorem ww_223 : (Cond.code yn_TH_find prog_1_method_15_code 6 (some (FieldType.object "ThingHeap$Thing"))) ∈ bw_L := bw_in 223 rfl rfl
theorem ww_224 : (Cond.methodLink "ThingHeapLaw" 23 yn_TH_point) ∈ bw_L := bw_in 224 rfl rfl
theorem ww_225 : (Cond.instanceMethod yn_TH_point) ∈ bw_L := bw_in 225 rfl rfl
theorem ww_226 : (Cond.selects "ThingHeap" yn_TH_point yn_TH_point) ∈ bw_L := bw_in 226 rfl rfl
theorem ww_227 : (Cond.code yn_TH_point prog_1_method_4_code 5 (some FieldType.int)) ∈ bw_L := bw_in 227 rfl rfl
theorem ww_228 : (Cond.methodLink "ThingHeap" 58 yn_TH_append) ∈ bw_L := bw_in 228 rfl rfl
theorem ww_230 : (Cond.instanceMethod yn_TH_append) ∈ bw_L := bw_in 230 rfl rfl
theorem ww_231 : (Cond.code yn_TH_append prog_1_method_17_code 4 (some FieldType.int)) ∈ bw_L := bw_in 231 rfl rfl
theorem ww_232 : (Cond.instantiable "ThingHeap$Item" 2) ∈ bw_L := bw_in 232 rfl rfl
theorem ww_233 : (Cond.methodLink "ThingHeap" 82 yn_IT_init) ∈ bw_L := bw_in 233 rfl rfl
theorem ww_234 : (Cond.instanceMethod yn_IT_init) ∈ bw_L := bw_in 234 rfl rfl
theorem ww_235 : (Cond.code yn_IT_init prog_2_method_1_code 3 none) ∈ bw_L := bw_in 235 rfl rfl
theorem ww_236 : (Cond.methodLink "ThingHeap$Item" 1 yn_OJ_init) ∈ bw_L := bw_in 236 rfl rfl
theorem ww_237 : (Cond.fieldLink "ThingHeap$Item" 7 "ThingHeap$Item" "thing" "LThingHeap$Thing;") ∈ bw_L := bw_in 237 rfl rfl
theorem ww_238 : (Cond.fieldLink "ThingHeap" 74 "ThingHeap$Item" "thing" "LThingHeap$Thing;") ∈ bw_L := bw_in 238 rfl rfl
theorem ww_239 : (Cond.fieldLink "ThingHeap$Item" 13 "ThingHeap$Item" "value" "I") ∈ bw_L := bw_in 239 rfl rfl
theorem ww_240 : (Cond.fieldLink "ThingHeap" 97 "ThingHeap$Item" "value" "I") ∈ bw_L := bw_in 240 rfl rfl
theorem ww_241 : (Cond.laysFinal "ThingHeap$Item" "ThingHeap$Item" "thing" "LThingHeap$Thing;") ∈ bw_L := bw_in 241 rfl rfl
theorem ww_243 : (Cond.laysFinal "ThingHeap$Item" "ThingHeap$Item" "value" "I") ∈ bw_L := bw_in 243 rfl rfl
theorem ww_245 : (Cond.superclass "ThingHeap$Item" "java/lang/Object") ∈ bw_L := bw_in 245 rfl rfl
theorem ww_246 : (Cond.methodLink "ThingHeapLaw" 27 yn_TH_note) ∈ bw_L := bw_in 246 rfl rfl
theorem ww_247 : (Cond.instanceMethod yn_TH_note) ∈ bw_L := bw_in 247 rfl rfl
theorem ww_248 : (Cond.selects "ThingHeap" yn_TH_note yn_TH_note) ∈ bw_L := bw_in 248 rfl rfl
theorem ww_249 : (Cond.code yn_TH_note prog_1_method_5_code 4 (some FieldType.int)) ∈ bw_L := bw_in 249 rfl rfl
theorem ww_250 : (Cond.methodLink "ThingHeapLaw" 31 yn_TH_turn) ∈ bw_L := bw_in 250 rfl rfl
theorem ww_251 : (Cond.instanceMethod yn_TH_turn) ∈ bw_L := bw_in 251 rfl rfl
theorem ww_252 : (Cond.selects "ThingHeap" yn_TH_turn yn_TH_turn) ∈ bw_L := bw_in 252 rfl rfl
theorem ww_253 : (Cond.code yn_TH_turn prog_1_method_6_code 7 (some FieldType.int)) ∈ bw_L := bw_in 253 rfl rfl
theorem ww_254 : (Cond.methodLink "ThingHeap" 62 yn_TG_hasItem) ∈ bw_L := bw_in 254 rfl rfl
theorem ww_255 : (Cond.instanceMethod yn_TG_hasItem) ∈ bw_L := bw_in 255 rfl rfl
theorem ww_256 : (Cond.selects "ThingHeap$Thing" yn_TG_hasItem yn_TG_hasItem) ∈ bw_L := bw_in 256 rfl rfl
theorem ww_257 : (Cond.code yn_TG_hasItem prog_3_method_2_code 2 (some FieldType.boolean)) ∈ bw_L := bw_in 257 rfl rfl
theorem ww_258 : (Cond.methodLink "ThingHeap$Thing" 27 yn_AL_size) ∈ bw_L := bw_in 258 rfl rfl
theorem ww_259 : (Cond.methodLink "ThingHeapLaw" 36 yn_TH_take) ∈ bw_L := bw_in 259 rfl rfl
theorem ww_260 : (Cond.instanceMethod yn_TH_take) ∈ bw_L := bw_in 260 rfl rfl
theorem ww_261 : (Cond.selects "ThingHeap" yn_TH_take yn_TH_take) ∈ bw_L := bw_in 261 rfl rfl
theorem ww_262 : (Cond.code yn_TH_take prog_1_method_7_code 5 (some FieldType.int)) ∈ bw_L := bw_in 262 rfl rfl
theorem ww_263 : (Cond.methodLink "ThingHeapLaw" 40 yn_TH_item) ∈ bw_L := bw_in 263 rfl rfl
theorem ww_264 : (Cond.instanceMethod yn_TH_item) ∈ bw_L := bw_in 264 rfl rfl
theorem ww_265 : (Cond.selects "ThingHeap" yn_TH_item yn_TH_item) ∈ bw_L := bw_in 265 rfl rfl
theorem ww_266 : (Cond.code yn_TH_item prog_1_method_8_code 5 (some FieldType.long)) ∈ bw_L := bw_in 266 rfl rfl
theorem ww_267 : (Cond.constantLong "ThingHeap" 95 (2199023255552)) ∈ bw_L := bw_in 267 rfl rfl
theorem ww_268 : (Cond.constantLong "ThingHeap" 100 (1099511627776)) ∈ bw_L := bw_in 268 rfl rfl
theorem ww_269 : (Cond.methodLink "ThingHeapLaw" 45 yn_TH_held) ∈ bw_L := bw_in 269 rfl rfl
theorem ww_270 : (Cond.instanceMethod yn_TH_held) ∈ bw_L := bw_in 270 rfl rfl
theorem ww_271 : (Cond.selects "ThingHeap" yn_TH_held yn_TH_held) ∈ bw_L := bw_in 271 rfl rfl
theorem ww_272 : (Cond.code yn_TH_held prog_1_method_9_code 3 (some FieldType.int)) ∈ bw_L := bw_in 272 rfl rfl
theorem ww_273 : (Cond.methodLink "ThingHeapLaw" 49 yn_TH_holders) ∈ bw_L := bw_in 273 rfl rfl
theorem ww_274 : (Cond.instanceMethod yn_TH_holders) ∈ bw_L := bw_in 274 rfl rfl
theorem ww_275 : (Cond.selects "ThingHeap" yn_TH_holders yn_TH_holders) ∈ bw_L := bw_in 275 rfl rfl
theorem ww_276 : (Cond.code yn_TH_holders prog_1_method_10_code 3 (some FieldType.int)) ∈ bw_L := bw_in 276 rfl rfl
theorem ww_277 : (Cond.methodLink "ThingHeapLaw" 53 yn_TH_items) ∈ bw_L := bw_in 277 rfl rfl
theorem ww_278 : (Cond.instanceMethod yn_TH_items) ∈ bw_L := bw_in 278 rfl rfl
theorem ww_279 : (Cond.selects "ThingHeap" yn_TH_items yn_TH_items) ∈ bw_L := bw_in 279 rfl rfl
theorem ww_280 : (Cond.code yn_TH_items prog_1_method_11_code 3 (some FieldType.int)) ∈ bw_L := bw_in 280 rfl rfl
theorem ww_281 : (Cond.methodLink "ThingHeapLaw" 57 yn_TH_collect) ∈ bw_L := bw_in 281 rfl rfl
theorem ww_282 : (Cond.instanceMethod yn_TH_collect) ∈ bw_L := bw_in 282 rfl rfl
theorem ww_283 : (Cond.selects "ThingHeap" yn_TH_collect yn_TH_collect) ∈ bw_L := bw_in 283 rfl rfl
theorem ww_284 : (Cond.code yn_TH_collect prog_1_method_12_code 4 (some FieldType.int)) ∈ bw_L := bw_in 284 rfl rfl
theorem ww_285 : (Cond.methodLink "ThingHeap" 105 yn_TH_markReached) ∈ bw_L := bw_in 285 rfl rfl
theorem ww_287 : (Cond.instanceMethod yn_TH_markReached) ∈ bw_L := bw_in 287 rfl rfl
theorem ww_288 : (Cond.code yn_TH_markReached prog_1_method_24_code 3 none) ∈ bw_L := bw_in 288 rfl rfl
theorem ww_289 : (Cond.methodLink "ThingHeap" 131 yn_TH_reach) ∈ bw_L := bw_in 289 rfl rfl
theorem ww_291 : (Cond.instanceMethod yn_TH_reach) ∈ bw_L := bw_in 291 rfl rfl
theorem ww_292 : (Cond.code yn_TH_reach prog_1_method_26_code 2 none) ∈ bw_L := bw_in 292 rfl rfl
theorem ww_293 : (Cond.methodLink "ThingHeap" 134 yn_TH_reachItems) ∈ bw_L := bw_in 293 rfl rfl
theorem ww_295 : (Cond.instanceMethod yn_TH_reachItems) ∈ bw_L := bw_in 295 rfl rfl
theorem ww_296 : (Cond.code yn_TH_reachItems prog_1_method_25_code 3 none) ∈ bw_L := bw_in 296 rfl rfl
theorem ww_297 : (Cond.methodLink "ThingHeapLaw" 62 yn_TH_count1) ∈ bw_L := bw_in 297 rfl rfl
theorem ww_298 : (Cond.instanceMethod yn_TH_count1) ∈ bw_L := bw_in 298 rfl rfl
theorem ww_299 : (Cond.selects "ThingHeap" yn_TH_count1 yn_TH_count1) ∈ bw_L := bw_in 299 rfl rfl
theorem ww_300 : (Cond.code yn_TH_count1 prog_1_method_13_code 2 (some FieldType.int)) ∈ bw_L := bw_in 300 rfl rfl
theorem ww_301 : (Cond.classLink "ThingHeapLaw" 10 "ThingHeapModel") ∈ bw_L := bw_in 301 rfl rfl
theorem ww_302 : (Cond.instantiable "ThingHeapModel" 8) ∈ bw_L := bw_in 302 rfl rfl
theorem ww_303 : (Cond.methodLink "ThingHeapLaw" 12 yn_MO_init) ∈ bw_L := bw_in 303 rfl rfl
theorem ww_304 : (Cond.instanceMethod yn_MO_init) ∈ bw_L := bw_in 304 rfl rfl
theorem ww_305 : (Cond.code yn_MO_init prog_5_method_1_code 1 none) ∈ bw_L := bw_in 305 rfl rfl
theorem ww_306 : (Cond.methodLink "ThingHeapModel" 1 yn_OJ_init) ∈ bw_L := bw_in 306 rfl rfl
theorem ww_307 : (Cond.classLink "ThingHeapModel" 7 "[J") ∈ bw_L := bw_in 307 rfl rfl
theorem wt_308 : (Cond.arrayOver (FieldType.array FieldType.long)) ∈ lw_tbl := bw_tb 308 rfl
theorem ww_309 : (Cond.methodLink "ThingHeapModel" 31 yn_AR_fill2) ∈ bw_L := bw_in 309 rfl rfl
theorem ww_310 : (Cond.static yn_AR_fill2) ∈ bw_L := bw_in 310 rfl rfl
theorem ww_311 : (Cond.code yn_AR_fill2 prog_14_method_103_code 4 none) ∈ bw_L := bw_in 311 rfl rfl
theorem ww_312 : (Cond.fieldLink "ThingHeapModel" 9 "ThingHeapModel" "item" "[[J") ∈ bw_L := bw_in 312 rfl rfl
theorem ww_313 : (Cond.fieldLink "ThingHeapModel" 15 "ThingHeapModel" "many" "[I") ∈ bw_L := bw_in 313 rfl rfl
theorem ww_314 : (Cond.fieldLink "ThingHeapModel" 19 "ThingHeapModel" "exists" "[I") ∈ bw_L := bw_in 314 rfl rfl
theorem ww_315 : (Cond.fieldLink "ThingHeapModel" 22 "ThingHeapModel" "holders" "[I") ∈ bw_L := bw_in 315 rfl rfl
theorem ww_316 : (Cond.fieldLink "ThingHeapModel" 25 "ThingHeapModel" "waiting" "[I") ∈ bw_L := bw_in 316 rfl rfl
theorem ww_317 : (Cond.fieldLink "ThingHeapModel" 37 "ThingHeapModel" "made" "I") ∈ bw_L := bw_in 317 rfl rfl
theorem ww_318 : (Cond.fieldLink "ThingHeapModel" 58 "ThingHeapModel" "living" "I") ∈ bw_L := bw_in 318 rfl rfl
theorem ww_319 : (Cond.fieldLink "ThingHeapModel" 28 "ThingHeapModel" "root" "[I") ∈ bw_L := bw_in 319 rfl rfl
theorem ww_320 : (Cond.lays "ThingHeapModel" "ThingHeapModel" "item" "[[J") ∈ bw_L := bw_in 320 rfl rfl
theorem ww_322 : (Cond.lays "ThingHeapModel" "ThingHeapModel" "many" "[I") ∈ bw_L := bw_in 322 rfl rfl
theorem ww_324 : (Cond.lays "ThingHeapModel" "ThingHeapModel" "exists" "[I") ∈ bw_L := bw_in 324 rfl rfl
theorem ww_326 : (Cond.lays "ThingHeapModel" "ThingHeapModel" "holders" "[I") ∈ bw_L := bw_in 326 rfl rfl
theorem ww_328 : (Cond.lays "ThingHeapModel" "ThingHeapModel" "waiting" "[I") ∈ bw_L := bw_in 328 rfl rfl
theorem ww_330 : (Cond.lays "ThingHeapModel" "ThingHeapModel" "made" "I") ∈ bw_L := bw_in 330 rfl rfl
theorem ww_332 : (Cond.lays "ThingHeapModel" "ThingHeapModel" "living" "I") ∈ bw_L := bw_in 332 rfl rfl
theorem ww_334 : (Cond.laysFinal "ThingHeapModel" "ThingHeapModel" "root" "[I") ∈ bw_L := bw_in 334 rfl rfl
theorem ww_336 : (Cond.superclass "ThingHeapModel" "java/lang/Object") ∈ bw_L := bw_in 336 rfl rfl
theorem ww_337 : (Cond.arrayClass FieldType.int) ∈ bw_L := bw_in 337 rfl rfl
theorem ww_338 : (Cond.methodLink "ThingHeapLaw" 17 yn_MO_make) ∈ bw_L := bw_in 338 rfl rfl
theorem ww_339 : (Cond.instanceMethod yn_MO_make) ∈ bw_L := bw_in 339 rfl rfl
theorem ww_340 : (Cond.selects "ThingHeapModel" yn_MO_make yn_MO_make) ∈ bw_L := bw_in 340 rfl rfl
theorem ww_341 : (Cond.code yn_MO_make prog_5_method_9_code 2 (some FieldType.int)) ∈ bw_L := bw_in 341 rfl rfl
theorem ww_342 : (Cond.methodLink "ThingHeapModel" 41 yn_MO_in) ∈ bw_L := bw_in 342 rfl rfl
theorem ww_343 : (Cond.static yn_MO_in) ∈ bw_L := bw_in 343 rfl rfl
theorem ww_344 : (Cond.code yn_MO_in prog_5_method_2_code 3 (some FieldType.boolean)) ∈ bw_L := bw_in 344 rfl rfl
theorem ww_345 : (Cond.methodLink "ThingHeapModel" 68 yn_MO_grow) ∈ bw_L := bw_in 345 rfl rfl
theorem ww_347 : (Cond.instanceMethod yn_MO_grow) ∈ bw_L := bw_in 347 rfl rfl
theorem ww_348 : (Cond.code yn_MO_grow prog_5_method_4_code 4 none) ∈ bw_L := bw_in 348 rfl rfl
theorem ww_349 : (Cond.methodLink "ThingHeapModel" 45 yn_AR_copyOfI) ∈ bw_L := bw_in 349 rfl rfl
theorem ww_350 : (Cond.static yn_AR_copyOfI) ∈ bw_L := bw_in 350 rfl rfl
theorem ww_351 : (Cond.code yn_AR_copyOfI prog_14_method_123_code 3 (some (FieldType.array FieldType.int))) ∈ bw_L := bw_in 351 rfl rfl
theorem ww_352 : (Cond.methodLink "java/util/Arrays" 316 yn_AI_clone) ∈ bw_L := bw_in 352 rfl rfl
theorem ww_353 : (Cond.sameMethod "[I" "java/lang/Object" "clone" "()Ljava/lang/Object;") ∈ bw_L := bw_in 353 rfl rfl
theorem ww_354 : (Cond.native yn_OJ_clone) ∈ bw_L := bw_in 354 rfl rfl
theorem ww_355 : (Cond.instanceMethod yn_OJ_clone) ∈ bw_L := bw_in 355 rfl rfl
theorem ww_356 : (Cond.selects "[I" yn_AI_clone yn_OJ_clone) ∈ bw_L := bw_in 356 rfl rfl
theorem wt_357 : (Cond.castable "[I" "java/lang/Cloneable") ∈ lw_tbl := bw_tb 357 rfl
theorem ww_358 : (Cond.classLink "java/util/Arrays" 317 "[I") ∈ bw_L := bw_in 358 rfl rfl
theorem ww_359 : (Cond.methodLink "ThingHeapModel" 71 yn_MO_settle) ∈ bw_L := bw_in 359 rfl rfl
theorem ww_361 : (Cond.instanceMethod yn_MO_settle) ∈ bw_L := bw_in 361 rfl rfl
theorem ww_362 : (Cond.code yn_MO_settle prog_5_method_8_code 5 none) ∈ bw_L := bw_in 362 rfl rfl
theorem ww_363 : (Cond.methodLink "ThingHeapModel" 61 yn_MO_count0) ∈ bw_L := bw_in 363 rfl rfl
theorem ww_365 : (Cond.instanceMethod yn_MO_count0) ∈ bw_L := bw_in 365 rfl rfl
theorem ww_366 : (Cond.code yn_MO_count0 prog_5_method_5_code 5 none) ∈ bw_L := bw_in 366 rfl rfl
theorem ww_367 : (Cond.methodLink "ThingHeapModel" 49 yn_AR_fill4) ∈ bw_L := bw_in 367 rfl rfl
theorem ww_368 : (Cond.static yn_AR_fill4) ∈ bw_L := bw_in 368 rfl rfl
theorem ww_369 : (Cond.code yn_AR_fill4 prog_14_method_104_code 5 none) ∈ bw_L := bw_in 369 rfl rfl
theorem ww_370 : (Cond.methodLink "java/util/Arrays" 13 yn_AR_rangeCheck) ∈ bw_L := bw_in 370 rfl rfl
theorem ww_371 : (Cond.static yn_AR_rangeCheck) ∈ bw_L := bw_in 371 rfl rfl
theorem ww_372 : (Cond.code yn_AR_rangeCheck prog_14_method_30_code 3 none) ∈ bw_L := bw_in 372 rfl rfl
theorem ww_373 : (Cond.methodLink "ThingHeapModel" 52 yn_MO_hold) ∈ bw_L := bw_in 373 rfl rfl
theorem ww_375 : (Cond.instanceMethod yn_MO_hold) ∈ bw_L := bw_in 375 rfl rfl
theorem ww_376 : (Cond.code yn_MO_hold prog_5_method_6_code 4 none) ∈ bw_L := bw_in 376 rfl rfl
theorem ww_377 : (Cond.constantLong "ThingHeapModel" 56 (1099511627776)) ∈ bw_L := bw_in 377 rfl rfl
theorem ww_378 : (Cond.methodLink "ThingHeapModel" 64 yn_MO_gone) ∈ bw_L := bw_in 378 rfl rfl
theorem ww_380 : (Cond.instanceMethod yn_MO_gone) ∈ bw_L := bw_in 380 rfl rfl
theorem ww_381 : (Cond.code yn_MO_gone prog_5_method_7_code 3 (some FieldType.int)) ∈ bw_L := bw_in 381 rfl rfl
theorem ww_382 : (Cond.arrayClass FieldType.long) ∈ bw_L := bw_in 382 rfl rfl
theorem ww_383 : (Cond.methodLink "ThingHeapLaw" 22 yn_MO_root) ∈ bw_L := bw_in 383 rfl rfl
theorem ww_384 : (Cond.instanceMethod yn_MO_root) ∈ bw_L := bw_in 384 rfl rfl
theorem ww_385 : (Cond.selects "ThingHeapModel" yn_MO_root yn_MO_root) ∈ bw_L := bw_in 385 rfl rfl
theorem ww_386 : (Cond.code yn_MO_root prog_5_method_10_code 3 (some FieldType.int)) ∈ bw_L := bw_in 386 rfl rfl
theorem ww_387 : (Cond.methodLink "ThingHeapModel" 74 yn_MO_isThere) ∈ bw_L := bw_in 387 rfl rfl
theorem ww_389 : (Cond.instanceMethod yn_MO_isThere) ∈ bw_L := bw_in 389 rfl rfl
theorem ww_390 : (Cond.code yn_MO_isThere prog_5_method_3_code 2 (some FieldType.boolean)) ∈ bw_L := bw_in 390 rfl rfl
theorem ww_391 : (Cond.methodLink "ThingHeapLaw" 26 yn_MO_point) ∈ bw_L := bw_in 391 rfl rfl
theorem ww_392 : (Cond.instanceMethod yn_MO_point) ∈ bw_L := bw_in 392 rfl rfl
theorem ww_393 : (Cond.selects "ThingHeapModel" yn_MO_point yn_MO_point) ∈ bw_L := bw_in 393 rfl rfl
theorem ww_394 : (Cond.code yn_MO_point prog_5_method_12_code 3 (some FieldType.int)) ∈ bw_L := bw_in 394 rfl rfl
theorem ww_395 : (Cond.methodLink "ThingHeapModel" 81 yn_MO_add) ∈ bw_L := bw_in 395 rfl rfl
theorem ww_397 : (Cond.instanceMethod yn_MO_add) ∈ bw_L := bw_in 397 rfl rfl
theorem ww_398 : (Cond.code yn_MO_add prog_5_method_11_code 4 (some FieldType.int)) ∈ bw_L := bw_in 398 rfl rfl
theorem ww_399 : (Cond.methodLink "ThingHeapModel" 78 yn_AR_copyOfJ) ∈ bw_L := bw_in 399 rfl rfl
theorem ww_400 : (Cond.static yn_AR_copyOfJ) ∈ bw_L := bw_in 400 rfl rfl
theorem ww_401 : (Cond.code yn_AR_copyOfJ prog_14_method_124_code 3 (some (FieldType.array FieldType.long))) ∈ bw_L := bw_in 401 rfl rfl
theorem ww_402 : (Cond.methodLink "java/util/Arrays" 319 yn_AJ_clone) ∈ bw_L := bw_in 402 rfl rfl
theorem ww_403 : (Cond.sameMethod "[J" "java/lang/Object" "clone" "()Ljava/lang/Object;") ∈ bw_L := bw_in 403 rfl rfl
theorem ww_404 : (Cond.selects "[J" yn_AJ_clone yn_OJ_clone) ∈ bw_L := bw_in 404 rfl rfl
theorem wt_405 : (Cond.castable "[J" "java/lang/Cloneable") ∈ lw_tbl := bw_tb 405 rfl
theorem ww_406 : (Cond.classLink "java/util/Arrays" 320 "[J") ∈ bw_L := bw_in 406 rfl rfl
theorem ww_407 : (Cond.methodLink "ThingHeapLaw" 30 yn_MO_note) ∈ bw_L := bw_in 407 rfl rfl
theorem ww_408 : (Cond.instanceMethod yn_MO_note) ∈ bw_L := bw_in 408 rfl rfl
theorem ww_409 : (Cond.selects "ThingHeapModel" yn_MO_note yn_MO_note) ∈ bw_L := bw_in 409 rfl rfl
theorem ww_410 : (Cond.code yn_MO_note prog_5_method_13_code 3 (some FieldType.int)) ∈ bw_L := bw_in 410 rfl rfl
theorem ww_411 : (Cond.methodLink "ThingHeapLaw" 35 yn_MO_turn) ∈ bw_L := bw_in 411 rfl rfl
theorem ww_412 : (Cond.instanceMethod yn_MO_turn) ∈ bw_L := bw_in 412 rfl rfl
theorem ww_413 : (Cond.selects "ThingHeapModel" yn_MO_turn yn_MO_turn) ∈ bw_L := bw_in 413 rfl rfl
theorem ww_414 : (Cond.code yn_MO_turn prog_5_method_14_code 4 (some FieldType.int)) ∈ bw_L := bw_in 414 rfl rfl
theorem ww_415 : (Cond.methodLink "ThingHeapLaw" 39 yn_MO_take) ∈ bw_L := bw_in 415 rfl rfl
theorem ww_416 : (Cond.instanceMethod yn_MO_take) ∈ bw_L := bw_in 416 rfl rfl
theorem ww_417 : (Cond.selects "ThingHeapModel" yn_MO_take yn_MO_take) ∈ bw_L := bw_in 417 rfl rfl
theorem ww_418 : (Cond.code yn_MO_take prog_5_method_15_code 4 (some FieldType.int)) ∈ bw_L := bw_in 418 rfl rfl
theorem ww_419 : (Cond.methodLink "ThingHeapLaw" 44 yn_MO_item) ∈ bw_L := bw_in 419 rfl rfl
theorem ww_420 : (Cond.instanceMethod yn_MO_item) ∈ bw_L := bw_in 420 rfl rfl
theorem ww_421 : (Cond.selects "ThingHeapModel" yn_MO_item yn_MO_item) ∈ bw_L := bw_in 421 rfl rfl
theorem ww_422 : (Cond.code yn_MO_item prog_5_method_16_code 3 (some FieldType.long)) ∈ bw_L := bw_in 422 rfl rfl
theorem ww_423 : (Cond.constantLong "ThingHeapModel" 85 (2199023255552)) ∈ bw_L := bw_in 423 rfl rfl
theorem ww_424 : (Cond.methodLink "ThingHeapLaw" 48 yn_MO_held) ∈ bw_L := bw_in 424 rfl rfl
theorem ww_425 : (Cond.instanceMethod yn_MO_held) ∈ bw_L := bw_in 425 rfl rfl
theorem ww_426 : (Cond.selects "ThingHeapModel" yn_MO_held yn_MO_held) ∈ bw_L := bw_in 426 rfl rfl
theorem ww_427 : (Cond.code yn_MO_held prog_5_method_17_code 2 (some FieldType.int)) ∈ bw_L := bw_in 427 rfl rfl
theorem ww_428 : (Cond.methodLink "ThingHeapLaw" 52 yn_MO_holders) ∈ bw_L := bw_in 428 rfl rfl
theorem ww_429 : (Cond.instanceMethod yn_MO_holders) ∈ bw_L := bw_in 429 rfl rfl
theorem ww_430 : (Cond.selects "ThingHeapModel" yn_MO_holders yn_MO_holders) ∈ bw_L := bw_in 430 rfl rfl
theorem ww_431 : (Cond.code yn_MO_holders prog_5_method_18_code 2 (some FieldType.int)) ∈ bw_L := bw_in 431 rfl rfl
theorem ww_432 : (Cond.methodLink "ThingHeapLaw" 56 yn_MO_items) ∈ bw_L := bw_in 432 rfl rfl
theorem ww_433 : (Cond.instanceMethod yn_MO_items) ∈ bw_L := bw_in 433 rfl rfl
theorem ww_434 : (Cond.selects "ThingHeapModel" yn_MO_items yn_MO_items) ∈ bw_L := bw_in 434 rfl rfl
theorem ww_435 : (Cond.code yn_MO_items prog_5_method_19_code 2 (some FieldType.int)) ∈ bw_L := bw_in 435 rfl rfl
theorem ww_436 : (Cond.methodLink "ThingHeapLaw" 61 yn_MO_collect) ∈ bw_L := bw_in 436 rfl rfl
theorem ww_437 : (Cond.instanceMethod yn_MO_collect) ∈ bw_L := bw_in 437 rfl rfl
theorem ww_438 : (Cond.selects "ThingHeapModel" yn_MO_collect yn_MO_collect) ∈ bw_L := bw_in 438 rfl rfl
theorem ww_439 : (Cond.code yn_MO_collect prog_5_method_20_code 7 (some FieldType.int)) ∈ bw_L := bw_in 439 rfl rfl
theorem ww_440 : (Cond.methodLink "ThingHeapModel" 87 yn_MO_reach) ∈ bw_L := bw_in 440 rfl rfl
theorem ww_442 : (Cond.instanceMethod yn_MO_reach) ∈ bw_L := bw_in 442 rfl rfl
theorem ww_443 : (Cond.code yn_MO_reach prog_5_method_21_code 3 (some FieldType.int)) ∈ bw_L := bw_in 443 rfl rfl
theorem ww_444 : (Cond.methodLink "ThingHeapLaw" 65 yn_MO_count1) ∈ bw_L := bw_in 444 rfl rfl
theorem ww_445 : (Cond.instanceMethod yn_MO_count1) ∈ bw_L := bw_in 445 rfl rfl
theorem ww_446 : (Cond.selects "ThingHeapModel" yn_MO_count1 yn_MO_count1) ∈ bw_L := bw_in 446 rfl rfl
theorem ww_447 : (Cond.code yn_MO_count1 prog_5_method_22_code 2 (some FieldType.int)) ∈ bw_L := bw_in 447 rfl rfl
theorem wt_448 : (Cond.castable "ThingHeap$Thing" "ThingHeap$Thing") ∈ lw_tbl := bw_tb 448 rfl
theorem wt_449 : (Cond.castable "ThingHeap$Item" "ThingHeap$Item") ∈ lw_tbl := bw_tb 449 rfl
theorem ww_450 : (Cond.sameMethod "[Ljava/lang/Object;" "java/lang/Object" "getClass" "()Ljava/lang/Class;") ∈ bw_L := bw_in 450 rfl rfl
theorem ww_451 : (Cond.selects "[Ljava/lang/Object;" yn_OJ_getClass yn_OJ_getClass) ∈ bw_L := bw_in 451 rfl rfl
theorem wt_452 : (Cond.declares yn_OJ_getClass) ∈ lw_tbl := bw_tb 452 rfl
theorem wt_453 : (Cond.castable "ThingHeap" "java/lang/Object") ∈ lw_tbl := bw_tb 453 rfl
theorem wt_454 : (Cond.castable "ThingHeapModel" "java/lang/Object") ∈ lw_tbl := bw_tb 454 rfl
theorem wt_455 : (Cond.castable "ThingHeap$Thing" "java/lang/Object") ∈ lw_tbl := bw_tb 455 rfl
theorem wt_456 : (Cond.castable "ThingHeap$Item" "java/lang/Object") ∈ lw_tbl := bw_tb 456 rfl
theorem ws_AL_add3 : Cond.selects "java/util/ArrayList" yn_AL_add3 yn_AL_add3 ∈ bw_L := bw_sl 0 rfl rfl
theorem ws_AL_grow0 : Cond.selects "java/util/ArrayList" yn_AL_grow0 yn_AL_grow0 ∈ bw_L := bw_sl 1 rfl rfl
theorem ws_AL_grow1 : Cond.selects "java/util/ArrayList" yn_AL_grow1 yn_AL_grow1 ∈ bw_L := bw_sl 2 rfl rfl
theorem ws_TH_setRoot : Cond.selects "ThingHeap" yn_TH_setRoot yn_TH_setRoot ∈ bw_L := bw_sl 3 rfl rfl
theorem ws_TH_release : Cond.selects "ThingHeap" yn_TH_release yn_TH_release ∈ bw_L := bw_sl 4 rfl rfl
theorem ws_TH_loseHold : Cond.selects "ThingHeap" yn_TH_loseHold yn_TH_loseHold ∈ bw_L := bw_sl 5 rfl rfl
theorem ws_TH_removeUnheld : Cond.selects "ThingHeap" yn_TH_removeUnheld yn_TH_removeUnheld ∈ bw_L := bw_sl 6 rfl rfl
theorem ws_TH_dropItems : Cond.selects "ThingHeap" yn_TH_dropItems yn_TH_dropItems ∈ bw_L := bw_sl 7 rfl rfl
theorem ws_TH_keepHeld : Cond.selects "ThingHeap" yn_TH_keepHeld yn_TH_keepHeld ∈ bw_L := bw_sl 8 rfl rfl
theorem ws_AL_fastRemove : Cond.selects "java/util/ArrayList" yn_AL_fastRemove yn_AL_fastRemove ∈ bw_L := bw_sl 9 rfl rfl
theorem ws_TH_find : Cond.selects "ThingHeap" yn_TH_find yn_TH_find ∈ bw_L := bw_sl 10 rfl rfl
theorem ws_TH_append : Cond.selects "ThingHeap" yn_TH_append yn_TH_append ∈ bw_L := bw_sl 11 rfl rfl
theorem ws_TH_markReached : Cond.selects "ThingHeap" yn_TH_markReached yn_TH_markReached ∈ bw_L := bw_sl 12 rfl rfl
theorem ws_TH_reach : Cond.selects "ThingHeap" yn_TH_reach yn_TH_reach ∈ bw_L := bw_sl 13 rfl rfl
theorem ws_TH_reachItems : Cond.selects "ThingHeap" yn_TH_reachItems yn_TH_reachItems ∈ bw_L := bw_sl 14 rfl rfl
theorem ws_MO_grow : Cond.selects "ThingHeapModel" yn_MO_grow yn_MO_grow ∈ bw_L := bw_sl 15 rfl rfl
theorem ws_MO_settle : Cond.selects "ThingHeapModel" yn_MO_settle yn_MO_settle ∈ bw_L := bw_sl 16 rfl rfl
theorem ws_MO_count0 : Cond.selects "ThingHeapModel" yn_MO_count0 yn_MO_count0 ∈ bw_L := bw_sl 17 rfl rfl
theorem ws_MO_hold : Cond.selects "ThingHeapModel" yn_MO_hold yn_MO_hold ∈ bw_L := bw_sl 18 rfl rfl
theorem ws_MO_gone : Cond.selects "ThingHeapModel" yn_MO_gone yn_MO_gone ∈ bw_L := bw_sl 19 rfl rfl
theorem ws_MO_isThere : Cond.selects "ThingHeapModel" yn_MO_isThere yn_MO_isThere ∈ bw_L := bw_sl 20 rfl rfl
theorem ws_MO_add : Cond.selects "ThingHeapModel" yn_MO_add yn_MO_add ∈ bw_L := bw_sl 21 rfl rfl
theorem ws_MO_reach : Cond.selects "ThingHeapModel" yn_MO_reach yn_MO_reach ∈ bw_L := bw_sl 22 rfl rfl
abbrev nR_AL : String := "java/util/ArrayList"
def nF_AL : u_T := fun k => match k with
  | 0 => ("java/util/AbstractList", "modCount", "I", false)
  | 1 => ("java/util/ArrayList", "elementData", "[Ljava/lang/Object;", false)
  | _ => ("java/util/ArrayList", "size", "I", false)
def nt_AL : Nat → FieldType := fun k => match k with
  | 0 => .int
  | 1 => .array (.object "java/lang/Object")
  | _ => .int
theorem nn_AL : ∀ a, a < 3 → ∀ b, b < 3 → a ≠ b → (nF_AL a).2.1 ≠ (nF_AL b).2.1 := by decide +kernel
theorem no_AL : ∀ k, k < 3 → parseFieldDescriptor (nF_AL k).2.2.1 = some (nt_AL k) := by decide +kernel
theorem nu_AL : ∀ w ∈ u_ws nR_AL nF_AL 3, w ∈ bw_L := by
  intro w hw
  have hw : w ∈ [Cond.lays "java/util/ArrayList" "java/util/AbstractList" "modCount" "I", Cond.lays "java/util/ArrayList" "java/util/ArrayList" "elementData" "[Ljava/lang/Object;", Cond.lays "java/util/ArrayList" "java/util/ArrayList" "size" "I"] := hw
  simp only [List.mem_cons, List.not_mem_nil, or_false] at hw
  rcases hw with rfl | rfl | rfl
  · exact ww_47
  · exact ww_43
  · exact ww_45
abbrev nR_TH : String := "ThingHeap"
def nF_TH : u_T := fun k => match k with
  | 0 => ("ThingHeap", "roots", "[LThingHeap$Thing;", true)
  | 1 => ("ThingHeap", "things", "Ljava/util/ArrayList;", true)
  | 2 => ("ThingHeap", "unheld", "Ljava/util/ArrayList;", true)
  | 3 => ("ThingHeap", "reachedSoFar", "Ljava/util/ArrayList;", true)
  | _ => ("ThingHeap", "made", "I", false)
def nt_TH : Nat → FieldType := fun k => match k with
  | 0 => .array (.object "ThingHeap$Thing")
  | 1 => .object "java/util/ArrayList"
  | 2 => .object "java/util/ArrayList"
  | 3 => .object "java/util/ArrayList"
  | _ => .int
theorem nn_TH : ∀ a, a < 5 → ∀ b, b < 5 → a ≠ b → (nF_TH a).2.1 ≠ (nF_TH b).2.1 := by decide +kernel
theorem no_TH : ∀ k, k < 5 → parseFieldDescriptor (nF_TH k).2.2.1 = some (nt_TH k) := by decide +kernel
theorem nu_TH : ∀ w ∈ u_ws nR_TH nF_TH 5, w ∈ bw_L := by
  intro w hw
  have hw : w ∈ [Cond.laysFinal "ThingHeap" "ThingHeap" "roots" "[LThingHeap$Thing;", Cond.laysFinal "ThingHeap" "ThingHeap" "things" "Ljava/util/ArrayList;", Cond.laysFinal "ThingHeap" "ThingHeap" "unheld" "Ljava/util/ArrayList;", Cond.laysFinal "ThingHeap" "ThingHeap" "reachedSoFar" "Ljava/util/ArrayList;", Cond.lays "ThingHeap" "ThingHeap" "made" "I"] := hw
  simp only [List.mem_cons, List.not_mem_nil, or_false] at hw
  rcases hw with rfl | rfl | rfl | rfl | rfl
  · exact ww_55
  · exact ww_57
  · exact ww_59
  · exact ww_61
  · exact ww_63
abbrev nR_TG : String := "ThingHeap$Thing"
def nF_TG : u_T := fun k => match k with
  | 0 => ("ThingHeap$Thing", "number", "I", true)
  | 1 => ("ThingHeap$Thing", "row", "Ljava/util/ArrayList;", true)
  | 2 => ("ThingHeap$Thing", "timesHeld", "I", false)
  | _ => ("ThingHeap$Thing", "reached", "Z", false)
def nt_TG : Nat → FieldType := fun k => match k with
  | 0 => .int
  | 1 => .object "java/util/ArrayList"
  | 2 => .int
  | _ => .boolean
theorem nn_TG : ∀ a, a < 4 → ∀ b, b < 4 → a ≠ b → (nF_TG a).2.1 ≠ (nF_TG b).2.1 := by decide +kernel
theorem no_TG : ∀ k, k < 4 → parseFieldDescriptor (nF_TG k).2.2.1 = some (nt_TG k) := by decide +kernel
theorem nu_TG : ∀ w ∈ u_ws nR_TG nF_TG 4, w ∈ bw_L := by
  intro w hw
  have hw : w ∈ [Cond.laysFinal "ThingHeap$Thing" "ThingHeap$Thing" "number" "I", Cond.laysFinal "ThingHeap$Thing" "ThingHeap$Thing" "row" "Ljava/util/ArrayList;", Cond.lays "ThingHeap$Thing" "ThingHeap$Thing" "timesHeld" "I", Cond.lays "ThingHeap$Thing" "ThingHeap$Thing" "reached" "Z"] := hw
  simp only [List.mem_cons, List.not_mem_nil, or_false] at hw
  rcases hw with rfl | rfl | rfl | rfl
  · exact ww_92
  · exact ww_94
  · exact ww_96
  · exact ww_98
abbrev nR_IT : String := "ThingHeap$Item"
def nF_IT : u_T := fun k => match k with
  | 0 => ("ThingHeap$Item", "thing", "LThingHeap$Thing;", true)
  | _ => ("ThingHeap$Item", "value", "I", true)
def nt_IT : Nat → FieldType := fun k => match k with
  | 0 => .object "ThingHeap$Thing"
  | _ => .int
theorem nn_IT : ∀ a, a < 2 → ∀ b, b < 2 → a ≠ b → (nF_IT a).2.1 ≠ (nF_IT b).2.1 := by decide +kernel
theorem no_IT : ∀ k, k < 2 → parseFieldDescriptor (nF_IT k).2.2.1 = some (nt_IT k) := by decide +kernel
theorem nu_IT : ∀ w ∈ u_ws nR_IT nF_IT 2, w ∈ bw_L := by
  intro w hw
  have hw : w ∈ [Cond.laysFinal "ThingHeap$Item" "ThingHeap$Item" "thing" "LThingHeap$Thing;", Cond.laysFinal "ThingHeap$Item" "ThingHeap$Item" "value" "I"] := hw
  simp only [List.mem_cons, List.not_mem_nil, or_false] at hw
  rcases hw with rfl | rfl
  · exact ww_241
  · exact ww_243
abbrev nR_MO : String := "ThingHeapModel"
def nF_MO : u_T := fun k => match k with
  | 0 => ("ThingHeapModel", "item", "[[J", false)
  | 1 => ("ThingHeapModel", "many", "[I", false)
  | 2 => ("ThingHeapModel", "exists", "[I", false)
  | 3 => ("ThingHeapModel", "holders", "[I", false)
  | 4 => ("ThingHeapModel", "waiting", "[I", false)
  | 5 => ("ThingHeapModel", "made", "I", false)
  | 6 => ("ThingHeapModel", "living", "I", false)
  | _ => ("ThingHeapModel", "root", "[I", true)
def nt_MO : Nat → FieldType := fun k => match k with
  | 0 => .array (.array .long)
  | 1 => .array .int
  | 2 => .array .int
  | 3 => .array .int
  | 4 => .array .int
  | 5 => .int
  | 6 => .int
  | _ => .array .int
theorem nn_MO : ∀ a, a < 8 → ∀ b, b < 8 → a ≠ b → (nF_MO a).2.1 ≠ (nF_MO b).2.1 := by decide +kernel
theorem no_MO : ∀ k, k < 8 → parseFieldDescriptor (nF_MO k).2.2.1 = some (nt_MO k) := by decide +kernel
theorem nu_MO : ∀ w ∈ u_ws nR_MO nF_MO 8, w ∈ bw_L := by
  intro w hw
  have hw : w ∈ [Cond.lays "ThingHeapModel" "ThingHeapModel" "item" "[[J", Cond.lays "ThingHeapModel" "ThingHeapModel" "many" "[I", Cond.lays "ThingHeapModel" "ThingHeapModel" "exists" "[I", Cond.lays "ThingHeapModel" "ThingHeapModel" "holders" "[I", Cond.lays "ThingHeapModel" "ThingHeapModel" "waiting" "[I", Cond.lays "ThingHeapModel" "ThingHeapModel" "made" "I", Cond.lays "ThingHeapModel" "ThingHeapModel" "living" "I", Cond.laysFinal "ThingHeapModel" "ThingHeapModel" "root" "[I"] := hw
  simp only [List.mem_cons, List.not_mem_nil, or_false] at hw
  rcases hw with rfl | rfl | rfl | rfl | rfl | rfl | rfl | rfl
  · exact ww_320
  · exact ww_322
  · exact ww_324
  · exact ww_326
  · exact ww_328
  · exact ww_330
  · exact ww_332
  · exact ww_334
abbrev cl_L : List vw_C := [(nR_AL, nF_AL, 3), (nR_TH, nF_TH, 5), (nR_TG, nF_TG, 4), (nR_IT, nF_IT, 2), (nR_MO, nF_MO, 8)]
