theorem zk_in (i : Nat) {w : Cond} (h : tables_1[i]? = some w) (hg : goodWord w = true) : w ∈ zk_tbl := List.mem_filter.mpr ⟨List.mem_append_right _ (List.mem_of_getElem? h), hg⟩
theorem zk_in2 (i : Nat) {w : Cond} (h : tables_1[i]? = some w) (hg : zk_isN w = true) : w ∈ zk_nest := List.mem_filter.mpr ⟨List.mem_append_right _ (List.mem_of_getElem? h), hg⟩
theorem zk_in3 (q : MethodName × Nat) (h : q ∈ lw_privs) : Cond.selects q.1.cls q.1 q.1 ∈ zk_tbl := List.mem_filter.mpr ⟨List.mem_append_left _ (List.mem_map.mpr ⟨q, h, rfl⟩), rfl⟩
abbrev lw_privs_9_q : MethodName × Nat := (⟨"RoadPlugs$Tape", "parseNumber", "()I"⟩, 9)
abbrev lw_privs_8_q : MethodName × Nat := (⟨"RoadPlugs$Tape", "parseShare", "()Z"⟩, 9)
abbrev lw_privs_7_q : MethodName × Nat := (⟨"RoadPlugs$Tape", "isWord", "(Ljava/lang/String;)Z"⟩, 9)
abbrev lw_privs_67_q : MethodName × Nat := (⟨"RoadPlugsModel", "move", "([IIZ)V"⟩, 33)
abbrev lw_privs_66_q : MethodName × Nat := (⟨"RoadPlugsModel", "moveAll", "(Z)V"⟩, 33)
abbrev lw_privs_65_q : MethodName × Nat := (⟨"RoadPlugsModel", "unlike", "(II)I"⟩, 33)
abbrev lw_privs_64_q : MethodName × Nat := (⟨"RoadPlugsModel", "mayBeOne", "(II)Z"⟩, 33)
abbrev lw_privs_63_q : MethodName × Nat := (⟨"RoadPlugsModel", "pairs", "(III)I"⟩, 33)
abbrev lw_privs_62_q : MethodName × Nat := (⟨"RoadPlugsModel", "weighBooks", "()V"⟩, 33)
abbrev lw_privs_61_q : MethodName × Nat := (⟨"RoadPlugsModel", "plugsOf", "(I)I"⟩, 33)
abbrev lw_privs_60_q : MethodName × Nat := (⟨"RoadPlugsModel", "advise", "(IIZ)I"⟩, 33)
abbrev lw_privs_6_q : MethodName × Nat := (⟨"RoadPlugs$Tape", "parseRule", "()Z"⟩, 9)
abbrev lw_privs_59_q : MethodName × Nat := (⟨"RoadPlugsModel", "idles", "(II)V"⟩, 33)
abbrev lw_privs_58_q : MethodName × Nat := (⟨"RoadPlugsModel", "isWaitedFor", "(II)Z"⟩, 33)
abbrev lw_privs_57_q : MethodName × Nat := (⟨"RoadPlugsModel", "ends", "(I)V"⟩, 33)
abbrev lw_privs_56_q : MethodName × Nat := (⟨"RoadPlugsModel", "first", "(II)V"⟩, 33)
abbrev lw_privs_55_q : MethodName × Nat := (⟨"RoadPlugsModel", "even", "(II)V"⟩, 33)
abbrev lw_privs_54_q : MethodName × Nat := (⟨"RoadPlugsModel", "askAll", "(I)I"⟩, 33)
abbrev lw_privs_53_q : MethodName × Nat := (⟨"RoadPlugsModel", "fails", "(I)V"⟩, 33)
abbrev lw_privs_52_q : MethodName × Nat := (⟨"RoadPlugsModel", "firstFor", "(II)I"⟩, 33)
abbrev lw_privs_51_q : MethodName × Nat := (⟨"RoadPlugsModel", "takes", "(I)V"⟩, 33)
abbrev lw_privs_50_q : MethodName × Nat := (⟨"RoadPlugsModel", "tick", "(I)I"⟩, 33)
abbrev lw_privs_5_q : MethodName × Nat := (⟨"RoadPlugs$Tape", "nextToken", "()V"⟩, 9)
abbrev lw_privs_49_q : MethodName × Nat := (⟨"RoadPlugsModel", "more", "(III)V"⟩, 33)
abbrev lw_privs_48_q : MethodName × Nat := (⟨"RoadPlugsModel", "fromQueue", "(I)V"⟩, 33)
abbrev lw_privs_47_q : MethodName × Nat := (⟨"RoadPlugsModel", "goAway", "(I)V"⟩, 33)
abbrev lw_privs_46_q : MethodName × Nat := (⟨"RoadPlugsModel", "toQueue", "(IIZ)V"⟩, 33)
abbrev lw_privs_45_q : MethodName × Nat := (⟨"RoadPlugsModel", "put", "(III)V"⟩, 33)
abbrev lw_privs_44_q : MethodName × Nat := (⟨"RoadPlugsModel", "want", "(II)V"⟩, 33)
abbrev lw_privs_43_q : MethodName × Nat := (⟨"RoadPlugsModel", "wantNumber", "()I"⟩, 33)
abbrev lw_privs_42_q : MethodName × Nat := (⟨"RoadPlugsModel", "wantShare", "(I)V"⟩, 33)
abbrev lw_privs_41_q : MethodName × Nat := (⟨"RoadPlugsModel", "wrong", "()V"⟩, 33)
abbrev lw_privs_40_q : MethodName × Nat := (⟨"RoadPlugsModel", "isWord", "(I)Z"⟩, 33)
abbrev lw_privs_4_q : MethodName × Nat := (⟨"RoadPlugs$Planner", "followTrip", "(LRoadPlugs$World;LRoadPlugs$Car;)V"⟩, 11)
abbrev lw_privs_39_q : MethodName × Nat := (⟨"RoadPlugsModel", "isGood", "()Z"⟩, 33)
abbrev lw_privs_38_q : MethodName × Nat := (⟨"RoadPlugsModel", "advance", "()V"⟩, 33)
abbrev lw_privs_37_q : MethodName × Nat := (⟨"RoadPlugsModel", "goOn", "(III)V"⟩, 33)
abbrev lw_privs_36_q : MethodName × Nat := (⟨"RoadPlugsModel", "weighPlace", "(III)V"⟩, 33)
abbrev lw_privs_35_q : MethodName × Nat := (⟨"RoadPlugsModel", "serving", "(II)I"⟩, 33)
abbrev lw_privs_34_q : MethodName × Nat := (⟨"RoadPlugsModel", "findWay", "(III)V"⟩, 33)
abbrev lw_privs_33_q : MethodName × Nat := (⟨"RoadPlugsModel", "weighTrip", "(III)Z"⟩, 33)
abbrev lw_privs_32_q : MethodName × Nat := (⟨"RoadPlugsModel", "isBroken", "(I)Z"⟩, 33)
abbrev lw_privs_31_q : MethodName × Nat := (⟨"RoadPlugsModel", "latestTry", "(II)I"⟩, 33)
abbrev lw_privs_30_q : MethodName × Nat := (⟨"RoadPlugsModel", "addTry", "(IIZ)V"⟩, 33)
abbrev lw_privs_3_q : MethodName × Nat := (⟨"RoadPlugs$Planner", "costToLeave", "(II)I"⟩, 11)
abbrev lw_privs_29_q : MethodName × Nat := (⟨"RoadPlugsModel", "placeOf", "(I)I"⟩, 33)
abbrev lw_privs_28_q : MethodName × Nat := (⟨"RoadPlugsModel", "gainOf", "(III)I"⟩, 33)
abbrev lw_privs_27_q : MethodName × Nat := (⟨"RoadPlugsModel", "isPlug", "(I)Z"⟩, 33)
abbrev lw_privs_26_q : MethodName × Nat := (⟨"RoadPlugsModel", "get", "(II)I"⟩, 33)
abbrev lw_privs_25_q : MethodName × Nat := (⟨"RoadPlugsModel", "chargeFor", "(II)I"⟩, 33)
abbrev lw_privs_24_q : MethodName × Nat := (⟨"RoadPlugsModel", "isCar", "(I)Z"⟩, 33)
abbrev lw_privs_23_q : MethodName × Nat := (⟨"RoadPlugsModel", "isSite", "(I)Z"⟩, 33)
abbrev lw_privs_22_q : MethodName × Nat := (⟨"RoadPlugs$Joiner", "followBest", "(II)V"⟩, 5)
abbrev lw_privs_21_q : MethodName × Nat := (⟨"RoadPlugs$Joiner", "isFree", "(III)Z"⟩, 5)
abbrev lw_privs_20_q : MethodName × Nat := (⟨"RoadPlugs$Joiner", "bestFrom", "(III)I"⟩, 5)
abbrev lw_privs_2_q : MethodName × Nat := (⟨"RoadPlugs$Planner", "fillCosts", "(LRoadPlugs$World;LRoadPlugs$Car;I)V"⟩, 11)
abbrev lw_privs_19_q : MethodName × Nat := (⟨"RoadPlugs$Joiner", "scorePairs", "(LRoadPlugs$Book;LRoadPlugs$Book;I)V"⟩, 5)
abbrev lw_privs_18_q : MethodName × Nat := (⟨"RoadPlugs$Adviser", "leastTold", "(LRoadPlugs$World;LRoadPlugs$Car;I)I"⟩, 3)
abbrev lw_privs_17_q : MethodName × Nat := (⟨"RoadPlugs$Stepper", "partAll", "(LRoadPlugs$World;LRoadPlugs$Site;)V"⟩, 2)
abbrev lw_privs_16_q : MethodName × Nat := (⟨"RoadPlugs$Stepper", "chargeAll", "(LRoadPlugs$World;LRoadPlugs$Site;)V"⟩, 2)
abbrev lw_privs_15_q : MethodName × Nat := (⟨"RoadPlugs$Stepper", "shareEvenly", "(LRoadPlugs$Site;I)V"⟩, 2)
abbrev lw_privs_14_q : MethodName × Nat := (⟨"RoadPlugs$Stepper", "firstUnserved", "(LRoadPlugs$World;LRoadPlugs$Site;)I"⟩, 2)
abbrev lw_privs_13_q : MethodName × Nat := (⟨"RoadPlugs$Stepper", "shareByComing", "(LRoadPlugs$World;LRoadPlugs$Site;)V"⟩, 2)
abbrev lw_privs_12_q : MethodName × Nat := (⟨"RoadPlugs$Stepper", "askAll", "(LRoadPlugs$World;LRoadPlugs$Site;)I"⟩, 2)
abbrev lw_privs_11_q : MethodName × Nat := (⟨"RoadPlugs$Tape", "parseSemicolon", "()Z"⟩, 9)
abbrev lw_privs_10_q : MethodName × Nat := (⟨"RoadPlugs$Tape", "parseIdle", "()Z"⟩, 9)
abbrev lw_privs_1_q : MethodName × Nat := (⟨"RoadPlugs$Planner", "setLeg", "(LRoadPlugs$World;LRoadPlugs$Car;I)V"⟩, 11)
abbrev lw_privs_0_q : MethodName × Nat := (⟨"RoadPlugs$Planner", "layOutLegs", "(LRoadPlugs$World;LRoadPlugs$Car;II)V"⟩, 11)
theorem tn_567 : (Jvm.Cond.methodLinkNest "RoadPlugs$World" (97 : Nat) ({ cls := "RoadPlugs", name := "cutUp", desc := "(II)I" } : Jvm.MethodName) "RoadPlugs") ∈ zk_nest := zk_in2 567 (by decide +kernel) rfl
theorem tn_912 : (Jvm.Cond.methodLinkNest "RoadPlugs$Adviser" (47 : Nat) ({ cls := "RoadPlugs", name := "cutUp", desc := "(II)I" } : Jvm.MethodName) "RoadPlugs") ∈ zk_nest := zk_in2 912 (by decide +kernel) rfl
theorem ts_0 : Cond.selects "RoadPlugs$Planner" ⟨"RoadPlugs$Planner", "layOutLegs", "(LRoadPlugs$World;LRoadPlugs$Car;II)V"⟩ ⟨"RoadPlugs$Planner", "layOutLegs", "(LRoadPlugs$World;LRoadPlugs$Car;II)V"⟩ ∈ zk_tbl := zk_in3 lw_privs_0_q (by decide +kernel)
theorem ts_1 : Cond.selects "RoadPlugs$Planner" ⟨"RoadPlugs$Planner", "setLeg", "(LRoadPlugs$World;LRoadPlugs$Car;I)V"⟩ ⟨"RoadPlugs$Planner", "setLeg", "(LRoadPlugs$World;LRoadPlugs$Car;I)V"⟩ ∈ zk_tbl := zk_in3 lw_privs_1_q (by decide +kernel)
theorem ts_10 : Cond.selects "RoadPlugs$Tape" ⟨"RoadPlugs$Tape", "parseIdle", "()Z"⟩ ⟨"RoadPlugs$Tape", "parseIdle", "()Z"⟩ ∈ zk_tbl := zk_in3 lw_privs_10_q (by decide +kernel)
theorem ts_11 : Cond.selects "RoadPlugs$Tape" ⟨"RoadPlugs$Tape", "parseSemicolon", "()Z"⟩ ⟨"RoadPlugs$Tape", "parseSemicolon", "()Z"⟩ ∈ zk_tbl := zk_in3 lw_privs_11_q (by decide +kernel)
theorem ts_12 : Cond.selects "RoadPlugs$Stepper" ⟨"RoadPlugs$Stepper", "askAll", "(LRoadPlugs$World;LRoadPlugs$Site;)I"⟩ ⟨"RoadPlugs$Stepper", "askAll", "(LRoadPlugs$World;LRoadPlugs$Site;)I"⟩ ∈ zk_tbl := zk_in3 lw_privs_12_q (by decide +kernel)
theorem ts_13 : Cond.selects "RoadPlugs$Stepper" ⟨"RoadPlugs$Stepper", "shareByComing", "(LRoadPlugs$World;LRoadPlugs$Site;)V"⟩ ⟨"RoadPlugs$Stepper", "shareByComing", "(LRoadPlugs$World;LRoadPlugs$Site;)V"⟩ ∈ zk_tbl := zk_in3 lw_privs_13_q (by decide +kernel)
theorem ts_14 : Cond.selects "RoadPlugs$Stepper" ⟨"RoadPlugs$Stepper", "firstUnserved", "(LRoadPlugs$World;LRoadPlugs$Site;)I"⟩ ⟨"RoadPlugs$Stepper", "firstUnserved", "(LRoadPlugs$World;LRoadPlugs$Site;)I"⟩ ∈ zk_tbl := zk_in3 lw_privs_14_q (by decide +kernel)
theorem ts_15 : Cond.selects "RoadPlugs$Stepper" ⟨"RoadPlugs$Stepper", "shareEvenly", "(LRoadPlugs$Site;I)V"⟩ ⟨"RoadPlugs$Stepper", "shareEvenly", "(LRoadPlugs$Site;I)V"⟩ ∈ zk_tbl := zk_in3 lw_privs_15_q (by decide +kernel)
theorem ts_16 : Cond.selects "RoadPlugs$Stepper" ⟨"RoadPlugs$Stepper", "chargeAll", "(LRoadPlugs$World;LRoadPlugs$Site;)V"⟩ ⟨"RoadPlugs$Stepper", "chargeAll", "(LRoadPlugs$World;LRoadPlugs$Site;)V"⟩ ∈ zk_tbl := zk_in3 lw_privs_16_q (by decide +kernel)
theorem ts_17 : Cond.selects "RoadPlugs$Stepper" ⟨"RoadPlugs$Stepper", "partAll", "(LRoadPlugs$World;LRoadPlugs$Site;)V"⟩ ⟨"RoadPlugs$Stepper", "partAll", "(LRoadPlugs$World;LRoadPlugs$Site;)V"⟩ ∈ zk_tbl := zk_in3 lw_privs_17_q (by decide +kernel)
theorem ts_18 : Cond.selects "RoadPlugs$Adviser" ⟨"RoadPlugs$Adviser", "leastTold", "(LRoadPlugs$World;LRoadPlugs$Car;I)I"⟩ ⟨"RoadPlugs$Adviser", "leastTold", "(LRoadPlugs$World;LRoadPlugs$Car;I)I"⟩ ∈ zk_tbl := zk_in3 lw_privs_18_q (by decide +kernel)
theorem ts_19 : Cond.selects "RoadPlugs$Joiner" ⟨"RoadPlugs$Joiner", "scorePairs", "(LRoadPlugs$Book;LRoadPlugs$Book;I)V"⟩ ⟨"RoadPlugs$Joiner", "scorePairs", "(LRoadPlugs$Book;LRoadPlugs$Book;I)V"⟩ ∈ zk_tbl := zk_in3 lw_privs_19_q (by decide +kernel)
theorem ts_2 : Cond.selects "RoadPlugs$Planner" ⟨"RoadPlugs$Planner", "fillCosts", "(LRoadPlugs$World;LRoadPlugs$Car;I)V"⟩ ⟨"RoadPlugs$Planner", "fillCosts", "(LRoadPlugs$World;LRoadPlugs$Car;I)V"⟩ ∈ zk_tbl := zk_in3 lw_privs_2_q (by decide +kernel)
theorem ts_20 : Cond.selects "RoadPlugs$Joiner" ⟨"RoadPlugs$Joiner", "bestFrom", "(III)I"⟩ ⟨"RoadPlugs$Joiner", "bestFrom", "(III)I"⟩ ∈ zk_tbl := zk_in3 lw_privs_20_q (by decide +kernel)
theorem ts_21 : Cond.selects "RoadPlugs$Joiner" ⟨"RoadPlugs$Joiner", "isFree", "(III)Z"⟩ ⟨"RoadPlugs$Joiner", "isFree", "(III)Z"⟩ ∈ zk_tbl := zk_in3 lw_privs_21_q (by decide +kernel)
theorem ts_22 : Cond.selects "RoadPlugs$Joiner" ⟨"RoadPlugs$Joiner", "followBest", "(II)V"⟩ ⟨"RoadPlugs$Joiner", "followBest", "(II)V"⟩ ∈ zk_tbl := zk_in3 lw_privs_22_q (by decide +kernel)
theorem ts_23 : Cond.selects "RoadPlugsModel" ⟨"RoadPlugsModel", "isSite", "(I)Z"⟩ ⟨"RoadPlugsModel", "isSite", "(I)Z"⟩ ∈ zk_tbl := zk_in3 lw_privs_23_q (by decide +kernel)
theorem ts_24 : Cond.selects "RoadPlugsModel" ⟨"RoadPlugsModel", "isCar", "(I)Z"⟩ ⟨"RoadPlugsModel", "isCar", "(I)Z"⟩ ∈ zk_tbl := zk_in3 lw_privs_24_q (by decide +kernel)
theorem ts_25 : Cond.selects "RoadPlugsModel" ⟨"RoadPlugsModel", "chargeFor", "(II)I"⟩ ⟨"RoadPlugsModel", "chargeFor", "(II)I"⟩ ∈ zk_tbl := zk_in3 lw_privs_25_q (by decide +kernel)
theorem ts_26 : Cond.selects "RoadPlugsModel" ⟨"RoadPlugsModel", "get", "(II)I"⟩ ⟨"RoadPlugsModel", "get", "(II)I"⟩ ∈ zk_tbl := zk_in3 lw_privs_26_q (by decide +kernel)
theorem ts_27 : Cond.selects "RoadPlugsModel" ⟨"RoadPlugsModel", "isPlug", "(I)Z"⟩ ⟨"RoadPlugsModel", "isPlug", "(I)Z"⟩ ∈ zk_tbl := zk_in3 lw_privs_27_q (by decide +kernel)
theorem ts_28 : Cond.selects "RoadPlugsModel" ⟨"RoadPlugsModel", "gainOf", "(III)I"⟩ ⟨"RoadPlugsModel", "gainOf", "(III)I"⟩ ∈ zk_tbl := zk_in3 lw_privs_28_q (by decide +kernel)
theorem ts_29 : Cond.selects "RoadPlugsModel" ⟨"RoadPlugsModel", "placeOf", "(I)I"⟩ ⟨"RoadPlugsModel", "placeOf", "(I)I"⟩ ∈ zk_tbl := zk_in3 lw_privs_29_q (by decide +kernel)
theorem ts_3 : Cond.selects "RoadPlugs$Planner" ⟨"RoadPlugs$Planner", "costToLeave", "(II)I"⟩ ⟨"RoadPlugs$Planner", "costToLeave", "(II)I"⟩ ∈ zk_tbl := zk_in3 lw_privs_3_q (by decide +kernel)
theorem ts_30 : Cond.selects "RoadPlugsModel" ⟨"RoadPlugsModel", "addTry", "(IIZ)V"⟩ ⟨"RoadPlugsModel", "addTry", "(IIZ)V"⟩ ∈ zk_tbl := zk_in3 lw_privs_30_q (by decide +kernel)
theorem ts_31 : Cond.selects "RoadPlugsModel" ⟨"RoadPlugsModel", "latestTry", "(II)I"⟩ ⟨"RoadPlugsModel", "latestTry", "(II)I"⟩ ∈ zk_tbl := zk_in3 lw_privs_31_q (by decide +kernel)
theorem ts_32 : Cond.selects "RoadPlugsModel" ⟨"RoadPlugsModel", "isBroken", "(I)Z"⟩ ⟨"RoadPlugsModel", "isBroken", "(I)Z"⟩ ∈ zk_tbl := zk_in3 lw_privs_32_q (by decide +kernel)
theorem ts_33 : Cond.selects "RoadPlugsModel" ⟨"RoadPlugsModel", "weighTrip", "(III)Z"⟩ ⟨"RoadPlugsModel", "weighTrip", "(III)Z"⟩ ∈ zk_tbl := zk_in3 lw_privs_33_q (by decide +kernel)
theorem ts_34 : Cond.selects "RoadPlugsModel" ⟨"RoadPlugsModel", "findWay", "(III)V"⟩ ⟨"RoadPlugsModel", "findWay", "(III)V"⟩ ∈ zk_tbl := zk_in3 lw_privs_34_q (by decide +kernel)
theorem ts_35 : Cond.selects "RoadPlugsModel" ⟨"RoadPlugsModel", "serving", "(II)I"⟩ ⟨"RoadPlugsModel", "serving", "(II)I"⟩ ∈ zk_tbl := zk_in3 lw_privs_35_q (by decide +kernel)
theorem ts_36 : Cond.selects "RoadPlugsModel" ⟨"RoadPlugsModel", "weighPlace", "(III)V"⟩ ⟨"RoadPlugsModel", "weighPlace", "(III)V"⟩ ∈ zk_tbl := zk_in3 lw_privs_36_q (by decide +kernel)
theorem ts_37 : Cond.selects "RoadPlugsModel" ⟨"RoadPlugsModel", "goOn", "(III)V"⟩ ⟨"RoadPlugsModel", "goOn", "(III)V"⟩ ∈ zk_tbl := zk_in3 lw_privs_37_q (by decide +kernel)
theorem ts_38 : Cond.selects "RoadPlugsModel" ⟨"RoadPlugsModel", "advance", "()V"⟩ ⟨"RoadPlugsModel", "advance", "()V"⟩ ∈ zk_tbl := zk_in3 lw_privs_38_q (by decide +kernel)
theorem ts_39 : Cond.selects "RoadPlugsModel" ⟨"RoadPlugsModel", "isGood", "()Z"⟩ ⟨"RoadPlugsModel", "isGood", "()Z"⟩ ∈ zk_tbl := zk_in3 lw_privs_39_q (by decide +kernel)
theorem ts_4 : Cond.selects "RoadPlugs$Planner" ⟨"RoadPlugs$Planner", "followTrip", "(LRoadPlugs$World;LRoadPlugs$Car;)V"⟩ ⟨"RoadPlugs$Planner", "followTrip", "(LRoadPlugs$World;LRoadPlugs$Car;)V"⟩ ∈ zk_tbl := zk_in3 lw_privs_4_q (by decide +kernel)
theorem ts_40 : Cond.selects "RoadPlugsModel" ⟨"RoadPlugsModel", "isWord", "(I)Z"⟩ ⟨"RoadPlugsModel", "isWord", "(I)Z"⟩ ∈ zk_tbl := zk_in3 lw_privs_40_q (by decide +kernel)
theorem ts_41 : Cond.selects "RoadPlugsModel" ⟨"RoadPlugsModel", "wrong", "()V"⟩ ⟨"RoadPlugsModel", "wrong", "()V"⟩ ∈ zk_tbl := zk_in3 lw_privs_41_q (by decide +kernel)
theorem ts_42 : Cond.selects "RoadPlugsModel" ⟨"RoadPlugsModel", "wantShare", "(I)V"⟩ ⟨"RoadPlugsModel", "wantShare", "(I)V"⟩ ∈ zk_tbl := zk_in3 lw_privs_42_q (by decide +kernel)
theorem ts_43 : Cond.selects "RoadPlugsModel" ⟨"RoadPlugsModel", "wantNumber", "()I"⟩ ⟨"RoadPlugsModel", "wantNumber", "()I"⟩ ∈ zk_tbl := zk_in3 lw_privs_43_q (by decide +kernel)
theorem ts_44 : Cond.selects "RoadPlugsModel" ⟨"RoadPlugsModel", "want", "(II)V"⟩ ⟨"RoadPlugsModel", "want", "(II)V"⟩ ∈ zk_tbl := zk_in3 lw_privs_44_q (by decide +kernel)
theorem ts_45 : Cond.selects "RoadPlugsModel" ⟨"RoadPlugsModel", "put", "(III)V"⟩ ⟨"RoadPlugsModel", "put", "(III)V"⟩ ∈ zk_tbl := zk_in3 lw_privs_45_q (by decide +kernel)
theorem ts_46 : Cond.selects "RoadPlugsModel" ⟨"RoadPlugsModel", "toQueue", "(IIZ)V"⟩ ⟨"RoadPlugsModel", "toQueue", "(IIZ)V"⟩ ∈ zk_tbl := zk_in3 lw_privs_46_q (by decide +kernel)
theorem ts_47 : Cond.selects "RoadPlugsModel" ⟨"RoadPlugsModel", "goAway", "(I)V"⟩ ⟨"RoadPlugsModel", "goAway", "(I)V"⟩ ∈ zk_tbl := zk_in3 lw_privs_47_q (by decide +kernel)
theorem ts_48 : Cond.selects "RoadPlugsModel" ⟨"RoadPlugsModel", "fromQueue", "(I)V"⟩ ⟨"RoadPlugsModel", "fromQueue", "(I)V"⟩ ∈ zk_tbl := zk_in3 lw_privs_48_q (by decide +kernel)
theorem ts_49 : Cond.selects "RoadPlugsModel" ⟨"RoadPlugsModel", "more", "(III)V"⟩ ⟨"RoadPlugsModel", "more", "(III)V"⟩ ∈ zk_tbl := zk_in3 lw_privs_49_q (by decide +kernel)
theorem ts_5 : Cond.selects "RoadPlugs$Tape" ⟨"RoadPlugs$Tape", "nextToken", "()V"⟩ ⟨"RoadPlugs$Tape", "nextToken", "()V"⟩ ∈ zk_tbl := zk_in3 lw_privs_5_q (by decide +kernel)
theorem ts_50 : Cond.selects "RoadPlugsModel" ⟨"RoadPlugsModel", "tick", "(I)I"⟩ ⟨"RoadPlugsModel", "tick", "(I)I"⟩ ∈ zk_tbl := zk_in3 lw_privs_50_q (by decide +kernel)
theorem ts_51 : Cond.selects "RoadPlugsModel" ⟨"RoadPlugsModel", "takes", "(I)V"⟩ ⟨"RoadPlugsModel", "takes", "(I)V"⟩ ∈ zk_tbl := zk_in3 lw_privs_51_q (by decide +kernel)
theorem ts_52 : Cond.selects "RoadPlugsModel" ⟨"RoadPlugsModel", "firstFor", "(II)I"⟩ ⟨"RoadPlugsModel", "firstFor", "(II)I"⟩ ∈ zk_tbl := zk_in3 lw_privs_52_q (by decide +kernel)
theorem ts_53 : Cond.selects "RoadPlugsModel" ⟨"RoadPlugsModel", "fails", "(I)V"⟩ ⟨"RoadPlugsModel", "fails", "(I)V"⟩ ∈ zk_tbl := zk_in3 lw_privs_53_q (by decide +kernel)
theorem ts_54 : Cond.selects "RoadPlugsModel" ⟨"RoadPlugsModel", "askAll", "(I)I"⟩ ⟨"RoadPlugsModel", "askAll", "(I)I"⟩ ∈ zk_tbl := zk_in3 lw_privs_54_q (by decide +kernel)
theorem ts_55 : Cond.selects "RoadPlugsModel" ⟨"RoadPlugsModel", "even", "(II)V"⟩ ⟨"RoadPlugsModel", "even", "(II)V"⟩ ∈ zk_tbl := zk_in3 lw_privs_55_q (by decide +kernel)
theorem ts_56 : Cond.selects "RoadPlugsModel" ⟨"RoadPlugsModel", "first", "(II)V"⟩ ⟨"RoadPlugsModel", "first", "(II)V"⟩ ∈ zk_tbl := zk_in3 lw_privs_56_q (by decide +kernel)
theorem ts_57 : Cond.selects "RoadPlugsModel" ⟨"RoadPlugsModel", "ends", "(I)V"⟩ ⟨"RoadPlugsModel", "ends", "(I)V"⟩ ∈ zk_tbl := zk_in3 lw_privs_57_q (by decide +kernel)
theorem ts_58 : Cond.selects "RoadPlugsModel" ⟨"RoadPlugsModel", "isWaitedFor", "(II)Z"⟩ ⟨"RoadPlugsModel", "isWaitedFor", "(II)Z"⟩ ∈ zk_tbl := zk_in3 lw_privs_58_q (by decide +kernel)
theorem ts_59 : Cond.selects "RoadPlugsModel" ⟨"RoadPlugsModel", "idles", "(II)V"⟩ ⟨"RoadPlugsModel", "idles", "(II)V"⟩ ∈ zk_tbl := zk_in3 lw_privs_59_q (by decide +kernel)
theorem ts_6 : Cond.selects "RoadPlugs$Tape" ⟨"RoadPlugs$Tape", "parseRule", "()Z"⟩ ⟨"RoadPlugs$Tape", "parseRule", "()Z"⟩ ∈ zk_tbl := zk_in3 lw_privs_6_q (by decide +kernel)
theorem ts_60 : Cond.selects "RoadPlugsModel" ⟨"RoadPlugsModel", "advise", "(IIZ)I"⟩ ⟨"RoadPlugsModel", "advise", "(IIZ)I"⟩ ∈ zk_tbl := zk_in3 lw_privs_60_q (by decide +kernel)
theorem ts_61 : Cond.selects "RoadPlugsModel" ⟨"RoadPlugsModel", "plugsOf", "(I)I"⟩ ⟨"RoadPlugsModel", "plugsOf", "(I)I"⟩ ∈ zk_tbl := zk_in3 lw_privs_61_q (by decide +kernel)
theorem ts_62 : Cond.selects "RoadPlugsModel" ⟨"RoadPlugsModel", "weighBooks", "()V"⟩ ⟨"RoadPlugsModel", "weighBooks", "()V"⟩ ∈ zk_tbl := zk_in3 lw_privs_62_q (by decide +kernel)
theorem ts_63 : Cond.selects "RoadPlugsModel" ⟨"RoadPlugsModel", "pairs", "(III)I"⟩ ⟨"RoadPlugsModel", "pairs", "(III)I"⟩ ∈ zk_tbl := zk_in3 lw_privs_63_q (by decide +kernel)
theorem ts_64 : Cond.selects "RoadPlugsModel" ⟨"RoadPlugsModel", "mayBeOne", "(II)Z"⟩ ⟨"RoadPlugsModel", "mayBeOne", "(II)Z"⟩ ∈ zk_tbl := zk_in3 lw_privs_64_q (by decide +kernel)
theorem ts_65 : Cond.selects "RoadPlugsModel" ⟨"RoadPlugsModel", "unlike", "(II)I"⟩ ⟨"RoadPlugsModel", "unlike", "(II)I"⟩ ∈ zk_tbl := zk_in3 lw_privs_65_q (by decide +kernel)
theorem ts_66 : Cond.selects "RoadPlugsModel" ⟨"RoadPlugsModel", "moveAll", "(Z)V"⟩ ⟨"RoadPlugsModel", "moveAll", "(Z)V"⟩ ∈ zk_tbl := zk_in3 lw_privs_66_q (by decide +kernel)
theorem ts_67 : Cond.selects "RoadPlugsModel" ⟨"RoadPlugsModel", "move", "([IIZ)V"⟩ ⟨"RoadPlugsModel", "move", "([IIZ)V"⟩ ∈ zk_tbl := zk_in3 lw_privs_67_q (by decide +kernel)
theorem ts_7 : Cond.selects "RoadPlugs$Tape" ⟨"RoadPlugs$Tape", "isWord", "(Ljava/lang/String;)Z"⟩ ⟨"RoadPlugs$Tape", "isWord", "(Ljava/lang/String;)Z"⟩ ∈ zk_tbl := zk_in3 lw_privs_7_q (by decide +kernel)
theorem ts_8 : Cond.selects "RoadPlugs$Tape" ⟨"RoadPlugs$Tape", "parseShare", "()Z"⟩ ⟨"RoadPlugs$Tape", "parseShare", "()Z"⟩ ∈ zk_tbl := zk_in3 lw_privs_8_q (by decide +kernel)
theorem ts_9 : Cond.selects "RoadPlugs$Tape" ⟨"RoadPlugs$Tape", "parseNumber", "()I"⟩ ⟨"RoadPlugs$Tape", "parseNumber", "()I"⟩ ∈ zk_tbl := zk_in3 lw_privs_9_q (by decide +kernel)
theorem tw_1 : (Jvm.Cond.initialized "RoadPlugs") ∈ zk_tbl := zk_in 1 (by decide +kernel) rfl
theorem tw_10 : (Jvm.Cond.initialized "RoadPlugs$Stepper") ∈ zk_tbl := zk_in 10 (by decide +kernel) rfl
theorem tw_1000 : (Jvm.Cond.selects "RoadPlugs$Tries" ({ cls := "RoadPlugs$Tries", name := "copyFrom", desc := "(LRoadPlugs$Tries;)V" } : Jvm.MethodName) ({ cls := "RoadPlugs$Tries", name := "copyFrom", desc := "(LRoadPlugs$Tries;)V" } : Jvm.MethodName)) ∈ zk_tbl := zk_in 1000 (by decide +kernel) rfl
theorem tw_1001 : (Jvm.Cond.code ({ cls := "RoadPlugs$Tries", name := "copyFrom", desc := "(LRoadPlugs$Tries;)V" } : Jvm.MethodName) prog_11_method_2_code (2 : Nat) (Option.none : Option Jvm.ClassFile.FieldType)) ∈ zk_tbl := zk_in 1001 (by decide +kernel) rfl
theorem tw_1002 : (Jvm.Cond.methodLink "RoadPlugs$Tries" (24 : Nat) ({ cls := "java/lang/System", name := "arraycopy", desc := "(Ljava/lang/Object;ILjava/lang/Object;II)V" } : Jvm.MethodName)) ∈ zk_tbl := zk_in 1002 (by decide +kernel) rfl
theorem tw_1003 : (Jvm.Cond.methodLink "RoadPlugs$World" (72 : Nat) ({ cls := "RoadPlugs$Book", name := "copyFrom", desc := "(LRoadPlugs$Book;)V" } : Jvm.MethodName)) ∈ zk_tbl := zk_in 1003 (by decide +kernel) rfl
theorem tw_1004 : (Jvm.Cond.instanceMethod ({ cls := "RoadPlugs$Book", name := "copyFrom", desc := "(LRoadPlugs$Book;)V" } : Jvm.MethodName)) ∈ zk_tbl := zk_in 1004 (by decide +kernel) rfl
theorem tw_1005 : (Jvm.Cond.selects "RoadPlugs$Book" ({ cls := "RoadPlugs$Book", name := "copyFrom", desc := "(LRoadPlugs$Book;)V" } : Jvm.MethodName) ({ cls := "RoadPlugs$Book", name := "copyFrom", desc := "(LRoadPlugs$Book;)V" } : Jvm.MethodName)) ∈ zk_tbl := zk_in 1005 (by decide +kernel) rfl
theorem tw_1006 : (Jvm.Cond.code ({ cls := "RoadPlugs$Book", name := "copyFrom", desc := "(LRoadPlugs$Book;)V" } : Jvm.MethodName) prog_3_method_2_code (2 : Nat) (Option.none : Option Jvm.ClassFile.FieldType)) ∈ zk_tbl := zk_in 1006 (by decide +kernel) rfl
theorem tw_1007 : (Jvm.Cond.methodLink "RoadPlugs$Book" (21 : Nat) ({ cls := "java/lang/System", name := "arraycopy", desc := "(Ljava/lang/Object;ILjava/lang/Object;II)V" } : Jvm.MethodName)) ∈ zk_tbl := zk_in 1007 (by decide +kernel) rfl
theorem tw_1011 : (Jvm.Cond.code ({ cls := "RoadPlugs", name := "back", desc := "()I" } : Jvm.MethodName) prog_1_method_29_code (1 : Nat) (Option.some Jvm.ClassFile.FieldType.int)) ∈ zk_tbl := zk_in 1011 (by decide +kernel) rfl
theorem tw_11 : (Jvm.Cond.initialized "RoadPlugs$Adviser") ∈ zk_tbl := zk_in 11 (by decide +kernel) rfl
theorem tw_1121 : (Jvm.Cond.code ({ cls := "RoadPlugsModel", name := "site", desc := "(II)I" } : Jvm.MethodName) prog_14_method_6_code (6 : Nat) (Option.some Jvm.ClassFile.FieldType.int)) ∈ zk_tbl := zk_in 1121 (by decide +kernel) rfl
theorem tw_1122 : (Jvm.Cond.methodLink "RoadPlugsModel" (76 : Nat) ({ cls := "RoadPlugsModel", name := "in", desc := "(III)Z" } : Jvm.MethodName)) ∈ zk_tbl := zk_in 1122 (by decide +kernel) rfl
theorem tw_1123 : (Jvm.Cond.static ({ cls := "RoadPlugsModel", name := "in", desc := "(III)Z" } : Jvm.MethodName)) ∈ zk_tbl := zk_in 1123 (by decide +kernel) rfl
theorem tw_1124 : (Jvm.Cond.code ({ cls := "RoadPlugsModel", name := "in", desc := "(III)Z" } : Jvm.MethodName) prog_14_method_2_code (3 : Nat) (Option.some Jvm.ClassFile.FieldType.boolean)) ∈ zk_tbl := zk_in 1124 (by decide +kernel) rfl
theorem tw_1128 : (Jvm.Cond.code ({ cls := "RoadPlugsModel", name := "plug", desc := "(III)I" } : Jvm.MethodName) prog_14_method_7_code (5 : Nat) (Option.some Jvm.ClassFile.FieldType.int)) ∈ zk_tbl := zk_in 1128 (by decide +kernel) rfl
theorem tw_1129 : (Jvm.Cond.methodLink "RoadPlugsModel" (80 : Nat) ({ cls := "RoadPlugsModel", name := "isSite", desc := "(I)Z" } : Jvm.MethodName)) ∈ zk_tbl := zk_in 1129 (by decide +kernel) rfl
theorem tw_1131 : (Jvm.Cond.instanceMethod ({ cls := "RoadPlugsModel", name := "isSite", desc := "(I)Z" } : Jvm.MethodName)) ∈ zk_tbl := zk_in 1131 (by decide +kernel) rfl
theorem tw_1132 : (Jvm.Cond.code ({ cls := "RoadPlugsModel", name := "isSite", desc := "(I)Z" } : Jvm.MethodName) prog_14_method_3_code (2 : Nat) (Option.some Jvm.ClassFile.FieldType.boolean)) ∈ zk_tbl := zk_in 1132 (by decide +kernel) rfl
theorem tw_1136 : (Jvm.Cond.code ({ cls := "RoadPlugsModel", name := "car", desc := "(IIIII)I" } : Jvm.MethodName) prog_14_method_8_code (9 : Nat) (Option.some Jvm.ClassFile.FieldType.int)) ∈ zk_tbl := zk_in 1136 (by decide +kernel) rfl
theorem tw_1140 : (Jvm.Cond.code ({ cls := "RoadPlugsModel", name := "set", desc := "(II)I" } : Jvm.MethodName) prog_14_method_9_code (4 : Nat) (Option.some Jvm.ClassFile.FieldType.int)) ∈ zk_tbl := zk_in 1140 (by decide +kernel) rfl
theorem tw_1144 : (Jvm.Cond.code ({ cls := "RoadPlugsModel", name := "drive", desc := "(III)I" } : Jvm.MethodName) prog_14_method_15_code (4 : Nat) (Option.some Jvm.ClassFile.FieldType.int)) ∈ zk_tbl := zk_in 1144 (by decide +kernel) rfl
theorem tw_1145 : (Jvm.Cond.methodLink "RoadPlugsModel" (88 : Nat) ({ cls := "RoadPlugsModel", name := "isCar", desc := "(I)Z" } : Jvm.MethodName)) ∈ zk_tbl := zk_in 1145 (by decide +kernel) rfl
theorem tw_1147 : (Jvm.Cond.instanceMethod ({ cls := "RoadPlugsModel", name := "isCar", desc := "(I)Z" } : Jvm.MethodName)) ∈ zk_tbl := zk_in 1147 (by decide +kernel) rfl
theorem tw_1148 : (Jvm.Cond.code ({ cls := "RoadPlugsModel", name := "isCar", desc := "(I)Z" } : Jvm.MethodName) prog_14_method_5_code (2 : Nat) (Option.some Jvm.ClassFile.FieldType.boolean)) ∈ zk_tbl := zk_in 1148 (by decide +kernel) rfl
theorem tw_1149 : (Jvm.Cond.methodLink "RoadPlugsModel" (91 : Nat) ({ cls := "RoadPlugsModel", name := "ticksFor", desc := "(I)I" } : Jvm.MethodName)) ∈ zk_tbl := zk_in 1149 (by decide +kernel) rfl
theorem tw_1150 : (Jvm.Cond.static ({ cls := "RoadPlugsModel", name := "ticksFor", desc := "(I)I" } : Jvm.MethodName)) ∈ zk_tbl := zk_in 1150 (by decide +kernel) rfl
theorem tw_1151 : (Jvm.Cond.code ({ cls := "RoadPlugsModel", name := "ticksFor", desc := "(I)I" } : Jvm.MethodName) prog_14_method_13_code (1 : Nat) (Option.some Jvm.ClassFile.FieldType.int)) ∈ zk_tbl := zk_in 1151 (by decide +kernel) rfl
theorem tw_1152 : (Jvm.Cond.methodLink "RoadPlugsModel" (95 : Nat) ({ cls := "RoadPlugsModel", name := "chargeFor", desc := "(II)I" } : Jvm.MethodName)) ∈ zk_tbl := zk_in 1152 (by decide +kernel) rfl
theorem tw_1154 : (Jvm.Cond.instanceMethod ({ cls := "RoadPlugsModel", name := "chargeFor", desc := "(II)I" } : Jvm.MethodName)) ∈ zk_tbl := zk_in 1154 (by decide +kernel) rfl
theorem tw_1155 : (Jvm.Cond.code ({ cls := "RoadPlugsModel", name := "chargeFor", desc := "(II)I" } : Jvm.MethodName) prog_14_method_14_code (3 : Nat) (Option.some Jvm.ClassFile.FieldType.int)) ∈ zk_tbl := zk_in 1155 (by decide +kernel) rfl
theorem tw_1156 : (Jvm.Cond.methodLink "RoadPlugsModel" (84 : Nat) ({ cls := "RoadPlugsModel", name := "get", desc := "(II)I" } : Jvm.MethodName)) ∈ zk_tbl := zk_in 1156 (by decide +kernel) rfl
theorem tw_1158 : (Jvm.Cond.instanceMethod ({ cls := "RoadPlugsModel", name := "get", desc := "(II)I" } : Jvm.MethodName)) ∈ zk_tbl := zk_in 1158 (by decide +kernel) rfl
theorem tw_1159 : (Jvm.Cond.code ({ cls := "RoadPlugsModel", name := "get", desc := "(II)I" } : Jvm.MethodName) prog_14_method_10_code (3 : Nat) (Option.some Jvm.ClassFile.FieldType.int)) ∈ zk_tbl := zk_in 1159 (by decide +kernel) rfl
theorem tw_1163 : (Jvm.Cond.code ({ cls := "RoadPlugsModel", name := "gain", desc := "(III)I" } : Jvm.MethodName) prog_14_method_17_code (4 : Nat) (Option.some Jvm.ClassFile.FieldType.int)) ∈ zk_tbl := zk_in 1163 (by decide +kernel) rfl
theorem tw_1164 : (Jvm.Cond.methodLink "RoadPlugsModel" (98 : Nat) ({ cls := "RoadPlugsModel", name := "isPlug", desc := "(I)Z" } : Jvm.MethodName)) ∈ zk_tbl := zk_in 1164 (by decide +kernel) rfl
theorem tw_1166 : (Jvm.Cond.instanceMethod ({ cls := "RoadPlugsModel", name := "isPlug", desc := "(I)Z" } : Jvm.MethodName)) ∈ zk_tbl := zk_in 1166 (by decide +kernel) rfl
theorem tw_1167 : (Jvm.Cond.code ({ cls := "RoadPlugsModel", name := "isPlug", desc := "(I)Z" } : Jvm.MethodName) prog_14_method_4_code (2 : Nat) (Option.some Jvm.ClassFile.FieldType.boolean)) ∈ zk_tbl := zk_in 1167 (by decide +kernel) rfl
theorem tw_1168 : (Jvm.Cond.methodLink "RoadPlugsModel" (101 : Nat) ({ cls := "RoadPlugsModel", name := "gainOf", desc := "(III)I" } : Jvm.MethodName)) ∈ zk_tbl := zk_in 1168 (by decide +kernel) rfl
theorem tw_1170 : (Jvm.Cond.instanceMethod ({ cls := "RoadPlugsModel", name := "gainOf", desc := "(III)I" } : Jvm.MethodName)) ∈ zk_tbl := zk_in 1170 (by decide +kernel) rfl
theorem tw_1171 : (Jvm.Cond.code ({ cls := "RoadPlugsModel", name := "gainOf", desc := "(III)I" } : Jvm.MethodName) prog_14_method_16_code (8 : Nat) (Option.some Jvm.ClassFile.FieldType.int)) ∈ zk_tbl := zk_in 1171 (by decide +kernel) rfl
theorem tw_1175 : (Jvm.Cond.code ({ cls := "RoadPlugsModel", name := "of", desc := "(II)I" } : Jvm.MethodName) prog_14_method_19_code (3 : Nat) (Option.some Jvm.ClassFile.FieldType.int)) ∈ zk_tbl := zk_in 1175 (by decide +kernel) rfl
theorem tw_1176 : (Jvm.Cond.methodLink "RoadPlugsModel" (105 : Nat) ({ cls := "RoadPlugsModel", name := "placeOf", desc := "(I)I" } : Jvm.MethodName)) ∈ zk_tbl := zk_in 1176 (by decide +kernel) rfl
theorem tw_1178 : (Jvm.Cond.instanceMethod ({ cls := "RoadPlugsModel", name := "placeOf", desc := "(I)I" } : Jvm.MethodName)) ∈ zk_tbl := zk_in 1178 (by decide +kernel) rfl
theorem tw_1179 : (Jvm.Cond.code ({ cls := "RoadPlugsModel", name := "placeOf", desc := "(I)I" } : Jvm.MethodName) prog_14_method_18_code (4 : Nat) (Option.some Jvm.ClassFile.FieldType.int)) ∈ zk_tbl := zk_in 1179 (by decide +kernel) rfl
theorem tw_1183 : (Jvm.Cond.code ({ cls := "RoadPlugsModel", name := "says", desc := "(IZ)I" } : Jvm.MethodName) prog_14_method_23_code (5 : Nat) (Option.some Jvm.ClassFile.FieldType.int)) ∈ zk_tbl := zk_in 1183 (by decide +kernel) rfl
theorem tw_1187 : (Jvm.Cond.code ({ cls := "RoadPlugsModel", name := "tried", desc := "(IIZ)I" } : Jvm.MethodName) prog_14_method_24_code (4 : Nat) (Option.some Jvm.ClassFile.FieldType.int)) ∈ zk_tbl := zk_in 1187 (by decide +kernel) rfl
theorem tw_1188 : (Jvm.Cond.methodLink "RoadPlugsModel" (111 : Nat) ({ cls := "RoadPlugsModel", name := "addTry", desc := "(IIZ)V" } : Jvm.MethodName)) ∈ zk_tbl := zk_in 1188 (by decide +kernel) rfl
theorem tw_1190 : (Jvm.Cond.instanceMethod ({ cls := "RoadPlugsModel", name := "addTry", desc := "(IIZ)V" } : Jvm.MethodName)) ∈ zk_tbl := zk_in 1190 (by decide +kernel) rfl
theorem tw_1191 : (Jvm.Cond.code ({ cls := "RoadPlugsModel", name := "addTry", desc := "(IIZ)V" } : Jvm.MethodName) prog_14_method_22_code (5 : Nat) (Option.none : Option Jvm.ClassFile.FieldType)) ∈ zk_tbl := zk_in 1191 (by decide +kernel) rfl
theorem tw_1195 : (Jvm.Cond.code ({ cls := "RoadPlugsModel", name := "tryOf", desc := "(II)I" } : Jvm.MethodName) prog_14_method_25_code (3 : Nat) (Option.some Jvm.ClassFile.FieldType.int)) ∈ zk_tbl := zk_in 1195 (by decide +kernel) rfl
theorem tw_1199 : (Jvm.Cond.code ({ cls := "RoadPlugsModel", name := "lies", desc := "()I" } : Jvm.MethodName) prog_14_method_26_code (6 : Nat) (Option.some Jvm.ClassFile.FieldType.int)) ∈ zk_tbl := zk_in 1199 (by decide +kernel) rfl
theorem tw_12 : (Jvm.Cond.initialized "RoadPlugs$Joiner") ∈ zk_tbl := zk_in 12 (by decide +kernel) rfl
theorem tw_1200 : (Jvm.Cond.methodLink "RoadPlugsModel" (108 : Nat) ({ cls := "RoadPlugsModel", name := "latestTry", desc := "(II)I" } : Jvm.MethodName)) ∈ zk_tbl := zk_in 1200 (by decide +kernel) rfl
theorem tw_1202 : (Jvm.Cond.instanceMethod ({ cls := "RoadPlugsModel", name := "latestTry", desc := "(II)I" } : Jvm.MethodName)) ∈ zk_tbl := zk_in 1202 (by decide +kernel) rfl
theorem tw_1203 : (Jvm.Cond.code ({ cls := "RoadPlugsModel", name := "latestTry", desc := "(II)I" } : Jvm.MethodName) prog_14_method_20_code (4 : Nat) (Option.some Jvm.ClassFile.FieldType.int)) ∈ zk_tbl := zk_in 1203 (by decide +kernel) rfl
theorem tw_1204 : (Jvm.Cond.methodLink "RoadPlugsModel" (115 : Nat) ({ cls := "RoadPlugsModel", name := "isBroken", desc := "(I)Z" } : Jvm.MethodName)) ∈ zk_tbl := zk_in 1204 (by decide +kernel) rfl
theorem tw_1206 : (Jvm.Cond.instanceMethod ({ cls := "RoadPlugsModel", name := "isBroken", desc := "(I)Z" } : Jvm.MethodName)) ∈ zk_tbl := zk_in 1206 (by decide +kernel) rfl
theorem tw_1207 : (Jvm.Cond.code ({ cls := "RoadPlugsModel", name := "isBroken", desc := "(I)Z" } : Jvm.MethodName) prog_14_method_21_code (5 : Nat) (Option.some Jvm.ClassFile.FieldType.boolean)) ∈ zk_tbl := zk_in 1207 (by decide +kernel) rfl
theorem tw_1211 : (Jvm.Cond.code ({ cls := "RoadPlugsModel", name := "trip", desc := "(IIII)I" } : Jvm.MethodName) prog_14_method_32_code (9 : Nat) (Option.some Jvm.ClassFile.FieldType.int)) ∈ zk_tbl := zk_in 1211 (by decide +kernel) rfl
theorem tw_1212 : (Jvm.Cond.methodLink "RoadPlugsModel" (142 : Nat) ({ cls := "RoadPlugsModel", name := "weighTrip", desc := "(III)Z" } : Jvm.MethodName)) ∈ zk_tbl := zk_in 1212 (by decide +kernel) rfl
theorem tw_1214 : (Jvm.Cond.instanceMethod ({ cls := "RoadPlugsModel", name := "weighTrip", desc := "(III)Z" } : Jvm.MethodName)) ∈ zk_tbl := zk_in 1214 (by decide +kernel) rfl
theorem tw_1215 : (Jvm.Cond.code ({ cls := "RoadPlugsModel", name := "weighTrip", desc := "(III)Z" } : Jvm.MethodName) prog_14_method_31_code (6 : Nat) (Option.some Jvm.ClassFile.FieldType.boolean)) ∈ zk_tbl := zk_in 1215 (by decide +kernel) rfl
theorem tw_1216 : (Jvm.Cond.methodLink "RoadPlugsModel" (136 : Nat) ({ cls := "RoadPlugsModel", name := "findWay", desc := "(III)V" } : Jvm.MethodName)) ∈ zk_tbl := zk_in 1216 (by decide +kernel) rfl
theorem tw_1218 : (Jvm.Cond.instanceMethod ({ cls := "RoadPlugsModel", name := "findWay", desc := "(III)V" } : Jvm.MethodName)) ∈ zk_tbl := zk_in 1218 (by decide +kernel) rfl
theorem tw_1219 : (Jvm.Cond.code ({ cls := "RoadPlugsModel", name := "findWay", desc := "(III)V" } : Jvm.MethodName) prog_14_method_28_code (6 : Nat) (Option.none : Option Jvm.ClassFile.FieldType)) ∈ zk_tbl := zk_in 1219 (by decide +kernel) rfl
theorem tw_1220 : (Jvm.Cond.methodLink "RoadPlugsModel" (122 : Nat) ({ cls := "RoadPlugsModel", name := "serving", desc := "(II)I" } : Jvm.MethodName)) ∈ zk_tbl := zk_in 1220 (by decide +kernel) rfl
theorem tw_1222 : (Jvm.Cond.instanceMethod ({ cls := "RoadPlugsModel", name := "serving", desc := "(II)I" } : Jvm.MethodName)) ∈ zk_tbl := zk_in 1222 (by decide +kernel) rfl
theorem tw_1223 : (Jvm.Cond.code ({ cls := "RoadPlugsModel", name := "serving", desc := "(II)I" } : Jvm.MethodName) prog_14_method_27_code (5 : Nat) (Option.some Jvm.ClassFile.FieldType.int)) ∈ zk_tbl := zk_in 1223 (by decide +kernel) rfl
theorem tw_1224 : (Jvm.Cond.methodLink "RoadPlugsModel" (139 : Nat) ({ cls := "RoadPlugsModel", name := "weighPlace", desc := "(III)V" } : Jvm.MethodName)) ∈ zk_tbl := zk_in 1224 (by decide +kernel) rfl
theorem tw_1226 : (Jvm.Cond.instanceMethod ({ cls := "RoadPlugsModel", name := "weighPlace", desc := "(III)V" } : Jvm.MethodName)) ∈ zk_tbl := zk_in 1226 (by decide +kernel) rfl
theorem tw_1227 : (Jvm.Cond.code ({ cls := "RoadPlugsModel", name := "weighPlace", desc := "(III)V" } : Jvm.MethodName) prog_14_method_30_code (10 : Nat) (Option.none : Option Jvm.ClassFile.FieldType)) ∈ zk_tbl := zk_in 1227 (by decide +kernel) rfl
theorem tw_1228 : (Jvm.Cond.methodLink "RoadPlugsModel" (132 : Nat) ({ cls := "RoadPlugsModel", name := "goOn", desc := "(III)V" } : Jvm.MethodName)) ∈ zk_tbl := zk_in 1228 (by decide +kernel) rfl
theorem tw_1230 : (Jvm.Cond.instanceMethod ({ cls := "RoadPlugsModel", name := "goOn", desc := "(III)V" } : Jvm.MethodName)) ∈ zk_tbl := zk_in 1230 (by decide +kernel) rfl
theorem tw_1231 : (Jvm.Cond.code ({ cls := "RoadPlugsModel", name := "goOn", desc := "(III)V" } : Jvm.MethodName) prog_14_method_29_code (7 : Nat) (Option.none : Option Jvm.ClassFile.FieldType)) ∈ zk_tbl := zk_in 1231 (by decide +kernel) rfl
theorem tw_1232 : (Jvm.Cond.constant "RoadPlugsModel" (125 : Nat) (1000000 : Int32)) ∈ zk_tbl := zk_in 1232 (by decide +kernel) rfl
theorem tw_1236 : (Jvm.Cond.code ({ cls := "RoadPlugsModel", name := "feed", desc := "(JI)I" } : Jvm.MethodName) prog_14_method_33_code (5 : Nat) (Option.some Jvm.ClassFile.FieldType.int)) ∈ zk_tbl := zk_in 1236 (by decide +kernel) rfl
theorem tw_1237 : (Jvm.Cond.constantLong "RoadPlugsModel" (148 : Nat) (255 : Int64)) ∈ zk_tbl := zk_in 1237 (by decide +kernel) rfl
theorem tw_1241 : (Jvm.Cond.code ({ cls := "RoadPlugsModel", name := "read", desc := "(I)I" } : Jvm.MethodName) prog_14_method_43_code (6 : Nat) (Option.some Jvm.ClassFile.FieldType.int)) ∈ zk_tbl := zk_in 1241 (by decide +kernel) rfl
theorem tw_1242 : (Jvm.Cond.methodLink "RoadPlugsModel" (175 : Nat) ({ cls := "RoadPlugsModel", name := "advance", desc := "()V" } : Jvm.MethodName)) ∈ zk_tbl := zk_in 1242 (by decide +kernel) rfl
theorem tw_1244 : (Jvm.Cond.instanceMethod ({ cls := "RoadPlugsModel", name := "advance", desc := "()V" } : Jvm.MethodName)) ∈ zk_tbl := zk_in 1244 (by decide +kernel) rfl
theorem tw_1245 : (Jvm.Cond.code ({ cls := "RoadPlugsModel", name := "advance", desc := "()V" } : Jvm.MethodName) prog_14_method_36_code (2 : Nat) (Option.none : Option Jvm.ClassFile.FieldType)) ∈ zk_tbl := zk_in 1245 (by decide +kernel) rfl
theorem tw_1246 : (Jvm.Cond.methodLink "RoadPlugsModel" (162 : Nat) ({ cls := "RoadPlugsModel", name := "isLetter", desc := "(I)Z" } : Jvm.MethodName)) ∈ zk_tbl := zk_in 1246 (by decide +kernel) rfl
theorem tw_1247 : (Jvm.Cond.static ({ cls := "RoadPlugsModel", name := "isLetter", desc := "(I)Z" } : Jvm.MethodName)) ∈ zk_tbl := zk_in 1247 (by decide +kernel) rfl
theorem tw_1248 : (Jvm.Cond.code ({ cls := "RoadPlugsModel", name := "isLetter", desc := "(I)Z" } : Jvm.MethodName) prog_14_method_34_code (1 : Nat) (Option.some Jvm.ClassFile.FieldType.boolean)) ∈ zk_tbl := zk_in 1248 (by decide +kernel) rfl
theorem tw_1249 : (Jvm.Cond.methodLink "RoadPlugsModel" (165 : Nat) ({ cls := "RoadPlugsModel", name := "isDigit", desc := "(I)Z" } : Jvm.MethodName)) ∈ zk_tbl := zk_in 1249 (by decide +kernel) rfl
theorem tw_1250 : (Jvm.Cond.static ({ cls := "RoadPlugsModel", name := "isDigit", desc := "(I)Z" } : Jvm.MethodName)) ∈ zk_tbl := zk_in 1250 (by decide +kernel) rfl
theorem tw_1251 : (Jvm.Cond.code ({ cls := "RoadPlugsModel", name := "isDigit", desc := "(I)Z" } : Jvm.MethodName) prog_14_method_35_code (1 : Nat) (Option.some Jvm.ClassFile.FieldType.boolean)) ∈ zk_tbl := zk_in 1251 (by decide +kernel) rfl
theorem tw_1252 : (Jvm.Cond.methodLink "RoadPlugsModel" (171 : Nat) ({ cls := "RoadPlugsModel", name := "isGood", desc := "()Z" } : Jvm.MethodName)) ∈ zk_tbl := zk_in 1252 (by decide +kernel) rfl
theorem tw_1254 : (Jvm.Cond.instanceMethod ({ cls := "RoadPlugsModel", name := "isGood", desc := "()Z" } : Jvm.MethodName)) ∈ zk_tbl := zk_in 1254 (by decide +kernel) rfl
theorem tw_1255 : (Jvm.Cond.code ({ cls := "RoadPlugsModel", name := "isGood", desc := "()Z" } : Jvm.MethodName) prog_14_method_37_code (1 : Nat) (Option.some Jvm.ClassFile.FieldType.boolean)) ∈ zk_tbl := zk_in 1255 (by decide +kernel) rfl
theorem tw_1256 : (Jvm.Cond.constant "RoadPlugsModel" (186 : Nat) (10256063 : Int32)) ∈ zk_tbl := zk_in 1256 (by decide +kernel) rfl
theorem tw_1257 : (Jvm.Cond.methodLink "RoadPlugsModel" (182 : Nat) ({ cls := "RoadPlugsModel", name := "isWord", desc := "(I)Z" } : Jvm.MethodName)) ∈ zk_tbl := zk_in 1257 (by decide +kernel) rfl
theorem tw_1259 : (Jvm.Cond.instanceMethod ({ cls := "RoadPlugsModel", name := "isWord", desc := "(I)Z" } : Jvm.MethodName)) ∈ zk_tbl := zk_in 1259 (by decide +kernel) rfl
theorem tw_1260 : (Jvm.Cond.code ({ cls := "RoadPlugsModel", name := "isWord", desc := "(I)Z" } : Jvm.MethodName) prog_14_method_40_code (2 : Nat) (Option.some Jvm.ClassFile.FieldType.boolean)) ∈ zk_tbl := zk_in 1260 (by decide +kernel) rfl
theorem tw_1261 : (Jvm.Cond.constant "RoadPlugsModel" (187 : Nat) (180392 : Int32)) ∈ zk_tbl := zk_in 1261 (by decide +kernel) rfl
theorem tw_1262 : (Jvm.Cond.methodLink "RoadPlugsModel" (178 : Nat) ({ cls := "RoadPlugsModel", name := "wrong", desc := "()V" } : Jvm.MethodName)) ∈ zk_tbl := zk_in 1262 (by decide +kernel) rfl
theorem tw_1264 : (Jvm.Cond.instanceMethod ({ cls := "RoadPlugsModel", name := "wrong", desc := "()V" } : Jvm.MethodName)) ∈ zk_tbl := zk_in 1264 (by decide +kernel) rfl
theorem tw_1265 : (Jvm.Cond.code ({ cls := "RoadPlugsModel", name := "wrong", desc := "()V" } : Jvm.MethodName) prog_14_method_38_code (1 : Nat) (Option.none : Option Jvm.ClassFile.FieldType)) ∈ zk_tbl := zk_in 1265 (by decide +kernel) rfl
theorem tw_1266 : (Jvm.Cond.methodLink "RoadPlugsModel" (188 : Nat) ({ cls := "RoadPlugsModel", name := "wantShare", desc := "(I)V" } : Jvm.MethodName)) ∈ zk_tbl := zk_in 1266 (by decide +kernel) rfl
theorem tw_1268 : (Jvm.Cond.instanceMethod ({ cls := "RoadPlugsModel", name := "wantShare", desc := "(I)V" } : Jvm.MethodName)) ∈ zk_tbl := zk_in 1268 (by decide +kernel) rfl
theorem tw_1269 : (Jvm.Cond.code ({ cls := "RoadPlugsModel", name := "wantShare", desc := "(I)V" } : Jvm.MethodName) prog_14_method_42_code (3 : Nat) (Option.none : Option Jvm.ClassFile.FieldType)) ∈ zk_tbl := zk_in 1269 (by decide +kernel) rfl
theorem tw_1270 : (Jvm.Cond.constant "RoadPlugsModel" (181 : Nat) (3379448 : Int32)) ∈ zk_tbl := zk_in 1270 (by decide +kernel) rfl
theorem tw_1271 : (Jvm.Cond.constant "RoadPlugsModel" (185 : Nat) (114602 : Int32)) ∈ zk_tbl := zk_in 1271 (by decide +kernel) rfl
theorem tw_1272 : (Jvm.Cond.methodLink "RoadPlugsModel" (192 : Nat) ({ cls := "RoadPlugsModel", name := "wantNumber", desc := "()I" } : Jvm.MethodName)) ∈ zk_tbl := zk_in 1272 (by decide +kernel) rfl
theorem tw_1274 : (Jvm.Cond.instanceMethod ({ cls := "RoadPlugsModel", name := "wantNumber", desc := "()I" } : Jvm.MethodName)) ∈ zk_tbl := zk_in 1274 (by decide +kernel) rfl
theorem tw_1275 : (Jvm.Cond.code ({ cls := "RoadPlugsModel", name := "wantNumber", desc := "()I" } : Jvm.MethodName) prog_14_method_39_code (2 : Nat) (Option.some Jvm.ClassFile.FieldType.int)) ∈ zk_tbl := zk_in 1275 (by decide +kernel) rfl
theorem tw_1276 : (Jvm.Cond.constant "RoadPlugsModel" (196 : Nat) (664272 : Int32)) ∈ zk_tbl := zk_in 1276 (by decide +kernel) rfl
theorem tw_1277 : (Jvm.Cond.methodLink "RoadPlugsModel" (197 : Nat) ({ cls := "RoadPlugsModel", name := "want", desc := "(II)V" } : Jvm.MethodName)) ∈ zk_tbl := zk_in 1277 (by decide +kernel) rfl
theorem tw_1279 : (Jvm.Cond.instanceMethod ({ cls := "RoadPlugsModel", name := "want", desc := "(II)V" } : Jvm.MethodName)) ∈ zk_tbl := zk_in 1279 (by decide +kernel) rfl
theorem tw_1280 : (Jvm.Cond.code ({ cls := "RoadPlugsModel", name := "want", desc := "(II)V" } : Jvm.MethodName) prog_14_method_41_code (3 : Nat) (Option.none : Option Jvm.ClassFile.FieldType)) ∈ zk_tbl := zk_in 1280 (by decide +kernel) rfl
theorem tw_1284 : (Jvm.Cond.code ({ cls := "RoadPlugsModel", name := "siteOf", desc := "(II)I" } : Jvm.MethodName) prog_14_method_44_code (3 : Nat) (Option.some Jvm.ClassFile.FieldType.int)) ∈ zk_tbl := zk_in 1284 (by decide +kernel) rfl
theorem tw_1288 : (Jvm.Cond.code ({ cls := "RoadPlugsModel", name := "come", desc := "(IIII)I" } : Jvm.MethodName) prog_14_method_47_code (5 : Nat) (Option.some Jvm.ClassFile.FieldType.int)) ∈ zk_tbl := zk_in 1288 (by decide +kernel) rfl
theorem tw_1289 : (Jvm.Cond.methodLink "RoadPlugsModel" (201 : Nat) ({ cls := "RoadPlugsModel", name := "put", desc := "(III)V" } : Jvm.MethodName)) ∈ zk_tbl := zk_in 1289 (by decide +kernel) rfl
theorem tw_1291 : (Jvm.Cond.instanceMethod ({ cls := "RoadPlugsModel", name := "put", desc := "(III)V" } : Jvm.MethodName)) ∈ zk_tbl := zk_in 1291 (by decide +kernel) rfl
theorem tw_1292 : (Jvm.Cond.code ({ cls := "RoadPlugsModel", name := "put", desc := "(III)V" } : Jvm.MethodName) prog_14_method_11_code (4 : Nat) (Option.none : Option Jvm.ClassFile.FieldType)) ∈ zk_tbl := zk_in 1292 (by decide +kernel) rfl
theorem tw_1293 : (Jvm.Cond.methodLink "RoadPlugsModel" (204 : Nat) ({ cls := "RoadPlugsModel", name := "toQueue", desc := "(IIZ)V" } : Jvm.MethodName)) ∈ zk_tbl := zk_in 1293 (by decide +kernel) rfl
theorem tw_1295 : (Jvm.Cond.instanceMethod ({ cls := "RoadPlugsModel", name := "toQueue", desc := "(IIZ)V" } : Jvm.MethodName)) ∈ zk_tbl := zk_in 1295 (by decide +kernel) rfl
theorem tw_1296 : (Jvm.Cond.code ({ cls := "RoadPlugsModel", name := "toQueue", desc := "(IIZ)V" } : Jvm.MethodName) prog_14_method_45_code (6 : Nat) (Option.none : Option Jvm.ClassFile.FieldType)) ∈ zk_tbl := zk_in 1296 (by decide +kernel) rfl
theorem tw_13 : (Jvm.Cond.initialized "RoadPlugsModel") ∈ zk_tbl := zk_in 13 (by decide +kernel) rfl
theorem tw_1300 : (Jvm.Cond.code ({ cls := "RoadPlugsModel", name := "leave", desc := "(I)I" } : Jvm.MethodName) prog_14_method_49_code (3 : Nat) (Option.some Jvm.ClassFile.FieldType.int)) ∈ zk_tbl := zk_in 1300 (by decide +kernel) rfl
theorem tw_1301 : (Jvm.Cond.methodLink "RoadPlugsModel" (210 : Nat) ({ cls := "RoadPlugsModel", name := "goAway", desc := "(I)V" } : Jvm.MethodName)) ∈ zk_tbl := zk_in 1301 (by decide +kernel) rfl
theorem tw_1303 : (Jvm.Cond.instanceMethod ({ cls := "RoadPlugsModel", name := "goAway", desc := "(I)V" } : Jvm.MethodName)) ∈ zk_tbl := zk_in 1303 (by decide +kernel) rfl
theorem tw_1304 : (Jvm.Cond.code ({ cls := "RoadPlugsModel", name := "goAway", desc := "(I)V" } : Jvm.MethodName) prog_14_method_48_code (3 : Nat) (Option.none : Option Jvm.ClassFile.FieldType)) ∈ zk_tbl := zk_in 1304 (by decide +kernel) rfl
theorem tw_1305 : (Jvm.Cond.methodLink "RoadPlugsModel" (207 : Nat) ({ cls := "RoadPlugsModel", name := "fromQueue", desc := "(I)V" } : Jvm.MethodName)) ∈ zk_tbl := zk_in 1305 (by decide +kernel) rfl
theorem tw_1307 : (Jvm.Cond.instanceMethod ({ cls := "RoadPlugsModel", name := "fromQueue", desc := "(I)V" } : Jvm.MethodName)) ∈ zk_tbl := zk_in 1307 (by decide +kernel) rfl
theorem tw_1308 : (Jvm.Cond.code ({ cls := "RoadPlugsModel", name := "fromQueue", desc := "(I)V" } : Jvm.MethodName) prog_14_method_46_code (5 : Nat) (Option.none : Option Jvm.ClassFile.FieldType)) ∈ zk_tbl := zk_in 1308 (by decide +kernel) rfl
theorem tw_1312 : (Jvm.Cond.code ({ cls := "RoadPlugsModel", name := "go", desc := "(II)I" } : Jvm.MethodName) prog_14_method_50_code (4 : Nat) (Option.some Jvm.ClassFile.FieldType.int)) ∈ zk_tbl := zk_in 1312 (by decide +kernel) rfl
theorem tw_1313 : (Jvm.Cond.methodLink "RoadPlugsModel" (213 : Nat) ({ cls := "RoadPlugsModel", name := "more", desc := "(III)V" } : Jvm.MethodName)) ∈ zk_tbl := zk_in 1313 (by decide +kernel) rfl
theorem tw_1315 : (Jvm.Cond.instanceMethod ({ cls := "RoadPlugsModel", name := "more", desc := "(III)V" } : Jvm.MethodName)) ∈ zk_tbl := zk_in 1315 (by decide +kernel) rfl
theorem tw_1316 : (Jvm.Cond.code ({ cls := "RoadPlugsModel", name := "more", desc := "(III)V" } : Jvm.MethodName) prog_14_method_12_code (4 : Nat) (Option.none : Option Jvm.ClassFile.FieldType)) ∈ zk_tbl := zk_in 1316 (by decide +kernel) rfl
theorem tw_1320 : (Jvm.Cond.code ({ cls := "RoadPlugsModel", name := "fail", desc := "(IZ)I" } : Jvm.MethodName) prog_14_method_51_code (5 : Nat) (Option.some Jvm.ClassFile.FieldType.int)) ∈ zk_tbl := zk_in 1320 (by decide +kernel) rfl
theorem tw_1324 : (Jvm.Cond.code ({ cls := "RoadPlugsModel", name := "ticks", desc := "(I)I" } : Jvm.MethodName) prog_14_method_62_code (5 : Nat) (Option.some Jvm.ClassFile.FieldType.int)) ∈ zk_tbl := zk_in 1324 (by decide +kernel) rfl
theorem tw_1325 : (Jvm.Cond.methodLink "RoadPlugsModel" (244 : Nat) ({ cls := "RoadPlugsModel", name := "tick", desc := "(I)I" } : Jvm.MethodName)) ∈ zk_tbl := zk_in 1325 (by decide +kernel) rfl
theorem tw_1327 : (Jvm.Cond.instanceMethod ({ cls := "RoadPlugsModel", name := "tick", desc := "(I)I" } : Jvm.MethodName)) ∈ zk_tbl := zk_in 1327 (by decide +kernel) rfl
theorem tw_1328 : (Jvm.Cond.code ({ cls := "RoadPlugsModel", name := "tick", desc := "(I)I" } : Jvm.MethodName) prog_14_method_61_code (6 : Nat) (Option.some Jvm.ClassFile.FieldType.int)) ∈ zk_tbl := zk_in 1328 (by decide +kernel) rfl
theorem tw_1329 : (Jvm.Cond.methodLink "RoadPlugsModel" (226 : Nat) ({ cls := "RoadPlugsModel", name := "takes", desc := "(I)V" } : Jvm.MethodName)) ∈ zk_tbl := zk_in 1329 (by decide +kernel) rfl
theorem tw_1331 : (Jvm.Cond.instanceMethod ({ cls := "RoadPlugsModel", name := "takes", desc := "(I)V" } : Jvm.MethodName)) ∈ zk_tbl := zk_in 1331 (by decide +kernel) rfl
theorem tw_1332 : (Jvm.Cond.code ({ cls := "RoadPlugsModel", name := "takes", desc := "(I)V" } : Jvm.MethodName) prog_14_method_53_code (4 : Nat) (Option.none : Option Jvm.ClassFile.FieldType)) ∈ zk_tbl := zk_in 1332 (by decide +kernel) rfl
theorem tw_1333 : (Jvm.Cond.methodLink "RoadPlugsModel" (216 : Nat) ({ cls := "RoadPlugsModel", name := "firstFor", desc := "(II)I" } : Jvm.MethodName)) ∈ zk_tbl := zk_in 1333 (by decide +kernel) rfl
theorem tw_1335 : (Jvm.Cond.instanceMethod ({ cls := "RoadPlugsModel", name := "firstFor", desc := "(II)I" } : Jvm.MethodName)) ∈ zk_tbl := zk_in 1335 (by decide +kernel) rfl
theorem tw_1336 : (Jvm.Cond.code ({ cls := "RoadPlugsModel", name := "firstFor", desc := "(II)I" } : Jvm.MethodName) prog_14_method_52_code (5 : Nat) (Option.some Jvm.ClassFile.FieldType.int)) ∈ zk_tbl := zk_in 1336 (by decide +kernel) rfl
theorem tw_1337 : (Jvm.Cond.methodLink "RoadPlugsModel" (229 : Nat) ({ cls := "RoadPlugsModel", name := "fails", desc := "(I)V" } : Jvm.MethodName)) ∈ zk_tbl := zk_in 1337 (by decide +kernel) rfl
theorem tw_1339 : (Jvm.Cond.instanceMethod ({ cls := "RoadPlugsModel", name := "fails", desc := "(I)V" } : Jvm.MethodName)) ∈ zk_tbl := zk_in 1339 (by decide +kernel) rfl
theorem tw_1340 : (Jvm.Cond.code ({ cls := "RoadPlugsModel", name := "fails", desc := "(I)V" } : Jvm.MethodName) prog_14_method_54_code (4 : Nat) (Option.none : Option Jvm.ClassFile.FieldType)) ∈ zk_tbl := zk_in 1340 (by decide +kernel) rfl
theorem tw_1341 : (Jvm.Cond.methodLink "RoadPlugsModel" (232 : Nat) ({ cls := "RoadPlugsModel", name := "askAll", desc := "(I)I" } : Jvm.MethodName)) ∈ zk_tbl := zk_in 1341 (by decide +kernel) rfl
theorem tw_1343 : (Jvm.Cond.instanceMethod ({ cls := "RoadPlugsModel", name := "askAll", desc := "(I)I" } : Jvm.MethodName)) ∈ zk_tbl := zk_in 1343 (by decide +kernel) rfl
theorem tw_1344 : (Jvm.Cond.code ({ cls := "RoadPlugsModel", name := "askAll", desc := "(I)I" } : Jvm.MethodName) prog_14_method_55_code (7 : Nat) (Option.some Jvm.ClassFile.FieldType.int)) ∈ zk_tbl := zk_in 1344 (by decide +kernel) rfl
theorem tw_1345 : (Jvm.Cond.methodLink "RoadPlugsModel" (235 : Nat) ({ cls := "RoadPlugsModel", name := "even", desc := "(II)V" } : Jvm.MethodName)) ∈ zk_tbl := zk_in 1345 (by decide +kernel) rfl
theorem tw_1347 : (Jvm.Cond.instanceMethod ({ cls := "RoadPlugsModel", name := "even", desc := "(II)V" } : Jvm.MethodName)) ∈ zk_tbl := zk_in 1347 (by decide +kernel) rfl
theorem tw_1348 : (Jvm.Cond.code ({ cls := "RoadPlugsModel", name := "even", desc := "(II)V" } : Jvm.MethodName) prog_14_method_56_code (7 : Nat) (Option.none : Option Jvm.ClassFile.FieldType)) ∈ zk_tbl := zk_in 1348 (by decide +kernel) rfl
theorem tw_1349 : (Jvm.Cond.methodLink "RoadPlugsModel" (238 : Nat) ({ cls := "RoadPlugsModel", name := "first", desc := "(II)V" } : Jvm.MethodName)) ∈ zk_tbl := zk_in 1349 (by decide +kernel) rfl
theorem tw_1351 : (Jvm.Cond.instanceMethod ({ cls := "RoadPlugsModel", name := "first", desc := "(II)V" } : Jvm.MethodName)) ∈ zk_tbl := zk_in 1351 (by decide +kernel) rfl
theorem tw_1352 : (Jvm.Cond.code ({ cls := "RoadPlugsModel", name := "first", desc := "(II)V" } : Jvm.MethodName) prog_14_method_57_code (8 : Nat) (Option.none : Option Jvm.ClassFile.FieldType)) ∈ zk_tbl := zk_in 1352 (by decide +kernel) rfl
theorem tw_1353 : (Jvm.Cond.methodLink "RoadPlugsModel" (241 : Nat) ({ cls := "RoadPlugsModel", name := "ends", desc := "(I)V" } : Jvm.MethodName)) ∈ zk_tbl := zk_in 1353 (by decide +kernel) rfl
theorem tw_1355 : (Jvm.Cond.instanceMethod ({ cls := "RoadPlugsModel", name := "ends", desc := "(I)V" } : Jvm.MethodName)) ∈ zk_tbl := zk_in 1355 (by decide +kernel) rfl
theorem tw_1356 : (Jvm.Cond.code ({ cls := "RoadPlugsModel", name := "ends", desc := "(I)V" } : Jvm.MethodName) prog_14_method_59_code (5 : Nat) (Option.none : Option Jvm.ClassFile.FieldType)) ∈ zk_tbl := zk_in 1356 (by decide +kernel) rfl
theorem tw_1357 : (Jvm.Cond.methodLink "RoadPlugsModel" (219 : Nat) ({ cls := "RoadPlugsModel", name := "isWaitedFor", desc := "(II)Z" } : Jvm.MethodName)) ∈ zk_tbl := zk_in 1357 (by decide +kernel) rfl
theorem tw_1359 : (Jvm.Cond.instanceMethod ({ cls := "RoadPlugsModel", name := "isWaitedFor", desc := "(II)Z" } : Jvm.MethodName)) ∈ zk_tbl := zk_in 1359 (by decide +kernel) rfl
theorem tw_1360 : (Jvm.Cond.code ({ cls := "RoadPlugsModel", name := "isWaitedFor", desc := "(II)Z" } : Jvm.MethodName) prog_14_method_58_code (5 : Nat) (Option.some Jvm.ClassFile.FieldType.boolean)) ∈ zk_tbl := zk_in 1360 (by decide +kernel) rfl
theorem tw_1361 : (Jvm.Cond.methodLink "RoadPlugsModel" (223 : Nat) ({ cls := "RoadPlugsModel", name := "idles", desc := "(II)V" } : Jvm.MethodName)) ∈ zk_tbl := zk_in 1361 (by decide +kernel) rfl
theorem tw_1363 : (Jvm.Cond.instanceMethod ({ cls := "RoadPlugsModel", name := "idles", desc := "(II)V" } : Jvm.MethodName)) ∈ zk_tbl := zk_in 1363 (by decide +kernel) rfl
theorem tw_1364 : (Jvm.Cond.code ({ cls := "RoadPlugsModel", name := "idles", desc := "(II)V" } : Jvm.MethodName) prog_14_method_60_code (3 : Nat) (Option.none : Option Jvm.ClassFile.FieldType)) ∈ zk_tbl := zk_in 1364 (by decide +kernel) rfl
theorem tw_1368 : (Jvm.Cond.code ({ cls := "RoadPlugsModel", name := "plugOf", desc := "(II)I" } : Jvm.MethodName) prog_14_method_63_code (5 : Nat) (Option.some Jvm.ClassFile.FieldType.int)) ∈ zk_tbl := zk_in 1368 (by decide +kernel) rfl
theorem tw_1372 : (Jvm.Cond.code ({ cls := "RoadPlugsModel", name := "advice", desc := "(III)I" } : Jvm.MethodName) prog_14_method_66_code (5 : Nat) (Option.some Jvm.ClassFile.FieldType.int)) ∈ zk_tbl := zk_in 1372 (by decide +kernel) rfl
theorem tw_1373 : (Jvm.Cond.methodLink "RoadPlugsModel" (250 : Nat) ({ cls := "RoadPlugsModel", name := "advise", desc := "(IIZ)I" } : Jvm.MethodName)) ∈ zk_tbl := zk_in 1373 (by decide +kernel) rfl
theorem tw_1375 : (Jvm.Cond.instanceMethod ({ cls := "RoadPlugsModel", name := "advise", desc := "(IIZ)I" } : Jvm.MethodName)) ∈ zk_tbl := zk_in 1375 (by decide +kernel) rfl
theorem tw_1376 : (Jvm.Cond.code ({ cls := "RoadPlugsModel", name := "advise", desc := "(IIZ)I" } : Jvm.MethodName) prog_14_method_65_code (9 : Nat) (Option.some Jvm.ClassFile.FieldType.int)) ∈ zk_tbl := zk_in 1376 (by decide +kernel) rfl
theorem tw_1377 : (Jvm.Cond.methodLink "RoadPlugsModel" (247 : Nat) ({ cls := "RoadPlugsModel", name := "plugsOf", desc := "(I)I" } : Jvm.MethodName)) ∈ zk_tbl := zk_in 1377 (by decide +kernel) rfl
theorem tw_1379 : (Jvm.Cond.instanceMethod ({ cls := "RoadPlugsModel", name := "plugsOf", desc := "(I)I" } : Jvm.MethodName)) ∈ zk_tbl := zk_in 1379 (by decide +kernel) rfl
theorem tw_1380 : (Jvm.Cond.code ({ cls := "RoadPlugsModel", name := "plugsOf", desc := "(I)I" } : Jvm.MethodName) prog_14_method_64_code (4 : Nat) (Option.some Jvm.ClassFile.FieldType.int)) ∈ zk_tbl := zk_in 1380 (by decide +kernel) rfl
theorem tw_1384 : (Jvm.Cond.code ({ cls := "RoadPlugsModel", name := "line", desc := "(ZIII)I" } : Jvm.MethodName) prog_14_method_67_code (7 : Nat) (Option.some Jvm.ClassFile.FieldType.int)) ∈ zk_tbl := zk_in 1384 (by decide +kernel) rfl
theorem tw_1388 : (Jvm.Cond.code ({ cls := "RoadPlugsModel", name := "joined", desc := "(I)I" } : Jvm.MethodName) prog_14_method_73_code (8 : Nat) (Option.some Jvm.ClassFile.FieldType.int)) ∈ zk_tbl := zk_in 1388 (by decide +kernel) rfl
theorem tw_1389 : (Jvm.Cond.methodLink "RoadPlugsModel" (266 : Nat) ({ cls := "RoadPlugsModel", name := "weighBooks", desc := "()V" } : Jvm.MethodName)) ∈ zk_tbl := zk_in 1389 (by decide +kernel) rfl
theorem tw_1391 : (Jvm.Cond.instanceMethod ({ cls := "RoadPlugsModel", name := "weighBooks", desc := "()V" } : Jvm.MethodName)) ∈ zk_tbl := zk_in 1391 (by decide +kernel) rfl
theorem tw_1392 : (Jvm.Cond.code ({ cls := "RoadPlugsModel", name := "weighBooks", desc := "()V" } : Jvm.MethodName) prog_14_method_72_code (7 : Nat) (Option.none : Option Jvm.ClassFile.FieldType)) ∈ zk_tbl := zk_in 1392 (by decide +kernel) rfl
theorem tw_1393 : (Jvm.Cond.methodLink "RoadPlugsModel" (263 : Nat) ({ cls := "RoadPlugsModel", name := "pairs", desc := "(III)I" } : Jvm.MethodName)) ∈ zk_tbl := zk_in 1393 (by decide +kernel) rfl
theorem tw_1395 : (Jvm.Cond.instanceMethod ({ cls := "RoadPlugsModel", name := "pairs", desc := "(III)I" } : Jvm.MethodName)) ∈ zk_tbl := zk_in 1395 (by decide +kernel) rfl
theorem tw_1396 : (Jvm.Cond.code ({ cls := "RoadPlugsModel", name := "pairs", desc := "(III)I" } : Jvm.MethodName) prog_14_method_71_code (4 : Nat) (Option.some Jvm.ClassFile.FieldType.int)) ∈ zk_tbl := zk_in 1396 (by decide +kernel) rfl
theorem tw_1397 : (Jvm.Cond.methodLink "RoadPlugsModel" (260 : Nat) ({ cls := "RoadPlugsModel", name := "mayBeOne", desc := "(II)Z" } : Jvm.MethodName)) ∈ zk_tbl := zk_in 1397 (by decide +kernel) rfl
theorem tw_1399 : (Jvm.Cond.instanceMethod ({ cls := "RoadPlugsModel", name := "mayBeOne", desc := "(II)Z" } : Jvm.MethodName)) ∈ zk_tbl := zk_in 1399 (by decide +kernel) rfl
theorem tw_14 : (Jvm.Cond.initialized "java/lang/Math") ∈ zk_tbl := zk_in 14 (by decide +kernel) rfl
theorem tw_1400 : (Jvm.Cond.code ({ cls := "RoadPlugsModel", name := "mayBeOne", desc := "(II)Z" } : Jvm.MethodName) prog_14_method_70_code (4 : Nat) (Option.some Jvm.ClassFile.FieldType.boolean)) ∈ zk_tbl := zk_in 1400 (by decide +kernel) rfl
theorem tw_1401 : (Jvm.Cond.methodLink "RoadPlugsModel" (254 : Nat) ({ cls := "RoadPlugsModel", name := "size", desc := "(I)I" } : Jvm.MethodName)) ∈ zk_tbl := zk_in 1401 (by decide +kernel) rfl
theorem tw_1402 : (Jvm.Cond.static ({ cls := "RoadPlugsModel", name := "size", desc := "(I)I" } : Jvm.MethodName)) ∈ zk_tbl := zk_in 1402 (by decide +kernel) rfl
theorem tw_1403 : (Jvm.Cond.code ({ cls := "RoadPlugsModel", name := "size", desc := "(I)I" } : Jvm.MethodName) prog_14_method_68_code (1 : Nat) (Option.some Jvm.ClassFile.FieldType.int)) ∈ zk_tbl := zk_in 1403 (by decide +kernel) rfl
theorem tw_1404 : (Jvm.Cond.methodLink "RoadPlugsModel" (257 : Nat) ({ cls := "RoadPlugsModel", name := "unlike", desc := "(II)I" } : Jvm.MethodName)) ∈ zk_tbl := zk_in 1404 (by decide +kernel) rfl
theorem tw_1406 : (Jvm.Cond.instanceMethod ({ cls := "RoadPlugsModel", name := "unlike", desc := "(II)I" } : Jvm.MethodName)) ∈ zk_tbl := zk_in 1406 (by decide +kernel) rfl
theorem tw_1407 : (Jvm.Cond.code ({ cls := "RoadPlugsModel", name := "unlike", desc := "(II)I" } : Jvm.MethodName) prog_14_method_69_code (3 : Nat) (Option.some Jvm.ClassFile.FieldType.int)) ∈ zk_tbl := zk_in 1407 (by decide +kernel) rfl
theorem tw_1411 : (Jvm.Cond.code ({ cls := "RoadPlugsModel", name := "clear", desc := "()I" } : Jvm.MethodName) prog_14_method_74_code (2 : Nat) (Option.some Jvm.ClassFile.FieldType.int)) ∈ zk_tbl := zk_in 1411 (by decide +kernel) rfl
theorem tw_1415 : (Jvm.Cond.code ({ cls := "RoadPlugsModel", name := "many", desc := "(I)I" } : Jvm.MethodName) prog_14_method_75_code (4 : Nat) (Option.some Jvm.ClassFile.FieldType.int)) ∈ zk_tbl := zk_in 1415 (by decide +kernel) rfl
theorem tw_1419 : (Jvm.Cond.code ({ cls := "RoadPlugsModel", name := "keep", desc := "()I" } : Jvm.MethodName) prog_14_method_78_code (1 : Nat) (Option.some Jvm.ClassFile.FieldType.int)) ∈ zk_tbl := zk_in 1419 (by decide +kernel) rfl
theorem tw_1420 : (Jvm.Cond.methodLink "RoadPlugsModel" (276 : Nat) ({ cls := "RoadPlugsModel", name := "moveAll", desc := "(Z)V" } : Jvm.MethodName)) ∈ zk_tbl := zk_in 1420 (by decide +kernel) rfl
theorem tw_1422 : (Jvm.Cond.instanceMethod ({ cls := "RoadPlugsModel", name := "moveAll", desc := "(Z)V" } : Jvm.MethodName)) ∈ zk_tbl := zk_in 1422 (by decide +kernel) rfl
theorem tw_1423 : (Jvm.Cond.code ({ cls := "RoadPlugsModel", name := "moveAll", desc := "(Z)V" } : Jvm.MethodName) prog_14_method_77_code (2 : Nat) (Option.none : Option Jvm.ClassFile.FieldType)) ∈ zk_tbl := zk_in 1423 (by decide +kernel) rfl
theorem tw_1424 : (Jvm.Cond.methodLink "RoadPlugsModel" (272 : Nat) ({ cls := "RoadPlugsModel", name := "move", desc := "([IIZ)V" } : Jvm.MethodName)) ∈ zk_tbl := zk_in 1424 (by decide +kernel) rfl
theorem tw_1426 : (Jvm.Cond.instanceMethod ({ cls := "RoadPlugsModel", name := "move", desc := "([IIZ)V" } : Jvm.MethodName)) ∈ zk_tbl := zk_in 1426 (by decide +kernel) rfl
theorem tw_1427 : (Jvm.Cond.code ({ cls := "RoadPlugsModel", name := "move", desc := "([IIZ)V" } : Jvm.MethodName) prog_14_method_76_code (5 : Nat) (Option.none : Option Jvm.ClassFile.FieldType)) ∈ zk_tbl := zk_in 1427 (by decide +kernel) rfl
theorem tw_1431 : (Jvm.Cond.code ({ cls := "RoadPlugsModel", name := "back", desc := "()I" } : Jvm.MethodName) prog_14_method_79_code (1 : Nat) (Option.some Jvm.ClassFile.FieldType.int)) ∈ zk_tbl := zk_in 1431 (by decide +kernel) rfl
theorem tw_15 : (Jvm.Cond.initialized "java/lang/Integer") ∈ zk_tbl := zk_in 15 (by decide +kernel) rfl
theorem tw_2 : (Jvm.Cond.initialized "RoadPlugs$World") ∈ zk_tbl := zk_in 2 (by decide +kernel) rfl
theorem tw_20 : (Jvm.Cond.initialized "java/lang/System") ∈ zk_tbl := zk_in 20 (by decide +kernel) rfl
theorem tw_3 : (Jvm.Cond.initialized "RoadPlugs$Tries") ∈ zk_tbl := zk_in 3 (by decide +kernel) rfl
theorem tw_4 : (Jvm.Cond.initialized "RoadPlugs$Book") ∈ zk_tbl := zk_in 4 (by decide +kernel) rfl
theorem tw_5 : (Jvm.Cond.initialized "RoadPlugs$Site") ∈ zk_tbl := zk_in 5 (by decide +kernel) rfl
theorem tw_532 : (Jvm.Cond.code ({ cls := "RoadPlugs", name := "site", desc := "(II)I" } : Jvm.MethodName) prog_1_method_2_code (5 : Nat) (Option.some Jvm.ClassFile.FieldType.int)) ∈ zk_tbl := zk_in 532 (by decide +kernel) rfl
theorem tw_533 : (Jvm.Cond.methodLink "RoadPlugs" (58 : Nat) ({ cls := "RoadPlugs", name := "isOutside", desc := "(III)Z" } : Jvm.MethodName)) ∈ zk_tbl := zk_in 533 (by decide +kernel) rfl
theorem tw_534 : (Jvm.Cond.static ({ cls := "RoadPlugs", name := "isOutside", desc := "(III)Z" } : Jvm.MethodName)) ∈ zk_tbl := zk_in 534 (by decide +kernel) rfl
theorem tw_535 : (Jvm.Cond.code ({ cls := "RoadPlugs", name := "isOutside", desc := "(III)Z" } : Jvm.MethodName) prog_1_method_30_code (3 : Nat) (Option.some Jvm.ClassFile.FieldType.boolean)) ∈ zk_tbl := zk_in 535 (by decide +kernel) rfl
theorem tw_539 : (Jvm.Cond.code ({ cls := "RoadPlugs", name := "plug", desc := "(III)I" } : Jvm.MethodName) prog_1_method_3_code (6 : Nat) (Option.some Jvm.ClassFile.FieldType.int)) ∈ zk_tbl := zk_in 539 (by decide +kernel) rfl
theorem tw_540 : (Jvm.Cond.methodLink "RoadPlugs" (78 : Nat) ({ cls := "RoadPlugs$World", name := "hasSite", desc := "(I)Z" } : Jvm.MethodName)) ∈ zk_tbl := zk_in 540 (by decide +kernel) rfl
theorem tw_541 : (Jvm.Cond.instanceMethod ({ cls := "RoadPlugs$World", name := "hasSite", desc := "(I)Z" } : Jvm.MethodName)) ∈ zk_tbl := zk_in 541 (by decide +kernel) rfl
theorem tw_542 : (Jvm.Cond.selects "RoadPlugs$World" ({ cls := "RoadPlugs$World", name := "hasSite", desc := "(I)Z" } : Jvm.MethodName) ({ cls := "RoadPlugs$World", name := "hasSite", desc := "(I)Z" } : Jvm.MethodName)) ∈ zk_tbl := zk_in 542 (by decide +kernel) rfl
theorem tw_543 : (Jvm.Cond.code ({ cls := "RoadPlugs$World", name := "hasSite", desc := "(I)Z" } : Jvm.MethodName) prog_12_method_3_code (2 : Nat) (Option.some Jvm.ClassFile.FieldType.boolean)) ∈ zk_tbl := zk_in 543 (by decide +kernel) rfl
theorem tw_544 : (Jvm.Cond.methodLink "RoadPlugs" (100 : Nat) ({ cls := "RoadPlugs$Site", name := "addPlug", desc := "(I)V" } : Jvm.MethodName)) ∈ zk_tbl := zk_in 544 (by decide +kernel) rfl
theorem tw_545 : (Jvm.Cond.instanceMethod ({ cls := "RoadPlugs$Site", name := "addPlug", desc := "(I)V" } : Jvm.MethodName)) ∈ zk_tbl := zk_in 545 (by decide +kernel) rfl
theorem tw_546 : (Jvm.Cond.selects "RoadPlugs$Site" ({ cls := "RoadPlugs$Site", name := "addPlug", desc := "(I)V" } : Jvm.MethodName) ({ cls := "RoadPlugs$Site", name := "addPlug", desc := "(I)V" } : Jvm.MethodName)) ∈ zk_tbl := zk_in 546 (by decide +kernel) rfl
theorem tw_547 : (Jvm.Cond.code ({ cls := "RoadPlugs$Site", name := "addPlug", desc := "(I)V" } : Jvm.MethodName) prog_8_method_3_code (2 : Nat) (Option.none : Option Jvm.ClassFile.FieldType)) ∈ zk_tbl := zk_in 547 (by decide +kernel) rfl
theorem tw_551 : (Jvm.Cond.code ({ cls := "RoadPlugs", name := "car", desc := "(IIIII)I" } : Jvm.MethodName) prog_1_method_4_code (8 : Nat) (Option.some Jvm.ClassFile.FieldType.int)) ∈ zk_tbl := zk_in 551 (by decide +kernel) rfl
theorem tw_555 : (Jvm.Cond.code ({ cls := "RoadPlugs", name := "set", desc := "(II)I" } : Jvm.MethodName) prog_1_method_5_code (4 : Nat) (Option.some Jvm.ClassFile.FieldType.int)) ∈ zk_tbl := zk_in 555 (by decide +kernel) rfl
theorem tw_559 : (Jvm.Cond.code ({ cls := "RoadPlugs", name := "drive", desc := "(III)I" } : Jvm.MethodName) prog_1_method_6_code (4 : Nat) (Option.some Jvm.ClassFile.FieldType.int)) ∈ zk_tbl := zk_in 559 (by decide +kernel) rfl
theorem tw_560 : (Jvm.Cond.methodLink "RoadPlugs" (139 : Nat) ({ cls := "RoadPlugs$World", name := "hasCar", desc := "(I)Z" } : Jvm.MethodName)) ∈ zk_tbl := zk_in 560 (by decide +kernel) rfl
theorem tw_561 : (Jvm.Cond.instanceMethod ({ cls := "RoadPlugs$World", name := "hasCar", desc := "(I)Z" } : Jvm.MethodName)) ∈ zk_tbl := zk_in 561 (by decide +kernel) rfl
theorem tw_562 : (Jvm.Cond.selects "RoadPlugs$World" ({ cls := "RoadPlugs$World", name := "hasCar", desc := "(I)Z" } : Jvm.MethodName) ({ cls := "RoadPlugs$World", name := "hasCar", desc := "(I)Z" } : Jvm.MethodName)) ∈ zk_tbl := zk_in 562 (by decide +kernel) rfl
theorem tw_563 : (Jvm.Cond.code ({ cls := "RoadPlugs$World", name := "hasCar", desc := "(I)Z" } : Jvm.MethodName) prog_12_method_5_code (2 : Nat) (Option.some Jvm.ClassFile.FieldType.boolean)) ∈ zk_tbl := zk_in 563 (by decide +kernel) rfl
theorem tw_564 : (Jvm.Cond.methodLink "RoadPlugs" (142 : Nat) ({ cls := "RoadPlugs$World", name := "ticksToDrive", desc := "(I)I" } : Jvm.MethodName)) ∈ zk_tbl := zk_in 564 (by decide +kernel) rfl
theorem tw_565 : (Jvm.Cond.static ({ cls := "RoadPlugs$World", name := "ticksToDrive", desc := "(I)I" } : Jvm.MethodName)) ∈ zk_tbl := zk_in 565 (by decide +kernel) rfl
theorem tw_566 : (Jvm.Cond.code ({ cls := "RoadPlugs$World", name := "ticksToDrive", desc := "(I)I" } : Jvm.MethodName) prog_12_method_6_code (1 : Nat) (Option.some Jvm.ClassFile.FieldType.int)) ∈ zk_tbl := zk_in 566 (by decide +kernel) rfl
theorem tw_568 : (Jvm.Cond.static ({ cls := "RoadPlugs", name := "cutUp", desc := "(II)I" } : Jvm.MethodName)) ∈ zk_tbl := zk_in 568 (by decide +kernel) rfl
theorem tw_569 : (Jvm.Cond.code ({ cls := "RoadPlugs", name := "cutUp", desc := "(II)I" } : Jvm.MethodName) prog_1_method_31_code (2 : Nat) (Option.some Jvm.ClassFile.FieldType.int)) ∈ zk_tbl := zk_in 569 (by decide +kernel) rfl
theorem tw_570 : (Jvm.Cond.methodLink "RoadPlugs" (146 : Nat) ({ cls := "RoadPlugs$World", name := "chargeToDrive", desc := "(LRoadPlugs$Car;I)I" } : Jvm.MethodName)) ∈ zk_tbl := zk_in 570 (by decide +kernel) rfl
theorem tw_571 : (Jvm.Cond.instanceMethod ({ cls := "RoadPlugs$World", name := "chargeToDrive", desc := "(LRoadPlugs$Car;I)I" } : Jvm.MethodName)) ∈ zk_tbl := zk_in 571 (by decide +kernel) rfl
theorem tw_572 : (Jvm.Cond.selects "RoadPlugs$World" ({ cls := "RoadPlugs$World", name := "chargeToDrive", desc := "(LRoadPlugs$Car;I)I" } : Jvm.MethodName) ({ cls := "RoadPlugs$World", name := "chargeToDrive", desc := "(LRoadPlugs$Car;I)I" } : Jvm.MethodName)) ∈ zk_tbl := zk_in 572 (by decide +kernel) rfl
theorem tw_573 : (Jvm.Cond.code ({ cls := "RoadPlugs$World", name := "chargeToDrive", desc := "(LRoadPlugs$Car;I)I" } : Jvm.MethodName) prog_12_method_7_code (3 : Nat) (Option.some Jvm.ClassFile.FieldType.int)) ∈ zk_tbl := zk_in 573 (by decide +kernel) rfl
theorem tw_577 : (Jvm.Cond.code ({ cls := "RoadPlugs", name := "gain", desc := "(III)I" } : Jvm.MethodName) prog_1_method_7_code (4 : Nat) (Option.some Jvm.ClassFile.FieldType.int)) ∈ zk_tbl := zk_in 577 (by decide +kernel) rfl
theorem tw_578 : (Jvm.Cond.methodLink "RoadPlugs" (150 : Nat) ({ cls := "RoadPlugs$World", name := "hasPlug", desc := "(I)Z" } : Jvm.MethodName)) ∈ zk_tbl := zk_in 578 (by decide +kernel) rfl
theorem tw_579 : (Jvm.Cond.instanceMethod ({ cls := "RoadPlugs$World", name := "hasPlug", desc := "(I)Z" } : Jvm.MethodName)) ∈ zk_tbl := zk_in 579 (by decide +kernel) rfl
theorem tw_580 : (Jvm.Cond.selects "RoadPlugs$World" ({ cls := "RoadPlugs$World", name := "hasPlug", desc := "(I)Z" } : Jvm.MethodName) ({ cls := "RoadPlugs$World", name := "hasPlug", desc := "(I)Z" } : Jvm.MethodName)) ∈ zk_tbl := zk_in 580 (by decide +kernel) rfl
theorem tw_581 : (Jvm.Cond.code ({ cls := "RoadPlugs$World", name := "hasPlug", desc := "(I)Z" } : Jvm.MethodName) prog_12_method_4_code (2 : Nat) (Option.some Jvm.ClassFile.FieldType.boolean)) ∈ zk_tbl := zk_in 581 (by decide +kernel) rfl
theorem tw_582 : (Jvm.Cond.methodLink "RoadPlugs" (153 : Nat) ({ cls := "RoadPlugs$World", name := "gainOf", desc := "(LRoadPlugs$Car;II)I" } : Jvm.MethodName)) ∈ zk_tbl := zk_in 582 (by decide +kernel) rfl
theorem tw_583 : (Jvm.Cond.instanceMethod ({ cls := "RoadPlugs$World", name := "gainOf", desc := "(LRoadPlugs$Car;II)I" } : Jvm.MethodName)) ∈ zk_tbl := zk_in 583 (by decide +kernel) rfl
theorem tw_584 : (Jvm.Cond.selects "RoadPlugs$World" ({ cls := "RoadPlugs$World", name := "gainOf", desc := "(LRoadPlugs$Car;II)I" } : Jvm.MethodName) ({ cls := "RoadPlugs$World", name := "gainOf", desc := "(LRoadPlugs$Car;II)I" } : Jvm.MethodName)) ∈ zk_tbl := zk_in 584 (by decide +kernel) rfl
theorem tw_585 : (Jvm.Cond.code ({ cls := "RoadPlugs$World", name := "gainOf", desc := "(LRoadPlugs$Car;II)I" } : Jvm.MethodName) prog_12_method_8_code (5 : Nat) (Option.some Jvm.ClassFile.FieldType.int)) ∈ zk_tbl := zk_in 585 (by decide +kernel) rfl
theorem tw_586 : (Jvm.Cond.methodLink "RoadPlugs$World" (107 : Nat) ({ cls := "java/lang/Math", name := "min", desc := "(II)I" } : Jvm.MethodName)) ∈ zk_tbl := zk_in 586 (by decide +kernel) rfl
theorem tw_587 : (Jvm.Cond.static ({ cls := "java/lang/Math", name := "min", desc := "(II)I" } : Jvm.MethodName)) ∈ zk_tbl := zk_in 587 (by decide +kernel) rfl
theorem tw_588 : (Jvm.Cond.code ({ cls := "java/lang/Math", name := "min", desc := "(II)I" } : Jvm.MethodName) prog_16_method_69_code (2 : Nat) (Option.some Jvm.ClassFile.FieldType.int)) ∈ zk_tbl := zk_in 588 (by decide +kernel) rfl
theorem tw_589 : (Jvm.Cond.methodLink "RoadPlugs$World" (115 : Nat) ({ cls := "java/lang/Math", name := "max", desc := "(II)I" } : Jvm.MethodName)) ∈ zk_tbl := zk_in 589 (by decide +kernel) rfl
theorem tw_590 : (Jvm.Cond.static ({ cls := "java/lang/Math", name := "max", desc := "(II)I" } : Jvm.MethodName)) ∈ zk_tbl := zk_in 590 (by decide +kernel) rfl
theorem tw_591 : (Jvm.Cond.code ({ cls := "java/lang/Math", name := "max", desc := "(II)I" } : Jvm.MethodName) prog_16_method_65_code (2 : Nat) (Option.some Jvm.ClassFile.FieldType.int)) ∈ zk_tbl := zk_in 591 (by decide +kernel) rfl
theorem tw_595 : (Jvm.Cond.code ({ cls := "RoadPlugs", name := "of", desc := "(II)I" } : Jvm.MethodName) prog_1_method_8_code (4 : Nat) (Option.some Jvm.ClassFile.FieldType.int)) ∈ zk_tbl := zk_in 595 (by decide +kernel) rfl
theorem tw_596 : (Jvm.Cond.methodLink "RoadPlugs" (175 : Nat) ({ cls := "RoadPlugs$World", name := "placeInQueue", desc := "(I)I" } : Jvm.MethodName)) ∈ zk_tbl := zk_in 596 (by decide +kernel) rfl
theorem tw_597 : (Jvm.Cond.instanceMethod ({ cls := "RoadPlugs$World", name := "placeInQueue", desc := "(I)I" } : Jvm.MethodName)) ∈ zk_tbl := zk_in 597 (by decide +kernel) rfl
theorem tw_598 : (Jvm.Cond.selects "RoadPlugs$World" ({ cls := "RoadPlugs$World", name := "placeInQueue", desc := "(I)I" } : Jvm.MethodName) ({ cls := "RoadPlugs$World", name := "placeInQueue", desc := "(I)I" } : Jvm.MethodName)) ∈ zk_tbl := zk_in 598 (by decide +kernel) rfl
theorem tw_599 : (Jvm.Cond.code ({ cls := "RoadPlugs$World", name := "placeInQueue", desc := "(I)I" } : Jvm.MethodName) prog_12_method_12_code (3 : Nat) (Option.some Jvm.ClassFile.FieldType.int)) ∈ zk_tbl := zk_in 599 (by decide +kernel) rfl
theorem tw_6 : (Jvm.Cond.initialized "RoadPlugs$Plug") ∈ zk_tbl := zk_in 6 (by decide +kernel) rfl
theorem tw_600 : (Jvm.Cond.methodLink "RoadPlugs$World" (141 : Nat) ({ cls := "RoadPlugs$Site", name := "placeOf", desc := "(I)I" } : Jvm.MethodName)) ∈ zk_tbl := zk_in 600 (by decide +kernel) rfl
theorem tw_601 : (Jvm.Cond.instanceMethod ({ cls := "RoadPlugs$Site", name := "placeOf", desc := "(I)I" } : Jvm.MethodName)) ∈ zk_tbl := zk_in 601 (by decide +kernel) rfl
theorem tw_602 : (Jvm.Cond.selects "RoadPlugs$Site" ({ cls := "RoadPlugs$Site", name := "placeOf", desc := "(I)I" } : Jvm.MethodName) ({ cls := "RoadPlugs$Site", name := "placeOf", desc := "(I)I" } : Jvm.MethodName)) ∈ zk_tbl := zk_in 602 (by decide +kernel) rfl
theorem tw_603 : (Jvm.Cond.code ({ cls := "RoadPlugs$Site", name := "placeOf", desc := "(I)I" } : Jvm.MethodName) prog_8_method_7_code (3 : Nat) (Option.some Jvm.ClassFile.FieldType.int)) ∈ zk_tbl := zk_in 603 (by decide +kernel) rfl
theorem tw_607 : (Jvm.Cond.code ({ cls := "RoadPlugs", name := "trip", desc := "(IIII)I" } : Jvm.MethodName) prog_1_method_9_code (6 : Nat) (Option.some Jvm.ClassFile.FieldType.int)) ∈ zk_tbl := zk_in 607 (by decide +kernel) rfl
theorem tw_608 : (Jvm.Cond.methodLink "RoadPlugs" (178 : Nat) ({ cls := "RoadPlugs$Planner", name := "findTrip", desc := "(LRoadPlugs$World;LRoadPlugs$Car;II)Z" } : Jvm.MethodName)) ∈ zk_tbl := zk_in 608 (by decide +kernel) rfl
theorem tw_609 : (Jvm.Cond.instanceMethod ({ cls := "RoadPlugs$Planner", name := "findTrip", desc := "(LRoadPlugs$World;LRoadPlugs$Car;II)Z" } : Jvm.MethodName)) ∈ zk_tbl := zk_in 609 (by decide +kernel) rfl
theorem tw_610 : (Jvm.Cond.selects "RoadPlugs$Planner" ({ cls := "RoadPlugs$Planner", name := "findTrip", desc := "(LRoadPlugs$World;LRoadPlugs$Car;II)Z" } : Jvm.MethodName) ({ cls := "RoadPlugs$Planner", name := "findTrip", desc := "(LRoadPlugs$World;LRoadPlugs$Car;II)Z" } : Jvm.MethodName)) ∈ zk_tbl := zk_in 610 (by decide +kernel) rfl
theorem tw_611 : (Jvm.Cond.code ({ cls := "RoadPlugs$Planner", name := "findTrip", desc := "(LRoadPlugs$World;LRoadPlugs$Car;II)Z" } : Jvm.MethodName) prog_6_method_2_code (6 : Nat) (Option.some Jvm.ClassFile.FieldType.boolean)) ∈ zk_tbl := zk_in 611 (by decide +kernel) rfl
theorem tw_612 : (Jvm.Cond.methodLink "RoadPlugs$Planner" (35 : Nat) ({ cls := "RoadPlugs$Planner", name := "layOutLegs", desc := "(LRoadPlugs$World;LRoadPlugs$Car;II)V" } : Jvm.MethodName)) ∈ zk_tbl := zk_in 612 (by decide +kernel) rfl
theorem tw_614 : (Jvm.Cond.instanceMethod ({ cls := "RoadPlugs$Planner", name := "layOutLegs", desc := "(LRoadPlugs$World;LRoadPlugs$Car;II)V" } : Jvm.MethodName)) ∈ zk_tbl := zk_in 614 (by decide +kernel) rfl
theorem tw_615 : (Jvm.Cond.code ({ cls := "RoadPlugs$Planner", name := "layOutLegs", desc := "(LRoadPlugs$World;LRoadPlugs$Car;II)V" } : Jvm.MethodName) prog_6_method_3_code (8 : Nat) (Option.none : Option Jvm.ClassFile.FieldType)) ∈ zk_tbl := zk_in 615 (by decide +kernel) rfl
theorem tw_616 : (Jvm.Cond.methodLink "RoadPlugs$Planner" (83 : Nat) ({ cls := "RoadPlugs$World", name := "mostThatServes", desc := "(LRoadPlugs$Site;I)I" } : Jvm.MethodName)) ∈ zk_tbl := zk_in 616 (by decide +kernel) rfl
theorem tw_617 : (Jvm.Cond.instanceMethod ({ cls := "RoadPlugs$World", name := "mostThatServes", desc := "(LRoadPlugs$Site;I)I" } : Jvm.MethodName)) ∈ zk_tbl := zk_in 617 (by decide +kernel) rfl
theorem tw_618 : (Jvm.Cond.selects "RoadPlugs$World" ({ cls := "RoadPlugs$World", name := "mostThatServes", desc := "(LRoadPlugs$Site;I)I" } : Jvm.MethodName) ({ cls := "RoadPlugs$World", name := "mostThatServes", desc := "(LRoadPlugs$Site;I)I" } : Jvm.MethodName)) ∈ zk_tbl := zk_in 618 (by decide +kernel) rfl
theorem tw_619 : (Jvm.Cond.code ({ cls := "RoadPlugs$World", name := "mostThatServes", desc := "(LRoadPlugs$Site;I)I" } : Jvm.MethodName) prog_12_method_10_code (7 : Nat) (Option.some Jvm.ClassFile.FieldType.int)) ∈ zk_tbl := zk_in 619 (by decide +kernel) rfl
theorem tw_620 : (Jvm.Cond.methodLink "RoadPlugs$World" (127 : Nat) ({ cls := "RoadPlugs$Tries", name := "isBroken", desc := "(I)Z" } : Jvm.MethodName)) ∈ zk_tbl := zk_in 620 (by decide +kernel) rfl
theorem tw_621 : (Jvm.Cond.instanceMethod ({ cls := "RoadPlugs$Tries", name := "isBroken", desc := "(I)Z" } : Jvm.MethodName)) ∈ zk_tbl := zk_in 621 (by decide +kernel) rfl
theorem tw_622 : (Jvm.Cond.selects "RoadPlugs$Tries" ({ cls := "RoadPlugs$Tries", name := "isBroken", desc := "(I)Z" } : Jvm.MethodName) ({ cls := "RoadPlugs$Tries", name := "isBroken", desc := "(I)Z" } : Jvm.MethodName)) ∈ zk_tbl := zk_in 622 (by decide +kernel) rfl
theorem tw_623 : (Jvm.Cond.code ({ cls := "RoadPlugs$Tries", name := "isBroken", desc := "(I)Z" } : Jvm.MethodName) prog_11_method_6_code (5 : Nat) (Option.some Jvm.ClassFile.FieldType.boolean)) ∈ zk_tbl := zk_in 623 (by decide +kernel) rfl
theorem tw_624 : (Jvm.Cond.methodLink "RoadPlugs$Tries" (37 : Nat) ({ cls := "RoadPlugs$Tries", name := "slotOf", desc := "(I)I" } : Jvm.MethodName)) ∈ zk_tbl := zk_in 624 (by decide +kernel) rfl
theorem tw_625 : (Jvm.Cond.instanceMethod ({ cls := "RoadPlugs$Tries", name := "slotOf", desc := "(I)I" } : Jvm.MethodName)) ∈ zk_tbl := zk_in 625 (by decide +kernel) rfl
theorem tw_626 : (Jvm.Cond.selects "RoadPlugs$Tries" ({ cls := "RoadPlugs$Tries", name := "slotOf", desc := "(I)I" } : Jvm.MethodName) ({ cls := "RoadPlugs$Tries", name := "slotOf", desc := "(I)I" } : Jvm.MethodName)) ∈ zk_tbl := zk_in 626 (by decide +kernel) rfl
theorem tw_627 : (Jvm.Cond.code ({ cls := "RoadPlugs$Tries", name := "slotOf", desc := "(I)I" } : Jvm.MethodName) prog_11_method_3_code (2 : Nat) (Option.some Jvm.ClassFile.FieldType.int)) ∈ zk_tbl := zk_in 627 (by decide +kernel) rfl
theorem tw_628 : (Jvm.Cond.methodLink "RoadPlugs$Tries" (41 : Nat) ({ cls := "java/lang/Integer", name := "bitCount", desc := "(I)I" } : Jvm.MethodName)) ∈ zk_tbl := zk_in 628 (by decide +kernel) rfl
theorem tw_629 : (Jvm.Cond.static ({ cls := "java/lang/Integer", name := "bitCount", desc := "(I)I" } : Jvm.MethodName)) ∈ zk_tbl := zk_in 629 (by decide +kernel) rfl
theorem tw_630 : (Jvm.Cond.code ({ cls := "java/lang/Integer", name := "bitCount", desc := "(I)I" } : Jvm.MethodName) prog_15_method_49_code (1 : Nat) (Option.some Jvm.ClassFile.FieldType.int)) ∈ zk_tbl := zk_in 630 (by decide +kernel) rfl
theorem tw_631 : (Jvm.Cond.constant "java/lang/Integer" (265 : Nat) (1431655765 : Int32)) ∈ zk_tbl := zk_in 631 (by decide +kernel) rfl
theorem tw_632 : (Jvm.Cond.constant "java/lang/Integer" (266 : Nat) (858993459 : Int32)) ∈ zk_tbl := zk_in 632 (by decide +kernel) rfl
theorem tw_633 : (Jvm.Cond.constant "java/lang/Integer" (267 : Nat) (252645135 : Int32)) ∈ zk_tbl := zk_in 633 (by decide +kernel) rfl
theorem tw_634 : (Jvm.Cond.methodLink "RoadPlugs$Planner" (87 : Nat) ({ cls := "RoadPlugs$Planner", name := "setLeg", desc := "(LRoadPlugs$World;LRoadPlugs$Car;I)V" } : Jvm.MethodName)) ∈ zk_tbl := zk_in 634 (by decide +kernel) rfl
theorem tw_636 : (Jvm.Cond.instanceMethod ({ cls := "RoadPlugs$Planner", name := "setLeg", desc := "(LRoadPlugs$World;LRoadPlugs$Car;I)V" } : Jvm.MethodName)) ∈ zk_tbl := zk_in 636 (by decide +kernel) rfl
theorem tw_637 : (Jvm.Cond.code ({ cls := "RoadPlugs$Planner", name := "setLeg", desc := "(LRoadPlugs$World;LRoadPlugs$Car;I)V" } : Jvm.MethodName) prog_6_method_4_code (4 : Nat) (Option.none : Option Jvm.ClassFile.FieldType)) ∈ zk_tbl := zk_in 637 (by decide +kernel) rfl
theorem tw_638 : (Jvm.Cond.methodLink "RoadPlugs$Planner" (90 : Nat) ({ cls := "RoadPlugs$World", name := "ticksToDrive", desc := "(I)I" } : Jvm.MethodName)) ∈ zk_tbl := zk_in 638 (by decide +kernel) rfl
theorem tw_639 : (Jvm.Cond.methodLink "RoadPlugs$Planner" (94 : Nat) ({ cls := "RoadPlugs$World", name := "chargeToDrive", desc := "(LRoadPlugs$Car;I)I" } : Jvm.MethodName)) ∈ zk_tbl := zk_in 639 (by decide +kernel) rfl
theorem tw_640 : (Jvm.Cond.methodLink "RoadPlugs$Planner" (48 : Nat) ({ cls := "RoadPlugs$Planner", name := "fillCosts", desc := "(LRoadPlugs$World;LRoadPlugs$Car;I)V" } : Jvm.MethodName)) ∈ zk_tbl := zk_in 640 (by decide +kernel) rfl
theorem tw_642 : (Jvm.Cond.instanceMethod ({ cls := "RoadPlugs$Planner", name := "fillCosts", desc := "(LRoadPlugs$World;LRoadPlugs$Car;I)V" } : Jvm.MethodName)) ∈ zk_tbl := zk_in 642 (by decide +kernel) rfl
theorem tw_643 : (Jvm.Cond.code ({ cls := "RoadPlugs$Planner", name := "fillCosts", desc := "(LRoadPlugs$World;LRoadPlugs$Car;I)V" } : Jvm.MethodName) prog_6_method_6_code (9 : Nat) (Option.none : Option Jvm.ClassFile.FieldType)) ∈ zk_tbl := zk_in 643 (by decide +kernel) rfl
theorem tw_644 : (Jvm.Cond.methodLink "RoadPlugs$Planner" (101 : Nat) ({ cls := "RoadPlugs$Planner", name := "costToLeave", desc := "(II)I" } : Jvm.MethodName)) ∈ zk_tbl := zk_in 644 (by decide +kernel) rfl
theorem tw_646 : (Jvm.Cond.instanceMethod ({ cls := "RoadPlugs$Planner", name := "costToLeave", desc := "(II)I" } : Jvm.MethodName)) ∈ zk_tbl := zk_in 646 (by decide +kernel) rfl
theorem tw_647 : (Jvm.Cond.code ({ cls := "RoadPlugs$Planner", name := "costToLeave", desc := "(II)I" } : Jvm.MethodName) prog_6_method_5_code (4 : Nat) (Option.some Jvm.ClassFile.FieldType.int)) ∈ zk_tbl := zk_in 647 (by decide +kernel) rfl
theorem tw_648 : (Jvm.Cond.constant "RoadPlugs$Planner" (55 : Nat) (1000000 : Int32)) ∈ zk_tbl := zk_in 648 (by decide +kernel) rfl
theorem tw_649 : (Jvm.Cond.methodLink "RoadPlugs$Planner" (105 : Nat) ({ cls := "RoadPlugs$World", name := "gainOf", desc := "(LRoadPlugs$Car;II)I" } : Jvm.MethodName)) ∈ zk_tbl := zk_in 649 (by decide +kernel) rfl
theorem tw_650 : (Jvm.Cond.methodLink "RoadPlugs$Planner" (109 : Nat) ({ cls := "java/lang/Math", name := "min", desc := "(II)I" } : Jvm.MethodName)) ∈ zk_tbl := zk_in 650 (by decide +kernel) rfl
theorem tw_651 : (Jvm.Cond.methodLink "RoadPlugs$Planner" (62 : Nat) ({ cls := "RoadPlugs$Planner", name := "followTrip", desc := "(LRoadPlugs$World;LRoadPlugs$Car;)V" } : Jvm.MethodName)) ∈ zk_tbl := zk_in 651 (by decide +kernel) rfl
theorem tw_653 : (Jvm.Cond.instanceMethod ({ cls := "RoadPlugs$Planner", name := "followTrip", desc := "(LRoadPlugs$World;LRoadPlugs$Car;)V" } : Jvm.MethodName)) ∈ zk_tbl := zk_in 653 (by decide +kernel) rfl
theorem tw_654 : (Jvm.Cond.code ({ cls := "RoadPlugs$Planner", name := "followTrip", desc := "(LRoadPlugs$World;LRoadPlugs$Car;)V" } : Jvm.MethodName) prog_6_method_7_code (7 : Nat) (Option.none : Option Jvm.ClassFile.FieldType)) ∈ zk_tbl := zk_in 654 (by decide +kernel) rfl
theorem tw_658 : (Jvm.Cond.code ({ cls := "RoadPlugs", name := "feed", desc := "(JI)I" } : Jvm.MethodName) prog_1_method_10_code (5 : Nat) (Option.some Jvm.ClassFile.FieldType.int)) ∈ zk_tbl := zk_in 658 (by decide +kernel) rfl
theorem tw_659 : (Jvm.Cond.constantLong "RoadPlugs" (197 : Nat) (255 : Int64)) ∈ zk_tbl := zk_in 659 (by decide +kernel) rfl
theorem tw_660 : (Jvm.Cond.methodLink "RoadPlugs" (199 : Nat) ({ cls := "RoadPlugs$Tape", name := "addByte", desc := "(I)V" } : Jvm.MethodName)) ∈ zk_tbl := zk_in 660 (by decide +kernel) rfl
theorem tw_661 : (Jvm.Cond.instanceMethod ({ cls := "RoadPlugs$Tape", name := "addByte", desc := "(I)V" } : Jvm.MethodName)) ∈ zk_tbl := zk_in 661 (by decide +kernel) rfl
theorem tw_662 : (Jvm.Cond.selects "RoadPlugs$Tape" ({ cls := "RoadPlugs$Tape", name := "addByte", desc := "(I)V" } : Jvm.MethodName) ({ cls := "RoadPlugs$Tape", name := "addByte", desc := "(I)V" } : Jvm.MethodName)) ∈ zk_tbl := zk_in 662 (by decide +kernel) rfl
theorem tw_663 : (Jvm.Cond.code ({ cls := "RoadPlugs$Tape", name := "addByte", desc := "(I)V" } : Jvm.MethodName) prog_10_method_2_code (2 : Nat) (Option.none : Option Jvm.ClassFile.FieldType)) ∈ zk_tbl := zk_in 663 (by decide +kernel) rfl
theorem tw_667 : (Jvm.Cond.code ({ cls := "RoadPlugs", name := "read", desc := "(I)I" } : Jvm.MethodName) prog_1_method_11_code (3 : Nat) (Option.some Jvm.ClassFile.FieldType.int)) ∈ zk_tbl := zk_in 667 (by decide +kernel) rfl
theorem tw_668 : (Jvm.Cond.methodLink "RoadPlugs" (202 : Nat) ({ cls := "RoadPlugs$Tape", name := "parse", desc := "()I" } : Jvm.MethodName)) ∈ zk_tbl := zk_in 668 (by decide +kernel) rfl
theorem tw_669 : (Jvm.Cond.instanceMethod ({ cls := "RoadPlugs$Tape", name := "parse", desc := "()I" } : Jvm.MethodName)) ∈ zk_tbl := zk_in 669 (by decide +kernel) rfl
theorem tw_670 : (Jvm.Cond.selects "RoadPlugs$Tape" ({ cls := "RoadPlugs$Tape", name := "parse", desc := "()I" } : Jvm.MethodName) ({ cls := "RoadPlugs$Tape", name := "parse", desc := "()I" } : Jvm.MethodName)) ∈ zk_tbl := zk_in 670 (by decide +kernel) rfl
theorem tw_671 : (Jvm.Cond.code ({ cls := "RoadPlugs$Tape", name := "parse", desc := "()I" } : Jvm.MethodName) prog_10_method_3_code (2 : Nat) (Option.some Jvm.ClassFile.FieldType.int)) ∈ zk_tbl := zk_in 671 (by decide +kernel) rfl
theorem tw_672 : (Jvm.Cond.methodLink "RoadPlugs$Tape" (34 : Nat) ({ cls := "RoadPlugs$Tape", name := "nextToken", desc := "()V" } : Jvm.MethodName)) ∈ zk_tbl := zk_in 672 (by decide +kernel) rfl
theorem tw_674 : (Jvm.Cond.instanceMethod ({ cls := "RoadPlugs$Tape", name := "nextToken", desc := "()V" } : Jvm.MethodName)) ∈ zk_tbl := zk_in 674 (by decide +kernel) rfl
theorem tw_675 : (Jvm.Cond.code ({ cls := "RoadPlugs$Tape", name := "nextToken", desc := "()V" } : Jvm.MethodName) prog_10_method_11_code (1 : Nat) (Option.none : Option Jvm.ClassFile.FieldType)) ∈ zk_tbl := zk_in 675 (by decide +kernel) rfl
theorem tw_676 : (Jvm.Cond.methodLink "RoadPlugs$Tape" (98 : Nat) ({ cls := "RoadPlugs$Tape", name := "kindOf", desc := "(I)I" } : Jvm.MethodName)) ∈ zk_tbl := zk_in 676 (by decide +kernel) rfl
theorem tw_677 : (Jvm.Cond.static ({ cls := "RoadPlugs$Tape", name := "kindOf", desc := "(I)I" } : Jvm.MethodName)) ∈ zk_tbl := zk_in 677 (by decide +kernel) rfl
theorem tw_678 : (Jvm.Cond.code ({ cls := "RoadPlugs$Tape", name := "kindOf", desc := "(I)I" } : Jvm.MethodName) prog_10_method_12_code (1 : Nat) (Option.some Jvm.ClassFile.FieldType.int)) ∈ zk_tbl := zk_in 678 (by decide +kernel) rfl
theorem tw_679 : (Jvm.Cond.methodLink "RoadPlugs$Tape" (40 : Nat) ({ cls := "RoadPlugs$Tape", name := "parseRule", desc := "()Z" } : Jvm.MethodName)) ∈ zk_tbl := zk_in 679 (by decide +kernel) rfl
theorem tw_681 : (Jvm.Cond.instanceMethod ({ cls := "RoadPlugs$Tape", name := "parseRule", desc := "()Z" } : Jvm.MethodName)) ∈ zk_tbl := zk_in 681 (by decide +kernel) rfl
theorem tw_682 : (Jvm.Cond.code ({ cls := "RoadPlugs$Tape", name := "parseRule", desc := "()Z" } : Jvm.MethodName) prog_10_method_5_code (1 : Nat) (Option.some Jvm.ClassFile.FieldType.boolean)) ∈ zk_tbl := zk_in 682 (by decide +kernel) rfl
theorem tw_684 : (Jvm.Cond.methodLink "RoadPlugs$Tape" (67 : Nat) ({ cls := "RoadPlugs$Tape", name := "isWord", desc := "(Ljava/lang/String;)Z" } : Jvm.MethodName)) ∈ zk_tbl := zk_in 684 (by decide +kernel) rfl
theorem tw_686 : (Jvm.Cond.instanceMethod ({ cls := "RoadPlugs$Tape", name := "isWord", desc := "(Ljava/lang/String;)Z" } : Jvm.MethodName)) ∈ zk_tbl := zk_in 686 (by decide +kernel) rfl
theorem tw_687 : (Jvm.Cond.code ({ cls := "RoadPlugs$Tape", name := "isWord", desc := "(Ljava/lang/String;)Z" } : Jvm.MethodName) prog_10_method_10_code (3 : Nat) (Option.some Jvm.ClassFile.FieldType.boolean)) ∈ zk_tbl := zk_in 687 (by decide +kernel) rfl
theorem tw_7 : (Jvm.Cond.initialized "RoadPlugs$Car") ∈ zk_tbl := zk_in 7 (by decide +kernel) rfl
theorem tw_736 : (Jvm.Cond.methodLink "RoadPlugs$Tape" (71 : Nat) ({ cls := "RoadPlugs$Tape", name := "parseShare", desc := "()Z" } : Jvm.MethodName)) ∈ zk_tbl := zk_in 736 (by decide +kernel) rfl
theorem tw_738 : (Jvm.Cond.instanceMethod ({ cls := "RoadPlugs$Tape", name := "parseShare", desc := "()Z" } : Jvm.MethodName)) ∈ zk_tbl := zk_in 738 (by decide +kernel) rfl
theorem tw_739 : (Jvm.Cond.code ({ cls := "RoadPlugs$Tape", name := "parseShare", desc := "()Z" } : Jvm.MethodName) prog_10_method_6_code (1 : Nat) (Option.some Jvm.ClassFile.FieldType.boolean)) ∈ zk_tbl := zk_in 739 (by decide +kernel) rfl
theorem tw_743 : (Jvm.Cond.methodLink "RoadPlugs$Tape" (75 : Nat) ({ cls := "RoadPlugs$Tape", name := "parseNumber", desc := "()I" } : Jvm.MethodName)) ∈ zk_tbl := zk_in 743 (by decide +kernel) rfl
theorem tw_745 : (Jvm.Cond.instanceMethod ({ cls := "RoadPlugs$Tape", name := "parseNumber", desc := "()I" } : Jvm.MethodName)) ∈ zk_tbl := zk_in 745 (by decide +kernel) rfl
theorem tw_746 : (Jvm.Cond.code ({ cls := "RoadPlugs$Tape", name := "parseNumber", desc := "()I" } : Jvm.MethodName) prog_10_method_9_code (3 : Nat) (Option.some Jvm.ClassFile.FieldType.int)) ∈ zk_tbl := zk_in 746 (by decide +kernel) rfl
theorem tw_748 : (Jvm.Cond.methodLink "RoadPlugs$Tape" (81 : Nat) ({ cls := "RoadPlugs$Tape", name := "parseIdle", desc := "()Z" } : Jvm.MethodName)) ∈ zk_tbl := zk_in 748 (by decide +kernel) rfl
theorem tw_750 : (Jvm.Cond.instanceMethod ({ cls := "RoadPlugs$Tape", name := "parseIdle", desc := "()Z" } : Jvm.MethodName)) ∈ zk_tbl := zk_in 750 (by decide +kernel) rfl
theorem tw_751 : (Jvm.Cond.code ({ cls := "RoadPlugs$Tape", name := "parseIdle", desc := "()Z" } : Jvm.MethodName) prog_10_method_7_code (1 : Nat) (Option.some Jvm.ClassFile.FieldType.boolean)) ∈ zk_tbl := zk_in 751 (by decide +kernel) rfl
theorem tw_753 : (Jvm.Cond.methodLink "RoadPlugs$Tape" (44 : Nat) ({ cls := "RoadPlugs$Tape", name := "parseSemicolon", desc := "()Z" } : Jvm.MethodName)) ∈ zk_tbl := zk_in 753 (by decide +kernel) rfl
theorem tw_755 : (Jvm.Cond.instanceMethod ({ cls := "RoadPlugs$Tape", name := "parseSemicolon", desc := "()Z" } : Jvm.MethodName)) ∈ zk_tbl := zk_in 755 (by decide +kernel) rfl
theorem tw_756 : (Jvm.Cond.code ({ cls := "RoadPlugs$Tape", name := "parseSemicolon", desc := "()Z" } : Jvm.MethodName) prog_10_method_8_code (1 : Nat) (Option.some Jvm.ClassFile.FieldType.boolean)) ∈ zk_tbl := zk_in 756 (by decide +kernel) rfl
theorem tw_757 : (Jvm.Cond.methodLink "RoadPlugs" (206 : Nat) ({ cls := "RoadPlugs$Tape", name := "giveRulesTo", desc := "(LRoadPlugs$Site;)V" } : Jvm.MethodName)) ∈ zk_tbl := zk_in 757 (by decide +kernel) rfl
theorem tw_758 : (Jvm.Cond.instanceMethod ({ cls := "RoadPlugs$Tape", name := "giveRulesTo", desc := "(LRoadPlugs$Site;)V" } : Jvm.MethodName)) ∈ zk_tbl := zk_in 758 (by decide +kernel) rfl
theorem tw_759 : (Jvm.Cond.selects "RoadPlugs$Tape" ({ cls := "RoadPlugs$Tape", name := "giveRulesTo", desc := "(LRoadPlugs$Site;)V" } : Jvm.MethodName) ({ cls := "RoadPlugs$Tape", name := "giveRulesTo", desc := "(LRoadPlugs$Site;)V" } : Jvm.MethodName)) ∈ zk_tbl := zk_in 759 (by decide +kernel) rfl
theorem tw_760 : (Jvm.Cond.code ({ cls := "RoadPlugs$Tape", name := "giveRulesTo", desc := "(LRoadPlugs$Site;)V" } : Jvm.MethodName) prog_10_method_4_code (2 : Nat) (Option.none : Option Jvm.ClassFile.FieldType)) ∈ zk_tbl := zk_in 760 (by decide +kernel) rfl
theorem tw_765 : (Jvm.Cond.code ({ cls := "RoadPlugs", name := "siteOf", desc := "(II)I" } : Jvm.MethodName) prog_1_method_12_code (4 : Nat) (Option.some Jvm.ClassFile.FieldType.int)) ∈ zk_tbl := zk_in 765 (by decide +kernel) rfl
theorem tw_769 : (Jvm.Cond.code ({ cls := "RoadPlugs", name := "come", desc := "(IIII)I" } : Jvm.MethodName) prog_1_method_13_code (6 : Nat) (Option.some Jvm.ClassFile.FieldType.int)) ∈ zk_tbl := zk_in 769 (by decide +kernel) rfl
theorem tw_770 : (Jvm.Cond.methodLink "RoadPlugs" (237 : Nat) ({ cls := "RoadPlugs$Site", name := "addLast", desc := "(I)V" } : Jvm.MethodName)) ∈ zk_tbl := zk_in 770 (by decide +kernel) rfl
theorem tw_771 : (Jvm.Cond.instanceMethod ({ cls := "RoadPlugs$Site", name := "addLast", desc := "(I)V" } : Jvm.MethodName)) ∈ zk_tbl := zk_in 771 (by decide +kernel) rfl
theorem tw_772 : (Jvm.Cond.selects "RoadPlugs$Site" ({ cls := "RoadPlugs$Site", name := "addLast", desc := "(I)V" } : Jvm.MethodName) ({ cls := "RoadPlugs$Site", name := "addLast", desc := "(I)V" } : Jvm.MethodName)) ∈ zk_tbl := zk_in 772 (by decide +kernel) rfl
theorem tw_773 : (Jvm.Cond.code ({ cls := "RoadPlugs$Site", name := "addLast", desc := "(I)V" } : Jvm.MethodName) prog_8_method_4_code (2 : Nat) (Option.none : Option Jvm.ClassFile.FieldType)) ∈ zk_tbl := zk_in 773 (by decide +kernel) rfl
theorem tw_777 : (Jvm.Cond.code ({ cls := "RoadPlugs", name := "leave", desc := "(I)I" } : Jvm.MethodName) prog_1_method_14_code (3 : Nat) (Option.some Jvm.ClassFile.FieldType.int)) ∈ zk_tbl := zk_in 777 (by decide +kernel) rfl
theorem tw_778 : (Jvm.Cond.methodLink "RoadPlugs" (240 : Nat) ({ cls := "RoadPlugs$World", name := "sendAway", desc := "(I)V" } : Jvm.MethodName)) ∈ zk_tbl := zk_in 778 (by decide +kernel) rfl
theorem tw_779 : (Jvm.Cond.instanceMethod ({ cls := "RoadPlugs$World", name := "sendAway", desc := "(I)V" } : Jvm.MethodName)) ∈ zk_tbl := zk_in 779 (by decide +kernel) rfl
theorem tw_780 : (Jvm.Cond.selects "RoadPlugs$World" ({ cls := "RoadPlugs$World", name := "sendAway", desc := "(I)V" } : Jvm.MethodName) ({ cls := "RoadPlugs$World", name := "sendAway", desc := "(I)V" } : Jvm.MethodName)) ∈ zk_tbl := zk_in 780 (by decide +kernel) rfl
theorem tw_781 : (Jvm.Cond.code ({ cls := "RoadPlugs$World", name := "sendAway", desc := "(I)V" } : Jvm.MethodName) prog_12_method_13_code (4 : Nat) (Option.none : Option Jvm.ClassFile.FieldType)) ∈ zk_tbl := zk_in 781 (by decide +kernel) rfl
theorem tw_782 : (Jvm.Cond.methodLink "RoadPlugs$World" (148 : Nat) ({ cls := "RoadPlugs$Site", name := "removeAt", desc := "(I)V" } : Jvm.MethodName)) ∈ zk_tbl := zk_in 782 (by decide +kernel) rfl
theorem tw_783 : (Jvm.Cond.instanceMethod ({ cls := "RoadPlugs$Site", name := "removeAt", desc := "(I)V" } : Jvm.MethodName)) ∈ zk_tbl := zk_in 783 (by decide +kernel) rfl
theorem tw_784 : (Jvm.Cond.selects "RoadPlugs$Site" ({ cls := "RoadPlugs$Site", name := "removeAt", desc := "(I)V" } : Jvm.MethodName) ({ cls := "RoadPlugs$Site", name := "removeAt", desc := "(I)V" } : Jvm.MethodName)) ∈ zk_tbl := zk_in 784 (by decide +kernel) rfl
theorem tw_785 : (Jvm.Cond.code ({ cls := "RoadPlugs$Site", name := "removeAt", desc := "(I)V" } : Jvm.MethodName) prog_8_method_6_code (3 : Nat) (Option.none : Option Jvm.ClassFile.FieldType)) ∈ zk_tbl := zk_in 785 (by decide +kernel) rfl
theorem tw_789 : (Jvm.Cond.code ({ cls := "RoadPlugs", name := "go", desc := "(II)I" } : Jvm.MethodName) prog_1_method_15_code (5 : Nat) (Option.some Jvm.ClassFile.FieldType.int)) ∈ zk_tbl := zk_in 789 (by decide +kernel) rfl
theorem tw_793 : (Jvm.Cond.code ({ cls := "RoadPlugs", name := "fail", desc := "(IZ)I" } : Jvm.MethodName) prog_1_method_16_code (4 : Nat) (Option.some Jvm.ClassFile.FieldType.int)) ∈ zk_tbl := zk_in 793 (by decide +kernel) rfl
theorem tw_797 : (Jvm.Cond.code ({ cls := "RoadPlugs", name := "ticks", desc := "(I)I" } : Jvm.MethodName) prog_1_method_17_code (4 : Nat) (Option.some Jvm.ClassFile.FieldType.int)) ∈ zk_tbl := zk_in 797 (by decide +kernel) rfl
theorem tw_798 : (Jvm.Cond.methodLink "RoadPlugs" (250 : Nat) ({ cls := "RoadPlugs$Stepper", name := "goOneTick", desc := "(LRoadPlugs$World;)V" } : Jvm.MethodName)) ∈ zk_tbl := zk_in 798 (by decide +kernel) rfl
theorem tw_799 : (Jvm.Cond.instanceMethod ({ cls := "RoadPlugs$Stepper", name := "goOneTick", desc := "(LRoadPlugs$World;)V" } : Jvm.MethodName)) ∈ zk_tbl := zk_in 799 (by decide +kernel) rfl
theorem tw_8 : (Jvm.Cond.initialized "RoadPlugs$Tape") ∈ zk_tbl := zk_in 8 (by decide +kernel) rfl
theorem tw_800 : (Jvm.Cond.selects "RoadPlugs$Stepper" ({ cls := "RoadPlugs$Stepper", name := "goOneTick", desc := "(LRoadPlugs$World;)V" } : Jvm.MethodName) ({ cls := "RoadPlugs$Stepper", name := "goOneTick", desc := "(LRoadPlugs$World;)V" } : Jvm.MethodName)) ∈ zk_tbl := zk_in 800 (by decide +kernel) rfl
theorem tw_801 : (Jvm.Cond.code ({ cls := "RoadPlugs$Stepper", name := "goOneTick", desc := "(LRoadPlugs$World;)V" } : Jvm.MethodName) prog_9_method_2_code (6 : Nat) (Option.none : Option Jvm.ClassFile.FieldType)) ∈ zk_tbl := zk_in 801 (by decide +kernel) rfl
theorem tw_802 : (Jvm.Cond.methodLink "RoadPlugs$Stepper" (28 : Nat) ({ cls := "RoadPlugs$Stepper", name := "fillFreePlugs", desc := "(LRoadPlugs$World;LRoadPlugs$Site;)V" } : Jvm.MethodName)) ∈ zk_tbl := zk_in 802 (by decide +kernel) rfl
theorem tw_803 : (Jvm.Cond.static ({ cls := "RoadPlugs$Stepper", name := "fillFreePlugs", desc := "(LRoadPlugs$World;LRoadPlugs$Site;)V" } : Jvm.MethodName)) ∈ zk_tbl := zk_in 803 (by decide +kernel) rfl
theorem tw_804 : (Jvm.Cond.code ({ cls := "RoadPlugs$Stepper", name := "fillFreePlugs", desc := "(LRoadPlugs$World;LRoadPlugs$Site;)V" } : Jvm.MethodName) prog_9_method_3_code (4 : Nat) (Option.none : Option Jvm.ClassFile.FieldType)) ∈ zk_tbl := zk_in 804 (by decide +kernel) rfl
theorem tw_805 : (Jvm.Cond.methodLink "RoadPlugs$Stepper" (93 : Nat) ({ cls := "RoadPlugs$Stepper", name := "takeFromQueue", desc := "(LRoadPlugs$World;LRoadPlugs$Site;I)V" } : Jvm.MethodName)) ∈ zk_tbl := zk_in 805 (by decide +kernel) rfl
theorem tw_806 : (Jvm.Cond.static ({ cls := "RoadPlugs$Stepper", name := "takeFromQueue", desc := "(LRoadPlugs$World;LRoadPlugs$Site;I)V" } : Jvm.MethodName)) ∈ zk_tbl := zk_in 806 (by decide +kernel) rfl
theorem tw_807 : (Jvm.Cond.code ({ cls := "RoadPlugs$Stepper", name := "takeFromQueue", desc := "(LRoadPlugs$World;LRoadPlugs$Site;I)V" } : Jvm.MethodName) prog_9_method_4_code (6 : Nat) (Option.none : Option Jvm.ClassFile.FieldType)) ∈ zk_tbl := zk_in 807 (by decide +kernel) rfl
theorem tw_808 : (Jvm.Cond.methodLink "RoadPlugs$Stepper" (104 : Nat) ({ cls := "RoadPlugs$Site", name := "removeAt", desc := "(I)V" } : Jvm.MethodName)) ∈ zk_tbl := zk_in 808 (by decide +kernel) rfl
theorem tw_809 : (Jvm.Cond.methodLink "RoadPlugs$Stepper" (32 : Nat) ({ cls := "RoadPlugs$Stepper", name := "turnBackFromFailing", desc := "(LRoadPlugs$World;LRoadPlugs$Site;)V" } : Jvm.MethodName)) ∈ zk_tbl := zk_in 809 (by decide +kernel) rfl
theorem tw_810 : (Jvm.Cond.static ({ cls := "RoadPlugs$Stepper", name := "turnBackFromFailing", desc := "(LRoadPlugs$World;LRoadPlugs$Site;)V" } : Jvm.MethodName)) ∈ zk_tbl := zk_in 810 (by decide +kernel) rfl
theorem tw_811 : (Jvm.Cond.code ({ cls := "RoadPlugs$Stepper", name := "turnBackFromFailing", desc := "(LRoadPlugs$World;LRoadPlugs$Site;)V" } : Jvm.MethodName) prog_9_method_5_code (6 : Nat) (Option.none : Option Jvm.ClassFile.FieldType)) ∈ zk_tbl := zk_in 811 (by decide +kernel) rfl
theorem tw_812 : (Jvm.Cond.methodLink "RoadPlugs$Stepper" (121 : Nat) ({ cls := "RoadPlugs$Tries", name := "addTry", desc := "(IIIZ)V" } : Jvm.MethodName)) ∈ zk_tbl := zk_in 812 (by decide +kernel) rfl
theorem tw_813 : (Jvm.Cond.instanceMethod ({ cls := "RoadPlugs$Tries", name := "addTry", desc := "(IIIZ)V" } : Jvm.MethodName)) ∈ zk_tbl := zk_in 813 (by decide +kernel) rfl
theorem tw_814 : (Jvm.Cond.selects "RoadPlugs$Tries" ({ cls := "RoadPlugs$Tries", name := "addTry", desc := "(IIIZ)V" } : Jvm.MethodName) ({ cls := "RoadPlugs$Tries", name := "addTry", desc := "(IIIZ)V" } : Jvm.MethodName)) ∈ zk_tbl := zk_in 814 (by decide +kernel) rfl
theorem tw_815 : (Jvm.Cond.code ({ cls := "RoadPlugs$Tries", name := "addTry", desc := "(IIIZ)V" } : Jvm.MethodName) prog_11_method_4_code (6 : Nat) (Option.none : Option Jvm.ClassFile.FieldType)) ∈ zk_tbl := zk_in 815 (by decide +kernel) rfl
theorem tw_816 : (Jvm.Cond.methodLink "RoadPlugs$Stepper" (130 : Nat) ({ cls := "RoadPlugs$Site", name := "addFirst", desc := "(I)V" } : Jvm.MethodName)) ∈ zk_tbl := zk_in 816 (by decide +kernel) rfl
theorem tw_817 : (Jvm.Cond.instanceMethod ({ cls := "RoadPlugs$Site", name := "addFirst", desc := "(I)V" } : Jvm.MethodName)) ∈ zk_tbl := zk_in 817 (by decide +kernel) rfl
theorem tw_818 : (Jvm.Cond.selects "RoadPlugs$Site" ({ cls := "RoadPlugs$Site", name := "addFirst", desc := "(I)V" } : Jvm.MethodName) ({ cls := "RoadPlugs$Site", name := "addFirst", desc := "(I)V" } : Jvm.MethodName)) ∈ zk_tbl := zk_in 818 (by decide +kernel) rfl
theorem tw_819 : (Jvm.Cond.code ({ cls := "RoadPlugs$Site", name := "addFirst", desc := "(I)V" } : Jvm.MethodName) prog_8_method_5_code (3 : Nat) (Option.none : Option Jvm.ClassFile.FieldType)) ∈ zk_tbl := zk_in 819 (by decide +kernel) rfl
theorem tw_820 : (Jvm.Cond.methodLink "RoadPlugs$Stepper" (35 : Nat) ({ cls := "RoadPlugs$Stepper", name := "noteTriesThatWentWell", desc := "(LRoadPlugs$World;LRoadPlugs$Site;)V" } : Jvm.MethodName)) ∈ zk_tbl := zk_in 820 (by decide +kernel) rfl
theorem tw_821 : (Jvm.Cond.static ({ cls := "RoadPlugs$Stepper", name := "noteTriesThatWentWell", desc := "(LRoadPlugs$World;LRoadPlugs$Site;)V" } : Jvm.MethodName)) ∈ zk_tbl := zk_in 821 (by decide +kernel) rfl
theorem tw_822 : (Jvm.Cond.code ({ cls := "RoadPlugs$Stepper", name := "noteTriesThatWentWell", desc := "(LRoadPlugs$World;LRoadPlugs$Site;)V" } : Jvm.MethodName) prog_9_method_6_code (5 : Nat) (Option.none : Option Jvm.ClassFile.FieldType)) ∈ zk_tbl := zk_in 822 (by decide +kernel) rfl
theorem tw_823 : (Jvm.Cond.methodLink "RoadPlugs$Stepper" (38 : Nat) ({ cls := "RoadPlugs$Stepper", name := "askAll", desc := "(LRoadPlugs$World;LRoadPlugs$Site;)I" } : Jvm.MethodName)) ∈ zk_tbl := zk_in 823 (by decide +kernel) rfl
theorem tw_825 : (Jvm.Cond.instanceMethod ({ cls := "RoadPlugs$Stepper", name := "askAll", desc := "(LRoadPlugs$World;LRoadPlugs$Site;)I" } : Jvm.MethodName)) ∈ zk_tbl := zk_in 825 (by decide +kernel) rfl
theorem tw_826 : (Jvm.Cond.code ({ cls := "RoadPlugs$Stepper", name := "askAll", desc := "(LRoadPlugs$World;LRoadPlugs$Site;)I" } : Jvm.MethodName) prog_9_method_7_code (8 : Nat) (Option.some Jvm.ClassFile.FieldType.int)) ∈ zk_tbl := zk_in 826 (by decide +kernel) rfl
theorem tw_827 : (Jvm.Cond.methodLink "RoadPlugs$Stepper" (142 : Nat) ({ cls := "RoadPlugs$World", name := "gainOf", desc := "(LRoadPlugs$Car;II)I" } : Jvm.MethodName)) ∈ zk_tbl := zk_in 827 (by decide +kernel) rfl
theorem tw_828 : (Jvm.Cond.methodLink "RoadPlugs$Stepper" (146 : Nat) ({ cls := "java/lang/Math", name := "min", desc := "(II)I" } : Jvm.MethodName)) ∈ zk_tbl := zk_in 828 (by decide +kernel) rfl
theorem tw_829 : (Jvm.Cond.methodLink "RoadPlugs$Stepper" (48 : Nat) ({ cls := "RoadPlugs$Stepper", name := "shareByComing", desc := "(LRoadPlugs$World;LRoadPlugs$Site;)V" } : Jvm.MethodName)) ∈ zk_tbl := zk_in 829 (by decide +kernel) rfl
theorem tw_831 : (Jvm.Cond.instanceMethod ({ cls := "RoadPlugs$Stepper", name := "shareByComing", desc := "(LRoadPlugs$World;LRoadPlugs$Site;)V" } : Jvm.MethodName)) ∈ zk_tbl := zk_in 831 (by decide +kernel) rfl
theorem tw_832 : (Jvm.Cond.code ({ cls := "RoadPlugs$Stepper", name := "shareByComing", desc := "(LRoadPlugs$World;LRoadPlugs$Site;)V" } : Jvm.MethodName) prog_9_method_9_code (6 : Nat) (Option.none : Option Jvm.ClassFile.FieldType)) ∈ zk_tbl := zk_in 832 (by decide +kernel) rfl
theorem tw_833 : (Jvm.Cond.methodLink "RoadPlugs$Stepper" (155 : Nat) ({ cls := "RoadPlugs$Stepper", name := "firstUnserved", desc := "(LRoadPlugs$World;LRoadPlugs$Site;)I" } : Jvm.MethodName)) ∈ zk_tbl := zk_in 833 (by decide +kernel) rfl
theorem tw_835 : (Jvm.Cond.instanceMethod ({ cls := "RoadPlugs$Stepper", name := "firstUnserved", desc := "(LRoadPlugs$World;LRoadPlugs$Site;)I" } : Jvm.MethodName)) ∈ zk_tbl := zk_in 835 (by decide +kernel) rfl
theorem tw_836 : (Jvm.Cond.code ({ cls := "RoadPlugs$Stepper", name := "firstUnserved", desc := "(LRoadPlugs$World;LRoadPlugs$Site;)I" } : Jvm.MethodName) prog_9_method_10_code (8 : Nat) (Option.some Jvm.ClassFile.FieldType.int)) ∈ zk_tbl := zk_in 836 (by decide +kernel) rfl
theorem tw_837 : (Jvm.Cond.methodLink "RoadPlugs$Stepper" (51 : Nat) ({ cls := "RoadPlugs$Stepper", name := "shareEvenly", desc := "(LRoadPlugs$Site;I)V" } : Jvm.MethodName)) ∈ zk_tbl := zk_in 837 (by decide +kernel) rfl
theorem tw_839 : (Jvm.Cond.instanceMethod ({ cls := "RoadPlugs$Stepper", name := "shareEvenly", desc := "(LRoadPlugs$Site;I)V" } : Jvm.MethodName)) ∈ zk_tbl := zk_in 839 (by decide +kernel) rfl
theorem tw_840 : (Jvm.Cond.code ({ cls := "RoadPlugs$Stepper", name := "shareEvenly", desc := "(LRoadPlugs$Site;I)V" } : Jvm.MethodName) prog_9_method_8_code (9 : Nat) (Option.none : Option Jvm.ClassFile.FieldType)) ∈ zk_tbl := zk_in 840 (by decide +kernel) rfl
theorem tw_841 : (Jvm.Cond.methodLink "RoadPlugs$Stepper" (55 : Nat) ({ cls := "RoadPlugs$Stepper", name := "chargeAll", desc := "(LRoadPlugs$World;LRoadPlugs$Site;)V" } : Jvm.MethodName)) ∈ zk_tbl := zk_in 841 (by decide +kernel) rfl
theorem tw_843 : (Jvm.Cond.instanceMethod ({ cls := "RoadPlugs$Stepper", name := "chargeAll", desc := "(LRoadPlugs$World;LRoadPlugs$Site;)V" } : Jvm.MethodName)) ∈ zk_tbl := zk_in 843 (by decide +kernel) rfl
theorem tw_844 : (Jvm.Cond.code ({ cls := "RoadPlugs$Stepper", name := "chargeAll", desc := "(LRoadPlugs$World;LRoadPlugs$Site;)V" } : Jvm.MethodName) prog_9_method_11_code (7 : Nat) (Option.none : Option Jvm.ClassFile.FieldType)) ∈ zk_tbl := zk_in 844 (by decide +kernel) rfl
theorem tw_845 : (Jvm.Cond.methodLink "RoadPlugs$Stepper" (164 : Nat) ({ cls := "RoadPlugs$World", name := "priceNow", desc := "()I" } : Jvm.MethodName)) ∈ zk_tbl := zk_in 845 (by decide +kernel) rfl
theorem tw_846 : (Jvm.Cond.instanceMethod ({ cls := "RoadPlugs$World", name := "priceNow", desc := "()I" } : Jvm.MethodName)) ∈ zk_tbl := zk_in 846 (by decide +kernel) rfl
theorem tw_847 : (Jvm.Cond.selects "RoadPlugs$World" ({ cls := "RoadPlugs$World", name := "priceNow", desc := "()I" } : Jvm.MethodName) ({ cls := "RoadPlugs$World", name := "priceNow", desc := "()I" } : Jvm.MethodName)) ∈ zk_tbl := zk_in 847 (by decide +kernel) rfl
theorem tw_848 : (Jvm.Cond.code ({ cls := "RoadPlugs$World", name := "priceNow", desc := "()I" } : Jvm.MethodName) prog_12_method_9_code (1 : Nat) (Option.some Jvm.ClassFile.FieldType.int)) ∈ zk_tbl := zk_in 848 (by decide +kernel) rfl
theorem tw_849 : (Jvm.Cond.methodLink "RoadPlugs$Stepper" (58 : Nat) ({ cls := "RoadPlugs$Stepper", name := "partAll", desc := "(LRoadPlugs$World;LRoadPlugs$Site;)V" } : Jvm.MethodName)) ∈ zk_tbl := zk_in 849 (by decide +kernel) rfl
theorem tw_851 : (Jvm.Cond.instanceMethod ({ cls := "RoadPlugs$Stepper", name := "partAll", desc := "(LRoadPlugs$World;LRoadPlugs$Site;)V" } : Jvm.MethodName)) ∈ zk_tbl := zk_in 851 (by decide +kernel) rfl
theorem tw_852 : (Jvm.Cond.code ({ cls := "RoadPlugs$Stepper", name := "partAll", desc := "(LRoadPlugs$World;LRoadPlugs$Site;)V" } : Jvm.MethodName) prog_9_method_12_code (6 : Nat) (Option.none : Option Jvm.ClassFile.FieldType)) ∈ zk_tbl := zk_in 852 (by decide +kernel) rfl
theorem tw_853 : (Jvm.Cond.methodLink "RoadPlugs$Stepper" (172 : Nat) ({ cls := "RoadPlugs$Stepper", name := "leaveOrIdle", desc := "(LRoadPlugs$World;LRoadPlugs$Site;IZ)V" } : Jvm.MethodName)) ∈ zk_tbl := zk_in 853 (by decide +kernel) rfl
theorem tw_854 : (Jvm.Cond.static ({ cls := "RoadPlugs$Stepper", name := "leaveOrIdle", desc := "(LRoadPlugs$World;LRoadPlugs$Site;IZ)V" } : Jvm.MethodName)) ∈ zk_tbl := zk_in 854 (by decide +kernel) rfl
theorem tw_855 : (Jvm.Cond.code ({ cls := "RoadPlugs$Stepper", name := "leaveOrIdle", desc := "(LRoadPlugs$World;LRoadPlugs$Site;IZ)V" } : Jvm.MethodName) prog_9_method_13_code (6 : Nat) (Option.none : Option Jvm.ClassFile.FieldType)) ∈ zk_tbl := zk_in 855 (by decide +kernel) rfl
theorem tw_856 : (Jvm.Cond.methodLink "RoadPlugs$Stepper" (182 : Nat) ({ cls := "RoadPlugs$World", name := "isAwaited", desc := "(LRoadPlugs$Site;I)Z" } : Jvm.MethodName)) ∈ zk_tbl := zk_in 856 (by decide +kernel) rfl
theorem tw_857 : (Jvm.Cond.instanceMethod ({ cls := "RoadPlugs$World", name := "isAwaited", desc := "(LRoadPlugs$Site;I)Z" } : Jvm.MethodName)) ∈ zk_tbl := zk_in 857 (by decide +kernel) rfl
theorem tw_858 : (Jvm.Cond.selects "RoadPlugs$World" ({ cls := "RoadPlugs$World", name := "isAwaited", desc := "(LRoadPlugs$Site;I)Z" } : Jvm.MethodName) ({ cls := "RoadPlugs$World", name := "isAwaited", desc := "(LRoadPlugs$Site;I)Z" } : Jvm.MethodName)) ∈ zk_tbl := zk_in 858 (by decide +kernel) rfl
theorem tw_859 : (Jvm.Cond.code ({ cls := "RoadPlugs$World", name := "isAwaited", desc := "(LRoadPlugs$Site;I)Z" } : Jvm.MethodName) prog_12_method_11_code (4 : Nat) (Option.some Jvm.ClassFile.FieldType.boolean)) ∈ zk_tbl := zk_in 859 (by decide +kernel) rfl
theorem tw_860 : (Jvm.Cond.methodLink "RoadPlugs$Stepper" (186 : Nat) ({ cls := "RoadPlugs$World", name := "sendAway", desc := "(I)V" } : Jvm.MethodName)) ∈ zk_tbl := zk_in 860 (by decide +kernel) rfl
theorem tw_861 : (Jvm.Cond.methodLink "RoadPlugs$Stepper" (189 : Nat) ({ cls := "RoadPlugs$Stepper", name := "idleOneTick", desc := "(LRoadPlugs$Site;LRoadPlugs$Car;)V" } : Jvm.MethodName)) ∈ zk_tbl := zk_in 861 (by decide +kernel) rfl
theorem tw_862 : (Jvm.Cond.static ({ cls := "RoadPlugs$Stepper", name := "idleOneTick", desc := "(LRoadPlugs$Site;LRoadPlugs$Car;)V" } : Jvm.MethodName)) ∈ zk_tbl := zk_in 862 (by decide +kernel) rfl
theorem tw_863 : (Jvm.Cond.code ({ cls := "RoadPlugs$Stepper", name := "idleOneTick", desc := "(LRoadPlugs$Site;LRoadPlugs$Car;)V" } : Jvm.MethodName) prog_9_method_14_code (2 : Nat) (Option.none : Option Jvm.ClassFile.FieldType)) ∈ zk_tbl := zk_in 863 (by decide +kernel) rfl
theorem tw_867 : (Jvm.Cond.code ({ cls := "RoadPlugs", name := "plugOf", desc := "(II)I" } : Jvm.MethodName) prog_1_method_18_code (4 : Nat) (Option.some Jvm.ClassFile.FieldType.int)) ∈ zk_tbl := zk_in 867 (by decide +kernel) rfl
theorem tw_868 : (Jvm.Cond.methodLink "RoadPlugs" (261 : Nat) ({ cls := "RoadPlugs$Tries", name := "isBroken", desc := "(I)Z" } : Jvm.MethodName)) ∈ zk_tbl := zk_in 868 (by decide +kernel) rfl
theorem tw_869 : (Jvm.Cond.methodLink "RoadPlugs" (269 : Nat) ({ cls := "RoadPlugs$Tries", name := "countOf", desc := "(I)I" } : Jvm.MethodName)) ∈ zk_tbl := zk_in 869 (by decide +kernel) rfl
theorem tw_870 : (Jvm.Cond.instanceMethod ({ cls := "RoadPlugs$Tries", name := "countOf", desc := "(I)I" } : Jvm.MethodName)) ∈ zk_tbl := zk_in 870 (by decide +kernel) rfl
theorem tw_871 : (Jvm.Cond.selects "RoadPlugs$Tries" ({ cls := "RoadPlugs$Tries", name := "countOf", desc := "(I)I" } : Jvm.MethodName) ({ cls := "RoadPlugs$Tries", name := "countOf", desc := "(I)I" } : Jvm.MethodName)) ∈ zk_tbl := zk_in 871 (by decide +kernel) rfl
theorem tw_872 : (Jvm.Cond.code ({ cls := "RoadPlugs$Tries", name := "countOf", desc := "(I)I" } : Jvm.MethodName) prog_11_method_5_code (4 : Nat) (Option.some Jvm.ClassFile.FieldType.int)) ∈ zk_tbl := zk_in 872 (by decide +kernel) rfl
theorem tw_876 : (Jvm.Cond.code ({ cls := "RoadPlugs", name := "says", desc := "(IZ)I" } : Jvm.MethodName) prog_1_method_19_code (4 : Nat) (Option.some Jvm.ClassFile.FieldType.int)) ∈ zk_tbl := zk_in 876 (by decide +kernel) rfl
theorem tw_880 : (Jvm.Cond.code ({ cls := "RoadPlugs", name := "tried", desc := "(IIZ)I" } : Jvm.MethodName) prog_1_method_20_code (4 : Nat) (Option.some Jvm.ClassFile.FieldType.int)) ∈ zk_tbl := zk_in 880 (by decide +kernel) rfl
theorem tw_881 : (Jvm.Cond.methodLink "RoadPlugs" (272 : Nat) ({ cls := "RoadPlugs$Tries", name := "addTry", desc := "(IIIZ)V" } : Jvm.MethodName)) ∈ zk_tbl := zk_in 881 (by decide +kernel) rfl
theorem tw_885 : (Jvm.Cond.code ({ cls := "RoadPlugs", name := "tryOf", desc := "(II)I" } : Jvm.MethodName) prog_1_method_21_code (4 : Nat) (Option.some Jvm.ClassFile.FieldType.int)) ∈ zk_tbl := zk_in 885 (by decide +kernel) rfl
theorem tw_886 : (Jvm.Cond.methodLink "RoadPlugs" (279 : Nat) ({ cls := "RoadPlugs$Tries", name := "slotOf", desc := "(I)I" } : Jvm.MethodName)) ∈ zk_tbl := zk_in 886 (by decide +kernel) rfl
theorem tw_890 : (Jvm.Cond.code ({ cls := "RoadPlugs", name := "lies", desc := "()I" } : Jvm.MethodName) prog_1_method_22_code (4 : Nat) (Option.some Jvm.ClassFile.FieldType.int)) ∈ zk_tbl := zk_in 890 (by decide +kernel) rfl
theorem tw_891 : (Jvm.Cond.methodLink "RoadPlugs" (292 : Nat) ({ cls := "RoadPlugs$Tries", name := "wentWellLast", desc := "(I)Z" } : Jvm.MethodName)) ∈ zk_tbl := zk_in 891 (by decide +kernel) rfl
theorem tw_892 : (Jvm.Cond.instanceMethod ({ cls := "RoadPlugs$Tries", name := "wentWellLast", desc := "(I)Z" } : Jvm.MethodName)) ∈ zk_tbl := zk_in 892 (by decide +kernel) rfl
theorem tw_893 : (Jvm.Cond.selects "RoadPlugs$Tries" ({ cls := "RoadPlugs$Tries", name := "wentWellLast", desc := "(I)Z" } : Jvm.MethodName) ({ cls := "RoadPlugs$Tries", name := "wentWellLast", desc := "(I)Z" } : Jvm.MethodName)) ∈ zk_tbl := zk_in 893 (by decide +kernel) rfl
theorem tw_894 : (Jvm.Cond.code ({ cls := "RoadPlugs$Tries", name := "wentWellLast", desc := "(I)Z" } : Jvm.MethodName) prog_11_method_7_code (4 : Nat) (Option.some Jvm.ClassFile.FieldType.boolean)) ∈ zk_tbl := zk_in 894 (by decide +kernel) rfl
theorem tw_898 : (Jvm.Cond.code ({ cls := "RoadPlugs", name := "advice", desc := "(III)I" } : Jvm.MethodName) prog_1_method_23_code (6 : Nat) (Option.some Jvm.ClassFile.FieldType.int)) ∈ zk_tbl := zk_in 898 (by decide +kernel) rfl
theorem tw_899 : (Jvm.Cond.methodLink "RoadPlugs" (295 : Nat) ({ cls := "RoadPlugs$Adviser", name := "advise", desc := "(LRoadPlugs$World;IIZ)V" } : Jvm.MethodName)) ∈ zk_tbl := zk_in 899 (by decide +kernel) rfl
theorem tw_9 : (Jvm.Cond.initialized "RoadPlugs$Planner") ∈ zk_tbl := zk_in 9 (by decide +kernel) rfl
theorem tw_900 : (Jvm.Cond.instanceMethod ({ cls := "RoadPlugs$Adviser", name := "advise", desc := "(LRoadPlugs$World;IIZ)V" } : Jvm.MethodName)) ∈ zk_tbl := zk_in 900 (by decide +kernel) rfl
theorem tw_901 : (Jvm.Cond.selects "RoadPlugs$Adviser" ({ cls := "RoadPlugs$Adviser", name := "advise", desc := "(LRoadPlugs$World;IIZ)V" } : Jvm.MethodName) ({ cls := "RoadPlugs$Adviser", name := "advise", desc := "(LRoadPlugs$World;IIZ)V" } : Jvm.MethodName)) ∈ zk_tbl := zk_in 901 (by decide +kernel) rfl
theorem tw_902 : (Jvm.Cond.code ({ cls := "RoadPlugs$Adviser", name := "advise", desc := "(LRoadPlugs$World;IIZ)V" } : Jvm.MethodName) prog_2_method_2_code (7 : Nat) (Option.none : Option Jvm.ClassFile.FieldType)) ∈ zk_tbl := zk_in 902 (by decide +kernel) rfl
theorem tw_903 : (Jvm.Cond.methodLink "RoadPlugs$Adviser" (40 : Nat) ({ cls := "RoadPlugs$Adviser", name := "leastTold", desc := "(LRoadPlugs$World;LRoadPlugs$Car;I)I" } : Jvm.MethodName)) ∈ zk_tbl := zk_in 903 (by decide +kernel) rfl
theorem tw_905 : (Jvm.Cond.instanceMethod ({ cls := "RoadPlugs$Adviser", name := "leastTold", desc := "(LRoadPlugs$World;LRoadPlugs$Car;I)I" } : Jvm.MethodName)) ∈ zk_tbl := zk_in 905 (by decide +kernel) rfl
theorem tw_906 : (Jvm.Cond.code ({ cls := "RoadPlugs$Adviser", name := "leastTold", desc := "(LRoadPlugs$World;LRoadPlugs$Car;I)I" } : Jvm.MethodName) prog_2_method_4_code (7 : Nat) (Option.some Jvm.ClassFile.FieldType.int)) ∈ zk_tbl := zk_in 906 (by decide +kernel) rfl
theorem tw_907 : (Jvm.Cond.methodLink "RoadPlugs$Adviser" (59 : Nat) ({ cls := "RoadPlugs$Adviser", name := "canReach", desc := "(LRoadPlugs$World;LRoadPlugs$Car;ILRoadPlugs$Site;)Z" } : Jvm.MethodName)) ∈ zk_tbl := zk_in 907 (by decide +kernel) rfl
theorem tw_908 : (Jvm.Cond.static ({ cls := "RoadPlugs$Adviser", name := "canReach", desc := "(LRoadPlugs$World;LRoadPlugs$Car;ILRoadPlugs$Site;)Z" } : Jvm.MethodName)) ∈ zk_tbl := zk_in 908 (by decide +kernel) rfl
theorem tw_909 : (Jvm.Cond.code ({ cls := "RoadPlugs$Adviser", name := "canReach", desc := "(LRoadPlugs$World;LRoadPlugs$Car;ILRoadPlugs$Site;)Z" } : Jvm.MethodName) prog_2_method_5_code (4 : Nat) (Option.some Jvm.ClassFile.FieldType.boolean)) ∈ zk_tbl := zk_in 909 (by decide +kernel) rfl
theorem tw_910 : (Jvm.Cond.methodLink "RoadPlugs$Adviser" (66 : Nat) ({ cls := "RoadPlugs$World", name := "chargeToDrive", desc := "(LRoadPlugs$Car;I)I" } : Jvm.MethodName)) ∈ zk_tbl := zk_in 910 (by decide +kernel) rfl
theorem tw_911 : (Jvm.Cond.methodLink "RoadPlugs$Adviser" (78 : Nat) ({ cls := "RoadPlugs$World", name := "mostThatServes", desc := "(LRoadPlugs$Site;I)I" } : Jvm.MethodName)) ∈ zk_tbl := zk_in 911 (by decide +kernel) rfl
theorem tw_913 : (Jvm.Cond.methodLink "RoadPlugs" (299 : Nat) ({ cls := "RoadPlugs$Adviser", name := "mostAtOneSite", desc := "()I" } : Jvm.MethodName)) ∈ zk_tbl := zk_in 913 (by decide +kernel) rfl
theorem tw_914 : (Jvm.Cond.instanceMethod ({ cls := "RoadPlugs$Adviser", name := "mostAtOneSite", desc := "()I" } : Jvm.MethodName)) ∈ zk_tbl := zk_in 914 (by decide +kernel) rfl
theorem tw_915 : (Jvm.Cond.selects "RoadPlugs$Adviser" ({ cls := "RoadPlugs$Adviser", name := "mostAtOneSite", desc := "()I" } : Jvm.MethodName) ({ cls := "RoadPlugs$Adviser", name := "mostAtOneSite", desc := "()I" } : Jvm.MethodName)) ∈ zk_tbl := zk_in 915 (by decide +kernel) rfl
theorem tw_916 : (Jvm.Cond.code ({ cls := "RoadPlugs$Adviser", name := "mostAtOneSite", desc := "()I" } : Jvm.MethodName) prog_2_method_3_code (3 : Nat) (Option.some Jvm.ClassFile.FieldType.int)) ∈ zk_tbl := zk_in 916 (by decide +kernel) rfl
theorem tw_917 : (Jvm.Cond.methodLink "RoadPlugs$Adviser" (51 : Nat) ({ cls := "java/lang/Math", name := "max", desc := "(II)I" } : Jvm.MethodName)) ∈ zk_tbl := zk_in 917 (by decide +kernel) rfl
theorem tw_921 : (Jvm.Cond.code ({ cls := "RoadPlugs", name := "line", desc := "(ZIII)I" } : Jvm.MethodName) prog_1_method_24_code (6 : Nat) (Option.some Jvm.ClassFile.FieldType.int)) ∈ zk_tbl := zk_in 921 (by decide +kernel) rfl
theorem tw_922 : (Jvm.Cond.methodLink "RoadPlugs" (315 : Nat) ({ cls := "RoadPlugs$Book", name := "addLine", desc := "(III)V" } : Jvm.MethodName)) ∈ zk_tbl := zk_in 922 (by decide +kernel) rfl
theorem tw_923 : (Jvm.Cond.instanceMethod ({ cls := "RoadPlugs$Book", name := "addLine", desc := "(III)V" } : Jvm.MethodName)) ∈ zk_tbl := zk_in 923 (by decide +kernel) rfl
theorem tw_924 : (Jvm.Cond.selects "RoadPlugs$Book" ({ cls := "RoadPlugs$Book", name := "addLine", desc := "(III)V" } : Jvm.MethodName) ({ cls := "RoadPlugs$Book", name := "addLine", desc := "(III)V" } : Jvm.MethodName)) ∈ zk_tbl := zk_in 924 (by decide +kernel) rfl
theorem tw_925 : (Jvm.Cond.code ({ cls := "RoadPlugs$Book", name := "addLine", desc := "(III)V" } : Jvm.MethodName) prog_3_method_3_code (4 : Nat) (Option.none : Option Jvm.ClassFile.FieldType)) ∈ zk_tbl := zk_in 925 (by decide +kernel) rfl
theorem tw_929 : (Jvm.Cond.code ({ cls := "RoadPlugs", name := "joined", desc := "(I)I" } : Jvm.MethodName) prog_1_method_25_code (2 : Nat) (Option.some Jvm.ClassFile.FieldType.int)) ∈ zk_tbl := zk_in 929 (by decide +kernel) rfl
theorem tw_930 : (Jvm.Cond.methodLink "RoadPlugs" (319 : Nat) ({ cls := "RoadPlugs$Joiner", name := "join", desc := "(LRoadPlugs$Book;LRoadPlugs$Book;I)V" } : Jvm.MethodName)) ∈ zk_tbl := zk_in 930 (by decide +kernel) rfl
theorem tw_931 : (Jvm.Cond.instanceMethod ({ cls := "RoadPlugs$Joiner", name := "join", desc := "(LRoadPlugs$Book;LRoadPlugs$Book;I)V" } : Jvm.MethodName)) ∈ zk_tbl := zk_in 931 (by decide +kernel) rfl
theorem tw_932 : (Jvm.Cond.selects "RoadPlugs$Joiner" ({ cls := "RoadPlugs$Joiner", name := "join", desc := "(LRoadPlugs$Book;LRoadPlugs$Book;I)V" } : Jvm.MethodName) ({ cls := "RoadPlugs$Joiner", name := "join", desc := "(LRoadPlugs$Book;LRoadPlugs$Book;I)V" } : Jvm.MethodName)) ∈ zk_tbl := zk_in 932 (by decide +kernel) rfl
theorem tw_933 : (Jvm.Cond.code ({ cls := "RoadPlugs$Joiner", name := "join", desc := "(LRoadPlugs$Book;LRoadPlugs$Book;I)V" } : Jvm.MethodName) prog_5_method_2_code (7 : Nat) (Option.none : Option Jvm.ClassFile.FieldType)) ∈ zk_tbl := zk_in 933 (by decide +kernel) rfl
theorem tw_934 : (Jvm.Cond.methodLink "RoadPlugs$Joiner" (23 : Nat) ({ cls := "RoadPlugs$Joiner", name := "scorePairs", desc := "(LRoadPlugs$Book;LRoadPlugs$Book;I)V" } : Jvm.MethodName)) ∈ zk_tbl := zk_in 934 (by decide +kernel) rfl
theorem tw_936 : (Jvm.Cond.instanceMethod ({ cls := "RoadPlugs$Joiner", name := "scorePairs", desc := "(LRoadPlugs$Book;LRoadPlugs$Book;I)V" } : Jvm.MethodName)) ∈ zk_tbl := zk_in 936 (by decide +kernel) rfl
theorem tw_937 : (Jvm.Cond.code ({ cls := "RoadPlugs$Joiner", name := "scorePairs", desc := "(LRoadPlugs$Book;LRoadPlugs$Book;I)V" } : Jvm.MethodName) prog_5_method_3_code (8 : Nat) (Option.none : Option Jvm.ClassFile.FieldType)) ∈ zk_tbl := zk_in 937 (by decide +kernel) rfl
theorem tw_938 : (Jvm.Cond.methodLink "RoadPlugs$Joiner" (44 : Nat) ({ cls := "java/lang/Math", name := "abs", desc := "(I)I" } : Jvm.MethodName)) ∈ zk_tbl := zk_in 938 (by decide +kernel) rfl
theorem tw_939 : (Jvm.Cond.static ({ cls := "java/lang/Math", name := "abs", desc := "(I)I" } : Jvm.MethodName)) ∈ zk_tbl := zk_in 939 (by decide +kernel) rfl
theorem tw_940 : (Jvm.Cond.code ({ cls := "java/lang/Math", name := "abs", desc := "(I)I" } : Jvm.MethodName) prog_16_method_59_code (1 : Nat) (Option.some Jvm.ClassFile.FieldType.int)) ∈ zk_tbl := zk_in 940 (by decide +kernel) rfl
theorem tw_941 : (Jvm.Cond.methodLink "RoadPlugs$Joiner" (33 : Nat) ({ cls := "RoadPlugs$Joiner", name := "bestFrom", desc := "(III)I" } : Jvm.MethodName)) ∈ zk_tbl := zk_in 941 (by decide +kernel) rfl
theorem tw_943 : (Jvm.Cond.instanceMethod ({ cls := "RoadPlugs$Joiner", name := "bestFrom", desc := "(III)I" } : Jvm.MethodName)) ∈ zk_tbl := zk_in 943 (by decide +kernel) rfl
theorem tw_944 : (Jvm.Cond.code ({ cls := "RoadPlugs$Joiner", name := "bestFrom", desc := "(III)I" } : Jvm.MethodName) prog_5_method_5_code (6 : Nat) (Option.some Jvm.ClassFile.FieldType.int)) ∈ zk_tbl := zk_in 944 (by decide +kernel) rfl
theorem tw_945 : (Jvm.Cond.methodLink "RoadPlugs$Joiner" (56 : Nat) ({ cls := "RoadPlugs$Joiner", name := "isFree", desc := "(III)Z" } : Jvm.MethodName)) ∈ zk_tbl := zk_in 945 (by decide +kernel) rfl
theorem tw_947 : (Jvm.Cond.instanceMethod ({ cls := "RoadPlugs$Joiner", name := "isFree", desc := "(III)Z" } : Jvm.MethodName)) ∈ zk_tbl := zk_in 947 (by decide +kernel) rfl
theorem tw_948 : (Jvm.Cond.code ({ cls := "RoadPlugs$Joiner", name := "isFree", desc := "(III)Z" } : Jvm.MethodName) prog_5_method_4_code (4 : Nat) (Option.some Jvm.ClassFile.FieldType.boolean)) ∈ zk_tbl := zk_in 948 (by decide +kernel) rfl
theorem tw_949 : (Jvm.Cond.methodLink "RoadPlugs$Joiner" (60 : Nat) ({ cls := "java/lang/Math", name := "max", desc := "(II)I" } : Jvm.MethodName)) ∈ zk_tbl := zk_in 949 (by decide +kernel) rfl
theorem tw_950 : (Jvm.Cond.methodLink "RoadPlugs$Joiner" (37 : Nat) ({ cls := "RoadPlugs$Joiner", name := "followBest", desc := "(II)V" } : Jvm.MethodName)) ∈ zk_tbl := zk_in 950 (by decide +kernel) rfl
theorem tw_952 : (Jvm.Cond.instanceMethod ({ cls := "RoadPlugs$Joiner", name := "followBest", desc := "(II)V" } : Jvm.MethodName)) ∈ zk_tbl := zk_in 952 (by decide +kernel) rfl
theorem tw_953 : (Jvm.Cond.code ({ cls := "RoadPlugs$Joiner", name := "followBest", desc := "(II)V" } : Jvm.MethodName) prog_5_method_6_code (6 : Nat) (Option.none : Option Jvm.ClassFile.FieldType)) ∈ zk_tbl := zk_in 953 (by decide +kernel) rfl
theorem tw_957 : (Jvm.Cond.code ({ cls := "RoadPlugs", name := "clear", desc := "()I" } : Jvm.MethodName) prog_1_method_26_code (2 : Nat) (Option.some Jvm.ClassFile.FieldType.int)) ∈ zk_tbl := zk_in 957 (by decide +kernel) rfl
theorem tw_961 : (Jvm.Cond.code ({ cls := "RoadPlugs", name := "many", desc := "(I)I" } : Jvm.MethodName) prog_1_method_27_code (2 : Nat) (Option.some Jvm.ClassFile.FieldType.int)) ∈ zk_tbl := zk_in 961 (by decide +kernel) rfl
theorem tw_962 : (Jvm.Cond.methodLink "RoadPlugs" (332 : Nat) ({ cls := "RoadPlugs$World", name := "carsInQueues", desc := "()I" } : Jvm.MethodName)) ∈ zk_tbl := zk_in 962 (by decide +kernel) rfl
theorem tw_963 : (Jvm.Cond.instanceMethod ({ cls := "RoadPlugs$World", name := "carsInQueues", desc := "()I" } : Jvm.MethodName)) ∈ zk_tbl := zk_in 963 (by decide +kernel) rfl
theorem tw_964 : (Jvm.Cond.selects "RoadPlugs$World" ({ cls := "RoadPlugs$World", name := "carsInQueues", desc := "()I" } : Jvm.MethodName) ({ cls := "RoadPlugs$World", name := "carsInQueues", desc := "()I" } : Jvm.MethodName)) ∈ zk_tbl := zk_in 964 (by decide +kernel) rfl
theorem tw_965 : (Jvm.Cond.code ({ cls := "RoadPlugs$World", name := "carsInQueues", desc := "()I" } : Jvm.MethodName) prog_12_method_14_code (3 : Nat) (Option.some Jvm.ClassFile.FieldType.int)) ∈ zk_tbl := zk_in 965 (by decide +kernel) rfl
theorem tw_966 : (Jvm.Cond.methodLink "RoadPlugs" (335 : Nat) ({ cls := "RoadPlugs$World", name := "carsAtPlugs", desc := "()I" } : Jvm.MethodName)) ∈ zk_tbl := zk_in 966 (by decide +kernel) rfl
theorem tw_967 : (Jvm.Cond.instanceMethod ({ cls := "RoadPlugs$World", name := "carsAtPlugs", desc := "()I" } : Jvm.MethodName)) ∈ zk_tbl := zk_in 967 (by decide +kernel) rfl
theorem tw_968 : (Jvm.Cond.selects "RoadPlugs$World" ({ cls := "RoadPlugs$World", name := "carsAtPlugs", desc := "()I" } : Jvm.MethodName) ({ cls := "RoadPlugs$World", name := "carsAtPlugs", desc := "()I" } : Jvm.MethodName)) ∈ zk_tbl := zk_in 968 (by decide +kernel) rfl
theorem tw_969 : (Jvm.Cond.code ({ cls := "RoadPlugs$World", name := "carsAtPlugs", desc := "()I" } : Jvm.MethodName) prog_12_method_15_code (3 : Nat) (Option.some Jvm.ClassFile.FieldType.int)) ∈ zk_tbl := zk_in 969 (by decide +kernel) rfl
theorem tw_970 : (Jvm.Cond.methodLink "RoadPlugs" (338 : Nat) ({ cls := "RoadPlugs$World", name := "paidByAll", desc := "()I" } : Jvm.MethodName)) ∈ zk_tbl := zk_in 970 (by decide +kernel) rfl
theorem tw_971 : (Jvm.Cond.instanceMethod ({ cls := "RoadPlugs$World", name := "paidByAll", desc := "()I" } : Jvm.MethodName)) ∈ zk_tbl := zk_in 971 (by decide +kernel) rfl
theorem tw_972 : (Jvm.Cond.selects "RoadPlugs$World" ({ cls := "RoadPlugs$World", name := "paidByAll", desc := "()I" } : Jvm.MethodName) ({ cls := "RoadPlugs$World", name := "paidByAll", desc := "()I" } : Jvm.MethodName)) ∈ zk_tbl := zk_in 972 (by decide +kernel) rfl
theorem tw_973 : (Jvm.Cond.code ({ cls := "RoadPlugs$World", name := "paidByAll", desc := "()I" } : Jvm.MethodName) prog_12_method_16_code (3 : Nat) (Option.some Jvm.ClassFile.FieldType.int)) ∈ zk_tbl := zk_in 973 (by decide +kernel) rfl
theorem tw_977 : (Jvm.Cond.code ({ cls := "RoadPlugs", name := "keep", desc := "()I" } : Jvm.MethodName) prog_1_method_28_code (1 : Nat) (Option.some Jvm.ClassFile.FieldType.int)) ∈ zk_tbl := zk_in 977 (by decide +kernel) rfl
theorem tw_978 : (Jvm.Cond.methodLink "RoadPlugs" (341 : Nat) ({ cls := "RoadPlugs$World", name := "copyFrom", desc := "(LRoadPlugs$World;)V" } : Jvm.MethodName)) ∈ zk_tbl := zk_in 978 (by decide +kernel) rfl
theorem tw_979 : (Jvm.Cond.instanceMethod ({ cls := "RoadPlugs$World", name := "copyFrom", desc := "(LRoadPlugs$World;)V" } : Jvm.MethodName)) ∈ zk_tbl := zk_in 979 (by decide +kernel) rfl
theorem tw_980 : (Jvm.Cond.selects "RoadPlugs$World" ({ cls := "RoadPlugs$World", name := "copyFrom", desc := "(LRoadPlugs$World;)V" } : Jvm.MethodName) ({ cls := "RoadPlugs$World", name := "copyFrom", desc := "(LRoadPlugs$World;)V" } : Jvm.MethodName)) ∈ zk_tbl := zk_in 980 (by decide +kernel) rfl
theorem tw_981 : (Jvm.Cond.code ({ cls := "RoadPlugs$World", name := "copyFrom", desc := "(LRoadPlugs$World;)V" } : Jvm.MethodName) prog_12_method_2_code (3 : Nat) (Option.none : Option Jvm.ClassFile.FieldType)) ∈ zk_tbl := zk_in 981 (by decide +kernel) rfl
theorem tw_982 : (Jvm.Cond.methodLink "RoadPlugs$World" (53 : Nat) ({ cls := "RoadPlugs$Site", name := "copyFrom", desc := "(LRoadPlugs$Site;)V" } : Jvm.MethodName)) ∈ zk_tbl := zk_in 982 (by decide +kernel) rfl
theorem tw_983 : (Jvm.Cond.instanceMethod ({ cls := "RoadPlugs$Site", name := "copyFrom", desc := "(LRoadPlugs$Site;)V" } : Jvm.MethodName)) ∈ zk_tbl := zk_in 983 (by decide +kernel) rfl
theorem tw_984 : (Jvm.Cond.selects "RoadPlugs$Site" ({ cls := "RoadPlugs$Site", name := "copyFrom", desc := "(LRoadPlugs$Site;)V" } : Jvm.MethodName) ({ cls := "RoadPlugs$Site", name := "copyFrom", desc := "(LRoadPlugs$Site;)V" } : Jvm.MethodName)) ∈ zk_tbl := zk_in 984 (by decide +kernel) rfl
theorem tw_985 : (Jvm.Cond.code ({ cls := "RoadPlugs$Site", name := "copyFrom", desc := "(LRoadPlugs$Site;)V" } : Jvm.MethodName) prog_8_method_2_code (2 : Nat) (Option.none : Option Jvm.ClassFile.FieldType)) ∈ zk_tbl := zk_in 985 (by decide +kernel) rfl
theorem tw_986 : (Jvm.Cond.methodLink "RoadPlugs$Site" (50 : Nat) ({ cls := "java/lang/System", name := "arraycopy", desc := "(Ljava/lang/Object;ILjava/lang/Object;II)V" } : Jvm.MethodName)) ∈ zk_tbl := zk_in 986 (by decide +kernel) rfl
theorem tw_987 : (Jvm.Cond.static ({ cls := "java/lang/System", name := "arraycopy", desc := "(Ljava/lang/Object;ILjava/lang/Object;II)V" } : Jvm.MethodName)) ∈ zk_tbl := zk_in 987 (by decide +kernel) rfl
theorem tw_988 : (Jvm.Cond.native ({ cls := "java/lang/System", name := "arraycopy", desc := "(Ljava/lang/Object;ILjava/lang/Object;II)V" } : Jvm.MethodName)) ∈ zk_tbl := zk_in 988 (by decide +kernel) rfl
theorem tw_989 : (Jvm.Cond.methodLink "RoadPlugs$World" (57 : Nat) ({ cls := "RoadPlugs$Plug", name := "copyFrom", desc := "(LRoadPlugs$Plug;)V" } : Jvm.MethodName)) ∈ zk_tbl := zk_in 989 (by decide +kernel) rfl
theorem tw_990 : (Jvm.Cond.instanceMethod ({ cls := "RoadPlugs$Plug", name := "copyFrom", desc := "(LRoadPlugs$Plug;)V" } : Jvm.MethodName)) ∈ zk_tbl := zk_in 990 (by decide +kernel) rfl
theorem tw_991 : (Jvm.Cond.selects "RoadPlugs$Plug" ({ cls := "RoadPlugs$Plug", name := "copyFrom", desc := "(LRoadPlugs$Plug;)V" } : Jvm.MethodName) ({ cls := "RoadPlugs$Plug", name := "copyFrom", desc := "(LRoadPlugs$Plug;)V" } : Jvm.MethodName)) ∈ zk_tbl := zk_in 991 (by decide +kernel) rfl
theorem tw_992 : (Jvm.Cond.code ({ cls := "RoadPlugs$Plug", name := "copyFrom", desc := "(LRoadPlugs$Plug;)V" } : Jvm.MethodName) prog_7_method_2_code (2 : Nat) (Option.none : Option Jvm.ClassFile.FieldType)) ∈ zk_tbl := zk_in 992 (by decide +kernel) rfl
theorem tw_993 : (Jvm.Cond.methodLink "RoadPlugs$World" (60 : Nat) ({ cls := "RoadPlugs$Car", name := "copyFrom", desc := "(LRoadPlugs$Car;)V" } : Jvm.MethodName)) ∈ zk_tbl := zk_in 993 (by decide +kernel) rfl
theorem tw_994 : (Jvm.Cond.instanceMethod ({ cls := "RoadPlugs$Car", name := "copyFrom", desc := "(LRoadPlugs$Car;)V" } : Jvm.MethodName)) ∈ zk_tbl := zk_in 994 (by decide +kernel) rfl
theorem tw_995 : (Jvm.Cond.selects "RoadPlugs$Car" ({ cls := "RoadPlugs$Car", name := "copyFrom", desc := "(LRoadPlugs$Car;)V" } : Jvm.MethodName) ({ cls := "RoadPlugs$Car", name := "copyFrom", desc := "(LRoadPlugs$Car;)V" } : Jvm.MethodName)) ∈ zk_tbl := zk_in 995 (by decide +kernel) rfl
theorem tw_996 : (Jvm.Cond.code ({ cls := "RoadPlugs$Car", name := "copyFrom", desc := "(LRoadPlugs$Car;)V" } : Jvm.MethodName) prog_4_method_2_code (2 : Nat) (Option.none : Option Jvm.ClassFile.FieldType)) ∈ zk_tbl := zk_in 996 (by decide +kernel) rfl
theorem tw_997 : (Jvm.Cond.methodLink "RoadPlugs$World" (63 : Nat) ({ cls := "java/lang/System", name := "arraycopy", desc := "(Ljava/lang/Object;ILjava/lang/Object;II)V" } : Jvm.MethodName)) ∈ zk_tbl := zk_in 997 (by decide +kernel) rfl
theorem tw_998 : (Jvm.Cond.methodLink "RoadPlugs$World" (69 : Nat) ({ cls := "RoadPlugs$Tries", name := "copyFrom", desc := "(LRoadPlugs$Tries;)V" } : Jvm.MethodName)) ∈ zk_tbl := zk_in 998 (by decide +kernel) rfl
theorem tw_999 : (Jvm.Cond.instanceMethod ({ cls := "RoadPlugs$Tries", name := "copyFrom", desc := "(LRoadPlugs$Tries;)V" } : Jvm.MethodName)) ∈ zk_tbl := zk_in 999 (by decide +kernel) rfl
theorem tw_101 : (Jvm.Cond.fieldLink "RoadPlugs$Site" (25 : Nat) "RoadPlugs$Site" "km" "I") ∈ zk_tbl := zk_in 101 (by decide +kernel) rfl
theorem tw_1018 : (Jvm.Cond.fieldLink "RoadPlugsModel" (7 : Nat) "RoadPlugsModel" "numbers" "[I") ∈ zk_tbl := zk_in 1018 (by decide +kernel) rfl
theorem tw_1019 : (Jvm.Cond.fieldLink "RoadPlugsModel" (13 : Nat) "RoadPlugsModel" "sites" "[I") ∈ zk_tbl := zk_in 1019 (by decide +kernel) rfl
theorem tw_102 : (Jvm.Cond.fieldLink "RoadPlugs" (70 : Nat) "RoadPlugs$Site" "km" "I") ∈ zk_tbl := zk_in 102 (by decide +kernel) rfl
theorem tw_1020 : (Jvm.Cond.fieldLink "RoadPlugsModel" (16 : Nat) "RoadPlugsModel" "queues" "[I") ∈ zk_tbl := zk_in 1020 (by decide +kernel) rfl
theorem tw_1021 : (Jvm.Cond.fieldLink "RoadPlugsModel" (19 : Nat) "RoadPlugsModel" "plugs" "[I") ∈ zk_tbl := zk_in 1021 (by decide +kernel) rfl
theorem tw_1022 : (Jvm.Cond.fieldLink "RoadPlugsModel" (22 : Nat) "RoadPlugsModel" "cars" "[I") ∈ zk_tbl := zk_in 1022 (by decide +kernel) rfl
theorem tw_1023 : (Jvm.Cond.fieldLink "RoadPlugsModel" (25 : Nat) "RoadPlugsModel" "prices" "[I") ∈ zk_tbl := zk_in 1023 (by decide +kernel) rfl
theorem tw_1024 : (Jvm.Cond.fieldLink "RoadPlugsModel" (28 : Nat) "RoadPlugsModel" "tries" "[I") ∈ zk_tbl := zk_in 1024 (by decide +kernel) rfl
theorem tw_1025 : (Jvm.Cond.fieldLink "RoadPlugsModel" (31 : Nat) "RoadPlugsModel" "lines" "[I") ∈ zk_tbl := zk_in 1025 (by decide +kernel) rfl
theorem tw_1026 : (Jvm.Cond.fieldLink "RoadPlugsModel" (34 : Nat) "RoadPlugsModel" "bestTicks" "[I") ∈ zk_tbl := zk_in 1026 (by decide +kernel) rfl
theorem tw_1027 : (Jvm.Cond.fieldLink "RoadPlugsModel" (37 : Nat) "RoadPlugsModel" "bestStops" "[I") ∈ zk_tbl := zk_in 1027 (by decide +kernel) rfl
theorem tw_1028 : (Jvm.Cond.fieldLink "RoadPlugsModel" (40 : Nat) "RoadPlugsModel" "bestStay" "[I") ∈ zk_tbl := zk_in 1028 (by decide +kernel) rfl
theorem tw_1029 : (Jvm.Cond.fieldLink "RoadPlugsModel" (43 : Nat) "RoadPlugsModel" "wayKm" "[I") ∈ zk_tbl := zk_in 1029 (by decide +kernel) rfl
theorem tw_103 : (Jvm.Cond.fieldLink "RoadPlugs$Planner" (75 : Nat) "RoadPlugs$Site" "km" "I") ∈ zk_tbl := zk_in 103 (by decide +kernel) rfl
theorem tw_1030 : (Jvm.Cond.fieldLink "RoadPlugsModel" (46 : Nat) "RoadPlugsModel" "waySite" "[I") ∈ zk_tbl := zk_in 1030 (by decide +kernel) rfl
theorem tw_1031 : (Jvm.Cond.fieldLink "RoadPlugsModel" (49 : Nat) "RoadPlugsModel" "wayPlug" "[I") ∈ zk_tbl := zk_in 1031 (by decide +kernel) rfl
theorem tw_1032 : (Jvm.Cond.fieldLink "RoadPlugsModel" (118 : Nat) "RoadPlugsModel" "ways" "I") ∈ zk_tbl := zk_in 1032 (by decide +kernel) rfl
theorem tw_1033 : (Jvm.Cond.fieldLink "RoadPlugsModel" (126 : Nat) "RoadPlugsModel" "goTicks" "I") ∈ zk_tbl := zk_in 1033 (by decide +kernel) rfl
theorem tw_1034 : (Jvm.Cond.fieldLink "RoadPlugsModel" (129 : Nat) "RoadPlugsModel" "goStops" "I") ∈ zk_tbl := zk_in 1034 (by decide +kernel) rfl
theorem tw_1035 : (Jvm.Cond.fieldLink "RoadPlugsModel" (52 : Nat) "RoadPlugsModel" "tape" "[I") ∈ zk_tbl := zk_in 1035 (by decide +kernel) rfl
theorem tw_1036 : (Jvm.Cond.fieldLink "RoadPlugsModel" (145 : Nat) "RoadPlugsModel" "tapeMany" "I") ∈ zk_tbl := zk_in 1036 (by decide +kernel) rfl
theorem tw_1037 : (Jvm.Cond.fieldLink "RoadPlugsModel" (159 : Nat) "RoadPlugsModel" "tokenKind" "I") ∈ zk_tbl := zk_in 1037 (by decide +kernel) rfl
theorem tw_1038 : (Jvm.Cond.fieldLink "RoadPlugsModel" (153 : Nat) "RoadPlugsModel" "tokenAt" "I") ∈ zk_tbl := zk_in 1038 (by decide +kernel) rfl
theorem tw_1039 : (Jvm.Cond.fieldLink "RoadPlugsModel" (150 : Nat) "RoadPlugsModel" "tokenEnd" "I") ∈ zk_tbl := zk_in 1039 (by decide +kernel) rfl
theorem tw_104 : (Jvm.Cond.fieldLink "RoadPlugs$Adviser" (63 : Nat) "RoadPlugs$Site" "km" "I") ∈ zk_tbl := zk_in 104 (by decide +kernel) rfl
theorem tw_1040 : (Jvm.Cond.fieldLink "RoadPlugsModel" (156 : Nat) "RoadPlugsModel" "tokenValue" "I") ∈ zk_tbl := zk_in 1040 (by decide +kernel) rfl
theorem tw_1041 : (Jvm.Cond.fieldLink "RoadPlugsModel" (168 : Nat) "RoadPlugsModel" "fault" "I") ∈ zk_tbl := zk_in 1041 (by decide +kernel) rfl
theorem tw_1042 : (Jvm.Cond.fieldLink "RoadPlugsModel" (55 : Nat) "RoadPlugsModel" "asks" "[I") ∈ zk_tbl := zk_in 1042 (by decide +kernel) rfl
theorem tw_1043 : (Jvm.Cond.fieldLink "RoadPlugsModel" (58 : Nat) "RoadPlugsModel" "gets" "[I") ∈ zk_tbl := zk_in 1043 (by decide +kernel) rfl
theorem tw_1044 : (Jvm.Cond.fieldLink "RoadPlugsModel" (61 : Nat) "RoadPlugsModel" "told" "[I") ∈ zk_tbl := zk_in 1044 (by decide +kernel) rfl
theorem tw_1045 : (Jvm.Cond.fieldLink "RoadPlugsModel" (64 : Nat) "RoadPlugsModel" "comers" "[I") ∈ zk_tbl := zk_in 1045 (by decide +kernel) rfl
theorem tw_1046 : (Jvm.Cond.fieldLink "RoadPlugsModel" (67 : Nat) "RoadPlugsModel" "advised" "[I") ∈ zk_tbl := zk_in 1046 (by decide +kernel) rfl
theorem tw_1047 : (Jvm.Cond.fieldLink "RoadPlugsModel" (70 : Nat) "RoadPlugsModel" "best" "[I") ∈ zk_tbl := zk_in 1047 (by decide +kernel) rfl
theorem tw_1048 : (Jvm.Cond.fieldLink "RoadPlugsModel" (280 : Nat) "RoadPlugsModel" "isKept" "Z") ∈ zk_tbl := zk_in 1048 (by decide +kernel) rfl
theorem tw_1049 : (Jvm.Cond.fieldLink "RoadPlugsModel" (73 : Nat) "RoadPlugsModel" "kept" "[I") ∈ zk_tbl := zk_in 1049 (by decide +kernel) rfl
theorem tw_105 : (Jvm.Cond.fieldLink "RoadPlugs$Site" (28 : Nat) "RoadPlugs$Site" "power" "I") ∈ zk_tbl := zk_in 105 (by decide +kernel) rfl
theorem tw_1050 : (Jvm.Cond.fieldLink "RoadPlugsModel" (269 : Nat) "RoadPlugsModel" "place" "I") ∈ zk_tbl := zk_in 1050 (by decide +kernel) rfl
theorem tw_106 : (Jvm.Cond.fieldLink "RoadPlugs" (75 : Nat) "RoadPlugs$Site" "power" "I") ∈ zk_tbl := zk_in 106 (by decide +kernel) rfl
theorem tw_107 : (Jvm.Cond.fieldLink "RoadPlugs$Stepper" (152 : Nat) "RoadPlugs$Site" "power" "I") ∈ zk_tbl := zk_in 107 (by decide +kernel) rfl
theorem tw_108 : (Jvm.Cond.fieldLink "RoadPlugs$Site" (31 : Nat) "RoadPlugs$Site" "waitTold" "I") ∈ zk_tbl := zk_in 108 (by decide +kernel) rfl
theorem tw_109 : (Jvm.Cond.fieldLink "RoadPlugs$Adviser" (27 : Nat) "RoadPlugs$Site" "waitTold" "I") ∈ zk_tbl := zk_in 109 (by decide +kernel) rfl
theorem tw_110 : (Jvm.Cond.fieldLink "RoadPlugs" (136 : Nat) "RoadPlugs$Site" "waitTold" "I") ∈ zk_tbl := zk_in 110 (by decide +kernel) rfl
theorem tw_111 : (Jvm.Cond.fieldLink "RoadPlugs$Planner" (98 : Nat) "RoadPlugs$Site" "waitTold" "I") ∈ zk_tbl := zk_in 111 (by decide +kernel) rfl
theorem tw_112 : (Jvm.Cond.fieldLink "RoadPlugs$Site" (34 : Nat) "RoadPlugs$Site" "given" "I") ∈ zk_tbl := zk_in 112 (by decide +kernel) rfl
theorem tw_113 : (Jvm.Cond.fieldLink "RoadPlugs$Stepper" (168 : Nat) "RoadPlugs$Site" "given" "I") ∈ zk_tbl := zk_in 113 (by decide +kernel) rfl
theorem tw_114 : (Jvm.Cond.fieldLink "RoadPlugs" (225 : Nat) "RoadPlugs$Site" "given" "I") ∈ zk_tbl := zk_in 114 (by decide +kernel) rfl
theorem tw_115 : (Jvm.Cond.fieldLink "RoadPlugs$Site" (37 : Nat) "RoadPlugs$Site" "sharesFirst" "Z") ∈ zk_tbl := zk_in 115 (by decide +kernel) rfl
theorem tw_116 : (Jvm.Cond.fieldLink "RoadPlugs$Stepper" (42 : Nat) "RoadPlugs$Site" "sharesFirst" "Z") ∈ zk_tbl := zk_in 116 (by decide +kernel) rfl
theorem tw_117 : (Jvm.Cond.fieldLink "RoadPlugs$Tape" (50 : Nat) "RoadPlugs$Site" "sharesFirst" "Z") ∈ zk_tbl := zk_in 117 (by decide +kernel) rfl
theorem tw_118 : (Jvm.Cond.fieldLink "RoadPlugs" (210 : Nat) "RoadPlugs$Site" "sharesFirst" "Z") ∈ zk_tbl := zk_in 118 (by decide +kernel) rfl
theorem tw_119 : (Jvm.Cond.fieldLink "RoadPlugs$Site" (9 : Nat) "RoadPlugs$Site" "cap" "I") ∈ zk_tbl := zk_in 119 (by decide +kernel) rfl
theorem tw_120 : (Jvm.Cond.fieldLink "RoadPlugs$Tape" (56 : Nat) "RoadPlugs$Site" "cap" "I") ∈ zk_tbl := zk_in 120 (by decide +kernel) rfl
theorem tw_121 : (Jvm.Cond.fieldLink "RoadPlugs" (213 : Nat) "RoadPlugs$Site" "cap" "I") ∈ zk_tbl := zk_in 121 (by decide +kernel) rfl
theorem tw_122 : (Jvm.Cond.fieldLink "RoadPlugs$Stepper" (176 : Nat) "RoadPlugs$Site" "cap" "I") ∈ zk_tbl := zk_in 122 (by decide +kernel) rfl
theorem tw_123 : (Jvm.Cond.fieldLink "RoadPlugs$Site" (41 : Nat) "RoadPlugs$Site" "idlePrice" "I") ∈ zk_tbl := zk_in 123 (by decide +kernel) rfl
theorem tw_124 : (Jvm.Cond.fieldLink "RoadPlugs$Tape" (59 : Nat) "RoadPlugs$Site" "idlePrice" "I") ∈ zk_tbl := zk_in 124 (by decide +kernel) rfl
theorem tw_125 : (Jvm.Cond.fieldLink "RoadPlugs" (216 : Nat) "RoadPlugs$Site" "idlePrice" "I") ∈ zk_tbl := zk_in 125 (by decide +kernel) rfl
theorem tw_126 : (Jvm.Cond.fieldLink "RoadPlugs$Stepper" (205 : Nat) "RoadPlugs$Site" "idlePrice" "I") ∈ zk_tbl := zk_in 126 (by decide +kernel) rfl
theorem tw_127 : (Jvm.Cond.fieldLink "RoadPlugs$Site" (15 : Nat) "RoadPlugs$Site" "idleAfter" "I") ∈ zk_tbl := zk_in 127 (by decide +kernel) rfl
theorem tw_128 : (Jvm.Cond.fieldLink "RoadPlugs$Tape" (62 : Nat) "RoadPlugs$Site" "idleAfter" "I") ∈ zk_tbl := zk_in 128 (by decide +kernel) rfl
theorem tw_129 : (Jvm.Cond.fieldLink "RoadPlugs" (219 : Nat) "RoadPlugs$Site" "idleAfter" "I") ∈ zk_tbl := zk_in 129 (by decide +kernel) rfl
theorem tw_130 : (Jvm.Cond.fieldLink "RoadPlugs$Stepper" (202 : Nat) "RoadPlugs$Site" "idleAfter" "I") ∈ zk_tbl := zk_in 130 (by decide +kernel) rfl
theorem tw_131 : (Jvm.Cond.fieldLink "RoadPlugs$Site" (44 : Nat) "RoadPlugs$Site" "queued" "I") ∈ zk_tbl := zk_in 131 (by decide +kernel) rfl
theorem tw_132 : (Jvm.Cond.fieldLink "RoadPlugs$Stepper" (61 : Nat) "RoadPlugs$Site" "queued" "I") ∈ zk_tbl := zk_in 132 (by decide +kernel) rfl
theorem tw_133 : (Jvm.Cond.fieldLink "RoadPlugs$World" (131 : Nat) "RoadPlugs$Site" "queued" "I") ∈ zk_tbl := zk_in 133 (by decide +kernel) rfl
theorem tw_134 : (Jvm.Cond.fieldLink "RoadPlugs" (222 : Nat) "RoadPlugs$Site" "queued" "I") ∈ zk_tbl := zk_in 134 (by decide +kernel) rfl
theorem tw_135 : (Jvm.Cond.fieldLink "RoadPlugs$Site" (47 : Nat) "RoadPlugs$Site" "plugCount" "I") ∈ zk_tbl := zk_in 135 (by decide +kernel) rfl
theorem tw_136 : (Jvm.Cond.fieldLink "RoadPlugs$Adviser" (44 : Nat) "RoadPlugs$Site" "plugCount" "I") ∈ zk_tbl := zk_in 136 (by decide +kernel) rfl
theorem tw_137 : (Jvm.Cond.fieldLink "RoadPlugs$Stepper" (79 : Nat) "RoadPlugs$Site" "plugCount" "I") ∈ zk_tbl := zk_in 137 (by decide +kernel) rfl
theorem tw_138 : (Jvm.Cond.fieldLink "RoadPlugs$World" (118 : Nat) "RoadPlugs$Site" "plugCount" "I") ∈ zk_tbl := zk_in 138 (by decide +kernel) rfl
theorem tw_139 : (Jvm.Cond.fieldLink "RoadPlugs$Site" (18 : Nat) "RoadPlugs$Site" "queue" "[I") ∈ zk_tbl := zk_in 139 (by decide +kernel) rfl
theorem tw_140 : (Jvm.Cond.fieldLink "RoadPlugs$Stepper" (68 : Nat) "RoadPlugs$Site" "queue" "[I") ∈ zk_tbl := zk_in 140 (by decide +kernel) rfl
theorem tw_141 : (Jvm.Cond.fieldLink "RoadPlugs$World" (134 : Nat) "RoadPlugs$Site" "queue" "[I") ∈ zk_tbl := zk_in 141 (by decide +kernel) rfl
theorem tw_142 : (Jvm.Cond.fieldLink "RoadPlugs$Site" (22 : Nat) "RoadPlugs$Site" "plugs" "[I") ∈ zk_tbl := zk_in 142 (by decide +kernel) rfl
theorem tw_143 : (Jvm.Cond.fieldLink "RoadPlugs$Stepper" (82 : Nat) "RoadPlugs$Site" "plugs" "[I") ∈ zk_tbl := zk_in 143 (by decide +kernel) rfl
theorem tw_144 : (Jvm.Cond.fieldLink "RoadPlugs$World" (119 : Nat) "RoadPlugs$Site" "plugs" "[I") ∈ zk_tbl := zk_in 144 (by decide +kernel) rfl
theorem tw_175 : (Jvm.Cond.fieldLink "RoadPlugs$Plug" (19 : Nat) "RoadPlugs$Plug" "site" "I") ∈ zk_tbl := zk_in 175 (by decide +kernel) rfl
theorem tw_176 : (Jvm.Cond.fieldLink "RoadPlugs" (89 : Nat) "RoadPlugs$Plug" "site" "I") ∈ zk_tbl := zk_in 176 (by decide +kernel) rfl
theorem tw_177 : (Jvm.Cond.fieldLink "RoadPlugs$Stepper" (127 : Nat) "RoadPlugs$Plug" "site" "I") ∈ zk_tbl := zk_in 177 (by decide +kernel) rfl
theorem tw_178 : (Jvm.Cond.fieldLink "RoadPlugs$Plug" (22 : Nat) "RoadPlugs$Plug" "most" "I") ∈ zk_tbl := zk_in 178 (by decide +kernel) rfl
theorem tw_179 : (Jvm.Cond.fieldLink "RoadPlugs" (94 : Nat) "RoadPlugs$Plug" "most" "I") ∈ zk_tbl := zk_in 179 (by decide +kernel) rfl
theorem tw_180 : (Jvm.Cond.fieldLink "RoadPlugs$Stepper" (139 : Nat) "RoadPlugs$Plug" "most" "I") ∈ zk_tbl := zk_in 180 (by decide +kernel) rfl
theorem tw_181 : (Jvm.Cond.fieldLink "RoadPlugs$World" (124 : Nat) "RoadPlugs$Plug" "most" "I") ∈ zk_tbl := zk_in 181 (by decide +kernel) rfl
theorem tw_182 : (Jvm.Cond.fieldLink "RoadPlugs$Plug" (25 : Nat) "RoadPlugs$Plug" "cable" "I") ∈ zk_tbl := zk_in 182 (by decide +kernel) rfl
theorem tw_183 : (Jvm.Cond.fieldLink "RoadPlugs" (97 : Nat) "RoadPlugs$Plug" "cable" "I") ∈ zk_tbl := zk_in 183 (by decide +kernel) rfl
theorem tw_184 : (Jvm.Cond.fieldLink "RoadPlugs$Stepper" (100 : Nat) "RoadPlugs$Plug" "cable" "I") ∈ zk_tbl := zk_in 184 (by decide +kernel) rfl
theorem tw_185 : (Jvm.Cond.fieldLink "RoadPlugs$World" (121 : Nat) "RoadPlugs$Plug" "cable" "I") ∈ zk_tbl := zk_in 185 (by decide +kernel) rfl
theorem tw_186 : (Jvm.Cond.fieldLink "RoadPlugs$Plug" (9 : Nat) "RoadPlugs$Plug" "car" "I") ∈ zk_tbl := zk_in 186 (by decide +kernel) rfl
theorem tw_187 : (Jvm.Cond.fieldLink "RoadPlugs$Stepper" (88 : Nat) "RoadPlugs$Plug" "car" "I") ∈ zk_tbl := zk_in 187 (by decide +kernel) rfl
theorem tw_188 : (Jvm.Cond.fieldLink "RoadPlugs$World" (145 : Nat) "RoadPlugs$Plug" "car" "I") ∈ zk_tbl := zk_in 188 (by decide +kernel) rfl
theorem tw_189 : (Jvm.Cond.fieldLink "RoadPlugs" (254 : Nat) "RoadPlugs$Plug" "car" "I") ∈ zk_tbl := zk_in 189 (by decide +kernel) rfl
theorem tw_190 : (Jvm.Cond.fieldLink "RoadPlugs$Plug" (28 : Nat) "RoadPlugs$Plug" "fails" "Z") ∈ zk_tbl := zk_in 190 (by decide +kernel) rfl
theorem tw_191 : (Jvm.Cond.fieldLink "RoadPlugs$Stepper" (114 : Nat) "RoadPlugs$Plug" "fails" "Z") ∈ zk_tbl := zk_in 191 (by decide +kernel) rfl
theorem tw_192 : (Jvm.Cond.fieldLink "RoadPlugs" (243 : Nat) "RoadPlugs$Plug" "fails" "Z") ∈ zk_tbl := zk_in 192 (by decide +kernel) rfl
theorem tw_193 : (Jvm.Cond.fieldLink "RoadPlugs$Plug" (15 : Nat) "RoadPlugs$Plug" "saysWorks" "Z") ∈ zk_tbl := zk_in 193 (by decide +kernel) rfl
theorem tw_194 : (Jvm.Cond.fieldLink "RoadPlugs" (266 : Nat) "RoadPlugs$Plug" "saysWorks" "Z") ∈ zk_tbl := zk_in 194 (by decide +kernel) rfl
theorem tw_213 : (Jvm.Cond.fieldLink "RoadPlugs$Car" (15 : Nat) "RoadPlugs$Car" "battery" "I") ∈ zk_tbl := zk_in 213 (by decide +kernel) rfl
theorem tw_214 : (Jvm.Cond.fieldLink "RoadPlugs$Planner" (39 : Nat) "RoadPlugs$Car" "battery" "I") ∈ zk_tbl := zk_in 214 (by decide +kernel) rfl
theorem tw_215 : (Jvm.Cond.fieldLink "RoadPlugs" (111 : Nat) "RoadPlugs$Car" "battery" "I") ∈ zk_tbl := zk_in 215 (by decide +kernel) rfl
theorem tw_216 : (Jvm.Cond.fieldLink "RoadPlugs$World" (112 : Nat) "RoadPlugs$Car" "battery" "I") ∈ zk_tbl := zk_in 216 (by decide +kernel) rfl
theorem tw_217 : (Jvm.Cond.fieldLink "RoadPlugs$Stepper" (179 : Nat) "RoadPlugs$Car" "battery" "I") ∈ zk_tbl := zk_in 217 (by decide +kernel) rfl
theorem tw_218 : (Jvm.Cond.fieldLink "RoadPlugs$Car" (18 : Nat) "RoadPlugs$Car" "use" "I") ∈ zk_tbl := zk_in 218 (by decide +kernel) rfl
theorem tw_219 : (Jvm.Cond.fieldLink "RoadPlugs" (116 : Nat) "RoadPlugs$Car" "use" "I") ∈ zk_tbl := zk_in 219 (by decide +kernel) rfl
theorem tw_220 : (Jvm.Cond.fieldLink "RoadPlugs$World" (101 : Nat) "RoadPlugs$Car" "use" "I") ∈ zk_tbl := zk_in 220 (by decide +kernel) rfl
theorem tw_221 : (Jvm.Cond.fieldLink "RoadPlugs$Car" (21 : Nat) "RoadPlugs$Car" "rate" "I") ∈ zk_tbl := zk_in 221 (by decide +kernel) rfl
theorem tw_222 : (Jvm.Cond.fieldLink "RoadPlugs" (119 : Nat) "RoadPlugs$Car" "rate" "I") ∈ zk_tbl := zk_in 222 (by decide +kernel) rfl
theorem tw_223 : (Jvm.Cond.fieldLink "RoadPlugs$World" (104 : Nat) "RoadPlugs$Car" "rate" "I") ∈ zk_tbl := zk_in 223 (by decide +kernel) rfl
theorem tw_224 : (Jvm.Cond.fieldLink "RoadPlugs$Car" (24 : Nat) "RoadPlugs$Car" "cable" "I") ∈ zk_tbl := zk_in 224 (by decide +kernel) rfl
theorem tw_225 : (Jvm.Cond.fieldLink "RoadPlugs$Planner" (80 : Nat) "RoadPlugs$Car" "cable" "I") ∈ zk_tbl := zk_in 225 (by decide +kernel) rfl
theorem tw_226 : (Jvm.Cond.fieldLink "RoadPlugs$Stepper" (97 : Nat) "RoadPlugs$Car" "cable" "I") ∈ zk_tbl := zk_in 226 (by decide +kernel) rfl
theorem tw_227 : (Jvm.Cond.fieldLink "RoadPlugs" (122 : Nat) "RoadPlugs$Car" "cable" "I") ∈ zk_tbl := zk_in 227 (by decide +kernel) rfl
theorem tw_228 : (Jvm.Cond.fieldLink "RoadPlugs$Adviser" (75 : Nat) "RoadPlugs$Car" "cable" "I") ∈ zk_tbl := zk_in 228 (by decide +kernel) rfl
theorem tw_229 : (Jvm.Cond.fieldLink "RoadPlugs$World" (137 : Nat) "RoadPlugs$Car" "cable" "I") ∈ zk_tbl := zk_in 229 (by decide +kernel) rfl
theorem tw_230 : (Jvm.Cond.fieldLink "RoadPlugs$Car" (27 : Nat) "RoadPlugs$Car" "charge" "I") ∈ zk_tbl := zk_in 230 (by decide +kernel) rfl
theorem tw_231 : (Jvm.Cond.fieldLink "RoadPlugs$Planner" (52 : Nat) "RoadPlugs$Car" "charge" "I") ∈ zk_tbl := zk_in 231 (by decide +kernel) rfl
theorem tw_232 : (Jvm.Cond.fieldLink "RoadPlugs" (123 : Nat) "RoadPlugs$Car" "charge" "I") ∈ zk_tbl := zk_in 232 (by decide +kernel) rfl
theorem tw_233 : (Jvm.Cond.fieldLink "RoadPlugs$Adviser" (70 : Nat) "RoadPlugs$Car" "charge" "I") ∈ zk_tbl := zk_in 233 (by decide +kernel) rfl
theorem tw_234 : (Jvm.Cond.fieldLink "RoadPlugs$Stepper" (133 : Nat) "RoadPlugs$Car" "charge" "I") ∈ zk_tbl := zk_in 234 (by decide +kernel) rfl
theorem tw_235 : (Jvm.Cond.fieldLink "RoadPlugs$Car" (9 : Nat) "RoadPlugs$Car" "where" "I") ∈ zk_tbl := zk_in 235 (by decide +kernel) rfl
theorem tw_236 : (Jvm.Cond.fieldLink "RoadPlugs$Stepper" (108 : Nat) "RoadPlugs$Car" "where" "I") ∈ zk_tbl := zk_in 236 (by decide +kernel) rfl
theorem tw_237 : (Jvm.Cond.fieldLink "RoadPlugs" (157 : Nat) "RoadPlugs$Car" "where" "I") ∈ zk_tbl := zk_in 237 (by decide +kernel) rfl
theorem tw_238 : (Jvm.Cond.fieldLink "RoadPlugs$World" (138 : Nat) "RoadPlugs$Car" "where" "I") ∈ zk_tbl := zk_in 238 (by decide +kernel) rfl
theorem tw_239 : (Jvm.Cond.fieldLink "RoadPlugs$Car" (30 : Nat) "RoadPlugs$Car" "want" "I") ∈ zk_tbl := zk_in 239 (by decide +kernel) rfl
theorem tw_240 : (Jvm.Cond.fieldLink "RoadPlugs$Stepper" (136 : Nat) "RoadPlugs$Car" "want" "I") ∈ zk_tbl := zk_in 240 (by decide +kernel) rfl
theorem tw_241 : (Jvm.Cond.fieldLink "RoadPlugs" (160 : Nat) "RoadPlugs$Car" "want" "I") ∈ zk_tbl := zk_in 241 (by decide +kernel) rfl
theorem tw_242 : (Jvm.Cond.fieldLink "RoadPlugs$Car" (33 : Nat) "RoadPlugs$Car" "stay" "I") ∈ zk_tbl := zk_in 242 (by decide +kernel) rfl
theorem tw_243 : (Jvm.Cond.fieldLink "RoadPlugs$Stepper" (196 : Nat) "RoadPlugs$Car" "stay" "I") ∈ zk_tbl := zk_in 243 (by decide +kernel) rfl
theorem tw_244 : (Jvm.Cond.fieldLink "RoadPlugs" (228 : Nat) "RoadPlugs$Car" "stay" "I") ∈ zk_tbl := zk_in 244 (by decide +kernel) rfl
theorem tw_245 : (Jvm.Cond.fieldLink "RoadPlugs$Car" (36 : Nat) "RoadPlugs$Car" "idle" "I") ∈ zk_tbl := zk_in 245 (by decide +kernel) rfl
theorem tw_246 : (Jvm.Cond.fieldLink "RoadPlugs$Stepper" (193 : Nat) "RoadPlugs$Car" "idle" "I") ∈ zk_tbl := zk_in 246 (by decide +kernel) rfl
theorem tw_247 : (Jvm.Cond.fieldLink "RoadPlugs" (231 : Nat) "RoadPlugs$Car" "idle" "I") ∈ zk_tbl := zk_in 247 (by decide +kernel) rfl
theorem tw_248 : (Jvm.Cond.fieldLink "RoadPlugs$Car" (39 : Nat) "RoadPlugs$Car" "idleInAll" "I") ∈ zk_tbl := zk_in 248 (by decide +kernel) rfl
theorem tw_249 : (Jvm.Cond.fieldLink "RoadPlugs" (169 : Nat) "RoadPlugs$Car" "idleInAll" "I") ∈ zk_tbl := zk_in 249 (by decide +kernel) rfl
theorem tw_250 : (Jvm.Cond.fieldLink "RoadPlugs$Stepper" (199 : Nat) "RoadPlugs$Car" "idleInAll" "I") ∈ zk_tbl := zk_in 250 (by decide +kernel) rfl
theorem tw_251 : (Jvm.Cond.fieldLink "RoadPlugs$Car" (42 : Nat) "RoadPlugs$Car" "got" "I") ∈ zk_tbl := zk_in 251 (by decide +kernel) rfl
theorem tw_252 : (Jvm.Cond.fieldLink "RoadPlugs" (163 : Nat) "RoadPlugs$Car" "got" "I") ∈ zk_tbl := zk_in 252 (by decide +kernel) rfl
theorem tw_253 : (Jvm.Cond.fieldLink "RoadPlugs$Stepper" (158 : Nat) "RoadPlugs$Car" "got" "I") ∈ zk_tbl := zk_in 253 (by decide +kernel) rfl
theorem tw_254 : (Jvm.Cond.fieldLink "RoadPlugs$Car" (45 : Nat) "RoadPlugs$Car" "waited" "I") ∈ zk_tbl := zk_in 254 (by decide +kernel) rfl
theorem tw_255 : (Jvm.Cond.fieldLink "RoadPlugs$Stepper" (71 : Nat) "RoadPlugs$Car" "waited" "I") ∈ zk_tbl := zk_in 255 (by decide +kernel) rfl
theorem tw_256 : (Jvm.Cond.fieldLink "RoadPlugs" (166 : Nat) "RoadPlugs$Car" "waited" "I") ∈ zk_tbl := zk_in 256 (by decide +kernel) rfl
theorem tw_257 : (Jvm.Cond.fieldLink "RoadPlugs$Car" (48 : Nat) "RoadPlugs$Car" "pays" "I") ∈ zk_tbl := zk_in 257 (by decide +kernel) rfl
theorem tw_258 : (Jvm.Cond.fieldLink "RoadPlugs" (172 : Nat) "RoadPlugs$Car" "pays" "I") ∈ zk_tbl := zk_in 258 (by decide +kernel) rfl
theorem tw_259 : (Jvm.Cond.fieldLink "RoadPlugs$Stepper" (161 : Nat) "RoadPlugs$Car" "pays" "I") ∈ zk_tbl := zk_in 259 (by decide +kernel) rfl
theorem tw_260 : (Jvm.Cond.fieldLink "RoadPlugs$World" (152 : Nat) "RoadPlugs$Car" "pays" "I") ∈ zk_tbl := zk_in 260 (by decide +kernel) rfl
theorem tw_261 : (Jvm.Cond.fieldLink "RoadPlugs$Car" (51 : Nat) "RoadPlugs$Car" "triedPlugs" "I") ∈ zk_tbl := zk_in 261 (by decide +kernel) rfl
theorem tw_262 : (Jvm.Cond.fieldLink "RoadPlugs$Stepper" (101 : Nat) "RoadPlugs$Car" "triedPlugs" "I") ∈ zk_tbl := zk_in 262 (by decide +kernel) rfl
theorem tw_263 : (Jvm.Cond.fieldLink "RoadPlugs" (234 : Nat) "RoadPlugs$Car" "triedPlugs" "I") ∈ zk_tbl := zk_in 263 (by decide +kernel) rfl
theorem tw_264 : (Jvm.Cond.fieldLink "RoadPlugs$Car" (54 : Nat) "RoadPlugs$Car" "pluggedAt" "I") ∈ zk_tbl := zk_in 264 (by decide +kernel) rfl
theorem tw_265 : (Jvm.Cond.fieldLink "RoadPlugs$Stepper" (111 : Nat) "RoadPlugs$Car" "pluggedAt" "I") ∈ zk_tbl := zk_in 265 (by decide +kernel) rfl
theorem tw_297 : (Jvm.Cond.fieldLink "RoadPlugs$World" (11 : Nat) "RoadPlugs$World" "sites" "[LRoadPlugs$Site;") ∈ zk_tbl := zk_in 297 (by decide +kernel) rfl
theorem tw_298 : (Jvm.Cond.fieldLink "RoadPlugs$Stepper" (24 : Nat) "RoadPlugs$World" "sites" "[LRoadPlugs$Site;") ∈ zk_tbl := zk_in 298 (by decide +kernel) rfl
theorem tw_299 : (Jvm.Cond.fieldLink "RoadPlugs$Adviser" (21 : Nat) "RoadPlugs$World" "sites" "[LRoadPlugs$Site;") ∈ zk_tbl := zk_in 299 (by decide +kernel) rfl
theorem tw_300 : (Jvm.Cond.fieldLink "RoadPlugs" (66 : Nat) "RoadPlugs$World" "sites" "[LRoadPlugs$Site;") ∈ zk_tbl := zk_in 300 (by decide +kernel) rfl
theorem tw_301 : (Jvm.Cond.fieldLink "RoadPlugs$Planner" (71 : Nat) "RoadPlugs$World" "sites" "[LRoadPlugs$Site;") ∈ zk_tbl := zk_in 301 (by decide +kernel) rfl
theorem tw_302 : (Jvm.Cond.fieldLink "RoadPlugs$World" (19 : Nat) "RoadPlugs$World" "plugs" "[LRoadPlugs$Plug;") ∈ zk_tbl := zk_in 302 (by decide +kernel) rfl
theorem tw_303 : (Jvm.Cond.fieldLink "RoadPlugs$Stepper" (85 : Nat) "RoadPlugs$World" "plugs" "[LRoadPlugs$Plug;") ∈ zk_tbl := zk_in 303 (by decide +kernel) rfl
theorem tw_304 : (Jvm.Cond.fieldLink "RoadPlugs" (85 : Nat) "RoadPlugs$World" "plugs" "[LRoadPlugs$Plug;") ∈ zk_tbl := zk_in 304 (by decide +kernel) rfl
theorem tw_305 : (Jvm.Cond.fieldLink "RoadPlugs$World" (25 : Nat) "RoadPlugs$World" "cars" "[LRoadPlugs$Car;") ∈ zk_tbl := zk_in 305 (by decide +kernel) rfl
theorem tw_306 : (Jvm.Cond.fieldLink "RoadPlugs$Adviser" (36 : Nat) "RoadPlugs$World" "cars" "[LRoadPlugs$Car;") ∈ zk_tbl := zk_in 306 (by decide +kernel) rfl
theorem tw_307 : (Jvm.Cond.fieldLink "RoadPlugs$Stepper" (64 : Nat) "RoadPlugs$World" "cars" "[LRoadPlugs$Car;") ∈ zk_tbl := zk_in 307 (by decide +kernel) rfl
theorem tw_308 : (Jvm.Cond.fieldLink "RoadPlugs" (107 : Nat) "RoadPlugs$World" "cars" "[LRoadPlugs$Car;") ∈ zk_tbl := zk_in 308 (by decide +kernel) rfl
theorem tw_309 : (Jvm.Cond.fieldLink "RoadPlugs$World" (29 : Nat) "RoadPlugs$World" "prices" "[I") ∈ zk_tbl := zk_in 309 (by decide +kernel) rfl
theorem tw_310 : (Jvm.Cond.fieldLink "RoadPlugs" (132 : Nat) "RoadPlugs$World" "prices" "[I") ∈ zk_tbl := zk_in 310 (by decide +kernel) rfl
theorem tw_311 : (Jvm.Cond.fieldLink "RoadPlugs$World" (36 : Nat) "RoadPlugs$World" "tries" "LRoadPlugs$Tries;") ∈ zk_tbl := zk_in 311 (by decide +kernel) rfl
theorem tw_312 : (Jvm.Cond.fieldLink "RoadPlugs$Stepper" (117 : Nat) "RoadPlugs$World" "tries" "LRoadPlugs$Tries;") ∈ zk_tbl := zk_in 312 (by decide +kernel) rfl
theorem tw_313 : (Jvm.Cond.fieldLink "RoadPlugs" (257 : Nat) "RoadPlugs$World" "tries" "LRoadPlugs$Tries;") ∈ zk_tbl := zk_in 313 (by decide +kernel) rfl
theorem tw_314 : (Jvm.Cond.fieldLink "RoadPlugs$World" (43 : Nat) "RoadPlugs$World" "bookA" "LRoadPlugs$Book;") ∈ zk_tbl := zk_in 314 (by decide +kernel) rfl
theorem tw_315 : (Jvm.Cond.fieldLink "RoadPlugs" (309 : Nat) "RoadPlugs$World" "bookA" "LRoadPlugs$Book;") ∈ zk_tbl := zk_in 315 (by decide +kernel) rfl
theorem tw_316 : (Jvm.Cond.fieldLink "RoadPlugs$World" (47 : Nat) "RoadPlugs$World" "bookB" "LRoadPlugs$Book;") ∈ zk_tbl := zk_in 316 (by decide +kernel) rfl
theorem tw_317 : (Jvm.Cond.fieldLink "RoadPlugs" (305 : Nat) "RoadPlugs$World" "bookB" "LRoadPlugs$Book;") ∈ zk_tbl := zk_in 317 (by decide +kernel) rfl
theorem tw_318 : (Jvm.Cond.fieldLink "RoadPlugs$Stepper" (18 : Nat) "RoadPlugs$World" "siteCount" "I") ∈ zk_tbl := zk_in 318 (by decide +kernel) rfl
theorem tw_319 : (Jvm.Cond.fieldLink "RoadPlugs" (62 : Nat) "RoadPlugs$World" "siteCount" "I") ∈ zk_tbl := zk_in 319 (by decide +kernel) rfl
theorem tw_320 : (Jvm.Cond.fieldLink "RoadPlugs$World" (75 : Nat) "RoadPlugs$World" "siteCount" "I") ∈ zk_tbl := zk_in 320 (by decide +kernel) rfl
theorem tw_321 : (Jvm.Cond.fieldLink "RoadPlugs$Planner" (66 : Nat) "RoadPlugs$World" "siteCount" "I") ∈ zk_tbl := zk_in 321 (by decide +kernel) rfl
theorem tw_322 : (Jvm.Cond.fieldLink "RoadPlugs$Adviser" (56 : Nat) "RoadPlugs$World" "siteCount" "I") ∈ zk_tbl := zk_in 322 (by decide +kernel) rfl
theorem tw_323 : (Jvm.Cond.fieldLink "RoadPlugs$World" (79 : Nat) "RoadPlugs$World" "plugCount" "I") ∈ zk_tbl := zk_in 323 (by decide +kernel) rfl
theorem tw_324 : (Jvm.Cond.fieldLink "RoadPlugs" (82 : Nat) "RoadPlugs$World" "plugCount" "I") ∈ zk_tbl := zk_in 324 (by decide +kernel) rfl
theorem tw_325 : (Jvm.Cond.fieldLink "RoadPlugs$Adviser" (33 : Nat) "RoadPlugs$World" "carCount" "I") ∈ zk_tbl := zk_in 325 (by decide +kernel) rfl
theorem tw_326 : (Jvm.Cond.fieldLink "RoadPlugs$World" (82 : Nat) "RoadPlugs$World" "carCount" "I") ∈ zk_tbl := zk_in 326 (by decide +kernel) rfl
theorem tw_327 : (Jvm.Cond.fieldLink "RoadPlugs" (104 : Nat) "RoadPlugs$World" "carCount" "I") ∈ zk_tbl := zk_in 327 (by decide +kernel) rfl
theorem tw_328 : (Jvm.Cond.fieldLink "RoadPlugs$World" (85 : Nat) "RoadPlugs$World" "cold" "I") ∈ zk_tbl := zk_in 328 (by decide +kernel) rfl
theorem tw_329 : (Jvm.Cond.fieldLink "RoadPlugs" (126 : Nat) "RoadPlugs$World" "cold" "I") ∈ zk_tbl := zk_in 329 (by decide +kernel) rfl
theorem tw_330 : (Jvm.Cond.fieldLink "RoadPlugs$World" (88 : Nat) "RoadPlugs$World" "drift" "I") ∈ zk_tbl := zk_in 330 (by decide +kernel) rfl
theorem tw_331 : (Jvm.Cond.fieldLink "RoadPlugs" (129 : Nat) "RoadPlugs$World" "drift" "I") ∈ zk_tbl := zk_in 331 (by decide +kernel) rfl
theorem tw_332 : (Jvm.Cond.fieldLink "RoadPlugs$Stepper" (76 : Nat) "RoadPlugs$World" "now" "I") ∈ zk_tbl := zk_in 332 (by decide +kernel) rfl
theorem tw_333 : (Jvm.Cond.fieldLink "RoadPlugs$World" (91 : Nat) "RoadPlugs$World" "now" "I") ∈ zk_tbl := zk_in 333 (by decide +kernel) rfl
theorem tw_334 : (Jvm.Cond.fieldLink "RoadPlugs" (246 : Nat) "RoadPlugs$World" "now" "I") ∈ zk_tbl := zk_in 334 (by decide +kernel) rfl
theorem tw_335 : (Jvm.Cond.fieldLink "RoadPlugs$World" (94 : Nat) "RoadPlugs$World" "given" "I") ∈ zk_tbl := zk_in 335 (by decide +kernel) rfl
theorem tw_336 : (Jvm.Cond.fieldLink "RoadPlugs$Stepper" (171 : Nat) "RoadPlugs$World" "given" "I") ∈ zk_tbl := zk_in 336 (by decide +kernel) rfl
theorem tw_337 : (Jvm.Cond.fieldLink "RoadPlugs" (249 : Nat) "RoadPlugs$World" "given" "I") ∈ zk_tbl := zk_in 337 (by decide +kernel) rfl
theorem tw_373 : (Jvm.Cond.fieldLink "RoadPlugs$Tape" (9 : Nat) "RoadPlugs$Tape" "bytes" "[I") ∈ zk_tbl := zk_in 373 (by decide +kernel) rfl
theorem tw_374 : (Jvm.Cond.fieldLink "RoadPlugs$Tape" (15 : Nat) "RoadPlugs$Tape" "length" "I") ∈ zk_tbl := zk_in 374 (by decide +kernel) rfl
theorem tw_375 : (Jvm.Cond.fieldLink "RoadPlugs" (194 : Nat) "RoadPlugs$Tape" "length" "I") ∈ zk_tbl := zk_in 375 (by decide +kernel) rfl
theorem tw_376 : (Jvm.Cond.fieldLink "RoadPlugs$Tape" (37 : Nat) "RoadPlugs$Tape" "kind" "I") ∈ zk_tbl := zk_in 376 (by decide +kernel) rfl
theorem tw_377 : (Jvm.Cond.fieldLink "RoadPlugs$Tape" (47 : Nat) "RoadPlugs$Tape" "start" "I") ∈ zk_tbl := zk_in 377 (by decide +kernel) rfl
theorem tw_378 : (Jvm.Cond.fieldLink "RoadPlugs$Tape" (31 : Nat) "RoadPlugs$Tape" "end" "I") ∈ zk_tbl := zk_in 378 (by decide +kernel) rfl
theorem tw_379 : (Jvm.Cond.fieldLink "RoadPlugs$Tape" (19 : Nat) "RoadPlugs$Tape" "shareRule" "I") ∈ zk_tbl := zk_in 379 (by decide +kernel) rfl
theorem tw_380 : (Jvm.Cond.fieldLink "RoadPlugs$Tape" (22 : Nat) "RoadPlugs$Tape" "capRule" "I") ∈ zk_tbl := zk_in 380 (by decide +kernel) rfl
theorem tw_381 : (Jvm.Cond.fieldLink "RoadPlugs$Tape" (25 : Nat) "RoadPlugs$Tape" "idleRule" "I") ∈ zk_tbl := zk_in 381 (by decide +kernel) rfl
theorem tw_382 : (Jvm.Cond.fieldLink "RoadPlugs$Tape" (28 : Nat) "RoadPlugs$Tape" "afterRule" "I") ∈ zk_tbl := zk_in 382 (by decide +kernel) rfl
theorem tw_410 : (Jvm.Cond.fieldLink "RoadPlugs$Planner" (9 : Nat) "RoadPlugs$Planner" "places" "[I") ∈ zk_tbl := zk_in 410 (by decide +kernel) rfl
theorem tw_411 : (Jvm.Cond.fieldLink "RoadPlugs$Planner" (15 : Nat) "RoadPlugs$Planner" "mosts" "[I") ∈ zk_tbl := zk_in 411 (by decide +kernel) rfl
theorem tw_412 : (Jvm.Cond.fieldLink "RoadPlugs$Planner" (18 : Nat) "RoadPlugs$Planner" "legTicks" "[I") ∈ zk_tbl := zk_in 412 (by decide +kernel) rfl
theorem tw_413 : (Jvm.Cond.fieldLink "RoadPlugs$Planner" (21 : Nat) "RoadPlugs$Planner" "legCharges" "[I") ∈ zk_tbl := zk_in 413 (by decide +kernel) rfl
theorem tw_414 : (Jvm.Cond.fieldLink "RoadPlugs$Planner" (26 : Nat) "RoadPlugs$Planner" "onArrival" "[[I") ∈ zk_tbl := zk_in 414 (by decide +kernel) rfl
theorem tw_415 : (Jvm.Cond.fieldLink "RoadPlugs$Planner" (29 : Nat) "RoadPlugs$Planner" "whileCharging" "[[I") ∈ zk_tbl := zk_in 415 (by decide +kernel) rfl
theorem tw_416 : (Jvm.Cond.fieldLink "RoadPlugs$Planner" (45 : Nat) "RoadPlugs$Planner" "placeCount" "I") ∈ zk_tbl := zk_in 416 (by decide +kernel) rfl
theorem tw_417 : (Jvm.Cond.fieldLink "RoadPlugs$Planner" (32 : Nat) "RoadPlugs$Planner" "times" "[I") ∈ zk_tbl := zk_in 417 (by decide +kernel) rfl
theorem tw_418 : (Jvm.Cond.fieldLink "RoadPlugs" (191 : Nat) "RoadPlugs$Planner" "times" "[I") ∈ zk_tbl := zk_in 418 (by decide +kernel) rfl
theorem tw_419 : (Jvm.Cond.fieldLink "RoadPlugs$Planner" (56 : Nat) "RoadPlugs$Planner" "tripTicks" "I") ∈ zk_tbl := zk_in 419 (by decide +kernel) rfl
theorem tw_420 : (Jvm.Cond.fieldLink "RoadPlugs" (182 : Nat) "RoadPlugs$Planner" "tripTicks" "I") ∈ zk_tbl := zk_in 420 (by decide +kernel) rfl
theorem tw_421 : (Jvm.Cond.fieldLink "RoadPlugs$Planner" (59 : Nat) "RoadPlugs$Planner" "tripStops" "I") ∈ zk_tbl := zk_in 421 (by decide +kernel) rfl
theorem tw_422 : (Jvm.Cond.fieldLink "RoadPlugs" (185 : Nat) "RoadPlugs$Planner" "tripStops" "I") ∈ zk_tbl := zk_in 422 (by decide +kernel) rfl
theorem tw_423 : (Jvm.Cond.fieldLink "RoadPlugs$Planner" (114 : Nat) "RoadPlugs$Planner" "endCharge" "I") ∈ zk_tbl := zk_in 423 (by decide +kernel) rfl
theorem tw_424 : (Jvm.Cond.fieldLink "RoadPlugs" (188 : Nat) "RoadPlugs$Planner" "endCharge" "I") ∈ zk_tbl := zk_in 424 (by decide +kernel) rfl
theorem tw_454 : (Jvm.Cond.fieldLink "RoadPlugs$Stepper" (9 : Nat) "RoadPlugs$Stepper" "asked" "[I") ∈ zk_tbl := zk_in 454 (by decide +kernel) rfl
theorem tw_455 : (Jvm.Cond.fieldLink "RoadPlugs$Stepper" (15 : Nat) "RoadPlugs$Stepper" "served" "[I") ∈ zk_tbl := zk_in 455 (by decide +kernel) rfl
theorem tw_467 : (Jvm.Cond.fieldLink "RoadPlugs$Adviser" (9 : Nat) "RoadPlugs$Adviser" "told" "[I") ∈ zk_tbl := zk_in 467 (by decide +kernel) rfl
theorem tw_468 : (Jvm.Cond.fieldLink "RoadPlugs$Adviser" (15 : Nat) "RoadPlugs$Adviser" "sent" "[I") ∈ zk_tbl := zk_in 468 (by decide +kernel) rfl
theorem tw_469 : (Jvm.Cond.fieldLink "RoadPlugs$Adviser" (18 : Nat) "RoadPlugs$Adviser" "goals" "[I") ∈ zk_tbl := zk_in 469 (by decide +kernel) rfl
theorem tw_47 : (Jvm.Cond.fieldLink "RoadPlugs$Tries" (9 : Nat) "RoadPlugs$Tries" "plugs" "[I") ∈ zk_tbl := zk_in 47 (by decide +kernel) rfl
theorem tw_470 : (Jvm.Cond.fieldLink "RoadPlugs" (302 : Nat) "RoadPlugs$Adviser" "goals" "[I") ∈ zk_tbl := zk_in 470 (by decide +kernel) rfl
theorem tw_48 : (Jvm.Cond.fieldLink "RoadPlugs" (282 : Nat) "RoadPlugs$Tries" "plugs" "[I") ∈ zk_tbl := zk_in 48 (by decide +kernel) rfl
theorem tw_485 : (Jvm.Cond.fieldLink "RoadPlugs$Joiner" (11 : Nat) "RoadPlugs$Joiner" "best" "[[I") ∈ zk_tbl := zk_in 485 (by decide +kernel) rfl
theorem tw_486 : (Jvm.Cond.fieldLink "RoadPlugs$Joiner" (16 : Nat) "RoadPlugs$Joiner" "scores" "[[I") ∈ zk_tbl := zk_in 486 (by decide +kernel) rfl
theorem tw_487 : (Jvm.Cond.fieldLink "RoadPlugs$Joiner" (19 : Nat) "RoadPlugs$Joiner" "partners" "[I") ∈ zk_tbl := zk_in 487 (by decide +kernel) rfl
theorem tw_488 : (Jvm.Cond.fieldLink "RoadPlugs" (329 : Nat) "RoadPlugs$Joiner" "partners" "[I") ∈ zk_tbl := zk_in 488 (by decide +kernel) rfl
theorem tw_489 : (Jvm.Cond.fieldLink "RoadPlugs$Joiner" (64 : Nat) "RoadPlugs$Joiner" "pairs" "I") ∈ zk_tbl := zk_in 489 (by decide +kernel) rfl
theorem tw_49 : (Jvm.Cond.fieldLink "RoadPlugs$Tries" (15 : Nat) "RoadPlugs$Tries" "cars" "[I") ∈ zk_tbl := zk_in 49 (by decide +kernel) rfl
theorem tw_490 : (Jvm.Cond.fieldLink "RoadPlugs" (323 : Nat) "RoadPlugs$Joiner" "pairs" "I") ∈ zk_tbl := zk_in 490 (by decide +kernel) rfl
theorem tw_491 : (Jvm.Cond.fieldLink "RoadPlugs$Joiner" (67 : Nat) "RoadPlugs$Joiner" "differences" "I") ∈ zk_tbl := zk_in 491 (by decide +kernel) rfl
theorem tw_492 : (Jvm.Cond.fieldLink "RoadPlugs" (326 : Nat) "RoadPlugs$Joiner" "differences" "I") ∈ zk_tbl := zk_in 492 (by decide +kernel) rfl
theorem tw_50 : (Jvm.Cond.fieldLink "RoadPlugs" (284 : Nat) "RoadPlugs$Tries" "cars" "[I") ∈ zk_tbl := zk_in 50 (by decide +kernel) rfl
theorem tw_504 : (Jvm.Cond.fieldLink "RoadPlugs" (10 : Nat) "RoadPlugs" "world" "LRoadPlugs$World;") ∈ zk_tbl := zk_in 504 (by decide +kernel) rfl
theorem tw_505 : (Jvm.Cond.fieldLink "RoadPlugs" (16 : Nat) "RoadPlugs" "kept" "LRoadPlugs$World;") ∈ zk_tbl := zk_in 505 (by decide +kernel) rfl
theorem tw_506 : (Jvm.Cond.fieldLink "RoadPlugs" (22 : Nat) "RoadPlugs" "tape" "LRoadPlugs$Tape;") ∈ zk_tbl := zk_in 506 (by decide +kernel) rfl
theorem tw_507 : (Jvm.Cond.fieldLink "RoadPlugs" (29 : Nat) "RoadPlugs" "planner" "LRoadPlugs$Planner;") ∈ zk_tbl := zk_in 507 (by decide +kernel) rfl
theorem tw_508 : (Jvm.Cond.fieldLink "RoadPlugs" (36 : Nat) "RoadPlugs" "stepper" "LRoadPlugs$Stepper;") ∈ zk_tbl := zk_in 508 (by decide +kernel) rfl
theorem tw_509 : (Jvm.Cond.fieldLink "RoadPlugs" (43 : Nat) "RoadPlugs" "adviser" "LRoadPlugs$Adviser;") ∈ zk_tbl := zk_in 509 (by decide +kernel) rfl
theorem tw_51 : (Jvm.Cond.fieldLink "RoadPlugs$Tries" (18 : Nat) "RoadPlugs$Tries" "ticks" "[I") ∈ zk_tbl := zk_in 51 (by decide +kernel) rfl
theorem tw_510 : (Jvm.Cond.fieldLink "RoadPlugs" (50 : Nat) "RoadPlugs" "joiner" "LRoadPlugs$Joiner;") ∈ zk_tbl := zk_in 510 (by decide +kernel) rfl
theorem tw_511 : (Jvm.Cond.fieldLink "RoadPlugs" (54 : Nat) "RoadPlugs" "anyKept" "Z") ∈ zk_tbl := zk_in 511 (by decide +kernel) rfl
theorem tw_52 : (Jvm.Cond.fieldLink "RoadPlugs" (286 : Nat) "RoadPlugs$Tries" "ticks" "[I") ∈ zk_tbl := zk_in 52 (by decide +kernel) rfl
theorem tw_53 : (Jvm.Cond.fieldLink "RoadPlugs$Tries" (21 : Nat) "RoadPlugs$Tries" "failures" "[I") ∈ zk_tbl := zk_in 53 (by decide +kernel) rfl
theorem tw_54 : (Jvm.Cond.fieldLink "RoadPlugs" (289 : Nat) "RoadPlugs$Tries" "failures" "[I") ∈ zk_tbl := zk_in 54 (by decide +kernel) rfl
theorem tw_55 : (Jvm.Cond.fieldLink "RoadPlugs$Tries" (30 : Nat) "RoadPlugs$Tries" "oldest" "I") ∈ zk_tbl := zk_in 55 (by decide +kernel) rfl
theorem tw_56 : (Jvm.Cond.fieldLink "RoadPlugs$Tries" (34 : Nat) "RoadPlugs$Tries" "count" "I") ∈ zk_tbl := zk_in 56 (by decide +kernel) rfl
theorem tw_57 : (Jvm.Cond.fieldLink "RoadPlugs" (276 : Nat) "RoadPlugs$Tries" "count" "I") ∈ zk_tbl := zk_in 57 (by decide +kernel) rfl
theorem tw_78 : (Jvm.Cond.fieldLink "RoadPlugs$Book" (9 : Nat) "RoadPlugs$Book" "cars" "[I") ∈ zk_tbl := zk_in 78 (by decide +kernel) rfl
theorem tw_79 : (Jvm.Cond.fieldLink "RoadPlugs$Joiner" (50 : Nat) "RoadPlugs$Book" "cars" "[I") ∈ zk_tbl := zk_in 79 (by decide +kernel) rfl
theorem tw_80 : (Jvm.Cond.fieldLink "RoadPlugs$Book" (15 : Nat) "RoadPlugs$Book" "ticks" "[I") ∈ zk_tbl := zk_in 80 (by decide +kernel) rfl
theorem tw_81 : (Jvm.Cond.fieldLink "RoadPlugs$Joiner" (53 : Nat) "RoadPlugs$Book" "ticks" "[I") ∈ zk_tbl := zk_in 81 (by decide +kernel) rfl
theorem tw_82 : (Jvm.Cond.fieldLink "RoadPlugs$Book" (18 : Nat) "RoadPlugs$Book" "units" "[I") ∈ zk_tbl := zk_in 82 (by decide +kernel) rfl
theorem tw_83 : (Jvm.Cond.fieldLink "RoadPlugs$Joiner" (41 : Nat) "RoadPlugs$Book" "units" "[I") ∈ zk_tbl := zk_in 83 (by decide +kernel) rfl
theorem tw_84 : (Jvm.Cond.fieldLink "RoadPlugs$Joiner" (27 : Nat) "RoadPlugs$Book" "count" "I") ∈ zk_tbl := zk_in 84 (by decide +kernel) rfl
theorem tw_85 : (Jvm.Cond.fieldLink "RoadPlugs$Book" (27 : Nat) "RoadPlugs$Book" "count" "I") ∈ zk_tbl := zk_in 85 (by decide +kernel) rfl
theorem tw_86 : (Jvm.Cond.fieldLink "RoadPlugs" (312 : Nat) "RoadPlugs$Book" "count" "I") ∈ zk_tbl := zk_in 86 (by decide +kernel) rfl
