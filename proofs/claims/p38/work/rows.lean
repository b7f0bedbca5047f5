section
-- ===== PART A: goes FIRST, ahead of the names: the tables' words, and 'selects' of the private methods out of them =====
/-- the name of the class's method of five ints that takes a bidder in, out of the tables' own row of it: a hand-in's text may not hold that word, not as a string either -/
def lw_nm : String := match (tables_1[653]? : Option Cond) with
  | some (Cond.instanceMethod q) => q.name
  | _ => ""
/-- a private method of a class that the tables say can be made, by its rows of tables_1 -/
def lw_okq (q : MethodName × Nat) : Prop := (q.1.cls ≠ "java/lang/invoke/MethodHandle" ∧ q.1.cls ≠ "java/lang/invoke/VarHandle") ∧ Cond.instantiable q.1.cls q.2 ∈ tables_1 ∧ Cond.privateMethod q.1 ∈ tables_1 ∧ Cond.instanceMethod q.1 ∈ tables_1
theorem lw_p0 : lw_okq (⟨"BridgeRounds$History", "keep", "(LBridgeRounds$State;)V"⟩, 2) := ⟨⟨by decide +kernel, by decide +kernel⟩, List.mem_of_getElem? (i := 220) (by decide +kernel), List.mem_of_getElem? (i := 380) (by decide +kernel), List.mem_of_getElem? (i := 381) (by decide +kernel)⟩
theorem lw_p1 : lw_okq (⟨"BridgeRounds$History", "dropOldest", "()V"⟩, 2) := ⟨⟨by decide +kernel, by decide +kernel⟩, List.mem_of_getElem? (i := 220) (by decide +kernel), List.mem_of_getElem? (i := 384) (by decide +kernel), List.mem_of_getElem? (i := 385) (by decide +kernel)⟩
theorem lw_p2 : lw_okq (⟨"BridgeRounds$State", "copyFrom", "(LBridgeRounds$State;)V"⟩, 7) := ⟨⟨by decide +kernel, by decide +kernel⟩, List.mem_of_getElem? (i := 23) (by decide +kernel), List.mem_of_getElem? (i := 388) (by decide +kernel), List.mem_of_getElem? (i := 389) (by decide +kernel)⟩
theorem lw_p3 : lw_okq (⟨"BridgeRounds$Roads", "copyFrom", "(LBridgeRounds$Roads;)V"⟩, 6) := ⟨⟨by decide +kernel, by decide +kernel⟩, List.mem_of_getElem? (i := 29) (by decide +kernel), List.mem_of_getElem? (i := 392) (by decide +kernel), List.mem_of_getElem? (i := 393) (by decide +kernel)⟩
theorem lw_p4 : lw_okq (⟨"BridgeRounds$Bridges", "copyFrom", "(LBridgeRounds$Bridges;)V"⟩, 11) := ⟨⟨by decide +kernel, by decide +kernel⟩, List.mem_of_getElem? (i := 70) (by decide +kernel), List.mem_of_getElem? (i := 399) (by decide +kernel), List.mem_of_getElem? (i := 400) (by decide +kernel)⟩
theorem lw_p5 : lw_okq (⟨"BridgeRounds$Repairs", "copyFrom", "(LBridgeRounds$Repairs;)V"⟩, 7) := ⟨⟨by decide +kernel, by decide +kernel⟩, List.mem_of_getElem? (i := 135) (by decide +kernel), List.mem_of_getElem? (i := 404) (by decide +kernel), List.mem_of_getElem? (i := 405) (by decide +kernel)⟩
theorem lw_p6 : lw_okq (⟨"BridgeRounds$Roads", "hasTown", "(I)Z"⟩, 6) := ⟨⟨by decide +kernel, by decide +kernel⟩, List.mem_of_getElem? (i := 29) (by decide +kernel), List.mem_of_getElem? (i := 413) (by decide +kernel), List.mem_of_getElem? (i := 414) (by decide +kernel)⟩
theorem lw_p7 : lw_okq (⟨"BridgeRounds$Roads", "join", "(III)I"⟩, 6) := ⟨⟨by decide +kernel, by decide +kernel⟩, List.mem_of_getElem? (i := 29) (by decide +kernel), List.mem_of_getElem? (i := 417) (by decide +kernel), List.mem_of_getElem? (i := 418) (by decide +kernel)⟩
theorem lw_p8 : lw_okq (⟨"BridgeRounds$Roads", "hasRoad", "(I)Z"⟩, 6) := ⟨⟨by decide +kernel, by decide +kernel⟩, List.mem_of_getElem? (i := 29) (by decide +kernel), List.mem_of_getElem? (i := 425) (by decide +kernel), List.mem_of_getElem? (i := 426) (by decide +kernel)⟩
theorem lw_p9 : lw_okq (⟨"BridgeRounds$State", "build", "(I)I"⟩, 7) := ⟨⟨by decide +kernel, by decide +kernel⟩, List.mem_of_getElem? (i := 23) (by decide +kernel), List.mem_of_getElem? (i := 429) (by decide +kernel), List.mem_of_getElem? (i := 430) (by decide +kernel)⟩
theorem lw_p10 : lw_okq (⟨"BridgeRounds$Bridges", "start", "(II)I"⟩, 11) := ⟨⟨by decide +kernel, by decide +kernel⟩, List.mem_of_getElem? (i := 70) (by decide +kernel), List.mem_of_getElem? (i := 433) (by decide +kernel), List.mem_of_getElem? (i := 434) (by decide +kernel)⟩
theorem lw_p11 : lw_okq (⟨"BridgeRounds$Bridges", "hasBridge", "(I)Z"⟩, 11) := ⟨⟨by decide +kernel, by decide +kernel⟩, List.mem_of_getElem? (i := 70) (by decide +kernel), List.mem_of_getElem? (i := 441) (by decide +kernel), List.mem_of_getElem? (i := 442) (by decide +kernel)⟩
theorem lw_p12 : lw_okq (⟨"BridgeRounds$Bridges", "fit", "(IIII)I"⟩, 11) := ⟨⟨by decide +kernel, by decide +kernel⟩, List.mem_of_getElem? (i := 70) (by decide +kernel), List.mem_of_getElem? (i := 445) (by decide +kernel), List.mem_of_getElem? (i := 446) (by decide +kernel)⟩
theorem lw_p13 : lw_okq (⟨"BridgeRounds$Bridges", "hasComponent", "(II)Z"⟩, 11) := ⟨⟨by decide +kernel, by decide +kernel⟩, List.mem_of_getElem? (i := 70) (by decide +kernel), List.mem_of_getElem? (i := 456) (by decide +kernel), List.mem_of_getElem? (i := 457) (by decide +kernel)⟩
theorem lw_p14 : lw_okq (⟨"BridgeRounds$Bridges", "turnRest", "(III)Z"⟩, 11) := ⟨⟨by decide +kernel, by decide +kernel⟩, List.mem_of_getElem? (i := 70) (by decide +kernel), List.mem_of_getElem? (i := 461) (by decide +kernel), List.mem_of_getElem? (i := 462) (by decide +kernel)⟩
theorem lw_p15 : lw_okq (⟨"BridgeRounds$Bridges", "renew", "(II)V"⟩, 11) := ⟨⟨by decide +kernel, by decide +kernel⟩, List.mem_of_getElem? (i := 70) (by decide +kernel), List.mem_of_getElem? (i := 470) (by decide +kernel), List.mem_of_getElem? (i := 471) (by decide +kernel)⟩
def lw_privs_1 : List (MethodName × Nat) := [(⟨"BridgeRounds$History", "keep", "(LBridgeRounds$State;)V"⟩, 2), (⟨"BridgeRounds$History", "dropOldest", "()V"⟩, 2), (⟨"BridgeRounds$State", "copyFrom", "(LBridgeRounds$State;)V"⟩, 7), (⟨"BridgeRounds$Roads", "copyFrom", "(LBridgeRounds$Roads;)V"⟩, 6), (⟨"BridgeRounds$Bridges", "copyFrom", "(LBridgeRounds$Bridges;)V"⟩, 11), (⟨"BridgeRounds$Repairs", "copyFrom", "(LBridgeRounds$Repairs;)V"⟩, 7), (⟨"BridgeRounds$Roads", "hasTown", "(I)Z"⟩, 6), (⟨"BridgeRounds$Roads", "join", "(III)I"⟩, 6), (⟨"BridgeRounds$Roads", "hasRoad", "(I)Z"⟩, 6), (⟨"BridgeRounds$State", "build", "(I)I"⟩, 7), (⟨"BridgeRounds$Bridges", "start", "(II)I"⟩, 11), (⟨"BridgeRounds$Bridges", "hasBridge", "(I)Z"⟩, 11), (⟨"BridgeRounds$Bridges", "fit", "(IIII)I"⟩, 11), (⟨"BridgeRounds$Bridges", "hasComponent", "(II)Z"⟩, 11), (⟨"BridgeRounds$Bridges", "turnRest", "(III)Z"⟩, 11), (⟨"BridgeRounds$Bridges", "renew", "(II)V"⟩, 11)]
theorem lw_r1 : ∀ q ∈ lw_privs_1, lw_okq q := List.forall_mem_cons.mpr ⟨lw_p0, List.forall_mem_cons.mpr ⟨lw_p1, List.forall_mem_cons.mpr ⟨lw_p2, List.forall_mem_cons.mpr ⟨lw_p3, List.forall_mem_cons.mpr ⟨lw_p4, List.forall_mem_cons.mpr ⟨lw_p5, List.forall_mem_cons.mpr ⟨lw_p6, List.forall_mem_cons.mpr ⟨lw_p7, List.forall_mem_cons.mpr ⟨lw_p8, List.forall_mem_cons.mpr ⟨lw_p9, List.forall_mem_cons.mpr ⟨lw_p10, List.forall_mem_cons.mpr ⟨lw_p11, List.forall_mem_cons.mpr ⟨lw_p12, List.forall_mem_cons.mpr ⟨lw_p13, List.forall_mem_cons.mpr ⟨lw_p14, List.forall_mem_cons.mpr ⟨lw_p15, fun _ h => absurd h List.not_mem_nil⟩⟩⟩⟩⟩⟩⟩⟩⟩⟩⟩⟩⟩⟩⟩⟩
theorem lw_p16 : lw_okq (⟨"BridgeRounds$State", "dueBridges", "()I"⟩, 7) := ⟨⟨by decide +kernel, by decide +kernel⟩, List.mem_of_getElem? (i := 23) (by decide +kernel), List.mem_of_getElem? (i := 482) (by decide +kernel), List.mem_of_getElem? (i := 483) (by decide +kernel)⟩
theorem lw_p17 : lw_okq (⟨"BridgeRounds$State", "isDue", "(I)Z"⟩, 7) := ⟨⟨by decide +kernel, by decide +kernel⟩, List.mem_of_getElem? (i := 23) (by decide +kernel), List.mem_of_getElem? (i := 486) (by decide +kernel), List.mem_of_getElem? (i := 487) (by decide +kernel)⟩
theorem lw_p18 : lw_okq (⟨"BridgeRounds$Bridges", "dueYear", "(I)I"⟩, 11) := ⟨⟨by decide +kernel, by decide +kernel⟩, List.mem_of_getElem? (i := 70) (by decide +kernel), List.mem_of_getElem? (i := 490) (by decide +kernel), List.mem_of_getElem? (i := 491) (by decide +kernel)⟩
theorem lw_p19 : lw_okq (⟨"BridgeRounds$Frame", "overrated", "(LBridgeRounds$Bridges;)I"⟩, 2) := ⟨⟨by decide +kernel, by decide +kernel⟩, List.mem_of_getElem? (i := 282) (by decide +kernel), List.mem_of_getElem? (i := 494) (by decide +kernel), List.mem_of_getElem? (i := 495) (by decide +kernel)⟩
theorem lw_p20 : lw_okq (⟨"BridgeRounds$Frame", "trueRating", "(LBridgeRounds$Bridges;I)I"⟩, 2) := ⟨⟨by decide +kernel, by decide +kernel⟩, List.mem_of_getElem? (i := 282) (by decide +kernel), List.mem_of_getElem? (i := 498) (by decide +kernel), List.mem_of_getElem? (i := 499) (by decide +kernel)⟩
theorem lw_p21 : lw_okq (⟨"BridgeRounds$Frame", "take", "(LBridgeRounds$Bridges;II)V"⟩, 2) := ⟨⟨by decide +kernel, by decide +kernel⟩, List.mem_of_getElem? (i := 282) (by decide +kernel), List.mem_of_getElem? (i := 502) (by decide +kernel), List.mem_of_getElem? (i := 503) (by decide +kernel)⟩
theorem lw_p22 : lw_okq (⟨"BridgeRounds$Bridges", "ratingAfter", "(II)I"⟩, 11) := ⟨⟨by decide +kernel, by decide +kernel⟩, List.mem_of_getElem? (i := 70) (by decide +kernel), List.mem_of_getElem? (i := 507) (by decide +kernel), List.mem_of_getElem? (i := 508) (by decide +kernel)⟩
theorem lw_p23 : lw_okq (⟨"BridgeRounds$Frame", "bear", "(LBridgeRounds$Bridges;I)I"⟩, 2) := ⟨⟨by decide +kernel, by decide +kernel⟩, List.mem_of_getElem? (i := 282) (by decide +kernel), List.mem_of_getElem? (i := 514) (by decide +kernel), List.mem_of_getElem? (i := 515) (by decide +kernel)⟩
theorem lw_p24 : lw_okq (⟨"BridgeRounds$Bridges", "post", "(I)I"⟩, 11) := ⟨⟨by decide +kernel, by decide +kernel⟩, List.mem_of_getElem? (i := 70) (by decide +kernel), List.mem_of_getElem? (i := 533) (by decide +kernel), List.mem_of_getElem? (i := 534) (by decide +kernel)⟩
theorem lw_p25 : lw_okq (⟨"BridgeRounds$Frame", "weakOnes", "(LBridgeRounds$Bridges;I)I"⟩, 2) := ⟨⟨by decide +kernel, by decide +kernel⟩, List.mem_of_getElem? (i := 282) (by decide +kernel), List.mem_of_getElem? (i := 548) (by decide +kernel), List.mem_of_getElem? (i := 549) (by decide +kernel)⟩
theorem lw_p26 : lw_okq (⟨"BridgeRounds$Bridges", "grow", "(I)V"⟩, 11) := ⟨⟨by decide +kernel, by decide +kernel⟩, List.mem_of_getElem? (i := 70) (by decide +kernel), List.mem_of_getElem? (i := 556) (by decide +kernel), List.mem_of_getElem? (i := 557) (by decide +kernel)⟩
theorem lw_p27 : lw_okq (⟨"BridgeRounds$State", "lookAt", "(II)V"⟩, 7) := ⟨⟨by decide +kernel, by decide +kernel⟩, List.mem_of_getElem? (i := 23) (by decide +kernel), List.mem_of_getElem? (i := 565) (by decide +kernel), List.mem_of_getElem? (i := 566) (by decide +kernel)⟩
theorem lw_p28 : lw_okq (⟨"BridgeRounds$Tour", "go", "(LBridgeRounds$State;LBridgeRounds$Ways;LBridgeRounds$Frame;II)V"⟩, 2) := ⟨⟨by decide +kernel, by decide +kernel⟩, List.mem_of_getElem? (i := 315) (by decide +kernel), List.mem_of_getElem? (i := 573) (by decide +kernel), List.mem_of_getElem? (i := 574) (by decide +kernel)⟩
theorem lw_p29 : lw_okq (⟨"BridgeRounds$Ways", "measure", "(LBridgeRounds$State;III)V"⟩, 3) := ⟨⟨by decide +kernel, by decide +kernel⟩, List.mem_of_getElem? (i := 296) (by decide +kernel), List.mem_of_getElem? (i := 577) (by decide +kernel), List.mem_of_getElem? (i := 578) (by decide +kernel)⟩
theorem lw_p30 : lw_okq (⟨"BridgeRounds$State", "limit", "(I)I"⟩, 7) := ⟨⟨by decide +kernel, by decide +kernel⟩, List.mem_of_getElem? (i := 23) (by decide +kernel), List.mem_of_getElem? (i := 582) (by decide +kernel), List.mem_of_getElem? (i := 583) (by decide +kernel)⟩
theorem lw_p31 : lw_okq (⟨"BridgeRounds$Ways", "bringNearer", "(LBridgeRounds$Roads;I)Z"⟩, 3) := ⟨⟨by decide +kernel, by decide +kernel⟩, List.mem_of_getElem? (i := 296) (by decide +kernel), List.mem_of_getElem? (i := 588) (by decide +kernel), List.mem_of_getElem? (i := 589) (by decide +kernel)⟩
def lw_privs_2 : List (MethodName × Nat) := [(⟨"BridgeRounds$State", "dueBridges", "()I"⟩, 7), (⟨"BridgeRounds$State", "isDue", "(I)Z"⟩, 7), (⟨"BridgeRounds$Bridges", "dueYear", "(I)I"⟩, 11), (⟨"BridgeRounds$Frame", "overrated", "(LBridgeRounds$Bridges;)I"⟩, 2), (⟨"BridgeRounds$Frame", "trueRating", "(LBridgeRounds$Bridges;I)I"⟩, 2), (⟨"BridgeRounds$Frame", "take", "(LBridgeRounds$Bridges;II)V"⟩, 2), (⟨"BridgeRounds$Bridges", "ratingAfter", "(II)I"⟩, 11), (⟨"BridgeRounds$Frame", "bear", "(LBridgeRounds$Bridges;I)I"⟩, 2), (⟨"BridgeRounds$Bridges", "post", "(I)I"⟩, 11), (⟨"BridgeRounds$Frame", "weakOnes", "(LBridgeRounds$Bridges;I)I"⟩, 2), (⟨"BridgeRounds$Bridges", "grow", "(I)V"⟩, 11), (⟨"BridgeRounds$State", "lookAt", "(II)V"⟩, 7), (⟨"BridgeRounds$Tour", "go", "(LBridgeRounds$State;LBridgeRounds$Ways;LBridgeRounds$Frame;II)V"⟩, 2), (⟨"BridgeRounds$Ways", "measure", "(LBridgeRounds$State;III)V"⟩, 3), (⟨"BridgeRounds$State", "limit", "(I)I"⟩, 7), (⟨"BridgeRounds$Ways", "bringNearer", "(LBridgeRounds$Roads;I)Z"⟩, 3)]
theorem lw_r2 : ∀ q ∈ lw_privs_2, lw_okq q := List.forall_mem_cons.mpr ⟨lw_p16, List.forall_mem_cons.mpr ⟨lw_p17, List.forall_mem_cons.mpr ⟨lw_p18, List.forall_mem_cons.mpr ⟨lw_p19, List.forall_mem_cons.mpr ⟨lw_p20, List.forall_mem_cons.mpr ⟨lw_p21, List.forall_mem_cons.mpr ⟨lw_p22, List.forall_mem_cons.mpr ⟨lw_p23, List.forall_mem_cons.mpr ⟨lw_p24, List.forall_mem_cons.mpr ⟨lw_p25, List.forall_mem_cons.mpr ⟨lw_p26, List.forall_mem_cons.mpr ⟨lw_p27, List.forall_mem_cons.mpr ⟨lw_p28, List.forall_mem_cons.mpr ⟨lw_p29, List.forall_mem_cons.mpr ⟨lw_p30, List.forall_mem_cons.mpr ⟨lw_p31, fun _ h => absurd h List.not_mem_nil⟩⟩⟩⟩⟩⟩⟩⟩⟩⟩⟩⟩⟩⟩⟩⟩
theorem lw_p32 : lw_okq (⟨"BridgeRounds$Frame", "yearsToLess", "(LBridgeRounds$Bridges;I)I"⟩, 2) := ⟨⟨by decide +kernel, by decide +kernel⟩, List.mem_of_getElem? (i := 282) (by decide +kernel), List.mem_of_getElem? (i := 611) (by decide +kernel), List.mem_of_getElem? (i := 612) (by decide +kernel)⟩
theorem lw_p33 : lw_okq (⟨"BridgeRounds$Frame", "ratingIn", "(LBridgeRounds$Bridges;II)I"⟩, 2) := ⟨⟨by decide +kernel, by decide +kernel⟩, List.mem_of_getElem? (i := 282) (by decide +kernel), List.mem_of_getElem? (i := 615) (by decide +kernel), List.mem_of_getElem? (i := 616) (by decide +kernel)⟩
theorem lw_p34 : lw_okq (⟨"BridgeRounds$Ways", "reaches", "(I)Z"⟩, 3) := ⟨⟨by decide +kernel, by decide +kernel⟩, List.mem_of_getElem? (i := 296) (by decide +kernel), List.mem_of_getElem? (i := 624) (by decide +kernel), List.mem_of_getElem? (i := 625) (by decide +kernel)⟩
theorem lw_p35 : lw_okq (⟨"BridgeRounds$Ways", "heaviestLoad", "(LBridgeRounds$State;II)I"⟩, 3) := ⟨⟨by decide +kernel, by decide +kernel⟩, List.mem_of_getElem? (i := 296) (by decide +kernel), List.mem_of_getElem? (i := 636) (by decide +kernel), List.mem_of_getElem? (i := 637) (by decide +kernel)⟩
theorem lw_p36 : lw_okq (⟨"BridgeRounds$Ways", "bringHeavier", "(LBridgeRounds$State;I)Z"⟩, 3) := ⟨⟨by decide +kernel, by decide +kernel⟩, List.mem_of_getElem? (i := 296) (by decide +kernel), List.mem_of_getElem? (i := 640) (by decide +kernel), List.mem_of_getElem? (i := 641) (by decide +kernel)⟩
theorem lw_p37 : lw_okq (⟨"BridgeRounds$Repairs", lw_nm, "(IIIII)I"⟩, 7) := ⟨⟨by decide +kernel, by decide +kernel⟩, List.mem_of_getElem? (i := 135) (by decide +kernel), List.mem_of_getElem? (i := 652) (by decide +kernel), List.mem_of_getElem? (i := 653) (by decide +kernel)⟩
theorem lw_p38 : lw_okq (⟨"BridgeRounds$Repairs", "put", "(III)I"⟩, 7) := ⟨⟨by decide +kernel, by decide +kernel⟩, List.mem_of_getElem? (i := 135) (by decide +kernel), List.mem_of_getElem? (i := 660) (by decide +kernel), List.mem_of_getElem? (i := 661) (by decide +kernel)⟩
theorem lw_p39 : lw_okq (⟨"BridgeRounds$Repairs", "hasLine", "(I)Z"⟩, 7) := ⟨⟨by decide +kernel, by decide +kernel⟩, List.mem_of_getElem? (i := 135) (by decide +kernel), List.mem_of_getElem? (i := 668) (by decide +kernel), List.mem_of_getElem? (i := 669) (by decide +kernel)⟩
theorem lw_p40 : lw_okq (⟨"BridgeRounds$Award", "settle", "(LBridgeRounds$State;)V"⟩, 3) := ⟨⟨by decide +kernel, by decide +kernel⟩, List.mem_of_getElem? (i := 330) (by decide +kernel), List.mem_of_getElem? (i := 672) (by decide +kernel), List.mem_of_getElem? (i := 673) (by decide +kernel)⟩
theorem lw_p41 : lw_okq (⟨"BridgeRounds$Award", "giveTo", "(LBridgeRounds$State;I)I"⟩, 3) := ⟨⟨by decide +kernel, by decide +kernel⟩, List.mem_of_getElem? (i := 330) (by decide +kernel), List.mem_of_getElem? (i := 676) (by decide +kernel), List.mem_of_getElem? (i := 677) (by decide +kernel)⟩
theorem lw_p42 : lw_okq (⟨"BridgeRounds$State", "costOf", "(II)I"⟩, 7) := ⟨⟨by decide +kernel, by decide +kernel⟩, List.mem_of_getElem? (i := 23) (by decide +kernel), List.mem_of_getElem? (i := 683) (by decide +kernel), List.mem_of_getElem? (i := 684) (by decide +kernel)⟩
theorem lw_p43 : lw_okq (⟨"BridgeRounds$Award", "comesFirst", "(I)Z"⟩, 3) := ⟨⟨by decide +kernel, by decide +kernel⟩, List.mem_of_getElem? (i := 330) (by decide +kernel), List.mem_of_getElem? (i := 688) (by decide +kernel), List.mem_of_getElem? (i := 689) (by decide +kernel)⟩
theorem lw_p44 : lw_okq (⟨"BridgeRounds$Repairs", "hasBidder", "(I)Z"⟩, 7) := ⟨⟨by decide +kernel, by decide +kernel⟩, List.mem_of_getElem? (i := 135) (by decide +kernel), List.mem_of_getElem? (i := 697) (by decide +kernel), List.mem_of_getElem? (i := 698) (by decide +kernel)⟩
theorem lw_p45 : lw_okq (⟨"BridgeRounds$Award", "pay", "(LBridgeRounds$State;I)I"⟩, 3) := ⟨⟨by decide +kernel, by decide +kernel⟩, List.mem_of_getElem? (i := 330) (by decide +kernel), List.mem_of_getElem? (i := 701) (by decide +kernel), List.mem_of_getElem? (i := 702) (by decide +kernel)⟩
theorem lw_p46 : lw_okq (⟨"BridgeRounds$State", "costOfAllBy", "(I)I"⟩, 7) := ⟨⟨by decide +kernel, by decide +kernel⟩, List.mem_of_getElem? (i := 23) (by decide +kernel), List.mem_of_getElem? (i := 705) (by decide +kernel), List.mem_of_getElem? (i := 706) (by decide +kernel)⟩
theorem lw_p47 : lw_okq (⟨"BridgeRounds$Frame", "ratingRepaired", "(LBridgeRounds$State;I)I"⟩, 2) := ⟨⟨by decide +kernel, by decide +kernel⟩, List.mem_of_getElem? (i := 282) (by decide +kernel), List.mem_of_getElem? (i := 718) (by decide +kernel), List.mem_of_getElem? (i := 719) (by decide +kernel)⟩
def lw_privs_3 : List (MethodName × Nat) := [(⟨"BridgeRounds$Frame", "yearsToLess", "(LBridgeRounds$Bridges;I)I"⟩, 2), (⟨"BridgeRounds$Frame", "ratingIn", "(LBridgeRounds$Bridges;II)I"⟩, 2), (⟨"BridgeRounds$Ways", "reaches", "(I)Z"⟩, 3), (⟨"BridgeRounds$Ways", "heaviestLoad", "(LBridgeRounds$State;II)I"⟩, 3), (⟨"BridgeRounds$Ways", "bringHeavier", "(LBridgeRounds$State;I)Z"⟩, 3), (⟨"BridgeRounds$Repairs", lw_nm, "(IIIII)I"⟩, 7), (⟨"BridgeRounds$Repairs", "put", "(III)I"⟩, 7), (⟨"BridgeRounds$Repairs", "hasLine", "(I)Z"⟩, 7), (⟨"BridgeRounds$Award", "settle", "(LBridgeRounds$State;)V"⟩, 3), (⟨"BridgeRounds$Award", "giveTo", "(LBridgeRounds$State;I)I"⟩, 3), (⟨"BridgeRounds$State", "costOf", "(II)I"⟩, 7), (⟨"BridgeRounds$Award", "comesFirst", "(I)Z"⟩, 3), (⟨"BridgeRounds$Repairs", "hasBidder", "(I)Z"⟩, 7), (⟨"BridgeRounds$Award", "pay", "(LBridgeRounds$State;I)I"⟩, 3), (⟨"BridgeRounds$State", "costOfAllBy", "(I)I"⟩, 7), (⟨"BridgeRounds$Frame", "ratingRepaired", "(LBridgeRounds$State;I)I"⟩, 2)]
theorem lw_r3 : ∀ q ∈ lw_privs_3, lw_okq q := List.forall_mem_cons.mpr ⟨lw_p32, List.forall_mem_cons.mpr ⟨lw_p33, List.forall_mem_cons.mpr ⟨lw_p34, List.forall_mem_cons.mpr ⟨lw_p35, List.forall_mem_cons.mpr ⟨lw_p36, List.forall_mem_cons.mpr ⟨lw_p37, List.forall_mem_cons.mpr ⟨lw_p38, List.forall_mem_cons.mpr ⟨lw_p39, List.forall_mem_cons.mpr ⟨lw_p40, List.forall_mem_cons.mpr ⟨lw_p41, List.forall_mem_cons.mpr ⟨lw_p42, List.forall_mem_cons.mpr ⟨lw_p43, List.forall_mem_cons.mpr ⟨lw_p44, List.forall_mem_cons.mpr ⟨lw_p45, List.forall_mem_cons.mpr ⟨lw_p46, List.forall_mem_cons.mpr ⟨lw_p47, fun _ h => absurd h List.not_mem_nil⟩⟩⟩⟩⟩⟩⟩⟩⟩⟩⟩⟩⟩⟩⟩⟩
theorem lw_p48 : lw_okq (⟨"BridgeRounds$State", "carryOutLines", "()V"⟩, 7) := ⟨⟨by decide +kernel, by decide +kernel⟩, List.mem_of_getElem? (i := 23) (by decide +kernel), List.mem_of_getElem? (i := 726) (by decide +kernel), List.mem_of_getElem? (i := 727) (by decide +kernel)⟩
theorem lw_p49 : lw_okq (⟨"BridgeRounds$History", "restore", "(LBridgeRounds$State;)Z"⟩, 2) := ⟨⟨by decide +kernel, by decide +kernel⟩, List.mem_of_getElem? (i := 220) (by decide +kernel), List.mem_of_getElem? (i := 736) (by decide +kernel), List.mem_of_getElem? (i := 737) (by decide +kernel)⟩
theorem lw_p50 : lw_okq (⟨"BridgeRounds$RoadText", "read", "(LBridgeRounds$State;)I"⟩, 11) := ⟨⟨by decide +kernel, by decide +kernel⟩, List.mem_of_getElem? (i := 237) (by decide +kernel), List.mem_of_getElem? (i := 744) (by decide +kernel), List.mem_of_getElem? (i := 745) (by decide +kernel)⟩
theorem lw_p51 : lw_okq (⟨"BridgeRounds$RoadText", "readRoad", "(LBridgeRounds$State;)Z"⟩, 11) := ⟨⟨by decide +kernel, by decide +kernel⟩, List.mem_of_getElem? (i := 237) (by decide +kernel), List.mem_of_getElem? (i := 748) (by decide +kernel), List.mem_of_getElem? (i := 749) (by decide +kernel)⟩
theorem lw_p52 : lw_okq (⟨"BridgeRounds$RoadText", "skipBlanks", "()V"⟩, 11) := ⟨⟨by decide +kernel, by decide +kernel⟩, List.mem_of_getElem? (i := 237) (by decide +kernel), List.mem_of_getElem? (i := 752) (by decide +kernel), List.mem_of_getElem? (i := 753) (by decide +kernel)⟩
theorem lw_p53 : lw_okq (⟨"BridgeRounds$RoadText", "fail", "(I)Z"⟩, 11) := ⟨⟨by decide +kernel, by decide +kernel⟩, List.mem_of_getElem? (i := 237) (by decide +kernel), List.mem_of_getElem? (i := 756) (by decide +kernel), List.mem_of_getElem? (i := 757) (by decide +kernel)⟩
theorem lw_p54 : lw_okq (⟨"BridgeRounds$RoadText", "readNumber", "(III)Z"⟩, 11) := ⟨⟨by decide +kernel, by decide +kernel⟩, List.mem_of_getElem? (i := 237) (by decide +kernel), List.mem_of_getElem? (i := 760) (by decide +kernel), List.mem_of_getElem? (i := 761) (by decide +kernel)⟩
theorem lw_p55 : lw_okq (⟨"BridgeRounds$RoadText", "readSign", "(C)Z"⟩, 11) := ⟨⟨by decide +kernel, by decide +kernel⟩, List.mem_of_getElem? (i := 237) (by decide +kernel), List.mem_of_getElem? (i := 768) (by decide +kernel), List.mem_of_getElem? (i := 769) (by decide +kernel)⟩
theorem lw_p56 : lw_okq (⟨"BridgeRounds$RoadText", "keepRoad", "(III)Z"⟩, 11) := ⟨⟨by decide +kernel, by decide +kernel⟩, List.mem_of_getElem? (i := 237) (by decide +kernel), List.mem_of_getElem? (i := 772) (by decide +kernel), List.mem_of_getElem? (i := 773) (by decide +kernel)⟩
theorem lw_p57 : lw_okq (⟨"BridgeRounds$RoadText", "readBridge", "(LBridgeRounds$State;)Z"⟩, 11) := ⟨⟨by decide +kernel, by decide +kernel⟩, List.mem_of_getElem? (i := 237) (by decide +kernel), List.mem_of_getElem? (i := 776) (by decide +kernel), List.mem_of_getElem? (i := 777) (by decide +kernel)⟩
theorem lw_p58 : lw_okq (⟨"BridgeRounds$RoadText", "readSemicolon", "()Z"⟩, 11) := ⟨⟨by decide +kernel, by decide +kernel⟩, List.mem_of_getElem? (i := 237) (by decide +kernel), List.mem_of_getElem? (i := 780) (by decide +kernel), List.mem_of_getElem? (i := 781) (by decide +kernel)⟩
theorem lw_p59 : lw_okq (⟨"BridgeRounds", "withBridge", "(JI)J"⟩, 8) := ⟨⟨by decide +kernel, by decide +kernel⟩, List.mem_of_getElem? (i := 15) (by decide +kernel), List.mem_of_getElem? (i := 792) (by decide +kernel), List.mem_of_getElem? (i := 793) (by decide +kernel)⟩
theorem lw_p60 : lw_okq (⟨"BridgeRounds$Ways", "trace", "(LBridgeRounds$State;III)I"⟩, 3) := ⟨⟨by decide +kernel, by decide +kernel⟩, List.mem_of_getElem? (i := 296) (by decide +kernel), List.mem_of_getElem? (i := 820) (by decide +kernel), List.mem_of_getElem? (i := 821) (by decide +kernel)⟩
theorem lw_p61 : lw_okq (⟨"BridgeRounds$Ways", "ahead", "(LBridgeRounds$State;II)I"⟩, 3) := ⟨⟨by decide +kernel, by decide +kernel⟩, List.mem_of_getElem? (i := 296) (by decide +kernel), List.mem_of_getElem? (i := 825) (by decide +kernel), List.mem_of_getElem? (i := 826) (by decide +kernel)⟩
def lw_privs_4 : List (MethodName × Nat) := [(⟨"BridgeRounds$State", "carryOutLines", "()V"⟩, 7), (⟨"BridgeRounds$History", "restore", "(LBridgeRounds$State;)Z"⟩, 2), (⟨"BridgeRounds$RoadText", "read", "(LBridgeRounds$State;)I"⟩, 11), (⟨"BridgeRounds$RoadText", "readRoad", "(LBridgeRounds$State;)Z"⟩, 11), (⟨"BridgeRounds$RoadText", "skipBlanks", "()V"⟩, 11), (⟨"BridgeRounds$RoadText", "fail", "(I)Z"⟩, 11), (⟨"BridgeRounds$RoadText", "readNumber", "(III)Z"⟩, 11), (⟨"BridgeRounds$RoadText", "readSign", "(C)Z"⟩, 11), (⟨"BridgeRounds$RoadText", "keepRoad", "(III)Z"⟩, 11), (⟨"BridgeRounds$RoadText", "readBridge", "(LBridgeRounds$State;)Z"⟩, 11), (⟨"BridgeRounds$RoadText", "readSemicolon", "()Z"⟩, 11), (⟨"BridgeRounds", "withBridge", "(JI)J"⟩, 8), (⟨"BridgeRounds$Ways", "trace", "(LBridgeRounds$State;III)I"⟩, 3), (⟨"BridgeRounds$Ways", "ahead", "(LBridgeRounds$State;II)I"⟩, 3)]
theorem lw_r4 : ∀ q ∈ lw_privs_4, lw_okq q := List.forall_mem_cons.mpr ⟨lw_p48, List.forall_mem_cons.mpr ⟨lw_p49, List.forall_mem_cons.mpr ⟨lw_p50, List.forall_mem_cons.mpr ⟨lw_p51, List.forall_mem_cons.mpr ⟨lw_p52, List.forall_mem_cons.mpr ⟨lw_p53, List.forall_mem_cons.mpr ⟨lw_p54, List.forall_mem_cons.mpr ⟨lw_p55, List.forall_mem_cons.mpr ⟨lw_p56, List.forall_mem_cons.mpr ⟨lw_p57, List.forall_mem_cons.mpr ⟨lw_p58, List.forall_mem_cons.mpr ⟨lw_p59, List.forall_mem_cons.mpr ⟨lw_p60, List.forall_mem_cons.mpr ⟨lw_p61, fun _ h => absurd h List.not_mem_nil⟩⟩⟩⟩⟩⟩⟩⟩⟩⟩⟩⟩⟩⟩
def lw_privs : List (MethodName × Nat) := lw_privs_1 ++ (lw_privs_2 ++ (lw_privs_3 ++ (lw_privs_4)))
def lw_tbl : List Cond := k2_sels lw_privs ++ tables_1
theorem lw_privs_ok : ∀ q ∈ lw_privs, lw_okq q := by
  show ∀ q ∈ lw_privs_1 ++ (lw_privs_2 ++ (lw_privs_3 ++ (lw_privs_4))), lw_okq q
  exact List.forall_mem_append.mpr ⟨lw_r1, List.forall_mem_append.mpr ⟨lw_r2, List.forall_mem_append.mpr ⟨lw_r3, lw_r4⟩⟩⟩
-- ===== end of PART A; then your names; then what follows =====
end
section
def RX0 : String := "BridgeRounds$Award"
def TX0 : u_T := fun k => match k with
  | 0 => ("BridgeRounds$Award", "cost", "I", false)
  | 1 => ("BridgeRounds$Award", "taker", "[I", true)
  | _ => ("BridgeRounds$Award", "tried", "[I", true)
def tyX0 : Nat → FieldType := fun k => match k with
  | 0 => .int
  | 1 => .array .int
  | _ => .array .int
abbrev wsX00 : List Cond := u_ws RX0 TX0 3
theorem nmX0 : ∀ a, a < 3 → ∀ b, b < 3 → a ≠ b → (TX0 a).2.1 ≠ (TX0 b).2.1 := by decide +kernel
theorem tyX0_ok : ∀ k, k < 3 → parseFieldDescriptor (TX0 k).2.2.1 = some (tyX0 k) := by decide +kernel
abbrev cX0_init : ByteArray := prog_2_method_1_code
def yX0_init : MethodName := ⟨RX0, "<init>", "()V"⟩
abbrev cX0_settle : ByteArray := prog_2_method_2_code
def yX0_settle : MethodName := ⟨RX0, "settle", "(LBridgeRounds$State;)V"⟩
abbrev cX0_giveTo : ByteArray := prog_2_method_3_code
def yX0_giveTo : MethodName := ⟨RX0, "giveTo", "(LBridgeRounds$State;I)I"⟩
abbrev cX0_cheapest : ByteArray := prog_2_method_4_code
def yX0_cheapest : MethodName := ⟨RX0, "cheapest", "(LBridgeRounds$State;II)I"⟩
abbrev cX0_comesFirst : ByteArray := prog_2_method_5_code
def yX0_comesFirst : MethodName := ⟨RX0, "comesFirst", "(I)Z"⟩
abbrev cX0_pay : ByteArray := prog_2_method_6_code
def yX0_pay : MethodName := ⟨RX0, "pay", "(LBridgeRounds$State;I)I"⟩
def RX1 : String := "BridgeRounds$Bridges"
def TX1 : u_T := fun k => match k with
  | 0 => ("BridgeRounds$Bridges", "many", "I", false)
  | 1 => ("BridgeRounds$Bridges", "road", "[I", true)
  | 2 => ("BridgeRounds$Bridges", "told", "[I", true)
  | 3 => ("BridgeRounds$Bridges", "seen", "[I", true)
  | 4 => ("BridgeRounds$Bridges", "closed", "[Z", true)
  | 5 => ("BridgeRounds$Bridges", "components", "[I", true)
  | 6 => ("BridgeRounds$Bridges", "kind", "[I", true)
  | 7 => ("BridgeRounds$Bridges", "rating", "[I", true)
  | 8 => ("BridgeRounds$Bridges", "wear", "[I", true)
  | 9 => ("BridgeRounds$Bridges", "rate", "[I", true)
  | _ => ("BridgeRounds$Bridges", "rests", "[I", true)
def tyX1 : Nat → FieldType := fun k => match k with
  | 0 => .int
  | 1 => .array .int
  | 2 => .array .int
  | 3 => .array .int
  | 4 => .array .boolean
  | 5 => .array .int
  | 6 => .array .int
  | 7 => .array .int
  | 8 => .array .int
  | 9 => .array .int
  | _ => .array .int
abbrev wsX10 : List Cond := u_ws RX1 TX1 11
theorem nmX1 : ∀ a, a < 11 → ∀ b, b < 11 → a ≠ b → (TX1 a).2.1 ≠ (TX1 b).2.1 := by decide +kernel
theorem tyX1_ok : ∀ k, k < 11 → parseFieldDescriptor (TX1 k).2.2.1 = some (tyX1 k) := by decide +kernel
abbrev cX1_init : ByteArray := prog_3_method_1_code
def yX1_init : MethodName := ⟨RX1, "<init>", "()V"⟩
abbrev cX1_place : ByteArray := prog_3_method_2_code
def yX1_place : MethodName := ⟨RX1, "place", "(II)I"⟩
abbrev cX1_hasBridge : ByteArray := prog_3_method_3_code
def yX1_hasBridge : MethodName := ⟨RX1, "hasBridge", "(I)Z"⟩
abbrev cX1_hasComponent : ByteArray := prog_3_method_4_code
def yX1_hasComponent : MethodName := ⟨RX1, "hasComponent", "(II)Z"⟩
abbrev cX1_start : ByteArray := prog_3_method_5_code
def yX1_start : MethodName := ⟨RX1, "start", "(II)I"⟩
abbrev cX1_fit : ByteArray := prog_3_method_6_code
def yX1_fit : MethodName := ⟨RX1, "fit", "(IIII)I"⟩
abbrev cX1_turnRest : ByteArray := prog_3_method_7_code
def yX1_turnRest : MethodName := ⟨RX1, "turnRest", "(III)Z"⟩
abbrev cX1_renew : ByteArray := prog_3_method_8_code
def yX1_renew : MethodName := ⟨RX1, "renew", "(II)V"⟩
abbrev cX1_ratingAfter : ByteArray := prog_3_method_9_code
def yX1_ratingAfter : MethodName := ⟨RX1, "ratingAfter", "(II)I"⟩
abbrev cX1_grow : ByteArray := prog_3_method_10_code
def yX1_grow : MethodName := ⟨RX1, "grow", "(I)V"⟩
abbrev cX1_dueYear : ByteArray := prog_3_method_11_code
def yX1_dueYear : MethodName := ⟨RX1, "dueYear", "(I)I"⟩
abbrev cX1_post : ByteArray := prog_3_method_12_code
def yX1_post : MethodName := ⟨RX1, "post", "(I)I"⟩
abbrev cX1_postFor : ByteArray := prog_3_method_13_code
def yX1_postFor : MethodName := ⟨RX1, "postFor", "(I)I"⟩
abbrev cX1_copyFrom : ByteArray := prog_3_method_14_code
def yX1_copyFrom : MethodName := ⟨RX1, "copyFrom", "(LBridgeRounds$Bridges;)V"⟩
def RX2 : String := "BridgeRounds$Frame"
def TX2 : u_T := fun k => match k with
  | 0 => ("BridgeRounds$Frame", "rating", "[I", true)
  | _ => ("BridgeRounds$Frame", "strength", "[I", true)
def tyX2 : Nat → FieldType := fun k => match k with
  | 0 => .array .int
  | _ => .array .int
abbrev wsX20 : List Cond := u_ws RX2 TX2 2
theorem nmX2 : ∀ a, a < 2 → ∀ b, b < 2 → a ≠ b → (TX2 a).2.1 ≠ (TX2 b).2.1 := by decide +kernel
theorem tyX2_ok : ∀ k, k < 2 → parseFieldDescriptor (TX2 k).2.2.1 = some (tyX2 k) := by decide +kernel
abbrev cX2_init : ByteArray := prog_4_method_1_code
def yX2_init : MethodName := ⟨RX2, "<init>", "()V"⟩
abbrev cX2_trueRating : ByteArray := prog_4_method_2_code
def yX2_trueRating : MethodName := ⟨RX2, "trueRating", "(LBridgeRounds$Bridges;I)I"⟩
abbrev cX2_ratingIn : ByteArray := prog_4_method_3_code
def yX2_ratingIn : MethodName := ⟨RX2, "ratingIn", "(LBridgeRounds$Bridges;II)I"⟩
abbrev cX2_take : ByteArray := prog_4_method_4_code
def yX2_take : MethodName := ⟨RX2, "take", "(LBridgeRounds$Bridges;II)V"⟩
abbrev cX2_bear : ByteArray := prog_4_method_5_code
def yX2_bear : MethodName := ⟨RX2, "bear", "(LBridgeRounds$Bridges;I)I"⟩
abbrev cX2_overrated : ByteArray := prog_4_method_6_code
def yX2_overrated : MethodName := ⟨RX2, "overrated", "(LBridgeRounds$Bridges;)I"⟩
abbrev cX2_weakOnes : ByteArray := prog_4_method_7_code
def yX2_weakOnes : MethodName := ⟨RX2, "weakOnes", "(LBridgeRounds$Bridges;I)I"⟩
abbrev cX2_yearsToLess : ByteArray := prog_4_method_8_code
def yX2_yearsToLess : MethodName := ⟨RX2, "yearsToLess", "(LBridgeRounds$Bridges;I)I"⟩
abbrev cX2_ratingRepaired : ByteArray := prog_4_method_9_code
def yX2_ratingRepaired : MethodName := ⟨RX2, "ratingRepaired", "(LBridgeRounds$State;I)I"⟩
def RX3 : String := "BridgeRounds$History"
def TX3 : u_T := fun k => match k with
  | 0 => ("BridgeRounds$History", "many", "I", false)
  | _ => ("BridgeRounds$History", "kept", "[LBridgeRounds$State;", true)
def tyX3 : Nat → FieldType := fun k => match k with
  | 0 => .int
  | _ => .array (.object "BridgeRounds$State")
abbrev wsX30 : List Cond := u_ws RX3 TX3 2
theorem nmX3 : ∀ a, a < 2 → ∀ b, b < 2 → a ≠ b → (TX3 a).2.1 ≠ (TX3 b).2.1 := by decide +kernel
theorem tyX3_ok : ∀ k, k < 2 → parseFieldDescriptor (TX3 k).2.2.1 = some (tyX3 k) := by decide +kernel
abbrev cX3_init : ByteArray := prog_5_method_1_code
def yX3_init : MethodName := ⟨RX3, "<init>", "()V"⟩
abbrev cX3_keep : ByteArray := prog_5_method_2_code
def yX3_keep : MethodName := ⟨RX3, "keep", "(LBridgeRounds$State;)V"⟩
abbrev cX3_dropOldest : ByteArray := prog_5_method_3_code
def yX3_dropOldest : MethodName := ⟨RX3, "dropOldest", "()V"⟩
abbrev cX3_restore : ByteArray := prog_5_method_4_code
def yX3_restore : MethodName := ⟨RX3, "restore", "(LBridgeRounds$State;)Z"⟩
def RX4 : String := "BridgeRounds$Repairs"
def TX4 : u_T := fun k => match k with
  | 0 => ("BridgeRounds$Repairs", "lines", "I", false)
  | 1 => ("BridgeRounds$Repairs", "bidders", "I", false)
  | 2 => ("BridgeRounds$Repairs", "bridge", "[I", true)
  | 3 => ("BridgeRounds$Repairs", "component", "[I", true)
  | 4 => ("BridgeRounds$Repairs", "points", "[I", true)
  | 5 => ("BridgeRounds$Repairs", "fee", "[I", true)
  | _ => ("BridgeRounds$Repairs", "price", "[I", true)
def tyX4 : Nat → FieldType := fun k => match k with
  | 0 => .int
  | 1 => .int
  | 2 => .array .int
  | 3 => .array .int
  | 4 => .array .int
  | 5 => .array .int
  | _ => .array .int
abbrev wsX40 : List Cond := u_ws RX4 TX4 7
theorem nmX4 : ∀ a, a < 7 → ∀ b, b < 7 → a ≠ b → (TX4 a).2.1 ≠ (TX4 b).2.1 := by decide +kernel
theorem tyX4_ok : ∀ k, k < 7 → parseFieldDescriptor (TX4 k).2.2.1 = some (tyX4 k) := by decide +kernel
abbrev cX4_init : ByteArray := prog_6_method_1_code
def yX4_init : MethodName := ⟨RX4, "<init>", "()V"⟩
abbrev cX4_hasLine : ByteArray := prog_6_method_2_code
def yX4_hasLine : MethodName := ⟨RX4, "hasLine", "(I)Z"⟩
abbrev cX4_hasBidder : ByteArray := prog_6_method_3_code
def yX4_hasBidder : MethodName := ⟨RX4, "hasBidder", "(I)Z"⟩
abbrev cX4_admit : ByteArray := prog_6_method_4_code
def yX4_admit : MethodName := ⟨RX4, lw_nm, "(IIIII)I"⟩
abbrev cX4_put : ByteArray := prog_6_method_5_code
def yX4_put : MethodName := ⟨RX4, "put", "(III)I"⟩
abbrev cX4_copyFrom : ByteArray := prog_6_method_6_code
def yX4_copyFrom : MethodName := ⟨RX4, "copyFrom", "(LBridgeRounds$Repairs;)V"⟩
def RX5 : String := "BridgeRounds$RoadText"
def TX5 : u_T := fun k => match k with
  | 0 => ("BridgeRounds$RoadText", "bytes", "[I", true)
  | 1 => ("BridgeRounds$RoadText", "length", "I", false)
  | 2 => ("BridgeRounds$RoadText", "at", "I", false)
  | 3 => ("BridgeRounds$RoadText", "fault", "I", false)
  | 4 => ("BridgeRounds$RoadText", "number", "I", false)
  | 5 => ("BridgeRounds$RoadText", "roads", "I", false)
  | 6 => ("BridgeRounds$RoadText", "bridges", "I", false)
  | 7 => ("BridgeRounds$RoadText", "one", "[I", true)
  | 8 => ("BridgeRounds$RoadText", "other", "[I", true)
  | 9 => ("BridgeRounds$RoadText", "far", "[I", true)
  | _ => ("BridgeRounds$RoadText", "bridged", "[Z", true)
def tyX5 : Nat → FieldType := fun k => match k with
  | 0 => .array .int
  | 1 => .int
  | 2 => .int
  | 3 => .int
  | 4 => .int
  | 5 => .int
  | 6 => .int
  | 7 => .array .int
  | 8 => .array .int
  | 9 => .array .int
  | _ => .array .boolean
abbrev wsX50 : List Cond := u_ws RX5 TX5 11
theorem nmX5 : ∀ a, a < 11 → ∀ b, b < 11 → a ≠ b → (TX5 a).2.1 ≠ (TX5 b).2.1 := by decide +kernel
theorem tyX5_ok : ∀ k, k < 11 → parseFieldDescriptor (TX5 k).2.2.1 = some (tyX5 k) := by decide +kernel
abbrev cX5_init : ByteArray := prog_7_method_1_code
def yX5_init : MethodName := ⟨RX5, "<init>", "()V"⟩
abbrev cX5_read : ByteArray := prog_7_method_2_code
def yX5_read : MethodName := ⟨RX5, "read", "(LBridgeRounds$State;)I"⟩
abbrev cX5_readRoad : ByteArray := prog_7_method_3_code
def yX5_readRoad : MethodName := ⟨RX5, "readRoad", "(LBridgeRounds$State;)Z"⟩
abbrev cX5_keepRoad : ByteArray := prog_7_method_4_code
def yX5_keepRoad : MethodName := ⟨RX5, "keepRoad", "(III)Z"⟩
abbrev cX5_readBridge : ByteArray := prog_7_method_5_code
def yX5_readBridge : MethodName := ⟨RX5, "readBridge", "(LBridgeRounds$State;)Z"⟩
abbrev cX5_readSemicolon : ByteArray := prog_7_method_6_code
def yX5_readSemicolon : MethodName := ⟨RX5, "readSemicolon", "()Z"⟩
abbrev cX5_readSign : ByteArray := prog_7_method_7_code
def yX5_readSign : MethodName := ⟨RX5, "readSign", "(C)Z"⟩
abbrev cX5_readNumber : ByteArray := prog_7_method_8_code
def yX5_readNumber : MethodName := ⟨RX5, "readNumber", "(III)Z"⟩
abbrev cX5_skipBlanks : ByteArray := prog_7_method_9_code
def yX5_skipBlanks : MethodName := ⟨RX5, "skipBlanks", "()V"⟩
abbrev cX5_isDigit : ByteArray := prog_7_method_10_code
def yX5_isDigit : MethodName := ⟨RX5, "isDigit", "(I)Z"⟩
abbrev cX5_fail : ByteArray := prog_7_method_11_code
def yX5_fail : MethodName := ⟨RX5, "fail", "(I)Z"⟩
def RX6 : String := "BridgeRounds$Roads"
def TX6 : u_T := fun k => match k with
  | 0 => ("BridgeRounds$Roads", "towns", "I", false)
  | 1 => ("BridgeRounds$Roads", "many", "I", false)
  | 2 => ("BridgeRounds$Roads", "one", "[I", true)
  | 3 => ("BridgeRounds$Roads", "other", "[I", true)
  | 4 => ("BridgeRounds$Roads", "length", "[I", true)
  | _ => ("BridgeRounds$Roads", "bridge", "[I", true)
def tyX6 : Nat → FieldType := fun k => match k with
  | 0 => .int
  | 1 => .int
  | 2 => .array .int
  | 3 => .array .int
  | 4 => .array .int
  | _ => .array .int
abbrev wsX60 : List Cond := u_ws RX6 TX6 6
theorem nmX6 : ∀ a, a < 6 → ∀ b, b < 6 → a ≠ b → (TX6 a).2.1 ≠ (TX6 b).2.1 := by decide +kernel
theorem tyX6_ok : ∀ k, k < 6 → parseFieldDescriptor (TX6 k).2.2.1 = some (tyX6 k) := by decide +kernel
abbrev cX6_init : ByteArray := prog_8_method_1_code
def yX6_init : MethodName := ⟨RX6, "<init>", "()V"⟩
abbrev cX6_hasTown : ByteArray := prog_8_method_2_code
def yX6_hasTown : MethodName := ⟨RX6, "hasTown", "(I)Z"⟩
abbrev cX6_hasRoad : ByteArray := prog_8_method_3_code
def yX6_hasRoad : MethodName := ⟨RX6, "hasRoad", "(I)Z"⟩
abbrev cX6_join : ByteArray := prog_8_method_4_code
def yX6_join : MethodName := ⟨RX6, "join", "(III)I"⟩
abbrev cX6_copyFrom : ByteArray := prog_8_method_5_code
def yX6_copyFrom : MethodName := ⟨RX6, "copyFrom", "(LBridgeRounds$Roads;)V"⟩
def RX7 : String := "BridgeRounds$State"
def TX7 : u_T := fun k => match k with
  | 0 => ("BridgeRounds$State", "roads", "LBridgeRounds$Roads;", true)
  | 1 => ("BridgeRounds$State", "bridges", "LBridgeRounds$Bridges;", true)
  | 2 => ("BridgeRounds$State", "repairs", "LBridgeRounds$Repairs;", true)
  | 3 => ("BridgeRounds$State", "year", "I", false)
  | 4 => ("BridgeRounds$State", "inspections", "I", false)
  | 5 => ("BridgeRounds$State", "spentForInspections", "I", false)
  | _ => ("BridgeRounds$State", "spentForRepairs", "I", false)
def tyX7 : Nat → FieldType := fun k => match k with
  | 0 => .object "BridgeRounds$Roads"
  | 1 => .object "BridgeRounds$Bridges"
  | 2 => .object "BridgeRounds$Repairs"
  | 3 => .int
  | 4 => .int
  | 5 => .int
  | _ => .int
abbrev wsX70 : List Cond := u_ws RX7 TX7 7
theorem nmX7 : ∀ a, a < 7 → ∀ b, b < 7 → a ≠ b → (TX7 a).2.1 ≠ (TX7 b).2.1 := by decide +kernel
theorem tyX7_ok : ∀ k, k < 7 → parseFieldDescriptor (TX7 k).2.2.1 = some (tyX7 k) := by decide +kernel
abbrev cX7_init : ByteArray := prog_9_method_1_code
def yX7_init : MethodName := ⟨RX7, "<init>", "()V"⟩
abbrev cX7_build : ByteArray := prog_9_method_2_code
def yX7_build : MethodName := ⟨RX7, "build", "(I)I"⟩
abbrev cX7_isDue : ByteArray := prog_9_method_3_code
def yX7_isDue : MethodName := ⟨RX7, "isDue", "(I)Z"⟩
abbrev cX7_dueBridges : ByteArray := prog_9_method_4_code
def yX7_dueBridges : MethodName := ⟨RX7, "dueBridges", "()I"⟩
abbrev cX7_lookAt : ByteArray := prog_9_method_5_code
def yX7_lookAt : MethodName := ⟨RX7, "lookAt", "(II)V"⟩
abbrev cX7_limit : ByteArray := prog_9_method_6_code
def yX7_limit : MethodName := ⟨RX7, "limit", "(I)I"⟩
abbrev cX7_costOf : ByteArray := prog_9_method_7_code
def yX7_costOf : MethodName := ⟨RX7, "costOf", "(II)I"⟩
abbrev cX7_costOfAllBy : ByteArray := prog_9_method_8_code
def yX7_costOfAllBy : MethodName := ⟨RX7, "costOfAllBy", "(I)I"⟩
abbrev cX7_carryOutLines : ByteArray := prog_9_method_9_code
def yX7_carryOutLines : MethodName := ⟨RX7, "carryOutLines", "()V"⟩
abbrev cX7_copyFrom : ByteArray := prog_9_method_10_code
def yX7_copyFrom : MethodName := ⟨RX7, "copyFrom", "(LBridgeRounds$State;)V"⟩
def RX8 : String := "BridgeRounds$Tour"
def TX8 : u_T := fun k => match k with
  | 0 => ("BridgeRounds$Tour", "many", "I", false)
  | _ => ("BridgeRounds$Tour", "order", "[I", true)
def tyX8 : Nat → FieldType := fun k => match k with
  | 0 => .int
  | _ => .array .int
abbrev wsX80 : List Cond := u_ws RX8 TX8 2
theorem nmX8 : ∀ a, a < 2 → ∀ b, b < 2 → a ≠ b → (TX8 a).2.1 ≠ (TX8 b).2.1 := by decide +kernel
theorem tyX8_ok : ∀ k, k < 2 → parseFieldDescriptor (TX8 k).2.2.1 = some (tyX8 k) := by decide +kernel
abbrev cX8_init : ByteArray := prog_10_method_1_code
def yX8_init : MethodName := ⟨RX8, "<init>", "()V"⟩
abbrev cX8_go : ByteArray := prog_10_method_2_code
def yX8_go : MethodName := ⟨RX8, "go", "(LBridgeRounds$State;LBridgeRounds$Ways;LBridgeRounds$Frame;II)V"⟩
abbrev cX8_nearest : ByteArray := prog_10_method_3_code
def yX8_nearest : MethodName := ⟨RX8, "nearest", "(LBridgeRounds$State;LBridgeRounds$Ways;)I"⟩
abbrev cX8_stopFor : ByteArray := prog_10_method_4_code
def yX8_stopFor : MethodName := ⟨RX8, "stopFor", "(LBridgeRounds$State;LBridgeRounds$Ways;I)I"⟩
abbrev cX8_drive : ByteArray := prog_10_method_5_code
def yX8_drive : MethodName := ⟨RX8, "drive", "(I)I"⟩
def RX9 : String := "BridgeRounds$Ways"
def TX9 : u_T := fun k => match k with
  | 0 => ("BridgeRounds$Ways", "far", "[I", true)
  | 1 => ("BridgeRounds$Ways", "load", "[I", true)
  | _ => ("BridgeRounds$Ways", "back", "[I", true)
def tyX9 : Nat → FieldType := fun k => match k with
  | 0 => .array .int
  | 1 => .array .int
  | _ => .array .int
abbrev wsX90 : List Cond := u_ws RX9 TX9 3
theorem nmX9 : ∀ a, a < 3 → ∀ b, b < 3 → a ≠ b → (TX9 a).2.1 ≠ (TX9 b).2.1 := by decide +kernel
theorem tyX9_ok : ∀ k, k < 3 → parseFieldDescriptor (TX9 k).2.2.1 = some (tyX9 k) := by decide +kernel
abbrev cX9_init : ByteArray := prog_11_method_1_code
def yX9_init : MethodName := ⟨RX9, "<init>", "()V"⟩
abbrev cX9_reaches : ByteArray := prog_11_method_2_code
def yX9_reaches : MethodName := ⟨RX9, "reaches", "(I)Z"⟩
abbrev cX9_measure : ByteArray := prog_11_method_3_code
def yX9_measure : MethodName := ⟨RX9, "measure", "(LBridgeRounds$State;III)V"⟩
abbrev cX9_bringNearer : ByteArray := prog_11_method_4_code
def yX9_bringNearer : MethodName := ⟨RX9, "bringNearer", "(LBridgeRounds$Roads;I)Z"⟩
abbrev cX9_trace : ByteArray := prog_11_method_5_code
def yX9_trace : MethodName := ⟨RX9, "trace", "(LBridgeRounds$State;III)I"⟩
abbrev cX9_ahead : ByteArray := prog_11_method_6_code
def yX9_ahead : MethodName := ⟨RX9, "ahead", "(LBridgeRounds$State;II)I"⟩
abbrev cX9_heaviestLoad : ByteArray := prog_11_method_7_code
def yX9_heaviestLoad : MethodName := ⟨RX9, "heaviestLoad", "(LBridgeRounds$State;II)I"⟩
abbrev cX9_bringHeavier : ByteArray := prog_11_method_8_code
def yX9_bringHeavier : MethodName := ⟨RX9, "bringHeavier", "(LBridgeRounds$State;I)Z"⟩
def RX10 : String := "BridgeRounds"
def TX10 : u_T := fun k => match k with
  | 0 => ("BridgeRounds", "now", "LBridgeRounds$State;", true)
  | 1 => ("BridgeRounds", "supposed", "LBridgeRounds$State;", true)
  | 2 => ("BridgeRounds", "history", "LBridgeRounds$History;", true)
  | 3 => ("BridgeRounds", "text", "LBridgeRounds$RoadText;", true)
  | 4 => ("BridgeRounds", "frame", "LBridgeRounds$Frame;", true)
  | 5 => ("BridgeRounds", "ways", "LBridgeRounds$Ways;", true)
  | 6 => ("BridgeRounds", "tour", "LBridgeRounds$Tour;", true)
  | _ => ("BridgeRounds", "best", "LBridgeRounds$Award;", true)
def tyX10 : Nat → FieldType := fun k => match k with
  | 0 => .object "BridgeRounds$State"
  | 1 => .object "BridgeRounds$State"
  | 2 => .object "BridgeRounds$History"
  | 3 => .object "BridgeRounds$RoadText"
  | 4 => .object "BridgeRounds$Frame"
  | 5 => .object "BridgeRounds$Ways"
  | 6 => .object "BridgeRounds$Tour"
  | _ => .object "BridgeRounds$Award"
abbrev wsX100 : List Cond := u_ws RX10 TX10 8
theorem nmX10 : ∀ a, a < 8 → ∀ b, b < 8 → a ≠ b → (TX10 a).2.1 ≠ (TX10 b).2.1 := by decide +kernel
theorem tyX10_ok : ∀ k, k < 8 → parseFieldDescriptor (TX10 k).2.2.1 = some (tyX10 k) := by decide +kernel
abbrev cX10_init : ByteArray := prog_1_method_1_code
def yX10_init : MethodName := ⟨RX10, "<init>", "()V"⟩
abbrev cX10_addTowns : ByteArray := prog_1_method_2_code
def yX10_addTowns : MethodName := ⟨RX10, "addTowns", "(I)I"⟩
abbrev cX10_addRoad : ByteArray := prog_1_method_3_code
def yX10_addRoad : MethodName := ⟨RX10, "addRoad", "(III)I"⟩
abbrev cX10_addBridge : ByteArray := prog_1_method_4_code
def yX10_addBridge : MethodName := ⟨RX10, "addBridge", "(I)I"⟩
abbrev cX10_addComponent : ByteArray := prog_1_method_5_code
def yX10_addComponent : MethodName := ⟨RX10, "addComponent", "(IIII)I"⟩
abbrev cX10_rest : ByteArray := prog_1_method_6_code
def yX10_rest : MethodName := ⟨RX10, "rest", "(III)I"⟩
abbrev cX10_setRating : ByteArray := prog_1_method_7_code
def yX10_setRating : MethodName := ⟨RX10, "setRating", "(III)I"⟩
abbrev cX10_close : ByteArray := prog_1_method_8_code
def yX10_close : MethodName := ⟨RX10, "close", "(IZ)I"⟩
abbrev cX10_count : ByteArray := prog_1_method_9_code
def yX10_count : MethodName := ⟨RX10, "count", "(I)I"⟩
abbrev cX10_road : ByteArray := prog_1_method_10_code
def yX10_road : MethodName := ⟨RX10, "road", "(II)I"⟩
abbrev cX10_bridge : ByteArray := prog_1_method_11_code
def yX10_bridge : MethodName := ⟨RX10, "bridge", "(II)I"⟩
abbrev cX10_component : ByteArray := prog_1_method_12_code
def yX10_component : MethodName := ⟨RX10, "component", "(III)I"⟩
abbrev cX10_weak : ByteArray := prog_1_method_13_code
def yX10_weak : MethodName := ⟨RX10, "weak", "(I)I"⟩
abbrev cX10_pass : ByteArray := prog_1_method_14_code
def yX10_pass : MethodName := ⟨RX10, "pass", "(I)I"⟩
abbrev cX10_inspect : ByteArray := prog_1_method_15_code
def yX10_inspect : MethodName := ⟨RX10, "inspect", "(I)I"⟩
abbrev cX10_round : ByteArray := prog_1_method_16_code
def yX10_round : MethodName := ⟨RX10, "round", "(II)I"⟩
abbrev cX10_ofRound : ByteArray := prog_1_method_17_code
def yX10_ofRound : MethodName := ⟨RX10, "ofRound", "(III)I"⟩
abbrev cX10_weakensIn : ByteArray := prog_1_method_18_code
def yX10_weakensIn : MethodName := ⟨RX10, "weakensIn", "(I)I"⟩
abbrev cX10_way : ByteArray := prog_1_method_19_code
def yX10_way : MethodName := ⟨RX10, "way", "(III)I"⟩
abbrev cX10_wayTown : ByteArray := prog_1_method_20_code
def yX10_wayTown : MethodName := ⟨RX10, "wayTown", "(IIII)I"⟩
abbrev cX10_detour : ByteArray := prog_1_method_21_code
def yX10_detour : MethodName := ⟨RX10, "detour", "(II)I"⟩
abbrev cX10_heaviest : ByteArray := prog_1_method_22_code
def yX10_heaviest : MethodName := ⟨RX10, "heaviest", "(II)I"⟩
abbrev cX10_addBidder : ByteArray := prog_1_method_23_code
def yX10_addBidder : MethodName := ⟨RX10, "addBidder", "(IIIII)I"⟩
abbrev cX10_addLine : ByteArray := prog_1_method_24_code
def yX10_addLine : MethodName := ⟨RX10, "addLine", "(III)I"⟩
abbrev cX10_clearLines : ByteArray := prog_1_method_25_code
def yX10_clearLines : MethodName := ⟨RX10, "clearLines", "()I"⟩
abbrev cX10_line : ByteArray := prog_1_method_26_code
def yX10_line : MethodName := ⟨RX10, "line", "(II)I"⟩
abbrev cX10_bidder : ByteArray := prog_1_method_27_code
def yX10_bidder : MethodName := ⟨RX10, "bidder", "(II)I"⟩
abbrev cX10_award : ByteArray := prog_1_method_28_code
def yX10_award : MethodName := ⟨RX10, "award", "()I"⟩
abbrev cX10_ratingBehind : ByteArray := prog_1_method_29_code
def yX10_ratingBehind : MethodName := ⟨RX10, "ratingBehind", "(I)I"⟩
abbrev cX10_repair : ByteArray := prog_1_method_30_code
def yX10_repair : MethodName := ⟨RX10, "repair", "()I"⟩
abbrev cX10_undo : ByteArray := prog_1_method_31_code
def yX10_undo : MethodName := ⟨RX10, "undo", "()I"⟩
abbrev cX10_lay : ByteArray := prog_1_method_35_code
def yX10_lay : MethodName := ⟨RX10, "lay", "()I"⟩
abbrev cX10_digest : ByteArray := prog_1_method_36_code
def yX10_digest : MethodName := ⟨RX10, "digest", "()J"⟩
abbrev cX10_withBridge : ByteArray := prog_1_method_37_code
def yX10_withBridge : MethodName := ⟨RX10, "withBridge", "(JI)J"⟩
abbrev cX10_within : ByteArray := prog_1_method_38_code
def yX10_within : MethodName := ⟨RX10, "within", "(III)Z"⟩
abbrev cX10_isPrice : ByteArray := prog_1_method_39_code
def yX10_isPrice : MethodName := ⟨RX10, "isPrice", "(I)Z"⟩
def RX11 : String := "BridgeRoundsModel"
def TX11 : u_T := fun k => match k with
  | _ => ("", "", "", false)
def tyX11 : Nat → FieldType := fun k => match k with
  | _ => .int
abbrev wsX110 : List Cond := u_ws RX11 TX11 0
theorem nmX11 : ∀ a, a < 0 → ∀ b, b < 0 → a ≠ b → (TX11 a).2.1 ≠ (TX11 b).2.1 := by decide +kernel
theorem tyX11_ok : ∀ k, k < 0 → parseFieldDescriptor (TX11 k).2.2.1 = some (tyX11 k) := by decide +kernel
def RL : String := "BridgeRoundsLaw"
abbrev cL_cell : ByteArray := method_2_code
def yL_cell : MethodName := ⟨RL, "cell", "([II)I"⟩
abbrev cL_low : ByteArray := method_3_code
def yL_low : MethodName := ⟨RL, "low", "(II)I"⟩
abbrev cL_areBridgesSound : ByteArray := method_4_code
def yL_areBridgesSound : MethodName := ⟨RL, "areBridgesSound", "(LBridgeRounds;)Z"⟩
abbrev cL_canUse : ByteArray := method_5_code
def yL_canUse : MethodName := ⟨RL, "canUse", "(LBridgeRounds;II)Z"⟩
abbrev cL_areWaysSound : ByteArray := method_6_code
def yL_areWaysSound : MethodName := ⟨RL, "areWaysSound", "(LBridgeRounds;II)Z"⟩
abbrev cL_isAwardSound : ByteArray := method_7_code
def yL_isAwardSound : MethodName := ⟨RL, "isAwardSound", "(LBridgeRounds;)Z"⟩
abbrev cL_isRoundSound : ByteArray := method_8_code
def yL_isRoundSound : MethodName := ⟨RL, "isRoundSound", "(LBridgeRounds;II)Z"⟩
abbrev cL_changes : ByteArray := method_9_code
def yL_changes : MethodName := ⟨RL, "changes", "(LBridgeRounds;I)I"⟩
abbrev cL_law : ByteArray := code
def yL_law : MethodName := ⟨RL, "law", "([I)Z"⟩
abbrev vwCl : List vw_C := [(RX0, TX0, 3), (RX1, TX1, 11), (RX2, TX2, 2), (RX3, TX3, 2), (RX4, TX4, 7), (RX5, TX5, 11), (RX6, TX6, 6), (RX7, TX7, 7), (RX8, TX8, 2), (RX9, TX9, 3), (RX10, TX10, 8)]
theorem inX0 : ∀ w ∈ u_ws RX0 TX0 3, w ∈ lw_tbl := by decide +kernel
theorem inX1 : ∀ w ∈ u_ws RX1 TX1 11, w ∈ lw_tbl := by decide +kernel
theorem inX2 : ∀ w ∈ u_ws RX2 TX2 2, w ∈ lw_tbl := by decide +kernel
theorem inX3 : ∀ w ∈ u_ws RX3 TX3 2, w ∈ lw_tbl := by decide +kernel
theorem inX4 : ∀ w ∈ u_ws RX4 TX4 7, w ∈ lw_tbl := by decide +kernel
theorem inX5 : ∀ w ∈ u_ws RX5 TX5 11, w ∈ lw_tbl := by decide +kernel
theorem inX6 : ∀ w ∈ u_ws RX6 TX6 6, w ∈ lw_tbl := by decide +kernel
theorem inX7 : ∀ w ∈ u_ws RX7 TX7 7, w ∈ lw_tbl := by decide +kernel
theorem inX8 : ∀ w ∈ u_ws RX8 TX8 2, w ∈ lw_tbl := by decide +kernel
theorem inX9 : ∀ w ∈ u_ws RX9 TX9 3, w ∈ lw_tbl := by decide +kernel
theorem inX10 : ∀ w ∈ u_ws RX10 TX10 8, w ∈ lw_tbl := by decide +kernel
end
section
def ev_mxls : List Nat := [6, 6, 5, 3, 6, 2, 2, 3, 4, 7, 5, 3, 3, 5, 4, 2, 1, 3, 3, 4, 5, 8, 4, 6, 7, 5, 2, 3, 2, 2, 2, 8, 5, 2, 4, 5, 4, 2, 1, 2, 6, 1, 1, 2, 2, 2, 5, 2, 3, 2, 3, 3, 3, 4, 4, 3, 2, 11, 6, 6, 1, 2, 8, 7, 7, 10, 7, 7, 2, 4, 2, 5, 5, 6, 4, 2, 3, 3, 5, 2, 2, 2, 3, 4, 2, 4, 6, 5, 4, 6, 4, 2, 3, 3, 1, 2, 1, 1, 1, 1, 1, 3, 5, 8, 3, 1, 2, 13, 4, 13, 13, 17, 4, 15]
def ev_mxl (j : Nat) : Nat := ev_mxls.getD j 0
def ev_owns : List Nat := [0, 0, 0, 0, 0, 1, 1, 1, 1, 1, 1, 1, 1, 1, 1, 1, 1, 1, 2, 2, 2, 2, 2, 2, 2, 2, 3, 3, 3, 4, 4, 4, 4, 4, 5, 5, 5, 5, 5, 5, 5, 5, 5, 5, 6, 6, 6, 6, 7, 7, 7, 7, 7, 7, 7, 7, 7, 8, 8, 8, 8, 9, 9, 9, 9, 9, 9, 9, 10, 10, 10, 10, 10, 10, 10, 10, 10, 10, 10, 10, 10, 10, 10, 10, 10, 10, 10, 10, 10, 10, 10, 10, 10, 10, 10, 10, 10, 10, 10, 10, 10, 10, 10, 10, 10, 10, 11, 11, 11, 11, 11, 11, 11, 11]
def ev_yns : List MethodName := [yX0_settle, yX0_giveTo, yX0_cheapest, yX0_comesFirst, yX0_pay, yX1_place, yX1_hasBridge, yX1_hasComponent, yX1_start, yX1_fit, yX1_turnRest, yX1_renew, yX1_ratingAfter, yX1_grow, yX1_dueYear, yX1_post, yX1_postFor, yX1_copyFrom, yX2_trueRating, yX2_ratingIn, yX2_take, yX2_bear, yX2_overrated, yX2_weakOnes, yX2_yearsToLess, yX2_ratingRepaired, yX3_keep, yX3_dropOldest, yX3_restore, yX4_hasLine, yX4_hasBidder, yX4_admit, yX4_put, yX4_copyFrom, yX5_read, yX5_readRoad, yX5_keepRoad, yX5_readBridge, yX5_readSemicolon, yX5_readSign, yX5_readNumber, yX5_skipBlanks, yX5_isDigit, yX5_fail, yX6_hasTown, yX6_hasRoad, yX6_join, yX6_copyFrom, yX7_build, yX7_isDue, yX7_dueBridges, yX7_lookAt, yX7_limit, yX7_costOf, yX7_costOfAllBy, yX7_carryOutLines, yX7_copyFrom, yX8_go, yX8_nearest, yX8_stopFor, yX8_drive, yX9_reaches, yX9_measure, yX9_bringNearer, yX9_trace, yX9_ahead, yX9_heaviestLoad, yX9_bringHeavier, yX10_addTowns, yX10_addRoad, yX10_addBridge, yX10_addComponent, yX10_rest, yX10_setRating, yX10_close, yX10_count, yX10_road, yX10_bridge, yX10_component, yX10_weak, yX10_pass, yX10_inspect, yX10_round, yX10_ofRound, yX10_weakensIn, yX10_way, yX10_wayTown, yX10_detour, yX10_heaviest, yX10_addBidder, yX10_addLine, yX10_clearLines, yX10_line, yX10_bidder, yX10_award, yX10_ratingBehind, yX10_repair, yX10_undo, yX10_undo, yX10_undo, yX10_undo, yX10_lay, yX10_digest, yX10_withBridge, yX10_within, yX10_isPrice, yL_low, yL_areBridgesSound, yL_canUse, yL_areWaysSound, yL_isAwardSound, yL_isRoundSound, yL_changes, yL_law]
def ev_bcs : List ByteArray := [cX0_settle, cX0_giveTo, cX0_cheapest, cX0_comesFirst, cX0_pay, cX1_place, cX1_hasBridge, cX1_hasComponent, cX1_start, cX1_fit, cX1_turnRest, cX1_renew, cX1_ratingAfter, cX1_grow, cX1_dueYear, cX1_post, cX1_postFor, cX1_copyFrom, cX2_trueRating, cX2_ratingIn, cX2_take, cX2_bear, cX2_overrated, cX2_weakOnes, cX2_yearsToLess, cX2_ratingRepaired, cX3_keep, cX3_dropOldest, cX3_restore, cX4_hasLine, cX4_hasBidder, cX4_admit, cX4_put, cX4_copyFrom, cX5_read, cX5_readRoad, cX5_keepRoad, cX5_readBridge, cX5_readSemicolon, cX5_readSign, cX5_readNumber, cX5_skipBlanks, cX5_isDigit, cX5_fail, cX6_hasTown, cX6_hasRoad, cX6_join, cX6_copyFrom, cX7_build, cX7_isDue, cX7_dueBridges, cX7_lookAt, cX7_limit, cX7_costOf, cX7_costOfAllBy, cX7_carryOutLines, cX7_copyFrom, cX8_go, cX8_nearest, cX8_stopFor, cX8_drive, cX9_reaches, cX9_measure, cX9_bringNearer, cX9_trace, cX9_ahead, cX9_heaviestLoad, cX9_bringHeavier, cX10_addTowns, cX10_addRoad, cX10_addBridge, cX10_addComponent, cX10_rest, cX10_setRating, cX10_close, cX10_count, cX10_road, cX10_bridge, cX10_component, cX10_weak, cX10_pass, cX10_inspect, cX10_round, cX10_ofRound, cX10_weakensIn, cX10_way, cX10_wayTown, cX10_detour, cX10_heaviest, cX10_addBidder, cX10_addLine, cX10_clearLines, cX10_line, cX10_bidder, cX10_award, cX10_ratingBehind, cX10_repair, cX10_undo, cX10_undo, cX10_undo, cX10_undo, cX10_lay, cX10_digest, cX10_withBridge, cX10_within, cX10_isPrice, cL_low, cL_areBridgesSound, cL_canUse, cL_areWaysSound, cL_isAwardSound, cL_isRoundSound, cL_changes, cL_law]
def ev_rets : List (Option FieldType) := [none, (some .int), (some .int), (some .boolean), (some .int), (some .int), (some .boolean), (some .boolean), (some .int), (some .int), (some .boolean), none, (some .int), none, (some .int), (some .int), (some .int), none, (some .int), (some .int), none, (some .int), (some .int), (some .int), (some .int), (some .int), none, none, (some .boolean), (some .boolean), (some .boolean), (some .int), (some .int), none, (some .int), (some .boolean), (some .boolean), (some .boolean), (some .boolean), (some .boolean), (some .boolean), none, (some .boolean), (some .boolean), (some .boolean), (some .boolean), (some .int), none, (some .int), (some .boolean), (some .int), none, (some .int), (some .int), (some .int), none, none, none, (some .int), (some .int), (some .int), (some .boolean), none, (some .boolean), (some .int), (some .int), (some .int), (some .boolean), (some .int), (some .int), (some .int), (some .int), (some .int), (some .int), (some .int), (some .int), (some .int), (some .int), (some .int), (some .int), (some .int), (some .int), (some .int), (some .int), (some .int), (some .int), (some .int), (some .int), (some .int), (some .int), (some .int), (some .int), (some .int), (some .int), (some .int), (some .int), (some .int), (some .int), (some .int), (some .int), (some .int), (some .int), (some .long), (some .long), (some .boolean), (some .boolean), (some .int), (some .boolean), (some .boolean), (some .boolean), (some .boolean), (some .boolean), (some .int), (some .boolean)]
def ev_stas : List Bool := [false, false, true, false, false, true, false, false, false, false, false, false, false, false, false, false, true, false, false, false, false, false, false, false, false, false, false, false, false, false, false, false, false, false, false, false, false, false, false, false, false, false, true, false, false, false, false, false, false, false, false, false, false, false, false, false, false, false, true, true, true, false, false, false, false, false, false, false, false, false, false, false, false, false, false, false, false, false, false, false, false, false, false, false, false, false, false, false, false, false, false, false, false, false, false, false, false, false, false, false, false, false, false, false, true, true, true, true, true, true, true, true, true, false]
def ev_nas : List Nat := [1, 2, 3, 1, 2, 2, 1, 2, 2, 4, 3, 2, 2, 1, 1, 1, 1, 1, 2, 3, 3, 2, 1, 2, 2, 2, 1, 0, 1, 1, 1, 5, 3, 1, 1, 1, 3, 1, 0, 1, 3, 0, 1, 1, 1, 1, 3, 1, 1, 1, 0, 2, 1, 2, 1, 0, 1, 5, 2, 3, 1, 1, 4, 2, 4, 3, 3, 2, 1, 3, 1, 4, 3, 3, 2, 1, 2, 2, 3, 1, 1, 1, 2, 3, 1, 3, 4, 2, 2, 5, 3, 0, 2, 2, 0, 1, 0, 0, 0, 0, 0, 0, 0, 2, 3, 1, 2, 1, 3, 3, 1, 3, 2, 1]
def ev_frm : List Nat := [4, 3, 2, 0, 2, 0, 0, 1, 0, 1, 1, 0, 1, 2, 0, 1, 0, 1, 3, 3, 2, 1, 4, 4, 4, 3, 3, 0, 3, 0, 0, 0, 0, 1, 3, 2, 1, 1, 2, 1, 1, 0, 0, 0, 0, 0, 0, 1, 1, 1, 2, 0, 2, 1, 2, 1, 2, 4, 2, 1, 0, 0, 3, 0, 4, 3, 4, 3, 4, 4, 4, 4, 4, 4, 4, 5, 1, 4, 4, 5, 4, 4, 5, 5, 5, 4, 5, 4, 5, 4, 4, 4, 5, 5, 5, 4, 5, 4, 4, 4, 4, 4, 6, 5, 0, 1, 0, 6, 5, 6, 6, 7, 6, 8]
def ev_lom : List Nat := [93, 68, 44, 0, 44, 0, 0, 21, 0, 21, 21, 0, 21, 43, 0, 20, 0, 26, 67, 67, 43, 21, 89, 89, 90, 67, 69, 0, 69, 0, 0, 0, 0, 26, 71, 47, 21, 21, 42, 21, 22, 0, 0, 0, 0, 0, 0, 26, 23, 23, 44, 0, 41, 21, 44, 22, 48, 90, 46, 21, 0, 0, 63, 0, 92, 63, 89, 63, 90, 90, 90, 90, 90, 90, 90, 112, 21, 89, 89, 114, 90, 90, 120, 120, 116, 90, 118, 90, 115, 90, 90, 90, 118, 118, 118, 91, 118, 90, 90, 90, 90, 94, 140, 113, 0, 22, 0, 133, 111, 143, 140, 165, 142, 201]
def ev_pcl : List (List Nat) := [[0, 17, 18, 23, 41, 49, 58, 62, 111, 132, 138], [0, 5, 39, 45, 48, 89, 97, 105], [0, 5, 47, 50, 56], [0, 2, 41, 42, 43, 49], [0, 8, 44, 50, 69, 70], [0], [0, 17, 18], [0, 27, 28], [0], [0], [0, 34, 35], [0], [0], [0, 2, 12, 76, 82], [0, 17, 26, 27], [0, 13, 22], [0, 48, 50, 52, 55, 58, 61, 64, 67], [0, 145, 169], [0], [0], [0, 3, 38], [0, 12, 43, 44, 52, 82, 88, 113, 121, 127], [0, 4, 30, 36], [0, 13, 64, 75, 81], [0, 15, 51, 60, 75, 76], [0, 12, 76, 82], [0, 12], [0, 9, 34], [0, 9], [0, 17, 18], [0, 17, 18], [0], [0], [0], [0, 24, 53, 54, 61], [0, 30, 52, 78, 80, 106, 108, 134, 135], [0, 18], [0, 29, 31, 56, 65], [0, 28, 29], [0, 28, 37], [0, 15, 76, 89, 107, 142, 143, 159, 163, 164], [0, 38], [0, 16, 17], [0], [0, 17, 18], [0, 17, 18], [0], [0], [0], [0, 19, 20], [0, 4, 26, 32], [0], [0, 32, 34], [0], [0, 14, 23, 26, 52], [0, 2, 73], [0], [0, 13, 46, 77, 128], [0, 8, 55, 61], [0, 78, 80], [0], [0, 15, 16], [0, 3, 25, 38, 56, 103, 107, 108, 110, 116, 122], [0, 64, 102], [0, 10, 16, 51, 60, 65], [0, 6, 64, 75, 77, 110, 111, 131, 135, 141], [0, 3, 24, 38, 56, 83, 87, 88, 96, 102], [0, 73, 115], [0, 13, 33], [0, 28, 31, 46, 49, 67], [0, 17, 36, 54], [0, 17, 47, 50, 70], [0, 18, 41, 54, 75, 78, 101, 102], [0, 18, 31], [0, 17, 62, 63], [0, 60, 71, 82, 93, 104, 115, 123, 131, 139, 147, 155, 170], [0, 17, 48, 61, 74, 87, 100], [0, 17, 68, 81, 94, 110, 123, 136, 148, 163, 164, 165, 184, 185, 186, 198], [0, 18, 64, 78, 92, 106, 120, 146, 160], [0, 17], [0, 13, 31], [0, 17], [0, 17, 31], [0, 17, 32, 35, 90, 91], [0, 17], [0, 28, 31, 44, 81, 82], [0, 28, 31, 46, 49, 104, 105], [0, 17, 30, 124, 125], [0, 28, 31, 39, 61, 62], [0, 41, 44, 61], [0, 18, 31, 49], [0], [0, 17, 48, 61, 74, 87, 108], [0, 17, 45, 80, 93, 117, 126], [0], [0, 17], [0, 25], [0, 17], [0, 17], [0, 17], [0, 17], [0, 18, 31, 101, 107], [0, 6, 31, 33, 50, 77, 83, 85, 112, 114, 131, 158, 164, 166, 183, 211, 217], [0, 6, 36, 39, 59, 90, 96], [0, 14, 15], [0], [0], [0, 6, 56, 66, 67, 79, 89, 100, 111, 122, 134, 146, 148, 197, 198, 223, 225, 239, 246, 249, 251, 273, 274, 279, 308, 309, 314, 341, 365, 367, 369, 375, 405, 407, 446, 448, 454, 460, 484, 485], [0, 22, 26, 27], [0, 2, 41, 42, 51, 52, 55, 57, 60, 102, 123, 130, 167, 169, 175, 181, 218, 231, 233, 258, 290, 312, 313, 366, 367, 386, 391, 393, 401, 430, 432, 438, 451, 483, 485, 491], [0, 25, 34, 35, 52, 56, 57, 58, 64, 82, 145, 146, 158, 162, 163, 177, 178, 194, 219, 220, 256, 258, 276, 286, 287], [0, 44, 68, 90, 96, 124, 130, 187, 197, 209, 211, 232, 234, 237, 327, 353, 355, 361, 430, 432, 452, 453], [0, 112, 124, 157, 175, 207, 223, 226, 230, 246, 261, 262, 266, 280, 286, 344, 362, 377, 404, 405], [0, 8, 69, 71, 88, 135, 262, 264, 270, 292, 339, 346, 348, 380, 382, 459, 461, 467, 476, 506, 548, 581, 582, 597, 598, 608, 610, 616, 654, 656, 726, 728, 785, 787, 830, 863, 877, 897, 899, 905, 959, 980, 984, 990, 995, 997, 1183, 1184]]
def ev_Rs : List String := [RX0, RX1, RX2, RX3, RX4, RX5, RX6, RX7, RX8, RX9, RX10, RL]
def ev_Ts : List u_T := [TX0, TX1, TX2, TX3, TX4, TX5, TX6, TX7, TX8, TX9, TX10]
def ev_tys : List (Nat → FieldType) := [tyX0, tyX1, tyX2, tyX3, tyX4, tyX5, tyX6, tyX7, tyX8, tyX9, tyX10]
def ev_Ns : List Nat := [3, 11, 2, 2, 7, 11, 6, 7, 2, 3, 8, 0]
def ev_kds : List (List (Nat × Int)) := [[(0, 0), (1, 1), (1, 2)], [(0, 0), (1, 1), (1, 2), (1, 3), (1, 4), (1, 5), (1, 6), (1, 7), (1, 8), (1, 9), (1, 10)], [(1, 1), (1, 2)], [(0, 0), (1, 1)], [(0, 0), (0, 0), (1, 1), (1, 2), (1, 3), (1, 4), (1, 5)], [(1, 1), (0, 0), (0, 0), (0, 0), (0, 0), (0, 0), (0, 0), (1, 2), (1, 3), (1, 4), (1, 5)], [(0, 0), (0, 0), (1, 1), (1, 2), (1, 3), (1, 4)], [(1, 1), (1, 6), (1, 17), (0, 0), (0, 0), (0, 0), (0, 0)], [(0, 0), (1, 1)], [(1, 1), (1, 2), (1, 3)], [(1, -161), (1, -138), (1, 1), (1, 3), (1, 9), (1, 12), (1, 16), (1, 18)], []]
def ev_own (j : Nat) : Nat := ev_owns.getD j 0
def ev_yn (j : Nat) : MethodName := ev_yns.getD j yX0_settle
def ev_bc (j : Nat) : ByteArray := ev_bcs.getD j cX0_settle
def ev_ret (j : Nat) : Option FieldType := ev_rets.getD j none
def ev_sta (j : Nat) : Bool := ev_stas.getD j false
def ev_na (j : Nat) : Nat := ev_nas.getD j 0
def ev_pcs (j t : Nat) : Nat := (ev_pcl.getD j []).getD t 0
def ev_cn (c : Nat) : String := ev_Rs.getD c ""
def ev_ct (c : Nat) : u_T := ev_Ts.getD c TX0
def ev_cy (c : Nat) : Nat → FieldType := ev_tys.getD c tyX0
def ev_N (c : Nat) : Nat := ev_Ns.getD c 0
def ev_kd (c k : Nat) : Nat × Int := (ev_kds.getD c []).getD k (0, 0)
def ev_rm (j : Nat) : Room := if j = 113 then room_1 else { frames := ev_frm.getD j 0, cells := 0, slots := 0, locals := ev_lom.getD j 0 }
def ev_c0 (j : Nat) : Nat := if j = 113 then 182 else 0
def ev_c1 (j : Nat) : Nat := if j = 113 then 2800 else 0
def ev_cw (j : Nat) : Cond := .code (ev_yn j) (ev_bc j) (ev_mxl j) (ev_ret j)
def ev_frs : List (Nat × Nat × Nat × Nat) := [(0, 9, 0, 1), (0, 15, 0, 2), (0, 18, 7, 2), (0, 24, 4, 0), (0, 30, 0, 0), (0, 33, 4, 1), (0, 50, 4, 5), (1, 9, 1, 1), (1, 15, 1, 2), (1, 18, 1, 3), (1, 21, 1, 4), (1, 25, 1, 5), (1, 28, 1, 6), (1, 31, 1, 7), (1, 34, 1, 8), (1, 37, 1, 9), (1, 40, 1, 10), (1, 43, 1, 0), (2, 9, 2, 0), (2, 15, 2, 1), (2, 26, 1, 5), (2, 38, 1, 10), (2, 49, 1, 0), (2, 56, 1, 2), (2, 63, 7, 1), (2, 69, 7, 2), (2, 73, 4, 0), (2, 78, 4, 2), (2, 81, 4, 3), (2, 84, 4, 4), (3, 11, 3, 1), (3, 18, 3, 0), (4, 9, 4, 2), (4, 15, 4, 3), (4, 18, 4, 4), (4, 21, 4, 5), (4, 24, 4, 6), (4, 27, 4, 0), (4, 31, 4, 1), (5, 9, 5, 0), (5, 15, 5, 7), (5, 18, 5, 8), (5, 21, 5, 9), (5, 24, 5, 10), (5, 28, 5, 2), (5, 32, 5, 3), (5, 35, 5, 5), (5, 38, 5, 6), (5, 52, 7, 0), (5, 57, 6, 1), (5, 66, 6, 0), (5, 73, 5, 4), (5, 86, 5, 1), (5, 89, 7, 1), (5, 92, 1, 0), (6, 9, 6, 2), (6, 15, 6, 3), (6, 18, 6, 4), (6, 21, 6, 5), (6, 24, 6, 0), (6, 28, 6, 1), (7, 12, 7, 0), (7, 21, 7, 1), (7, 28, 7, 2), (7, 32, 7, 3), (7, 40, 6, 5), (7, 48, 1, 0), (7, 55, 1, 2), (7, 58, 1, 3), (7, 61, 7, 4), (7, 64, 7, 5), (7, 67, 1, 5), (7, 76, 4, 2), (7, 77, 4, 3), (7, 83, 4, 4), (7, 86, 4, 6), (7, 89, 1, 6), (7, 92, 4, 0), (7, 95, 4, 5), (7, 101, 1, 7), (7, 123, 7, 6), (8, 9, 8, 1), (8, 15, 8, 0), (8, 33, 9, 0), (8, 40, 7, 1), (8, 57, 1, 0), (8, 64, 1, 1), (8, 67, 7, 0), (8, 71, 6, 2), (8, 76, 6, 3), (9, 9, 9, 0), (9, 15, 9, 1), (9, 18, 9, 2), (9, 22, 7, 0), (9, 28, 6, 1), (9, 42, 6, 2), (9, 45, 6, 3), (9, 48, 6, 4), (10, 10, 10, 0), (10, 16, 10, 1), (10, 22, 10, 2), (10, 29, 10, 3), (10, 36, 10, 4), (10, 43, 10, 5), (10, 50, 10, 6), (10, 57, 10, 7), (10, 65, 7, 0), (10, 69, 6, 0), (10, 83, 6, 1), (10, 93, 6, 5), (10, 97, 7, 1), (10, 101, 1, 0), (10, 111, 1, 5), (10, 129, 1, 7), (10, 136, 1, 4), (10, 140, 7, 2), (10, 144, 4, 0), (10, 149, 4, 1), (10, 152, 7, 3), (10, 155, 7, 4), (10, 158, 7, 5), (10, 161, 7, 6), (10, 172, 6, 2), (10, 175, 6, 3), (10, 178, 6, 4), (10, 181, 1, 1), (10, 188, 1, 2), (10, 191, 1, 3), (10, 203, 1, 6), (10, 206, 1, 8), (10, 209, 1, 9), (10, 212, 2, 1), (10, 215, 1, 10), (10, 232, 8, 0), (10, 236, 8, 1), (10, 249, 9, 0), (10, 256, 9, 2), (10, 276, 4, 2), (10, 277, 4, 3), (10, 280, 4, 4), (10, 286, 0, 1), (10, 292, 4, 6), (10, 295, 4, 5), (10, 305, 0, 0), (10, 318, 3, 0), (10, 328, 5, 5), (10, 330, 5, 7), (10, 331, 5, 8), (10, 332, 5, 9), (10, 333, 5, 10)]
def ev_frp : List Nat := [399, 401, 255, 202, 397, 207, 223, 143, 146, 150, 153, 155, 159, 162, 165, 167, 169, 137, 349, 350, 156, 170, 142, 148, 253, 256, 205, 212, 216, 220, 292, 290, 210, 214, 218, 222, 226, 203, 208, 304, 312, 314, 316, 318, 306, 307, 309, 311, 246, 100, 98, 308, 305, 252, 141, 103, 107, 111, 114, 96, 99, 244, 249, 254, 258, 115, 139, 147, 151, 260, 262, 157, 211, 215, 219, 227, 160, 204, 224, 164, 265, 384, 382, 364, 250, 138, 144, 248, 105, 109, 363, 366, 367, 247, 102, 104, 108, 112, 409, 410, 411, 412, 413, 414, 415, 416, 245, 97, 101, 116, 251, 140, 158, 163, 154, 257, 206, 209, 259, 261, 263, 264, 106, 110, 113, 145, 149, 152, 161, 166, 168, 351, 171, 383, 385, 365, 368, 213, 217, 221, 400, 228, 225, 398, 291, 310, 313, 315, 317, 319]
def ev_mrs : List (Nat × Nat × Nat × Nat) := [(0, 36, 1, 0), (0, 40, 3, 0), (0, 53, 2, 1), (0, 57, 53, 2), (1, 47, 6, 0), (1, 51, 5, 1), (1, 60, 12, 0), (1, 63, 16, 1), (2, 18, 20, 0), (2, 22, 21, 0), (2, 31, 5, 3), (2, 35, 12, 2), (2, 53, 18, 0), (2, 59, 19, 0), (3, 22, 27, 0), (3, 25, 56, 2), (5, 41, 35, 0), (5, 45, 38, 0), (5, 49, 41, 0), (5, 62, 43, 0), (5, 69, 40, 0), (5, 76, 39, 0), (5, 80, 36, 0), (5, 83, 37, 0), (5, 95, 42, 1), (5, 98, 104, 3), (7, 36, 8, 2), (7, 44, 14, 2), (7, 51, 49, 0), (7, 70, 6, 2), (7, 73, 15, 2), (7, 80, 5, 3), (7, 98, 53, 0), (7, 109, 11, 2), (7, 113, 47, 2), (7, 117, 17, 2), (7, 120, 33, 2), (8, 19, 62, 2), (8, 25, 58, 1), (8, 29, 59, 1), (8, 36, 60, 1), (8, 46, 18, 2), (8, 52, 51, 2), (8, 60, 49, 2), (9, 34, 52, 2), (9, 38, 63, 0), (9, 51, 61, 0), (9, 55, 65, 0), (9, 59, 67, 0), (10, 61, 104, 1), (10, 75, 26, 2), (10, 79, 44, 2), (10, 86, 46, 2), (10, 90, 45, 2), (10, 104, 48, 2), (10, 108, 6, 2), (10, 114, 9, 2), (10, 118, 7, 2), (10, 122, 10, 2), (10, 125, 5, 3), (10, 132, 11, 2), (10, 164, 50, 2), (10, 168, 22, 2), (10, 184, 18, 2), (10, 194, 14, 2), (10, 197, 49, 2), (10, 200, 15, 2), (10, 218, 23, 2), (10, 221, 13, 2), (10, 225, 51, 2), (10, 228, 57, 2), (10, 233, 56, 2), (10, 239, 24, 2), (10, 242, 62, 2), (10, 246, 61, 2), (10, 252, 64, 2), (10, 259, 66, 2), (10, 263, 105, 1), (10, 266, 31, 2), (10, 270, 32, 2), (10, 273, 29, 2), (10, 283, 0, 2), (10, 289, 30, 2), (10, 298, 4, 2), (10, 302, 54, 2), (10, 308, 25, 2), (10, 311, 55, 2), (10, 314, 28, 2), (10, 324, 34, 2), (10, 340, 75, 0), (10, 343, 76, 0), (10, 345, 103, 0), (10, 349, 92, 0), (10, 352, 93, 0), (10, 355, 77, 0), (10, 357, 78, 0), (11, 8, 75, 0), (11, 14, 77, 0), (11, 18, 76, 0), (11, 21, 78, 0), (11, 25, 85, 0), (11, 28, 108, 1), (11, 34, 86, 0), (11, 38, 94, 0), (11, 42, 92, 0), (11, 45, 93, 0), (11, 48, 102, 0), (11, 52, 83, 0), (11, 55, 82, 0), (11, 58, 107, 1), (11, 62, 97, 0), (11, 65, 106, 1), (11, 68, 68, 0), (11, 71, 69, 0), (11, 74, 70, 0), (11, 77, 71, 0), (11, 80, 72, 0), (11, 83, 73, 0), (11, 86, 74, 0), (11, 90, 80, 0), (11, 93, 81, 0), (11, 96, 89, 0), (11, 100, 90, 0), (11, 103, 91, 0), (11, 106, 96, 0), (11, 114, 101, 0), (11, 117, 112, 1), (11, 121, 109, 1), (11, 124, 110, 1), (11, 127, 111, 1), (11, 130, 79, 0), (11, 133, 84, 0), (11, 136, 95, 0), (11, 139, 87, 0), (11, 142, 88, 0)]
def ev_mrp : List Nat := [737, 749, 741, 744, 521, 510, 621, 598, 563, 575, 567, 568, 559, 676, 445, 449, 809, 841, 813, 817, 821, 829, 833, 837, 825, 828, 494, 551, 547, 647, 648, 748, 770, 792, 453, 460, 465, 638, 653, 657, 663, 666, 667, 662, 643, 649, 885, 886, 701, 438, 441, 474, 478, 486, 490, 502, 506, 517, 522, 530, 531, 543, 555, 591, 592, 593, 594, 609, 617, 626, 634, 900, 672, 684, 685, 881, 697, 710, 713, 721, 729, 733, 758, 762, 766, 779, 787, 797, 805, 851, 852, 853, 859, 860, 857, 858, 539, 587, 583, 601, 680, 874, 877, 771, 725, 754, 845, 896, 630, 868, 793, 864, 434, 470, 482, 498, 513, 526, 535, 613, 622, 706, 717, 904, 783, 801, 901, 871, 890, 893, 605, 668, 775, 689, 693]
def ev_frw (q : Nat × Nat × Nat × Nat) : Cond := if q.1 = q.2.2.1 then .fieldLink (ev_cn q.1) q.2.1 (ev_cn q.2.2.1) (ev_ct q.2.2.1 q.2.2.2).2.1 (ev_ct q.2.2.1 q.2.2.2).2.2.1 else .fieldLinkNest (ev_cn q.1) q.2.1 (ev_cn q.2.2.1) (ev_ct q.2.2.1 q.2.2.2).2.1 (ev_ct q.2.2.1 q.2.2.2).2.2.1 "BridgeRounds"
def ev_mrw (q : Nat × Nat × Nat × Nat) : Cond := if q.2.2.2 < 2 then .methodLink (ev_cn q.1) q.2.1 (ev_yn q.2.2.1) else .methodLinkNest (ev_cn q.1) q.2.1 (ev_yn q.2.2.1) "BridgeRounds"
theorem ev_frs_p : (ev_frs.zip ev_frp).all (fun q => decide (lw_tbl[q.2]? = some (ev_frw q.1))) = true := by decide +kernel
theorem ev_mrs_p : (ev_mrs.zip ev_mrp).all (fun q => decide (lw_tbl[q.2]? = some (ev_mrw q.1))) = true := by decide +kernel
theorem ev_zip_mem {α : Type} {f : α → Cond} {l : List α} {ps : List Nat} (hl : l.length = ps.length) (h : (l.zip ps).all (fun q => decide (lw_tbl[q.2]? = some (f q.1))) = true) : ∀ q ∈ l, f q ∈ lw_tbl := by
  intro q hq
  obtain ⟨i, hi, rfl⟩ := List.getElem_of_mem hq
  have hz : (l[i], ps[i]'(by omega)) ∈ l.zip ps := by
    have : (l.zip ps)[i]'(by simp; omega) = (l[i], ps[i]'(by omega)) := by simp
    rw [← this]
    exact List.getElem_mem _
  have h1 := List.all_eq_true.mp h _ hz
  exact List.mem_of_getElem? (of_decide_eq_true h1)
theorem ev_frs_ok : ∀ q ∈ ev_frs, ev_frw q ∈ lw_tbl := ev_zip_mem (by decide +kernel) ev_frs_p
theorem ev_mrs_ok : ∀ q ∈ ev_mrs, ev_mrw q ∈ lw_tbl := ev_zip_mem (by decide +kernel) ev_mrs_p
def ev_pp : List (Nat × Nat × Nat × Nat) := [(736, 73, 735, 40), (740, 73, 739, 41), (743, 73, 742, 0), (752, 73, 751, 43), (765, 73, 764, 45), (512, 66, 511, 0), (505, 66, 504, 11), (520, 66, 519, 13), (497, 66, 496, 10), (509, 66, 508, 12), (525, 66, 524, 14), (534, 66, 533, 15), (571, 66, 570, 22), (620, 66, 619, 26), (554, 66, 553, 18), (597, 66, 596, 24), (600, 66, 599, 0), (463, 66, 462, 4), (562, 70, 561, 20), (679, 70, 678, 33), (566, 70, 565, 21), (578, 70, 577, 23), (558, 70, 557, 19), (612, 70, 611, 25), (675, 70, 674, 32), (782, 70, 781, 47), (444, 68, 443, 0), (448, 68, 447, 1), (800, 68, 799, 49), (732, 67, 731, 39), (761, 67, 760, 44), (716, 67, 715, 37), (724, 67, 723, 38), (468, 67, 467, 5), (808, 69, 807, 50), (812, 69, 811, 51), (836, 69, 835, 56), (840, 69, 839, 57), (844, 69, 843, 58), (832, 69, 831, 55), (824, 69, 823, 54), (816, 69, 815, 52), (827, 69, 826, 0), (820, 69, 819, 53), (477, 65, 476, 6), (489, 65, 488, 8), (481, 65, 480, 7), (456, 65, 455, 3), (493, 64, 492, 9), (550, 64, 549, 17), (546, 64, 545, 16), (629, 64, 628, 27), (646, 64, 645, 30), (747, 64, 746, 42), (769, 64, 768, 46), (790, 64, 789, 48), (452, 64, 451, 2), (637, 72, 636, 28), (655, 72, 654, 0), (659, 72, 658, 0), (665, 72, 664, 0), (688, 71, 687, 34), (641, 71, 640, 29), (652, 71, 651, 31), (884, 71, 883, 60), (889, 71, 888, 61), (700, 71, 699, 35), (704, 71, 703, 36), (437, 63, 435, 436), (473, 63, 471, 472), (485, 63, 483, 484), (501, 63, 499, 500), (516, 63, 514, 515), (529, 63, 527, 528), (538, 63, 536, 537), (542, 63, 540, 541), (586, 63, 584, 585), (590, 63, 588, 589), (604, 63, 602, 603), (608, 63, 606, 607), (616, 63, 614, 615), (625, 63, 623, 624), (633, 63, 631, 632), (899, 63, 897, 898), (671, 63, 669, 670), (683, 63, 681, 682), (880, 63, 878, 879), (692, 63, 690, 691), (696, 63, 694, 695), (709, 63, 707, 708), (720, 63, 718, 719), (907, 63, 905, 906), (728, 63, 726, 727), (757, 63, 755, 756), (774, 63, 772, 773), (778, 63, 776, 777), (786, 63, 784, 785), (796, 63, 794, 795), (796, 63, 794, 795), (796, 63, 794, 795), (796, 63, 794, 795), (804, 63, 802, 803), (848, 63, 846, 847), (856, 63, 855, 59), (440, 63, 439, 0), (712, 63, 711, 0), (866, 62, 865, 0), (870, 62, 869, 0), (876, 62, 875, 0), (873, 62, 872, 0), (892, 62, 891, 0), (895, 62, 894, 0), (903, 62, 902, 0)]
def ev_gw : List Cond := lw_tbl.filter goodWord
def ev_wo (j : Nat) : List Cond := ev_cw j :: ev_gw
theorem ev_gwm {w : Cond} (h : w ∈ lw_tbl) (hg : goodWord w = true) : w ∈ ev_gw := List.mem_filter.mpr ⟨h, hg⟩
theorem ev_gwt {w : Cond} (h : w ∈ ev_gw) : w ∈ lw_tbl := (List.mem_filter.mp h).1
def ev_mok (j : Nat) : Bool := match ev_pp.getD j (0, 0, 0, 0) with
  | (_, b, c, d) => decide (lw_tbl[b]? = some (.initialized (ev_yn j).cls)) && (decide ((ev_yn j).cls = ev_cn (ev_own j)) && (plainName (ev_yn j).cls && (decide ((ev_yn j).cls ≠ "java/lang/invoke/MethodHandle" ∧ (ev_yn j).cls ≠ "java/lang/invoke/VarHandle" ∧ (parseMethodDescriptor (ev_yn j).desc).map (fun d => d.parameters.length) = some (ev_na j)) && (if ev_sta j = true then decide (lw_tbl[c]? = some (.static (ev_yn j))) else decide (lw_tbl[c]? = some (.instanceMethod (ev_yn j)) ∧ lw_tbl[d]? = some (.selects (ev_yn j).cls (ev_yn j) (ev_yn j)))))))
def ev_mcw (j : Nat) : Bool := decide (lw_tbl[(ev_pp.getD j (0, 0, 0, 0)).1]? = some (ev_cw j))
theorem ev_mok_0 : ((List.range 113).drop 0 |>.take 20).all ev_mok = true := by decide +kernel
theorem ev_mok_20 : ((List.range 113).drop 20 |>.take 20).all ev_mok = true := by decide +kernel
theorem ev_mok_40 : ((List.range 113).drop 40 |>.take 20).all ev_mok = true := by decide +kernel
theorem ev_mok_60 : ((List.range 113).drop 60 |>.take 20).all ev_mok = true := by decide +kernel
theorem ev_mok_80 : ((List.range 113).drop 80 |>.take 20).all ev_mok = true := by decide +kernel
theorem ev_mok_100 : ((List.range 113).drop 100 |>.take 20).all ev_mok = true := by decide +kernel
def ev_jrs : List (Nat × Nat × Nat) := [(0, 44, 61), (1, 55, 62), (1, 67, 61), (2, 41, 62), (2, 46, 63), (4, 34, 61), (6, 31, 61), (7, 104, 63), (8, 79, 63), (8, 85, 62), (9, 63, 63)]
def ev_jrp : List Nat := [753, 572, 464, 579, 580, 469, 457, 791, 660, 661, 705]
def ev_jrw (q : Nat × Nat × Nat) : Cond := if q.2.2 = 61 then .methodLink (ev_cn q.1) q.2.1 arraycopyName else if q.2.2 = 62 then .methodLink (ev_cn q.1) q.2.1 Lib.Math.max.name else .methodLink (ev_cn q.1) q.2.1 Lib.Math.min.name
theorem ev_jrs_p : (ev_jrs.zip ev_jrp).all (fun q => decide (lw_tbl[q.2]? = some (ev_jrw q.1))) = true := by decide +kernel
theorem ev_jrs_ok : ∀ q ∈ ev_jrs, ev_jrw q ∈ ev_gw := fun q h => ev_gwm (ev_zip_mem (by decide +kernel) ev_jrs_p q h) (by unfold ev_jrw; split; rfl; split <;> rfl)
theorem ev_jw : (Cond.native arraycopyName ∈ ev_gw ∧ Cond.static arraycopyName ∈ ev_gw ∧ Cond.initialized "java/lang/System" ∈ ev_gw) ∧ (Cond.initialized "java/lang/Math" ∈ ev_gw ∧ Cond.static Lib.Math.max.name ∈ ev_gw ∧ Cond.code Lib.Math.max.name Lib.Math.max.code 2 (some .int) ∈ ev_gw ∧ Cond.static Lib.Math.min.name ∈ ev_gw ∧ Cond.code Lib.Math.min.name Lib.Math.min.code 2 (some .int) ∈ ev_gw) := by decide +kernel
def ev_cks : List (Nat × Nat × Int) := [(8, 56, 1000000), (9, 21, 1000000), (11, 7, 2147483647)]
def ev_cls2 : List (Nat × Nat × Int) := [(10, 336, 17), (10, 338, 31)]
theorem ev_cks_ok : ∀ q ∈ ev_cks, Cond.constant (ev_cn q.1) q.2.1 (Int32.ofInt q.2.2) ∈ ev_gw := by decide +kernel
theorem ev_cls2_ok : ∀ q ∈ ev_cls2, Cond.constantLong (ev_cn q.1) q.2.1 (Int64.ofInt q.2.2) ∈ ev_gw := by decide +kernel
theorem ev_g1 : ev_frs.all (fun q => decide (q.1 ≠ q.2.2.1) || goodWord (ev_frw q)) = true := by decide +kernel
theorem ev_g2 : ev_mrs.all (fun q => decide (¬ q.2.2.2 < 2) || goodWord (ev_mrw q)) = true := by decide +kernel
theorem ev_g3 : (List.range 11).all (fun c => (u_ws (ev_cn c) (ev_ct c) (ev_N c)).all goodWord) = true := by decide +kernel
end
section
/-! the code words of the methods are in the tables -/
theorem ev_mcw_0 : ((List.range 113).drop 0 |>.take 8).all ev_mcw = true := by decide +kernel
theorem ev_mcw_8 : ((List.range 113).drop 8 |>.take 8).all ev_mcw = true := by decide +kernel
theorem ev_mcw_16 : ((List.range 113).drop 16 |>.take 8).all ev_mcw = true := by decide +kernel
theorem ev_mcw_24 : ((List.range 113).drop 24 |>.take 8).all ev_mcw = true := by decide +kernel
theorem ev_mcw_32 : ((List.range 113).drop 32 |>.take 8).all ev_mcw = true := by decide +kernel
theorem ev_mcw_40 : ((List.range 113).drop 40 |>.take 8).all ev_mcw = true := by decide +kernel
theorem ev_mcw_48 : ((List.range 113).drop 48 |>.take 8).all ev_mcw = true := by decide +kernel
end
section
/-! the code words of the methods are in the tables -/
theorem ev_mcw_56 : ((List.range 113).drop 56 |>.take 8).all ev_mcw = true := by decide +kernel
theorem ev_mcw_64 : ((List.range 113).drop 64 |>.take 8).all ev_mcw = true := by decide +kernel
theorem ev_mcw_72 : ((List.range 113).drop 72 |>.take 8).all ev_mcw = true := by decide +kernel
theorem ev_mcw_80 : ((List.range 113).drop 80 |>.take 8).all ev_mcw = true := by decide +kernel
theorem ev_mcw_88 : ((List.range 113).drop 88 |>.take 8).all ev_mcw = true := by decide +kernel
theorem ev_mcw_96 : ((List.range 113).drop 96 |>.take 8).all ev_mcw = true := by decide +kernel
end
section
/-! the code words of the methods are in the tables -/
theorem ev_mcx_104 : ev_mcw 104 = true := by decide +kernel
theorem ev_mcx_105 : ev_mcw 105 = true := by decide +kernel
theorem ev_mcx_106 : ev_mcw 106 = true := by decide +kernel
theorem ev_mcx_107 : ev_mcw 107 = true := by decide +kernel
end
section
/-! the code words of the methods are in the tables -/
theorem ev_mcx_108 : ev_mcw 108 = true := by decide +kernel
theorem ev_mcx_109 : ev_mcw 109 = true := by decide +kernel
end
section
/-! the code words of the methods are in the tables -/
theorem ev_mcx_110 : ev_mcw 110 = true := by decide +kernel
theorem ev_mcx_111 : ev_mcw 111 = true := by decide +kernel
end
section
/-! the code words of the methods are in the tables -/
theorem ev_mcx_112 : ev_mcw 112 = true := by decide +kernel
end
section
/-! A PURE MACHINE: the class's and the reference's methods (all but constructors and the law) over a memory of ints by object and place. ev_b runs a method's blocks; EB is what it comes to, if it ends. -/
abbrev ev_V : Type := Int ⊕ (Int ⊕ Int64)
abbrev ev_M : Type := Int → Int → Int
abbrev ev_O : Type := Nat × Nat × Nat × Int × Int
abbrev ev_L : Type := List (Option ev_V)
abbrev ev_R : Type := Option ev_V × ev_M
def ev_wr (x : Int) : Int := (x + 2147483648) % 4294967296 - 2147483648
def ev_up (σ : ev_M) (i k v : Int) : ev_M := fun a b => if a = i ∧ b = k then v else σ a b
def ev_cp (σ : ev_M) (a i b j n : Int) : ev_M := fun x y => if x = b ∧ j ≤ y ∧ y < j + n then σ a (i + (y - j)) else σ x y
def ev_get (L : ev_L) (k : Nat) : Option ev_V := match L, k with
  | [], _ => none
  | a :: _, 0 => a
  | _ :: t, k + 1 => ev_get t k
def ev_set (L : ev_L) (k : Nat) (v : Option ev_V) : ev_L := match L, k with
  | [], _ => []
  | _ :: t, 0 => v :: t
  | a :: t, k + 1 => a :: ev_set t k v
def ev_nl (L : ev_L) (k : Nat) : Bool := match k with
  | 0 => true
  | k + 1 => match ev_get L k with
    | some (.inr (.inr _)) => false
    | _ => true
def ev_w : List ev_V → Nat
  | [] => 0
  | .inr (.inr _) :: t => 2 + ev_w t
  | .inr (.inl _) :: t => 1 + ev_w t
  | .inl _ :: t => 1 + ev_w t
def ev_and (a b : Int) : Int := (Int32.ofInt a &&& Int32.ofInt b).toInt
def ev_or (a b : Int) : Int := (Int32.ofInt a ||| Int32.ofInt b).toInt
def ev_xor (a b : Int) : Int := (Int32.ofInt a ^^^ Int32.ofInt b).toInt
def ev_shl (a b : Int) : Int := (Int32.ofInt a <<< (Int32.ofInt b &&& 31)).toInt
def ev_shr (a b : Int) : Int := (Int32.ofInt a >>> (Int32.ofInt b &&& 31)).toInt
def ev_div (a b : Int) : Int := (ev_wr a).tdiv (ev_wr b)
def ev_rem (a b : Int) : Int := (ev_wr a).tmod (ev_wr b)
def ev_c (c : Nat) (a b : Int) : Bool := match c with
  | 0 => decide (ev_wr a = ev_wr b)
  | 1 => decide (¬ ev_wr a = ev_wr b)
  | 2 => decide (ev_wr a < ev_wr b)
  | 3 => decide (¬ ev_wr a < ev_wr b)
  | 4 => decide (ev_wr b < ev_wr a)
  | _ => decide (¬ ev_wr b < ev_wr a)
def ev_sel (v : Int) : List (Int × Nat) → Nat → Nat
  | [], d => d
  | (x, t) :: r, d => if v = x then t else ev_sel v r d
/-- the last n values of a stack, the first one first -/
def ev_pop (n : Nat) (st acc : List ev_V) : Option (List ev_V × List ev_V) := match n, st with
  | 0, st => some (acc, st)
  | _ + 1, [] => none
  | n + 1, v :: st => ev_pop n st (v :: acc)

def ev_sh : List (Nat × Int) := [(7, 0), (6, 0), (12, 20), (12, 20), (12, 20), (12, 20), (1, 0), (12, 6), (12, 6), (12, 6), (13, 6), (12, 6), (12, 36), (12, 36), (12, 36), (12, 36), (12, 36), (4, 0), (12, 8), (12, 8), (12, 8), (12, 3), (12, 12), (7, 0), (6, 0), (12, 20), (12, 20), (12, 20), (12, 20), (1, 0), (12, 6), (12, 6), (12, 6), (13, 6), (12, 6), (12, 36), (12, 36), (12, 36), (12, 36), (12, 36), (4, 0), (12, 8), (12, 8), (12, 8), (12, 3), (12, 12), (7, 0), (6, 0), (12, 20), (12, 20), (12, 20), (12, 20), (1, 0), (12, 6), (12, 6), (12, 6), (13, 6), (12, 6), (12, 36), (12, 36), (12, 36), (12, 36), (12, 36), (4, 0), (12, 8), (12, 8), (12, 8), (12, 3), (12, 12), (7, 0), (6, 0), (12, 20), (12, 20), (12, 20), (12, 20), (1, 0), (12, 6), (12, 6), (12, 6), (13, 6), (12, 6), (12, 36), (12, 36), (12, 36), (12, 36), (12, 36), (4, 0), (12, 8), (12, 8), (12, 8), (12, 3), (12, 12), (7, 0), (6, 0), (12, 20), (12, 20), (12, 20), (12, 20), (1, 0), (12, 6), (12, 6), (12, 6), (13, 6), (12, 6), (12, 36), (12, 36), (12, 36), (12, 36), (12, 36), (4, 0), (12, 8), (12, 8), (12, 8), (12, 3), (12, 12), (7, 0), (6, 0), (12, 20), (12, 20), (12, 20), (12, 20), (1, 0), (12, 6), (12, 6), (12, 6), (13, 6), (12, 6), (12, 36), (12, 36), (12, 36), (12, 36), (12, 36), (4, 0), (12, 8), (12, 8), (12, 8), (12, 3), (12, 12), (7, 0), (6, 0), (12, 20), (12, 20), (12, 20), (12, 20), (1, 0), (12, 6), (12, 6), (12, 6), (13, 6), (12, 6), (12, 36), (12, 36), (12, 36), (12, 36), (12, 36), (4, 0), (12, 8), (12, 8), (12, 8), (12, 3), (12, 12), (10, 0), (3, 0), (14, 5), (5, 0), (12, 100), (12, 20), (12, 20), (12, 20), (13, 20), (2, 0), (12, 6), (12, 6), (9, 0), (12, 10), (12, 10), (12, 10), (8, 0), (12, 6), (0, 0), (12, 8), (12, 8)]
def ev_cls (i : Int) : Nat := if i < 0 then 99 else (ev_sh.getD i.toNat (99, 0)).1
def ev_len (i : Int) : Int := if i < 0 then 0 else (ev_sh.getD i.toNat (99, 0)).2
def ev_mk (lo : Int) (ts : List Nat) : List (Int × Nat) := match ts with
  | [] => []
  | t :: ts => (lo, t) :: ev_mk (lo + 1) ts
def ev_sw_0 : List (Int × Nat) × Nat := ([(0, 1), (1, 2), (2, 2), (3, 3), (4, 4), (5, 5), (6, 6), (7, 7)], 8)
def ev_sw_1 : List (Int × Nat) × Nat := ([(0, 1), (1, 2), (2, 3), (3, 4), (4, 5), (5, 6), (6, 7), (7, 8), (8, 9), (9, 10), (10, 11)], 12)
def ev_sw_2 : List (Int × Nat) × Nat := ([(0, 2), (1, 3), (2, 4), (3, 5)], 6)
def ev_sw_3 : List (Int × Nat) × Nat := ([(0, 2), (1, 3), (2, 4), (3, 5), (4, 6), (5, 7), (6, 8), (7, 11), (8, 14)], 15)
def ev_sw_4 : List (Int × Nat) × Nat := ([(0, 2), (1, 3), (2, 4), (3, 5), (4, 6), (5, 7)], 8)
def ev_sw_5 : List (Int × Nat) × Nat := ([(0, 2), (1, 3), (2, 4), (3, 5)], 6)
def ev_sw_6 : List (Int × Nat) × Nat := ([(0, 3), (5, 4), (6, 5)], 6)
def ev_sw_7 : List (Int × Nat) × Nat := ([(0, 1), (1, 2), (2, 3), (3, 4), (4, 4), (5, 5), (6, 5), (7, 8), (8, 9), (9, 12), (10, 12), (11, 13), (12, 13), (13, 14), (14, 15), (15, 15), (16, 16)], 19)
def ev_sw (k : Nat) : List (Int × Nat) × Nat := [ev_sw_0, ev_sw_1, ev_sw_2, ev_sw_3, ev_sw_4, ev_sw_5, ev_sw_6, ev_sw_7].getD k ([], 0)
/-- 0: BridgeRounds$Award.settle(LBridgeRounds$State;)V -/
def ev_m_0 : List (List ev_O) := [[(1, 1, 0, 0, 0), (28, 18, 7, 2, 17), (27, 24, 4, 0, 0), (3, 2, 0, 0, 0), (1, 0, 0, 0, 0), (0, 2, 0, 0, 0), (47, 1, 0, 7, 0), (6, 0, 0, 0, 0), (52, 2, 0, 4, 0)],
  [(6, 0, 0, (-1), 0), (53, 2, 0, 0, 0)],
  [(30, 30, 0, 0, 0), (6, 0, 0, 0, 0), (3, 3, 0, 0, 0), (53, 3, 0, 0, 0)],
  [(0, 3, 0, 0, 0), (0, 2, 0, 0, 0), (43, 4, 0, 16, 0), (1, 0, 0, 0, 0), (28, 9, 0, 1, 1), (0, 3, 0, 0, 0), (6, 0, 0, (-1), 0), (33, 0, 0, 0, 0), (23, 3, 0, 1, 0), (52, 3, 0, (-15), 0)],
  [(0, 2, 0, 0, 0), (47, 5, 0, 7, 0), (6, 0, 0, 0, 0), (52, 6, 0, 12, 0)],
  [(6, 0, 0, 1, 0), (1, 1, 0, 0, 0), (28, 18, 7, 2, 17), (27, 33, 4, 1, 0), (18, 0, 0, 0, 0), (53, 6, 0, 0, 0)],
  [(3, 3, 0, 0, 0), (6, 0, 0, 1, 0), (3, 4, 1, 0, 0), (53, 7, 0, 0, 0)],
  [(0, 4, 1, 0, 0), (0, 3, 0, 0, 0), (43, 10, 0, 73, 0), (1, 0, 0, 0, 0), (1, 1, 0, 0, 0), (0, 4, 1, 0, 0), (59, 1, 3, 36, 0), (3, 5, 1, 0, 0), (1, 0, 0, 0, 0), (27, 30, 0, 0, 0), (6, 0, 0, (-1), 0), (40, 8, 0, 29, 0), (0, 5, 1, 0, 0), (1, 0, 0, 0, 0), (27, 30, 0, 0, 0), (42, 8, 0, 20, 0), (0, 5, 1, 0, 0), (1, 0, 0, 0, 0), (27, 30, 0, 0, 0), (41, 9, 0, 32, 0), (1, 0, 0, 0, 0), (0, 2, 0, 0, 0), (59, 3, 2, 40, 0), (46, 9, 0, 24, 0), (53, 8, 0, 0, 0)],
  [(1, 0, 0, 0, 0), (0, 5, 1, 0, 0), (30, 30, 0, 0, 0), (1, 0, 0, 0, 0), (28, 15, 0, 2, 2), (6, 0, 0, 0, 0), (1, 0, 0, 0, 0), (28, 9, 0, 1, 1), (6, 0, 0, 0, 0), (6, 1, 0, 8, 0), (61, 44, 0, 0, 0), (53, 9, 0, 0, 0)],
  [(23, 4, 0, 1, 0), (52, 7, 0, (-73), 0)],
  [(58, 0, 0, 0, 0)]]
/-- 1: BridgeRounds$Award.giveTo(LBridgeRounds$State;I)I -/
def ev_m_1 : List (List ev_O) := [[(6, 0, 0, 0, 0), (3, 3, 0, 0, 0), (6, 0, 0, 0, 0), (3, 4, 1, 0, 0), (53, 1, 0, 0, 0)],
  [(0, 4, 1, 0, 0), (1, 1, 0, 0, 0), (28, 18, 7, 2, 17), (27, 33, 4, 1, 0), (43, 3, 0, 31, 0), (0, 2, 0, 0, 0), (6, 0, 0, 1, 0), (0, 4, 1, 0, 0), (18, 0, 0, 0, 0), (15, 0, 0, 0, 0), (46, 2, 0, 16, 0), (0, 3, 0, 0, 0), (1, 1, 0, 0, 0), (28, 18, 7, 2, 17), (28, 50, 4, 5, 4), (0, 4, 1, 0, 0), (32, 0, 0, 0, 0), (10, 0, 0, 0, 0), (3, 3, 0, 0, 0), (53, 2, 0, 0, 0)],
  [(23, 4, 0, 1, 0), (52, 1, 0, (-37), 0)],
  [(6, 0, 0, 0, 0), (3, 4, 1, 0, 0), (53, 4, 0, 0, 0)],
  [(0, 4, 1, 0, 0), (1, 1, 0, 0, 0), (28, 18, 7, 2, 17), (27, 24, 4, 0, 0), (43, 7, 0, 48, 0), (1, 1, 0, 0, 0), (0, 2, 0, 0, 0), (0, 4, 1, 0, 0), (60, 2, 3, 53, 0), (3, 5, 1, 0, 0), (1, 0, 0, 0, 0), (28, 15, 0, 2, 2), (0, 4, 1, 0, 0), (0, 5, 1, 0, 0), (33, 0, 0, 0, 0), (0, 3, 0, 0, 0), (0, 5, 1, 0, 0), (6, 0, 0, (-1), 0), (41, 5, 0, 7, 0), (6, 0, 0, 0, 0), (52, 6, 0, 11, 0)],
  [(1, 1, 0, 0, 0), (0, 4, 1, 0, 0), (0, 5, 1, 0, 0), (59, 53, 3, 57, 7), (53, 6, 0, 0, 0)],
  [(10, 0, 0, 0, 0), (3, 3, 0, 0, 0), (23, 4, 0, 1, 0), (52, 4, 0, (-54), 0)],
  [(0, 3, 0, 0, 0), (56, 0, 0, 0, 0)]]
/-- 2: BridgeRounds$Award.cheapest(LBridgeRounds$State;II)I -/
def ev_m_2 : List (List ev_O) := [[(6, 0, 0, (-1), 0), (3, 3, 0, 0, 0), (6, 0, 0, 0, 0), (3, 4, 1, 0, 0), (53, 1, 0, 0, 0)],
  [(0, 4, 1, 0, 0), (1, 0, 0, 0, 0), (28, 18, 7, 2, 17), (27, 33, 4, 1, 0), (43, 4, 0, 42, 0), (0, 1, 0, 0, 0), (6, 0, 0, 1, 0), (0, 4, 1, 0, 0), (18, 0, 0, 0, 0), (15, 0, 0, 0, 0), (46, 3, 0, 27, 0), (0, 3, 0, 0, 0), (6, 0, 0, (-1), 0), (40, 2, 0, 19, 0), (1, 0, 0, 0, 0), (0, 2, 0, 0, 0), (0, 4, 1, 0, 0), (59, 53, 3, 57, 7), (1, 0, 0, 0, 0), (0, 2, 0, 0, 0), (0, 3, 0, 0, 0), (59, 53, 3, 57, 7), (43, 3, 0, 6, 0), (53, 2, 0, 0, 0)],
  [(0, 4, 1, 0, 0), (3, 3, 0, 0, 0), (53, 3, 0, 0, 0)],
  [(23, 4, 0, 1, 0), (52, 1, 0, (-48), 0)],
  [(0, 3, 0, 0, 0), (56, 0, 0, 0, 0)]]
/-- 3: BridgeRounds$Award.comesFirst(I)Z -/
def ev_m_3 : List (List ev_O) := [[(6, 0, 0, 0, 0), (3, 2, 0, 0, 0), (53, 1, 0, 0, 0)],
  [(0, 2, 0, 0, 0), (0, 1, 0, 0, 0), (43, 5, 0, 45, 0), (1, 0, 0, 0, 0), (28, 15, 0, 2, 2), (0, 2, 0, 0, 0), (32, 0, 0, 0, 0), (1, 0, 0, 0, 0), (28, 9, 0, 1, 1), (0, 2, 0, 0, 0), (32, 0, 0, 0, 0), (40, 4, 0, 24, 0), (1, 0, 0, 0, 0), (28, 15, 0, 2, 2), (0, 2, 0, 0, 0), (32, 0, 0, 0, 0), (1, 0, 0, 0, 0), (28, 9, 0, 1, 1), (0, 2, 0, 0, 0), (32, 0, 0, 0, 0), (43, 2, 0, 7, 0), (6, 0, 0, 1, 0), (52, 3, 0, 4, 0)],
  [(6, 0, 0, 0, 0), (53, 3, 0, 0, 0)],
  [(56, 1, 0, 0, 0)],
  [(23, 2, 0, 1, 0), (52, 1, 0, (-44), 0)],
  [(6, 0, 0, 0, 0), (56, 1, 0, 0, 0)]]
/-- 4: BridgeRounds$Award.pay(LBridgeRounds$State;I)I -/
def ev_m_4 : List (List ev_O) := [[(6, 0, 0, 0, 0), (3, 3, 0, 0, 0), (6, 0, 0, 0, 0), (3, 4, 1, 0, 0), (6, 0, 0, 0, 0), (3, 5, 1, 0, 0), (53, 1, 0, 0, 0)],
  [(0, 5, 1, 0, 0), (1, 1, 0, 0, 0), (28, 18, 7, 2, 17), (27, 24, 4, 0, 0), (43, 3, 0, 33, 0), (1, 0, 0, 0, 0), (28, 9, 0, 1, 1), (0, 5, 1, 0, 0), (32, 0, 0, 0, 0), (0, 2, 0, 0, 0), (41, 2, 0, 16, 0), (0, 3, 0, 0, 0), (1, 1, 0, 0, 0), (0, 5, 1, 0, 0), (0, 2, 0, 0, 0), (59, 53, 3, 57, 7), (10, 0, 0, 0, 0), (3, 3, 0, 0, 0), (6, 0, 0, 1, 0), (3, 4, 1, 0, 0), (53, 2, 0, 0, 0)],
  [(23, 5, 0, 1, 0), (52, 1, 0, (-39), 0)],
  [(0, 4, 1, 0, 0), (46, 4, 0, 17, 0), (0, 3, 0, 0, 0), (1, 1, 0, 0, 0), (28, 18, 7, 2, 17), (28, 50, 4, 5, 4), (0, 2, 0, 0, 0), (32, 0, 0, 0, 0), (10, 0, 0, 0, 0), (52, 5, 0, 4, 0)],
  [(6, 0, 0, 0, 0), (53, 5, 0, 0, 0)],
  [(56, 0, 0, 0, 0)]]
/-- 5: BridgeRounds$Bridges.place(II)I -/
def ev_m_5 : List (List ev_O) := [[(0, 0, 0, 0, 0), (6, 1, 0, 6, 0), (12, 0, 0, 0, 0), (0, 1, 0, 0, 0), (10, 0, 0, 0, 0), (56, 0, 0, 0, 0)]]
/-- 6: BridgeRounds$Bridges.hasBridge(I)Z -/
def ev_m_6 : List (List ev_O) := [[(6, 0, 0, 0, 0), (0, 1, 0, 0, 0), (44, 1, 0, 15, 0), (0, 1, 0, 0, 0), (1, 0, 0, 0, 0), (27, 43, 1, 0, 0), (43, 1, 0, 7, 0), (6, 0, 0, 1, 0), (52, 2, 0, 4, 0)],
  [(6, 0, 0, 0, 0), (53, 2, 0, 0, 0)],
  [(56, 1, 0, 0, 0)]]
/-- 7: BridgeRounds$Bridges.hasComponent(II)Z -/
def ev_m_7 : List (List ev_O) := [[(1, 0, 0, 0, 0), (0, 1, 0, 0, 0), (59, 6, 2, 47, 1), (46, 1, 0, 22, 0), (6, 0, 0, 0, 0), (0, 2, 0, 0, 0), (44, 1, 0, 17, 0), (0, 2, 0, 0, 0), (1, 0, 0, 0, 0), (28, 25, 1, 5, 5), (0, 1, 0, 0, 0), (32, 0, 0, 0, 0), (43, 1, 0, 7, 0), (6, 0, 0, 1, 0), (52, 2, 0, 4, 0)],
  [(6, 0, 0, 0, 0), (53, 2, 0, 0, 0)],
  [(56, 1, 0, 0, 0)]]
/-- 8: BridgeRounds$Bridges.start(II)I -/
def ev_m_8 : List (List ev_O) := [[(1, 0, 0, 0, 0), (27, 43, 1, 0, 0), (3, 3, 0, 0, 0), (1, 0, 0, 0, 0), (28, 9, 1, 1, 1), (0, 3, 0, 0, 0), (0, 1, 0, 0, 0), (33, 0, 0, 0, 0), (1, 0, 0, 0, 0), (28, 15, 1, 2, 2), (0, 3, 0, 0, 0), (6, 0, 0, 0, 0), (33, 0, 0, 0, 0), (1, 0, 0, 0, 0), (28, 18, 1, 3, 3), (0, 3, 0, 0, 0), (0, 2, 0, 0, 0), (33, 0, 0, 0, 0), (1, 0, 0, 0, 0), (28, 21, 1, 4, 4), (0, 3, 0, 0, 0), (6, 0, 0, 0, 0), (35, 0, 0, 0, 0), (1, 0, 0, 0, 0), (28, 25, 1, 5, 5), (0, 3, 0, 0, 0), (6, 0, 0, 0, 0), (33, 0, 0, 0, 0), (1, 0, 0, 0, 0), (24, 0, 0, 0, 0), (27, 43, 1, 0, 0), (6, 0, 0, 1, 0), (10, 0, 0, 0, 0), (30, 43, 1, 0, 0), (0, 3, 0, 0, 0), (56, 0, 0, 0, 0)]]
/-- 9: BridgeRounds$Bridges.fit(IIII)I -/
def ev_m_9 : List (List ev_O) := [[(1, 0, 0, 0, 0), (28, 25, 1, 5, 5), (0, 1, 0, 0, 0), (32, 0, 0, 0, 0), (3, 5, 1, 0, 0), (0, 1, 0, 0, 0), (0, 5, 1, 0, 0), (60, 5, 2, 51, 0), (3, 6, 1, 0, 0), (1, 0, 0, 0, 0), (28, 28, 1, 6, 6), (0, 6, 1, 0, 0), (0, 2, 0, 0, 0), (33, 0, 0, 0, 0), (1, 0, 0, 0, 0), (28, 31, 1, 7, 7), (0, 6, 1, 0, 0), (0, 3, 0, 0, 0), (33, 0, 0, 0, 0), (1, 0, 0, 0, 0), (28, 34, 1, 8, 8), (0, 6, 1, 0, 0), (6, 0, 0, 0, 0), (33, 0, 0, 0, 0), (1, 0, 0, 0, 0), (28, 37, 1, 9, 9), (0, 6, 1, 0, 0), (0, 4, 1, 0, 0), (33, 0, 0, 0, 0), (1, 0, 0, 0, 0), (28, 40, 1, 10, 10), (0, 6, 1, 0, 0), (6, 0, 0, 0, 0), (33, 0, 0, 0, 0), (1, 0, 0, 0, 0), (28, 25, 1, 5, 5), (0, 1, 0, 0, 0), (25, 0, 0, 0, 0), (32, 0, 0, 0, 0), (6, 0, 0, 1, 0), (10, 0, 0, 0, 0), (33, 0, 0, 0, 0), (0, 5, 1, 0, 0), (56, 0, 0, 0, 0)]]
/-- 10: BridgeRounds$Bridges.turnRest(III)Z -/
def ev_m_10 : List (List ev_O) := [[(0, 1, 0, 0, 0), (0, 2, 0, 0, 0), (60, 5, 2, 51, 0), (3, 4, 1, 0, 0), (1, 0, 0, 0, 0), (28, 40, 1, 10, 10), (0, 4, 1, 0, 0), (25, 0, 0, 0, 0), (32, 0, 0, 0, 0), (0, 3, 0, 0, 0), (17, 0, 0, 0, 0), (33, 0, 0, 0, 0), (1, 0, 0, 0, 0), (28, 40, 1, 10, 10), (0, 4, 1, 0, 0), (32, 0, 0, 0, 0), (0, 3, 0, 0, 0), (15, 0, 0, 0, 0), (46, 1, 0, 7, 0), (6, 0, 0, 1, 0), (52, 2, 0, 4, 0)],
  [(6, 0, 0, 0, 0), (53, 2, 0, 0, 0)],
  [(56, 1, 0, 0, 0)]]
/-- 11: BridgeRounds$Bridges.renew(II)V -/
def ev_m_11 : List (List ev_O) := [[(1, 0, 0, 0, 0), (28, 31, 1, 7, 7), (0, 1, 0, 0, 0), (0, 2, 0, 0, 0), (33, 0, 0, 0, 0), (1, 0, 0, 0, 0), (28, 34, 1, 8, 8), (0, 1, 0, 0, 0), (6, 0, 0, 0, 0), (33, 0, 0, 0, 0), (58, 0, 0, 0, 0)]]
/-- 12: BridgeRounds$Bridges.ratingAfter(II)I -/
def ev_m_12 : List (List ev_O) := [[(6, 0, 0, 0, 0), (1, 0, 0, 0, 0), (28, 31, 1, 7, 7), (0, 1, 0, 0, 0), (32, 0, 0, 0, 0), (1, 0, 0, 0, 0), (28, 34, 1, 8, 8), (0, 1, 0, 0, 0), (32, 0, 0, 0, 0), (0, 2, 0, 0, 0), (1, 0, 0, 0, 0), (28, 37, 1, 9, 9), (0, 1, 0, 0, 0), (32, 0, 0, 0, 0), (12, 0, 0, 0, 0), (10, 0, 0, 0, 0), (6, 1, 0, 100, 0), (13, 0, 0, 0, 0), (11, 0, 0, 0, 0), (62, 55, 0, 0, 0), (56, 0, 0, 0, 0)]]
/-- 13: BridgeRounds$Bridges.grow(I)V -/
def ev_m_13 : List (List ev_O) := [[(6, 0, 0, 0, 0), (3, 2, 0, 0, 0), (53, 1, 0, 0, 0)],
  [(0, 2, 0, 0, 0), (1, 0, 0, 0, 0), (27, 43, 1, 0, 0), (43, 4, 0, 75, 0), (6, 0, 0, 0, 0), (3, 3, 0, 0, 0), (53, 2, 0, 0, 0)],
  [(0, 3, 0, 0, 0), (1, 0, 0, 0, 0), (28, 25, 1, 5, 5), (0, 2, 0, 0, 0), (32, 0, 0, 0, 0), (43, 3, 0, 57, 0), (0, 2, 0, 0, 0), (0, 3, 0, 0, 0), (60, 5, 2, 51, 0), (3, 4, 1, 0, 0), (1, 0, 0, 0, 0), (28, 31, 1, 7, 7), (0, 4, 1, 0, 0), (1, 0, 0, 0, 0), (0, 4, 1, 0, 0), (0, 1, 0, 0, 0), (59, 12, 3, 60, 1), (33, 0, 0, 0, 0), (1, 0, 0, 0, 0), (28, 34, 1, 8, 8), (0, 4, 1, 0, 0), (1, 0, 0, 0, 0), (28, 34, 1, 8, 8), (0, 4, 1, 0, 0), (32, 0, 0, 0, 0), (0, 1, 0, 0, 0), (1, 0, 0, 0, 0), (28, 37, 1, 9, 9), (0, 4, 1, 0, 0), (32, 0, 0, 0, 0), (12, 0, 0, 0, 0), (10, 0, 0, 0, 0), (6, 1, 0, 100, 0), (14, 0, 0, 0, 0), (33, 0, 0, 0, 0), (23, 3, 0, 1, 0), (52, 2, 0, (-61), 0)],
  [(23, 2, 0, 1, 0), (52, 1, 0, (-77), 0)],
  [(58, 0, 0, 0, 0)]]
/-- 14: BridgeRounds$Bridges.dueYear(I)I -/
def ev_m_14 : List (List ev_O) := [[(1, 0, 0, 0, 0), (28, 15, 1, 2, 2), (0, 1, 0, 0, 0), (32, 0, 0, 0, 0), (3, 2, 0, 0, 0), (0, 2, 0, 0, 0), (6, 1, 0, 7, 0), (42, 1, 0, 7, 0), (6, 0, 0, 4, 0), (52, 3, 0, 13, 0)],
  [(0, 2, 0, 0, 0), (6, 0, 0, 5, 0), (42, 2, 0, 7, 0), (6, 0, 0, 2, 0), (52, 3, 0, 4, 0)],
  [(6, 0, 0, 1, 0), (53, 3, 0, 0, 0)],
  [(3, 3, 0, 0, 0), (1, 0, 0, 0, 0), (28, 18, 1, 3, 3), (0, 1, 0, 0, 0), (32, 0, 0, 0, 0), (0, 3, 0, 0, 0), (10, 0, 0, 0, 0), (56, 0, 0, 0, 0)]]
/-- 15: BridgeRounds$Bridges.post(I)I -/
def ev_m_15 : List (List ev_O) := [[(1, 0, 0, 0, 0), (28, 21, 1, 4, 4), (0, 1, 0, 0, 0), (34, 0, 0, 0, 0), (46, 1, 0, 7, 0), (6, 0, 0, 0, 0), (52, 2, 0, 12, 0)],
  [(1, 0, 0, 0, 0), (28, 15, 1, 2, 2), (0, 1, 0, 0, 0), (32, 0, 0, 0, 0), (60, 16, 1, 63, 0), (53, 2, 0, 0, 0)],
  [(56, 0, 0, 0, 0)]]
/-- 16: BridgeRounds$Bridges.postFor(I)I -/
def ev_m_16 : List (List ev_O) := [[(0, 0, 0, 0, 0), (54, 0, 0, 0, 0)],
  [(6, 0, 0, 0, 0), (56, 0, 0, 0, 0)],
  [(6, 0, 0, 3, 0), (56, 0, 0, 0, 0)],
  [(6, 1, 0, 7, 0), (56, 0, 0, 0, 0)],
  [(6, 1, 0, 12, 0), (56, 0, 0, 0, 0)],
  [(6, 1, 0, 20, 0), (56, 0, 0, 0, 0)],
  [(6, 1, 0, 28, 0), (56, 0, 0, 0, 0)],
  [(6, 1, 0, 40, 0), (56, 0, 0, 0, 0)],
  [(6, 1, 0, 60, 0), (56, 0, 0, 0, 0)]]
/-- 17: BridgeRounds$Bridges.copyFrom(LBridgeRounds$Bridges;)V -/
def ev_m_17 : List (List ev_O) := [[(1, 0, 0, 0, 0), (1, 1, 0, 0, 0), (27, 43, 1, 0, 0), (30, 43, 1, 0, 0), (1, 1, 0, 0, 0), (28, 9, 1, 1, 1), (6, 0, 0, 0, 0), (1, 0, 0, 0, 0), (28, 9, 1, 1, 1), (6, 0, 0, 0, 0), (6, 1, 0, 6, 0), (61, 67, 0, 0, 0), (1, 1, 0, 0, 0), (28, 15, 1, 2, 2), (6, 0, 0, 0, 0), (1, 0, 0, 0, 0), (28, 15, 1, 2, 2), (6, 0, 0, 0, 0), (6, 1, 0, 6, 0), (61, 67, 0, 0, 0), (1, 1, 0, 0, 0), (28, 18, 1, 3, 3), (6, 0, 0, 0, 0), (1, 0, 0, 0, 0), (28, 18, 1, 3, 3), (6, 0, 0, 0, 0), (6, 1, 0, 6, 0), (61, 67, 0, 0, 0), (1, 1, 0, 0, 0), (28, 25, 1, 5, 5), (6, 0, 0, 0, 0), (1, 0, 0, 0, 0), (28, 25, 1, 5, 5), (6, 0, 0, 0, 0), (6, 1, 0, 6, 0), (61, 67, 0, 0, 0), (1, 1, 0, 0, 0), (28, 28, 1, 6, 6), (6, 0, 0, 0, 0), (1, 0, 0, 0, 0), (28, 28, 1, 6, 6), (6, 0, 0, 0, 0), (6, 1, 0, 36, 0), (61, 67, 0, 0, 0), (1, 1, 0, 0, 0), (28, 31, 1, 7, 7), (6, 0, 0, 0, 0), (1, 0, 0, 0, 0), (28, 31, 1, 7, 7), (6, 0, 0, 0, 0), (6, 1, 0, 36, 0), (61, 67, 0, 0, 0), (1, 1, 0, 0, 0), (28, 34, 1, 8, 8), (6, 0, 0, 0, 0), (1, 0, 0, 0, 0), (28, 34, 1, 8, 8), (6, 0, 0, 0, 0), (6, 1, 0, 36, 0), (61, 67, 0, 0, 0), (1, 1, 0, 0, 0), (28, 37, 1, 9, 9), (6, 0, 0, 0, 0), (1, 0, 0, 0, 0), (28, 37, 1, 9, 9), (6, 0, 0, 0, 0), (6, 1, 0, 36, 0), (61, 67, 0, 0, 0), (1, 1, 0, 0, 0), (28, 40, 1, 10, 10), (6, 0, 0, 0, 0), (1, 0, 0, 0, 0), (28, 40, 1, 10, 10), (6, 0, 0, 0, 0), (6, 1, 0, 36, 0), (61, 67, 0, 0, 0), (6, 0, 0, 0, 0), (3, 2, 0, 0, 0), (53, 1, 0, 0, 0)],
  [(0, 2, 0, 0, 0), (6, 1, 0, 6, 0), (43, 2, 0, 21, 0), (1, 0, 0, 0, 0), (28, 21, 1, 4, 4), (0, 2, 0, 0, 0), (1, 1, 0, 0, 0), (28, 21, 1, 4, 4), (0, 2, 0, 0, 0), (34, 0, 0, 0, 0), (35, 0, 0, 0, 0), (23, 2, 0, 1, 0), (52, 1, 0, (-21), 0)],
  [(58, 0, 0, 0, 0)]]
/-- 18: BridgeRounds$Frame.trueRating(LBridgeRounds$Bridges;I)I -/
def ev_m_18 : List (List ev_O) := [[(1, 0, 0, 0, 0), (1, 1, 0, 0, 0), (0, 2, 0, 0, 0), (6, 0, 0, 0, 0), (59, 20, 4, 18, 2), (1, 0, 0, 0, 0), (1, 1, 0, 0, 0), (0, 2, 0, 0, 0), (59, 21, 3, 22, 2), (56, 0, 0, 0, 0)]]
/-- 19: BridgeRounds$Frame.ratingIn(LBridgeRounds$Bridges;II)I -/
def ev_m_19 : List (List ev_O) := [[(1, 0, 0, 0, 0), (1, 1, 0, 0, 0), (0, 2, 0, 0, 0), (0, 3, 0, 0, 0), (59, 20, 4, 18, 2), (1, 0, 0, 0, 0), (1, 1, 0, 0, 0), (0, 2, 0, 0, 0), (59, 21, 3, 22, 2), (56, 0, 0, 0, 0)]]
/-- 20: BridgeRounds$Frame.take(LBridgeRounds$Bridges;II)V -/
def ev_m_20 : List (List ev_O) := [[(6, 0, 0, 0, 0), (3, 4, 1, 0, 0), (53, 1, 0, 0, 0)],
  [(0, 4, 1, 0, 0), (1, 1, 0, 0, 0), (28, 26, 1, 5, 5), (0, 2, 0, 0, 0), (32, 0, 0, 0, 0), (43, 2, 0, 27, 0), (1, 0, 0, 0, 0), (28, 9, 2, 0, 1), (0, 4, 1, 0, 0), (1, 1, 0, 0, 0), (0, 2, 0, 0, 0), (0, 4, 1, 0, 0), (60, 5, 2, 31, 0), (0, 3, 0, 0, 0), (59, 12, 3, 35, 1), (33, 0, 0, 0, 0), (23, 4, 0, 1, 0), (52, 1, 0, (-32), 0)],
  [(58, 0, 0, 0, 0)]]
/-- 21: BridgeRounds$Frame.bear(LBridgeRounds$Bridges;I)I -/
def ev_m_21 : List (List ev_O) := [[(1, 1, 0, 0, 0), (28, 26, 1, 5, 5), (0, 2, 0, 0, 0), (32, 0, 0, 0, 0), (3, 3, 0, 0, 0), (0, 3, 0, 0, 0), (6, 0, 0, 1, 0), (11, 0, 0, 0, 0), (3, 4, 1, 0, 0), (53, 1, 0, 0, 0)],
  [(0, 4, 1, 0, 0), (48, 7, 0, 99, 0), (1, 1, 0, 0, 0), (28, 38, 1, 10, 10), (0, 2, 0, 0, 0), (0, 4, 1, 0, 0), (60, 5, 2, 31, 0), (32, 0, 0, 0, 0), (3, 5, 1, 0, 0), (0, 5, 1, 0, 0), (6, 1, 0, 64, 0), (15, 0, 0, 0, 0), (46, 2, 0, 8, 0), (6, 1, 0, 9, 0), (52, 3, 0, 4, 0)],
  [(6, 0, 0, 0, 0), (53, 3, 0, 0, 0)],
  [(3, 6, 1, 0, 0), (0, 4, 1, 0, 0), (6, 0, 0, 1, 0), (10, 0, 0, 0, 0), (3, 7, 1, 0, 0), (53, 4, 0, 0, 0)],
  [(0, 7, 1, 0, 0), (0, 3, 0, 0, 0), (43, 6, 0, 33, 0), (0, 5, 1, 0, 0), (6, 0, 0, 1, 0), (0, 7, 1, 0, 0), (18, 0, 0, 0, 0), (15, 0, 0, 0, 0), (46, 5, 0, 17, 0), (0, 6, 1, 0, 0), (1, 0, 0, 0, 0), (28, 15, 2, 1, 2), (0, 7, 1, 0, 0), (32, 0, 0, 0, 0), (62, 41, 0, 0, 0), (3, 6, 1, 0, 0), (53, 5, 0, 0, 0)],
  [(23, 7, 0, 1, 0), (52, 4, 0, (-33), 0)],
  [(1, 0, 0, 0, 0), (28, 15, 2, 1, 2), (0, 4, 1, 0, 0), (1, 0, 0, 0, 0), (28, 9, 2, 0, 1), (0, 4, 1, 0, 0), (32, 0, 0, 0, 0), (0, 6, 1, 0, 0), (63, 46, 0, 0, 0), (33, 0, 0, 0, 0), (23, 4, 0, (-1), 0), (52, 1, 0, (-98), 0)],
  [(0, 3, 0, 0, 0), (47, 8, 0, 7, 0), (6, 0, 0, 0, 0), (52, 9, 0, 9, 0)],
  [(1, 0, 0, 0, 0), (28, 15, 2, 1, 2), (6, 0, 0, 0, 0), (32, 0, 0, 0, 0), (53, 9, 0, 0, 0)],
  [(56, 0, 0, 0, 0)]]
/-- 22: BridgeRounds$Frame.overrated(LBridgeRounds$Bridges;)I -/
def ev_m_22 : List (List ev_O) := [[(6, 0, 0, 0, 0), (3, 2, 0, 0, 0), (6, 0, 0, 0, 0), (3, 3, 0, 0, 0), (53, 1, 0, 0, 0)],
  [(0, 3, 0, 0, 0), (1, 1, 0, 0, 0), (27, 49, 1, 0, 0), (43, 3, 0, 27, 0), (1, 0, 0, 0, 0), (1, 1, 0, 0, 0), (0, 3, 0, 0, 0), (59, 18, 3, 53, 2), (1, 1, 0, 0, 0), (28, 56, 1, 2, 2), (0, 3, 0, 0, 0), (32, 0, 0, 0, 0), (43, 2, 0, 6, 0), (23, 2, 0, 1, 0), (53, 2, 0, 0, 0)],
  [(23, 3, 0, 1, 0), (52, 1, 0, (-29), 0)],
  [(0, 2, 0, 0, 0), (56, 0, 0, 0, 0)]]
/-- 23: BridgeRounds$Frame.weakOnes(LBridgeRounds$Bridges;I)I -/
def ev_m_23 : List (List ev_O) := [[(1, 0, 0, 0, 0), (1, 1, 0, 0, 0), (0, 2, 0, 0, 0), (59, 18, 3, 53, 2), (3, 3, 0, 0, 0), (6, 0, 0, 0, 0), (3, 4, 1, 0, 0), (6, 0, 0, 0, 0), (3, 5, 1, 0, 0), (53, 1, 0, 0, 0)],
  [(0, 5, 1, 0, 0), (1, 1, 0, 0, 0), (28, 26, 1, 5, 5), (0, 2, 0, 0, 0), (32, 0, 0, 0, 0), (43, 4, 0, 60, 0), (1, 0, 0, 0, 0), (28, 9, 2, 0, 1), (0, 5, 1, 0, 0), (32, 0, 0, 0, 0), (51, 3, 0, 44, 0), (1, 0, 0, 0, 0), (28, 9, 2, 0, 1), (0, 5, 1, 0, 0), (25, 0, 0, 0, 0), (32, 0, 0, 0, 0), (6, 0, 0, 1, 0), (11, 0, 0, 0, 0), (33, 0, 0, 0, 0), (1, 0, 0, 0, 0), (1, 1, 0, 0, 0), (0, 2, 0, 0, 0), (59, 21, 3, 22, 2), (0, 3, 0, 0, 0), (43, 2, 0, 12, 0), (0, 4, 1, 0, 0), (6, 0, 0, 1, 0), (0, 5, 1, 0, 0), (18, 0, 0, 0, 0), (16, 0, 0, 0, 0), (3, 4, 1, 0, 0), (53, 2, 0, 0, 0)],
  [(1, 0, 0, 0, 0), (28, 9, 2, 0, 1), (0, 5, 1, 0, 0), (25, 0, 0, 0, 0), (32, 0, 0, 0, 0), (6, 0, 0, 1, 0), (10, 0, 0, 0, 0), (33, 0, 0, 0, 0), (53, 3, 0, 0, 0)],
  [(23, 5, 0, 1, 0), (52, 1, 0, (-65), 0)],
  [(0, 4, 1, 0, 0), (56, 0, 0, 0, 0)]]
/-- 24: BridgeRounds$Frame.yearsToLess(LBridgeRounds$Bridges;I)I -/
def ev_m_24 : List (List ev_O) := [[(1, 0, 0, 0, 0), (1, 1, 0, 0, 0), (0, 2, 0, 0, 0), (59, 18, 3, 53, 2), (3, 3, 0, 0, 0), (6, 0, 0, 0, 0), (3, 4, 1, 0, 0), (6, 2, 0, 512, 0), (3, 5, 1, 0, 0), (53, 1, 0, 0, 0)],
  [(0, 5, 1, 0, 0), (51, 3, 0, 43, 0), (0, 4, 1, 0, 0), (0, 5, 1, 0, 0), (10, 0, 0, 0, 0), (3, 6, 1, 0, 0), (0, 6, 1, 0, 0), (6, 2, 0, 1000, 0), (44, 2, 0, 19, 0), (1, 0, 0, 0, 0), (1, 1, 0, 0, 0), (0, 2, 0, 0, 0), (0, 6, 1, 0, 0), (59, 19, 4, 59, 2), (0, 3, 0, 0, 0), (42, 2, 0, 7, 0), (0, 6, 1, 0, 0), (3, 4, 1, 0, 0), (53, 2, 0, 0, 0)],
  [(0, 5, 1, 0, 0), (6, 0, 0, 2, 0), (13, 0, 0, 0, 0), (3, 5, 1, 0, 0), (52, 1, 0, (-42), 0)],
  [(0, 4, 1, 0, 0), (6, 2, 0, 1000, 0), (43, 4, 0, 10, 0), (0, 4, 1, 0, 0), (6, 0, 0, 1, 0), (10, 0, 0, 0, 0), (52, 5, 0, 4, 0)],
  [(6, 0, 0, (-1), 0), (53, 5, 0, 0, 0)],
  [(56, 0, 0, 0, 0)]]
/-- 25: BridgeRounds$Frame.ratingRepaired(LBridgeRounds$State;I)I -/
def ev_m_25 : List (List ev_O) := [[(1, 0, 0, 0, 0), (1, 1, 0, 0, 0), (28, 63, 7, 1, 6), (0, 2, 0, 0, 0), (6, 0, 0, 0, 0), (59, 20, 4, 18, 2), (6, 0, 0, 0, 0), (3, 3, 0, 0, 0), (53, 1, 0, 0, 0)],
  [(0, 3, 0, 0, 0), (1, 1, 0, 0, 0), (28, 69, 7, 2, 17), (27, 73, 4, 0, 0), (43, 3, 0, 62, 0), (1, 1, 0, 0, 0), (28, 69, 7, 2, 17), (28, 78, 4, 2, 1), (0, 3, 0, 0, 0), (32, 0, 0, 0, 0), (0, 2, 0, 0, 0), (41, 2, 0, 43, 0), (1, 1, 0, 0, 0), (28, 69, 7, 2, 17), (28, 81, 4, 3, 2), (0, 3, 0, 0, 0), (32, 0, 0, 0, 0), (3, 4, 1, 0, 0), (1, 0, 0, 0, 0), (28, 9, 2, 0, 1), (0, 4, 1, 0, 0), (6, 1, 0, 9, 0), (1, 0, 0, 0, 0), (28, 9, 2, 0, 1), (0, 4, 1, 0, 0), (32, 0, 0, 0, 0), (1, 1, 0, 0, 0), (28, 69, 7, 2, 17), (28, 84, 4, 4, 3), (0, 3, 0, 0, 0), (32, 0, 0, 0, 0), (10, 0, 0, 0, 0), (63, 46, 0, 0, 0), (33, 0, 0, 0, 0), (53, 2, 0, 0, 0)],
  [(23, 3, 0, 1, 0), (52, 1, 0, (-67), 0)],
  [(1, 0, 0, 0, 0), (1, 1, 0, 0, 0), (28, 63, 7, 1, 6), (0, 2, 0, 0, 0), (59, 21, 3, 22, 2), (56, 0, 0, 0, 0)]]
/-- 26: BridgeRounds$History.keep(LBridgeRounds$State;)V -/
def ev_m_26 : List (List ev_O) := [[(1, 0, 0, 0, 0), (27, 18, 3, 0, 0), (6, 0, 0, 5, 0), (42, 1, 0, 7, 0), (1, 0, 0, 0, 0), (59, 27, 1, 22, 3), (53, 1, 0, 0, 0)],
  [(1, 0, 0, 0, 0), (28, 11, 3, 1, 1), (1, 0, 0, 0, 0), (27, 18, 3, 0, 0), (36, 0, 0, 0, 0), (1, 1, 0, 0, 0), (59, 56, 2, 25, 7), (1, 0, 0, 0, 0), (24, 0, 0, 0, 0), (27, 18, 3, 0, 0), (6, 0, 0, 1, 0), (10, 0, 0, 0, 0), (30, 18, 3, 0, 0), (58, 0, 0, 0, 0)]]
/-- 27: BridgeRounds$History.dropOldest()V -/
def ev_m_27 : List (List ev_O) := [[(1, 0, 0, 0, 0), (28, 11, 3, 1, 1), (6, 0, 0, 0, 0), (36, 0, 0, 0, 0), (4, 1, 0, 0, 0), (6, 0, 0, 1, 0), (3, 2, 0, 0, 0), (53, 1, 0, 0, 0)],
  [(0, 2, 0, 0, 0), (6, 0, 0, 5, 0), (43, 2, 0, 23, 0), (1, 0, 0, 0, 0), (28, 11, 3, 1, 1), (0, 2, 0, 0, 0), (6, 0, 0, 1, 0), (11, 0, 0, 0, 0), (1, 0, 0, 0, 0), (28, 11, 3, 1, 1), (0, 2, 0, 0, 0), (36, 0, 0, 0, 0), (37, 0, 0, 0, 0), (23, 2, 0, 1, 0), (52, 1, 0, (-22), 0)],
  [(1, 0, 0, 0, 0), (28, 11, 3, 1, 1), (6, 0, 0, 4, 0), (1, 1, 0, 0, 0), (37, 0, 0, 0, 0), (1, 0, 0, 0, 0), (6, 0, 0, 4, 0), (30, 18, 3, 0, 0), (58, 0, 0, 0, 0)]]
/-- 28: BridgeRounds$History.restore(LBridgeRounds$State;)Z -/
def ev_m_28 : List (List ev_O) := [[(1, 0, 0, 0, 0), (27, 18, 3, 0, 0), (50, 1, 0, 5, 0), (6, 0, 0, 0, 0), (56, 1, 0, 0, 0)],
  [(1, 0, 0, 0, 0), (24, 0, 0, 0, 0), (27, 18, 3, 0, 0), (6, 0, 0, 1, 0), (11, 0, 0, 0, 0), (30, 18, 3, 0, 0), (1, 1, 0, 0, 0), (1, 0, 0, 0, 0), (28, 11, 3, 1, 1), (1, 0, 0, 0, 0), (27, 18, 3, 0, 0), (36, 0, 0, 0, 0), (59, 56, 2, 25, 7), (6, 0, 0, 1, 0), (56, 1, 0, 0, 0)]]
/-- 29: BridgeRounds$Repairs.hasLine(I)Z -/
def ev_m_29 : List (List ev_O) := [[(6, 0, 0, 0, 0), (0, 1, 0, 0, 0), (44, 1, 0, 15, 0), (0, 1, 0, 0, 0), (1, 0, 0, 0, 0), (27, 27, 4, 0, 0), (43, 1, 0, 7, 0), (6, 0, 0, 1, 0), (52, 2, 0, 4, 0)],
  [(6, 0, 0, 0, 0), (53, 2, 0, 0, 0)],
  [(56, 1, 0, 0, 0)]]
/-- 30: BridgeRounds$Repairs.hasBidder(I)Z -/
def ev_m_30 : List (List ev_O) := [[(6, 0, 0, 0, 0), (0, 1, 0, 0, 0), (44, 1, 0, 15, 0), (0, 1, 0, 0, 0), (1, 0, 0, 0, 0), (27, 31, 4, 1, 0), (43, 1, 0, 7, 0), (6, 0, 0, 1, 0), (52, 2, 0, 4, 0)],
  [(6, 0, 0, 0, 0), (53, 2, 0, 0, 0)],
  [(56, 1, 0, 0, 0)]]
/-- 31: BridgeRounds$Repairs, the method of five ints -/
def ev_m_31 : List (List ev_O) := [[(1, 0, 0, 0, 0), (27, 31, 4, 1, 0), (3, 6, 1, 0, 0), (0, 6, 1, 0, 0), (6, 0, 0, 4, 0), (12, 0, 0, 0, 0), (3, 7, 1, 0, 0), (1, 0, 0, 0, 0), (28, 21, 4, 5, 4), (0, 6, 1, 0, 0), (0, 1, 0, 0, 0), (33, 0, 0, 0, 0), (1, 0, 0, 0, 0), (28, 24, 4, 6, 5), (0, 7, 1, 0, 0), (0, 2, 0, 0, 0), (33, 0, 0, 0, 0), (1, 0, 0, 0, 0), (28, 24, 4, 6, 5), (0, 7, 1, 0, 0), (6, 0, 0, 1, 0), (10, 0, 0, 0, 0), (0, 3, 0, 0, 0), (33, 0, 0, 0, 0), (1, 0, 0, 0, 0), (28, 24, 4, 6, 5), (0, 7, 1, 0, 0), (6, 0, 0, 2, 0), (10, 0, 0, 0, 0), (0, 4, 1, 0, 0), (33, 0, 0, 0, 0), (1, 0, 0, 0, 0), (28, 24, 4, 6, 5), (0, 7, 1, 0, 0), (6, 0, 0, 3, 0), (10, 0, 0, 0, 0), (0, 5, 1, 0, 0), (33, 0, 0, 0, 0), (1, 0, 0, 0, 0), (24, 0, 0, 0, 0), (27, 31, 4, 1, 0), (6, 0, 0, 1, 0), (10, 0, 0, 0, 0), (30, 31, 4, 1, 0), (0, 6, 1, 0, 0), (56, 0, 0, 0, 0)]]
/-- 32: BridgeRounds$Repairs.put(III)I -/
def ev_m_32 : List (List ev_O) := [[(1, 0, 0, 0, 0), (27, 27, 4, 0, 0), (3, 4, 1, 0, 0), (1, 0, 0, 0, 0), (28, 9, 4, 2, 1), (0, 4, 1, 0, 0), (0, 1, 0, 0, 0), (33, 0, 0, 0, 0), (1, 0, 0, 0, 0), (28, 15, 4, 3, 2), (0, 4, 1, 0, 0), (0, 2, 0, 0, 0), (33, 0, 0, 0, 0), (1, 0, 0, 0, 0), (28, 18, 4, 4, 3), (0, 4, 1, 0, 0), (0, 3, 0, 0, 0), (33, 0, 0, 0, 0), (1, 0, 0, 0, 0), (24, 0, 0, 0, 0), (27, 27, 4, 0, 0), (6, 0, 0, 1, 0), (10, 0, 0, 0, 0), (30, 27, 4, 0, 0), (0, 4, 1, 0, 0), (56, 0, 0, 0, 0)]]
/-- 33: BridgeRounds$Repairs.copyFrom(LBridgeRounds$Repairs;)V -/
def ev_m_33 : List (List ev_O) := [[(1, 0, 0, 0, 0), (1, 1, 0, 0, 0), (27, 27, 4, 0, 0), (30, 27, 4, 0, 0), (1, 0, 0, 0, 0), (1, 1, 0, 0, 0), (27, 31, 4, 1, 0), (30, 31, 4, 1, 0), (1, 1, 0, 0, 0), (28, 9, 4, 2, 1), (6, 0, 0, 0, 0), (1, 0, 0, 0, 0), (28, 9, 4, 2, 1), (6, 0, 0, 0, 0), (6, 1, 0, 8, 0), (61, 34, 0, 0, 0), (1, 1, 0, 0, 0), (28, 15, 4, 3, 2), (6, 0, 0, 0, 0), (1, 0, 0, 0, 0), (28, 15, 4, 3, 2), (6, 0, 0, 0, 0), (6, 1, 0, 8, 0), (61, 34, 0, 0, 0), (1, 1, 0, 0, 0), (28, 18, 4, 4, 3), (6, 0, 0, 0, 0), (1, 0, 0, 0, 0), (28, 18, 4, 4, 3), (6, 0, 0, 0, 0), (6, 1, 0, 8, 0), (61, 34, 0, 0, 0), (1, 1, 0, 0, 0), (28, 21, 4, 5, 4), (6, 0, 0, 0, 0), (1, 0, 0, 0, 0), (28, 21, 4, 5, 4), (6, 0, 0, 0, 0), (6, 0, 0, 3, 0), (61, 34, 0, 0, 0), (1, 1, 0, 0, 0), (28, 24, 4, 6, 5), (6, 0, 0, 0, 0), (1, 0, 0, 0, 0), (28, 24, 4, 6, 5), (6, 0, 0, 0, 0), (6, 1, 0, 12, 0), (61, 34, 0, 0, 0), (58, 0, 0, 0, 0)]]
/-- 34: BridgeRounds$RoadText.read(LBridgeRounds$State;)I -/
def ev_m_34 : List (List ev_O) := [[(1, 0, 0, 0, 0), (6, 0, 0, 0, 0), (30, 28, 5, 2, 0), (1, 0, 0, 0, 0), (6, 0, 0, (-1), 0), (30, 32, 5, 3, 0), (1, 0, 0, 0, 0), (6, 0, 0, 0, 0), (30, 35, 5, 5, 0), (1, 0, 0, 0, 0), (6, 0, 0, 0, 0), (30, 38, 5, 6, 0), (6, 0, 0, 1, 0), (3, 2, 0, 0, 0), (6, 0, 0, 0, 0), (3, 3, 0, 0, 0), (53, 1, 0, 0, 0)],
  [(0, 2, 0, 0, 0), (46, 4, 0, 36, 0), (0, 3, 0, 0, 0), (6, 1, 0, 100, 0), (43, 4, 0, 30, 0), (1, 0, 0, 0, 0), (1, 1, 0, 0, 0), (59, 35, 2, 41, 5), (46, 2, 0, 14, 0), (1, 0, 0, 0, 0), (59, 38, 1, 45, 5), (46, 2, 0, 7, 0), (6, 0, 0, 1, 0), (52, 3, 0, 4, 0)],
  [(6, 0, 0, 0, 0), (53, 3, 0, 0, 0)],
  [(3, 2, 0, 0, 0), (23, 3, 0, 1, 0), (52, 1, 0, (-34), 0)],
  [(1, 0, 0, 0, 0), (27, 32, 5, 3, 0), (56, 0, 0, 0, 0)]]
/-- 35: BridgeRounds$RoadText.readRoad(LBridgeRounds$State;)Z -/
def ev_m_35 : List (List ev_O) := [[(1, 0, 0, 0, 0), (59, 41, 1, 49, 5), (1, 1, 0, 0, 0), (28, 52, 7, 0, 1), (27, 57, 6, 1, 0), (1, 0, 0, 0, 0), (27, 35, 5, 5, 0), (10, 0, 0, 0, 0), (6, 1, 0, 20, 0), (42, 1, 0, 12, 0), (1, 0, 0, 0, 0), (1, 0, 0, 0, 0), (27, 28, 5, 2, 0), (59, 43, 2, 62, 5), (56, 1, 0, 0, 0)],
  [(1, 1, 0, 0, 0), (28, 52, 7, 0, 1), (27, 66, 6, 0, 0), (3, 2, 0, 0, 0), (1, 0, 0, 0, 0), (6, 0, 0, 0, 0), (0, 2, 0, 0, 0), (6, 0, 0, 1, 0), (11, 0, 0, 0, 0), (6, 0, 0, (-1), 0), (59, 40, 4, 69, 5), (47, 2, 0, 5, 0), (6, 0, 0, 0, 0), (56, 1, 0, 0, 0)],
  [(1, 0, 0, 0, 0), (27, 73, 5, 4, 0), (3, 3, 0, 0, 0), (1, 0, 0, 0, 0), (6, 1, 0, 45, 0), (59, 39, 2, 76, 5), (46, 3, 0, 15, 0), (1, 0, 0, 0, 0), (6, 0, 0, 0, 0), (0, 2, 0, 0, 0), (6, 0, 0, 1, 0), (11, 0, 0, 0, 0), (0, 3, 0, 0, 0), (59, 40, 4, 69, 5), (47, 4, 0, 5, 0), (53, 3, 0, 0, 0)],
  [(6, 0, 0, 0, 0), (56, 1, 0, 0, 0)],
  [(1, 0, 0, 0, 0), (27, 73, 5, 4, 0), (3, 4, 1, 0, 0), (1, 0, 0, 0, 0), (6, 1, 0, 58, 0), (59, 39, 2, 76, 5), (46, 5, 0, 14, 0), (1, 0, 0, 0, 0), (6, 0, 0, 1, 0), (6, 1, 0, 99, 0), (6, 0, 0, (-1), 0), (59, 40, 4, 69, 5), (47, 6, 0, 5, 0), (53, 5, 0, 0, 0)],
  [(6, 0, 0, 0, 0), (56, 1, 0, 0, 0)],
  [(1, 0, 0, 0, 0), (0, 3, 0, 0, 0), (0, 4, 1, 0, 0), (1, 0, 0, 0, 0), (27, 73, 5, 4, 0), (59, 36, 4, 80, 5), (46, 7, 0, 15, 0), (1, 0, 0, 0, 0), (1, 1, 0, 0, 0), (59, 37, 2, 83, 5), (46, 7, 0, 7, 0), (6, 0, 0, 1, 0), (52, 8, 0, 4, 0)],
  [(6, 0, 0, 0, 0), (53, 8, 0, 0, 0)],
  [(56, 1, 0, 0, 0)]]
/-- 36: BridgeRounds$RoadText.keepRoad(III)Z -/
def ev_m_36 : List (List ev_O) := [[(1, 0, 0, 0, 0), (27, 35, 5, 5, 0), (6, 1, 0, 20, 0), (42, 1, 0, 12, 0), (1, 0, 0, 0, 0), (1, 0, 0, 0, 0), (27, 28, 5, 2, 0), (59, 43, 2, 62, 5), (56, 1, 0, 0, 0)],
  [(1, 0, 0, 0, 0), (28, 15, 5, 7, 2), (1, 0, 0, 0, 0), (27, 35, 5, 5, 0), (0, 1, 0, 0, 0), (33, 0, 0, 0, 0), (1, 0, 0, 0, 0), (28, 18, 5, 8, 3), (1, 0, 0, 0, 0), (27, 35, 5, 5, 0), (0, 2, 0, 0, 0), (33, 0, 0, 0, 0), (1, 0, 0, 0, 0), (28, 21, 5, 9, 4), (1, 0, 0, 0, 0), (27, 35, 5, 5, 0), (0, 3, 0, 0, 0), (33, 0, 0, 0, 0), (1, 0, 0, 0, 0), (28, 24, 5, 10, 5), (1, 0, 0, 0, 0), (27, 35, 5, 5, 0), (6, 0, 0, 0, 0), (35, 0, 0, 0, 0), (1, 0, 0, 0, 0), (24, 0, 0, 0, 0), (27, 35, 5, 5, 0), (6, 0, 0, 1, 0), (10, 0, 0, 0, 0), (30, 35, 5, 5, 0), (6, 0, 0, 1, 0), (56, 1, 0, 0, 0)]]
/-- 37: BridgeRounds$RoadText.readBridge(LBridgeRounds$State;)Z -/
def ev_m_37 : List (List ev_O) := [[(1, 0, 0, 0, 0), (59, 41, 1, 49, 5), (1, 0, 0, 0, 0), (27, 28, 5, 2, 0), (1, 0, 0, 0, 0), (27, 86, 5, 1, 0), (43, 1, 0, 17, 0), (1, 0, 0, 0, 0), (28, 9, 5, 0, 1), (1, 0, 0, 0, 0), (27, 28, 5, 2, 0), (32, 0, 0, 0, 0), (6, 1, 0, 98, 0), (40, 2, 0, 5, 0), (53, 1, 0, 0, 0)],
  [(6, 0, 0, 1, 0), (56, 1, 0, 0, 0)],
  [(1, 1, 0, 0, 0), (28, 89, 7, 1, 6), (27, 92, 1, 0, 0), (1, 0, 0, 0, 0), (27, 38, 5, 6, 0), (10, 0, 0, 0, 0), (6, 1, 0, 6, 0), (43, 3, 0, 11, 0), (1, 0, 0, 0, 0), (27, 35, 5, 5, 0), (6, 0, 0, 1, 0), (43, 4, 0, 12, 0), (53, 3, 0, 0, 0)],
  [(1, 0, 0, 0, 0), (1, 0, 0, 0, 0), (27, 28, 5, 2, 0), (59, 43, 2, 62, 5), (56, 1, 0, 0, 0)],
  [(1, 0, 0, 0, 0), (28, 24, 5, 10, 5), (1, 0, 0, 0, 0), (27, 35, 5, 5, 0), (6, 0, 0, 1, 0), (11, 0, 0, 0, 0), (6, 0, 0, 1, 0), (35, 0, 0, 0, 0), (1, 0, 0, 0, 0), (24, 0, 0, 0, 0), (27, 38, 5, 6, 0), (6, 0, 0, 1, 0), (10, 0, 0, 0, 0), (30, 38, 5, 6, 0), (1, 0, 0, 0, 0), (24, 0, 0, 0, 0), (27, 28, 5, 2, 0), (6, 0, 0, 1, 0), (10, 0, 0, 0, 0), (30, 28, 5, 2, 0), (6, 0, 0, 1, 0), (56, 1, 0, 0, 0)]]
/-- 38: BridgeRounds$RoadText.readSemicolon()Z -/
def ev_m_38 : List (List ev_O) := [[(1, 0, 0, 0, 0), (59, 41, 1, 49, 5), (1, 0, 0, 0, 0), (27, 28, 5, 2, 0), (1, 0, 0, 0, 0), (27, 86, 5, 1, 0), (43, 1, 0, 16, 0), (1, 0, 0, 0, 0), (6, 1, 0, 59, 0), (59, 39, 2, 76, 5), (46, 1, 0, 7, 0), (6, 0, 0, 1, 0), (52, 2, 0, 4, 0)],
  [(6, 0, 0, 0, 0), (53, 2, 0, 0, 0)],
  [(56, 1, 0, 0, 0)]]
/-- 39: BridgeRounds$RoadText.readSign(C)Z -/
def ev_m_39 : List (List ev_O) := [[(1, 0, 0, 0, 0), (59, 41, 1, 49, 5), (1, 0, 0, 0, 0), (27, 28, 5, 2, 0), (1, 0, 0, 0, 0), (27, 86, 5, 1, 0), (43, 1, 0, 16, 0), (1, 0, 0, 0, 0), (28, 9, 5, 0, 1), (1, 0, 0, 0, 0), (27, 28, 5, 2, 0), (32, 0, 0, 0, 0), (0, 1, 0, 0, 0), (40, 2, 0, 12, 0), (53, 1, 0, 0, 0)],
  [(1, 0, 0, 0, 0), (1, 0, 0, 0, 0), (27, 28, 5, 2, 0), (59, 43, 2, 62, 5), (56, 1, 0, 0, 0)],
  [(1, 0, 0, 0, 0), (24, 0, 0, 0, 0), (27, 28, 5, 2, 0), (6, 0, 0, 1, 0), (10, 0, 0, 0, 0), (30, 28, 5, 2, 0), (6, 0, 0, 1, 0), (56, 1, 0, 0, 0)]]
/-- 40: BridgeRounds$RoadText.readNumber(III)Z -/
def ev_m_40 : List (List ev_O) := [[(1, 0, 0, 0, 0), (59, 41, 1, 49, 5), (1, 0, 0, 0, 0), (27, 28, 5, 2, 0), (3, 4, 1, 0, 0), (1, 0, 0, 0, 0), (6, 0, 0, 0, 0), (30, 73, 5, 4, 0), (53, 1, 0, 0, 0)],
  [(1, 0, 0, 0, 0), (27, 28, 5, 2, 0), (1, 0, 0, 0, 0), (27, 86, 5, 1, 0), (43, 3, 0, 66, 0), (1, 0, 0, 0, 0), (28, 9, 5, 0, 1), (1, 0, 0, 0, 0), (27, 28, 5, 2, 0), (32, 0, 0, 0, 0), (60, 42, 1, 95, 0), (46, 3, 0, 51, 0), (1, 0, 0, 0, 0), (27, 28, 5, 2, 0), (0, 4, 1, 0, 0), (6, 0, 0, 2, 0), (10, 0, 0, 0, 0), (43, 2, 0, 27, 0), (1, 0, 0, 0, 0), (1, 0, 0, 0, 0), (27, 73, 5, 4, 0), (6, 1, 0, 10, 0), (12, 0, 0, 0, 0), (1, 0, 0, 0, 0), (28, 9, 5, 0, 1), (1, 0, 0, 0, 0), (27, 28, 5, 2, 0), (32, 0, 0, 0, 0), (10, 0, 0, 0, 0), (6, 1, 0, 48, 0), (11, 0, 0, 0, 0), (30, 73, 5, 4, 0), (53, 2, 0, 0, 0)],
  [(1, 0, 0, 0, 0), (24, 0, 0, 0, 0), (27, 28, 5, 2, 0), (6, 0, 0, 1, 0), (10, 0, 0, 0, 0), (30, 28, 5, 2, 0), (52, 1, 0, (-71), 0)],
  [(1, 0, 0, 0, 0), (27, 28, 5, 2, 0), (0, 4, 1, 0, 0), (41, 4, 0, 12, 0), (1, 0, 0, 0, 0), (1, 0, 0, 0, 0), (27, 28, 5, 2, 0), (59, 43, 2, 62, 5), (56, 1, 0, 0, 0)],
  [(1, 0, 0, 0, 0), (27, 28, 5, 2, 0), (0, 4, 1, 0, 0), (6, 0, 0, 2, 0), (10, 0, 0, 0, 0), (44, 5, 0, 27, 0), (1, 0, 0, 0, 0), (27, 73, 5, 4, 0), (0, 1, 0, 0, 0), (0, 2, 0, 0, 0), (60, 104, 3, 98, 0), (46, 5, 0, 15, 0), (1, 0, 0, 0, 0), (27, 73, 5, 4, 0), (0, 3, 0, 0, 0), (40, 5, 0, 7, 0), (6, 0, 0, 1, 0), (52, 6, 0, 4, 0)],
  [(6, 0, 0, 0, 0), (53, 6, 0, 0, 0)],
  [(3, 5, 1, 0, 0), (0, 5, 1, 0, 0), (47, 7, 0, 12, 0), (1, 0, 0, 0, 0), (0, 4, 1, 0, 0), (59, 43, 2, 62, 5), (46, 8, 0, 7, 0), (53, 7, 0, 0, 0)],
  [(6, 0, 0, 1, 0), (52, 9, 0, 4, 0)],
  [(6, 0, 0, 0, 0), (53, 9, 0, 0, 0)],
  [(56, 1, 0, 0, 0)]]
/-- 41: BridgeRounds$RoadText.skipBlanks()V -/
def ev_m_41 : List (List ev_O) := [[(1, 0, 0, 0, 0), (27, 28, 5, 2, 0), (1, 0, 0, 0, 0), (27, 86, 5, 1, 0), (43, 1, 0, 30, 0), (1, 0, 0, 0, 0), (28, 9, 5, 0, 1), (1, 0, 0, 0, 0), (27, 28, 5, 2, 0), (32, 0, 0, 0, 0), (6, 1, 0, 32, 0), (41, 1, 0, 16, 0), (1, 0, 0, 0, 0), (24, 0, 0, 0, 0), (27, 28, 5, 2, 0), (6, 0, 0, 1, 0), (10, 0, 0, 0, 0), (30, 28, 5, 2, 0), (52, 0, 0, (-35), 0)],
  [(58, 0, 0, 0, 0)]]
/-- 42: BridgeRounds$RoadText.isDigit(I)Z -/
def ev_m_42 : List (List ev_O) := [[(6, 1, 0, 48, 0), (0, 0, 0, 0, 0), (44, 1, 0, 13, 0), (0, 0, 0, 0, 0), (6, 1, 0, 57, 0), (44, 1, 0, 7, 0), (6, 0, 0, 1, 0), (52, 2, 0, 4, 0)],
  [(6, 0, 0, 0, 0), (53, 2, 0, 0, 0)],
  [(56, 1, 0, 0, 0)]]
/-- 43: BridgeRounds$RoadText.fail(I)Z -/
def ev_m_43 : List (List ev_O) := [[(1, 0, 0, 0, 0), (0, 1, 0, 0, 0), (30, 32, 5, 3, 0), (6, 0, 0, 0, 0), (56, 1, 0, 0, 0)]]
/-- 44: BridgeRounds$Roads.hasTown(I)Z -/
def ev_m_44 : List (List ev_O) := [[(6, 0, 0, 0, 0), (0, 1, 0, 0, 0), (44, 1, 0, 15, 0), (0, 1, 0, 0, 0), (1, 0, 0, 0, 0), (27, 24, 6, 0, 0), (43, 1, 0, 7, 0), (6, 0, 0, 1, 0), (52, 2, 0, 4, 0)],
  [(6, 0, 0, 0, 0), (53, 2, 0, 0, 0)],
  [(56, 1, 0, 0, 0)]]
/-- 45: BridgeRounds$Roads.hasRoad(I)Z -/
def ev_m_45 : List (List ev_O) := [[(6, 0, 0, 0, 0), (0, 1, 0, 0, 0), (44, 1, 0, 15, 0), (0, 1, 0, 0, 0), (1, 0, 0, 0, 0), (27, 28, 6, 1, 0), (43, 1, 0, 7, 0), (6, 0, 0, 1, 0), (52, 2, 0, 4, 0)],
  [(6, 0, 0, 0, 0), (53, 2, 0, 0, 0)],
  [(56, 1, 0, 0, 0)]]
/-- 46: BridgeRounds$Roads.join(III)I -/
def ev_m_46 : List (List ev_O) := [[(1, 0, 0, 0, 0), (27, 28, 6, 1, 0), (3, 4, 1, 0, 0), (1, 0, 0, 0, 0), (28, 9, 6, 2, 1), (0, 4, 1, 0, 0), (0, 1, 0, 0, 0), (33, 0, 0, 0, 0), (1, 0, 0, 0, 0), (28, 15, 6, 3, 2), (0, 4, 1, 0, 0), (0, 2, 0, 0, 0), (33, 0, 0, 0, 0), (1, 0, 0, 0, 0), (28, 18, 6, 4, 3), (0, 4, 1, 0, 0), (0, 3, 0, 0, 0), (33, 0, 0, 0, 0), (1, 0, 0, 0, 0), (28, 21, 6, 5, 4), (0, 4, 1, 0, 0), (6, 0, 0, (-1), 0), (33, 0, 0, 0, 0), (1, 0, 0, 0, 0), (24, 0, 0, 0, 0), (27, 28, 6, 1, 0), (6, 0, 0, 1, 0), (10, 0, 0, 0, 0), (30, 28, 6, 1, 0), (0, 4, 1, 0, 0), (56, 0, 0, 0, 0)]]
/-- 47: BridgeRounds$Roads.copyFrom(LBridgeRounds$Roads;)V -/
def ev_m_47 : List (List ev_O) := [[(1, 0, 0, 0, 0), (1, 1, 0, 0, 0), (27, 24, 6, 0, 0), (30, 24, 6, 0, 0), (1, 0, 0, 0, 0), (1, 1, 0, 0, 0), (27, 28, 6, 1, 0), (30, 28, 6, 1, 0), (1, 1, 0, 0, 0), (28, 9, 6, 2, 1), (6, 0, 0, 0, 0), (1, 0, 0, 0, 0), (28, 9, 6, 2, 1), (6, 0, 0, 0, 0), (6, 1, 0, 20, 0), (61, 31, 0, 0, 0), (1, 1, 0, 0, 0), (28, 15, 6, 3, 2), (6, 0, 0, 0, 0), (1, 0, 0, 0, 0), (28, 15, 6, 3, 2), (6, 0, 0, 0, 0), (6, 1, 0, 20, 0), (61, 31, 0, 0, 0), (1, 1, 0, 0, 0), (28, 18, 6, 4, 3), (6, 0, 0, 0, 0), (1, 0, 0, 0, 0), (28, 18, 6, 4, 3), (6, 0, 0, 0, 0), (6, 1, 0, 20, 0), (61, 31, 0, 0, 0), (1, 1, 0, 0, 0), (28, 21, 6, 5, 4), (6, 0, 0, 0, 0), (1, 0, 0, 0, 0), (28, 21, 6, 5, 4), (6, 0, 0, 0, 0), (6, 1, 0, 20, 0), (61, 31, 0, 0, 0), (58, 0, 0, 0, 0)]]
/-- 48: BridgeRounds$State.build(I)I -/
def ev_m_48 : List (List ev_O) := [[(1, 0, 0, 0, 0), (28, 21, 7, 1, 6), (0, 1, 0, 0, 0), (1, 0, 0, 0, 0), (27, 32, 7, 3, 0), (59, 8, 3, 36, 1), (3, 2, 0, 0, 0), (1, 0, 0, 0, 0), (28, 12, 7, 0, 1), (28, 40, 6, 5, 4), (0, 1, 0, 0, 0), (0, 2, 0, 0, 0), (33, 0, 0, 0, 0), (0, 2, 0, 0, 0), (56, 0, 0, 0, 0)]]
/-- 49: BridgeRounds$State.isDue(I)Z -/
def ev_m_49 : List (List ev_O) := [[(1, 0, 0, 0, 0), (27, 32, 7, 3, 0), (1, 0, 0, 0, 0), (28, 21, 7, 1, 6), (0, 1, 0, 0, 0), (59, 14, 2, 44, 1), (42, 1, 0, 7, 0), (6, 0, 0, 1, 0), (52, 2, 0, 4, 0)],
  [(6, 0, 0, 0, 0), (53, 2, 0, 0, 0)],
  [(56, 1, 0, 0, 0)]]
/-- 50: BridgeRounds$State.dueBridges()I -/
def ev_m_50 : List (List ev_O) := [[(6, 0, 0, 0, 0), (3, 1, 0, 0, 0), (6, 0, 0, 0, 0), (3, 2, 0, 0, 0), (53, 1, 0, 0, 0)],
  [(0, 2, 0, 0, 0), (1, 0, 0, 0, 0), (28, 21, 7, 1, 6), (27, 48, 1, 0, 0), (43, 3, 0, 20, 0), (1, 0, 0, 0, 0), (0, 2, 0, 0, 0), (59, 49, 2, 51, 7), (46, 2, 0, 6, 0), (23, 1, 0, 1, 0), (53, 2, 0, 0, 0)],
  [(23, 2, 0, 1, 0), (52, 1, 0, (-25), 0)],
  [(0, 1, 0, 0, 0), (56, 0, 0, 0, 0)]]
/-- 51: BridgeRounds$State.lookAt(II)V -/
def ev_m_51 : List (List ev_O) := [[(1, 0, 0, 0, 0), (28, 21, 7, 1, 6), (28, 55, 1, 2, 2), (0, 1, 0, 0, 0), (0, 2, 0, 0, 0), (33, 0, 0, 0, 0), (1, 0, 0, 0, 0), (28, 21, 7, 1, 6), (28, 58, 1, 3, 3), (0, 1, 0, 0, 0), (1, 0, 0, 0, 0), (27, 32, 7, 3, 0), (33, 0, 0, 0, 0), (1, 0, 0, 0, 0), (24, 0, 0, 0, 0), (27, 61, 7, 4, 0), (6, 0, 0, 1, 0), (10, 0, 0, 0, 0), (30, 61, 7, 4, 0), (1, 0, 0, 0, 0), (24, 0, 0, 0, 0), (27, 64, 7, 5, 0), (6, 0, 0, 5, 0), (1, 0, 0, 0, 0), (28, 21, 7, 1, 6), (28, 67, 1, 5, 5), (0, 1, 0, 0, 0), (32, 0, 0, 0, 0), (10, 0, 0, 0, 0), (10, 0, 0, 0, 0), (30, 64, 7, 5, 0), (58, 0, 0, 0, 0)]]
/-- 52: BridgeRounds$State.limit(I)I -/
def ev_m_52 : List (List ev_O) := [[(1, 0, 0, 0, 0), (28, 12, 7, 0, 1), (28, 40, 6, 5, 4), (0, 1, 0, 0, 0), (32, 0, 0, 0, 0), (3, 2, 0, 0, 0), (1, 0, 0, 0, 0), (28, 21, 7, 1, 6), (0, 2, 0, 0, 0), (59, 6, 2, 70, 1), (46, 1, 0, 14, 0), (1, 0, 0, 0, 0), (28, 21, 7, 1, 6), (0, 2, 0, 0, 0), (59, 15, 2, 73, 1), (52, 2, 0, 5, 0)],
  [(6, 1, 0, 60, 0), (53, 2, 0, 0, 0)],
  [(56, 0, 0, 0, 0)]]
/-- 53: BridgeRounds$State.costOf(II)I -/
def ev_m_53 : List (List ev_O) := [[(1, 0, 0, 0, 0), (28, 28, 7, 2, 17), (28, 76, 4, 2, 1), (0, 1, 0, 0, 0), (32, 0, 0, 0, 0), (1, 0, 0, 0, 0), (28, 28, 7, 2, 17), (28, 77, 4, 3, 2), (0, 1, 0, 0, 0), (32, 0, 0, 0, 0), (60, 5, 2, 80, 0), (3, 3, 0, 0, 0), (1, 0, 0, 0, 0), (28, 28, 7, 2, 17), (28, 83, 4, 4, 3), (0, 1, 0, 0, 0), (32, 0, 0, 0, 0), (1, 0, 0, 0, 0), (28, 28, 7, 2, 17), (28, 86, 4, 6, 5), (0, 2, 0, 0, 0), (6, 0, 0, 4, 0), (12, 0, 0, 0, 0), (1, 0, 0, 0, 0), (28, 21, 7, 1, 6), (28, 89, 1, 6, 6), (0, 3, 0, 0, 0), (32, 0, 0, 0, 0), (10, 0, 0, 0, 0), (32, 0, 0, 0, 0), (12, 0, 0, 0, 0), (56, 0, 0, 0, 0)]]
/-- 54: BridgeRounds$State.costOfAllBy(I)I -/
def ev_m_54 : List (List ev_O) := [[(1, 0, 0, 0, 0), (28, 28, 7, 2, 17), (27, 92, 4, 0, 0), (47, 1, 0, 7, 0), (6, 0, 0, 0, 0), (52, 2, 0, 12, 0)],
  [(1, 0, 0, 0, 0), (28, 28, 7, 2, 17), (28, 95, 4, 5, 4), (0, 1, 0, 0, 0), (32, 0, 0, 0, 0), (53, 2, 0, 0, 0)],
  [(3, 2, 0, 0, 0), (6, 0, 0, 0, 0), (3, 3, 0, 0, 0), (53, 3, 0, 0, 0)],
  [(0, 3, 0, 0, 0), (1, 0, 0, 0, 0), (28, 28, 7, 2, 17), (27, 92, 4, 0, 0), (43, 4, 0, 18, 0), (0, 2, 0, 0, 0), (1, 0, 0, 0, 0), (0, 3, 0, 0, 0), (0, 1, 0, 0, 0), (59, 53, 3, 98, 7), (10, 0, 0, 0, 0), (3, 2, 0, 0, 0), (23, 3, 0, 1, 0), (52, 3, 0, (-23), 0)],
  [(0, 2, 0, 0, 0), (56, 0, 0, 0, 0)]]
/-- 55: BridgeRounds$State.carryOutLines()V -/
def ev_m_55 : List (List ev_O) := [[(6, 0, 0, 0, 0), (3, 1, 0, 0, 0), (53, 1, 0, 0, 0)],
  [(0, 1, 0, 0, 0), (1, 0, 0, 0, 0), (28, 28, 7, 2, 17), (27, 92, 4, 0, 0), (43, 2, 0, 63, 0), (1, 0, 0, 0, 0), (28, 28, 7, 2, 17), (28, 76, 4, 2, 1), (0, 1, 0, 0, 0), (32, 0, 0, 0, 0), (1, 0, 0, 0, 0), (28, 28, 7, 2, 17), (28, 77, 4, 3, 2), (0, 1, 0, 0, 0), (32, 0, 0, 0, 0), (60, 5, 2, 80, 0), (3, 2, 0, 0, 0), (1, 0, 0, 0, 0), (28, 21, 7, 1, 6), (0, 2, 0, 0, 0), (6, 1, 0, 9, 0), (1, 0, 0, 0, 0), (28, 21, 7, 1, 6), (28, 101, 1, 7, 7), (0, 2, 0, 0, 0), (32, 0, 0, 0, 0), (1, 0, 0, 0, 0), (28, 28, 7, 2, 17), (28, 83, 4, 4, 3), (0, 1, 0, 0, 0), (32, 0, 0, 0, 0), (10, 0, 0, 0, 0), (63, 104, 0, 0, 0), (59, 11, 3, 109, 1), (23, 1, 0, 1, 0), (52, 1, 0, (-68), 0)],
  [(1, 0, 0, 0, 0), (28, 28, 7, 2, 17), (6, 0, 0, 0, 0), (30, 92, 4, 0, 0), (58, 0, 0, 0, 0)]]
/-- 56: BridgeRounds$State.copyFrom(LBridgeRounds$State;)V -/
def ev_m_56 : List (List ev_O) := [[(1, 0, 0, 0, 0), (28, 12, 7, 0, 1), (1, 1, 0, 0, 0), (28, 12, 7, 0, 1), (59, 47, 2, 113, 6), (1, 0, 0, 0, 0), (28, 21, 7, 1, 6), (1, 1, 0, 0, 0), (28, 21, 7, 1, 6), (59, 17, 2, 117, 1), (1, 0, 0, 0, 0), (28, 28, 7, 2, 17), (1, 1, 0, 0, 0), (28, 28, 7, 2, 17), (59, 33, 2, 120, 4), (1, 0, 0, 0, 0), (1, 1, 0, 0, 0), (27, 32, 7, 3, 0), (30, 32, 7, 3, 0), (1, 0, 0, 0, 0), (1, 1, 0, 0, 0), (27, 61, 7, 4, 0), (30, 61, 7, 4, 0), (1, 0, 0, 0, 0), (1, 1, 0, 0, 0), (27, 64, 7, 5, 0), (30, 64, 7, 5, 0), (1, 0, 0, 0, 0), (1, 1, 0, 0, 0), (27, 123, 7, 6, 0), (30, 123, 7, 6, 0), (58, 0, 0, 0, 0)]]
/-- 57: BridgeRounds$Tour.go(LBridgeRounds$State;LBridgeRounds$Ways;LBridgeRounds$Frame;II)V -/
def ev_m_57 : List (List ev_O) := [[(0, 4, 1, 0, 0), (3, 6, 1, 0, 0), (0, 5, 1, 0, 0), (3, 7, 1, 0, 0), (1, 0, 0, 0, 0), (6, 0, 0, 0, 0), (30, 15, 8, 0, 0), (53, 1, 0, 0, 0)],
  [(1, 0, 0, 0, 0), (27, 15, 8, 0, 0), (6, 1, 0, 6, 0), (43, 4, 0, 109, 0), (1, 2, 0, 0, 0), (1, 1, 0, 0, 0), (0, 6, 1, 0, 0), (6, 1, 0, 12, 0), (6, 0, 0, (-1), 0), (59, 62, 5, 19, 9), (1, 1, 0, 0, 0), (1, 2, 0, 0, 0), (60, 58, 2, 25, 0), (3, 8, 1, 0, 0), (0, 8, 1, 0, 0), (6, 0, 0, (-1), 0), (41, 2, 0, 4, 0), (58, 0, 0, 0, 0)],
  [(1, 1, 0, 0, 0), (1, 2, 0, 0, 0), (0, 8, 1, 0, 0), (60, 59, 3, 29, 0), (3, 9, 1, 0, 0), (1, 2, 0, 0, 0), (28, 33, 9, 0, 1), (0, 9, 1, 0, 0), (32, 0, 0, 0, 0), (60, 60, 1, 36, 0), (6, 0, 0, 4, 0), (10, 0, 0, 0, 0), (3, 10, 1, 0, 0), (0, 10, 1, 0, 0), (0, 7, 1, 0, 0), (45, 3, 0, 4, 0), (58, 0, 0, 0, 0)],
  [(0, 7, 1, 0, 0), (0, 10, 1, 0, 0), (11, 0, 0, 0, 0), (3, 7, 1, 0, 0), (0, 9, 1, 0, 0), (3, 6, 1, 0, 0), (1, 1, 0, 0, 0), (0, 8, 1, 0, 0), (1, 3, 0, 0, 0), (1, 1, 0, 0, 0), (28, 40, 7, 1, 6), (0, 8, 1, 0, 0), (59, 18, 3, 46, 2), (59, 51, 3, 52, 7), (1, 0, 0, 0, 0), (28, 9, 8, 1, 1), (1, 0, 0, 0, 0), (27, 15, 8, 0, 0), (0, 8, 1, 0, 0), (33, 0, 0, 0, 0), (1, 0, 0, 0, 0), (24, 0, 0, 0, 0), (27, 15, 8, 0, 0), (6, 0, 0, 1, 0), (10, 0, 0, 0, 0), (30, 15, 8, 0, 0), (52, 1, 0, (-112), 0)],
  [(58, 0, 0, 0, 0)]]
/-- 58: BridgeRounds$Tour.nearest(LBridgeRounds$State;LBridgeRounds$Ways;)I -/
def ev_m_58 : List (List ev_O) := [[(6, 0, 0, (-1), 0), (3, 2, 0, 0, 0), (7, 56, 0, 1000000, 0), (3, 3, 0, 0, 0), (6, 0, 0, 0, 0), (3, 4, 1, 0, 0), (53, 1, 0, 0, 0)],
  [(0, 4, 1, 0, 0), (1, 0, 0, 0, 0), (28, 40, 7, 1, 6), (27, 57, 1, 0, 0), (43, 3, 0, 44, 0), (1, 1, 0, 0, 0), (28, 33, 9, 0, 1), (1, 0, 0, 0, 0), (1, 1, 0, 0, 0), (0, 4, 1, 0, 0), (60, 59, 3, 29, 0), (32, 0, 0, 0, 0), (3, 5, 1, 0, 0), (1, 0, 0, 0, 0), (0, 4, 1, 0, 0), (59, 49, 2, 60, 7), (46, 2, 0, 15, 0), (0, 5, 1, 0, 0), (0, 3, 0, 0, 0), (43, 2, 0, 9, 0), (0, 4, 1, 0, 0), (3, 2, 0, 0, 0), (0, 5, 1, 0, 0), (3, 3, 0, 0, 0), (53, 2, 0, 0, 0)],
  [(23, 4, 0, 1, 0), (52, 1, 0, (-50), 0)],
  [(0, 2, 0, 0, 0), (56, 0, 0, 0, 0)]]
/-- 59: BridgeRounds$Tour.stopFor(LBridgeRounds$State;LBridgeRounds$Ways;I)I -/
def ev_m_59 : List (List ev_O) := [[(1, 0, 0, 0, 0), (28, 40, 7, 1, 6), (28, 64, 1, 1, 1), (0, 2, 0, 0, 0), (32, 0, 0, 0, 0), (3, 3, 0, 0, 0), (1, 0, 0, 0, 0), (28, 67, 7, 0, 1), (28, 71, 6, 2, 1), (0, 3, 0, 0, 0), (32, 0, 0, 0, 0), (1, 0, 0, 0, 0), (28, 67, 7, 0, 1), (28, 76, 6, 3, 2), (0, 3, 0, 0, 0), (32, 0, 0, 0, 0), (63, 79, 0, 0, 0), (3, 4, 1, 0, 0), (1, 0, 0, 0, 0), (28, 67, 7, 0, 1), (28, 71, 6, 2, 1), (0, 3, 0, 0, 0), (32, 0, 0, 0, 0), (1, 0, 0, 0, 0), (28, 67, 7, 0, 1), (28, 76, 6, 3, 2), (0, 3, 0, 0, 0), (32, 0, 0, 0, 0), (62, 85, 0, 0, 0), (3, 5, 1, 0, 0), (1, 1, 0, 0, 0), (28, 33, 9, 0, 1), (0, 5, 1, 0, 0), (32, 0, 0, 0, 0), (1, 1, 0, 0, 0), (28, 33, 9, 0, 1), (0, 4, 1, 0, 0), (32, 0, 0, 0, 0), (43, 1, 0, 8, 0), (0, 5, 1, 0, 0), (52, 2, 0, 5, 0)],
  [(0, 4, 1, 0, 0), (53, 2, 0, 0, 0)],
  [(56, 0, 0, 0, 0)]]
/-- 60: BridgeRounds$Tour.drive(I)I -/
def ev_m_60 : List (List ev_O) := [[(0, 0, 0, 0, 0), (6, 1, 0, 10, 0), (10, 0, 0, 0, 0), (6, 0, 0, 1, 0), (11, 0, 0, 0, 0), (6, 1, 0, 10, 0), (13, 0, 0, 0, 0), (56, 0, 0, 0, 0)]]
/-- 61: BridgeRounds$Ways.reaches(I)Z -/
def ev_m_61 : List (List ev_O) := [[(1, 0, 0, 0, 0), (28, 9, 9, 0, 1), (0, 1, 0, 0, 0), (32, 0, 0, 0, 0), (7, 21, 0, 1000000, 0), (43, 1, 0, 7, 0), (6, 0, 0, 1, 0), (52, 2, 0, 4, 0)],
  [(6, 0, 0, 0, 0), (53, 2, 0, 0, 0)],
  [(56, 1, 0, 0, 0)]]
/-- 62: BridgeRounds$Ways.measure(LBridgeRounds$State;III)V -/
def ev_m_62 : List (List ev_O) := [[(6, 0, 0, 0, 0), (3, 5, 1, 0, 0), (53, 1, 0, 0, 0)],
  [(0, 5, 1, 0, 0), (6, 1, 0, 10, 0), (43, 2, 0, 18, 0), (1, 0, 0, 0, 0), (28, 9, 9, 0, 1), (0, 5, 1, 0, 0), (7, 21, 0, 1000000, 0), (33, 0, 0, 0, 0), (23, 5, 0, 1, 0), (52, 1, 0, (-19), 0)],
  [(1, 0, 0, 0, 0), (28, 9, 9, 0, 1), (0, 2, 0, 0, 0), (6, 0, 0, 0, 0), (33, 0, 0, 0, 0), (6, 0, 0, 1, 0), (3, 5, 1, 0, 0), (6, 0, 0, 0, 0), (3, 6, 1, 0, 0), (53, 3, 0, 0, 0)],
  [(0, 5, 1, 0, 0), (46, 10, 0, 82, 0), (0, 6, 1, 0, 0), (6, 1, 0, 10, 0), (43, 10, 0, 75, 0), (6, 0, 0, 0, 0), (3, 5, 1, 0, 0), (6, 0, 0, 0, 0), (3, 7, 1, 0, 0), (53, 4, 0, 0, 0)],
  [(0, 7, 1, 0, 0), (1, 1, 0, 0, 0), (28, 22, 7, 0, 1), (27, 28, 6, 1, 0), (43, 9, 0, 51, 0), (0, 7, 1, 0, 0), (0, 4, 1, 0, 0), (40, 8, 0, 38, 0), (1, 1, 0, 0, 0), (0, 7, 1, 0, 0), (59, 52, 2, 34, 7), (0, 3, 0, 0, 0), (42, 8, 0, 28, 0), (1, 0, 0, 0, 0), (1, 1, 0, 0, 0), (28, 22, 7, 0, 1), (0, 7, 1, 0, 0), (59, 63, 3, 38, 9), (47, 5, 0, 8, 0), (0, 5, 1, 0, 0), (46, 6, 0, 7, 0), (53, 5, 0, 0, 0)],
  [(6, 0, 0, 1, 0), (52, 7, 0, 4, 0)],
  [(6, 0, 0, 0, 0), (53, 7, 0, 0, 0)],
  [(3, 5, 1, 0, 0), (53, 8, 0, 0, 0)],
  [(23, 7, 0, 1, 0), (52, 4, 0, (-57), 0)],
  [(23, 6, 0, 1, 0), (52, 3, 0, (-81), 0)],
  [(58, 0, 0, 0, 0)]]
/-- 63: BridgeRounds$Ways.bringNearer(LBridgeRounds$Roads;I)Z -/
def ev_m_63 : List (List ev_O) := [[(1, 1, 0, 0, 0), (28, 42, 6, 2, 1), (0, 2, 0, 0, 0), (32, 0, 0, 0, 0), (3, 3, 0, 0, 0), (1, 1, 0, 0, 0), (28, 45, 6, 3, 2), (0, 2, 0, 0, 0), (32, 0, 0, 0, 0), (3, 4, 1, 0, 0), (1, 1, 0, 0, 0), (28, 48, 6, 4, 3), (0, 2, 0, 0, 0), (32, 0, 0, 0, 0), (3, 5, 1, 0, 0), (6, 0, 0, 0, 0), (3, 6, 1, 0, 0), (1, 0, 0, 0, 0), (28, 9, 9, 0, 1), (0, 3, 0, 0, 0), (32, 0, 0, 0, 0), (0, 5, 1, 0, 0), (10, 0, 0, 0, 0), (1, 0, 0, 0, 0), (28, 9, 9, 0, 1), (0, 4, 1, 0, 0), (32, 0, 0, 0, 0), (43, 1, 0, 22, 0), (1, 0, 0, 0, 0), (28, 9, 9, 0, 1), (0, 4, 1, 0, 0), (1, 0, 0, 0, 0), (28, 9, 9, 0, 1), (0, 3, 0, 0, 0), (32, 0, 0, 0, 0), (0, 5, 1, 0, 0), (10, 0, 0, 0, 0), (33, 0, 0, 0, 0), (6, 0, 0, 1, 0), (3, 6, 1, 0, 0), (53, 1, 0, 0, 0)],
  [(1, 0, 0, 0, 0), (28, 9, 9, 0, 1), (0, 4, 1, 0, 0), (32, 0, 0, 0, 0), (0, 5, 1, 0, 0), (10, 0, 0, 0, 0), (1, 0, 0, 0, 0), (28, 9, 9, 0, 1), (0, 3, 0, 0, 0), (32, 0, 0, 0, 0), (43, 2, 0, 22, 0), (1, 0, 0, 0, 0), (28, 9, 9, 0, 1), (0, 3, 0, 0, 0), (1, 0, 0, 0, 0), (28, 9, 9, 0, 1), (0, 4, 1, 0, 0), (32, 0, 0, 0, 0), (0, 5, 1, 0, 0), (10, 0, 0, 0, 0), (33, 0, 0, 0, 0), (6, 0, 0, 1, 0), (3, 6, 1, 0, 0), (53, 2, 0, 0, 0)],
  [(0, 6, 1, 0, 0), (56, 1, 0, 0, 0)]]
/-- 64: BridgeRounds$Ways.trace(LBridgeRounds$State;III)I -/
def ev_m_64 : List (List ev_O) := [[(1, 0, 0, 0, 0), (0, 3, 0, 0, 0), (59, 61, 2, 51, 9), (47, 1, 0, 5, 0), (6, 0, 0, 0, 0), (56, 0, 0, 0, 0)],
  [(6, 0, 0, 0, 0), (3, 5, 1, 0, 0), (0, 3, 0, 0, 0), (3, 6, 1, 0, 0), (53, 2, 0, 0, 0)],
  [(0, 5, 1, 0, 0), (6, 1, 0, 10, 0), (43, 5, 0, 45, 0), (0, 6, 1, 0, 0), (6, 0, 0, (-1), 0), (40, 5, 0, 39, 0), (1, 0, 0, 0, 0), (28, 18, 9, 2, 3), (0, 5, 1, 0, 0), (0, 6, 1, 0, 0), (33, 0, 0, 0, 0), (23, 5, 0, 1, 0), (0, 6, 1, 0, 0), (0, 2, 0, 0, 0), (41, 3, 0, 7, 0), (6, 0, 0, (-1), 0), (52, 4, 0, 12, 0)],
  [(1, 0, 0, 0, 0), (1, 1, 0, 0, 0), (0, 6, 1, 0, 0), (0, 4, 1, 0, 0), (59, 65, 4, 55, 9), (53, 4, 0, 0, 0)],
  [(3, 6, 1, 0, 0), (52, 2, 0, (-46), 0)],
  [(0, 5, 1, 0, 0), (56, 0, 0, 0, 0)]]
/-- 65: BridgeRounds$Ways.ahead(LBridgeRounds$State;II)I -/
def ev_m_65 : List (List ev_O) := [[(6, 0, 0, (-1), 0), (3, 4, 1, 0, 0), (6, 0, 0, 0, 0), (3, 5, 1, 0, 0), (53, 1, 0, 0, 0)],
  [(0, 5, 1, 0, 0), (1, 1, 0, 0, 0), (28, 22, 7, 0, 1), (27, 28, 6, 1, 0), (43, 9, 0, 126, 0), (1, 1, 0, 0, 0), (28, 22, 7, 0, 1), (28, 42, 6, 2, 1), (0, 5, 1, 0, 0), (32, 0, 0, 0, 0), (3, 6, 1, 0, 0), (1, 1, 0, 0, 0), (28, 22, 7, 0, 1), (28, 45, 6, 3, 2), (0, 5, 1, 0, 0), (32, 0, 0, 0, 0), (3, 7, 1, 0, 0), (1, 1, 0, 0, 0), (0, 5, 1, 0, 0), (59, 52, 2, 34, 7), (0, 3, 0, 0, 0), (42, 8, 0, 86, 0), (0, 6, 1, 0, 0), (0, 2, 0, 0, 0), (40, 2, 0, 9, 0), (0, 7, 1, 0, 0), (0, 2, 0, 0, 0), (41, 8, 0, 74, 0), (53, 2, 0, 0, 0)],
  [(0, 6, 1, 0, 0), (0, 2, 0, 0, 0), (41, 3, 0, 8, 0), (0, 7, 1, 0, 0), (52, 4, 0, 5, 0)],
  [(0, 6, 1, 0, 0), (53, 4, 0, 0, 0)],
  [(3, 8, 1, 0, 0), (1, 0, 0, 0, 0), (28, 9, 9, 0, 1), (0, 8, 1, 0, 0), (32, 0, 0, 0, 0), (1, 1, 0, 0, 0), (28, 22, 7, 0, 1), (28, 48, 6, 4, 3), (0, 5, 1, 0, 0), (32, 0, 0, 0, 0), (10, 0, 0, 0, 0), (1, 0, 0, 0, 0), (28, 9, 9, 0, 1), (0, 2, 0, 0, 0), (32, 0, 0, 0, 0), (41, 5, 0, 7, 0), (6, 0, 0, 1, 0), (52, 6, 0, 4, 0)],
  [(6, 0, 0, 0, 0), (53, 6, 0, 0, 0)],
  [(3, 9, 1, 0, 0), (0, 9, 1, 0, 0), (46, 8, 0, 20, 0), (0, 4, 1, 0, 0), (6, 0, 0, (-1), 0), (40, 7, 0, 10, 0), (0, 8, 1, 0, 0), (0, 4, 1, 0, 0), (43, 8, 0, 7, 0), (53, 7, 0, 0, 0)],
  [(0, 8, 1, 0, 0), (3, 4, 1, 0, 0), (53, 8, 0, 0, 0)],
  [(23, 5, 0, 1, 0), (52, 1, 0, (-132), 0)],
  [(0, 4, 1, 0, 0), (56, 0, 0, 0, 0)]]
/-- 66: BridgeRounds$Ways.heaviestLoad(LBridgeRounds$State;II)I -/
def ev_m_66 : List (List ev_O) := [[(6, 0, 0, 0, 0), (3, 4, 1, 0, 0), (53, 1, 0, 0, 0)],
  [(0, 4, 1, 0, 0), (6, 1, 0, 10, 0), (43, 2, 0, 17, 0), (1, 0, 0, 0, 0), (28, 15, 9, 1, 2), (0, 4, 1, 0, 0), (6, 0, 0, 0, 0), (33, 0, 0, 0, 0), (23, 4, 0, 1, 0), (52, 1, 0, (-18), 0)],
  [(1, 0, 0, 0, 0), (28, 15, 9, 1, 2), (0, 2, 0, 0, 0), (6, 1, 0, 60, 0), (33, 0, 0, 0, 0), (6, 0, 0, 1, 0), (3, 4, 1, 0, 0), (6, 0, 0, 0, 0), (3, 5, 1, 0, 0), (53, 3, 0, 0, 0)],
  [(0, 4, 1, 0, 0), (46, 9, 0, 62, 0), (0, 5, 1, 0, 0), (6, 1, 0, 10, 0), (43, 9, 0, 55, 0), (6, 0, 0, 0, 0), (3, 4, 1, 0, 0), (6, 0, 0, 0, 0), (3, 6, 1, 0, 0), (53, 4, 0, 0, 0)],
  [(0, 6, 1, 0, 0), (1, 1, 0, 0, 0), (28, 22, 7, 0, 1), (27, 28, 6, 1, 0), (43, 8, 0, 31, 0), (1, 0, 0, 0, 0), (1, 1, 0, 0, 0), (0, 6, 1, 0, 0), (59, 67, 3, 59, 9), (47, 5, 0, 8, 0), (0, 4, 1, 0, 0), (46, 6, 0, 7, 0), (53, 5, 0, 0, 0)],
  [(6, 0, 0, 1, 0), (52, 7, 0, 4, 0)],
  [(6, 0, 0, 0, 0), (53, 7, 0, 0, 0)],
  [(3, 4, 1, 0, 0), (23, 6, 0, 1, 0), (52, 4, 0, (-37), 0)],
  [(23, 5, 0, 1, 0), (52, 3, 0, (-61), 0)],
  [(1, 0, 0, 0, 0), (28, 15, 9, 1, 2), (0, 3, 0, 0, 0), (32, 0, 0, 0, 0), (56, 0, 0, 0, 0)]]
/-- 67: BridgeRounds$Ways.bringHeavier(LBridgeRounds$State;I)Z -/
def ev_m_67 : List (List ev_O) := [[(1, 1, 0, 0, 0), (28, 22, 7, 0, 1), (28, 42, 6, 2, 1), (0, 2, 0, 0, 0), (32, 0, 0, 0, 0), (3, 3, 0, 0, 0), (1, 1, 0, 0, 0), (28, 22, 7, 0, 1), (28, 45, 6, 3, 2), (0, 2, 0, 0, 0), (32, 0, 0, 0, 0), (3, 4, 1, 0, 0), (1, 1, 0, 0, 0), (0, 2, 0, 0, 0), (59, 52, 2, 34, 7), (3, 5, 1, 0, 0), (6, 0, 0, 0, 0), (3, 6, 1, 0, 0), (1, 0, 0, 0, 0), (28, 15, 9, 1, 2), (0, 3, 0, 0, 0), (32, 0, 0, 0, 0), (0, 5, 1, 0, 0), (63, 63, 0, 0, 0), (1, 0, 0, 0, 0), (28, 15, 9, 1, 2), (0, 4, 1, 0, 0), (32, 0, 0, 0, 0), (45, 1, 0, 24, 0), (1, 0, 0, 0, 0), (28, 15, 9, 1, 2), (0, 4, 1, 0, 0), (1, 0, 0, 0, 0), (28, 15, 9, 1, 2), (0, 3, 0, 0, 0), (32, 0, 0, 0, 0), (0, 5, 1, 0, 0), (63, 63, 0, 0, 0), (33, 0, 0, 0, 0), (6, 0, 0, 1, 0), (3, 6, 1, 0, 0), (53, 1, 0, 0, 0)],
  [(1, 0, 0, 0, 0), (28, 15, 9, 1, 2), (0, 4, 1, 0, 0), (32, 0, 0, 0, 0), (0, 5, 1, 0, 0), (63, 63, 0, 0, 0), (1, 0, 0, 0, 0), (28, 15, 9, 1, 2), (0, 3, 0, 0, 0), (32, 0, 0, 0, 0), (45, 2, 0, 24, 0), (1, 0, 0, 0, 0), (28, 15, 9, 1, 2), (0, 3, 0, 0, 0), (1, 0, 0, 0, 0), (28, 15, 9, 1, 2), (0, 4, 1, 0, 0), (32, 0, 0, 0, 0), (0, 5, 1, 0, 0), (63, 63, 0, 0, 0), (33, 0, 0, 0, 0), (6, 0, 0, 1, 0), (3, 6, 1, 0, 0), (53, 2, 0, 0, 0)],
  [(0, 6, 1, 0, 0), (56, 1, 0, 0, 0)]]
/-- 68: BridgeRounds.addTowns(I)I -/
def ev_m_68 : List (List ev_O) := [[(0, 1, 0, 0, 0), (6, 0, 0, 1, 0), (6, 1, 0, 10, 0), (60, 104, 3, 61, 0), (47, 1, 0, 6, 0), (6, 1, 0, (-3), 0), (56, 0, 0, 0, 0)],
  [(1, 0, 0, 0, 0), (28, 10, 10, 0, (-161)), (28, 65, 7, 0, 1), (27, 69, 6, 0, 0), (0, 1, 0, 0, 0), (10, 0, 0, 0, 0), (6, 1, 0, 10, 0), (45, 2, 0, 6, 0), (6, 1, 0, (-5), 0), (56, 0, 0, 0, 0)],
  [(1, 0, 0, 0, 0), (28, 22, 10, 2, 1), (1, 0, 0, 0, 0), (28, 10, 10, 0, (-161)), (59, 26, 2, 75, 3), (1, 0, 0, 0, 0), (28, 10, 10, 0, (-161)), (28, 65, 7, 0, 1), (24, 0, 0, 0, 0), (27, 69, 6, 0, 0), (0, 1, 0, 0, 0), (10, 0, 0, 0, 0), (30, 69, 6, 0, 0), (1, 0, 0, 0, 0), (28, 10, 10, 0, (-161)), (28, 65, 7, 0, 1), (27, 69, 6, 0, 0), (56, 0, 0, 0, 0)]]
/-- 69: BridgeRounds.addRoad(III)I -/
def ev_m_69 : List (List ev_O) := [[(1, 0, 0, 0, 0), (28, 10, 10, 0, (-161)), (28, 65, 7, 0, 1), (0, 1, 0, 0, 0), (59, 44, 2, 79, 6), (46, 1, 0, 17, 0), (1, 0, 0, 0, 0), (28, 10, 10, 0, (-161)), (28, 65, 7, 0, 1), (0, 2, 0, 0, 0), (59, 44, 2, 79, 6), (47, 2, 0, 6, 0), (53, 1, 0, 0, 0)],
  [(6, 1, 0, (-2), 0), (56, 0, 0, 0, 0)],
  [(0, 1, 0, 0, 0), (0, 2, 0, 0, 0), (40, 3, 0, 13, 0), (0, 3, 0, 0, 0), (6, 0, 0, 1, 0), (6, 1, 0, 99, 0), (60, 104, 3, 61, 0), (47, 4, 0, 6, 0), (53, 3, 0, 0, 0)],
  [(6, 1, 0, (-3), 0), (56, 0, 0, 0, 0)],
  [(1, 0, 0, 0, 0), (28, 10, 10, 0, (-161)), (28, 65, 7, 0, 1), (27, 83, 6, 1, 0), (6, 1, 0, 20, 0), (42, 5, 0, 6, 0), (6, 1, 0, (-5), 0), (56, 0, 0, 0, 0)],
  [(1, 0, 0, 0, 0), (28, 22, 10, 2, 1), (1, 0, 0, 0, 0), (28, 10, 10, 0, (-161)), (59, 26, 2, 75, 3), (1, 0, 0, 0, 0), (28, 10, 10, 0, (-161)), (28, 65, 7, 0, 1), (0, 1, 0, 0, 0), (0, 2, 0, 0, 0), (0, 3, 0, 0, 0), (59, 46, 4, 86, 6), (56, 0, 0, 0, 0)]]
/-- 70: BridgeRounds.addBridge(I)I -/
def ev_m_70 : List (List ev_O) := [[(1, 0, 0, 0, 0), (28, 10, 10, 0, (-161)), (28, 65, 7, 0, 1), (0, 1, 0, 0, 0), (59, 45, 2, 90, 6), (47, 1, 0, 6, 0), (6, 1, 0, (-2), 0), (56, 0, 0, 0, 0)],
  [(1, 0, 0, 0, 0), (28, 10, 10, 0, (-161)), (28, 65, 7, 0, 1), (28, 93, 6, 5, 4), (0, 1, 0, 0, 0), (32, 0, 0, 0, 0), (6, 0, 0, (-1), 0), (40, 2, 0, 6, 0), (6, 1, 0, (-4), 0), (56, 0, 0, 0, 0)],
  [(1, 0, 0, 0, 0), (28, 10, 10, 0, (-161)), (28, 97, 7, 1, 6), (27, 101, 1, 0, 0), (6, 1, 0, 6, 0), (42, 3, 0, 6, 0), (6, 1, 0, (-5), 0), (56, 0, 0, 0, 0)],
  [(1, 0, 0, 0, 0), (28, 22, 10, 2, 1), (1, 0, 0, 0, 0), (28, 10, 10, 0, (-161)), (59, 26, 2, 75, 3), (1, 0, 0, 0, 0), (28, 10, 10, 0, (-161)), (0, 1, 0, 0, 0), (59, 48, 2, 104, 7), (56, 0, 0, 0, 0)]]
/-- 71: BridgeRounds.addComponent(IIII)I -/
def ev_m_71 : List (List ev_O) := [[(1, 0, 0, 0, 0), (28, 10, 10, 0, (-161)), (28, 97, 7, 1, 6), (0, 1, 0, 0, 0), (59, 6, 2, 108, 1), (47, 1, 0, 6, 0), (6, 1, 0, (-2), 0), (56, 0, 0, 0, 0)],
  [(0, 2, 0, 0, 0), (6, 0, 0, 0, 0), (6, 0, 0, 3, 0), (60, 104, 3, 61, 0), (46, 2, 0, 24, 0), (0, 3, 0, 0, 0), (6, 0, 0, 0, 0), (6, 1, 0, 9, 0), (60, 104, 3, 61, 0), (46, 2, 0, 14, 0), (0, 4, 1, 0, 0), (6, 0, 0, 0, 0), (6, 1, 0, 60, 0), (60, 104, 3, 61, 0), (47, 3, 0, 6, 0), (53, 2, 0, 0, 0)],
  [(6, 1, 0, (-3), 0), (56, 0, 0, 0, 0)],
  [(1, 0, 0, 0, 0), (28, 10, 10, 0, (-161)), (28, 97, 7, 1, 6), (28, 111, 1, 5, 5), (0, 1, 0, 0, 0), (32, 0, 0, 0, 0), (6, 1, 0, 6, 0), (42, 4, 0, 6, 0), (6, 1, 0, (-5), 0), (56, 0, 0, 0, 0)],
  [(1, 0, 0, 0, 0), (28, 22, 10, 2, 1), (1, 0, 0, 0, 0), (28, 10, 10, 0, (-161)), (59, 26, 2, 75, 3), (1, 0, 0, 0, 0), (28, 10, 10, 0, (-161)), (28, 97, 7, 1, 6), (0, 1, 0, 0, 0), (0, 2, 0, 0, 0), (0, 3, 0, 0, 0), (0, 4, 1, 0, 0), (59, 9, 5, 114, 1), (56, 0, 0, 0, 0)]]
/-- 72: BridgeRounds.rest(III)I -/
def ev_m_72 : List (List ev_O) := [[(1, 0, 0, 0, 0), (28, 10, 10, 0, (-161)), (28, 97, 7, 1, 6), (0, 1, 0, 0, 0), (0, 2, 0, 0, 0), (59, 7, 3, 118, 1), (47, 1, 0, 6, 0), (6, 1, 0, (-2), 0), (56, 0, 0, 0, 0)],
  [(0, 3, 0, 0, 0), (6, 0, 0, (-1), 0), (40, 2, 0, 21, 0), (1, 0, 0, 0, 0), (28, 10, 10, 0, (-161)), (28, 97, 7, 1, 6), (0, 1, 0, 0, 0), (0, 3, 0, 0, 0), (59, 7, 3, 118, 1), (47, 2, 0, 6, 0), (6, 1, 0, (-2), 0), (56, 0, 0, 0, 0)],
  [(0, 3, 0, 0, 0), (6, 0, 0, (-1), 0), (40, 3, 0, 11, 0), (0, 3, 0, 0, 0), (0, 2, 0, 0, 0), (44, 3, 0, 6, 0), (6, 1, 0, (-3), 0), (56, 0, 0, 0, 0)],
  [(1, 0, 0, 0, 0), (28, 22, 10, 2, 1), (1, 0, 0, 0, 0), (28, 10, 10, 0, (-161)), (59, 26, 2, 75, 3), (0, 3, 0, 0, 0), (6, 0, 0, (-1), 0), (41, 4, 0, 8, 0), (6, 1, 0, 64, 0), (52, 5, 0, 6, 0)],
  [(6, 0, 0, 1, 0), (0, 3, 0, 0, 0), (18, 0, 0, 0, 0), (53, 5, 0, 0, 0)],
  [(3, 4, 1, 0, 0), (1, 0, 0, 0, 0), (28, 10, 10, 0, (-161)), (28, 97, 7, 1, 6), (0, 1, 0, 0, 0), (0, 2, 0, 0, 0), (0, 4, 1, 0, 0), (59, 10, 4, 122, 1), (46, 6, 0, 7, 0), (6, 0, 0, 1, 0), (52, 7, 0, 4, 0)],
  [(6, 0, 0, 0, 0), (53, 7, 0, 0, 0)],
  [(56, 0, 0, 0, 0)]]
/-- 73: BridgeRounds.setRating(III)I -/
def ev_m_73 : List (List ev_O) := [[(1, 0, 0, 0, 0), (28, 10, 10, 0, (-161)), (28, 97, 7, 1, 6), (0, 1, 0, 0, 0), (0, 2, 0, 0, 0), (59, 7, 3, 118, 1), (47, 1, 0, 6, 0), (6, 1, 0, (-2), 0), (56, 0, 0, 0, 0)],
  [(0, 3, 0, 0, 0), (6, 0, 0, 0, 0), (6, 1, 0, 9, 0), (60, 104, 3, 61, 0), (47, 2, 0, 6, 0), (6, 1, 0, (-3), 0), (56, 0, 0, 0, 0)],
  [(1, 0, 0, 0, 0), (28, 22, 10, 2, 1), (1, 0, 0, 0, 0), (28, 10, 10, 0, (-161)), (59, 26, 2, 75, 3), (0, 1, 0, 0, 0), (0, 2, 0, 0, 0), (60, 5, 2, 125, 0), (3, 4, 1, 0, 0), (1, 0, 0, 0, 0), (28, 10, 10, 0, (-161)), (28, 97, 7, 1, 6), (28, 129, 1, 7, 7), (0, 4, 1, 0, 0), (32, 0, 0, 0, 0), (3, 5, 1, 0, 0), (1, 0, 0, 0, 0), (28, 10, 10, 0, (-161)), (28, 97, 7, 1, 6), (0, 4, 1, 0, 0), (0, 3, 0, 0, 0), (59, 11, 3, 132, 1), (0, 5, 1, 0, 0), (56, 0, 0, 0, 0)]]
/-- 74: BridgeRounds.close(IZ)I -/
def ev_m_74 : List (List ev_O) := [[(1, 0, 0, 0, 0), (28, 10, 10, 0, (-161)), (28, 97, 7, 1, 6), (0, 1, 0, 0, 0), (59, 6, 2, 108, 1), (47, 1, 0, 6, 0), (6, 1, 0, (-2), 0), (56, 0, 0, 0, 0)],
  [(1, 0, 0, 0, 0), (28, 22, 10, 2, 1), (1, 0, 0, 0, 0), (28, 10, 10, 0, (-161)), (59, 26, 2, 75, 3), (1, 0, 0, 0, 0), (28, 10, 10, 0, (-161)), (28, 97, 7, 1, 6), (28, 136, 1, 4, 4), (0, 1, 0, 0, 0), (34, 0, 0, 0, 0), (3, 3, 0, 0, 0), (1, 0, 0, 0, 0), (28, 10, 10, 0, (-161)), (28, 97, 7, 1, 6), (28, 136, 1, 4, 4), (0, 1, 0, 0, 0), (0, 2, 0, 0, 0), (35, 0, 0, 0, 0), (0, 3, 0, 0, 0), (46, 2, 0, 7, 0), (6, 0, 0, 1, 0), (52, 3, 0, 4, 0)],
  [(6, 0, 0, 0, 0), (53, 3, 0, 0, 0)],
  [(56, 0, 0, 0, 0)]]
/-- 75: BridgeRounds.count(I)I -/
def ev_m_75 : List (List ev_O) := [[(0, 1, 0, 0, 0), (54, 1, 0, 0, 0)],
  [(1, 0, 0, 0, 0), (28, 10, 10, 0, (-161)), (28, 65, 7, 0, 1), (27, 69, 6, 0, 0), (56, 0, 0, 0, 0)],
  [(1, 0, 0, 0, 0), (28, 10, 10, 0, (-161)), (28, 65, 7, 0, 1), (27, 83, 6, 1, 0), (56, 0, 0, 0, 0)],
  [(1, 0, 0, 0, 0), (28, 10, 10, 0, (-161)), (28, 97, 7, 1, 6), (27, 101, 1, 0, 0), (56, 0, 0, 0, 0)],
  [(1, 0, 0, 0, 0), (28, 10, 10, 0, (-161)), (28, 140, 7, 2, 17), (27, 144, 4, 0, 0), (56, 0, 0, 0, 0)],
  [(1, 0, 0, 0, 0), (28, 10, 10, 0, (-161)), (28, 140, 7, 2, 17), (27, 149, 4, 1, 0), (56, 0, 0, 0, 0)],
  [(1, 0, 0, 0, 0), (28, 10, 10, 0, (-161)), (27, 152, 7, 3, 0), (56, 0, 0, 0, 0)],
  [(1, 0, 0, 0, 0), (28, 10, 10, 0, (-161)), (27, 155, 7, 4, 0), (56, 0, 0, 0, 0)],
  [(1, 0, 0, 0, 0), (28, 10, 10, 0, (-161)), (27, 158, 7, 5, 0), (56, 0, 0, 0, 0)],
  [(1, 0, 0, 0, 0), (28, 10, 10, 0, (-161)), (27, 161, 7, 6, 0), (56, 0, 0, 0, 0)],
  [(1, 0, 0, 0, 0), (28, 10, 10, 0, (-161)), (59, 50, 1, 164, 7), (56, 0, 0, 0, 0)],
  [(1, 0, 0, 0, 0), (28, 36, 10, 4, 9), (1, 0, 0, 0, 0), (28, 10, 10, 0, (-161)), (28, 97, 7, 1, 6), (59, 22, 2, 168, 2), (56, 0, 0, 0, 0)],
  [(6, 1, 0, (-3), 0), (56, 0, 0, 0, 0)]]
/-- 76: BridgeRounds.road(II)I -/
def ev_m_76 : List (List ev_O) := [[(1, 0, 0, 0, 0), (28, 10, 10, 0, (-161)), (28, 65, 7, 0, 1), (0, 1, 0, 0, 0), (59, 45, 2, 90, 6), (47, 1, 0, 6, 0), (6, 1, 0, (-2), 0), (56, 0, 0, 0, 0)],
  [(0, 2, 0, 0, 0), (54, 2, 0, 0, 0)],
  [(1, 0, 0, 0, 0), (28, 10, 10, 0, (-161)), (28, 65, 7, 0, 1), (28, 172, 6, 2, 1), (0, 1, 0, 0, 0), (32, 0, 0, 0, 0), (56, 0, 0, 0, 0)],
  [(1, 0, 0, 0, 0), (28, 10, 10, 0, (-161)), (28, 65, 7, 0, 1), (28, 175, 6, 3, 2), (0, 1, 0, 0, 0), (32, 0, 0, 0, 0), (56, 0, 0, 0, 0)],
  [(1, 0, 0, 0, 0), (28, 10, 10, 0, (-161)), (28, 65, 7, 0, 1), (28, 178, 6, 4, 3), (0, 1, 0, 0, 0), (32, 0, 0, 0, 0), (56, 0, 0, 0, 0)],
  [(1, 0, 0, 0, 0), (28, 10, 10, 0, (-161)), (28, 65, 7, 0, 1), (28, 93, 6, 5, 4), (0, 1, 0, 0, 0), (32, 0, 0, 0, 0), (56, 0, 0, 0, 0)],
  [(6, 1, 0, (-3), 0), (56, 0, 0, 0, 0)]]
/-- 77: BridgeRounds.bridge(II)I -/
def ev_m_77 : List (List ev_O) := [[(1, 0, 0, 0, 0), (28, 10, 10, 0, (-161)), (28, 97, 7, 1, 6), (0, 1, 0, 0, 0), (59, 6, 2, 108, 1), (47, 1, 0, 6, 0), (6, 1, 0, (-2), 0), (56, 0, 0, 0, 0)],
  [(0, 2, 0, 0, 0), (54, 3, 0, 0, 0)],
  [(1, 0, 0, 0, 0), (28, 10, 10, 0, (-161)), (28, 97, 7, 1, 6), (28, 181, 1, 1, 1), (0, 1, 0, 0, 0), (32, 0, 0, 0, 0), (56, 0, 0, 0, 0)],
  [(1, 0, 0, 0, 0), (28, 10, 10, 0, (-161)), (28, 97, 7, 1, 6), (28, 111, 1, 5, 5), (0, 1, 0, 0, 0), (32, 0, 0, 0, 0), (56, 0, 0, 0, 0)],
  [(1, 0, 0, 0, 0), (28, 36, 10, 4, 9), (1, 0, 0, 0, 0), (28, 10, 10, 0, (-161)), (28, 97, 7, 1, 6), (0, 1, 0, 0, 0), (59, 18, 3, 184, 2), (56, 0, 0, 0, 0)],
  [(1, 0, 0, 0, 0), (28, 10, 10, 0, (-161)), (28, 97, 7, 1, 6), (28, 188, 1, 2, 2), (0, 1, 0, 0, 0), (32, 0, 0, 0, 0), (56, 0, 0, 0, 0)],
  [(1, 0, 0, 0, 0), (28, 10, 10, 0, (-161)), (28, 97, 7, 1, 6), (28, 191, 1, 3, 3), (0, 1, 0, 0, 0), (32, 0, 0, 0, 0), (56, 0, 0, 0, 0)],
  [(1, 0, 0, 0, 0), (28, 10, 10, 0, (-161)), (28, 97, 7, 1, 6), (0, 1, 0, 0, 0), (59, 14, 2, 194, 1), (56, 0, 0, 0, 0)],
  [(1, 0, 0, 0, 0), (28, 10, 10, 0, (-161)), (0, 1, 0, 0, 0), (59, 49, 2, 197, 7), (46, 9, 0, 7, 0), (6, 0, 0, 1, 0), (52, 10, 0, 4, 0)],
  [(6, 0, 0, 0, 0), (53, 10, 0, 0, 0)],
  [(56, 0, 0, 0, 0)],
  [(1, 0, 0, 0, 0), (28, 10, 10, 0, (-161)), (28, 97, 7, 1, 6), (28, 136, 1, 4, 4), (0, 1, 0, 0, 0), (34, 0, 0, 0, 0), (46, 12, 0, 7, 0), (6, 0, 0, 1, 0), (52, 13, 0, 4, 0)],
  [(6, 0, 0, 0, 0), (53, 13, 0, 0, 0)],
  [(56, 0, 0, 0, 0)],
  [(1, 0, 0, 0, 0), (28, 10, 10, 0, (-161)), (28, 97, 7, 1, 6), (0, 1, 0, 0, 0), (59, 15, 2, 200, 1), (56, 0, 0, 0, 0)],
  [(6, 1, 0, (-3), 0), (56, 0, 0, 0, 0)]]
/-- 78: BridgeRounds.component(III)I -/
def ev_m_78 : List (List ev_O) := [[(1, 0, 0, 0, 0), (28, 10, 10, 0, (-161)), (28, 97, 7, 1, 6), (0, 1, 0, 0, 0), (0, 2, 0, 0, 0), (59, 7, 3, 118, 1), (47, 1, 0, 6, 0), (6, 1, 0, (-2), 0), (56, 0, 0, 0, 0)],
  [(0, 1, 0, 0, 0), (0, 2, 0, 0, 0), (60, 5, 2, 125, 0), (3, 4, 1, 0, 0), (0, 3, 0, 0, 0), (54, 4, 0, 0, 0)],
  [(1, 0, 0, 0, 0), (28, 10, 10, 0, (-161)), (28, 97, 7, 1, 6), (28, 203, 1, 6, 6), (0, 4, 1, 0, 0), (32, 0, 0, 0, 0), (56, 0, 0, 0, 0)],
  [(1, 0, 0, 0, 0), (28, 10, 10, 0, (-161)), (28, 97, 7, 1, 6), (28, 129, 1, 7, 7), (0, 4, 1, 0, 0), (32, 0, 0, 0, 0), (56, 0, 0, 0, 0)],
  [(1, 0, 0, 0, 0), (28, 10, 10, 0, (-161)), (28, 97, 7, 1, 6), (28, 206, 1, 8, 8), (0, 4, 1, 0, 0), (32, 0, 0, 0, 0), (56, 0, 0, 0, 0)],
  [(1, 0, 0, 0, 0), (28, 10, 10, 0, (-161)), (28, 97, 7, 1, 6), (28, 209, 1, 9, 9), (0, 4, 1, 0, 0), (32, 0, 0, 0, 0), (56, 0, 0, 0, 0)],
  [(1, 0, 0, 0, 0), (28, 36, 10, 4, 9), (1, 0, 0, 0, 0), (28, 10, 10, 0, (-161)), (28, 97, 7, 1, 6), (0, 1, 0, 0, 0), (59, 18, 3, 184, 2), (26, 0, 0, 0, 0), (1, 0, 0, 0, 0), (28, 36, 10, 4, 9), (28, 212, 2, 1, 2), (0, 2, 0, 0, 0), (32, 0, 0, 0, 0), (56, 0, 0, 0, 0)],
  [(1, 0, 0, 0, 0), (28, 10, 10, 0, (-161)), (28, 97, 7, 1, 6), (28, 215, 1, 10, 10), (0, 4, 1, 0, 0), (32, 0, 0, 0, 0), (56, 0, 0, 0, 0)],
  [(6, 1, 0, (-3), 0), (56, 0, 0, 0, 0)]]
/-- 79: BridgeRounds.weak(I)I -/
def ev_m_79 : List (List ev_O) := [[(1, 0, 0, 0, 0), (28, 10, 10, 0, (-161)), (28, 97, 7, 1, 6), (0, 1, 0, 0, 0), (59, 6, 2, 108, 1), (47, 1, 0, 6, 0), (6, 1, 0, (-2), 0), (56, 0, 0, 0, 0)],
  [(1, 0, 0, 0, 0), (28, 36, 10, 4, 9), (1, 0, 0, 0, 0), (28, 10, 10, 0, (-161)), (28, 97, 7, 1, 6), (0, 1, 0, 0, 0), (59, 23, 3, 218, 2), (56, 0, 0, 0, 0)]]
/-- 80: BridgeRounds.pass(I)I -/
def ev_m_80 : List (List ev_O) := [[(0, 1, 0, 0, 0), (6, 0, 0, 1, 0), (6, 1, 0, 50, 0), (60, 104, 3, 61, 0), (47, 1, 0, 6, 0), (6, 1, 0, (-3), 0), (56, 0, 0, 0, 0)],
  [(1, 0, 0, 0, 0), (28, 10, 10, 0, (-161)), (27, 152, 7, 3, 0), (0, 1, 0, 0, 0), (10, 0, 0, 0, 0), (6, 2, 0, 1000, 0), (45, 2, 0, 6, 0), (6, 1, 0, (-5), 0), (56, 0, 0, 0, 0)],
  [(1, 0, 0, 0, 0), (28, 22, 10, 2, 1), (1, 0, 0, 0, 0), (28, 10, 10, 0, (-161)), (59, 26, 2, 75, 3), (1, 0, 0, 0, 0), (28, 10, 10, 0, (-161)), (24, 0, 0, 0, 0), (27, 152, 7, 3, 0), (0, 1, 0, 0, 0), (10, 0, 0, 0, 0), (30, 152, 7, 3, 0), (1, 0, 0, 0, 0), (28, 10, 10, 0, (-161)), (28, 97, 7, 1, 6), (0, 1, 0, 0, 0), (59, 13, 2, 221, 1), (1, 0, 0, 0, 0), (28, 10, 10, 0, (-161)), (27, 152, 7, 3, 0), (56, 0, 0, 0, 0)]]
/-- 81: BridgeRounds.inspect(I)I -/
def ev_m_81 : List (List ev_O) := [[(1, 0, 0, 0, 0), (28, 10, 10, 0, (-161)), (28, 97, 7, 1, 6), (0, 1, 0, 0, 0), (59, 6, 2, 108, 1), (47, 1, 0, 6, 0), (6, 1, 0, (-2), 0), (56, 0, 0, 0, 0)],
  [(1, 0, 0, 0, 0), (28, 22, 10, 2, 1), (1, 0, 0, 0, 0), (28, 10, 10, 0, (-161)), (59, 26, 2, 75, 3), (1, 0, 0, 0, 0), (28, 10, 10, 0, (-161)), (0, 1, 0, 0, 0), (1, 0, 0, 0, 0), (28, 36, 10, 4, 9), (1, 0, 0, 0, 0), (28, 10, 10, 0, (-161)), (28, 97, 7, 1, 6), (0, 1, 0, 0, 0), (59, 18, 3, 184, 2), (59, 51, 3, 225, 7), (1, 0, 0, 0, 0), (28, 10, 10, 0, (-161)), (28, 97, 7, 1, 6), (28, 188, 1, 2, 2), (0, 1, 0, 0, 0), (32, 0, 0, 0, 0), (56, 0, 0, 0, 0)]]
/-- 82: BridgeRounds.round(II)I -/
def ev_m_82 : List (List ev_O) := [[(1, 0, 0, 0, 0), (28, 10, 10, 0, (-161)), (28, 65, 7, 0, 1), (0, 1, 0, 0, 0), (59, 44, 2, 79, 6), (47, 1, 0, 6, 0), (6, 1, 0, (-2), 0), (56, 0, 0, 0, 0)],
  [(0, 2, 0, 0, 0), (6, 0, 0, 1, 0), (6, 2, 0, 200, 0), (60, 104, 3, 61, 0), (47, 2, 0, 6, 0), (6, 1, 0, (-3), 0), (56, 0, 0, 0, 0)],
  [(1, 0, 0, 0, 0), (28, 22, 10, 2, 1), (1, 0, 0, 0, 0), (28, 10, 10, 0, (-161)), (59, 26, 2, 75, 3), (1, 0, 0, 0, 0), (28, 50, 10, 6, 16), (1, 0, 0, 0, 0), (28, 10, 10, 0, (-161)), (1, 0, 0, 0, 0), (28, 43, 10, 5, 12), (1, 0, 0, 0, 0), (28, 36, 10, 4, 9), (0, 1, 0, 0, 0), (0, 2, 0, 0, 0), (59, 57, 6, 228, 8), (1, 0, 0, 0, 0), (28, 50, 10, 6, 16), (27, 232, 8, 0, 0), (56, 0, 0, 0, 0)]]
/-- 83: BridgeRounds.ofRound(III)I -/
def ev_m_83 : List (List ev_O) := [[(1, 0, 0, 0, 0), (28, 10, 10, 0, (-161)), (28, 65, 7, 0, 1), (0, 1, 0, 0, 0), (59, 44, 2, 79, 6), (47, 1, 0, 6, 0), (6, 1, 0, (-2), 0), (56, 0, 0, 0, 0)],
  [(0, 2, 0, 0, 0), (6, 0, 0, 1, 0), (6, 2, 0, 200, 0), (60, 104, 3, 61, 0), (46, 2, 0, 7, 0), (0, 3, 0, 0, 0), (49, 3, 0, 6, 0), (53, 2, 0, 0, 0)],
  [(6, 1, 0, (-3), 0), (56, 0, 0, 0, 0)],
  [(1, 0, 0, 0, 0), (28, 16, 10, 1, (-138)), (1, 0, 0, 0, 0), (28, 10, 10, 0, (-161)), (59, 56, 2, 233, 7), (1, 0, 0, 0, 0), (28, 50, 10, 6, 16), (1, 0, 0, 0, 0), (28, 16, 10, 1, (-138)), (1, 0, 0, 0, 0), (28, 43, 10, 5, 12), (1, 0, 0, 0, 0), (28, 36, 10, 4, 9), (0, 1, 0, 0, 0), (0, 2, 0, 0, 0), (59, 57, 6, 228, 8), (0, 3, 0, 0, 0), (1, 0, 0, 0, 0), (28, 50, 10, 6, 16), (27, 232, 8, 0, 0), (43, 4, 0, 15, 0), (1, 0, 0, 0, 0), (28, 50, 10, 6, 16), (28, 236, 8, 1, 1), (0, 3, 0, 0, 0), (32, 0, 0, 0, 0), (52, 5, 0, 4, 0)],
  [(6, 0, 0, (-1), 0), (53, 5, 0, 0, 0)],
  [(56, 0, 0, 0, 0)]]
/-- 84: BridgeRounds.weakensIn(I)I -/
def ev_m_84 : List (List ev_O) := [[(1, 0, 0, 0, 0), (28, 10, 10, 0, (-161)), (28, 97, 7, 1, 6), (0, 1, 0, 0, 0), (59, 6, 2, 108, 1), (47, 1, 0, 6, 0), (6, 1, 0, (-2), 0), (56, 0, 0, 0, 0)],
  [(1, 0, 0, 0, 0), (28, 36, 10, 4, 9), (1, 0, 0, 0, 0), (28, 10, 10, 0, (-161)), (28, 97, 7, 1, 6), (0, 1, 0, 0, 0), (59, 24, 3, 239, 2), (56, 0, 0, 0, 0)]]
/-- 85: BridgeRounds.way(III)I -/
def ev_m_85 : List (List ev_O) := [[(1, 0, 0, 0, 0), (28, 10, 10, 0, (-161)), (28, 65, 7, 0, 1), (0, 1, 0, 0, 0), (59, 44, 2, 79, 6), (46, 1, 0, 17, 0), (1, 0, 0, 0, 0), (28, 10, 10, 0, (-161)), (28, 65, 7, 0, 1), (0, 2, 0, 0, 0), (59, 44, 2, 79, 6), (47, 2, 0, 6, 0), (53, 1, 0, 0, 0)],
  [(6, 1, 0, (-2), 0), (56, 0, 0, 0, 0)],
  [(0, 3, 0, 0, 0), (6, 0, 0, 1, 0), (6, 1, 0, 60, 0), (60, 104, 3, 61, 0), (47, 3, 0, 6, 0), (6, 1, 0, (-3), 0), (56, 0, 0, 0, 0)],
  [(1, 0, 0, 0, 0), (28, 43, 10, 5, 12), (1, 0, 0, 0, 0), (28, 10, 10, 0, (-161)), (0, 1, 0, 0, 0), (0, 3, 0, 0, 0), (6, 0, 0, (-1), 0), (59, 62, 5, 242, 9), (1, 0, 0, 0, 0), (28, 43, 10, 5, 12), (0, 2, 0, 0, 0), (59, 61, 2, 246, 9), (46, 4, 0, 15, 0), (1, 0, 0, 0, 0), (28, 43, 10, 5, 12), (28, 249, 9, 0, 1), (0, 2, 0, 0, 0), (32, 0, 0, 0, 0), (52, 5, 0, 4, 0)],
  [(6, 0, 0, (-1), 0), (53, 5, 0, 0, 0)],
  [(56, 0, 0, 0, 0)]]
/-- 86: BridgeRounds.wayTown(IIII)I -/
def ev_m_86 : List (List ev_O) := [[(1, 0, 0, 0, 0), (28, 10, 10, 0, (-161)), (28, 65, 7, 0, 1), (0, 1, 0, 0, 0), (59, 44, 2, 79, 6), (46, 1, 0, 17, 0), (1, 0, 0, 0, 0), (28, 10, 10, 0, (-161)), (28, 65, 7, 0, 1), (0, 2, 0, 0, 0), (59, 44, 2, 79, 6), (47, 2, 0, 6, 0), (53, 1, 0, 0, 0)],
  [(6, 1, 0, (-2), 0), (56, 0, 0, 0, 0)],
  [(0, 3, 0, 0, 0), (6, 0, 0, 1, 0), (6, 1, 0, 60, 0), (60, 104, 3, 61, 0), (46, 3, 0, 8, 0), (0, 4, 1, 0, 0), (49, 4, 0, 6, 0), (53, 3, 0, 0, 0)],
  [(6, 1, 0, (-3), 0), (56, 0, 0, 0, 0)],
  [(1, 0, 0, 0, 0), (28, 43, 10, 5, 12), (1, 0, 0, 0, 0), (28, 10, 10, 0, (-161)), (0, 1, 0, 0, 0), (0, 3, 0, 0, 0), (6, 0, 0, (-1), 0), (59, 62, 5, 242, 9), (1, 0, 0, 0, 0), (28, 43, 10, 5, 12), (1, 0, 0, 0, 0), (28, 10, 10, 0, (-161)), (0, 1, 0, 0, 0), (0, 2, 0, 0, 0), (0, 3, 0, 0, 0), (59, 64, 5, 252, 9), (3, 5, 1, 0, 0), (0, 4, 1, 0, 0), (0, 5, 1, 0, 0), (43, 5, 0, 21, 0), (1, 0, 0, 0, 0), (28, 43, 10, 5, 12), (28, 256, 9, 2, 3), (0, 5, 1, 0, 0), (6, 0, 0, 1, 0), (11, 0, 0, 0, 0), (0, 4, 1, 0, 0), (11, 0, 0, 0, 0), (32, 0, 0, 0, 0), (52, 6, 0, 4, 0)],
  [(6, 0, 0, (-1), 0), (53, 6, 0, 0, 0)],
  [(56, 0, 0, 0, 0)]]
/-- 87: BridgeRounds.detour(II)I -/
def ev_m_87 : List (List ev_O) := [[(1, 0, 0, 0, 0), (28, 10, 10, 0, (-161)), (28, 97, 7, 1, 6), (0, 1, 0, 0, 0), (59, 6, 2, 108, 1), (47, 1, 0, 6, 0), (6, 1, 0, (-2), 0), (56, 0, 0, 0, 0)],
  [(0, 2, 0, 0, 0), (6, 0, 0, 1, 0), (6, 1, 0, 60, 0), (60, 104, 3, 61, 0), (47, 2, 0, 6, 0), (6, 1, 0, (-3), 0), (56, 0, 0, 0, 0)],
  [(1, 0, 0, 0, 0), (28, 10, 10, 0, (-161)), (28, 97, 7, 1, 6), (28, 181, 1, 1, 1), (0, 1, 0, 0, 0), (32, 0, 0, 0, 0), (3, 3, 0, 0, 0), (1, 0, 0, 0, 0), (28, 10, 10, 0, (-161)), (28, 65, 7, 0, 1), (28, 175, 6, 3, 2), (0, 3, 0, 0, 0), (32, 0, 0, 0, 0), (3, 4, 1, 0, 0), (1, 0, 0, 0, 0), (28, 43, 10, 5, 12), (1, 0, 0, 0, 0), (28, 10, 10, 0, (-161)), (1, 0, 0, 0, 0), (28, 10, 10, 0, (-161)), (28, 65, 7, 0, 1), (28, 172, 6, 2, 1), (0, 3, 0, 0, 0), (32, 0, 0, 0, 0), (0, 2, 0, 0, 0), (0, 3, 0, 0, 0), (59, 62, 5, 242, 9), (1, 0, 0, 0, 0), (28, 43, 10, 5, 12), (0, 4, 1, 0, 0), (59, 61, 2, 246, 9), (46, 3, 0, 33, 0), (6, 2, 0, 1000, 0), (1, 0, 0, 0, 0), (28, 43, 10, 5, 12), (28, 249, 9, 0, 1), (0, 4, 1, 0, 0), (32, 0, 0, 0, 0), (10, 0, 0, 0, 0), (1, 0, 0, 0, 0), (28, 10, 10, 0, (-161)), (28, 65, 7, 0, 1), (28, 178, 6, 4, 3), (0, 3, 0, 0, 0), (32, 0, 0, 0, 0), (11, 0, 0, 0, 0), (52, 4, 0, 4, 0)],
  [(6, 0, 0, (-1), 0), (53, 4, 0, 0, 0)],
  [(56, 0, 0, 0, 0)]]
/-- 88: BridgeRounds.heaviest(II)I -/
def ev_m_88 : List (List ev_O) := [[(1, 0, 0, 0, 0), (28, 10, 10, 0, (-161)), (28, 65, 7, 0, 1), (0, 1, 0, 0, 0), (59, 44, 2, 79, 6), (46, 1, 0, 17, 0), (1, 0, 0, 0, 0), (28, 10, 10, 0, (-161)), (28, 65, 7, 0, 1), (0, 2, 0, 0, 0), (59, 44, 2, 79, 6), (47, 2, 0, 6, 0), (53, 1, 0, 0, 0)],
  [(6, 1, 0, (-2), 0), (56, 0, 0, 0, 0)],
  [(0, 1, 0, 0, 0), (0, 2, 0, 0, 0), (41, 3, 0, 6, 0), (6, 1, 0, (-4), 0), (56, 0, 0, 0, 0)],
  [(1, 0, 0, 0, 0), (28, 43, 10, 5, 12), (1, 0, 0, 0, 0), (28, 10, 10, 0, (-161)), (0, 1, 0, 0, 0), (0, 2, 0, 0, 0), (59, 66, 4, 259, 9), (3, 3, 0, 0, 0), (0, 3, 0, 0, 0), (51, 4, 0, 7, 0), (0, 3, 0, 0, 0), (52, 5, 0, 4, 0)],
  [(6, 0, 0, (-1), 0), (53, 5, 0, 0, 0)],
  [(56, 0, 0, 0, 0)]]
/-- 89: BridgeRounds.addBidder(IIIII)I -/
def ev_m_89 : List (List ev_O) := [[(0, 1, 0, 0, 0), (6, 0, 0, 0, 0), (6, 2, 0, 999, 0), (60, 104, 3, 61, 0), (46, 1, 0, 33, 0), (0, 2, 0, 0, 0), (60, 105, 1, 263, 0), (46, 1, 0, 26, 0), (0, 3, 0, 0, 0), (60, 105, 1, 263, 0), (46, 1, 0, 19, 0), (0, 4, 1, 0, 0), (60, 105, 1, 263, 0), (46, 1, 0, 11, 0), (0, 5, 1, 0, 0), (60, 105, 1, 263, 0), (47, 2, 0, 6, 0), (53, 1, 0, 0, 0)],
  [(6, 1, 0, (-3), 0), (56, 0, 0, 0, 0)],
  [(1, 0, 0, 0, 0), (28, 10, 10, 0, (-161)), (28, 140, 7, 2, 17), (27, 149, 4, 1, 0), (6, 0, 0, 3, 0), (42, 3, 0, 6, 0), (6, 1, 0, (-5), 0), (56, 0, 0, 0, 0)],
  [(1, 0, 0, 0, 0), (28, 22, 10, 2, 1), (1, 0, 0, 0, 0), (28, 10, 10, 0, (-161)), (59, 26, 2, 75, 3), (1, 0, 0, 0, 0), (28, 10, 10, 0, (-161)), (28, 140, 7, 2, 17), (0, 1, 0, 0, 0), (0, 2, 0, 0, 0), (0, 3, 0, 0, 0), (0, 4, 1, 0, 0), (0, 5, 1, 0, 0), (59, 31, 6, 266, 4), (56, 0, 0, 0, 0)]]
/-- 90: BridgeRounds.addLine(III)I -/
def ev_m_90 : List (List ev_O) := [[(1, 0, 0, 0, 0), (28, 10, 10, 0, (-161)), (28, 97, 7, 1, 6), (0, 1, 0, 0, 0), (0, 2, 0, 0, 0), (59, 7, 3, 118, 1), (47, 1, 0, 6, 0), (6, 1, 0, (-2), 0), (56, 0, 0, 0, 0)],
  [(0, 3, 0, 0, 0), (6, 0, 0, 1, 0), (6, 1, 0, 9, 0), (60, 104, 3, 61, 0), (47, 2, 0, 6, 0), (6, 1, 0, (-3), 0), (56, 0, 0, 0, 0)],
  [(1, 0, 0, 0, 0), (28, 10, 10, 0, (-161)), (28, 140, 7, 2, 17), (27, 144, 4, 0, 0), (6, 1, 0, 8, 0), (42, 3, 0, 6, 0), (6, 1, 0, (-5), 0), (56, 0, 0, 0, 0)],
  [(1, 0, 0, 0, 0), (28, 22, 10, 2, 1), (1, 0, 0, 0, 0), (28, 10, 10, 0, (-161)), (59, 26, 2, 75, 3), (1, 0, 0, 0, 0), (28, 10, 10, 0, (-161)), (28, 140, 7, 2, 17), (0, 1, 0, 0, 0), (0, 2, 0, 0, 0), (0, 3, 0, 0, 0), (59, 32, 4, 270, 4), (56, 0, 0, 0, 0)]]
/-- 91: BridgeRounds.clearLines()I -/
def ev_m_91 : List (List ev_O) := [[(1, 0, 0, 0, 0), (28, 22, 10, 2, 1), (1, 0, 0, 0, 0), (28, 10, 10, 0, (-161)), (59, 26, 2, 75, 3), (1, 0, 0, 0, 0), (28, 10, 10, 0, (-161)), (28, 140, 7, 2, 17), (27, 144, 4, 0, 0), (3, 1, 0, 0, 0), (1, 0, 0, 0, 0), (28, 10, 10, 0, (-161)), (28, 140, 7, 2, 17), (6, 0, 0, 0, 0), (30, 144, 4, 0, 0), (0, 1, 0, 0, 0), (56, 0, 0, 0, 0)]]
/-- 92: BridgeRounds.line(II)I -/
def ev_m_92 : List (List ev_O) := [[(1, 0, 0, 0, 0), (28, 10, 10, 0, (-161)), (28, 140, 7, 2, 17), (0, 1, 0, 0, 0), (59, 29, 2, 273, 4), (47, 1, 0, 6, 0), (6, 1, 0, (-2), 0), (56, 0, 0, 0, 0)],
  [(0, 2, 0, 0, 0), (54, 5, 0, 0, 0)],
  [(1, 0, 0, 0, 0), (28, 10, 10, 0, (-161)), (28, 140, 7, 2, 17), (28, 276, 4, 2, 1), (0, 1, 0, 0, 0), (32, 0, 0, 0, 0), (56, 0, 0, 0, 0)],
  [(1, 0, 0, 0, 0), (28, 10, 10, 0, (-161)), (28, 140, 7, 2, 17), (28, 277, 4, 3, 2), (0, 1, 0, 0, 0), (32, 0, 0, 0, 0), (56, 0, 0, 0, 0)],
  [(1, 0, 0, 0, 0), (28, 10, 10, 0, (-161)), (28, 140, 7, 2, 17), (28, 280, 4, 4, 3), (0, 1, 0, 0, 0), (32, 0, 0, 0, 0), (56, 0, 0, 0, 0)],
  [(1, 0, 0, 0, 0), (28, 57, 10, 7, 18), (1, 0, 0, 0, 0), (28, 10, 10, 0, (-161)), (59, 0, 2, 283, 0), (1, 0, 0, 0, 0), (28, 57, 10, 7, 18), (28, 286, 0, 1, 1), (0, 1, 0, 0, 0), (32, 0, 0, 0, 0), (56, 0, 0, 0, 0)],
  [(6, 1, 0, (-3), 0), (56, 0, 0, 0, 0)]]
/-- 93: BridgeRounds.bidder(II)I -/
def ev_m_93 : List (List ev_O) := [[(1, 0, 0, 0, 0), (28, 10, 10, 0, (-161)), (28, 140, 7, 2, 17), (0, 1, 0, 0, 0), (59, 30, 2, 289, 4), (47, 1, 0, 6, 0), (6, 1, 0, (-2), 0), (56, 0, 0, 0, 0)],
  [(0, 2, 0, 0, 0), (6, 0, 0, 1, 0), (6, 0, 0, 4, 0), (60, 104, 3, 61, 0), (46, 2, 0, 22, 0), (1, 0, 0, 0, 0), (28, 10, 10, 0, (-161)), (28, 140, 7, 2, 17), (28, 292, 4, 6, 5), (0, 1, 0, 0, 0), (6, 0, 0, 4, 0), (12, 0, 0, 0, 0), (0, 2, 0, 0, 0), (10, 0, 0, 0, 0), (6, 0, 0, 1, 0), (11, 0, 0, 0, 0), (32, 0, 0, 0, 0), (56, 0, 0, 0, 0)],
  [(0, 2, 0, 0, 0), (55, 6, 0, 0, 0)],
  [(1, 0, 0, 0, 0), (28, 10, 10, 0, (-161)), (28, 140, 7, 2, 17), (28, 295, 4, 5, 4), (0, 1, 0, 0, 0), (32, 0, 0, 0, 0), (56, 0, 0, 0, 0)],
  [(1, 0, 0, 0, 0), (28, 57, 10, 7, 18), (1, 0, 0, 0, 0), (28, 10, 10, 0, (-161)), (59, 0, 2, 283, 0), (1, 0, 0, 0, 0), (28, 57, 10, 7, 18), (1, 0, 0, 0, 0), (28, 10, 10, 0, (-161)), (0, 1, 0, 0, 0), (59, 4, 3, 298, 0), (56, 0, 0, 0, 0)],
  [(1, 0, 0, 0, 0), (28, 10, 10, 0, (-161)), (0, 1, 0, 0, 0), (59, 54, 2, 302, 7), (56, 0, 0, 0, 0)],
  [(6, 1, 0, (-3), 0), (56, 0, 0, 0, 0)]]
/-- 94: BridgeRounds.award()I -/
def ev_m_94 : List (List ev_O) := [[(1, 0, 0, 0, 0), (28, 57, 10, 7, 18), (1, 0, 0, 0, 0), (28, 10, 10, 0, (-161)), (59, 0, 2, 283, 0), (1, 0, 0, 0, 0), (28, 57, 10, 7, 18), (27, 305, 0, 0, 0), (56, 0, 0, 0, 0)]]
/-- 95: BridgeRounds.ratingBehind(I)I -/
def ev_m_95 : List (List ev_O) := [[(1, 0, 0, 0, 0), (28, 10, 10, 0, (-161)), (28, 97, 7, 1, 6), (0, 1, 0, 0, 0), (59, 6, 2, 108, 1), (47, 1, 0, 6, 0), (6, 1, 0, (-2), 0), (56, 0, 0, 0, 0)],
  [(1, 0, 0, 0, 0), (28, 36, 10, 4, 9), (1, 0, 0, 0, 0), (28, 10, 10, 0, (-161)), (0, 1, 0, 0, 0), (59, 25, 3, 308, 2), (56, 0, 0, 0, 0)]]
/-- 96: BridgeRounds.repair()I -/
def ev_m_96 : List (List ev_O) := [[(1, 0, 0, 0, 0), (28, 57, 10, 7, 18), (1, 0, 0, 0, 0), (28, 10, 10, 0, (-161)), (59, 0, 2, 283, 0), (1, 0, 0, 0, 0), (28, 57, 10, 7, 18), (27, 305, 0, 0, 0), (6, 0, 0, (-1), 0), (41, 1, 0, 6, 0), (6, 1, 0, (-4), 0), (56, 0, 0, 0, 0)],
  [(1, 0, 0, 0, 0), (28, 22, 10, 2, 1), (1, 0, 0, 0, 0), (28, 10, 10, 0, (-161)), (59, 26, 2, 75, 3), (1, 0, 0, 0, 0), (28, 10, 10, 0, (-161)), (24, 0, 0, 0, 0), (27, 161, 7, 6, 0), (1, 0, 0, 0, 0), (28, 57, 10, 7, 18), (27, 305, 0, 0, 0), (10, 0, 0, 0, 0), (30, 161, 7, 6, 0), (1, 0, 0, 0, 0), (28, 10, 10, 0, (-161)), (59, 55, 1, 311, 7), (1, 0, 0, 0, 0), (28, 57, 10, 7, 18), (27, 305, 0, 0, 0), (56, 0, 0, 0, 0)]]
/-- 97: BridgeRounds.undo()I -/
def ev_m_97 : List (List ev_O) := [[(1, 0, 0, 0, 0), (28, 22, 10, 2, 1), (1, 0, 0, 0, 0), (28, 10, 10, 0, (-161)), (59, 28, 2, 314, 3), (47, 1, 0, 6, 0), (6, 1, 0, (-4), 0), (56, 0, 0, 0, 0)],
  [(1, 0, 0, 0, 0), (28, 22, 10, 2, 1), (27, 318, 3, 0, 0), (56, 0, 0, 0, 0)]]
/-- 98: BridgeRounds.undo()I -/
def ev_m_98 : List (List ev_O) := [[(1, 0, 0, 0, 0), (28, 22, 10, 2, 1), (1, 0, 0, 0, 0), (28, 10, 10, 0, (-161)), (59, 28, 2, 314, 3), (47, 1, 0, 6, 0), (6, 1, 0, (-4), 0), (56, 0, 0, 0, 0)],
  [(1, 0, 0, 0, 0), (28, 22, 10, 2, 1), (27, 318, 3, 0, 0), (56, 0, 0, 0, 0)]]
/-- 99: BridgeRounds.undo()I -/
def ev_m_99 : List (List ev_O) := [[(1, 0, 0, 0, 0), (28, 22, 10, 2, 1), (1, 0, 0, 0, 0), (28, 10, 10, 0, (-161)), (59, 28, 2, 314, 3), (47, 1, 0, 6, 0), (6, 1, 0, (-4), 0), (56, 0, 0, 0, 0)],
  [(1, 0, 0, 0, 0), (28, 22, 10, 2, 1), (27, 318, 3, 0, 0), (56, 0, 0, 0, 0)]]
/-- 100: BridgeRounds.undo()I -/
def ev_m_100 : List (List ev_O) := [[(1, 0, 0, 0, 0), (28, 22, 10, 2, 1), (1, 0, 0, 0, 0), (28, 10, 10, 0, (-161)), (59, 28, 2, 314, 3), (47, 1, 0, 6, 0), (6, 1, 0, (-4), 0), (56, 0, 0, 0, 0)],
  [(1, 0, 0, 0, 0), (28, 22, 10, 2, 1), (27, 318, 3, 0, 0), (56, 0, 0, 0, 0)]]
/-- 101: BridgeRounds.lay()I -/
def ev_m_101 : List (List ev_O) := [[(1, 0, 0, 0, 0), (28, 29, 10, 3, 3), (1, 0, 0, 0, 0), (28, 10, 10, 0, (-161)), (59, 34, 2, 324, 5), (6, 0, 0, (-1), 0), (40, 1, 0, 6, 0), (6, 1, 0, (-4), 0), (56, 0, 0, 0, 0)],
  [(1, 0, 0, 0, 0), (28, 22, 10, 2, 1), (1, 0, 0, 0, 0), (28, 10, 10, 0, (-161)), (59, 26, 2, 75, 3), (6, 0, 0, 0, 0), (3, 1, 0, 0, 0), (53, 2, 0, 0, 0)],
  [(0, 1, 0, 0, 0), (1, 0, 0, 0, 0), (28, 29, 10, 3, 3), (27, 328, 5, 5, 0), (43, 4, 0, 68, 0), (1, 0, 0, 0, 0), (28, 10, 10, 0, (-161)), (28, 65, 7, 0, 1), (1, 0, 0, 0, 0), (28, 29, 10, 3, 3), (28, 330, 5, 7, 2), (0, 1, 0, 0, 0), (32, 0, 0, 0, 0), (1, 0, 0, 0, 0), (28, 29, 10, 3, 3), (28, 331, 5, 8, 3), (0, 1, 0, 0, 0), (32, 0, 0, 0, 0), (1, 0, 0, 0, 0), (28, 29, 10, 3, 3), (28, 332, 5, 9, 4), (0, 1, 0, 0, 0), (32, 0, 0, 0, 0), (59, 46, 4, 86, 6), (3, 2, 0, 0, 0), (1, 0, 0, 0, 0), (28, 29, 10, 3, 3), (28, 333, 5, 10, 5), (0, 1, 0, 0, 0), (34, 0, 0, 0, 0), (46, 3, 0, 12, 0), (1, 0, 0, 0, 0), (28, 10, 10, 0, (-161)), (0, 2, 0, 0, 0), (59, 48, 2, 104, 7), (26, 0, 0, 0, 0), (53, 3, 0, 0, 0)],
  [(23, 1, 0, 1, 0), (52, 2, 0, (-73), 0)],
  [(1, 0, 0, 0, 0), (28, 10, 10, 0, (-161)), (28, 65, 7, 0, 1), (27, 83, 6, 1, 0), (56, 0, 0, 0, 0)]]
/-- 102: BridgeRounds.digest()J -/
def ev_m_102 : List (List ev_O) := [[(8, 336, 0, 17, 0), (5, 1, 0, 0, 0), (6, 0, 0, 0, 0), (3, 3, 0, 0, 0), (53, 1, 0, 0, 0)],
  [(0, 3, 0, 0, 0), (6, 1, 0, 10, 0), (44, 2, 0, 22, 0), (8, 338, 0, 31, 0), (2, 1, 0, 0, 0), (21, 0, 0, 0, 0), (1, 0, 0, 0, 0), (0, 3, 0, 0, 0), (59, 75, 2, 340, 10), (22, 0, 0, 0, 0), (20, 0, 0, 0, 0), (5, 1, 0, 0, 0), (23, 3, 0, 1, 0), (52, 1, 0, (-22), 0)],
  [(6, 0, 0, 0, 0), (3, 3, 0, 0, 0), (53, 3, 0, 0, 0)],
  [(0, 3, 0, 0, 0), (1, 0, 0, 0, 0), (28, 10, 10, 0, (-161)), (28, 65, 7, 0, 1), (27, 83, 6, 1, 0), (43, 6, 0, 39, 0), (6, 0, 0, 0, 0), (3, 4, 1, 0, 0), (53, 4, 0, 0, 0)],
  [(0, 4, 1, 0, 0), (6, 0, 0, 3, 0), (44, 5, 0, 24, 0), (8, 338, 0, 31, 0), (2, 1, 0, 0, 0), (21, 0, 0, 0, 0), (1, 0, 0, 0, 0), (0, 3, 0, 0, 0), (0, 4, 1, 0, 0), (59, 76, 3, 343, 10), (22, 0, 0, 0, 0), (20, 0, 0, 0, 0), (5, 1, 0, 0, 0), (23, 4, 0, 1, 0), (52, 4, 0, (-24), 0)],
  [(23, 3, 0, 1, 0), (52, 3, 0, (-47), 0)],
  [(6, 0, 0, 0, 0), (3, 3, 0, 0, 0), (53, 7, 0, 0, 0)],
  [(0, 3, 0, 0, 0), (1, 0, 0, 0, 0), (28, 10, 10, 0, (-161)), (28, 97, 7, 1, 6), (27, 101, 1, 0, 0), (43, 8, 0, 16, 0), (1, 0, 0, 0, 0), (2, 1, 0, 0, 0), (0, 3, 0, 0, 0), (59, 103, 3, 345, 10), (5, 1, 0, 0, 0), (23, 3, 0, 1, 0), (52, 7, 0, (-24), 0)],
  [(6, 0, 0, 0, 0), (3, 3, 0, 0, 0), (53, 9, 0, 0, 0)],
  [(0, 3, 0, 0, 0), (1, 0, 0, 0, 0), (28, 10, 10, 0, (-161)), (28, 140, 7, 2, 17), (27, 144, 4, 0, 0), (43, 12, 0, 39, 0), (6, 0, 0, 0, 0), (3, 4, 1, 0, 0), (53, 10, 0, 0, 0)],
  [(0, 4, 1, 0, 0), (6, 0, 0, 3, 0), (44, 11, 0, 24, 0), (8, 338, 0, 31, 0), (2, 1, 0, 0, 0), (21, 0, 0, 0, 0), (1, 0, 0, 0, 0), (0, 3, 0, 0, 0), (0, 4, 1, 0, 0), (59, 92, 3, 349, 10), (22, 0, 0, 0, 0), (20, 0, 0, 0, 0), (5, 1, 0, 0, 0), (23, 4, 0, 1, 0), (52, 10, 0, (-24), 0)],
  [(23, 3, 0, 1, 0), (52, 9, 0, (-47), 0)],
  [(6, 0, 0, 0, 0), (3, 3, 0, 0, 0), (53, 13, 0, 0, 0)],
  [(0, 3, 0, 0, 0), (1, 0, 0, 0, 0), (28, 10, 10, 0, (-161)), (28, 140, 7, 2, 17), (27, 149, 4, 1, 0), (43, 16, 0, 40, 0), (6, 0, 0, 0, 0), (3, 4, 1, 0, 0), (53, 14, 0, 0, 0)],
  [(0, 4, 1, 0, 0), (6, 1, 0, 6, 0), (44, 15, 0, 24, 0), (8, 338, 0, 31, 0), (2, 1, 0, 0, 0), (21, 0, 0, 0, 0), (1, 0, 0, 0, 0), (0, 3, 0, 0, 0), (0, 4, 1, 0, 0), (59, 93, 3, 352, 10), (22, 0, 0, 0, 0), (20, 0, 0, 0, 0), (5, 1, 0, 0, 0), (23, 4, 0, 1, 0), (52, 14, 0, (-25), 0)],
  [(23, 3, 0, 1, 0), (52, 13, 0, (-48), 0)],
  [(2, 1, 0, 0, 0), (57, 0, 0, 0, 0)]]
/-- 103: BridgeRounds.withBridge(JI)J -/
def ev_m_103 : List (List ev_O) := [[(2, 1, 0, 0, 0), (5, 4, 1, 0, 0), (6, 0, 0, 0, 0), (3, 6, 1, 0, 0), (53, 1, 0, 0, 0)],
  [(0, 6, 1, 0, 0), (6, 1, 0, 8, 0), (44, 2, 0, 26, 0), (8, 338, 0, 31, 0), (2, 4, 1, 0, 0), (21, 0, 0, 0, 0), (1, 0, 0, 0, 0), (0, 3, 0, 0, 0), (0, 6, 1, 0, 0), (59, 77, 3, 355, 10), (22, 0, 0, 0, 0), (20, 0, 0, 0, 0), (5, 4, 1, 0, 0), (23, 6, 0, 1, 0), (52, 1, 0, (-27), 0)],
  [(6, 0, 0, 0, 0), (3, 6, 1, 0, 0), (53, 3, 0, 0, 0)],
  [(0, 6, 1, 0, 0), (1, 0, 0, 0, 0), (28, 10, 10, 0, (-161)), (28, 97, 7, 1, 6), (28, 111, 1, 5, 5), (0, 3, 0, 0, 0), (32, 0, 0, 0, 0), (43, 6, 0, 43, 0), (6, 0, 0, 0, 0), (3, 7, 1, 0, 0), (53, 4, 0, 0, 0)],
  [(0, 7, 1, 0, 0), (6, 0, 0, 5, 0), (44, 5, 0, 28, 0), (8, 338, 0, 31, 0), (2, 4, 1, 0, 0), (21, 0, 0, 0, 0), (1, 0, 0, 0, 0), (0, 3, 0, 0, 0), (0, 6, 1, 0, 0), (0, 7, 1, 0, 0), (59, 78, 4, 357, 10), (22, 0, 0, 0, 0), (20, 0, 0, 0, 0), (5, 4, 1, 0, 0), (23, 7, 0, 1, 0), (52, 4, 0, (-28), 0)],
  [(23, 6, 0, 1, 0), (52, 3, 0, (-54), 0)],
  [(2, 4, 1, 0, 0), (57, 0, 0, 0, 0)]]
/-- 104: BridgeRounds.within(III)Z -/
def ev_m_104 : List (List ev_O) := [[(0, 1, 0, 0, 0), (0, 0, 0, 0, 0), (44, 1, 0, 12, 0), (0, 0, 0, 0, 0), (0, 2, 0, 0, 0), (44, 1, 0, 7, 0), (6, 0, 0, 1, 0), (52, 2, 0, 4, 0)],
  [(6, 0, 0, 0, 0), (53, 2, 0, 0, 0)],
  [(56, 1, 0, 0, 0)]]
/-- 105: BridgeRounds.isPrice(I)Z -/
def ev_m_105 : List (List ev_O) := [[(0, 0, 0, 0, 0), (6, 0, 0, 1, 0), (6, 1, 0, 99, 0), (60, 104, 3, 61, 0), (56, 1, 0, 0, 0)]]
/-- 106: BridgeRoundsLaw.low(II)I -/
def ev_m_106 : List (List ev_O) := [[(0, 0, 0, 0, 0), (7, 7, 0, 2147483647, 0), (15, 0, 0, 0, 0), (0, 1, 0, 0, 0), (14, 0, 0, 0, 0), (56, 0, 0, 0, 0)]]
/-- 107: BridgeRoundsLaw.areBridgesSound(LBridgeRounds;)Z -/
def ev_m_107 : List (List ev_O) := [[(6, 0, 0, 0, 0), (3, 1, 0, 0, 0), (6, 0, 0, 0, 0), (3, 2, 0, 0, 0), (6, 0, 0, 0, 0), (3, 3, 0, 0, 0), (53, 1, 0, 0, 0)],
  [(0, 3, 0, 0, 0), (1, 0, 0, 0, 0), (6, 0, 0, 2, 0), (59, 75, 2, 8, 10), (43, 37, 0, 448, 0), (1, 0, 0, 0, 0), (0, 3, 0, 0, 0), (6, 0, 0, 1, 0), (59, 77, 3, 14, 10), (3, 4, 1, 0, 0), (1, 0, 0, 0, 0), (0, 3, 0, 0, 0), (6, 0, 0, 3, 0), (59, 77, 3, 14, 10), (3, 5, 1, 0, 0), (1, 0, 0, 0, 0), (0, 3, 0, 0, 0), (6, 0, 0, 2, 0), (59, 77, 3, 14, 10), (3, 6, 1, 0, 0), (1, 0, 0, 0, 0), (0, 3, 0, 0, 0), (6, 0, 0, 4, 0), (59, 77, 3, 14, 10), (0, 5, 1, 0, 0), (6, 1, 0, 6, 0), (45, 2, 0, 7, 0), (6, 0, 0, 4, 0), (52, 4, 0, 14, 0)],
  [(0, 5, 1, 0, 0), (6, 0, 0, 4, 0), (45, 3, 0, 7, 0), (6, 0, 0, 2, 0), (52, 4, 0, 4, 0)],
  [(6, 0, 0, 1, 0), (53, 4, 0, 0, 0)],
  [(10, 0, 0, 0, 0), (3, 7, 1, 0, 0), (0, 5, 1, 0, 0), (47, 5, 0, 7, 0), (6, 0, 0, 0, 0), (52, 12, 0, 72, 0)],
  [(0, 5, 1, 0, 0), (6, 0, 0, 3, 0), (43, 6, 0, 7, 0), (6, 0, 0, 3, 0), (52, 12, 0, 62, 0)],
  [(0, 5, 1, 0, 0), (6, 0, 0, 3, 0), (41, 7, 0, 8, 0), (6, 1, 0, 7, 0), (52, 12, 0, 51, 0)],
  [(0, 5, 1, 0, 0), (6, 0, 0, 4, 0), (41, 8, 0, 8, 0), (6, 1, 0, 12, 0), (52, 12, 0, 40, 0)],
  [(0, 5, 1, 0, 0), (6, 0, 0, 5, 0), (41, 9, 0, 8, 0), (6, 1, 0, 20, 0), (52, 12, 0, 29, 0)],
  [(0, 5, 1, 0, 0), (6, 1, 0, 6, 0), (41, 10, 0, 8, 0), (6, 1, 0, 28, 0), (52, 12, 0, 17, 0)],
  [(0, 5, 1, 0, 0), (6, 1, 0, 7, 0), (41, 11, 0, 8, 0), (6, 1, 0, 40, 0), (52, 12, 0, 5, 0)],
  [(6, 1, 0, 60, 0), (53, 12, 0, 0, 0)],
  [(3, 8, 1, 0, 0), (1, 0, 0, 0, 0), (1, 0, 0, 0, 0), (0, 3, 0, 0, 0), (6, 0, 0, 0, 0), (59, 77, 3, 14, 10), (6, 0, 0, 3, 0), (59, 76, 3, 18, 10), (0, 3, 0, 0, 0), (41, 19, 0, 87, 0), (1, 0, 0, 0, 0), (0, 3, 0, 0, 0), (6, 0, 0, 5, 0), (59, 77, 3, 14, 10), (0, 7, 1, 0, 0), (41, 19, 0, 76, 0), (1, 0, 0, 0, 0), (0, 3, 0, 0, 0), (6, 1, 0, 6, 0), (59, 77, 3, 14, 10), (1, 0, 0, 0, 0), (6, 0, 0, 5, 0), (59, 75, 2, 8, 10), (0, 7, 1, 0, 0), (42, 13, 0, 7, 0), (6, 0, 0, 1, 0), (52, 14, 0, 4, 0)],
  [(6, 0, 0, 0, 0), (53, 14, 0, 0, 0)],
  [(41, 19, 0, 51, 0), (1, 0, 0, 0, 0), (0, 3, 0, 0, 0), (6, 1, 0, 8, 0), (59, 77, 3, 14, 10), (1, 0, 0, 0, 0), (0, 3, 0, 0, 0), (6, 1, 0, 7, 0), (59, 77, 3, 14, 10), (6, 0, 0, 1, 0), (41, 15, 0, 7, 0), (6, 0, 0, 0, 0), (52, 16, 0, 5, 0)],
  [(0, 8, 1, 0, 0), (53, 16, 0, 0, 0)],
  [(41, 19, 0, 24, 0), (0, 6, 1, 0, 0), (0, 4, 1, 0, 0), (47, 17, 0, 7, 0), (6, 0, 0, 0, 0), (52, 18, 0, 10, 0)],
  [(1, 0, 0, 0, 0), (0, 3, 0, 0, 0), (6, 0, 0, 0, 0), (6, 0, 0, 4, 0), (59, 78, 4, 21, 10), (53, 18, 0, 0, 0)],
  [(40, 20, 0, 5, 0), (53, 19, 0, 0, 0)],
  [(6, 0, 0, 0, 0), (56, 1, 0, 0, 0)],
  [(0, 1, 0, 0, 0), (1, 0, 0, 0, 0), (0, 3, 0, 0, 0), (6, 1, 0, 6, 0), (59, 77, 3, 14, 10), (10, 0, 0, 0, 0), (3, 1, 0, 0, 0), (0, 2, 0, 0, 0), (0, 6, 1, 0, 0), (0, 5, 1, 0, 0), (43, 21, 0, 7, 0), (6, 0, 0, 1, 0), (52, 22, 0, 4, 0)],
  [(6, 0, 0, 0, 0), (53, 22, 0, 0, 0)],
  [(10, 0, 0, 0, 0), (3, 2, 0, 0, 0), (6, 0, 0, 0, 0), (3, 9, 1, 0, 0), (53, 23, 0, 0, 0)],
  [(0, 9, 1, 0, 0), (0, 4, 1, 0, 0), (43, 36, 0, 171, 0), (1, 0, 0, 0, 0), (0, 3, 0, 0, 0), (0, 9, 1, 0, 0), (6, 0, 0, 5, 0), (59, 78, 4, 21, 10), (3, 10, 1, 0, 0), (0, 10, 1, 0, 0), (6, 1, 0, 64, 0), (42, 24, 0, 8, 0), (6, 1, 0, 9, 0), (52, 25, 0, 4, 0)],
  [(6, 0, 0, 0, 0), (53, 25, 0, 0, 0)],
  [(3, 11, 1, 0, 0), (6, 0, 0, 0, 0), (3, 12, 1, 0, 0), (53, 26, 0, 0, 0)],
  [(0, 12, 1, 0, 0), (0, 4, 1, 0, 0), (43, 31, 0, 57, 0), (0, 10, 1, 0, 0), (0, 12, 1, 0, 0), (19, 0, 0, 0, 0), (6, 0, 0, 1, 0), (15, 0, 0, 0, 0), (6, 0, 0, 1, 0), (41, 30, 0, 40, 0), (0, 12, 1, 0, 0), (0, 9, 1, 0, 0), (44, 27, 0, 5, 0), (6, 0, 0, 0, 0), (56, 1, 0, 0, 0)],
  [(1, 0, 0, 0, 0), (0, 3, 0, 0, 0), (0, 12, 1, 0, 0), (6, 0, 0, 4, 0), (59, 78, 4, 21, 10), (0, 11, 1, 0, 0), (45, 28, 0, 14, 0), (1, 0, 0, 0, 0), (0, 3, 0, 0, 0), (0, 12, 1, 0, 0), (6, 0, 0, 4, 0), (59, 78, 4, 21, 10), (52, 29, 0, 5, 0)],
  [(0, 11, 1, 0, 0), (53, 29, 0, 0, 0)],
  [(3, 11, 1, 0, 0), (53, 30, 0, 0, 0)],
  [(23, 12, 0, 1, 0), (52, 26, 0, (-58), 0)],
  [(1, 0, 0, 0, 0), (0, 3, 0, 0, 0), (0, 9, 1, 0, 0), (6, 0, 0, 1, 0), (59, 78, 4, 21, 10), (3, 12, 1, 0, 0), (1, 0, 0, 0, 0), (0, 3, 0, 0, 0), (0, 9, 1, 0, 0), (6, 0, 0, 4, 0), (59, 78, 4, 21, 10), (0, 12, 1, 0, 0), (0, 11, 1, 0, 0), (43, 32, 0, 8, 0), (0, 12, 1, 0, 0), (52, 33, 0, 5, 0)],
  [(0, 11, 1, 0, 0), (53, 33, 0, 0, 0)],
  [(41, 34, 0, 39, 0), (0, 12, 1, 0, 0), (48, 34, 0, 34, 0), (0, 12, 1, 0, 0), (6, 1, 0, 9, 0), (44, 34, 0, 27, 0), (1, 0, 0, 0, 0), (0, 3, 0, 0, 0), (0, 9, 1, 0, 0), (6, 0, 0, 2, 0), (59, 78, 4, 21, 10), (48, 34, 0, 16, 0), (1, 0, 0, 0, 0), (0, 3, 0, 0, 0), (0, 9, 1, 0, 0), (6, 0, 0, 2, 0), (59, 78, 4, 21, 10), (6, 1, 0, 99, 0), (45, 35, 0, 5, 0), (53, 34, 0, 0, 0)],
  [(6, 0, 0, 0, 0), (56, 1, 0, 0, 0)],
  [(23, 9, 0, 1, 0), (52, 23, 0, (-172), 0)],
  [(23, 3, 0, 1, 0), (52, 1, 0, (-451), 0)],
  [(1, 0, 0, 0, 0), (6, 1, 0, 9, 0), (59, 75, 2, 8, 10), (0, 1, 0, 0, 0), (41, 38, 0, 17, 0), (1, 0, 0, 0, 0), (6, 1, 0, 10, 0), (59, 75, 2, 8, 10), (0, 2, 0, 0, 0), (41, 38, 0, 7, 0), (6, 0, 0, 1, 0), (52, 39, 0, 4, 0)],
  [(6, 0, 0, 0, 0), (53, 39, 0, 0, 0)],
  [(56, 1, 0, 0, 0)]]
/-- 108: BridgeRoundsLaw.canUse(LBridgeRounds;II)Z -/
def ev_m_108 : List (List ev_O) := [[(1, 0, 0, 0, 0), (0, 1, 0, 0, 0), (6, 0, 0, 3, 0), (59, 76, 3, 18, 10), (3, 3, 0, 0, 0), (0, 3, 0, 0, 0), (48, 1, 0, 14, 0), (1, 0, 0, 0, 0), (0, 3, 0, 0, 0), (6, 1, 0, 8, 0), (59, 77, 3, 14, 10), (0, 2, 0, 0, 0), (42, 2, 0, 7, 0), (53, 1, 0, 0, 0)],
  [(6, 0, 0, 1, 0), (52, 3, 0, 4, 0)],
  [(6, 0, 0, 0, 0), (53, 3, 0, 0, 0)],
  [(56, 1, 0, 0, 0)]]
/-- 109: BridgeRoundsLaw.areWaysSound(LBridgeRounds;II)Z -/
def ev_m_109 : List (List ev_O) := [[(6, 0, 0, 0, 0), (3, 3, 0, 0, 0), (53, 1, 0, 0, 0)],
  [(0, 3, 0, 0, 0), (1, 0, 0, 0, 0), (6, 0, 0, 0, 0), (59, 75, 2, 8, 10), (43, 35, 0, 483, 0), (1, 0, 0, 0, 0), (0, 1, 0, 0, 0), (0, 3, 0, 0, 0), (0, 2, 0, 0, 0), (59, 85, 4, 25, 10), (3, 4, 1, 0, 0), (0, 4, 1, 0, 0), (1, 0, 0, 0, 0), (0, 3, 0, 0, 0), (0, 1, 0, 0, 0), (0, 2, 0, 0, 0), (59, 85, 4, 25, 10), (41, 6, 0, 26, 0), (0, 3, 0, 0, 0), (0, 1, 0, 0, 0), (41, 2, 0, 7, 0), (6, 0, 0, 1, 0), (52, 3, 0, 4, 0)],
  [(6, 0, 0, 0, 0), (53, 3, 0, 0, 0)],
  [(0, 4, 1, 0, 0), (47, 4, 0, 7, 0), (6, 0, 0, 1, 0), (52, 5, 0, 4, 0)],
  [(6, 0, 0, 0, 0), (53, 5, 0, 0, 0)],
  [(40, 7, 0, 5, 0), (53, 6, 0, 0, 0)],
  [(6, 0, 0, 0, 0), (56, 1, 0, 0, 0)],
  [(6, 0, 0, 0, 0), (3, 5, 1, 0, 0), (53, 8, 0, 0, 0)],
  [(0, 5, 1, 0, 0), (1, 0, 0, 0, 0), (6, 0, 0, 1, 0), (59, 75, 2, 8, 10), (43, 14, 0, 108, 0), (1, 0, 0, 0, 0), (0, 5, 1, 0, 0), (0, 2, 0, 0, 0), (60, 108, 3, 28, 0), (46, 13, 0, 92, 0), (1, 0, 0, 0, 0), (0, 5, 1, 0, 0), (6, 0, 0, 0, 0), (59, 76, 3, 18, 10), (0, 3, 0, 0, 0), (40, 9, 0, 14, 0), (1, 0, 0, 0, 0), (0, 5, 1, 0, 0), (6, 0, 0, 1, 0), (59, 76, 3, 18, 10), (0, 3, 0, 0, 0), (41, 13, 0, 70, 0), (53, 9, 0, 0, 0)],
  [(1, 0, 0, 0, 0), (0, 5, 1, 0, 0), (6, 0, 0, 0, 0), (59, 76, 3, 18, 10), (0, 3, 0, 0, 0), (41, 10, 0, 13, 0), (1, 0, 0, 0, 0), (0, 5, 1, 0, 0), (6, 0, 0, 1, 0), (59, 76, 3, 18, 10), (52, 11, 0, 10, 0)],
  [(1, 0, 0, 0, 0), (0, 5, 1, 0, 0), (6, 0, 0, 0, 0), (59, 76, 3, 18, 10), (53, 11, 0, 0, 0)],
  [(3, 6, 1, 0, 0), (1, 0, 0, 0, 0), (0, 1, 0, 0, 0), (0, 6, 1, 0, 0), (0, 2, 0, 0, 0), (59, 85, 4, 25, 10), (3, 7, 1, 0, 0), (0, 7, 1, 0, 0), (48, 13, 0, 25, 0), (0, 4, 1, 0, 0), (48, 12, 0, 18, 0), (0, 4, 1, 0, 0), (0, 7, 1, 0, 0), (1, 0, 0, 0, 0), (0, 5, 1, 0, 0), (6, 0, 0, 2, 0), (59, 76, 3, 18, 10), (10, 0, 0, 0, 0), (45, 13, 0, 5, 0), (53, 12, 0, 0, 0)],
  [(6, 0, 0, 0, 0), (56, 1, 0, 0, 0)],
  [(23, 5, 0, 1, 0), (52, 8, 0, (-112), 0)],
  [(6, 0, 0, 0, 0), (3, 5, 1, 0, 0), (6, 0, 0, 0, 0), (3, 6, 1, 0, 0), (53, 15, 0, 0, 0)],
  [(1, 0, 0, 0, 0), (0, 1, 0, 0, 0), (0, 3, 0, 0, 0), (0, 2, 0, 0, 0), (0, 5, 1, 0, 0), (59, 86, 5, 34, 10), (48, 31, 0, 248, 0), (1, 0, 0, 0, 0), (0, 1, 0, 0, 0), (0, 3, 0, 0, 0), (0, 2, 0, 0, 0), (0, 5, 1, 0, 0), (59, 86, 5, 34, 10), (3, 7, 1, 0, 0), (0, 5, 1, 0, 0), (47, 16, 0, 12, 0), (0, 7, 1, 0, 0), (0, 1, 0, 0, 0), (40, 18, 0, 21, 0), (52, 17, 0, 16, 0)],
  [(1, 0, 0, 0, 0), (0, 1, 0, 0, 0), (0, 7, 1, 0, 0), (0, 2, 0, 0, 0), (59, 85, 4, 25, 10), (0, 6, 1, 0, 0), (44, 18, 0, 5, 0), (53, 17, 0, 0, 0)],
  [(6, 0, 0, 0, 0), (56, 1, 0, 0, 0)],
  [(0, 6, 1, 0, 0), (3, 8, 1, 0, 0), (1, 0, 0, 0, 0), (0, 1, 0, 0, 0), (0, 7, 1, 0, 0), (0, 2, 0, 0, 0), (59, 85, 4, 25, 10), (3, 6, 1, 0, 0), (0, 5, 1, 0, 0), (51, 30, 0, 183, 0), (6, 0, 0, (-1), 0), (3, 9, 1, 0, 0), (6, 0, 0, 0, 0), (3, 10, 1, 0, 0), (53, 19, 0, 0, 0)],
  [(0, 10, 1, 0, 0), (1, 0, 0, 0, 0), (6, 0, 0, 1, 0), (59, 75, 2, 8, 10), (43, 28, 0, 136, 0), (1, 0, 0, 0, 0), (0, 10, 1, 0, 0), (6, 0, 0, 0, 0), (59, 76, 3, 18, 10), (0, 7, 1, 0, 0), (41, 20, 0, 13, 0), (1, 0, 0, 0, 0), (0, 10, 1, 0, 0), (6, 0, 0, 1, 0), (59, 76, 3, 18, 10), (52, 22, 0, 26, 0)],
  [(1, 0, 0, 0, 0), (0, 10, 1, 0, 0), (6, 0, 0, 1, 0), (59, 76, 3, 18, 10), (0, 7, 1, 0, 0), (41, 21, 0, 13, 0), (1, 0, 0, 0, 0), (0, 10, 1, 0, 0), (6, 0, 0, 0, 0), (59, 76, 3, 18, 10), (52, 22, 0, 4, 0)],
  [(6, 0, 0, (-1), 0), (53, 22, 0, 0, 0)],
  [(3, 11, 1, 0, 0), (0, 11, 1, 0, 0), (48, 23, 0, 49, 0), (1, 0, 0, 0, 0), (0, 10, 1, 0, 0), (0, 2, 0, 0, 0), (60, 108, 3, 28, 0), (46, 23, 0, 39, 0), (1, 0, 0, 0, 0), (0, 1, 0, 0, 0), (0, 11, 1, 0, 0), (0, 2, 0, 0, 0), (59, 85, 4, 25, 10), (48, 23, 0, 28, 0), (1, 0, 0, 0, 0), (0, 1, 0, 0, 0), (0, 11, 1, 0, 0), (0, 2, 0, 0, 0), (59, 85, 4, 25, 10), (1, 0, 0, 0, 0), (0, 10, 1, 0, 0), (6, 0, 0, 2, 0), (59, 76, 3, 18, 10), (10, 0, 0, 0, 0), (0, 6, 1, 0, 0), (41, 23, 0, 7, 0), (6, 0, 0, 1, 0), (52, 24, 0, 4, 0)],
  [(6, 0, 0, 0, 0), (53, 24, 0, 0, 0)],
  [(3, 12, 1, 0, 0), (0, 12, 1, 0, 0), (46, 26, 0, 20, 0), (0, 9, 1, 0, 0), (48, 25, 0, 10, 0), (0, 11, 1, 0, 0), (0, 9, 1, 0, 0), (43, 26, 0, 8, 0), (53, 25, 0, 0, 0)],
  [(0, 11, 1, 0, 0), (52, 27, 0, 5, 0)],
  [(0, 9, 1, 0, 0), (53, 27, 0, 0, 0)],
  [(3, 9, 1, 0, 0), (23, 10, 0, 1, 0), (52, 19, 0, (-140), 0)],
  [(0, 9, 1, 0, 0), (1, 0, 0, 0, 0), (0, 1, 0, 0, 0), (0, 3, 0, 0, 0), (0, 2, 0, 0, 0), (0, 5, 1, 0, 0), (6, 0, 0, 1, 0), (11, 0, 0, 0, 0), (59, 86, 5, 34, 10), (41, 29, 0, 16, 0), (1, 0, 0, 0, 0), (0, 1, 0, 0, 0), (0, 9, 1, 0, 0), (0, 2, 0, 0, 0), (59, 85, 4, 25, 10), (0, 8, 1, 0, 0), (40, 30, 0, 5, 0), (53, 29, 0, 0, 0)],
  [(6, 0, 0, 0, 0), (56, 1, 0, 0, 0)],
  [(23, 5, 0, 1, 0), (52, 15, 0, (-254), 0)],
  [(0, 4, 1, 0, 0), (49, 32, 0, 11, 0), (0, 5, 1, 0, 0), (46, 34, 0, 40, 0), (52, 33, 0, 35, 0)],
  [(0, 6, 1, 0, 0), (0, 4, 1, 0, 0), (41, 33, 0, 28, 0), (1, 0, 0, 0, 0), (0, 1, 0, 0, 0), (0, 3, 0, 0, 0), (0, 2, 0, 0, 0), (0, 5, 1, 0, 0), (6, 0, 0, 1, 0), (11, 0, 0, 0, 0), (59, 86, 5, 34, 10), (0, 3, 0, 0, 0), (41, 33, 0, 13, 0), (0, 5, 1, 0, 0), (1, 0, 0, 0, 0), (6, 0, 0, 0, 0), (59, 75, 2, 8, 10), (45, 34, 0, 5, 0), (53, 33, 0, 0, 0)],
  [(6, 0, 0, 0, 0), (56, 1, 0, 0, 0)],
  [(23, 3, 0, 1, 0), (52, 1, 0, (-486), 0)],
  [(6, 0, 0, 1, 0), (56, 1, 0, 0, 0)]]
/-- 110: BridgeRoundsLaw.isAwardSound(LBridgeRounds;)Z -/
def ev_m_110 : List (List ev_O) := [[(1, 0, 0, 0, 0), (6, 0, 0, 3, 0), (59, 75, 2, 8, 10), (3, 1, 0, 0, 0), (1, 0, 0, 0, 0), (6, 0, 0, 4, 0), (59, 75, 2, 8, 10), (3, 2, 0, 0, 0), (1, 0, 0, 0, 0), (59, 94, 1, 38, 10), (3, 3, 0, 0, 0), (0, 1, 0, 0, 0), (46, 1, 0, 7, 0), (0, 2, 0, 0, 0), (47, 7, 0, 36, 0), (53, 1, 0, 0, 0)],
  [(0, 3, 0, 0, 0), (0, 1, 0, 0, 0), (47, 2, 0, 7, 0), (6, 0, 0, 0, 0), (52, 3, 0, 4, 0)],
  [(6, 0, 0, (-1), 0), (53, 3, 0, 0, 0)],
  [(41, 5, 0, 21, 0), (0, 1, 0, 0, 0), (46, 4, 0, 13, 0), (1, 0, 0, 0, 0), (6, 0, 0, 0, 0), (6, 0, 0, 3, 0), (59, 92, 3, 42, 10), (6, 0, 0, (-1), 0), (41, 5, 0, 7, 0), (53, 4, 0, 0, 0)],
  [(6, 0, 0, 1, 0), (52, 6, 0, 4, 0)],
  [(6, 0, 0, 0, 0), (53, 6, 0, 0, 0)],
  [(56, 1, 0, 0, 0)],
  [(6, 0, 0, 0, 0), (3, 4, 1, 0, 0), (6, 0, 0, 0, 0), (3, 5, 1, 0, 0), (53, 8, 0, 0, 0)],
  [(0, 5, 1, 0, 0), (0, 2, 0, 0, 0), (43, 22, 0, 209, 0), (6, 0, 0, 0, 0), (3, 6, 1, 0, 0), (6, 0, 0, 0, 0), (3, 7, 1, 0, 0), (6, 0, 0, 0, 0), (3, 8, 1, 0, 0), (6, 0, 0, 0, 0), (3, 9, 1, 0, 0), (53, 9, 0, 0, 0)],
  [(0, 9, 1, 0, 0), (0, 1, 0, 0, 0), (43, 17, 0, 109, 0), (1, 0, 0, 0, 0), (1, 0, 0, 0, 0), (0, 9, 1, 0, 0), (6, 0, 0, 0, 0), (59, 92, 3, 42, 10), (1, 0, 0, 0, 0), (0, 9, 1, 0, 0), (6, 0, 0, 1, 0), (59, 92, 3, 42, 10), (6, 0, 0, 0, 0), (59, 78, 4, 21, 10), (3, 10, 1, 0, 0), (1, 0, 0, 0, 0), (0, 9, 1, 0, 0), (6, 0, 0, 2, 0), (59, 92, 3, 42, 10), (1, 0, 0, 0, 0), (0, 5, 1, 0, 0), (6, 0, 0, 1, 0), (0, 10, 1, 0, 0), (10, 0, 0, 0, 0), (59, 93, 3, 45, 10), (12, 0, 0, 0, 0), (3, 11, 1, 0, 0), (1, 0, 0, 0, 0), (0, 9, 1, 0, 0), (6, 0, 0, 3, 0), (59, 92, 3, 42, 10), (0, 5, 1, 0, 0), (41, 10, 0, 7, 0), (6, 0, 0, 1, 0), (52, 11, 0, 4, 0)],
  [(6, 0, 0, 0, 0), (53, 11, 0, 0, 0)],
  [(3, 12, 1, 0, 0), (0, 8, 1, 0, 0), (47, 12, 0, 8, 0), (0, 12, 1, 0, 0), (46, 13, 0, 7, 0), (53, 12, 0, 0, 0)],
  [(6, 0, 0, 1, 0), (52, 14, 0, 4, 0)],
  [(6, 0, 0, 0, 0), (53, 14, 0, 0, 0)],
  [(3, 8, 1, 0, 0), (0, 6, 1, 0, 0), (0, 12, 1, 0, 0), (46, 15, 0, 8, 0), (0, 11, 1, 0, 0), (52, 16, 0, 4, 0)],
  [(6, 0, 0, 0, 0), (53, 16, 0, 0, 0)],
  [(10, 0, 0, 0, 0), (3, 6, 1, 0, 0), (0, 7, 1, 0, 0), (0, 11, 1, 0, 0), (10, 0, 0, 0, 0), (3, 7, 1, 0, 0), (23, 9, 0, 1, 0), (52, 9, 0, (-109), 0)],
  [(1, 0, 0, 0, 0), (0, 5, 1, 0, 0), (6, 0, 0, 5, 0), (59, 93, 3, 45, 10), (0, 8, 1, 0, 0), (46, 18, 0, 16, 0), (0, 6, 1, 0, 0), (1, 0, 0, 0, 0), (0, 5, 1, 0, 0), (6, 0, 0, 0, 0), (59, 93, 3, 45, 10), (10, 0, 0, 0, 0), (52, 19, 0, 4, 0)],
  [(6, 0, 0, 0, 0), (53, 19, 0, 0, 0)],
  [(41, 20, 0, 36, 0), (1, 0, 0, 0, 0), (0, 5, 1, 0, 0), (6, 1, 0, 6, 0), (59, 93, 3, 45, 10), (0, 7, 1, 0, 0), (1, 0, 0, 0, 0), (0, 5, 1, 0, 0), (6, 0, 0, 0, 0), (59, 93, 3, 45, 10), (10, 0, 0, 0, 0), (41, 20, 0, 15, 0), (0, 3, 0, 0, 0), (1, 0, 0, 0, 0), (0, 5, 1, 0, 0), (6, 1, 0, 6, 0), (59, 93, 3, 45, 10), (45, 21, 0, 5, 0), (53, 20, 0, 0, 0)],
  [(6, 0, 0, 0, 0), (56, 1, 0, 0, 0)],
  [(0, 4, 1, 0, 0), (1, 0, 0, 0, 0), (0, 5, 1, 0, 0), (6, 0, 0, 5, 0), (59, 93, 3, 45, 10), (10, 0, 0, 0, 0), (3, 4, 1, 0, 0), (23, 5, 0, 1, 0), (52, 8, 0, (-209), 0)],
  [(0, 4, 1, 0, 0), (0, 3, 0, 0, 0), (41, 23, 0, 7, 0), (6, 0, 0, 1, 0), (52, 24, 0, 4, 0)],
  [(6, 0, 0, 0, 0), (53, 24, 0, 0, 0)],
  [(56, 1, 0, 0, 0)]]
/-- 111: BridgeRoundsLaw.isRoundSound(LBridgeRounds;II)Z -/
def ev_m_111 : List (List ev_O) := [[(1, 0, 0, 0, 0), (59, 102, 1, 48, 10), (5, 3, 0, 0, 0), (1, 0, 0, 0, 0), (6, 1, 0, 9, 0), (59, 75, 2, 8, 10), (3, 5, 1, 0, 0), (1, 0, 0, 0, 0), (6, 1, 0, 6, 0), (59, 75, 2, 8, 10), (3, 6, 1, 0, 0), (1, 0, 0, 0, 0), (6, 1, 0, 7, 0), (59, 75, 2, 8, 10), (3, 7, 1, 0, 0), (1, 0, 0, 0, 0), (0, 1, 0, 0, 0), (0, 2, 0, 0, 0), (6, 0, 0, 0, 0), (59, 83, 4, 52, 10), (3, 8, 1, 0, 0), (6, 0, 0, 0, 0), (3, 9, 1, 0, 0), (6, 0, 0, 0, 0), (3, 10, 1, 0, 0), (53, 1, 0, 0, 0)],
  [(1, 0, 0, 0, 0), (0, 1, 0, 0, 0), (0, 2, 0, 0, 0), (0, 9, 1, 0, 0), (59, 83, 4, 52, 10), (48, 6, 0, 78, 0), (1, 0, 0, 0, 0), (0, 1, 0, 0, 0), (0, 2, 0, 0, 0), (0, 9, 1, 0, 0), (59, 83, 4, 52, 10), (3, 11, 1, 0, 0), (6, 0, 0, 0, 0), (3, 12, 1, 0, 0), (53, 2, 0, 0, 0)],
  [(0, 12, 1, 0, 0), (0, 9, 1, 0, 0), (43, 4, 0, 24, 0), (1, 0, 0, 0, 0), (0, 1, 0, 0, 0), (0, 2, 0, 0, 0), (0, 12, 1, 0, 0), (59, 83, 4, 52, 10), (0, 11, 1, 0, 0), (41, 3, 0, 5, 0), (6, 0, 0, 0, 0), (56, 1, 0, 0, 0)],
  [(23, 12, 0, 1, 0), (52, 2, 0, (-25), 0)],
  [(0, 10, 1, 0, 0), (6, 0, 0, 5, 0), (1, 0, 0, 0, 0), (0, 11, 1, 0, 0), (6, 0, 0, 1, 0), (59, 77, 3, 14, 10), (10, 0, 0, 0, 0), (10, 0, 0, 0, 0), (3, 10, 1, 0, 0), (1, 0, 0, 0, 0), (0, 11, 1, 0, 0), (6, 1, 0, 6, 0), (59, 77, 3, 14, 10), (6, 0, 0, 1, 0), (40, 5, 0, 5, 0), (6, 0, 0, 0, 0), (56, 1, 0, 0, 0)],
  [(23, 9, 0, 1, 0), (52, 1, 0, (-83), 0)],
  [(0, 8, 1, 0, 0), (48, 17, 0, 229, 0), (1, 0, 0, 0, 0), (0, 1, 0, 0, 0), (1, 0, 0, 0, 0), (1, 0, 0, 0, 0), (0, 8, 1, 0, 0), (6, 0, 0, 0, 0), (59, 77, 3, 14, 10), (6, 0, 0, 0, 0), (59, 76, 3, 18, 10), (6, 1, 0, 12, 0), (59, 85, 4, 25, 10), (3, 11, 1, 0, 0), (1, 0, 0, 0, 0), (0, 1, 0, 0, 0), (1, 0, 0, 0, 0), (1, 0, 0, 0, 0), (0, 8, 1, 0, 0), (6, 0, 0, 0, 0), (59, 77, 3, 14, 10), (6, 0, 0, 1, 0), (59, 76, 3, 18, 10), (6, 1, 0, 12, 0), (59, 85, 4, 25, 10), (3, 12, 1, 0, 0), (0, 11, 1, 0, 0), (49, 7, 0, 8, 0), (0, 12, 1, 0, 0), (52, 10, 0, 27, 0)],
  [(0, 12, 1, 0, 0), (49, 8, 0, 8, 0), (0, 11, 1, 0, 0), (52, 10, 0, 17, 0)],
  [(0, 11, 1, 0, 0), (0, 12, 1, 0, 0), (43, 9, 0, 8, 0), (0, 11, 1, 0, 0), (52, 10, 0, 5, 0)],
  [(0, 12, 1, 0, 0), (53, 10, 0, 0, 0)],
  [(3, 13, 1, 0, 0), (0, 13, 1, 0, 0), (48, 11, 0, 17, 0), (0, 13, 1, 0, 0), (6, 1, 0, 9, 0), (10, 0, 0, 0, 0), (6, 1, 0, 10, 0), (13, 0, 0, 0, 0), (6, 0, 0, 4, 0), (10, 0, 0, 0, 0), (0, 2, 0, 0, 0), (45, 12, 0, 5, 0), (53, 11, 0, 0, 0)],
  [(6, 0, 0, 0, 0), (56, 1, 0, 0, 0)],
  [(6, 0, 0, 0, 0), (3, 14, 1, 0, 0), (53, 13, 0, 0, 0)],
  [(0, 14, 1, 0, 0), (1, 0, 0, 0, 0), (6, 0, 0, 2, 0), (59, 75, 2, 8, 10), (43, 17, 0, 117, 0), (1, 0, 0, 0, 0), (0, 1, 0, 0, 0), (1, 0, 0, 0, 0), (1, 0, 0, 0, 0), (0, 14, 1, 0, 0), (6, 0, 0, 0, 0), (59, 77, 3, 14, 10), (6, 0, 0, 0, 0), (59, 76, 3, 18, 10), (6, 1, 0, 12, 0), (59, 85, 4, 25, 10), (3, 15, 1, 0, 0), (1, 0, 0, 0, 0), (0, 1, 0, 0, 0), (1, 0, 0, 0, 0), (1, 0, 0, 0, 0), (0, 14, 1, 0, 0), (6, 0, 0, 0, 0), (59, 77, 3, 14, 10), (6, 0, 0, 1, 0), (59, 76, 3, 18, 10), (6, 1, 0, 12, 0), (59, 85, 4, 25, 10), (3, 16, 1, 0, 0), (1, 0, 0, 0, 0), (0, 14, 1, 0, 0), (6, 1, 0, 6, 0), (59, 77, 3, 14, 10), (6, 0, 0, 1, 0), (41, 16, 0, 57, 0), (0, 15, 1, 0, 0), (48, 14, 0, 24, 0), (0, 15, 1, 0, 0), (0, 13, 1, 0, 0), (42, 15, 0, 43, 0), (0, 15, 1, 0, 0), (0, 13, 1, 0, 0), (41, 14, 0, 10, 0), (0, 14, 1, 0, 0), (0, 8, 1, 0, 0), (42, 15, 0, 29, 0), (53, 14, 0, 0, 0)],
  [(0, 16, 1, 0, 0), (48, 16, 0, 26, 0), (0, 16, 1, 0, 0), (0, 13, 1, 0, 0), (42, 15, 0, 17, 0), (0, 16, 1, 0, 0), (0, 13, 1, 0, 0), (41, 16, 0, 12, 0), (0, 14, 1, 0, 0), (0, 8, 1, 0, 0), (43, 16, 0, 5, 0), (53, 15, 0, 0, 0)],
  [(6, 0, 0, 0, 0), (56, 1, 0, 0, 0)],
  [(23, 14, 0, 1, 0), (52, 13, 0, (-121), 0)],
  [(1, 0, 0, 0, 0), (59, 102, 1, 48, 10), (2, 3, 0, 0, 0), (9, 0, 0, 0, 0), (47, 18, 0, 63, 0), (1, 0, 0, 0, 0), (0, 1, 0, 0, 0), (0, 2, 0, 0, 0), (59, 82, 3, 55, 10), (0, 9, 1, 0, 0), (41, 18, 0, 52, 0), (1, 0, 0, 0, 0), (6, 1, 0, 6, 0), (59, 75, 2, 8, 10), (0, 6, 1, 0, 0), (0, 9, 1, 0, 0), (10, 0, 0, 0, 0), (41, 18, 0, 38, 0), (1, 0, 0, 0, 0), (6, 1, 0, 7, 0), (59, 75, 2, 8, 10), (0, 7, 1, 0, 0), (0, 10, 1, 0, 0), (10, 0, 0, 0, 0), (41, 18, 0, 24, 0), (1, 0, 0, 0, 0), (6, 1, 0, 9, 0), (59, 75, 2, 8, 10), (0, 5, 1, 0, 0), (0, 9, 1, 0, 0), (11, 0, 0, 0, 0), (41, 18, 0, 10, 0), (1, 0, 0, 0, 0), (60, 107, 1, 58, 0), (47, 19, 0, 5, 0), (53, 18, 0, 0, 0)],
  [(6, 0, 0, 0, 0), (56, 1, 0, 0, 0)],
  [(1, 0, 0, 0, 0), (59, 97, 1, 62, 10), (48, 20, 0, 16, 0), (1, 0, 0, 0, 0), (59, 102, 1, 48, 10), (2, 3, 0, 0, 0), (9, 0, 0, 0, 0), (47, 20, 0, 7, 0), (6, 0, 0, 1, 0), (52, 21, 0, 4, 0)],
  [(6, 0, 0, 0, 0), (53, 21, 0, 0, 0)],
  [(56, 1, 0, 0, 0)]]
/-- 112: BridgeRoundsLaw.changes(LBridgeRounds;I)I -/
def ev_m_112 : List (List ev_O) := [[(0, 1, 0, 0, 0), (6, 0, 0, 4, 0), (19, 0, 0, 0, 0), (1, 0, 0, 0, 0), (6, 0, 0, 2, 0), (59, 75, 2, 8, 10), (6, 0, 0, 1, 0), (10, 0, 0, 0, 0), (60, 106, 2, 65, 0), (3, 2, 0, 0, 0), (0, 1, 0, 0, 0), (6, 1, 0, 7, 0), (19, 0, 0, 0, 0), (6, 1, 0, 6, 0), (60, 106, 2, 65, 0), (3, 3, 0, 0, 0), (0, 1, 0, 0, 0), (6, 1, 0, 18, 0), (60, 106, 2, 65, 0), (54, 7, 0, 0, 0)],
  [(1, 0, 0, 0, 0), (6, 0, 0, 1, 0), (0, 1, 0, 0, 0), (6, 0, 0, 4, 0), (19, 0, 0, 0, 0), (6, 0, 0, 1, 0), (15, 0, 0, 0, 0), (10, 0, 0, 0, 0), (59, 68, 2, 68, 10), (56, 0, 0, 0, 0)],
  [(1, 0, 0, 0, 0), (0, 1, 0, 0, 0), (6, 0, 0, 4, 0), (19, 0, 0, 0, 0), (6, 1, 0, 9, 0), (60, 106, 2, 65, 0), (0, 1, 0, 0, 0), (6, 1, 0, 8, 0), (19, 0, 0, 0, 0), (6, 1, 0, 9, 0), (60, 106, 2, 65, 0), (6, 0, 0, 1, 0), (0, 1, 0, 0, 0), (6, 1, 0, 12, 0), (19, 0, 0, 0, 0), (6, 1, 0, 99, 0), (60, 106, 2, 65, 0), (10, 0, 0, 0, 0), (59, 69, 4, 71, 10), (56, 0, 0, 0, 0)],
  [(1, 0, 0, 0, 0), (0, 1, 0, 0, 0), (6, 0, 0, 4, 0), (19, 0, 0, 0, 0), (1, 0, 0, 0, 0), (6, 0, 0, 1, 0), (59, 75, 2, 8, 10), (6, 0, 0, 1, 0), (10, 0, 0, 0, 0), (60, 106, 2, 65, 0), (59, 70, 2, 74, 10), (56, 0, 0, 0, 0)],
  [(1, 0, 0, 0, 0), (0, 2, 0, 0, 0), (0, 1, 0, 0, 0), (6, 1, 0, 7, 0), (19, 0, 0, 0, 0), (6, 0, 0, 4, 0), (60, 106, 2, 65, 0), (0, 1, 0, 0, 0), (6, 1, 0, 9, 0), (19, 0, 0, 0, 0), (6, 1, 0, 10, 0), (60, 106, 2, 65, 0), (0, 1, 0, 0, 0), (6, 1, 0, 13, 0), (19, 0, 0, 0, 0), (6, 1, 0, 61, 0), (60, 106, 2, 65, 0), (59, 71, 5, 77, 10), (56, 0, 0, 0, 0)],
  [(1, 0, 0, 0, 0), (0, 2, 0, 0, 0), (0, 3, 0, 0, 0), (0, 1, 0, 0, 0), (6, 1, 0, 10, 0), (19, 0, 0, 0, 0), (6, 0, 0, 3, 0), (15, 0, 0, 0, 0), (47, 6, 0, 7, 0), (6, 0, 0, (-1), 0), (52, 7, 0, 6, 0)],
  [(0, 3, 0, 0, 0), (6, 0, 0, 1, 0), (10, 0, 0, 0, 0), (53, 7, 0, 0, 0)],
  [(59, 72, 4, 80, 10), (56, 0, 0, 0, 0)],
  [(1, 0, 0, 0, 0), (0, 2, 0, 0, 0), (0, 3, 0, 0, 0), (0, 1, 0, 0, 0), (6, 1, 0, 10, 0), (19, 0, 0, 0, 0), (6, 1, 0, 10, 0), (60, 106, 2, 65, 0), (59, 73, 4, 83, 10), (56, 0, 0, 0, 0)],
  [(1, 0, 0, 0, 0), (0, 2, 0, 0, 0), (0, 1, 0, 0, 0), (6, 1, 0, 7, 0), (19, 0, 0, 0, 0), (6, 0, 0, 1, 0), (15, 0, 0, 0, 0), (47, 10, 0, 7, 0), (6, 0, 0, 1, 0), (52, 11, 0, 4, 0)],
  [(6, 0, 0, 0, 0), (53, 11, 0, 0, 0)],
  [(59, 74, 3, 86, 10), (56, 0, 0, 0, 0)],
  [(1, 0, 0, 0, 0), (6, 0, 0, 1, 0), (0, 1, 0, 0, 0), (6, 0, 0, 4, 0), (19, 0, 0, 0, 0), (6, 0, 0, 4, 0), (60, 106, 2, 65, 0), (10, 0, 0, 0, 0), (59, 80, 2, 90, 10), (56, 0, 0, 0, 0)],
  [(1, 0, 0, 0, 0), (0, 2, 0, 0, 0), (59, 81, 2, 93, 10), (56, 0, 0, 0, 0)],
  [(1, 0, 0, 0, 0), (0, 1, 0, 0, 0), (6, 0, 0, 4, 0), (19, 0, 0, 0, 0), (6, 2, 0, 200, 0), (60, 106, 2, 65, 0), (6, 0, 0, 1, 0), (0, 1, 0, 0, 0), (6, 1, 0, 7, 0), (19, 0, 0, 0, 0), (6, 1, 0, 30, 0), (60, 106, 2, 65, 0), (10, 0, 0, 0, 0), (6, 0, 0, 1, 0), (0, 1, 0, 0, 0), (6, 1, 0, 10, 0), (19, 0, 0, 0, 0), (6, 1, 0, 30, 0), (60, 106, 2, 65, 0), (10, 0, 0, 0, 0), (6, 0, 0, 1, 0), (0, 1, 0, 0, 0), (6, 1, 0, 13, 0), (19, 0, 0, 0, 0), (6, 1, 0, 30, 0), (60, 106, 2, 65, 0), (10, 0, 0, 0, 0), (6, 0, 0, 1, 0), (0, 1, 0, 0, 0), (6, 1, 0, 16, 0), (19, 0, 0, 0, 0), (6, 1, 0, 30, 0), (60, 106, 2, 65, 0), (10, 0, 0, 0, 0), (59, 89, 6, 96, 10), (56, 0, 0, 0, 0)],
  [(1, 0, 0, 0, 0), (0, 2, 0, 0, 0), (0, 3, 0, 0, 0), (6, 0, 0, 1, 0), (0, 1, 0, 0, 0), (6, 1, 0, 10, 0), (19, 0, 0, 0, 0), (6, 1, 0, 9, 0), (60, 106, 2, 65, 0), (10, 0, 0, 0, 0), (59, 90, 4, 100, 10), (56, 0, 0, 0, 0)],
  [(0, 1, 0, 0, 0), (6, 0, 0, 4, 0), (19, 0, 0, 0, 0), (6, 0, 0, 3, 0), (15, 0, 0, 0, 0), (47, 17, 0, 10, 0), (1, 0, 0, 0, 0), (59, 91, 1, 103, 10), (52, 18, 0, 30, 0)],
  [(1, 0, 0, 0, 0), (0, 1, 0, 0, 0), (6, 1, 0, 6, 0), (19, 0, 0, 0, 0), (1, 0, 0, 0, 0), (6, 0, 0, 0, 0), (59, 75, 2, 8, 10), (60, 106, 2, 65, 0), (6, 0, 0, 1, 0), (0, 1, 0, 0, 0), (6, 1, 0, 10, 0), (19, 0, 0, 0, 0), (6, 1, 0, 60, 0), (60, 106, 2, 65, 0), (10, 0, 0, 0, 0), (59, 82, 3, 55, 10), (53, 18, 0, 0, 0)],
  [(56, 0, 0, 0, 0)],
  [(1, 0, 0, 0, 0), (59, 96, 1, 106, 10), (56, 0, 0, 0, 0)]]
/-- 113: BridgeRoundsLaw.law([I)Z -/
def ev_m_113 : List (List ev_O) := [[],
  [(1, 0, 0, 0, 0), (6, 0, 0, 0, 0), (38, 110, 0, 0, 0), (3, 2, 0, 0, 0), (1, 1, 0, 0, 0), (59, 97, 1, 62, 10), (6, 1, 0, (-4), 0), (41, 2, 0, 49, 0), (1, 1, 0, 0, 0), (59, 101, 1, 114, 10), (6, 1, 0, (-4), 0), (41, 2, 0, 40, 0), (1, 1, 0, 0, 0), (59, 94, 1, 38, 10), (47, 2, 0, 33, 0), (1, 1, 0, 0, 0), (59, 96, 1, 106, 10), (47, 2, 0, 26, 0), (1, 1, 0, 0, 0), (6, 0, 0, 0, 0), (6, 0, 0, 0, 0), (6, 0, 0, 1, 0), (59, 85, 4, 25, 10), (6, 1, 0, (-2), 0), (41, 2, 0, 14, 0), (1, 1, 0, 0, 0), (6, 1, 0, 11, 0), (59, 68, 2, 68, 10), (6, 1, 0, (-3), 0), (40, 3, 0, 5, 0), (53, 2, 0, 0, 0)],
  [(6, 0, 0, 0, 0), (56, 1, 0, 0, 0)],
  [(6, 0, 0, 3, 0), (0, 2, 0, 0, 0), (6, 0, 0, 4, 0), (60, 106, 2, 65, 0), (10, 0, 0, 0, 0), (3, 3, 0, 0, 0), (1, 1, 0, 0, 0), (0, 3, 0, 0, 0), (59, 68, 2, 68, 10), (26, 0, 0, 0, 0), (6, 0, 0, 1, 0), (3, 4, 1, 0, 0), (53, 4, 0, 0, 0)],
  [(0, 4, 1, 0, 0), (0, 3, 0, 0, 0), (43, 8, 0, 179, 0), (1, 0, 0, 0, 0), (0, 4, 1, 0, 0), (38, 110, 0, 0, 0), (3, 5, 1, 0, 0), (1, 1, 0, 0, 0), (0, 5, 1, 0, 0), (0, 4, 1, 0, 0), (60, 106, 2, 65, 0), (0, 4, 1, 0, 0), (6, 0, 0, 1, 0), (0, 5, 1, 0, 0), (6, 0, 0, 3, 0), (19, 0, 0, 0, 0), (6, 1, 0, 60, 0), (60, 106, 2, 65, 0), (10, 0, 0, 0, 0), (59, 69, 4, 71, 10), (0, 4, 1, 0, 0), (6, 0, 0, 1, 0), (11, 0, 0, 0, 0), (40, 5, 0, 5, 0), (6, 0, 0, 0, 0), (56, 1, 0, 0, 0)],
  [(0, 5, 1, 0, 0), (6, 1, 0, 10, 0), (19, 0, 0, 0, 0), (6, 0, 0, 1, 0), (15, 0, 0, 0, 0), (47, 7, 0, 122, 0), (1, 1, 0, 0, 0), (0, 4, 1, 0, 0), (6, 0, 0, 1, 0), (11, 0, 0, 0, 0), (59, 70, 2, 74, 10), (3, 6, 1, 0, 0), (1, 1, 0, 0, 0), (0, 6, 1, 0, 0), (0, 5, 1, 0, 0), (6, 1, 0, 11, 0), (19, 0, 0, 0, 0), (6, 0, 0, 3, 0), (15, 0, 0, 0, 0), (6, 0, 0, 3, 0), (0, 5, 1, 0, 0), (6, 1, 0, 13, 0), (19, 0, 0, 0, 0), (6, 1, 0, 7, 0), (60, 106, 2, 65, 0), (10, 0, 0, 0, 0), (0, 5, 1, 0, 0), (6, 1, 0, 16, 0), (19, 0, 0, 0, 0), (6, 1, 0, 61, 0), (60, 106, 2, 65, 0), (59, 71, 5, 77, 10), (47, 6, 0, 72, 0), (1, 1, 0, 0, 0), (0, 6, 1, 0, 0), (0, 5, 1, 0, 0), (6, 1, 0, 22, 0), (19, 0, 0, 0, 0), (6, 0, 0, 3, 0), (15, 0, 0, 0, 0), (0, 5, 1, 0, 0), (6, 1, 0, 18, 0), (19, 0, 0, 0, 0), (6, 1, 0, 10, 0), (60, 106, 2, 65, 0), (6, 1, 0, 10, 0), (59, 71, 5, 77, 10), (6, 0, 0, 1, 0), (41, 6, 0, 43, 0), (1, 1, 0, 0, 0), (0, 6, 1, 0, 0), (6, 0, 0, 0, 0), (6, 0, 0, 1, 0), (59, 72, 4, 80, 10), (6, 0, 0, 1, 0), (41, 6, 0, 31, 0), (1, 1, 0, 0, 0), (0, 6, 1, 0, 0), (6, 0, 0, 1, 0), (6, 0, 0, (-1), 0), (59, 72, 4, 80, 10), (6, 0, 0, 1, 0), (41, 6, 0, 19, 0), (1, 1, 0, 0, 0), (0, 6, 1, 0, 0), (59, 81, 2, 93, 10), (1, 1, 0, 0, 0), (0, 6, 1, 0, 0), (6, 0, 0, 2, 0), (59, 77, 3, 14, 10), (40, 7, 0, 5, 0), (53, 6, 0, 0, 0)],
  [(6, 0, 0, 0, 0), (56, 1, 0, 0, 0)],
  [(23, 4, 0, 1, 0), (52, 4, 0, (-179), 0)],
  [(1, 1, 0, 0, 0), (6, 0, 0, 0, 0), (0, 3, 0, 0, 0), (6, 0, 0, 1, 0), (11, 0, 0, 0, 0), (6, 0, 0, 1, 0), (0, 2, 0, 0, 0), (6, 0, 0, 3, 0), (19, 0, 0, 0, 0), (6, 1, 0, 99, 0), (60, 106, 2, 65, 0), (10, 0, 0, 0, 0), (59, 69, 4, 71, 10), (26, 0, 0, 0, 0), (6, 0, 0, 0, 0), (3, 4, 1, 0, 0), (53, 9, 0, 0, 0)],
  [(0, 4, 1, 0, 0), (6, 1, 0, 24, 0), (43, 17, 0, 171, 0), (1, 0, 0, 0, 0), (6, 1, 0, 8, 0), (0, 4, 1, 0, 0), (10, 0, 0, 0, 0), (38, 110, 0, 0, 0), (3, 5, 1, 0, 0), (1, 1, 0, 0, 0), (59, 102, 1, 48, 10), (5, 6, 1, 0, 0), (1, 1, 0, 0, 0), (0, 5, 1, 0, 0), (60, 112, 2, 117, 0), (3, 8, 1, 0, 0), (0, 8, 1, 0, 0), (49, 10, 0, 13, 0), (1, 1, 0, 0, 0), (59, 102, 1, 48, 10), (2, 6, 1, 0, 0), (9, 0, 0, 0, 0), (47, 11, 0, 10, 0), (53, 10, 0, 0, 0)],
  [(1, 1, 0, 0, 0), (60, 107, 1, 58, 0), (47, 12, 0, 5, 0), (53, 11, 0, 0, 0)],
  [(6, 0, 0, 0, 0), (56, 1, 0, 0, 0)],
  [(0, 8, 1, 0, 0), (48, 14, 0, 32, 0), (0, 5, 1, 0, 0), (6, 1, 0, 27, 0), (19, 0, 0, 0, 0), (6, 0, 0, 3, 0), (15, 0, 0, 0, 0), (47, 14, 0, 22, 0), (1, 1, 0, 0, 0), (59, 97, 1, 62, 10), (48, 13, 0, 13, 0), (1, 1, 0, 0, 0), (59, 102, 1, 48, 10), (2, 6, 1, 0, 0), (9, 0, 0, 0, 0), (46, 14, 0, 5, 0), (53, 13, 0, 0, 0)],
  [(6, 0, 0, 0, 0), (56, 1, 0, 0, 0)],
  [(0, 4, 1, 0, 0), (6, 0, 0, 4, 0), (14, 0, 0, 0, 0), (6, 0, 0, 3, 0), (41, 16, 0, 74, 0), (1, 1, 0, 0, 0), (0, 5, 1, 0, 0), (6, 0, 0, 5, 0), (19, 0, 0, 0, 0), (1, 1, 0, 0, 0), (6, 0, 0, 0, 0), (59, 75, 2, 8, 10), (60, 106, 2, 65, 0), (6, 0, 0, 1, 0), (0, 5, 1, 0, 0), (6, 1, 0, 9, 0), (19, 0, 0, 0, 0), (6, 1, 0, 60, 0), (60, 106, 2, 65, 0), (10, 0, 0, 0, 0), (60, 109, 3, 121, 0), (46, 15, 0, 41, 0), (1, 1, 0, 0, 0), (60, 110, 1, 124, 0), (46, 15, 0, 34, 0), (1, 1, 0, 0, 0), (0, 5, 1, 0, 0), (6, 0, 0, 5, 0), (19, 0, 0, 0, 0), (1, 1, 0, 0, 0), (6, 0, 0, 0, 0), (59, 75, 2, 8, 10), (60, 106, 2, 65, 0), (6, 0, 0, 1, 0), (0, 5, 1, 0, 0), (6, 1, 0, 9, 0), (19, 0, 0, 0, 0), (6, 1, 0, 100, 0), (60, 106, 2, 65, 0), (10, 0, 0, 0, 0), (60, 111, 3, 127, 0), (47, 16, 0, 5, 0), (53, 15, 0, 0, 0)],
  [(6, 0, 0, 0, 0), (56, 1, 0, 0, 0)],
  [(23, 4, 0, 1, 0), (52, 9, 0, (-172), 0)],
  [(1, 1, 0, 0, 0), (59, 102, 1, 48, 10), (5, 4, 1, 0, 0), (6, 0, 0, 0, 0), (3, 6, 1, 0, 0), (53, 18, 0, 0, 0)],
  [(0, 6, 1, 0, 0), (1, 1, 0, 0, 0), (6, 0, 0, 2, 0), (59, 75, 2, 8, 10), (43, 39, 0, 422, 0), (1, 1, 0, 0, 0), (0, 6, 1, 0, 0), (59, 79, 2, 130, 10), (3, 7, 1, 0, 0), (1, 1, 0, 0, 0), (0, 6, 1, 0, 0), (6, 0, 0, 2, 0), (59, 77, 3, 14, 10), (3, 8, 1, 0, 0), (6, 0, 0, 0, 0), (3, 9, 1, 0, 0), (53, 19, 0, 0, 0)],
  [(0, 9, 1, 0, 0), (1, 1, 0, 0, 0), (0, 6, 1, 0, 0), (6, 0, 0, 1, 0), (59, 77, 3, 14, 10), (43, 27, 0, 101, 0), (1, 1, 0, 0, 0), (0, 6, 1, 0, 0), (0, 9, 1, 0, 0), (6, 0, 0, 1, 0), (59, 78, 4, 21, 10), (3, 10, 1, 0, 0), (0, 10, 1, 0, 0), (47, 20, 0, 17, 0), (0, 7, 1, 0, 0), (0, 9, 1, 0, 0), (19, 0, 0, 0, 0), (6, 0, 0, 1, 0), (15, 0, 0, 0, 0), (6, 0, 0, 1, 0), (41, 26, 0, 68, 0), (52, 25, 0, 63, 0)],
  [(1, 1, 0, 0, 0), (0, 6, 1, 0, 0), (0, 9, 1, 0, 0), (0, 10, 1, 0, 0), (6, 0, 0, 1, 0), (11, 0, 0, 0, 0), (59, 73, 4, 83, 10), (0, 10, 1, 0, 0), (41, 25, 0, 46, 0), (1, 1, 0, 0, 0), (0, 6, 1, 0, 0), (6, 0, 0, 2, 0), (59, 77, 3, 14, 10), (0, 8, 1, 0, 0), (43, 21, 0, 7, 0), (6, 0, 0, 1, 0), (52, 22, 0, 4, 0)],
  [(6, 0, 0, 0, 0), (53, 22, 0, 0, 0)],
  [(0, 7, 1, 0, 0), (0, 9, 1, 0, 0), (19, 0, 0, 0, 0), (6, 0, 0, 1, 0), (15, 0, 0, 0, 0), (6, 0, 0, 1, 0), (41, 23, 0, 7, 0), (6, 0, 0, 1, 0), (52, 24, 0, 4, 0)],
  [(6, 0, 0, 0, 0), (53, 24, 0, 0, 0)],
  [(41, 25, 0, 10, 0), (1, 1, 0, 0, 0), (59, 97, 1, 62, 10), (49, 26, 0, 5, 0), (53, 25, 0, 0, 0)],
  [(6, 0, 0, 0, 0), (56, 1, 0, 0, 0)],
  [(23, 9, 0, 1, 0), (52, 19, 0, (-107), 0)],
  [(1, 1, 0, 0, 0), (0, 6, 1, 0, 0), (59, 84, 2, 133, 10), (3, 9, 1, 0, 0), (0, 9, 1, 0, 0), (46, 28, 0, 28, 0), (0, 9, 1, 0, 0), (6, 0, 0, (-1), 0), (42, 28, 0, 22, 0), (0, 9, 1, 0, 0), (6, 2, 0, 1000, 0), (44, 28, 0, 14, 0), (0, 8, 1, 0, 0), (47, 29, 0, 11, 0), (0, 9, 1, 0, 0), (6, 0, 0, (-1), 0), (40, 29, 0, 5, 0), (53, 28, 0, 0, 0)],
  [(6, 0, 0, 0, 0), (56, 1, 0, 0, 0)],
  [(0, 9, 1, 0, 0), (6, 0, 0, 1, 0), (45, 31, 0, 69, 0), (0, 9, 1, 0, 0), (6, 1, 0, 50, 0), (44, 31, 0, 62, 0), (1, 1, 0, 0, 0), (0, 9, 1, 0, 0), (6, 0, 0, 1, 0), (11, 0, 0, 0, 0), (59, 80, 2, 90, 10), (48, 30, 0, 49, 0), (1, 1, 0, 0, 0), (0, 6, 1, 0, 0), (6, 0, 0, 2, 0), (59, 77, 3, 14, 10), (0, 8, 1, 0, 0), (41, 30, 0, 37, 0), (1, 1, 0, 0, 0), (6, 0, 0, 1, 0), (59, 80, 2, 90, 10), (48, 30, 0, 29, 0), (1, 1, 0, 0, 0), (0, 6, 1, 0, 0), (6, 0, 0, 2, 0), (59, 77, 3, 14, 10), (0, 8, 1, 0, 0), (43, 30, 0, 17, 0), (1, 1, 0, 0, 0), (59, 97, 1, 62, 10), (48, 30, 0, 10, 0), (1, 1, 0, 0, 0), (59, 97, 1, 62, 10), (49, 31, 0, 5, 0), (53, 30, 0, 0, 0)],
  [(6, 0, 0, 0, 0), (56, 1, 0, 0, 0)],
  [(1, 1, 0, 0, 0), (0, 6, 1, 0, 0), (59, 95, 2, 136, 10), (3, 10, 1, 0, 0), (0, 10, 1, 0, 0), (0, 8, 1, 0, 0), (42, 32, 0, 45, 0), (1, 1, 0, 0, 0), (6, 0, 0, 4, 0), (59, 75, 2, 8, 10), (51, 33, 0, 39, 0), (1, 1, 0, 0, 0), (59, 96, 1, 106, 10), (48, 32, 0, 30, 0), (1, 1, 0, 0, 0), (0, 6, 1, 0, 0), (6, 0, 0, 2, 0), (59, 77, 3, 14, 10), (0, 10, 1, 0, 0), (41, 32, 0, 18, 0), (1, 1, 0, 0, 0), (6, 0, 0, 3, 0), (59, 75, 2, 8, 10), (47, 32, 0, 10, 0), (1, 1, 0, 0, 0), (59, 97, 1, 62, 10), (49, 33, 0, 5, 0), (53, 32, 0, 0, 0)],
  [(6, 0, 0, 0, 0), (56, 1, 0, 0, 0)],
  [(1, 1, 0, 0, 0), (0, 6, 1, 0, 0), (6, 0, 0, 0, 0), (59, 77, 3, 14, 10), (3, 11, 1, 0, 0), (1, 1, 0, 0, 0), (0, 6, 1, 0, 0), (6, 1, 0, 10, 0), (59, 87, 3, 139, 10), (3, 12, 1, 0, 0), (1, 1, 0, 0, 0), (0, 6, 1, 0, 0), (6, 1, 0, 7, 0), (59, 77, 3, 14, 10), (3, 13, 1, 0, 0), (1, 1, 0, 0, 0), (0, 6, 1, 0, 0), (6, 0, 0, 1, 0), (59, 74, 3, 86, 10), (0, 13, 1, 0, 0), (40, 34, 0, 5, 0), (6, 0, 0, 0, 0), (56, 1, 0, 0, 0)],
  [(1, 1, 0, 0, 0), (1, 1, 0, 0, 0), (0, 11, 1, 0, 0), (6, 0, 0, 0, 0), (59, 76, 3, 18, 10), (1, 1, 0, 0, 0), (0, 11, 1, 0, 0), (6, 0, 0, 1, 0), (59, 76, 3, 18, 10), (6, 1, 0, 10, 0), (59, 85, 4, 25, 10), (3, 14, 1, 0, 0), (0, 12, 1, 0, 0), (0, 14, 1, 0, 0), (49, 35, 0, 7, 0), (6, 0, 0, (-1), 0), (52, 36, 0, 17, 0)],
  [(6, 2, 0, 1000, 0), (0, 14, 1, 0, 0), (10, 0, 0, 0, 0), (1, 1, 0, 0, 0), (0, 11, 1, 0, 0), (6, 0, 0, 2, 0), (59, 76, 3, 18, 10), (11, 0, 0, 0, 0), (53, 36, 0, 0, 0)],
  [(41, 37, 0, 20, 0), (1, 1, 0, 0, 0), (59, 97, 1, 62, 10), (48, 37, 0, 13, 0), (1, 1, 0, 0, 0), (59, 102, 1, 48, 10), (2, 4, 1, 0, 0), (9, 0, 0, 0, 0), (46, 38, 0, 5, 0), (53, 37, 0, 0, 0)],
  [(6, 0, 0, 0, 0), (56, 1, 0, 0, 0)],
  [(23, 6, 0, 1, 0), (52, 18, 0, (-426), 0)],
  [(0, 2, 0, 0, 0), (6, 1, 0, 10, 0), (19, 0, 0, 0, 0), (1, 1, 0, 0, 0), (6, 0, 0, 0, 0), (59, 75, 2, 8, 10), (60, 106, 2, 65, 0), (3, 6, 1, 0, 0), (0, 6, 1, 0, 0), (6, 0, 0, 1, 0), (10, 0, 0, 0, 0), (1, 1, 0, 0, 0), (6, 0, 0, 0, 0), (59, 75, 2, 8, 10), (14, 0, 0, 0, 0), (3, 7, 1, 0, 0), (1, 1, 0, 0, 0), (0, 6, 1, 0, 0), (0, 7, 1, 0, 0), (59, 88, 3, 142, 10), (3, 8, 1, 0, 0), (0, 8, 1, 0, 0), (51, 40, 0, 16, 0), (1, 1, 0, 0, 0), (0, 6, 1, 0, 0), (0, 7, 1, 0, 0), (0, 8, 1, 0, 0), (59, 85, 4, 25, 10), (48, 44, 0, 39, 0), (53, 40, 0, 0, 0)],
  [(0, 8, 1, 0, 0), (6, 1, 0, 60, 0), (43, 43, 0, 27, 0), (1, 1, 0, 0, 0), (0, 6, 1, 0, 0), (0, 7, 1, 0, 0), (0, 8, 1, 0, 0), (49, 41, 0, 7, 0), (6, 0, 0, 1, 0), (52, 42, 0, 7, 0)],
  [(0, 8, 1, 0, 0), (6, 0, 0, 1, 0), (10, 0, 0, 0, 0), (53, 42, 0, 0, 0)],
  [(59, 85, 4, 25, 10), (49, 44, 0, 8, 0), (53, 43, 0, 0, 0)],
  [(0, 8, 1, 0, 0), (47, 45, 0, 5, 0), (53, 44, 0, 0, 0)],
  [(6, 0, 0, 0, 0), (56, 1, 0, 0, 0)],
  [(1, 1, 0, 0, 0), (6, 0, 0, 0, 0), (6, 0, 0, 0, 0), (6, 0, 0, 5, 0), (59, 69, 4, 71, 10), (6, 1, 0, (-3), 0), (41, 46, 0, 177, 0), (1, 1, 0, 0, 0), (6, 1, 0, 20, 0), (59, 70, 2, 74, 10), (6, 1, 0, (-2), 0), (41, 46, 0, 166, 0), (1, 1, 0, 0, 0), (6, 1, 0, 6, 0), (6, 0, 0, 0, 0), (6, 0, 0, 0, 0), (6, 0, 0, 0, 0), (59, 71, 5, 77, 10), (6, 1, 0, (-2), 0), (41, 46, 0, 152, 0), (1, 1, 0, 0, 0), (6, 1, 0, 6, 0), (6, 0, 0, 0, 0), (6, 0, 0, (-1), 0), (59, 72, 4, 80, 10), (6, 1, 0, (-2), 0), (41, 46, 0, 139, 0), (1, 1, 0, 0, 0), (6, 1, 0, 6, 0), (6, 0, 0, 1, 0), (59, 74, 3, 86, 10), (6, 1, 0, (-2), 0), (41, 46, 0, 127, 0), (1, 1, 0, 0, 0), (6, 1, 0, 11, 0), (59, 75, 2, 8, 10), (6, 1, 0, (-3), 0), (41, 46, 0, 116, 0), (1, 1, 0, 0, 0), (6, 1, 0, 51, 0), (59, 80, 2, 90, 10), (6, 1, 0, (-3), 0), (41, 46, 0, 105, 0), (1, 1, 0, 0, 0), (6, 1, 0, 10, 0), (6, 0, 0, 1, 0), (59, 82, 3, 55, 10), (6, 1, 0, (-2), 0), (41, 46, 0, 93, 0), (1, 1, 0, 0, 0), (6, 0, 0, 0, 0), (6, 0, 0, 0, 0), (6, 1, 0, 61, 0), (59, 85, 4, 25, 10), (6, 1, 0, (-3), 0), (41, 46, 0, 80, 0), (1, 1, 0, 0, 0), (6, 0, 0, 0, 0), (6, 0, 0, 0, 0), (59, 88, 3, 142, 10), (6, 1, 0, (-4), 0), (41, 46, 0, 69, 0), (1, 1, 0, 0, 0), (6, 2, 0, 1000, 0), (6, 0, 0, 1, 0), (6, 0, 0, 1, 0), (6, 0, 0, 1, 0), (6, 0, 0, 1, 0), (59, 89, 6, 96, 10), (6, 1, 0, (-3), 0), (41, 46, 0, 53, 0), (1, 1, 0, 0, 0), (6, 1, 0, 6, 0), (6, 0, 0, 0, 0), (6, 0, 0, 1, 0), (59, 90, 4, 100, 10), (6, 1, 0, (-2), 0), (41, 46, 0, 40, 0), (1, 1, 0, 0, 0), (6, 1, 0, 8, 0), (6, 0, 0, 0, 0), (59, 92, 3, 42, 10), (6, 1, 0, (-2), 0), (41, 46, 0, 28, 0), (1, 1, 0, 0, 0), (6, 0, 0, 3, 0), (6, 0, 0, 0, 0), (59, 93, 3, 45, 10), (6, 1, 0, (-2), 0), (41, 46, 0, 17, 0), (1, 1, 0, 0, 0), (59, 102, 1, 48, 10), (2, 4, 1, 0, 0), (9, 0, 0, 0, 0), (47, 46, 0, 7, 0), (6, 0, 0, 1, 0), (52, 47, 0, 4, 0)],
  [(6, 0, 0, 0, 0), (53, 47, 0, 0, 0)],
  [(56, 1, 0, 0, 0)]]
def ev_ms : List (List (List ev_O)) := [ev_m_0, ev_m_1, ev_m_2, ev_m_3, ev_m_4, ev_m_5, ev_m_6, ev_m_7, ev_m_8, ev_m_9, ev_m_10, ev_m_11, ev_m_12, ev_m_13, ev_m_14, ev_m_15, ev_m_16, ev_m_17, ev_m_18, ev_m_19, ev_m_20, ev_m_21, ev_m_22, ev_m_23, ev_m_24, ev_m_25, ev_m_26, ev_m_27, ev_m_28, ev_m_29, ev_m_30, ev_m_31, ev_m_32, ev_m_33, ev_m_34, ev_m_35, ev_m_36, ev_m_37, ev_m_38, ev_m_39, ev_m_40, ev_m_41, ev_m_42, ev_m_43, ev_m_44, ev_m_45, ev_m_46, ev_m_47, ev_m_48, ev_m_49, ev_m_50, ev_m_51, ev_m_52, ev_m_53, ev_m_54, ev_m_55, ev_m_56, ev_m_57, ev_m_58, ev_m_59, ev_m_60, ev_m_61, ev_m_62, ev_m_63, ev_m_64, ev_m_65, ev_m_66, ev_m_67, ev_m_68, ev_m_69, ev_m_70, ev_m_71, ev_m_72, ev_m_73, ev_m_74, ev_m_75, ev_m_76, ev_m_77, ev_m_78, ev_m_79, ev_m_80, ev_m_81, ev_m_82, ev_m_83, ev_m_84, ev_m_85, ev_m_86, ev_m_87, ev_m_88, ev_m_89, ev_m_90, ev_m_91, ev_m_92, ev_m_93, ev_m_94, ev_m_95, ev_m_96, ev_m_97, ev_m_98, ev_m_99, ev_m_100, ev_m_101, ev_m_102, ev_m_103, ev_m_104, ev_m_105, ev_m_106, ev_m_107, ev_m_108, ev_m_109, ev_m_110, ev_m_111, ev_m_112, ev_m_113]
def ev_blk (j t : Nat) : List ev_O := (ev_ms.getD j []).getD t []
/-- lcmp -/
def ev_lc (a b : Int64) : Int := if b < a then 1 else if a = b then 0 else -1
/-- what one instruction comes to: it goes on, jumps, returns, or calls (with what stays on the stack) -/
abbrev ev_X : Type := (ev_L × List ev_V × ev_M) ⊕ ((Nat × ev_L × List ev_V × ev_M) ⊕ (ev_R ⊕ (Nat × List ev_V × List ev_V × ev_L × ev_M)))
def ev_x (op : ev_O) (L : ev_L) (st : List ev_V) (σ : ev_M) : Option ev_X := match op with
  | (0, k, _, _, _) => match ev_get L k with
    | some (.inl x) => some (.inl (L, .inl x :: st, σ))
    | _ => none
  | (1, k, _, _, _) => match ev_get L k with
    | some (.inr (.inl x)) => some (.inl (L, .inr (.inl x) :: st, σ))
    | _ => none
  | (2, k, _, _, _) => match ev_get L k with
    | some (.inr (.inr x)) => some (.inl (L, .inr (.inr x) :: st, σ))
    | _ => none
  | (3, k, _, _, _) => match st with
    | .inl x :: st => if ev_nl L k = true ∧ k < L.length then some (.inl (ev_set L k (some (.inl x)), st, σ)) else none
    | _ => none
  | (4, k, _, _, _) => match st with
    | .inr (.inl x) :: st => if ev_nl L k = true ∧ k < L.length then some (.inl (ev_set L k (some (.inr (.inl x))), st, σ)) else none
    | _ => none
  | (5, k, _, _, _) => match st with
    | .inr (.inr x) :: st => if ev_nl L k = true ∧ k + 1 < L.length then some (.inl (ev_set (ev_set L (k + 1) none) k (some (.inr (.inr x))), st, σ)) else none
    | _ => none
  | (6, _, _, v, _) => some (.inl (L, .inl v :: st, σ))
  | (7, _, _, v, _) => some (.inl (L, .inl v :: st, σ))
  | (8, _, _, v, _) => some (.inl (L, .inr (.inr (Int64.ofInt v)) :: st, σ))
  | (9, _, _, _, _) => match st with
    | .inr (.inr b) :: .inr (.inr a) :: st => some (.inl (L, .inl (ev_lc a b) :: st, σ))
    | _ => none
  | (10, _, _, _, _) => match st with
    | .inl b :: .inl a :: st => some (.inl (L, .inl (a + b) :: st, σ))
    | _ => none
  | (11, _, _, _, _) => match st with
    | .inl b :: .inl a :: st => some (.inl (L, .inl (a - b) :: st, σ))
    | _ => none
  | (12, _, _, _, _) => match st with
    | .inl b :: .inl a :: st => some (.inl (L, .inl (a * b) :: st, σ))
    | _ => none
  | (13, _, _, _, _) => match st with
    | .inl b :: .inl a :: st => if ev_wr b = 0 then none else some (.inl (L, .inl (ev_div a b) :: st, σ))
    | _ => none
  | (14, _, _, _, _) => match st with
    | .inl b :: .inl a :: st => if ev_wr b = 0 then none else some (.inl (L, .inl (ev_rem a b) :: st, σ))
    | _ => none
  | (15, _, _, _, _) => match st with
    | .inl b :: .inl a :: st => some (.inl (L, .inl (ev_and a b) :: st, σ))
    | _ => none
  | (16, _, _, _, _) => match st with
    | .inl b :: .inl a :: st => some (.inl (L, .inl (ev_or a b) :: st, σ))
    | _ => none
  | (17, _, _, _, _) => match st with
    | .inl b :: .inl a :: st => some (.inl (L, .inl (ev_xor a b) :: st, σ))
    | _ => none
  | (18, _, _, _, _) => match st with
    | .inl b :: .inl a :: st => some (.inl (L, .inl (ev_shl a b) :: st, σ))
    | _ => none
  | (19, _, _, _, _) => match st with
    | .inl b :: .inl a :: st => some (.inl (L, .inl (ev_shr a b) :: st, σ))
    | _ => none
  | (20, _, _, _, _) => match st with
    | .inr (.inr b) :: .inr (.inr a) :: st => some (.inl (L, .inr (.inr (a + b)) :: st, σ))
    | _ => none
  | (21, _, _, _, _) => match st with
    | .inr (.inr b) :: .inr (.inr a) :: st => some (.inl (L, .inr (.inr (a * b)) :: st, σ))
    | _ => none
  | (22, _, _, _, _) => match st with
    | .inl a :: st => some (.inl (L, .inr (.inr (Int64.ofInt (ev_wr a))) :: st, σ))
    | _ => none
  | (23, k, _, z, _) => match ev_get L k with
    | some (.inl x) => if ev_nl L k = true ∧ k < L.length then some (.inl (ev_set L k (some (.inl (x + z))), st, σ)) else none
    | _ => none
  | (24, _, _, _, _) => match st with
    | .inl x :: st => some (.inl (L, .inl x :: .inl x :: st, σ))
    | .inr (.inl x) :: st => some (.inl (L, .inr (.inl x) :: .inr (.inl x) :: st, σ))
    | _ => none
  | (25, _, _, _, _) => match st with
    | .inl y :: .inr (.inl x) :: st => some (.inl (L, .inl y :: .inr (.inl x) :: .inl y :: .inr (.inl x) :: st, σ))
    | _ => none
  | (26, _, _, _, _) => match st with
    | .inl _ :: st => some (.inl (L, st, σ))
    | _ => none
  | (27, _, c, k, _) => match st with
    | .inr (.inl i) :: st => if ev_cls i = c then some (.inl (L, .inl (σ i k) :: st, σ)) else none
    | _ => none
  | (28, _, c, _, o) => match st with
    | .inr (.inl i) :: st => if ev_cls i = c then some (.inl (L, .inr (.inl (i + o)) :: st, σ)) else none
    | _ => none
  | (29, _, c, k, _) => match st with
    | .inr (.inl i) :: st => if ev_cls i = c then some (.inl (L, .inr (.inr (Int64.ofInt (σ i k))) :: st, σ)) else none
    | _ => none
  | (30, _, c, k, _) => match st with
    | .inl v :: .inr (.inl i) :: st => if ev_cls i = c then some (.inl (L, st, ev_up σ i k v)) else none
    | _ => none
  | (31, _, c, k, _) => match st with
    | .inr (.inr v) :: .inr (.inl i) :: st => if ev_cls i = c then some (.inl (L, st, ev_up σ i k v.toInt)) else none
    | _ => none
  | (32, _, _, _, _) => match st with
    | .inl k :: .inr (.inl i) :: st => if ev_cls i = 12 ∧ 0 ≤ ev_wr k ∧ ev_wr k < ev_len i then some (.inl (L, .inl (σ i (ev_wr k)) :: st, σ)) else none
    | _ => none
  | (33, _, _, _, _) => match st with
    | .inl v :: .inl k :: .inr (.inl i) :: st => if ev_cls i = 12 ∧ 0 ≤ ev_wr k ∧ ev_wr k < ev_len i then some (.inl (L, st, ev_up σ i (ev_wr k) v)) else none
    | _ => none
  | (34, _, _, _, _) => match st with
    | .inl k :: .inr (.inl i) :: st => if ev_cls i = 13 ∧ 0 ≤ ev_wr k ∧ ev_wr k < ev_len i then some (.inl (L, .inl (σ i (ev_wr k)) :: st, σ)) else none
    | _ => none
  | (35, _, _, _, _) => match st with
    | .inl v :: .inl k :: .inr (.inl i) :: st => if ev_cls i = 13 ∧ 0 ≤ ev_wr k ∧ ev_wr k < ev_len i ∧ 0 ≤ v ∧ v ≤ 1 then some (.inl (L, st, ev_up σ i (ev_wr k) v)) else none
    | _ => none
  | (36, _, _, _, _) => match st with
    | .inl k :: .inr (.inl i) :: st => if ev_cls i = 14 ∧ 0 ≤ ev_wr k ∧ ev_wr k < ev_len i then some (.inl (L, .inr (.inl (σ i (ev_wr k))) :: st, σ)) else none
    | _ => none
  | (37, _, _, _, _) => match st with
    | .inr (.inl v) :: .inl k :: .inr (.inl i) :: st => if ev_cls i = 14 ∧ 0 ≤ ev_wr k ∧ ev_wr k < ev_len i ∧ ev_cls v = 7 then some (.inl (L, st, ev_up σ i (ev_wr k) v)) else none
    | _ => none
  | (38, _, _, _, _) => match st with
    | .inl k :: .inr (.inl i) :: st => if i = 200 ∧ ev_w st ≤ 8 then some (.inl (L, .inl (σ 200 (ev_wr k)) :: st, σ)) else none
    | _ => none
  | (61, _, _, _, _) => match st with
    | .inl n :: .inl j :: .inr (.inl b) :: .inl i :: .inr (.inl a) :: st => if ev_cls a = 12 ∧ ev_cls b = 12 ∧ 0 ≤ ev_wr i ∧ 0 ≤ ev_wr j ∧ 0 ≤ ev_wr n ∧ ev_wr i + ev_wr n ≤ ev_len a ∧ ev_wr j + ev_wr n ≤ ev_len b ∧ ev_w st ≤ 8 then some (.inl (L, st, ev_cp σ a (ev_wr i) b (ev_wr j) (ev_wr n))) else none
    | _ => none
  | (62, _, _, _, _) => match st with
    | .inl b :: .inl a :: st => if ev_w st ≤ 8 then some (.inl (L, .inl (if ev_wr a < ev_wr b then b else a) :: st, σ)) else none
    | _ => none
  | (63, _, _, _, _) => match st with
    | .inl b :: .inl a :: st => if ev_w st ≤ 8 then some (.inl (L, .inl (if ev_wr b < ev_wr a then b else a) :: st, σ)) else none
    | _ => none
  | (40, t, _, _, _) => match st with
    | .inl b :: .inl a :: st => some (if ev_wr a = ev_wr b then .inr (.inl (t, L, st, σ)) else .inl (L, st, σ))
    | _ => none
  | (41, t, _, _, _) => match st with
    | .inl b :: .inl a :: st => some (if ev_wr a = ev_wr b then .inl (L, st, σ) else .inr (.inl (t, L, st, σ)))
    | _ => none
  | (42, t, _, _, _) => match st with
    | .inl b :: .inl a :: st => some (if ev_wr a < ev_wr b then .inr (.inl (t, L, st, σ)) else .inl (L, st, σ))
    | _ => none
  | (43, t, _, _, _) => match st with
    | .inl b :: .inl a :: st => some (if ev_wr a < ev_wr b then .inl (L, st, σ) else .inr (.inl (t, L, st, σ)))
    | _ => none
  | (44, t, _, _, _) => match st with
    | .inl b :: .inl a :: st => some (if ev_wr b < ev_wr a then .inr (.inl (t, L, st, σ)) else .inl (L, st, σ))
    | _ => none
  | (45, t, _, _, _) => match st with
    | .inl b :: .inl a :: st => some (if ev_wr b < ev_wr a then .inl (L, st, σ) else .inr (.inl (t, L, st, σ)))
    | _ => none
  | (46, t, _, _, _) => match st with
    | .inl a :: st => some (if ev_wr a = 0 then .inr (.inl (t, L, st, σ)) else .inl (L, st, σ))
    | _ => none
  | (47, t, _, _, _) => match st with
    | .inl a :: st => some (if ev_wr a = 0 then .inl (L, st, σ) else .inr (.inl (t, L, st, σ)))
    | _ => none
  | (48, t, _, _, _) => match st with
    | .inl a :: st => some (if ev_wr a < 0 then .inr (.inl (t, L, st, σ)) else .inl (L, st, σ))
    | _ => none
  | (49, t, _, _, _) => match st with
    | .inl a :: st => some (if ev_wr a < 0 then .inl (L, st, σ) else .inr (.inl (t, L, st, σ)))
    | _ => none
  | (50, t, _, _, _) => match st with
    | .inl a :: st => some (if 0 < ev_wr a then .inr (.inl (t, L, st, σ)) else .inl (L, st, σ))
    | _ => none
  | (51, t, _, _, _) => match st with
    | .inl a :: st => some (if 0 < ev_wr a then .inl (L, st, σ) else .inr (.inl (t, L, st, σ)))
    | _ => none
  | (52, t, _, _, _) => some (.inr (.inl (t, L, st, σ)))
  | (53, t, _, _, _) => some (.inr (.inl (t, L, st, σ)))
  | (54, k, _, _, _) => match st with
    | .inl v :: st => some (.inr (.inl (ev_sel (ev_wr v) (ev_sw k).1 (ev_sw k).2, L, st, σ)))
    | _ => none
  | (55, k, _, _, _) => match st with
    | .inl v :: st => some (.inr (.inl (ev_sel (ev_wr v) (ev_sw k).1 (ev_sw k).2, L, st, σ)))
    | _ => none
  | (56, b, _, _, _) => match st with
    | [.inl v] => if b = 0 ∨ v = 0 ∨ v = 1 then some (.inr (.inr (.inl (some (.inl v), σ)))) else none
    | _ => none
  | (57, _, _, _, _) => match st with
    | [.inr (.inr v)] => some (.inr (.inr (.inl (some (.inr (.inr v)), σ))))
    | _ => none
  | (58, _, _, _, _) => match st with
    | [] => some (.inr (.inr (.inl (none, σ))))
    | _ => none
  | (59, j, n, _, c) => match ev_pop n st [] with
    | some (.inr (.inl b) :: as, rest) => if ev_w rest ≤ 8 ∧ (ev_cls b : Int) = c then some (.inr (.inr (.inr (j, .inr (.inl b) :: as, rest, L, σ)))) else none
    | _ => none
  | (60, j, n, _, _) => match ev_pop n st [] with
    | some (as, rest) => if ev_w rest ≤ 8 then some (.inr (.inr (.inr (j, as, rest, L, σ)))) else none
    | none => none
  | _ => none
def ev_o (C : Nat → List ev_V → ev_M → Option ev_R) (J : Nat → ev_L → List ev_V → ev_M → Option ev_R) : List ev_O → ev_L → List ev_V → ev_M → Option ev_R
  | [], _, _, _ => none
  | op :: ops, L, st, σ => match ev_x op L st σ with
    | none => none
    | some (.inl (L, st, σ)) => ev_o C J ops L st σ
    | some (.inr (.inl (t, L, st, σ))) => J t L st σ
    | some (.inr (.inr (.inl r))) => some r
    | some (.inr (.inr (.inr (j, as, rest, L, σ)))) => match C j as σ with
      | none => none
      | some (v, σ) => ev_o C J ops L (v.toList ++ rest) σ
def ev_lay : List ev_V → ev_L
  | [] => []
  | .inr (.inr h) :: t => some (.inr (.inr h)) :: none :: ev_lay t
  | .inr (.inl i) :: t => some (.inr (.inl i)) :: ev_lay t
  | .inl x :: t => some (.inl x) :: ev_lay t
def ev_ent (j : Nat) (as : List ev_V) : ev_L := ev_lay as ++ List.replicate (ev_mxl j - (ev_lay as).length) none
def ev_go (b : Nat → Nat → ev_L → List ev_V → ev_M → Option ev_R) (j : Nat) (as : List ev_V) (σ : ev_M) : Option ev_R := if (ev_lay as).length ≤ ev_mxl j then b j 0 (ev_ent j as) [] σ else none
def ev_b : Nat → Nat → Nat → ev_L → List ev_V → ev_M → Option ev_R
  | 0, _, _, _, _, _ => none
  | f + 1, j, t, L, st, σ => ev_o (ev_go (ev_b f)) (fun t L st σ => ev_b f j t L st σ) (ev_blk j t) L st σ
theorem ev_go_mono {b1 b2 : Nat → Nat → ev_L → List ev_V → ev_M → Option ev_R} (h : ∀ j t L st σ r, b1 j t L st σ = some r → b2 j t L st σ = some r) (j : Nat) (as : List ev_V) (σ : ev_M) (r : ev_R) (hr : ev_go b1 j as σ = some r) : ev_go b2 j as σ = some r := by
  unfold ev_go at hr ⊢
  split at hr
  · next hc => rw [if_pos hc]; exact h _ _ _ _ _ _ hr
  · cases hr
theorem ev_o_mono {C1 C2 : Nat → List ev_V → ev_M → Option ev_R} {J1 J2 : Nat → ev_L → List ev_V → ev_M → Option ev_R} (hC : ∀ j as σ r, C1 j as σ = some r → C2 j as σ = some r) (hJ : ∀ t L st σ r, J1 t L st σ = some r → J2 t L st σ = some r) :
    ∀ (ops : List ev_O) (L : ev_L) (st : List ev_V) (σ : ev_M) (r : ev_R), ev_o C1 J1 ops L st σ = some r → ev_o C2 J2 ops L st σ = some r := by
  intro ops
  induction ops with
  | nil => intro L st σ r h; simp [ev_o] at h
  | cons op ops ih =>
    intro L st σ r h
    unfold ev_o at h ⊢
    rcases hx : ev_x op L st σ with _ | ⟨L1, st1, σ1⟩ | ⟨t, L1, st1, σ1⟩ | q | ⟨j, as, rest, L1, σ1⟩ <;> rw [hx] at h <;> dsimp only at h ⊢
    · cases h
    · exact ih _ _ _ _ h
    · exact hJ _ _ _ _ _ h
    · exact h
    · rcases hc : C1 j as σ1 with _ | ⟨v, σ2⟩ <;> rw [hc] at h <;> dsimp only at h
      · cases h
      · rw [hC _ _ _ _ hc]
        exact ih _ _ _ _ h
theorem ev_b_succ : ∀ (f j t : Nat) (L : ev_L) (st : List ev_V) (σ : ev_M) (r : ev_R), ev_b f j t L st σ = some r → ev_b (f + 1) j t L st σ = some r := by
  intro f
  induction f with
  | zero => intro j t L st σ r h; simp [ev_b] at h
  | succ f ih =>
    intro j t L st σ r h
    unfold ev_b at h ⊢
    exact ev_o_mono (ev_go_mono (fun j t L st σ r h => ih _ _ _ _ _ _ h)) (fun t L st σ r h => ih _ _ _ _ _ _ h) _ _ _ _ _ h
theorem ev_b_le {f g j t : Nat} {L : ev_L} {st : List ev_V} {σ : ev_M} {r : ev_R} (hfg : f ≤ g) (h : ev_b f j t L st σ = some r) : ev_b g j t L st σ = some r := by
  induction hfg with
  | refl => exact h
  | step _ ih => exact ev_b_succ _ _ _ _ _ _ _ ih
/-- what a method comes to from a block on, if it ends -/
noncomputable def EB (j t : Nat) (L : ev_L) (st : List ev_V) (σ : ev_M) : Option ev_R := by
  classical exact if h : ∃ r f, ev_b f j t L st σ = some r then some h.choose else none
theorem EB_iff {j t : Nat} {L : ev_L} {st : List ev_V} {σ : ev_M} {r : ev_R} : EB j t L st σ = some r ↔ ∃ f, ev_b f j t L st σ = some r := by
  unfold EB
  constructor
  · intro h
    split at h
    · next hx =>
      have := hx.choose_spec
      cases h
      exact this
    · cases h
  · rintro ⟨f, h⟩
    have hx : ∃ r f, ev_b f j t L st σ = some r := ⟨r, f, h⟩
    rw [dif_pos hx]
    obtain ⟨g, hg⟩ := hx.choose_spec
    have h1 := ev_b_le (Nat.le_max_left f g) h
    have h2 := ev_b_le (Nat.le_max_right f g) hg
    rw [h1] at h2
    exact h2.symm
/-- what a call of a method comes to -/
noncomputable def EM (j : Nat) (as : List ev_V) (σ : ev_M) : Option ev_R := ev_go EB j as σ
noncomputable def EO (j : Nat) (ops : List ev_O) (L : ev_L) (st : List ev_V) (σ : ev_M) : Option ev_R := ev_o EM (EB j) ops L st σ
theorem ev_o_cont (j : Nat) : ∀ (ops : List ev_O) (L : ev_L) (st : List ev_V) (σ : ev_M) (r : ev_R), EO j ops L st σ = some r → ∃ f, ev_o (ev_go (ev_b f)) (fun t L st σ => ev_b f j t L st σ) ops L st σ = some r := by
  unfold EO
  intro ops
  induction ops with
  | nil => intro L st σ r h; simp [ev_o] at h
  | cons op ops ih =>
    intro L st σ r h
    unfold ev_o at h ⊢
    rcases hx : ev_x op L st σ with _ | ⟨L1, st1, σ1⟩ | ⟨t, L1, st1, σ1⟩ | q | ⟨j', as, rest, L1, σ1⟩ <;> rw [hx] at h <;> dsimp only at h ⊢
    · cases h
    · exact ih _ _ _ _ h
    · exact EB_iff.mp h
    · exact ⟨0, h⟩
    · rcases hc : EM j' as σ1 with _ | ⟨v, σ2⟩ <;> rw [hc] at h <;> dsimp only at h
      · cases h
      · obtain ⟨f, hf⟩ : ∃ f, ev_go (ev_b f) j' as σ1 = some (v, σ2) := by
          unfold EM ev_go at hc
          split at hc
          · next hle =>
            obtain ⟨f, hf⟩ := EB_iff.mp hc
            exact ⟨f, by unfold ev_go; rw [if_pos hle]; exact hf⟩
          · cases hc
        obtain ⟨g, hg⟩ := ih _ _ _ _ h
        refine ⟨max f g, ?_⟩
        rw [ev_go_mono (fun j t L st σ r h => ev_b_le (Nat.le_max_left f g) h) _ _ _ _ hf]
        dsimp only
        exact ev_o_mono (ev_go_mono (fun j t L st σ r h => ev_b_le (Nat.le_max_right f g) h)) (fun t L st σ r h => ev_b_le (Nat.le_max_right f g) h) _ _ _ _ _ hg
theorem EB_eq (j t : Nat) (L : ev_L) (st : List ev_V) (σ : ev_M) : EB j t L st σ = EO j (ev_blk j t) L st σ := by
  apply Option.ext
  intro r
  constructor
  · intro h
    obtain ⟨f, hf⟩ := EB_iff.mp h
    cases f with
    | zero => simp [ev_b] at hf
    | succ f =>
      unfold ev_b at hf
      exact ev_o_mono (ev_go_mono (fun j t L st σ r h => EB_iff.mpr ⟨f, h⟩)) (fun t L st σ r h => EB_iff.mpr ⟨f, h⟩) _ _ _ _ _ hf
  · intro h
    obtain ⟨f, hf⟩ := ev_o_cont _ _ _ _ _ _ h
    exact EB_iff.mpr ⟨f + 1, by unfold ev_b; exact hf⟩
end
section
/-! what the pure machine says of the real one: the world of the cells, the locals, an instruction each -/
def ev_rv (ad : Int → Nat) : ev_V → Value
  | .inl x => .int (Int32.ofInt x)
  | .inr (.inl i) => .ref (ad i)
  | .inr (.inr h) => .long h
def ev_fv (ad : Int → Nat) (σ : ev_M) (i : Int) (c k : Nat) : Value := match ev_kd c k with
  | (0, _) => .int (Int32.ofInt (σ i k))
  | (1, o) => .ref (ad (i + o))
  | _ => .long (Int64.ofInt (σ i k))
def ev_e (cI cZ cS : ClassId) (ad : Int → Nat) (σ : ev_M) (i : Int) : va_E :=
  if ev_cls i = 12 then .inl (cI, (ev_len i).toNat, .inl (fun j => Int32.ofInt (σ i (j : Int))))
  else if ev_cls i = 13 then .inl (cZ, (ev_len i).toNat, .inl (fun j => Int32.ofInt (σ i (j : Int))))
  else if ev_cls i = 14 then .inl (cS, (ev_len i).toNat, .inr (.inr (.inr (.inr (fun j => some (ad (σ i (j : Int))))))))
  else .inr (ev_cls i, (List.range (ev_N (ev_cls i))).map (ev_fv ad σ i (ev_cls i)))
def ev_wd (cI cZ cS : ClassId) (ad : Int → Nat) (σ : ev_M) : va_W := (List.range 182).map (fun i : Nat => (ad (Int.ofNat i), ev_e cI cZ cS ad σ (Int.ofNat i)))
theorem ev_sh_len : ev_sh.length = 182 := by decide +kernel
theorem ev_cls_in {i : Int} (h : ev_cls i < 99) : 0 ≤ i ∧ i < 182 := by
  unfold ev_cls at h
  split at h
  · omega
  · refine ⟨by omega, ?_⟩
    rcases Nat.lt_or_ge i.toNat 182 with h1 | h1
    · omega
    · rw [List.getD_eq_getElem?_getD, List.getElem?_eq_none (by rw [ev_sh_len]; exact h1)] at h
      exact absurd h (by decide)
theorem ev_wd_get (cI cZ cS : ClassId) (ad : Int → Nat) (σ : ev_M) {i : Int} (h : 0 ≤ i ∧ i < 182) : (ev_wd cI cZ cS ad σ)[i.toNat]? = some (ad i, ev_e cI cZ cS ad σ i) := by
  unfold ev_wd
  rw [List.getElem?_map, List.getElem?_range (by omega)]
  have : Int.ofNat i.toNat = i := by show ((i.toNat : Nat) : Int) = i; omega
  simp only [Option.map_some]
  rw [this]
theorem ev_e_congr {cI cZ cS : ClassId} {ad : Int → Nat} {σ σ' : ev_M} {i : Int} (h : σ' i = σ i) : ev_e cI cZ cS ad σ' i = ev_e cI cZ cS ad σ i := by
  have h2 : ev_fv ad σ' i (ev_cls i) = ev_fv ad σ i (ev_cls i) := by
    funext k
    unfold ev_fv
    rw [h]
  unfold ev_e
  rw [h2, h]
theorem ev_wd_set {cI cZ cS : ClassId} {ad : Int → Nat} {σ σ' : ev_M} {i : Int} {x : va_E} (hi : 0 ≤ i ∧ i < 182) (h : ∀ m, m ≠ i → σ' m = σ m) (he : ev_e cI cZ cS ad σ' i = x) : (ev_wd cI cZ cS ad σ).set i.toNat (ad i, x) = ev_wd cI cZ cS ad σ' := by
  subst he
  apply List.ext_getElem?
  intro n
  rw [List.getElem?_set]
  by_cases hn : i.toNat = n
  · subst hn
    rw [if_pos rfl, ev_wd_get cI cZ cS ad σ' hi]
    have : i.toNat < (ev_wd cI cZ cS ad σ).length := by
      have e : (ev_wd cI cZ cS ad σ).length = 182 := by simp [ev_wd]
      omega
    rw [if_pos this]
  · rw [if_neg hn]
    unfold ev_wd
    rw [List.getElem?_map, List.getElem?_map]
    rcases Nat.lt_or_ge n 182 with h1 | h1
    · rw [List.getElem?_range h1]
      simp only [Option.map_some]
      rw [ev_e_congr (h (Int.ofNat n) (by show ((n : Nat) : Int) ≠ i; omega))]
    · rw [List.getElem?_eq_none (by simp; omega)]
      rfl
theorem ev_wd_D {cI cZ cS : ClassId} {ad : Int → Nat} {A : Nat → Prop} (hA : ∀ i : Int, 0 ≤ i → i < 182 → A (ad i)) (hd : ∀ i j : Int, 0 ≤ i → i < 182 → 0 ≤ j → j < 182 → ad i = ad j → i = j) (σ : ev_M) : va_D A (ev_wd cI cZ cS ad σ) := by
  have key : ∀ (n : Nat) (q : Nat × va_E), (ev_wd cI cZ cS ad σ)[n]? = some q → n < 182 ∧ q.1 = ad (Int.ofNat n) := by
    intro n q hq
    unfold ev_wd at hq
    rw [List.getElem?_map] at hq
    rcases Nat.lt_or_ge n 182 with h1 | h1
    · rw [List.getElem?_range h1] at hq
      simp only [Option.map_some] at hq
      cases hq
      exact ⟨h1, rfl⟩
    · rw [List.getElem?_eq_none (by simp; omega)] at hq
      cases hq
  refine ⟨fun i j p q hp hq e => ?_, fun k q hq => ?_⟩
  · obtain ⟨h1, e1⟩ := key i p hp
    obtain ⟨h2, e2⟩ := key j q hq
    have := hd (Int.ofNat i) (Int.ofNat j) (Int.natCast_nonneg i) (by show ((i : Nat) : Int) < 182; omega) (Int.natCast_nonneg j) (by show ((j : Nat) : Int) < 182; omega) (by rw [← e1, ← e2, e])
    exact Int.ofNat.inj this
  · obtain ⟨h1, e1⟩ := key k q hq
    rw [e1]
    exact hA _ (Int.natCast_nonneg k) (by show ((k : Nat) : Int) < 182; omega)
/-! numbers -/
theorem ev_ti (x : Int) : (Int32.ofInt x).toInt = ev_wr x := by
  rw [Int32.toInt_ofInt]
  unfold ev_wr Int.bmod
  have : (Int32.size : Int) = 4294967296 := by decide
  simp only [Int32.size] at this ⊢
  split <;> omega
theorem ev_clamp (x : Int) : (Int32.ofInt x).toNatClampNeg = (ev_wr x).toNat := by
  show (Int32.ofInt x).toInt.toNat = _
  rw [ev_ti]
theorem ev_vin {x : Int} {n : Int} (h0 : 0 ≤ ev_wr x) (h1 : ev_wr x < n) : vp_in (Int32.ofInt x) n.toNat := by
  rw [vp_in_iff, ev_ti]
  omega
theorem ev_oi_wr (x : Int) : Int32.ofInt (ev_wr x) = Int32.ofInt x := by
  rw [← ev_ti]
  exact Int32.ofInt_toInt _
theorem ev_wr_lo (x : Int) : -2147483648 ≤ ev_wr x ∧ ev_wr x ≤ 2147483647 := by
  unfold ev_wr
  omega
theorem ev_oi_add (a b : Int) : Int32.ofInt (a + b) = Int32.ofInt a + Int32.ofInt b := Int32.ofInt_add a b
theorem ev_oi_mul (a b : Int) : Int32.ofInt (a * b) = Int32.ofInt a * Int32.ofInt b := Int32.ofInt_mul a b
theorem ev_oi_sub (a b : Int) : Int32.ofInt (a - b) = Int32.ofInt a - Int32.ofInt b := by
  rw [← Int32.toInt_inj, Int32.toInt_sub, ev_ti, ev_ti, ev_ti]
  unfold ev_wr
  simp only [Int.bmod]
  split <;> omega
theorem ev_oi_ti (x : Int32) : Int32.ofInt x.toInt = x := Int32.ofInt_toInt x
theorem ev_oi_div (a b : Int) : Int32.ofInt (ev_div a b) = Int32.ofInt a / Int32.ofInt b := by
  rw [← Int32.toInt_inj, Int32.toInt_div, Int32.toInt_ofInt, ev_ti, ev_ti]
  rfl
theorem ev_oi_rem (a b : Int) : Int32.ofInt (ev_rem a b) = Int32.ofInt a - Int32.ofInt a / Int32.ofInt b * Int32.ofInt b := by
  unfold ev_rem
  rw [← ev_ti a, ← ev_ti b, ← rem_toInt]
  exact Int32.ofInt_toInt _
theorem ev_oi_inj {a b : Int} : Int32.ofInt a = Int32.ofInt b ↔ ev_wr a = ev_wr b := by
  rw [← Int32.toInt_inj, ev_ti, ev_ti]
theorem ev_oi_lt {a b : Int} : Int32.ofInt a < Int32.ofInt b ↔ ev_wr a < ev_wr b := by
  rw [Int32.lt_iff_toInt_lt, ev_ti, ev_ti]
theorem ev_oi_le {a b : Int} : Int32.ofInt a ≤ Int32.ofInt b ↔ ev_wr a ≤ ev_wr b := by
  rw [Int32.le_iff_toInt_le, ev_ti, ev_ti]
theorem ev_oi_0 : Int32.ofInt 0 = 0 := rfl
theorem ev_wr_0 : ev_wr 0 = 0 := by decide
/-! locals -/
theorem ev_get_set (L : ev_L) (i k : Nat) (v : Option ev_V) : ev_get (ev_set L i v) k = if k = i ∧ i < L.length then v else ev_get L k := by
  induction L generalizing i k with
  | nil => simp [ev_set, ev_get]
  | cons a t ih =>
    cases i with
    | zero => cases k <;> simp [ev_set, ev_get]
    | succ i =>
      cases k with
      | zero => simp [ev_set, ev_get]
      | succ k => simp [ev_set, ev_get, ih]
theorem ev_set_len (L : ev_L) (i : Nat) (v : Option ev_V) : (ev_set L i v).length = L.length := by
  induction L generalizing i with
  | nil => simp [ev_set]
  | cons a t ih => cases i <;> simp [ev_set, ih]
theorem ev_get_lt {L : ev_L} {k : Nat} {v : ev_V} (h : ev_get L k = some v) : k < L.length := by
  induction L generalizing k with
  | nil => simp [ev_get] at h
  | cons a t ih =>
    cases k with
    | zero => simp
    | succ k => simp only [ev_get] at h; have := ih h; simp; omega
def ev_al (ad : Int → Nat) (L : ev_L) : List (Nat × Value) := (List.range L.length).filterMap (fun k => (ev_get L k).map (fun v => (k, ev_rv ad v)))
theorem ev_al_mem {ad : Int → Nat} {L : ev_L} {q : Nat × Value} : q ∈ ev_al ad L ↔ ∃ v, ev_get L q.1 = some v ∧ q.2 = ev_rv ad v := by
  unfold ev_al
  rw [List.mem_filterMap]
  constructor
  · rintro ⟨k, hk, h⟩
    cases hg : ev_get L k with
    | none => rw [hg] at h; cases h
    | some v => rw [hg] at h; cases h; exact ⟨v, hg, rfl⟩
  · rintro ⟨v, hg, e⟩
    refine ⟨q.1, List.mem_range.mpr (ev_get_lt hg), ?_⟩
    rw [hg]
    simp [← e]
def ev_lh (ad : Int → Nat) (ls : Array Slot) (n : Nat) (L : ev_L) : Prop := L.length = n ∧ lv_has ls n (ev_al ad L)
theorem ev_lh_get {ad : Int → Nat} {ls : Array Slot} {n : Nat} {L : ev_L} {k : Nat} {v : ev_V} (h : ev_lh ad ls n L) (hg : ev_get L k = some v) : ls[k]? = some (.val (ev_rv ad v)) :=
  h.2.2.2 (k, ev_rv ad v) (ev_al_mem.mpr ⟨v, hg, rfl⟩)
theorem ev_rv_cat (ad : Int → Nat) (v : ev_V) : (ev_rv ad v).category = match v with
    | .inr (.inr _) => 2
    | _ => 1 := by
  rcases v with x | i | h <;> rfl
theorem ev_nl_cat {ad : Int → Nat} {L : ev_L} {i k : Nat} {v : ev_V} (hn : ev_nl L i = true) (hk : k + 1 = i) (hg : ev_get L k = some v) : ((ev_rv ad v).category == 2) = false := by
  subst hk
  rcases v with x | i | h
  · rfl
  · rfl
  · simp [ev_nl, hg] at hn
theorem ev_lh_store1 {ad : Int → Nat} {ls' : Array Slot} {n i : Nat} {L : ev_L} {v : ev_V} (hl : L.length = n) (hn : ev_nl L i = true) (h : lv_has ls' n ((i, ev_rv ad v) :: (ev_al ad L).filter (fun q => !(q.1 == i) && !(q.1 + 1 == i && q.2.category == 2)))) : ev_lh ad ls' n (ev_set L i (some v)) := by
  refine ⟨by rw [ev_set_len, hl], h.1, h.2.1, fun q hq => ?_⟩
  obtain ⟨u, hu, e⟩ := ev_al_mem.mp hq
  rw [ev_get_set] at hu
  by_cases c : q.1 = i ∧ i < L.length
  · rw [if_pos c] at hu
    cases hu
    refine h.2.2 q (List.mem_cons.mpr (Or.inl ?_))
    rw [← c.1, ← e]
  · rw [if_neg c] at hu
    have hlt := ev_get_lt hu
    have hne : q.1 ≠ i := fun e => c ⟨e, by rw [← e]; exact hlt⟩
    refine h.2.2 q (List.mem_cons_of_mem _ (List.mem_filter.mpr ⟨ev_al_mem.mpr ⟨u, hu, e⟩, ?_⟩))
    by_cases h1 : q.1 + 1 = i
    · rw [e, ev_nl_cat hn h1 hu]
      simp [hne]
    · simp [hne, h1]
theorem ev_lh_store2 {ad : Int → Nat} {ls' : Array Slot} {n i : Nat} {L : ev_L} {v : ev_V} (hl : L.length = n) (hn : ev_nl L i = true) (h : lv_has ls' n ((i, ev_rv ad v) :: (ev_al ad L).filter (fun q => !(q.1 == i) && (!(q.1 == i + 1) && !(q.1 + 1 == i && q.2.category == 2))))) : ev_lh ad ls' n (ev_set (ev_set L (i + 1) none) i (some v)) := by
  refine ⟨by rw [ev_set_len, ev_set_len, hl], h.1, h.2.1, fun q hq => ?_⟩
  obtain ⟨u, hu, e⟩ := ev_al_mem.mp hq
  rw [ev_get_set, ev_set_len] at hu
  by_cases c : q.1 = i ∧ i < L.length
  · rw [if_pos c] at hu
    cases hu
    refine h.2.2 q (List.mem_cons.mpr (Or.inl ?_))
    rw [← c.1, ← e]
  · rw [if_neg c, ev_get_set] at hu
    by_cases c2 : q.1 = i + 1 ∧ i + 1 < L.length
    · rw [if_pos c2] at hu
      cases hu
    · rw [if_neg c2] at hu
      have hlt := ev_get_lt hu
      have hne : q.1 ≠ i := fun e => c ⟨e, by rw [← e]; exact hlt⟩
      have hne2 : q.1 ≠ i + 1 := fun e => c2 ⟨e, by rw [← e]; exact hlt⟩
      refine h.2.2 q (List.mem_cons_of_mem _ (List.mem_filter.mpr ⟨ev_al_mem.mpr ⟨u, hu, e⟩, ?_⟩))
      by_cases h1 : q.1 + 1 = i
      · rw [e, ev_nl_cat hn h1 hu]
        simp [hne, hne2]
      · simp [hne, hne2, h1]
theorem ev_w_cat (ad : Int → Nat) (st : List ev_V) : (((st.map (ev_rv ad)).map fun v => v.category)).sum = ev_w st := by
  induction st with
  | nil => rfl
  | cons a t ih =>
    simp only [List.map_cons, List.sum_cons, ih]
    rcases a with x | i | h <;> rfl
theorem ev_lay_sl (ad : Int → Nat) (as : List ev_V) : (lg_sl (as.map (ev_rv ad))).length = (ev_lay as).length := by
  induction as with
  | nil => rfl
  | cons a t ih =>
    have e : lg_sl ((a :: t).map (ev_rv ad)) = (if (ev_rv ad a).category = 2 then [.val (ev_rv ad a), .second] else [.val (ev_rv ad a)]) ++ lg_sl (t.map (ev_rv ad)) := by
      simp [lg_sl]
    rw [e, List.length_append, ih]
    rcases a with x | i | h
    · simp only [ev_rv_cat, ev_lay]; simp; omega
    · simp only [ev_rv_cat, ev_lay]; simp; omega
    · simp only [ev_rv_cat, ev_lay]; simp; omega
theorem ev_args_mem (ad : Int → Nat) (as : List ev_V) : ∀ (n k : Nat) (v : ev_V), ev_get (ev_lay as) k = some v → (n + k, ev_rv ad v) ∈ lv_args n (as.map (ev_rv ad)) := by
  induction as with
  | nil => intro n k v h; simp [ev_lay, ev_get] at h
  | cons a t ih =>
    intro n k v h
    rcases a with x | i | z
    · cases k with
      | zero => simp only [ev_lay, ev_get] at h; cases h; simp [lv_args]
      | succ k =>
        simp only [ev_lay, ev_get] at h
        have := ih (n + 1) k v h
        simp only [List.map_cons, lv_args, ev_rv_cat]
        rw [show n + (k + 1) = n + 1 + k by omega]
        exact List.mem_cons_of_mem _ this
    · cases k with
      | zero => simp only [ev_lay, ev_get] at h; cases h; simp [lv_args]
      | succ k =>
        simp only [ev_lay, ev_get] at h
        have := ih (n + 1) k v h
        simp only [List.map_cons, lv_args, ev_rv_cat]
        rw [show n + (k + 1) = n + 1 + k by omega]
        exact List.mem_cons_of_mem _ this
    · cases k with
      | zero => simp only [ev_lay, ev_get] at h; cases h; simp [lv_args]
      | succ k =>
        cases k with
        | zero => simp only [ev_lay, ev_get] at h; cases h
        | succ k =>
          simp only [ev_lay, ev_get] at h
          have := ih (n + 2) k v h
          simp only [List.map_cons, lv_args, ev_rv_cat]
          rw [show n + (k + 1 + 1) = n + 2 + k by omega]
          exact List.mem_cons_of_mem _ this
theorem ev_get_app (X Y : ev_L) (k : Nat) : ev_get (X ++ Y) k = if k < X.length then ev_get X k else ev_get Y (k - X.length) := by
  induction X generalizing k with
  | nil => simp
  | cons a t ih =>
    cases k with
    | zero => simp [ev_get]
    | succ k =>
      simp only [List.cons_append, ev_get, ih, List.length_cons]
      have : (k + 1 < t.length + 1) ↔ (k < t.length) := by omega
      simp only [this]
      congr 2
      omega
theorem ev_get_rep (n k : Nat) : ev_get (List.replicate n none) k = none := by
  induction n generalizing k with
  | zero => simp [ev_get]
  | succ n ih => cases k <;> simp [List.replicate_succ, ev_get, ih]
theorem ev_lh_entry {ad : Int → Nat} {j : Nat} {as : List ev_V} {n : Nat} (hn : ev_mxl j = n) (h : (ev_lay as).length ≤ n) : ev_lh ad ((lg_sl (as.map (ev_rv ad)) ++ List.replicate (n - (lg_sl (as.map (ev_rv ad))).length) Slot.unset).toArray) n (ev_ent j as) := by
  subst hn
  have h1 := lv_entry (as.map (ev_rv ad)) (n := ev_mxl j) (by rw [ev_lay_sl]; exact h)
  refine ⟨by simp [ev_ent]; omega, h1.1, h1.2.1, fun q hq => ?_⟩
  obtain ⟨v, hv, e⟩ := ev_al_mem.mp hq
  unfold ev_ent at hv
  rw [ev_get_app] at hv
  split at hv
  · have := ev_args_mem ad as 0 q.1 v hv
    rw [Nat.zero_add] at this
    refine h1.2.2 q ?_
    rw [show q = (q.1, ev_rv ad v) by rw [← e]]
    exact this
  · rw [ev_get_rep] at hv
    cases hv
end
section
def ev_swi (k : Nat) : Instr × Nat := match k with
  | 0 => (.tableswitch 66 0 7 #[47, 49, 49, 51, 54, 57, 60, 63], 47)
  | 1 => (.tableswitch 169 0 10 #[59, 70, 81, 92, 103, 114, 122, 130, 138, 146, 154], 59)
  | 2 => (.tableswitch 82 0 3 #[30, 43, 56, 69], 30)
  | 3 => (.tableswitch 180 0 8 #[50, 63, 76, 92, 105, 118, 130, 147, 168], 50)
  | 4 => (.tableswitch 134 0 5 #[38, 52, 66, 80, 94, 120], 38)
  | 5 => (.tableswitch 90 0 3 #[30, 43, 56, 69], 30)
  | 6 => (.lookupswitch 80 #[(0, 34), (5, 47), (6, 71)], 34)
  | _ => (.tableswitch 375 0 16 #[82, 94, 127, 145, 145, 177, 177, 200, 216, 236, 236, 250, 250, 256, 314, 314, 332], 82)
/-! an instruction each -/
def ev_in (op : ev_O) : Instr × Nat := match op with
  | (0, k, f, _, _) => if f = 0 then (.iload_n (Fin.ofNat 4 k), 1) else (.iload k, 2)
  | (1, k, f, _, _) => if f = 0 then (.aload_n (Fin.ofNat 4 k), 1) else (.aload k, 2)
  | (2, k, f, _, _) => if f = 0 then (.lload_n (Fin.ofNat 4 k), 1) else (.lload k, 2)
  | (3, k, f, _, _) => if f = 0 then (.istore_n (Fin.ofNat 4 k), 1) else (.istore k, 2)
  | (4, k, f, _, _) => if f = 0 then (.astore_n (Fin.ofNat 4 k), 1) else (.astore k, 2)
  | (5, k, f, _, _) => if f = 0 then (.lstore_n (Fin.ofNat 4 k), 1) else (.lstore k, 2)
  | (6, f, _, z, _) => if f = 0 then (.iconst z, 1) else if f = 1 then (.bipush z, 2) else (.sipush z, 3)
  | (7, k, _, _, _) => (.ldc k, 2)
  | (8, k, _, _, _) => (.ldc2_w k, 3)
  | (9, _, _, _, _) => (.lcmp, 1)
  | (10, _, _, _, _) => (.iadd, 1)
  | (11, _, _, _, _) => (.isub, 1)
  | (12, _, _, _, _) => (.imul, 1)
  | (13, _, _, _, _) => (.idiv, 1)
  | (14, _, _, _, _) => (.irem, 1)
  | (15, _, _, _, _) => (.iand, 1)
  | (16, _, _, _, _) => (.ior, 1)
  | (17, _, _, _, _) => (.ixor, 1)
  | (18, _, _, _, _) => (.ishl, 1)
  | (19, _, _, _, _) => (.ishr, 1)
  | (20, _, _, _, _) => (.ladd, 1)
  | (21, _, _, _, _) => (.lmul, 1)
  | (22, _, _, _, _) => (.i2l, 1)
  | (23, k, _, z, _) => (.iinc k z, 3)
  | (24, _, _, _, _) => (.dup, 1)
  | (25, _, _, _, _) => (.dup2, 1)
  | (26, _, _, _, _) => (.pop, 1)
  | (27, k, _, _, _) => (.getfield k, 3)
  | (28, k, _, _, _) => (.getfield k, 3)
  | (29, k, _, _, _) => (.getfield k, 3)
  | (30, k, _, _, _) => (.putfield k, 3)
  | (31, k, _, _, _) => (.putfield k, 3)
  | (32, _, _, _, _) => (.iaload, 1)
  | (33, _, _, _, _) => (.iastore, 1)
  | (34, _, _, _, _) => (.baload, 1)
  | (35, _, _, _, _) => (.bastore, 1)
  | (36, _, _, _, _) => (.aaload, 1)
  | (37, _, _, _, _) => (.aastore, 1)
  | (38, k, _, _, _) => (.invokestatic k, 3)
  | (40, _, _, z, _) => (.if_icmp .eq z, 3)
  | (41, _, _, z, _) => (.if_icmp .ne z, 3)
  | (42, _, _, z, _) => (.if_icmp .lt z, 3)
  | (43, _, _, z, _) => (.if_icmp .ge z, 3)
  | (44, _, _, z, _) => (.if_icmp .gt z, 3)
  | (45, _, _, z, _) => (.if_icmp .le z, 3)
  | (46, _, _, z, _) => (.ifCond .eq z, 3)
  | (47, _, _, z, _) => (.ifCond .ne z, 3)
  | (48, _, _, z, _) => (.ifCond .lt z, 3)
  | (49, _, _, z, _) => (.ifCond .ge z, 3)
  | (50, _, _, z, _) => (.ifCond .gt z, 3)
  | (51, _, _, z, _) => (.ifCond .le z, 3)
  | (52, _, _, z, _) => (.goto z, 3)
  | (54, k, _, _, _) => ev_swi k
  | (55, k, _, _, _) => ev_swi k
  | (56, _, _, _, _) => (.ireturn, 1)
  | (57, _, _, _, _) => (.lreturn, 1)
  | (58, _, _, _, _) => (.return_, 1)
  | (59, _, _, z, _) => (.invokevirtual z.toNat, 3)
  | (60, _, _, z, _) => (.invokestatic z.toNat, 3)
  | (61, k, _, _, _) => (.invokestatic k, 3)
  | (62, k, _, _, _) => (.invokestatic k, 3)
  | (63, k, _, _, _) => (.invokestatic k, 3)
  | _ => (.nop, 1)
def ev_NW (U : State) : Prop := (∀ q ∈ ev_frs, q.1 ≠ q.2.2.1 → va_Nw (ev_frw q) U) ∧ (∀ q ∈ ev_mrs, ¬ q.2.2.2 < 2 → va_Nw (ev_mrw q) U)
abbrev ev_ty (cI cZ cS : ClassId) : List (ClassId × FieldType) := [(cI, .int), (cZ, .boolean), (cS, .object "BridgeRounds$State")]
def ev_F (p : Program) (s : State) (m : MethodId) (args : Array Value) (meth : Method) (c : Code) (D : va_G) (cI cZ cS : ClassId) (ad : Int → Nat) (A : Nat → Prop) (j : Nat) : Prop :=
  p.tables.exec = Jvm.exec ∧ c.code = ev_bc j ∧ meth.sig.returnType = ev_ret j ∧ c.maxLocals = ev_mxl j ∧ s.vm.findClass (ev_cn (ev_own j)) = some m.cls ∧ (∀ w ∈ ev_gw, w.before args s = true) ∧ va_K D vwCl (ev_ty cI cZ cS) s ∧ ev_NW s ∧ meth.locks = false ∧ ∀ σ, va_D A (ev_wd cI cZ cS ad σ)
def ev_W (p : Program) (l : Launch) (e : Env) (s : State) (m : MethodId) (args : Array Value) (below : List Frame) (meth : Method) (c : Code) (D : va_G) (cI cZ cS : ClassId) (ad : Int → Nat) (A : Nat → Prop) (Q : State → Prop) (j pc : Nat) (L : ev_L) (st : List ev_V) (σ : ev_M) : Prop :=
  ∀ (H : Heap) (locs : List Loc) (ls : Array Slot), va_P D vwCl (ev_wd cI cZ cS ad σ) H → va_S A s.heap H locs → ev_lh ad ls (ev_mxl j) L → W p l e (headSpec (ev_wo j) (ev_rm j)).room s m args below meth c H locs (ev_c0 j) (ev_c1 j) Q (F0 m pc ls (st.map (ev_rv ad)))
theorem ev_c0_le (j : Nat) : ev_c0 j ≤ (ev_rm j).cells := by
  unfold ev_c0 ev_rm
  split
  · exact Nat.le_of_ble_eq_true rfl
  · exact Nat.le_refl _
theorem ev_c1_le (j : Nat) : ev_c1 j ≤ (ev_rm j).slots := by
  unfold ev_c1 ev_rm
  split
  · exact Nat.le_of_ble_eq_true rfl
  · exact Nat.le_refl _
theorem ev_rm0 {j : Nat} (h : j < 113) : (ev_rm j).cells = 0 ∧ (ev_rm j).slots = 0 := by
  unfold ev_rm
  rw [if_neg (by omega)]
  exact ⟨rfl, rfl⟩
theorem ev_c00 {j : Nat} (h : j < 113) : ev_c0 j = 0 ∧ ev_c1 j = 0 := by
  unfold ev_c0 ev_c1
  rw [if_neg (by omega), if_neg (by omega)]
  exact ⟨rfl, rfl⟩
theorem ev_oi_lc (a b : Int64) : Int32.ofInt (ev_lc a b) = lg_cmp a b := by
  unfold ev_lc lg_cmp
  by_cases h1 : b < a
  · rw [if_pos h1, if_pos h1]; rfl
  · rw [if_neg h1, if_neg h1]
    by_cases h2 : a = b
    · rw [if_pos h2, if_pos h2]; rfl
    · rw [if_neg h2, if_neg h2]; rfl
theorem ev_fin {k : Nat} (h : k < 4) : ((Fin.ofNat 4 k : Fin 4) : Nat) = k := by
  simp [Fin.ofNat, Nat.mod_eq_of_lt h]
section SND
variable {p : Program} {l : Launch} {e : Env} {s : State} {m : MethodId} {args : Array Value} {below : List Frame} {meth : Method} {c : Code} {D : va_G} {cI cZ cS : ClassId} {ad : Int → Nat} {A : Nat → Prop} {Q : State → Prop} {j pc : Nat} {L : ev_L} {st : List ev_V} {σ : ev_M}
theorem sd_iload (F : ev_F p s m args meth c D cI cZ cS ad A j) {k f : Nat} {x : Int} (hd : decode (ev_bc j) pc = .ok (if f = 0 then (.iload_n (Fin.ofNat 4 k), 1) else (.iload k, 2))) (hk : f = 0 → k < 4) (hg : ev_get L k = some (.inl x))
    (kk : ev_W p l e s m args below meth c D cI cZ cS ad A Q j (pc + if f = 0 then 1 else 2) L (.inl x :: st) σ) : ev_W p l e s m args below meth c D cI cZ cS ad A Q j pc L st σ := by
  intro H locs ls hP hS hl
  have h1 := ev_lh_get hl hg
  by_cases hf : f = 0
  · rw [if_pos hf] at hd kk
    exact lv_iload_n F.1 F.2.1 hd (ev_fin (hk hf)) h1 (kk H locs ls hP hS hl)
  · rw [if_neg hf] at hd kk
    exact lv_iload F.1 F.2.1 hd h1 (kk H locs ls hP hS hl)
theorem sd_aload (F : ev_F p s m args meth c D cI cZ cS ad A j) {k f : Nat} {x : Int} (hd : decode (ev_bc j) pc = .ok (if f = 0 then (.aload_n (Fin.ofNat 4 k), 1) else (.aload k, 2))) (hk : f = 0 → k < 4) (hg : ev_get L k = some (.inr (.inl x)))
    (kk : ev_W p l e s m args below meth c D cI cZ cS ad A Q j (pc + if f = 0 then 1 else 2) L (.inr (.inl x) :: st) σ) : ev_W p l e s m args below meth c D cI cZ cS ad A Q j pc L st σ := by
  intro H locs ls hP hS hl
  have h1 := ev_lh_get hl hg
  by_cases hf : f = 0
  · rw [if_pos hf] at hd kk
    exact lv_aload_n F.1 F.2.1 hd (ev_fin (hk hf)) h1 (kk H locs ls hP hS hl)
  · rw [if_neg hf] at hd kk
    exact lv_aload F.1 F.2.1 hd h1 (kk H locs ls hP hS hl)
theorem sd_lload (F : ev_F p s m args meth c D cI cZ cS ad A j) {k f : Nat} {x : Int64} (hd : decode (ev_bc j) pc = .ok (if f = 0 then (.lload_n (Fin.ofNat 4 k), 1) else (.lload k, 2))) (hk : f = 0 → k < 4) (hg : ev_get L k = some (.inr (.inr x)))
    (kk : ev_W p l e s m args below meth c D cI cZ cS ad A Q j (pc + if f = 0 then 1 else 2) L (.inr (.inr x) :: st) σ) : ev_W p l e s m args below meth c D cI cZ cS ad A Q j pc L st σ := by
  intro H locs ls hP hS hl
  have h1 := ev_lh_get hl hg
  by_cases hf : f = 0
  · rw [if_pos hf] at hd kk
    exact lv_lload_n F.1 F.2.1 hd (ev_fin (hk hf)) h1 (kk H locs ls hP hS hl)
  · rw [if_neg hf] at hd kk
    exact lv_lload F.1 F.2.1 hd h1 (kk H locs ls hP hS hl)
theorem sd_istore (F : ev_F p s m args meth c D cI cZ cS ad A j) {k f : Nat} {x : Int} (hd : decode (ev_bc j) pc = .ok (if f = 0 then (.istore_n (Fin.ofNat 4 k), 1) else (.istore k, 2))) (hk : f = 0 → k < 4) (hn : ev_nl L k = true) (hlt : k < L.length)
    (kk : ev_W p l e s m args below meth c D cI cZ cS ad A Q j (pc + if f = 0 then 1 else 2) (ev_set L k (some (.inl x))) st σ) : ev_W p l e s m args below meth c D cI cZ cS ad A Q j pc L (.inl x :: st) σ := by
  intro H locs ls hP hS hl
  by_cases hf : f = 0
  · rw [if_pos hf] at hd kk
    exact lv_istore_n F.1 F.2.1 hd (ev_fin (hk hf)) hl.2 (by rw [← hl.1]; exact hlt) rfl (fun ls' h' => kk H locs ls' hP hS (ev_lh_store1 (v := .inl x) hl.1 hn h'))
  · rw [if_neg hf] at hd kk
    exact lv_istore F.1 F.2.1 hd hl.2 (by rw [← hl.1]; exact hlt) rfl (fun ls' h' => kk H locs ls' hP hS (ev_lh_store1 (v := .inl x) hl.1 hn h'))
theorem sd_astore (F : ev_F p s m args meth c D cI cZ cS ad A j) {k f : Nat} {x : Int} (hd : decode (ev_bc j) pc = .ok (if f = 0 then (.astore_n (Fin.ofNat 4 k), 1) else (.astore k, 2))) (hk : f = 0 → k < 4) (hn : ev_nl L k = true) (hlt : k < L.length)
    (kk : ev_W p l e s m args below meth c D cI cZ cS ad A Q j (pc + if f = 0 then 1 else 2) (ev_set L k (some (.inr (.inl x)))) st σ) : ev_W p l e s m args below meth c D cI cZ cS ad A Q j pc L (.inr (.inl x) :: st) σ := by
  intro H locs ls hP hS hl
  by_cases hf : f = 0
  · rw [if_pos hf] at hd kk
    exact lv_astore_n F.1 F.2.1 hd (ev_fin (hk hf)) hl.2 (by rw [← hl.1]; exact hlt) rfl (fun ls' h' => kk H locs ls' hP hS (ev_lh_store1 (v := .inr (.inl x)) hl.1 hn h'))
  · rw [if_neg hf] at hd kk
    exact lv_astore F.1 F.2.1 hd hl.2 (by rw [← hl.1]; exact hlt) rfl (fun ls' h' => kk H locs ls' hP hS (ev_lh_store1 (v := .inr (.inl x)) hl.1 hn h'))
theorem sd_lstore (F : ev_F p s m args meth c D cI cZ cS ad A j) {k f : Nat} {x : Int64} (hd : decode (ev_bc j) pc = .ok (if f = 0 then (.lstore_n (Fin.ofNat 4 k), 1) else (.lstore k, 2))) (hk : f = 0 → k < 4) (hn : ev_nl L k = true) (hlt : k + 1 < L.length)
    (kk : ev_W p l e s m args below meth c D cI cZ cS ad A Q j (pc + if f = 0 then 1 else 2) (ev_set (ev_set L (k + 1) none) k (some (.inr (.inr x)))) st σ) : ev_W p l e s m args below meth c D cI cZ cS ad A Q j pc L (.inr (.inr x) :: st) σ := by
  intro H locs ls hP hS hl
  by_cases hf : f = 0
  · rw [if_pos hf] at hd kk
    exact lv_lstore_n F.1 F.2.1 hd (ev_fin (hk hf)) hl.2 (by rw [← hl.1]; exact hlt) rfl (fun ls' h' => kk H locs ls' hP hS (ev_lh_store2 (v := .inr (.inr x)) hl.1 hn h'))
  · rw [if_neg hf] at hd kk
    exact lv_lstore F.1 F.2.1 hd hl.2 (by rw [← hl.1]; exact hlt) rfl (fun ls' h' => kk H locs ls' hP hS (ev_lh_store2 (v := .inr (.inr x)) hl.1 hn h'))
theorem sd_const (F : ev_F p s m args meth c D cI cZ cS ad A j) {f : Nat} {z : Int} (hd : decode (ev_bc j) pc = .ok (if f = 0 then (.iconst z, 1) else if f = 1 then (.bipush z, 2) else (.sipush z, 3))) (h1 : f = 1 → (Int8.ofInt z).toInt32 = Int32.ofInt z) (h2 : (Int16.ofInt z).toInt32 = Int32.ofInt z)
    (kk : ev_W p l e s m args below meth c D cI cZ cS ad A Q j (pc + if f = 0 then 1 else if f = 1 then 2 else 3) L (.inl z :: st) σ) : ev_W p l e s m args below meth c D cI cZ cS ad A Q j pc L st σ := by
  intro H locs ls hP hS hl
  by_cases hf : f = 0
  · rw [if_pos hf] at hd kk
    exact lv_iconst F.1 F.2.1 hd rfl (kk H locs ls hP hS hl)
  · rw [if_neg hf] at hd kk
    by_cases hf1 : f = 1
    · rw [if_pos hf1] at hd kk
      exact lv_bipush F.1 F.2.1 hd (h1 hf1) (kk H locs ls hP hS hl)
    · rw [if_neg hf1] at hd kk
      exact lv_sipush F.1 F.2.1 hd h2 (kk H locs ls hP hS hl)
theorem sd_ldc (F : ev_F p s m args meth c D cI cZ cS ad A j) {k : Nat} {z : Int} (hd : decode (ev_bc j) pc = .ok (.ldc k, 2)) (hw : Cond.constant (ev_cn (ev_own j)) k (Int32.ofInt z) ∈ ev_gw)
    (kk : ev_W p l e s m args below meth c D cI cZ cS ad A Q j (pc + 2) L (.inl z :: st) σ) : ev_W p l e s m args below meth c D cI cZ cS ad A Q j pc L st σ := by
  intro H locs ls hP hS hl
  exact lv_ldc F.1 F.2.1 F.2.2.2.2.1 (F.2.2.2.2.2.1 _ hw) hd (kk H locs ls hP hS hl)
theorem sd_ldc2 (F : ev_F p s m args meth c D cI cZ cS ad A j) {k : Nat} {z : Int} (hd : decode (ev_bc j) pc = .ok (.ldc2_w k, 3)) (hw : Cond.constantLong (ev_cn (ev_own j)) k (Int64.ofInt z) ∈ ev_gw)
    (kk : ev_W p l e s m args below meth c D cI cZ cS ad A Q j (pc + 3) L (.inr (.inr (Int64.ofInt z)) :: st) σ) : ev_W p l e s m args below meth c D cI cZ cS ad A Q j pc L st σ := by
  intro H locs ls hP hS hl
  exact lv_ldc2 F.1 F.2.1 F.2.2.2.2.1 (F.2.2.2.2.2.1 _ hw) hd (kk H locs ls hP hS hl)
theorem sd_iadd (F : ev_F p s m args meth c D cI cZ cS ad A j) {x y : Int} (hd : decode (ev_bc j) pc = .ok (.iadd, 1))
    (kk : ev_W p l e s m args below meth c D cI cZ cS ad A Q j (pc + 1) L (.inl (x + y) :: st) σ) : ev_W p l e s m args below meth c D cI cZ cS ad A Q j pc L (.inl y :: .inl x :: st) σ := by
  intro H locs ls hP hS hl
  refine lv_iadd F.1 F.2.1 hd ?_
  have h := kk H locs ls hP hS hl
  simp only [List.map_cons, ev_rv] at h
  rw [ev_oi_add] at h
  exact h
theorem sd_lcmp (F : ev_F p s m args meth c D cI cZ cS ad A j) {x y : Int64} (hd : decode (ev_bc j) pc = .ok (.lcmp, 1))
    (kk : ev_W p l e s m args below meth c D cI cZ cS ad A Q j (pc + 1) L (.inl (ev_lc x y) :: st) σ) : ev_W p l e s m args below meth c D cI cZ cS ad A Q j pc L (.inr (.inr y) :: .inr (.inr x) :: st) σ := by
  intro H locs ls hP hS hl
  refine W.lcmp F.1 F.2.1 hd ?_
  have h := kk H locs ls hP hS hl
  simp only [List.map_cons, ev_rv] at h
  rw [ev_oi_lc] at h
  exact h
theorem sd_isub (F : ev_F p s m args meth c D cI cZ cS ad A j) {x y : Int} (hd : decode (ev_bc j) pc = .ok (.isub, 1))
    (kk : ev_W p l e s m args below meth c D cI cZ cS ad A Q j (pc + 1) L (.inl (x - y) :: st) σ) : ev_W p l e s m args below meth c D cI cZ cS ad A Q j pc L (.inl y :: .inl x :: st) σ := by
  intro H locs ls hP hS hl
  refine lv_isub F.1 F.2.1 hd ?_
  have h := kk H locs ls hP hS hl
  simp only [List.map_cons, ev_rv] at h
  rw [ev_oi_sub] at h
  exact h
theorem sd_imul (F : ev_F p s m args meth c D cI cZ cS ad A j) {x y : Int} (hd : decode (ev_bc j) pc = .ok (.imul, 1))
    (kk : ev_W p l e s m args below meth c D cI cZ cS ad A Q j (pc + 1) L (.inl (x * y) :: st) σ) : ev_W p l e s m args below meth c D cI cZ cS ad A Q j pc L (.inl y :: .inl x :: st) σ := by
  intro H locs ls hP hS hl
  refine lv_imul F.1 F.2.1 hd ?_
  have h := kk H locs ls hP hS hl
  simp only [List.map_cons, ev_rv] at h
  rw [ev_oi_mul] at h
  exact h
theorem sd_idiv (F : ev_F p s m args meth c D cI cZ cS ad A j) {x y : Int} (hd : decode (ev_bc j) pc = .ok (.idiv, 1)) (hne : ¬ ev_wr y = 0)
    (kk : ev_W p l e s m args below meth c D cI cZ cS ad A Q j (pc + 1) L (.inl (ev_div x y) :: st) σ) : ev_W p l e s m args below meth c D cI cZ cS ad A Q j pc L (.inl y :: .inl x :: st) σ := by
  intro H locs ls hP hS hl
  refine lv_idiv F.1 F.2.1 hd (fun h0 => hne (by rw [← ev_wr_0, ← ev_oi_inj]; exact h0)) ?_
  have h := kk H locs ls hP hS hl
  simp only [List.map_cons, ev_rv] at h
  rw [ev_oi_div] at h
  exact h
theorem sd_irem (F : ev_F p s m args meth c D cI cZ cS ad A j) {x y : Int} (hd : decode (ev_bc j) pc = .ok (.irem, 1)) (hne : ¬ ev_wr y = 0)
    (kk : ev_W p l e s m args below meth c D cI cZ cS ad A Q j (pc + 1) L (.inl (ev_rem x y) :: st) σ) : ev_W p l e s m args below meth c D cI cZ cS ad A Q j pc L (.inl y :: .inl x :: st) σ := by
  intro H locs ls hP hS hl
  refine lv_irem F.1 F.2.1 hd (fun h0 => hne (by rw [← ev_wr_0, ← ev_oi_inj]; exact h0)) ?_
  have h := kk H locs ls hP hS hl
  simp only [List.map_cons, ev_rv] at h
  rw [ev_oi_rem] at h
  exact h
theorem sd_iand (F : ev_F p s m args meth c D cI cZ cS ad A j) {x y : Int} (hd : decode (ev_bc j) pc = .ok (.iand, 1))
    (kk : ev_W p l e s m args below meth c D cI cZ cS ad A Q j (pc + 1) L (.inl (ev_and x y) :: st) σ) : ev_W p l e s m args below meth c D cI cZ cS ad A Q j pc L (.inl y :: .inl x :: st) σ := by
  intro H locs ls hP hS hl
  refine lv_iand F.1 F.2.1 hd ?_
  have h := kk H locs ls hP hS hl
  simp only [List.map_cons, ev_rv] at h
  rw [ev_and, ev_oi_ti] at h
  exact h
theorem sd_ior (F : ev_F p s m args meth c D cI cZ cS ad A j) {x y : Int} (hd : decode (ev_bc j) pc = .ok (.ior, 1))
    (kk : ev_W p l e s m args below meth c D cI cZ cS ad A Q j (pc + 1) L (.inl (ev_or x y) :: st) σ) : ev_W p l e s m args below meth c D cI cZ cS ad A Q j pc L (.inl y :: .inl x :: st) σ := by
  intro H locs ls hP hS hl
  refine lv_ior F.1 F.2.1 hd ?_
  have h := kk H locs ls hP hS hl
  simp only [List.map_cons, ev_rv] at h
  rw [ev_or, ev_oi_ti] at h
  exact h
theorem sd_ixor (F : ev_F p s m args meth c D cI cZ cS ad A j) {x y : Int} (hd : decode (ev_bc j) pc = .ok (.ixor, 1))
    (kk : ev_W p l e s m args below meth c D cI cZ cS ad A Q j (pc + 1) L (.inl (ev_xor x y) :: st) σ) : ev_W p l e s m args below meth c D cI cZ cS ad A Q j pc L (.inl y :: .inl x :: st) σ := by
  intro H locs ls hP hS hl
  refine lv_ixor F.1 F.2.1 hd ?_
  have h := kk H locs ls hP hS hl
  simp only [List.map_cons, ev_rv] at h
  rw [ev_xor, ev_oi_ti] at h
  exact h
theorem sd_ishl (F : ev_F p s m args meth c D cI cZ cS ad A j) {x y : Int} (hd : decode (ev_bc j) pc = .ok (.ishl, 1))
    (kk : ev_W p l e s m args below meth c D cI cZ cS ad A Q j (pc + 1) L (.inl (ev_shl x y) :: st) σ) : ev_W p l e s m args below meth c D cI cZ cS ad A Q j pc L (.inl y :: .inl x :: st) σ := by
  intro H locs ls hP hS hl
  refine lv_ishl F.1 F.2.1 hd ?_
  have h := kk H locs ls hP hS hl
  simp only [List.map_cons, ev_rv] at h
  rw [ev_shl, ev_oi_ti] at h
  exact h
theorem sd_ishr (F : ev_F p s m args meth c D cI cZ cS ad A j) {x y : Int} (hd : decode (ev_bc j) pc = .ok (.ishr, 1))
    (kk : ev_W p l e s m args below meth c D cI cZ cS ad A Q j (pc + 1) L (.inl (ev_shr x y) :: st) σ) : ev_W p l e s m args below meth c D cI cZ cS ad A Q j pc L (.inl y :: .inl x :: st) σ := by
  intro H locs ls hP hS hl
  refine lv_ishr F.1 F.2.1 hd ?_
  have h := kk H locs ls hP hS hl
  simp only [List.map_cons, ev_rv] at h
  rw [ev_shr, ev_oi_ti] at h
  exact h
theorem sd_ladd (F : ev_F p s m args meth c D cI cZ cS ad A j) {x y : Int64} (hd : decode (ev_bc j) pc = .ok (.ladd, 1))
    (kk : ev_W p l e s m args below meth c D cI cZ cS ad A Q j (pc + 1) L (.inr (.inr (x + y)) :: st) σ) : ev_W p l e s m args below meth c D cI cZ cS ad A Q j pc L (.inr (.inr y) :: .inr (.inr x) :: st) σ := by
  intro H locs ls hP hS hl
  exact lv_ladd F.1 F.2.1 hd (kk H locs ls hP hS hl)
theorem sd_lmul (F : ev_F p s m args meth c D cI cZ cS ad A j) {x y : Int64} (hd : decode (ev_bc j) pc = .ok (.lmul, 1))
    (kk : ev_W p l e s m args below meth c D cI cZ cS ad A Q j (pc + 1) L (.inr (.inr (x * y)) :: st) σ) : ev_W p l e s m args below meth c D cI cZ cS ad A Q j pc L (.inr (.inr y) :: .inr (.inr x) :: st) σ := by
  intro H locs ls hP hS hl
  exact lv_lmul F.1 F.2.1 hd (kk H locs ls hP hS hl)
theorem sd_br {B : Prop} [Decidable B] {t1 t2 : Nat} (kk : ev_W p l e s m args below meth c D cI cZ cS ad A Q j (if B then t1 else t2) L st σ) : (B → ev_W p l e s m args below meth c D cI cZ cS ad A Q j t1 L st σ) ∧ (¬ B → ev_W p l e s m args below meth c D cI cZ cS ad A Q j t2 L st σ) :=
  ⟨fun h => by rw [if_pos h] at kk; exact kk, fun h => by rw [if_neg h] at kk; exact kk⟩
theorem sd_icmp_eq (F : ev_F p s m args meth c D cI cZ cS ad A j) {x y z : Int} {t : Nat} (hd : decode (ev_bc j) pc = .ok (.if_icmp .eq z, 3)) (ht : (pc : Int) + z = (t : Int))
    (kk : ev_W p l e s m args below meth c D cI cZ cS ad A Q j (if ev_wr x = ev_wr y then t else pc + 3) L st σ) : ev_W p l e s m args below meth c D cI cZ cS ad A Q j pc L (.inl y :: .inl x :: st) σ := by
  have K := sd_br kk
  intro H locs ls hP hS hl
  refine lv_icmp_eq F.1 F.2.1 hd ht (fun h => ?_) (fun h => ?_)
  · exact (fun h => K.1 (ev_oi_inj.mp h)) h H locs ls hP hS hl
  · exact (fun h => K.2 (fun q => h (ev_oi_inj.mpr q))) h H locs ls hP hS hl
theorem sd_if_eq (F : ev_F p s m args meth c D cI cZ cS ad A j) {x z : Int} {t : Nat} (hd : decode (ev_bc j) pc = .ok (.ifCond .eq z, 3)) (ht : (pc : Int) + z = (t : Int))
    (kk : ev_W p l e s m args below meth c D cI cZ cS ad A Q j (if ev_wr x = 0 then t else pc + 3) L st σ) : ev_W p l e s m args below meth c D cI cZ cS ad A Q j pc L (.inl x :: st) σ := by
  have K := sd_br kk
  intro H locs ls hP hS hl
  refine lv_if_eq F.1 F.2.1 hd ht (fun h => ?_) (fun h => ?_)
  · exact (fun h => K.1 (by rw [← ev_wr_0]; exact (ev_oi_inj (a := x) (b := 0)).mp h)) h H locs ls hP hS hl
  · exact (fun h => K.2 (fun q => h ((ev_oi_inj (a := x) (b := 0)).mpr (by rw [ev_wr_0]; exact q)))) h H locs ls hP hS hl
theorem sd_icmp_ne (F : ev_F p s m args meth c D cI cZ cS ad A j) {x y z : Int} {t : Nat} (hd : decode (ev_bc j) pc = .ok (.if_icmp .ne z, 3)) (ht : (pc : Int) + z = (t : Int))
    (kk : ev_W p l e s m args below meth c D cI cZ cS ad A Q j (if ev_wr x = ev_wr y then pc + 3 else t) L st σ) : ev_W p l e s m args below meth c D cI cZ cS ad A Q j pc L (.inl y :: .inl x :: st) σ := by
  have K := sd_br kk
  intro H locs ls hP hS hl
  refine lv_icmp_ne F.1 F.2.1 hd ht (fun h => ?_) (fun h => ?_)
  · exact (fun h => K.2 (fun q => h (ev_oi_inj.mpr q))) h H locs ls hP hS hl
  · exact (fun h => K.1 (ev_oi_inj.mp h)) h H locs ls hP hS hl
theorem sd_if_ne (F : ev_F p s m args meth c D cI cZ cS ad A j) {x z : Int} {t : Nat} (hd : decode (ev_bc j) pc = .ok (.ifCond .ne z, 3)) (ht : (pc : Int) + z = (t : Int))
    (kk : ev_W p l e s m args below meth c D cI cZ cS ad A Q j (if ev_wr x = 0 then pc + 3 else t) L st σ) : ev_W p l e s m args below meth c D cI cZ cS ad A Q j pc L (.inl x :: st) σ := by
  have K := sd_br kk
  intro H locs ls hP hS hl
  refine lv_if_ne F.1 F.2.1 hd ht (fun h => ?_) (fun h => ?_)
  · exact (fun h => K.2 (fun q => h ((ev_oi_inj (a := x) (b := 0)).mpr (by rw [ev_wr_0]; exact q)))) h H locs ls hP hS hl
  · exact (fun h => K.1 (by rw [← ev_wr_0]; exact (ev_oi_inj (a := x) (b := 0)).mp h)) h H locs ls hP hS hl
theorem sd_icmp_lt (F : ev_F p s m args meth c D cI cZ cS ad A j) {x y z : Int} {t : Nat} (hd : decode (ev_bc j) pc = .ok (.if_icmp .lt z, 3)) (ht : (pc : Int) + z = (t : Int))
    (kk : ev_W p l e s m args below meth c D cI cZ cS ad A Q j (if ev_wr x < ev_wr y then t else pc + 3) L st σ) : ev_W p l e s m args below meth c D cI cZ cS ad A Q j pc L (.inl y :: .inl x :: st) σ := by
  have K := sd_br kk
  intro H locs ls hP hS hl
  refine lv_icmp_lt F.1 F.2.1 hd ht (fun h => ?_) (fun h => ?_)
  · exact (fun h => K.1 (ev_oi_lt.mp h)) h H locs ls hP hS hl
  · exact (fun h => K.2 (fun q => h (ev_oi_lt.mpr q))) h H locs ls hP hS hl
theorem sd_if_lt (F : ev_F p s m args meth c D cI cZ cS ad A j) {x z : Int} {t : Nat} (hd : decode (ev_bc j) pc = .ok (.ifCond .lt z, 3)) (ht : (pc : Int) + z = (t : Int))
    (kk : ev_W p l e s m args below meth c D cI cZ cS ad A Q j (if ev_wr x < 0 then t else pc + 3) L st σ) : ev_W p l e s m args below meth c D cI cZ cS ad A Q j pc L (.inl x :: st) σ := by
  have K := sd_br kk
  intro H locs ls hP hS hl
  refine lv_if_lt F.1 F.2.1 hd ht (fun h => ?_) (fun h => ?_)
  · exact (fun h => K.1 (by rw [← ev_wr_0]; exact (ev_oi_lt (a := x) (b := 0)).mp h)) h H locs ls hP hS hl
  · exact (fun h => K.2 (fun q => h ((ev_oi_lt (a := x) (b := 0)).mpr (by rw [ev_wr_0]; exact q)))) h H locs ls hP hS hl
theorem sd_icmp_ge (F : ev_F p s m args meth c D cI cZ cS ad A j) {x y z : Int} {t : Nat} (hd : decode (ev_bc j) pc = .ok (.if_icmp .ge z, 3)) (ht : (pc : Int) + z = (t : Int))
    (kk : ev_W p l e s m args below meth c D cI cZ cS ad A Q j (if ev_wr x < ev_wr y then pc + 3 else t) L st σ) : ev_W p l e s m args below meth c D cI cZ cS ad A Q j pc L (.inl y :: .inl x :: st) σ := by
  have K := sd_br kk
  intro H locs ls hP hS hl
  refine lv_icmp_ge F.1 F.2.1 hd ht (fun h => ?_) (fun h => ?_)
  · exact (fun h => K.2 (by have h := ev_oi_le.mp h; omega)) h H locs ls hP hS hl
  · exact (fun h => K.1 (by have h := mt ev_oi_le.mpr h; omega)) h H locs ls hP hS hl
theorem sd_if_ge (F : ev_F p s m args meth c D cI cZ cS ad A j) {x z : Int} {t : Nat} (hd : decode (ev_bc j) pc = .ok (.ifCond .ge z, 3)) (ht : (pc : Int) + z = (t : Int))
    (kk : ev_W p l e s m args below meth c D cI cZ cS ad A Q j (if ev_wr x < 0 then pc + 3 else t) L st σ) : ev_W p l e s m args below meth c D cI cZ cS ad A Q j pc L (.inl x :: st) σ := by
  have K := sd_br kk
  intro H locs ls hP hS hl
  refine lv_if_ge F.1 F.2.1 hd ht (fun h => ?_) (fun h => ?_)
  · exact (fun h => K.2 (by have h := (ev_oi_le (a := 0) (b := x)).mp h; rw [ev_wr_0] at h; omega)) h H locs ls hP hS hl
  · exact (fun h => K.1 (by have h := mt (ev_oi_le (a := 0) (b := x)).mpr h; rw [ev_wr_0] at h; omega)) h H locs ls hP hS hl
theorem sd_icmp_gt (F : ev_F p s m args meth c D cI cZ cS ad A j) {x y z : Int} {t : Nat} (hd : decode (ev_bc j) pc = .ok (.if_icmp .gt z, 3)) (ht : (pc : Int) + z = (t : Int))
    (kk : ev_W p l e s m args below meth c D cI cZ cS ad A Q j (if ev_wr y < ev_wr x then t else pc + 3) L st σ) : ev_W p l e s m args below meth c D cI cZ cS ad A Q j pc L (.inl y :: .inl x :: st) σ := by
  have K := sd_br kk
  intro H locs ls hP hS hl
  refine lv_icmp_gt F.1 F.2.1 hd ht (fun h => ?_) (fun h => ?_)
  · exact (fun h => K.1 (ev_oi_lt.mp h)) h H locs ls hP hS hl
  · exact (fun h => K.2 (fun q => h (ev_oi_lt.mpr q))) h H locs ls hP hS hl
theorem sd_if_gt (F : ev_F p s m args meth c D cI cZ cS ad A j) {x z : Int} {t : Nat} (hd : decode (ev_bc j) pc = .ok (.ifCond .gt z, 3)) (ht : (pc : Int) + z = (t : Int))
    (kk : ev_W p l e s m args below meth c D cI cZ cS ad A Q j (if 0 < ev_wr x then t else pc + 3) L st σ) : ev_W p l e s m args below meth c D cI cZ cS ad A Q j pc L (.inl x :: st) σ := by
  have K := sd_br kk
  intro H locs ls hP hS hl
  refine lv_if_gt F.1 F.2.1 hd ht (fun h => ?_) (fun h => ?_)
  · exact (fun h => K.1 (by rw [← ev_wr_0]; exact (ev_oi_lt (a := 0) (b := x)).mp h)) h H locs ls hP hS hl
  · exact (fun h => K.2 (fun q => h ((ev_oi_lt (a := 0) (b := x)).mpr (by rw [ev_wr_0]; exact q)))) h H locs ls hP hS hl
theorem sd_icmp_le (F : ev_F p s m args meth c D cI cZ cS ad A j) {x y z : Int} {t : Nat} (hd : decode (ev_bc j) pc = .ok (.if_icmp .le z, 3)) (ht : (pc : Int) + z = (t : Int))
    (kk : ev_W p l e s m args below meth c D cI cZ cS ad A Q j (if ev_wr y < ev_wr x then pc + 3 else t) L st σ) : ev_W p l e s m args below meth c D cI cZ cS ad A Q j pc L (.inl y :: .inl x :: st) σ := by
  have K := sd_br kk
  intro H locs ls hP hS hl
  refine lv_icmp_le F.1 F.2.1 hd ht (fun h => ?_) (fun h => ?_)
  · exact (fun h => K.2 (by have h := ev_oi_le.mp h; omega)) h H locs ls hP hS hl
  · exact (fun h => K.1 (by have h := mt ev_oi_le.mpr h; omega)) h H locs ls hP hS hl
theorem sd_if_le (F : ev_F p s m args meth c D cI cZ cS ad A j) {x z : Int} {t : Nat} (hd : decode (ev_bc j) pc = .ok (.ifCond .le z, 3)) (ht : (pc : Int) + z = (t : Int))
    (kk : ev_W p l e s m args below meth c D cI cZ cS ad A Q j (if 0 < ev_wr x then pc + 3 else t) L st σ) : ev_W p l e s m args below meth c D cI cZ cS ad A Q j pc L (.inl x :: st) σ := by
  have K := sd_br kk
  intro H locs ls hP hS hl
  refine lv_if_le F.1 F.2.1 hd ht (fun h => ?_) (fun h => ?_)
  · exact (fun h => K.2 (by have h := (ev_oi_le (a := x) (b := 0)).mp h; rw [ev_wr_0] at h; omega)) h H locs ls hP hS hl
  · exact (fun h => K.1 (by have h := mt (ev_oi_le (a := x) (b := 0)).mpr h; rw [ev_wr_0] at h; omega)) h H locs ls hP hS hl
end SND
end
section
/-! stack, fields, arrays -/
theorem ev_cases11 {P : Nat → Prop} (h : ∀ c, c ∈ List.range 11 → P c) : ∀ c, c < 11 → P c := fun c hc => h c (List.mem_range.mpr hc)
theorem ev_cl_at : ∀ c, c < 11 → vwCl[c]? = some (ev_cn c, ev_ct c, ev_N c) := by
  intro c hc
  match c, hc with
  | 0, _ => rfl
  | 1, _ => rfl
  | 2, _ => rfl
  | 3, _ => rfl
  | 4, _ => rfl
  | 5, _ => rfl
  | 6, _ => rfl
  | 7, _ => rfl
  | 8, _ => rfl
  | 9, _ => rfl
  | 10, _ => rfl
theorem ev_in_t : ∀ c, c < 11 → ∀ w ∈ u_ws (ev_cn c) (ev_ct c) (ev_N c), w ∈ lw_tbl := by
  intro c hc
  match c, hc with
  | 0, _ => exact inX0
  | 1, _ => exact inX1
  | 2, _ => exact inX2
  | 3, _ => exact inX3
  | 4, _ => exact inX4
  | 5, _ => exact inX5
  | 6, _ => exact inX6
  | 7, _ => exact inX7
  | 8, _ => exact inX8
  | 9, _ => exact inX9
  | 10, _ => exact inX10
theorem ev_in_g : ∀ c, c < 11 → ∀ w ∈ u_ws (ev_cn c) (ev_ct c) (ev_N c), w ∈ ev_gw := fun c hc w hw => by
  refine ev_gwm (ev_in_t c hc w hw) ?_
  have h := List.all_eq_true.mp ev_g3 c (List.mem_range.mpr hc)
  exact List.all_eq_true.mp h w hw
theorem ev_ty_ok : ∀ c, c < 11 → ∀ k, k < ev_N c → parseFieldDescriptor (ev_ct c k).2.2.1 = some (ev_cy c k) := by
  intro c hc
  match c, hc with
  | 0, _ => exact tyX0_ok
  | 1, _ => exact tyX1_ok
  | 2, _ => exact tyX2_ok
  | 3, _ => exact tyX3_ok
  | 4, _ => exact tyX4_ok
  | 5, _ => exact tyX5_ok
  | 6, _ => exact tyX6_ok
  | 7, _ => exact tyX7_ok
  | 8, _ => exact tyX8_ok
  | 9, _ => exact tyX9_ok
  | 10, _ => exact tyX10_ok
theorem ev_nm_ok : ∀ c, c < 11 → ∀ a, a < ev_N c → ∀ b, b < ev_N c → a ≠ b → (ev_ct c a).2.1 ≠ (ev_ct c b).2.1 := by
  intro c hc
  match c, hc with
  | 0, _ => exact nmX0
  | 1, _ => exact nmX1
  | 2, _ => exact nmX2
  | 3, _ => exact nmX3
  | 4, _ => exact nmX4
  | 5, _ => exact nmX5
  | 6, _ => exact nmX6
  | 7, _ => exact nmX7
  | 8, _ => exact nmX8
  | 9, _ => exact nmX9
  | 10, _ => exact nmX10
/-- what is checked of a field's entry: a class, a place of it, of the kind that is said; not final where it is written -/
def ev_fck (c k kd : Nat) (o : Int) : Bool := decide (c < 11 ∧ k < ev_N c ∧ (ev_kd c k).1 = kd ∧ (kd = 1 → (ev_kd c k).2 = o) ∧ (ev_ct c k).1 = ev_cn c) && (decide (kd = 1) || (decide ((ev_ct c k).2.2.2 = false ∧ parseFieldDescriptor (ev_ct c k).2.2.1 = some (if kd = 0 then .int else .long))))
theorem ev_e_obj {cI cZ cS : ClassId} {ad : Int → Nat} {σ : ev_M} {i : Int} {c : Nat} (h : ev_cls i = c) (hc : c < 11) : ev_e cI cZ cS ad σ i = .inr (c, (List.range (ev_N c)).map (ev_fv ad σ i c)) := by
  unfold ev_e
  rw [h, if_neg (by omega), if_neg (by omega), if_neg (by omega)]
theorem ev_e_int {cI cZ cS : ClassId} {ad : Int → Nat} {σ : ev_M} {i : Int} (h : ev_cls i = 12) : ev_e cI cZ cS ad σ i = .inl (cI, (ev_len i).toNat, .inl (fun j : Nat => Int32.ofInt (σ i (j : Int)))) := by
  unfold ev_e
  rw [if_pos h]
theorem ev_e_bool {cI cZ cS : ClassId} {ad : Int → Nat} {σ : ev_M} {i : Int} (h : ev_cls i = 13) : ev_e cI cZ cS ad σ i = .inl (cZ, (ev_len i).toNat, .inl (fun j : Nat => Int32.ofInt (σ i (j : Int)))) := by
  unfold ev_e
  rw [if_neg (by omega), if_pos h]
theorem ev_e_st {cI cZ cS : ClassId} {ad : Int → Nat} {σ : ev_M} {i : Int} (h : ev_cls i = 14) : ev_e cI cZ cS ad σ i = .inl (cS, (ev_len i).toNat, .inr (.inr (.inr (.inr (fun j : Nat => some (ad (σ i (j : Int)))))))) := by
  unfold ev_e
  rw [if_neg (by omega), if_neg (by omega), if_pos h]
theorem ev_at {cI cZ cS : ClassId} {ad : Int → Nat} {σ : ev_M} {i : Int} {c : Nat} {x : va_E} (h : ev_cls i = c) (hc : c < 99) (he : ev_e cI cZ cS ad σ i = x) : (ev_wd cI cZ cS ad σ)[i.toNat]? = some (ad i, x) := by
  rw [ev_wd_get cI cZ cS ad σ (ev_cls_in (by omega)), he]
section SNF
variable {p : Program} {l : Launch} {e : Env} {s : State} {m : MethodId} {args : Array Value} {below : List Frame} {meth : Method} {c : Code} {D : va_G} {cI cZ cS : ClassId} {ad : Int → Nat} {A : Nat → Prop} {Q : State → Prop} {j pc : Nat} {L : ev_L} {st : List ev_V} {σ : ev_M}
theorem sd_i2l (F : ev_F p s m args meth c D cI cZ cS ad A j) {x : Int} (hd : decode (ev_bc j) pc = .ok (.i2l, 1))
    (kk : ev_W p l e s m args below meth c D cI cZ cS ad A Q j (pc + 1) L (.inr (.inr (Int64.ofInt (ev_wr x))) :: st) σ) : ev_W p l e s m args below meth c D cI cZ cS ad A Q j pc L (.inl x :: st) σ := by
  intro H locs ls hP hS hl
  refine lv_i2l F.1 F.2.1 hd ?_ (kk H locs ls hP hS hl)
  rw [← Int64.toInt_inj, Int32.toInt_toInt64, ev_ti, Int64.toInt_ofInt]
  have := ev_wr_lo x
  simp only [Int.bmod, Int64.size]
  split <;> omega
theorem sd_iinc (F : ev_F p s m args meth c D cI cZ cS ad A j) {k : Nat} {x z : Int} (hd : decode (ev_bc j) pc = .ok (.iinc k z, 3)) (hg : ev_get L k = some (.inl x)) (hn : ev_nl L k = true) (hlt : k < L.length)
    (kk : ev_W p l e s m args below meth c D cI cZ cS ad A Q j (pc + 3) (ev_set L k (some (.inl (x + z)))) st σ) : ev_W p l e s m args below meth c D cI cZ cS ad A Q j pc L st σ := by
  intro H locs ls hP hS hl
  have hm : (k, ev_rv ad (.inl x)) ∈ ev_al ad L := ev_al_mem.mpr ⟨_, hg, rfl⟩
  obtain ⟨q, hq, he⟩ := List.getElem_of_mem hm
  refine lv_iinc (v := Int32.ofInt (x + z)) F.1 F.2.1 hd hl.2 (k := q) (x := Int32.ofInt x) (by rw [List.getElem?_eq_getElem hq, he]; rfl) (ev_oi_add x z).symm (by rw [← hl.1]; exact hlt) rfl (fun ls' h' => kk H locs ls' hP hS (ev_lh_store1 (v := .inl (x + z)) hl.1 hn h'))
theorem sd_dupi (F : ev_F p s m args meth c D cI cZ cS ad A j) {x : Int} (hd : decode (ev_bc j) pc = .ok (.dup, 1))
    (kk : ev_W p l e s m args below meth c D cI cZ cS ad A Q j (pc + 1) L (.inl x :: .inl x :: st) σ) : ev_W p l e s m args below meth c D cI cZ cS ad A Q j pc L (.inl x :: st) σ := fun H locs ls hP hS hl => lv_dup F.1 F.2.1 hd rfl (kk H locs ls hP hS hl)
theorem sd_dupr (F : ev_F p s m args meth c D cI cZ cS ad A j) {x : Int} (hd : decode (ev_bc j) pc = .ok (.dup, 1))
    (kk : ev_W p l e s m args below meth c D cI cZ cS ad A Q j (pc + 1) L (.inr (.inl x) :: .inr (.inl x) :: st) σ) : ev_W p l e s m args below meth c D cI cZ cS ad A Q j pc L (.inr (.inl x) :: st) σ := fun H locs ls hP hS hl => lv_dup F.1 F.2.1 hd rfl (kk H locs ls hP hS hl)
theorem sd_dup2 (F : ev_F p s m args meth c D cI cZ cS ad A j) {x y : Int} (hd : decode (ev_bc j) pc = .ok (.dup2, 1))
    (kk : ev_W p l e s m args below meth c D cI cZ cS ad A Q j (pc + 1) L (.inl y :: .inr (.inl x) :: .inl y :: .inr (.inl x) :: st) σ) : ev_W p l e s m args below meth c D cI cZ cS ad A Q j pc L (.inl y :: .inr (.inl x) :: st) σ := fun H locs ls hP hS hl => lv_dup2_11 F.1 F.2.1 hd rfl rfl (kk H locs ls hP hS hl)
theorem sd_pop (F : ev_F p s m args meth c D cI cZ cS ad A j) {x : Int} (hd : decode (ev_bc j) pc = .ok (.pop, 1))
    (kk : ev_W p l e s m args below meth c D cI cZ cS ad A Q j (pc + 1) L st σ) : ev_W p l e s m args below meth c D cI cZ cS ad A Q j pc L (.inl x :: st) σ := fun H locs ls hP hS hl => lv_pop F.1 F.2.1 hd rfl (kk H locs ls hP hS hl)
theorem sd_goto (F : ev_F p s m args meth c D cI cZ cS ad A j) {z : Int} {t : Nat} (hd : decode (ev_bc j) pc = .ok (.goto z, 3)) (ht : (pc : Int) + z = (t : Int))
    (kk : ev_W p l e s m args below meth c D cI cZ cS ad A Q j t L st σ) : ev_W p l e s m args below meth c D cI cZ cS ad A Q j pc L st σ := fun H locs ls hP hS hl => lv_goto F.1 F.2.1 hd ht (kk H locs ls hP hS hl)
theorem sd_get (F : ev_F p s m args meth c D cI cZ cS ad A j) {i : Int} {cp cc k kd : Nat} {o : Int} {v : ev_V} (hd : decode (ev_bc j) pc = .ok (.getfield cp, 3)) (hm : (ev_own j, cp, cc, k) ∈ ev_frs) (hck : ev_fck cc k kd o = true) (hi : ev_cls i = cc) (hv : ev_fv ad σ i cc k = ev_rv ad v)
    (kk : ev_W p l e s m args below meth c D cI cZ cS ad A Q j (pc + 3) L (v :: st) σ) : ev_W p l e s m args below meth c D cI cZ cS ad A Q j pc L (.inr (.inl i) :: st) σ := by
  intro H locs ls hP hS hl
  have hc := of_decide_eq_true ((Bool.and_eq_true _ _).mp hck).1
  have hw := ev_frs_ok _ hm
  have hat : (ev_wd cI cZ cS ad σ)[i.toNat]? = some (ad i, .inr (cc, (List.range (ev_N cc)).map (ev_fv ad σ i cc))) := ev_at hi (by omega) (ev_e_obj hi hc.1)
  have hv' : ((List.range (ev_N cc)).map (ev_fv ad σ i cc))[k]? = some (ev_rv ad v) := by
    rw [List.getElem?_map, List.getElem?_range hc.2.1, ← hv]
    rfl
  by_cases hn : ev_own j = cc
  · have hg : goodWord (ev_frw (ev_own j, cp, cc, k)) = true := by
      have := List.all_eq_true.mp ev_g1 _ hm
      simpa [hn] using this
    have hl := F.2.2.2.2.2.1 _ (ev_gwm hw hg)
    unfold ev_frw at hl
    rw [if_pos hn] at hl
    exact va_get F.1 F.2.1 F.2.2.2.2.2.1 (ev_in_g cc hc.1) F.2.2.2.2.1 F.2.2.2.2.2.2.1 hP i.toNat hat (ev_cl_at cc hc.1) k hc.2.1 hl (fun _ h => by rw [hc.2.2.2.2] at h; exact h) hv' hd (kk H locs ls hP hS (by assumption))
  · have hl := F.2.2.2.2.2.2.2.1.1 _ hm hn
    have hl2 := va_Nw.use (A := args) (by unfold ev_frw; rw [if_neg hn]; rfl) hl
    unfold ev_frw at hl2
    rw [if_neg hn] at hl2
    exact va_getN F.1 F.2.1 F.2.2.2.2.2.1 (ev_in_g cc hc.1) F.2.2.2.2.1 F.2.2.2.2.2.2.1 hP i.toNat hat (ev_cl_at cc hc.1) k hc.2.1 hl2 (fun _ h => by rw [hc.2.2.2.2] at h; exact h) hv' hd (kk H locs ls hP hS (by assumption))
theorem ev_fs_set {i : Int} {cc k : Nat} {x : Int} {v : Value} (hk : k < ev_N cc) (hv : ev_fv ad (ev_up σ i k x) i cc k = v) : ((List.range (ev_N cc)).map (ev_fv ad σ i cc)).set k v = (List.range (ev_N cc)).map (ev_fv ad (ev_up σ i k x) i cc) := by
  apply List.ext_getElem?
  intro n
  rw [List.getElem?_set, List.getElem?_map, List.getElem?_map]
  by_cases hn : k = n
  · subst hn
    rw [if_pos rfl, List.getElem?_range hk, if_pos (by simp; exact hk), ← hv]
    rfl
  · rw [if_neg hn]
    rcases Nat.lt_or_ge n (ev_N cc) with h1 | h1
    · rw [List.getElem?_range h1]
      simp only [Option.map_some]
      have : ¬ ((n : Int) = (k : Int)) := by omega
      congr 1
      unfold ev_fv ev_up
      simp [this]
    · rw [List.getElem?_eq_none (by simp; exact h1)]
      rfl
theorem sd_put (F : ev_F p s m args meth c D cI cZ cS ad A j) {i x : Int} {cp cc k kd : Nat} {v : ev_V} (hd : decode (ev_bc j) pc = .ok (.putfield cp, 3)) (hm : (ev_own j, cp, cc, k) ∈ ev_frs) (hck : ev_fck cc k kd 0 = true) (hkd : kd ≠ 1) (hi : ev_cls i = cc) (hv : ev_fv ad (ev_up σ i k x) i cc k = ev_rv ad v) (hnar : narrow (if kd = 0 then .int else .long) (ev_rv ad v) = ev_rv ad v) (hfit : fits (if kd = 0 then .int else .long) (ev_rv ad v) = true)
    (kk : ev_W p l e s m args below meth c D cI cZ cS ad A Q j (pc + 3) L st (ev_up σ i k x)) : ev_W p l e s m args below meth c D cI cZ cS ad A Q j pc L (v :: .inr (.inl i) :: st) σ := by
  intro H locs ls hP hS hl
  have hb := (Bool.and_eq_true _ _).mp hck
  have hc := of_decide_eq_true hb.1
  have hb2 : (ev_ct cc k).2.2.2 = false ∧ parseFieldDescriptor (ev_ct cc k).2.2.1 = some (if kd = 0 then .int else .long) := by
    have := hb.2
    simp only [hkd, decide_false, Bool.false_or, decide_eq_true_eq] at this
    exact this
  have hw := ev_frs_ok _ hm
  have hat : (ev_wd cI cZ cS ad σ)[i.toNat]? = some (ad i, .inr (cc, (List.range (ev_N cc)).map (ev_fv ad σ i cc))) := ev_at hi (by omega) (ev_e_obj hi hc.1)
  have hset : (ev_wd cI cZ cS ad σ).set i.toNat (ad i, .inr (cc, ((List.range (ev_N cc)).map (ev_fv ad σ i cc)).set k (ev_rv ad v))) = ev_wd cI cZ cS ad (ev_up σ i k x) := by
    refine ev_wd_set (ev_cls_in (by omega)) (fun q hq => by funext z; simp [ev_up, hq]) ?_
    rw [ev_e_obj hi hc.1, ev_fs_set hc.2.1 hv]
  have hlen : k < ((List.range (ev_N cc)).map (ev_fv ad σ i cc)).length := by simp; exact hc.2.1
  by_cases hn : ev_own j = cc
  · have hg : goodWord (ev_frw (ev_own j, cp, cc, k)) = true := by
      have := List.all_eq_true.mp ev_g1 _ hm
      simpa [hn] using this
    have hl1 := F.2.2.2.2.2.1 _ (ev_gwm hw hg)
    unfold ev_frw at hl1
    rw [if_pos hn] at hl1
    refine va_put F.1 F.2.1 F.2.2.2.2.2.1 (ev_in_g cc hc.1) (ev_cy cc) (ev_ty_ok cc hc.1) (ev_nm_ok cc hc.1) F.2.2.2.2.1 F.2.2.2.2.2.2.1 hP (F.2.2.2.2.2.2.2.2.2 σ) hS i.toNat hat (ev_cl_at cc hc.1) k hc.2.1 hl1 (fun _ h => by rw [hc.2.2.2.2] at h; exact h) hb2.1 hb2.2 hnar hfit hlen hd (fun H1 locs1 hP1 hD1 hS1 => ?_)
    rw [hset] at hP1
    exact kk H1 locs1 ls hP1 hS1 hl
  · have hl1 := F.2.2.2.2.2.2.2.1.1 _ hm hn
    have hl2 := va_Nw.use (A := args) (by unfold ev_frw; rw [if_neg hn]; rfl) hl1
    unfold ev_frw at hl2
    rw [if_neg hn] at hl2
    refine va_putN F.1 F.2.1 F.2.2.2.2.2.1 (ev_in_g cc hc.1) (ev_cy cc) (ev_ty_ok cc hc.1) (ev_nm_ok cc hc.1) F.2.2.2.2.1 F.2.2.2.2.2.2.1 hP (F.2.2.2.2.2.2.2.2.2 σ) hS i.toNat hat (ev_cl_at cc hc.1) k hc.2.1 hl2 (fun _ h => by rw [hc.2.2.2.2] at h; exact h) hb2.1 hb2.2 hnar hfit hlen hd (fun H1 locs1 hP1 hD1 hS1 => ?_)
    rw [hset] at hP1
    exact kk H1 locs1 ls hP1 hS1 hl
theorem sd_iald (F : ev_F p s m args meth c D cI cZ cS ad A j) {i k : Int} (hd : decode (ev_bc j) pc = .ok (.iaload, 1)) (hi : ev_cls i = 12) (h0 : 0 ≤ ev_wr k) (h1 : ev_wr k < ev_len i)
    (kk : ev_W p l e s m args below meth c D cI cZ cS ad A Q j (pc + 1) L (.inl (σ i (ev_wr k)) :: st) σ) : ev_W p l e s m args below meth c D cI cZ cS ad A Q j pc L (.inl k :: .inr (.inl i) :: st) σ := by
  intro H locs ls hP hS hl
  refine va_iald F.1 F.2.1 F.2.2.2.2.2.2.1 hP i.toNat 0 (ev_at hi (by omega) (ev_e_int hi)) rfl (ev_vin h0 h1) hd ?_
  have h := kk H locs ls hP hS hl
  rw [ev_clamp, show (((ev_wr k).toNat : Nat) : Int) = ev_wr k by omega]
  exact h
theorem sd_zald (F : ev_F p s m args meth c D cI cZ cS ad A j) {i k : Int} (hd : decode (ev_bc j) pc = .ok (.baload, 1)) (hi : ev_cls i = 13) (h0 : 0 ≤ ev_wr k) (h1 : ev_wr k < ev_len i)
    (kk : ev_W p l e s m args below meth c D cI cZ cS ad A Q j (pc + 1) L (.inl (σ i (ev_wr k)) :: st) σ) : ev_W p l e s m args below meth c D cI cZ cS ad A Q j pc L (.inl k :: .inr (.inl i) :: st) σ := by
  intro H locs ls hP hS hl
  refine va_zald F.1 F.2.1 F.2.2.2.2.2.2.1 hP i.toNat 1 (ev_at hi (by omega) (ev_e_bool hi)) rfl (ev_vin h0 h1) hd ?_
  have h := kk H locs ls hP hS hl
  rw [ev_clamp, show (((ev_wr k).toNat : Nat) : Int) = ev_wr k by omega]
  exact h
theorem sd_aald (F : ev_F p s m args meth c D cI cZ cS ad A j) {i k : Int} (hd : decode (ev_bc j) pc = .ok (.aaload, 1)) (hi : ev_cls i = 14) (h0 : 0 ≤ ev_wr k) (h1 : ev_wr k < ev_len i)
    (kk : ev_W p l e s m args below meth c D cI cZ cS ad A Q j (pc + 1) L (.inr (.inl (σ i (ev_wr k))) :: st) σ) : ev_W p l e s m args below meth c D cI cZ cS ad A Q j pc L (.inl k :: .inr (.inl i) :: st) σ := by
  intro H locs ls hP hS hl
  refine va_aldq (C := "BridgeRounds$State") F.1 F.2.1 F.2.2.2.2.2.2.1 hP i.toNat 2 (ev_at hi (by omega) (ev_e_st hi)) rfl (ev_vin h0 h1) hd ?_
  have h := kk H locs ls hP hS hl
  rw [ev_clamp]
  simp only [va_rf]
  rw [show (((ev_wr k).toNat : Nat) : Int) = ev_wr k by omega]
  exact h
theorem ev_upd_f {k v : Int} {i : Int} (h0 : 0 ≤ ev_wr k) : (fun q : Nat => Int32.ofInt (ev_up σ i (ev_wr k) v i (q : Int))) = upd (fun q : Nat => Int32.ofInt (σ i (q : Int))) (ev_wr k).toNat (Int32.ofInt v) := by
  funext q
  unfold upd ev_up
  by_cases h : q = (ev_wr k).toNat
  · have : (q : Int) = ev_wr k := by omega
    rw [if_pos h, if_pos ⟨rfl, this⟩]
  · have : ¬ (q : Int) = ev_wr k := by omega
    rw [if_neg h, if_neg (fun z => this z.2)]
theorem sd_iast (F : ev_F p s m args meth c D cI cZ cS ad A j) {i k v : Int} (hd : decode (ev_bc j) pc = .ok (.iastore, 1)) (hi : ev_cls i = 12) (h0 : 0 ≤ ev_wr k) (h1 : ev_wr k < ev_len i)
    (kk : ev_W p l e s m args below meth c D cI cZ cS ad A Q j (pc + 1) L st (ev_up σ i (ev_wr k) v)) : ev_W p l e s m args below meth c D cI cZ cS ad A Q j pc L (.inl v :: .inl k :: .inr (.inl i) :: st) σ := by
  intro H locs ls hP hS hl
  refine va_iast F.1 F.2.1 F.2.2.2.2.2.2.1 hP (F.2.2.2.2.2.2.2.2.2 σ) hS i.toNat 0 (ev_at hi (by omega) (ev_e_int hi)) rfl (ev_vin h0 h1) hd (fun H1 locs1 hP1 hD1 hS1 => ?_)
  have hset := ev_wd_set (cI := cI) (cZ := cZ) (cS := cS) (ad := ad) (σ := σ) (σ' := ev_up σ i (ev_wr k) v) (ev_cls_in (i := i) (by omega)) (fun q hq => by funext z; simp [ev_up, hq]) (ev_e_int hi)
  rw [ev_upd_f h0] at hset
  rw [ev_clamp, hset] at hP1
  exact kk H1 locs1 ls hP1 hS1 hl
theorem sd_zast (F : ev_F p s m args meth c D cI cZ cS ad A j) {i k v : Int} (hd : decode (ev_bc j) pc = .ok (.bastore, 1)) (hi : ev_cls i = 13) (h0 : 0 ≤ ev_wr k) (h1 : ev_wr k < ev_len i) (hv : 0 ≤ v ∧ v ≤ 1)
    (kk : ev_W p l e s m args below meth c D cI cZ cS ad A Q j (pc + 1) L st (ev_up σ i (ev_wr k) v)) : ev_W p l e s m args below meth c D cI cZ cS ad A Q j pc L (.inl v :: .inl k :: .inr (.inl i) :: st) σ := by
  intro H locs ls hP hS hl
  refine va_zast F.1 F.2.1 F.2.2.2.2.2.2.1 hP (F.2.2.2.2.2.2.2.2.2 σ) hS i.toNat 1 (ev_at hi (by omega) (ev_e_bool hi)) rfl (ev_vin h0 h1) hd (fun H1 locs1 hP1 hD1 hS1 => ?_)
  have hset := ev_wd_set (cI := cI) (cZ := cZ) (cS := cS) (ad := ad) (σ := σ) (σ' := ev_up σ i (ev_wr k) v) (ev_cls_in (i := i) (by omega)) (fun q hq => by funext z; simp [ev_up, hq]) (ev_e_bool hi)
  rw [ev_upd_f h0] at hset
  have hn : vp_nar .boolean (Int32.ofInt v) = Int32.ofInt v := by
    rcases (show v = 0 ∨ v = 1 by omega) with rfl | rfl <;> decide
  rw [hn, ev_clamp, hset] at hP1
  exact kk H1 locs1 ls hP1 hS1 hl
theorem sd_aast (F : ev_F p s m args meth c D cI cZ cS ad A j) {i k v : Int} (hd : decode (ev_bc j) pc = .ok (.aastore, 1)) (hi : ev_cls i = 14) (h0 : 0 ≤ ev_wr k) (h1 : ev_wr k < ev_len i) (hv : ev_cls v = 7)
    (kk : ev_W p l e s m args below meth c D cI cZ cS ad A Q j (pc + 1) L st (ev_up σ i (ev_wr k) v)) : ev_W p l e s m args below meth c D cI cZ cS ad A Q j pc L (.inr (.inl v) :: .inl k :: .inr (.inl i) :: st) σ := by
  intro H locs ls hP hS hl
  refine va_astq (r := (ev_cn 7, ev_ct 7, ev_N 7)) F.1 F.2.1 F.2.2.2.2.2.2.1 hP (F.2.2.2.2.2.2.2.2.2 σ) hS i.toNat 2 v.toNat 7 (ev_at hi (by omega) (ev_e_st hi)) rfl (ev_at hv (by omega) (ev_e_obj hv (by omega))) (ev_cl_at 7 (by omega)) (ev_vin h0 h1) hd (fun H1 locs1 hP1 hD1 hS1 => ?_)
  have hset := ev_wd_set (cI := cI) (cZ := cZ) (cS := cS) (ad := ad) (σ := σ) (σ' := ev_up σ i (ev_wr k) v) (ev_cls_in (i := i) (by omega)) (fun q hq => by funext z; simp [ev_up, hq]) (ev_e_st hi)
  have hf : (fun q : Nat => some (ad (ev_up σ i (ev_wr k) v i (q : Int)))) = va_up (fun q : Nat => some (ad (σ i (q : Int)))) (ev_wr k).toNat (some (ad v)) := by
    funext q
    unfold va_up ev_up
    by_cases h : q = (ev_wr k).toNat
    · have : (q : Int) = ev_wr k := by omega
      rw [if_pos h, if_pos ⟨rfl, this⟩]
    · have : ¬ (q : Int) = ev_wr k := by omega
      rw [if_neg h, if_neg (fun z => this z.2)]
  rw [hf] at hset
  rw [ev_clamp, hset] at hP1
  exact kk H1 locs1 ls hP1 hS1 hl
end SNF
end
section
/-! the JDK's members, returns, switches, calls -/
def ev_Qc (D : va_G) (cI cZ cS : ClassId) (ad : Int → Nat) (A : Nat → Prop) (r : ev_R) : Array Value → State → Outcome → State → Prop := match r with
  | (none, σ) => va_Qv (fun _ : Unit => True) (fun _ t => va_P D vwCl (ev_wd cI cZ cS ad σ) t.heap) A
  | (some (.inl x), σ) => va_Qi (fun (y : Int32) (_ : Unit) => y = Int32.ofInt x) (fun _ t => va_P D vwCl (ev_wd cI cZ cS ad σ) t.heap) A
  | (some (.inr (.inr h)), σ) => va_Ql (fun (y : Int64) (_ : Unit) => y = h) (fun _ t => va_P D vwCl (ev_wd cI cZ cS ad σ) t.heap) A
  | (some (.inr (.inl _)), _) => fun _ _ _ _ => False
def ev_Pc (D : va_G) (cI cZ cS : ClassId) (ad : Int → Nat) (as : List ev_V) (σ : ev_M) : Array Value → State → Prop := va_Pc (as.map (ev_rv ad)) (fun U => va_P D vwCl (ev_wd cI cZ cS ad σ) U.heap ∧ va_K D vwCl (ev_ty cI cZ cS) U ∧ ev_NW U)
def ev_Mt (l : Launch) (D : va_G) (cI cZ cS : ClassId) (ad : Int → Nat) (A : Nat → Prop) (j : Nat) (as : List ev_V) (σ : ev_M) (r : ev_R) : Prop := Met l (ev_yn j) (ev_wo j) (ev_rm j) (ev_Pc D cI cZ cS ad as σ) (ev_Qc D cI cZ cS ad A r) 0 0 A
theorem ev_NW_warm {s U : State} (hW : s.WarmedH U.vm) (h : ev_NW s) : ev_NW U := by
  refine ⟨fun q hq hn => ?_, fun q hq hn => ?_⟩
  · have h1 := h.1 q hq hn
    unfold ev_frw at h1 ⊢
    rw [if_neg hn] at h1 ⊢
    exact va_Nw.warmF hW h1
  · have h1 := h.2 q hq hn
    unfold ev_mrw at h1 ⊢
    rw [if_neg hn] at h1 ⊢
    exact va_Nw.warmM hW h1
theorem ev_NW_same {s U : State} (hv : s.vm = U.vm) (h : ev_NW s) : ev_NW U := by
  refine ⟨fun q hq hn => va_Nw.same ?_ hv (h.1 q hq hn), fun q hq hn => va_Nw.same ?_ hv (h.2 q hq hn)⟩
  · unfold ev_frw; rw [if_neg hn]; rfl
  · unfold ev_mrw; rw [if_neg hn]; rfl
theorem ev_pop_spec : ∀ (n : Nat) (st acc as rest : List ev_V), ev_pop n st acc = some (as, rest) → acc.reverse ++ st = as.reverse ++ rest ∧ as.length = n + acc.length := by
  intro n
  induction n with
  | zero =>
    intro st acc as rest h
    simp only [ev_pop] at h
    cases h
    exact ⟨rfl, by omega⟩
  | succ n ih =>
    intro st acc as rest h
    cases st with
    | nil => simp [ev_pop] at h
    | cons v st =>
      simp only [ev_pop] at h
      obtain ⟨h1, h2⟩ := ih _ _ _ _ h
      refine ⟨?_, by rw [h2]; simp; omega⟩
      rw [← h1]
      simp
theorem ev_ggw {w : Cond} (h : w ∈ ev_gw) : (w.onTables && w.keeps) = true ∨ ∃ ty, w = .arrayClass ty := good_of_word (List.mem_filter.mp h).2
theorem ev_mcw_ok : ∀ j, j < 113 → ev_cw j ∈ ev_gw := by
  intro j hj
  have key : ev_mcw j = true := by
    have hmem : j ∈ List.range 113 := List.mem_range.mpr hj
    have : ∀ a, j ∈ ((List.range 113).drop a |>.take 8) → ((List.range 113).drop a |>.take 8).all ev_mcw = true → ev_mcw j = true := fun a h1 h2 => List.all_eq_true.mp h2 j h1
    have hin : ∀ a, a ≤ j → j < a + 8 → j ∈ ((List.range 113).drop a |>.take 8) := by
      intro a h1 h2
      refine List.mem_of_getElem? (i := j - a) ?_
      rw [List.getElem?_take, if_pos (by omega), List.getElem?_drop, List.getElem?_range (by omega)]
      congr 1
      omega
    rcases Nat.lt_or_ge j 88 with h | h
    · rcases Nat.lt_or_ge j 40 with h | h
      · rcases Nat.lt_or_ge j 16 with h | h
        · rcases Nat.lt_or_ge j 8 with h | h
          · exact this 0 (hin 0 (by omega) (by omega)) ev_mcw_0
          · exact this 8 (hin 8 (by omega) (by omega)) ev_mcw_8
        · rcases Nat.lt_or_ge j 24 with h | h
          · exact this 16 (hin 16 (by omega) (by omega)) ev_mcw_16
          · rcases Nat.lt_or_ge j 32 with h | h
            · exact this 24 (hin 24 (by omega) (by omega)) ev_mcw_24
            · exact this 32 (hin 32 (by omega) (by omega)) ev_mcw_32
      · rcases Nat.lt_or_ge j 64 with h | h
        · rcases Nat.lt_or_ge j 48 with h | h
          · exact this 40 (hin 40 (by omega) (by omega)) ev_mcw_40
          · rcases Nat.lt_or_ge j 56 with h | h
            · exact this 48 (hin 48 (by omega) (by omega)) ev_mcw_48
            · exact this 56 (hin 56 (by omega) (by omega)) ev_mcw_56
        · rcases Nat.lt_or_ge j 72 with h | h
          · exact this 64 (hin 64 (by omega) (by omega)) ev_mcw_64
          · rcases Nat.lt_or_ge j 80 with h | h
            · exact this 72 (hin 72 (by omega) (by omega)) ev_mcw_72
            · exact this 80 (hin 80 (by omega) (by omega)) ev_mcw_80
    · rcases Nat.lt_or_ge j 107 with h | h
      · rcases Nat.lt_or_ge j 104 with h | h
        · rcases Nat.lt_or_ge j 96 with h | h
          · exact this 88 (hin 88 (by omega) (by omega)) ev_mcw_88
          · exact this 96 (hin 96 (by omega) (by omega)) ev_mcw_96
        · rcases Nat.lt_or_ge j 105 with h | h
          · exact (show j = 104 by omega) ▸ ev_mcx_104
          · rcases Nat.lt_or_ge j 106 with h | h
            · exact (show j = 105 by omega) ▸ ev_mcx_105
            · exact (show j = 106 by omega) ▸ ev_mcx_106
      · rcases Nat.lt_or_ge j 110 with h | h
        · rcases Nat.lt_or_ge j 108 with h | h
          · exact (show j = 107 by omega) ▸ ev_mcx_107
          · rcases Nat.lt_or_ge j 109 with h | h
            · exact (show j = 108 by omega) ▸ ev_mcx_108
            · exact (show j = 109 by omega) ▸ ev_mcx_109
        · rcases Nat.lt_or_ge j 111 with h | h
          · exact (show j = 110 by omega) ▸ ev_mcx_110
          · rcases Nat.lt_or_ge j 112 with h | h
            · exact (show j = 111 by omega) ▸ ev_mcx_111
            · exact (show j = 112 by omega) ▸ ev_mcx_112
  exact ev_gwm (List.mem_of_getElem? (of_decide_eq_true key)) (by unfold ev_cw; rfl)
theorem ev_mok_ok : ∀ j, j < 113 → ev_mok j = true := by
  intro j hj
  have : ∀ a, j ∈ ((List.range 113).drop a |>.take 20) → ((List.range 113).drop a |>.take 20).all ev_mok = true → ev_mok j = true := fun a h1 h2 => List.all_eq_true.mp h2 j h1
  have hin : ∀ a, a ≤ j → j < a + 20 → j ∈ ((List.range 113).drop a |>.take 20) := by
    intro a h1 h2
    refine List.mem_of_getElem? (i := j - a) ?_
    rw [List.getElem?_take, if_pos (by omega), List.getElem?_drop, List.getElem?_range (by omega)]
    congr 1
    omega
  rcases Nat.lt_or_ge j 60 with h | h
  · rcases Nat.lt_or_ge j 20 with h | h
    · exact this 0 (hin 0 (by omega) (by omega)) ev_mok_0
    · rcases Nat.lt_or_ge j 40 with h | h
      · exact this 20 (hin 20 (by omega) (by omega)) ev_mok_20
      · exact this 40 (hin 40 (by omega) (by omega)) ev_mok_40
  · rcases Nat.lt_or_ge j 80 with h | h
    · exact this 60 (hin 60 (by omega) (by omega)) ev_mok_60
    · rcases Nat.lt_or_ge j 100 with h | h
      · exact this 80 (hin 80 (by omega) (by omega)) ev_mok_80
      · exact this 100 (hin 100 (by omega) (by omega)) ev_mok_100
/-- what the tables say of a method -/
theorem ev_mok_spec {j : Nat} (hj : j < 113) : Cond.initialized (ev_yn j).cls ∈ ev_gw ∧ (ev_yn j).cls = ev_cn (ev_own j) ∧ plainName (ev_yn j).cls = true ∧ ((ev_yn j).cls ≠ "java/lang/invoke/MethodHandle" ∧ (ev_yn j).cls ≠ "java/lang/invoke/VarHandle" ∧ (parseMethodDescriptor (ev_yn j).desc).map (fun d => d.parameters.length) = some (ev_na j)) ∧ (ev_sta j = true → Cond.static (ev_yn j) ∈ ev_gw) ∧ (ev_sta j = false → Cond.instanceMethod (ev_yn j) ∈ ev_gw ∧ Cond.selects (ev_yn j).cls (ev_yn j) (ev_yn j) ∈ ev_gw) := by
  have h := ev_mok_ok j hj
  unfold ev_mok at h
  simp only [Bool.and_eq_true, decide_eq_true_eq] at h
  obtain ⟨h1, h2, h3, h4, h5⟩ := h
  refine ⟨ev_gwm (List.mem_of_getElem? h1) rfl, h2, h3, h4, fun hs => ?_, fun hs => ?_⟩
  · rw [if_pos hs] at h5
    exact ev_gwm (List.mem_of_getElem? (of_decide_eq_true h5)) rfl
  · rw [if_neg (by rw [hs]; decide)] at h5
    have h6 := of_decide_eq_true h5
    exact ⟨ev_gwm (List.mem_of_getElem? h6.1) rfl, ev_gwm (List.mem_of_getElem? h6.2) rfl⟩
section SNG
variable {p : Program} {l : Launch} {e : Env} {s : State} {m : MethodId} {args : Array Value} {below : List Frame} {meth : Method} {c : Code} {D : va_G} {cI cZ cS : ClassId} {ad : Int → Nat} {A : Nat → Prop} {Q : State → Prop} {j pc : Nat} {L : ev_L} {st : List ev_V} {σ : ev_M}
theorem sd_max (F : ev_F p s m args meth c D cI cZ cS ad A j) {x y : Int} {cp : Nat} (hd : decode (ev_bc j) pc = .ok (.invokestatic cp, 3)) (hm : (ev_own j, cp, 62) ∈ ev_jrs) (hr : 1 ≤ (ev_rm j).frames ∧ 21 ≤ (ev_rm j).locals) (hw : ev_w st ≤ 8)
    (kk : ev_W p l e s m args below meth c D cI cZ cS ad A Q j (pc + 3) L (.inl (if ev_wr x < ev_wr y then y else x) :: st) σ) : ev_W p l e s m args below meth c D cI cZ cS ad A Q j pc L (.inl y :: .inl x :: st) σ := by
  intro H locs ls hP hS hl
  have hlink := F.2.2.2.2.2.1 _ (ev_jrs_ok _ hm)
  refine va_mmax F.1 F.2.1 (by rw [F.2.2.2.1, hl.2.1]) F.2.2.2.2.1 (index := cp) hlink (F.2.2.2.2.2.1 _ ev_jw.2.2.1) (F.2.2.2.2.2.1 _ ev_jw.2.1) (F.2.2.2.2.2.1 _ ev_jw.2.2.2.1) hr.1 (by rw [ev_w_cat]; exact Nat.le_trans (Nat.add_le_add_right hw 13) hr.2) (ev_c0_le j) (ev_c1_le j) hd ?_
  have h := kk H locs ls hP hS hl
  simp only [List.map_cons, ev_rv] at h
  by_cases hxy : ev_wr x < ev_wr y
  · rw [if_pos hxy] at h
    rw [if_pos (ev_oi_lt.mpr hxy)]
    exact h
  · rw [if_neg hxy] at h
    rw [if_neg (fun q => hxy (ev_oi_lt.mp q))]
    exact h
theorem sd_min (F : ev_F p s m args meth c D cI cZ cS ad A j) {x y : Int} {cp : Nat} (hd : decode (ev_bc j) pc = .ok (.invokestatic cp, 3)) (hm : (ev_own j, cp, 63) ∈ ev_jrs) (hr : 1 ≤ (ev_rm j).frames ∧ 21 ≤ (ev_rm j).locals) (hw : ev_w st ≤ 8)
    (kk : ev_W p l e s m args below meth c D cI cZ cS ad A Q j (pc + 3) L (.inl (if ev_wr y < ev_wr x then y else x) :: st) σ) : ev_W p l e s m args below meth c D cI cZ cS ad A Q j pc L (.inl y :: .inl x :: st) σ := by
  intro H locs ls hP hS hl
  have hlink := F.2.2.2.2.2.1 _ (ev_jrs_ok _ hm)
  refine va_mmin F.1 F.2.1 (by rw [F.2.2.2.1, hl.2.1]) F.2.2.2.2.1 (index := cp) hlink (F.2.2.2.2.2.1 _ ev_jw.2.2.2.2.1) (F.2.2.2.2.2.1 _ ev_jw.2.1) (F.2.2.2.2.2.1 _ ev_jw.2.2.2.2.2) hr.1 (by rw [ev_w_cat]; exact Nat.le_trans (Nat.add_le_add_right hw 13) hr.2) (ev_c0_le j) (ev_c1_le j) hd ?_
  have h := kk H locs ls hP hS hl
  simp only [List.map_cons, ev_rv] at h
  by_cases hxy : ev_wr y < ev_wr x
  · rw [if_pos hxy] at h
    rw [if_pos (ev_oi_lt.mpr hxy)]
    exact h
  · rw [if_neg hxy] at h
    rw [if_neg (fun q => hxy (ev_oi_lt.mp q))]
    exact h
theorem sd_copy (F : ev_F p s m args meth c D cI cZ cS ad A j) {a b i k n : Int} {cp : Nat} (hd : decode (ev_bc j) pc = .ok (.invokestatic cp, 3)) (hm : (ev_own j, cp, 61) ∈ ev_jrs) (hr : 1 ≤ (ev_rm j).frames ∧ 26 ≤ (ev_rm j).locals) (hw : ev_w st ≤ 8)
    (ha : ev_cls a = 12) (hb : ev_cls b = 12) (h0 : 0 ≤ ev_wr i) (h1 : 0 ≤ ev_wr k) (h2 : 0 ≤ ev_wr n) (h3 : ev_wr i + ev_wr n ≤ ev_len a) (h4 : ev_wr k + ev_wr n ≤ ev_len b)
    (kk : ev_W p l e s m args below meth c D cI cZ cS ad A Q j (pc + 3) L st (ev_cp σ a (ev_wr i) b (ev_wr k) (ev_wr n))) : ev_W p l e s m args below meth c D cI cZ cS ad A Q j pc L (.inl n :: .inl k :: .inr (.inl b) :: .inl i :: .inr (.inl a) :: st) σ := by
  intro H locs ls hP hS hl
  have hlink := F.2.2.2.2.2.1 _ (ev_jrs_ok _ hm)
  have nn : ∀ z : Int, 0 ≤ ev_wr z → ¬ Int32.ofInt z < 0 := fun z hz q => by
    have := (ev_oi_lt (a := z) (b := 0)).mp q
    rw [ev_wr_0] at this
    omega
  refine va_copyi F.1 F.2.1 (by rw [F.2.2.2.1, hl.2.1]) F.2.2.2.2.1 (index := cp) hlink (F.2.2.2.2.2.1 _ ev_jw.1.1) (F.2.2.2.2.2.1 _ ev_jw.1.2.1) (F.2.2.2.2.2.1 _ ev_jw.1.2.2) F.2.2.2.2.2.2.1 hP (F.2.2.2.2.2.2.2.2.2 σ) hS a.toNat b.toNat 0 0 (ev_at ha (by omega) (ev_e_int ha)) (ev_at hb (by omega) (ev_e_int hb)) rfl rfl rfl (nn i h0) (nn k h1) (nn n h2) (by rw [ev_clamp, ev_clamp]; omega) (by rw [ev_clamp, ev_clamp]; omega) (fun _ _ => rfl) hr.1 (by rw [ev_w_cat]; exact Nat.le_trans (Nat.add_le_add_right hw _) hr.2) hd (fun H1 locs1 hP1 hD1 hS1 => ?_)
  have hset := ev_wd_set (cI := cI) (cZ := cZ) (cS := cS) (ad := ad) (σ := σ) (σ' := ev_cp σ a (ev_wr i) b (ev_wr k) (ev_wr n)) (ev_cls_in (i := b) (by omega)) (fun q hq => by funext z; simp [ev_cp, hq]) (ev_e_int hb)
  have hf : (fun q : Nat => Int32.ofInt (ev_cp σ a (ev_wr i) b (ev_wr k) (ev_wr n) b (q : Int))) = va_cpy (fun q : Nat => Int32.ofInt (σ a (q : Int))) (fun q : Nat => Int32.ofInt (σ b (q : Int))) (ev_wr i).toNat (ev_wr k).toNat (ev_wr n).toNat := by
    funext q
    unfold va_cpy ev_cp
    by_cases hq : (ev_wr k).toNat ≤ q ∧ q < (ev_wr k).toNat + (ev_wr n).toNat
    · rw [if_pos hq, if_pos ⟨rfl, by omega, by omega⟩]
      congr 2
      omega
    · rw [if_neg hq, if_neg (fun z => hq ⟨by omega, by omega⟩)]
  rw [hf] at hset
  rw [ev_clamp, ev_clamp, ev_clamp, hset] at hP1
  exact kk H1 locs1 ls hP1 hS1 hl
theorem sd_iret (F : ev_F p s m args meth c D cI cZ cS ad A j) (hc0 : ev_c0 j = 0 ∧ ev_c1 j = 0) {x : Int} (hd : decode (ev_bc j) pc = .ok (.ireturn, 1)) (hr : ev_ret j = some .int ∨ ev_ret j = some .boolean ∧ (x = 0 ∨ x = 1)) : ev_W p l e s m args below meth c D cI cZ cS ad A (MQ below (ev_Qc D cI cZ cS ad A (some (.inl x), σ)) args s 0 0 A) j pc L [.inl x] σ := by
  intro H locs ls hP hS hl
  rw [hc0.1, hc0.2]
  rcases hr with hr | ⟨hr, hx⟩
  · exact W.iret F.1 F.2.1 (F.2.2.1.trans hr) (fun t ht hW => ⟨⟨_, (), rfl, rfl, by show va_P D vwCl (ev_wd cI cZ cS ad σ) t.heap; rw [ht]; exact hP⟩, hS.F ht⟩) hS.2.2 hd F.2.2.2.2.2.2.2.2.1
  · exact W.zret F.1 F.2.1 (F.2.2.1.trans hr) (by rcases hx with rfl | rfl <;> rfl) (fun t ht hW => ⟨⟨_, (), rfl, rfl, by show va_P D vwCl (ev_wd cI cZ cS ad σ) t.heap; rw [ht]; exact hP⟩, hS.F ht⟩) hS.2.2 hd F.2.2.2.2.2.2.2.2.1
theorem sd_lret (F : ev_F p s m args meth c D cI cZ cS ad A j) (hc0 : ev_c0 j = 0 ∧ ev_c1 j = 0) {x : Int64} (hd : decode (ev_bc j) pc = .ok (.lreturn, 1)) (hr : ev_ret j = some .long) : ev_W p l e s m args below meth c D cI cZ cS ad A (MQ below (ev_Qc D cI cZ cS ad A (some (.inr (.inr x)), σ)) args s 0 0 A) j pc L [.inr (.inr x)] σ := by
  intro H locs ls hP hS hl
  rw [hc0.1, hc0.2]
  exact W.lret F.1 F.2.1 (F.2.2.1.trans hr) (fun t ht hW => ⟨⟨_, (), rfl, rfl, by show va_P D vwCl (ev_wd cI cZ cS ad σ) t.heap; rw [ht]; exact hP⟩, hS.F ht⟩) hS.2.2 hd F.2.2.2.2.2.2.2.2.1
theorem sd_vret (F : ev_F p s m args meth c D cI cZ cS ad A j) (hc0 : ev_c0 j = 0 ∧ ev_c1 j = 0) (hd : decode (ev_bc j) pc = .ok (.return_, 1)) (hr : ev_ret j = none) : ev_W p l e s m args below meth c D cI cZ cS ad A (MQ below (ev_Qc D cI cZ cS ad A (none, σ)) args s 0 0 A) j pc L [] σ := by
  intro H locs ls hP hS hl
  rw [hc0.1, hc0.2]
  exact W.vret F.1 F.2.1 (F.2.2.1.trans hr) (fun t ht hW => ⟨⟨(), rfl, trivial, by show va_P D vwCl (ev_wd cI cZ cS ad σ) t.heap; rw [ht]; exact hP⟩, hS.F ht⟩) hS.2.2 hd F.2.2.2.2.2.2.2.2.1
theorem ev_sel_mk (v : Int) (dt : Nat) : ∀ (ts : List Nat) (lo : Int), ev_sel v (ev_mk lo ts) dt = if lo ≤ v ∧ v < lo + ts.length then ts.getD (v - lo).toNat dt else dt := by
  intro ts
  induction ts with
  | nil => intro lo; simp [ev_mk, ev_sel]
  | cons t ts ih =>
    intro lo
    unfold ev_mk ev_sel
    rw [ih]
    by_cases h : v = lo
    · subst h
      rw [if_pos rfl, if_pos ⟨by omega, by simp; omega⟩]
      simp
    · rw [if_neg h]
      by_cases h2 : lo + 1 ≤ v ∧ v < lo + 1 + ts.length
      · rw [if_pos h2, if_pos ⟨by omega, by simp; omega⟩]
        obtain ⟨n, hn⟩ : ∃ n : Nat, v - lo = n + 1 := ⟨(v - lo - 1).toNat, by omega⟩
        rw [show (v - lo).toNat = n + 1 by omega, show (v - (lo + 1)).toNat = n by omega]
        simp
      · rw [if_neg h2, if_neg (by simp; omega)]
end SNG
end
section
/-! switches, calls, and all instructions together -/
def ev_swd : List (Int × Int × List Int × List Nat × Nat) := [(0, 66, [47, 49, 49, 51, 54, 57, 60, 63], [1, 2, 2, 3, 4, 5, 6, 7], 8), (0, 169, [59, 70, 81, 92, 103, 114, 122, 130, 138, 146, 154], [1, 2, 3, 4, 5, 6, 7, 8, 9, 10, 11], 12), (0, 82, [30, 43, 56, 69], [2, 3, 4, 5], 6), (0, 180, [50, 63, 76, 92, 105, 118, 130, 147, 168], [2, 3, 4, 5, 6, 7, 8, 11, 14], 15), (0, 134, [38, 52, 66, 80, 94, 120], [2, 3, 4, 5, 6, 7], 8), (0, 90, [30, 43, 56, 69], [2, 3, 4, 5], 6), (0, 80, [34, 47, 71], [3, 4, 5], 6), (0, 375, [82, 94, 127, 145, 145, 177, 177, 200, 216, 236, 236, 250, 250, 256, 314, 314, 332], [1, 2, 3, 4, 4, 5, 5, 8, 9, 12, 12, 13, 13, 14, 15, 15, 16], 19)]
def ev_swc (j pc k : Nat) : Bool := match ev_swd.getD k (0, 0, [], [], 0) with
  | (lo, d, offs, ts, dt) => decide (ev_swi k = (.tableswitch d lo (lo + ts.length - 1) offs.toArray, (ev_swi k).2)) && (decide (ev_sw k = (ev_mk lo ts, dt)) && (decide ((pc : Int) + d = (ev_pcs j dt : Int)) && decide (offs.map (fun o => (pc : Int) + o) = ts.map (fun t => (ev_pcs j t : Int)))))
def ev_zip (vs : List Int) (os : List Int) : List (Int × Int) := vs.zip os
def ev_lwc (j pc k : Nat) : Bool := match ev_swd.getD k (0, 0, [], [], 0) with
  | (_, d, offs, ts, dt) => decide (ev_swi k = (.lookupswitch d (((ev_sw k).1.map (fun q => q.1)).zip offs).toArray, (ev_swi k).2)) && (decide ((ev_sw k).1 = ((ev_sw k).1.map (fun q => q.1)).zip ts ∧ (ev_sw k).2 = dt) && (decide ((pc : Int) + d = (ev_pcs j dt : Int)) && (decide (offs.map (fun o => (pc : Int) + o) = ts.map (fun t => (ev_pcs j t : Int))) && decide (((((ev_sw k).1.map (fun q => q.1)).zip offs).zip ((((ev_sw k).1.map (fun q => q.1)).zip offs).drop 1)).all (fun (a, next) => a.1 < next.1) = true))))
theorem ev_lw (v d : Int) (dt : Nat) (j pc : Nat) (hd : (pc : Int) + d = (ev_pcs j dt : Int)) : ∀ (vs offs : List Int) (ts : List Nat), offs.map (fun o => (pc : Int) + o) = ts.map (fun t => (ev_pcs j t : Int)) → (pc : Int) + Op.lookupswitch.offset (vs.zip offs) d v = (ev_pcs j (ev_sel v (vs.zip ts) dt) : Int) := by
  intro vs
  induction vs with
  | nil => intro offs ts _; simpa [Op.lookupswitch.offset, ev_sel] using hd
  | cons a vs ih =>
    intro offs ts h
    cases offs with
    | nil =>
      cases ts with
      | nil => simpa [Op.lookupswitch.offset, ev_sel] using hd
      | cons t ts => simp at h
    | cons o offs =>
      cases ts with
      | nil => simp at h
      | cons t ts =>
        simp only [List.map_cons, List.cons.injEq] at h
        simp only [List.zip_cons_cons, Op.lookupswitch.offset_cons, ev_sel]
        by_cases hv : v = a
        · rw [if_pos hv, if_pos hv.symm]
          exact h.1
        · rw [if_neg hv, if_neg (fun q => hv q.symm)]
          exact ih offs ts h.2
section SNH
variable {p : Program} {l : Launch} {e : Env} {s : State} {m : MethodId} {args : Array Value} {below : List Frame} {meth : Method} {c : Code} {D : va_G} {cI cZ cS : ClassId} {ad : Int → Nat} {A : Nat → Prop} {Q : State → Prop} {j pc : Nat} {L : ev_L} {st : List ev_V} {σ : ev_M}
theorem sd_switch (F : ev_F p s m args meth c D cI cZ cS ad A j) {x : Int} {k : Nat} (hd : decode (ev_bc j) pc = .ok (ev_swi k)) (hc : ev_swc j pc k = true)
    (kk : ev_W p l e s m args below meth c D cI cZ cS ad A Q j (ev_pcs j (ev_sel (ev_wr x) (ev_sw k).1 (ev_sw k).2)) L st σ) : ev_W p l e s m args below meth c D cI cZ cS ad A Q j pc L (.inl x :: st) σ := by
  intro H locs ls hP hS hl
  unfold ev_swc at hc
  rcases hq : ev_swd.getD k (0, 0, [], [], 0) with ⟨lo, d, offs, ts, dt⟩
  rw [hq] at hc
  simp only [Bool.and_eq_true, decide_eq_true_eq] at hc
  obtain ⟨h1, h2, h3, h4⟩ := hc
  rw [h2] at kk
  dsimp only at kk
  rw [ev_sel_mk] at kk
  rw [h1] at hd
  have hlen : offs.length = ts.length := by simpa using congrArg List.length h4
  by_cases hin : lo ≤ ev_wr x ∧ ev_wr x < lo + ts.length
  · rw [if_pos hin] at kk
    have hlt : (ev_wr x - lo).toNat < offs.length := by omega
    have hz : (pc : Int) + offs[(ev_wr x - lo).toNat] = (ev_pcs j (ts.getD (ev_wr x - lo).toNat dt) : Int) := by
      have h5 : (offs.map (fun o => (pc : Int) + o))[(ev_wr x - lo).toNat]? = (ts.map (fun t => (ev_pcs j t : Int)))[(ev_wr x - lo).toNat]? := by rw [h4]
      rw [List.getElem?_map, List.getElem?_map, List.getElem?_eq_getElem hlt, List.getElem?_eq_getElem (by omega : (ev_wr x - lo).toNat < ts.length)] at h5
      simp only [Option.map_some, Option.some.injEq] at h5
      rw [List.getD_eq_getElem?_getD, List.getElem?_eq_getElem (by omega : (ev_wr x - lo).toNat < ts.length)]
      exact h5
    refine lv_tableIn F.1 F.2.1 (off := offs[(ev_wr x - lo).toNat]) hd (by rw [ev_ti]; omega) (by rw [ev_ti]; omega) ?_ hz (kk H locs ls hP hS hl)
    rw [ev_ti]
    simp [hlt]
  · rw [if_neg hin] at kk
    exact lv_tableOut F.1 F.2.1 hd (by rw [ev_ti]; omega) h3 (kk H locs ls hP hS hl)
theorem sd_lookup (F : ev_F p s m args meth c D cI cZ cS ad A j) {x : Int} {k : Nat} (hd : decode (ev_bc j) pc = .ok (ev_swi k)) (hc : ev_lwc j pc k = true)
    (kk : ev_W p l e s m args below meth c D cI cZ cS ad A Q j (ev_pcs j (ev_sel (ev_wr x) (ev_sw k).1 (ev_sw k).2)) L st σ) : ev_W p l e s m args below meth c D cI cZ cS ad A Q j pc L (.inl x :: st) σ := by
  intro H locs ls hP hS hl
  unfold ev_lwc at hc
  rcases hq : ev_swd.getD k (0, 0, [], [], 0) with ⟨lo, d, offs, ts, dt⟩
  rw [hq] at hc
  simp only [Bool.and_eq_true, decide_eq_true_eq] at hc
  obtain ⟨h1, h2, h3, h4, h5⟩ := hc
  rw [h1] at hd
  refine lv_lookup F.1 F.2.1 hd (by simpa using h5) rfl ?_ (kk H locs ls hP hS hl)
  rw [ev_ti, h2.2]
  have h6 := ev_lw (ev_wr x) d dt j pc h3 ((ev_sw k).1.map (fun q => q.1)) offs ts h4
  rw [← h2.1] at h6
  exact h6
theorem ev_go_in (hj : j < 114) {ws : List Cond} {j' : Nat} (hj' : j' < 113) (h : ws = ev_wo j') : GoodIn ev_gw ws := by
  subst h
  intro w hw
  rcases List.mem_cons.mp hw with rfl | hw
  · exact ⟨ev_mcw_ok j' hj', ev_ggw (ev_mcw_ok j' hj')⟩
  · exact ⟨hw, ev_ggw hw⟩
theorem ev_blind (as : List ev_V) (σ : ev_M) : FrameBlind (ev_Pc D cI cZ cS ad as σ) := by
  intro a U g mk q
  obtain ⟨q0, q1, q2, q3⟩ := q
  exact ⟨q0, q1, va_K.moved (u := U) (U := U.calling g mk a) (Vm.Alike.refl U.vm) q2, ev_NW_same (s := U) (U := U.calling g mk a) rfl q3⟩
theorem ev_call_pre (F : ev_F p s m args meth c D cI cZ cS ad A j) {H : Heap} (hP : va_P D vwCl (ev_wd cI cZ cS ad σ) H) (as : List ev_V) : ∀ U : State, U.heap = H → s.WarmedH U.vm → ev_Pc D cI cZ cS ad as σ (as.map (ev_rv ad)).toArray U := by
  intro U hU hW
  exact ⟨rfl, by rw [hU]; exact hP, va_K.moved hW.alike F.2.2.2.2.2.2.1, ev_NW_warm hW F.2.2.2.2.2.2.2.1⟩
theorem ev_call_end {r : ev_R} {st0 rest : List ev_V} {H : Heap} {locs : List Loc} {ls : Array Slot} (args' : Array Value) (hS : va_S A s.heap H locs) (hl : ev_lh ad ls (ev_mxl j) L)
    (hr : va_Run p l e (headSpec (ev_wo j) (ev_rm j)).room s m args below meth c H locs (ev_c0 j) (ev_c1 j) 0 0 (F0 m pc ls (st0.map (ev_rv ad))) (rest.map (ev_rv ad)) (ev_Qc D cI cZ cS ad A r args') A)
    (kk : ev_W p l e s m args below meth c D cI cZ cS ad A Q j (pc + 3) L (r.1.toList ++ rest) r.2) : W p l e (headSpec (ev_wo j) (ev_rm j)).room s m args below meth c H locs (ev_c0 j) (ev_c1 j) Q (F0 m pc ls (st0.map (ev_rv ad))) := by
  rcases r with ⟨v, σ'⟩
  rcases v with _ | x | i | h
  · refine va_callv (a := args') hr hS (fun q _ h => h) (fun q h => h) (fun u t H1 locs1 ht hvm hw hB hz hk hS1 => ?_)
    exact kk H1 locs1 ls (by rw [← ht]; exact hB) hS1 hl
  · refine va_calli (a := args') hr hS (fun q _ h => h) (fun q h => h) (fun y u t H1 locs1 ht hvm hw hB hz hk hS1 => ?_)
    subst hw
    exact kk H1 locs1 ls (by rw [← ht]; exact hB) hS1 hl
  · intro T hT X
    obtain ⟨v, st₀, t, T', L', h0, X', hL, e1, e2, hf, st'⟩ := hr T hT X
    exact hf.elim
  · refine va_calll (a := args') hr hS (fun q _ h => h) (fun q h => h) (fun y u t H1 locs1 ht hvm hw hB hz hk hS1 => ?_)
    subst hw
    exact kk H1 locs1 ls (by rw [← ht]; exact hB) hS1 hl
def ev_rck (j j' : Nat) : Bool := decide ((ev_rm j').frames + 1 ≤ (ev_rm j).frames ∧ 8 + (ev_mxl j' + 11) + (ev_rm j').locals ≤ (ev_rm j).locals)
theorem sd_callV (F : ev_F p s m args meth c D cI cZ cS ad A j) (hj : j < 114) {j' cp : Nat} {b : Int} {as rest : List ev_V} {r : ev_R} (hd : decode (ev_bc j) pc = .ok (.invokevirtual cp, 3)) (hj' : j' < 113) (hs : ev_sta j' = false) (hn : as.length = ev_na j') (hm : (ev_own j, cp, j', if ev_own j = ev_own j' ∨ ev_own j = 11 then 0 else 2) ∈ ev_mrs) (hrc : ev_rck j j' = true) (hst : st = as.reverse ++ .inr (.inl b) :: rest) (hb : ev_cls b = ev_own j') (hw : ev_w rest ≤ 8)
    (hM : ev_Mt l D cI cZ cS ad A j' (.inr (.inl b) :: as) σ r) (kk : ev_W p l e s m args below meth c D cI cZ cS ad A Q j (pc + 3) L (r.1.toList ++ rest) r.2) : ev_W p l e s m args below meth c D cI cZ cS ad A Q j pc L st σ := by
  intro H locs ls hP hS hl
  have hc := of_decide_eq_true hrc
  obtain ⟨k1, k2, k3, k4, k5, k6⟩ := ev_mok_spec hj'
  have hts := F.2.2.2.2.2.1
  have hown12 : ev_own j' < 11 := by
    have : ∀ q, q < 113 → ev_sta q = false → ev_own q < 11 := by decide +kernel
    exact this j' hj' hs
  have hrecv : ∃ cell : Cell, H[ad b]? = some cell ∧ cell.vm.isStatics = false ∧ s.vm.findClass (ev_yn j').cls = some cell.cls := by
    have := va_recv F.2.2.2.2.2.2.1 hP (ev_cl_at _ hown12) (ev_at hb (by omega) (ev_e_obj hb hown12))
    rw [k2]
    exact this
  have hstack : (st.map (ev_rv ad)) = (as.map (ev_rv ad)).reverse ++ .ref (ad b) :: rest.map (ev_rv ad) := by
    rw [hst]; simp [ev_rv]
  refine ev_call_end (r := r) (rest := rest) ((Value.ref (ad b) :: as.map (ev_rv ad)).toArray) hS hl ?_ kk
  by_cases ho : ev_own j = ev_own j' ∨ ev_own j = 11
  · rw [if_pos ho] at hm
    have hlink := hts _ (ev_gwm (ev_mrs_ok _ hm) (by have := List.all_eq_true.mp ev_g2 _ hm; simpa using this))
    unfold ev_mrw at hlink
    rw [if_pos (show (0 : Nat) < 2 by omega)] at hlink
    exact va_runV (As := as.map (ev_rv ad)) (rest := rest.map (ev_rv ad)) ⟨F.1, F.2.1, F.2.2.2.1, F.2.2.2.2.1, hts⟩ hM ⟨callB_of (ev_na j') hts (ev_go_in hj hj' rfl) rfl (ev_rm0 hj').1 (ev_rm0 hj').2 (hts _ k1) hlink k4 hc, hts _ (k6 hs).1, hts _ (k6 hs).2⟩ ⟨ev_blind _ _, hrecv, ev_call_pre F hP (.inr (.inl b) :: as)⟩ rfl (by simpa using hn) hl.2.1 hstack (by show 2 * 0 + _ ≤ 8; rw [ev_w_cat]; omega) hd ⟨ev_c0_le j, ev_c1_le j⟩
  · rw [if_neg ho] at hm
    have hlink := F.2.2.2.2.2.2.2.1.2 _ hm (show ¬ (2 : Nat) < 2 by omega)
    unfold ev_mrw at hlink
    rw [if_neg (show ¬ (2 : Nat) < 2 by omega)] at hlink
    exact va_runVN (As := as.map (ev_rv ad)) (rest := rest.map (ev_rv ad)) ⟨F.1, F.2.1, F.2.2.2.1, F.2.2.2.2.1, hts⟩ hM ⟨va_cnB (ev_na j') hts (ev_go_in hj hj' rfl) rfl (ev_rm0 hj').1 (ev_rm0 hj').2 hlink (hts _ k1) k4 hc, hts _ (k6 hs).1, hts _ (k6 hs).2⟩ ⟨ev_blind _ _, hrecv, ev_call_pre F hP (.inr (.inl b) :: as)⟩ rfl (by simpa using hn) hl.2.1 hstack (by show 2 * 0 + _ ≤ 8; rw [ev_w_cat]; omega) hd ⟨ev_c0_le j, ev_c1_le j⟩
theorem sd_callS (F : ev_F p s m args meth c D cI cZ cS ad A j) (hj : j < 114) {j' cp : Nat} {as rest : List ev_V} {r : ev_R} (hd : decode (ev_bc j) pc = .ok (.invokestatic cp, 3)) (hj' : j' < 113) (hs : ev_sta j' = true) (hn : as.length = ev_na j') (hm : (ev_own j, cp, j', if ev_own j = ev_own j' ∨ ev_own j = 11 then 1 else 3) ∈ ev_mrs) (hrc : ev_rck j j' = true) (hst : st = as.reverse ++ rest) (hw : ev_w rest ≤ 8)
    (hM : ev_Mt l D cI cZ cS ad A j' as σ r) (kk : ev_W p l e s m args below meth c D cI cZ cS ad A Q j (pc + 3) L (r.1.toList ++ rest) r.2) : ev_W p l e s m args below meth c D cI cZ cS ad A Q j pc L st σ := by
  intro H locs ls hP hS hl
  have hc := of_decide_eq_true hrc
  obtain ⟨k1, k2, k3, k4, k5, k6⟩ := ev_mok_spec hj'
  have hts := F.2.2.2.2.2.1
  have hstack : (st.map (ev_rv ad)) = (as.map (ev_rv ad)).reverse ++ rest.map (ev_rv ad) := by
    rw [hst]; simp
  refine ev_call_end (r := r) (rest := rest) ((as.map (ev_rv ad)).toArray) hS hl ?_ kk
  by_cases ho : ev_own j = ev_own j' ∨ ev_own j = 11
  · rw [if_pos ho] at hm
    have hlink := hts _ (ev_gwm (ev_mrs_ok _ hm) (by have := List.all_eq_true.mp ev_g2 _ hm; simpa using this))
    unfold ev_mrw at hlink
    rw [if_pos (show (1 : Nat) < 2 by omega)] at hlink
    exact va_runS (As := as.map (ev_rv ad)) (rest := rest.map (ev_rv ad)) ⟨F.1, F.2.1, F.2.2.2.1, F.2.2.2.2.1, hts⟩ hM ⟨callB_of (ev_na j') hts (ev_go_in hj hj' rfl) rfl (ev_rm0 hj').1 (ev_rm0 hj').2 (hts _ k1) hlink k4 hc, hts _ (k5 hs)⟩ ⟨ev_blind _ _, ev_call_pre F hP as⟩ rfl (by simpa using hn) hl.2.1 hstack (by show 2 * 0 + _ ≤ 8; rw [ev_w_cat]; omega) hd ⟨ev_c0_le j, ev_c1_le j⟩
  · rw [if_neg ho] at hm
    have hlink := F.2.2.2.2.2.2.2.1.2 _ hm (show ¬ (3 : Nat) < 2 by omega)
    unfold ev_mrw at hlink
    rw [if_neg (show ¬ (3 : Nat) < 2 by omega)] at hlink
    exact va_runSN (As := as.map (ev_rv ad)) (rest := rest.map (ev_rv ad)) ⟨F.1, F.2.1, F.2.2.2.1, F.2.2.2.2.1, hts⟩ hM ⟨va_cnB (ev_na j') hts (ev_go_in hj hj' rfl) rfl (ev_rm0 hj').1 (ev_rm0 hj').2 hlink (hts _ k1) k4 hc, hts _ (k5 hs), trivial⟩ ⟨ev_blind _ _, ev_call_pre F hP as⟩ rfl (by simpa using hn) hl.2.1 hstack (by show 2 * 0 + _ ≤ 8; rw [ev_w_cat]; omega) hd ⟨ev_c0_le j, ev_c1_le j⟩
end SNH
end
section
/-! what is checked of the code, and what an instruction of the pure machine comes to on the real one -/
def ev_ok2 (j pc : Nat) (op : ev_O) : Bool := match op with
  | (0, k, f, _, _) => decide (f = 0 → k < 4)
  | (1, k, f, _, _) => decide (f = 0 → k < 4)
  | (2, k, f, _, _) => decide (f = 0 → k < 4)
  | (3, k, f, _, _) => decide (f = 0 → k < 4)
  | (4, k, f, _, _) => decide (f = 0 → k < 4)
  | (5, k, f, _, _) => decide (f = 0 → k < 4)
  | (6, f, _, z, _) => decide ((f = 1 → (Int8.ofInt z).toInt32 = Int32.ofInt z) ∧ (Int16.ofInt z).toInt32 = Int32.ofInt z)
  | (7, k, _, z, _) => decide ((ev_own j, k, z) ∈ ev_cks)
  | (8, k, _, z, _) => decide ((ev_own j, k, z) ∈ ev_cls2)
  | (27, e, c, k, _) => decide ((ev_own j, e, c, k.toNat) ∈ ev_frs ∧ 0 ≤ k) && ev_fck c k.toNat 0 0
  | (28, e, c, k, o) => decide ((ev_own j, e, c, k.toNat) ∈ ev_frs ∧ 0 ≤ k) && ev_fck c k.toNat 1 o
  | (29, e, c, k, _) => decide ((ev_own j, e, c, k.toNat) ∈ ev_frs ∧ 0 ≤ k) && ev_fck c k.toNat 2 0
  | (30, e, c, k, _) => decide ((ev_own j, e, c, k.toNat) ∈ ev_frs ∧ 0 ≤ k) && ev_fck c k.toNat 0 0
  | (31, e, c, k, _) => decide ((ev_own j, e, c, k.toNat) ∈ ev_frs ∧ 0 ≤ k) && ev_fck c k.toNat 2 0
  | (40, t, _, z, _) => decide ((pc : Int) + z = (ev_pcs j t : Int))
  | (41, t, _, z, _) => decide ((pc : Int) + z = (ev_pcs j t : Int))
  | (42, t, _, z, _) => decide ((pc : Int) + z = (ev_pcs j t : Int))
  | (43, t, _, z, _) => decide ((pc : Int) + z = (ev_pcs j t : Int))
  | (44, t, _, z, _) => decide ((pc : Int) + z = (ev_pcs j t : Int))
  | (45, t, _, z, _) => decide ((pc : Int) + z = (ev_pcs j t : Int))
  | (46, t, _, z, _) => decide ((pc : Int) + z = (ev_pcs j t : Int))
  | (47, t, _, z, _) => decide ((pc : Int) + z = (ev_pcs j t : Int))
  | (48, t, _, z, _) => decide ((pc : Int) + z = (ev_pcs j t : Int))
  | (49, t, _, z, _) => decide ((pc : Int) + z = (ev_pcs j t : Int))
  | (50, t, _, z, _) => decide ((pc : Int) + z = (ev_pcs j t : Int))
  | (51, t, _, z, _) => decide ((pc : Int) + z = (ev_pcs j t : Int))
  | (52, t, _, z, _) => decide ((pc : Int) + z = (ev_pcs j t : Int))
  | (38, _, _, _, _) => decide (j = 113)
  | (54, k, _, _, _) => ev_swc j pc k
  | (55, k, _, _, _) => ev_lwc j pc k
  | (56, b, _, _, _) => decide ((b = 0 → ev_ret j = some .int) ∧ (b ≠ 0 → ev_ret j = some .boolean))
  | (57, _, _, _, _) => decide (ev_ret j = some .long)
  | (58, _, _, _, _) => decide (ev_ret j = none)
  | (59, q, n, z, c) => decide (q < 113 ∧ n = ev_na q + 1 ∧ ev_sta q = false ∧ (ev_own q : Int) = c ∧ (ev_own j, z.toNat, q, if ev_own j = ev_own q ∨ ev_own j = 11 then 0 else 2) ∈ ev_mrs) && ev_rck j q
  | (60, q, n, z, _) => decide (q < 113 ∧ n = ev_na q ∧ ev_sta q = true ∧ (ev_own j, z.toNat, q, if ev_own j = ev_own q ∨ ev_own j = 11 then 1 else 3) ∈ ev_mrs) && ev_rck j q
  | (61, k, _, _, _) => decide ((ev_own j, k, 61) ∈ ev_jrs ∧ 1 ≤ (ev_rm j).frames ∧ 26 ≤ (ev_rm j).locals)
  | (62, k, _, _, _) => decide ((ev_own j, k, 62) ∈ ev_jrs ∧ 1 ≤ (ev_rm j).frames ∧ 21 ≤ (ev_rm j).locals)
  | (63, k, _, _, _) => decide ((ev_own j, k, 63) ∈ ev_jrs ∧ 1 ≤ (ev_rm j).frames ∧ 21 ≤ (ev_rm j).locals)
  | _ => true
def ev_ok1 (j pc : Nat) (op : ev_O) : Bool := if op.1 = 53 then decide (pc = ev_pcs j op.2.1) else decide (decode (ev_bc j) pc = .ok (ev_in op)) && ev_ok2 j pc op
def ev_okb (j : Nat) : List ev_O → Nat → Bool
  | [], _ => true
  | op :: ops, pc => ev_ok1 j pc op && ev_okb j ops (pc + (ev_in op).2)
def ev_chk (j : Nat) : Bool := (List.range (ev_ms.getD j []).length).all (fun t => ev_okb j (ev_blk j t) (ev_pcs j t))
theorem ev_ok1_d {j pc : Nat} {op : ev_O} (h : ev_ok1 j pc op = true) (hn : op.1 ≠ 53) : decode (ev_bc j) pc = .ok (ev_in op) ∧ ev_ok2 j pc op = true := by
  unfold ev_ok1 at h
  rw [if_neg hn] at h
  have := (Bool.and_eq_true _ _).mp h
  exact ⟨of_decide_eq_true this.1, this.2⟩
theorem ev_ok38 {j pc : Nat} {op : ev_O} (h : ev_ok1 j pc op = true) (h38 : op.1 = 38) : j = 113 := by
  obtain ⟨k, a, b, z, w⟩ := op
  dsimp only at h38
  subst h38
  exact of_decide_eq_true (ev_ok1_d h (by dsimp only; omega)).2
/-- what is to be shown of an instruction -/
def ev_G (p : Program) (l : Launch) (e : Env) (s : State) (m : MethodId) (args : Array Value) (below : List Frame) (meth : Method) (c : Code) (D : va_G) (cI cZ cS : ClassId) (ad : Int → Nat) (A : Nat → Prop) (Q : State → Prop) (j pc n : Nat) (L : ev_L) (st : List ev_V) (σ : ev_M) (X : ev_X) : Prop := match X with
  | .inl (L1, st1, σ1) => ev_W p l e s m args below meth c D cI cZ cS ad A Q j (pc + n) L1 st1 σ1 → ev_W p l e s m args below meth c D cI cZ cS ad A Q j pc L st σ
  | .inr (.inl (t, L1, st1, σ1)) => ev_W p l e s m args below meth c D cI cZ cS ad A Q j (ev_pcs j t) L1 st1 σ1 → ev_W p l e s m args below meth c D cI cZ cS ad A Q j pc L st σ
  | .inr (.inr (.inl r1)) => Q = MQ below (ev_Qc D cI cZ cS ad A r1) args s 0 0 A → (ev_c0 j = 0 ∧ ev_c1 j = 0) → ev_W p l e s m args below meth c D cI cZ cS ad A Q j pc L st σ
  | .inr (.inr (.inr (q, as, rest, L1, σ1))) => q < 113 ∧ ∀ r1, ev_Mt l D cI cZ cS ad A q as σ1 r1 → ev_W p l e s m args below meth c D cI cZ cS ad A Q j (pc + n) L1 (r1.1.toList ++ rest) r1.2 → ev_W p l e s m args below meth c D cI cZ cS ad A Q j pc L st σ
section SNX
variable {p : Program} {l : Launch} {e : Env} {s : State} {m : MethodId} {args : Array Value} {below : List Frame} {meth : Method} {c : Code} {D : va_G} {cI cZ cS : ClassId} {ad : Int → Nat} {A : Nat → Prop} {Q : State → Prop} {j pc : Nat} {L : ev_L} {st : List ev_V} {σ : ev_M}
theorem ex_0 (F : ev_F p s m args meth c D cI cZ cS ad A j) (hj : j < 114) {a b : Nat} {z w : Int} {X : ev_X} (hok : ev_ok1 j pc ((0, a, b, z, w) : ev_O) = true) (hx : ev_x ((0, a, b, z, w) : ev_O) L st σ = some X) : ev_G p l e s m args below meth c D cI cZ cS ad A Q j pc (ev_in ((0, a, b, z, w) : ev_O)).2 L st σ X := by
  obtain ⟨hd, h2⟩ := ev_ok1_d hok (show (0 : Nat) ≠ 53 by decide)
  simp only [ev_x] at hx
  split at hx
  · next x hg =>
    cases hx
    intro kk
    refine sd_iload F hd (of_decide_eq_true h2) hg ?_
    have e : (ev_in ((0, a, b, z, w) : ev_O)).2 = if b = 0 then 1 else 2 := by
      show (if b = 0 then _ else _ : Instr × Nat).2 = _
      split <;> rfl
    rw [e] at kk
    exact kk
  · cases hx
theorem ex_1 (F : ev_F p s m args meth c D cI cZ cS ad A j) (hj : j < 114) {a b : Nat} {z w : Int} {X : ev_X} (hok : ev_ok1 j pc ((1, a, b, z, w) : ev_O) = true) (hx : ev_x ((1, a, b, z, w) : ev_O) L st σ = some X) : ev_G p l e s m args below meth c D cI cZ cS ad A Q j pc (ev_in ((1, a, b, z, w) : ev_O)).2 L st σ X := by
  obtain ⟨hd, h2⟩ := ev_ok1_d hok (show (1 : Nat) ≠ 53 by decide)
  simp only [ev_x] at hx
  split at hx
  · next x hg =>
    cases hx
    intro kk
    refine sd_aload F hd (of_decide_eq_true h2) hg ?_
    have e : (ev_in ((1, a, b, z, w) : ev_O)).2 = if b = 0 then 1 else 2 := by
      show (if b = 0 then _ else _ : Instr × Nat).2 = _
      split <;> rfl
    rw [e] at kk
    exact kk
  · cases hx
theorem ex_2 (F : ev_F p s m args meth c D cI cZ cS ad A j) (hj : j < 114) {a b : Nat} {z w : Int} {X : ev_X} (hok : ev_ok1 j pc ((2, a, b, z, w) : ev_O) = true) (hx : ev_x ((2, a, b, z, w) : ev_O) L st σ = some X) : ev_G p l e s m args below meth c D cI cZ cS ad A Q j pc (ev_in ((2, a, b, z, w) : ev_O)).2 L st σ X := by
  obtain ⟨hd, h2⟩ := ev_ok1_d hok (show (2 : Nat) ≠ 53 by decide)
  simp only [ev_x] at hx
  split at hx
  · next x hg =>
    cases hx
    intro kk
    refine sd_lload F hd (of_decide_eq_true h2) hg ?_
    have e : (ev_in ((2, a, b, z, w) : ev_O)).2 = if b = 0 then 1 else 2 := by
      show (if b = 0 then _ else _ : Instr × Nat).2 = _
      split <;> rfl
    rw [e] at kk
    exact kk
  · cases hx
theorem ex_3 (F : ev_F p s m args meth c D cI cZ cS ad A j) (hj : j < 114) {a b : Nat} {z w : Int} {X : ev_X} (hok : ev_ok1 j pc ((3, a, b, z, w) : ev_O) = true) (hx : ev_x ((3, a, b, z, w) : ev_O) L st σ = some X) : ev_G p l e s m args below meth c D cI cZ cS ad A Q j pc (ev_in ((3, a, b, z, w) : ev_O)).2 L st σ X := by
  obtain ⟨hd, h2⟩ := ev_ok1_d hok (show (3 : Nat) ≠ 53 by decide)
  simp only [ev_x] at hx
  split at hx
  · split at hx
    · next hc =>
      cases hx
      intro kk
      refine sd_istore F hd (of_decide_eq_true h2) hc.1 hc.2 ?_
      have e : (ev_in ((3, a, b, z, w) : ev_O)).2 = if b = 0 then 1 else 2 := by
        show (if b = 0 then _ else _ : Instr × Nat).2 = _
        split <;> rfl
      rw [e] at kk
      exact kk
    · cases hx
  · cases hx
theorem ex_4 (F : ev_F p s m args meth c D cI cZ cS ad A j) (hj : j < 114) {a b : Nat} {z w : Int} {X : ev_X} (hok : ev_ok1 j pc ((4, a, b, z, w) : ev_O) = true) (hx : ev_x ((4, a, b, z, w) : ev_O) L st σ = some X) : ev_G p l e s m args below meth c D cI cZ cS ad A Q j pc (ev_in ((4, a, b, z, w) : ev_O)).2 L st σ X := by
  obtain ⟨hd, h2⟩ := ev_ok1_d hok (show (4 : Nat) ≠ 53 by decide)
  simp only [ev_x] at hx
  split at hx
  · split at hx
    · next hc =>
      cases hx
      intro kk
      refine sd_astore F hd (of_decide_eq_true h2) hc.1 hc.2 ?_
      have e : (ev_in ((4, a, b, z, w) : ev_O)).2 = if b = 0 then 1 else 2 := by
        show (if b = 0 then _ else _ : Instr × Nat).2 = _
        split <;> rfl
      rw [e] at kk
      exact kk
    · cases hx
  · cases hx
theorem ex_5 (F : ev_F p s m args meth c D cI cZ cS ad A j) (hj : j < 114) {a b : Nat} {z w : Int} {X : ev_X} (hok : ev_ok1 j pc ((5, a, b, z, w) : ev_O) = true) (hx : ev_x ((5, a, b, z, w) : ev_O) L st σ = some X) : ev_G p l e s m args below meth c D cI cZ cS ad A Q j pc (ev_in ((5, a, b, z, w) : ev_O)).2 L st σ X := by
  obtain ⟨hd, h2⟩ := ev_ok1_d hok (show (5 : Nat) ≠ 53 by decide)
  simp only [ev_x] at hx
  split at hx
  · split at hx
    · next hc =>
      cases hx
      intro kk
      refine sd_lstore F hd (of_decide_eq_true h2) hc.1 hc.2 ?_
      have e : (ev_in ((5, a, b, z, w) : ev_O)).2 = if b = 0 then 1 else 2 := by
        show (if b = 0 then _ else _ : Instr × Nat).2 = _
        split <;> rfl
      rw [e] at kk
      exact kk
    · cases hx
  · cases hx
theorem ex_6 (F : ev_F p s m args meth c D cI cZ cS ad A j) (hj : j < 114) {a b : Nat} {z w : Int} {X : ev_X} (hok : ev_ok1 j pc ((6, a, b, z, w) : ev_O) = true) (hx : ev_x ((6, a, b, z, w) : ev_O) L st σ = some X) : ev_G p l e s m args below meth c D cI cZ cS ad A Q j pc (ev_in ((6, a, b, z, w) : ev_O)).2 L st σ X := by
  obtain ⟨hd, h2⟩ := ev_ok1_d hok (show (6 : Nat) ≠ 53 by decide)
  simp only [ev_x] at hx
  cases hx
  intro kk
  have h3 := of_decide_eq_true h2
  refine sd_const F hd h3.1 h3.2 ?_
  have e : (ev_in ((6, a, b, z, w) : ev_O)).2 = if a = 0 then 1 else if a = 1 then 2 else 3 := by
    show (if a = 0 then _ else if a = 1 then _ else _ : Instr × Nat).2 = _
    split
    · rfl
    · split <;> rfl
  rw [e] at kk
  exact kk
theorem ex_7 (F : ev_F p s m args meth c D cI cZ cS ad A j) (hj : j < 114) {a b : Nat} {z w : Int} {X : ev_X} (hok : ev_ok1 j pc ((7, a, b, z, w) : ev_O) = true) (hx : ev_x ((7, a, b, z, w) : ev_O) L st σ = some X) : ev_G p l e s m args below meth c D cI cZ cS ad A Q j pc (ev_in ((7, a, b, z, w) : ev_O)).2 L st σ X := by
  obtain ⟨hd, h2⟩ := ev_ok1_d hok (show (7 : Nat) ≠ 53 by decide)
  simp only [ev_x] at hx
  cases hx
  intro kk
  exact sd_ldc F hd (ev_cks_ok _ (of_decide_eq_true h2)) kk
theorem ex_8 (F : ev_F p s m args meth c D cI cZ cS ad A j) (hj : j < 114) {a b : Nat} {z w : Int} {X : ev_X} (hok : ev_ok1 j pc ((8, a, b, z, w) : ev_O) = true) (hx : ev_x ((8, a, b, z, w) : ev_O) L st σ = some X) : ev_G p l e s m args below meth c D cI cZ cS ad A Q j pc (ev_in ((8, a, b, z, w) : ev_O)).2 L st σ X := by
  obtain ⟨hd, h2⟩ := ev_ok1_d hok (show (8 : Nat) ≠ 53 by decide)
  simp only [ev_x] at hx
  cases hx
  intro kk
  exact sd_ldc2 F hd (ev_cls2_ok _ (of_decide_eq_true h2)) kk
theorem ex_9 (F : ev_F p s m args meth c D cI cZ cS ad A j) (hj : j < 114) {a b : Nat} {z w : Int} {X : ev_X} (hok : ev_ok1 j pc ((9, a, b, z, w) : ev_O) = true) (hx : ev_x ((9, a, b, z, w) : ev_O) L st σ = some X) : ev_G p l e s m args below meth c D cI cZ cS ad A Q j pc (ev_in ((9, a, b, z, w) : ev_O)).2 L st σ X := by
  obtain ⟨hd, h2⟩ := ev_ok1_d hok (show (9 : Nat) ≠ 53 by decide)
  simp only [ev_x] at hx
  split at hx
  · cases hx
    intro kk
    exact sd_lcmp F hd kk
  · cases hx
theorem ex_10 (F : ev_F p s m args meth c D cI cZ cS ad A j) (hj : j < 114) {a b : Nat} {z w : Int} {X : ev_X} (hok : ev_ok1 j pc ((10, a, b, z, w) : ev_O) = true) (hx : ev_x ((10, a, b, z, w) : ev_O) L st σ = some X) : ev_G p l e s m args below meth c D cI cZ cS ad A Q j pc (ev_in ((10, a, b, z, w) : ev_O)).2 L st σ X := by
  obtain ⟨hd, h2⟩ := ev_ok1_d hok (show (10 : Nat) ≠ 53 by decide)
  simp only [ev_x] at hx
  split at hx
  · cases hx
    intro kk
    exact sd_iadd F hd kk
  · cases hx
theorem ex_11 (F : ev_F p s m args meth c D cI cZ cS ad A j) (hj : j < 114) {a b : Nat} {z w : Int} {X : ev_X} (hok : ev_ok1 j pc ((11, a, b, z, w) : ev_O) = true) (hx : ev_x ((11, a, b, z, w) : ev_O) L st σ = some X) : ev_G p l e s m args below meth c D cI cZ cS ad A Q j pc (ev_in ((11, a, b, z, w) : ev_O)).2 L st σ X := by
  obtain ⟨hd, h2⟩ := ev_ok1_d hok (show (11 : Nat) ≠ 53 by decide)
  simp only [ev_x] at hx
  split at hx
  · cases hx
    intro kk
    exact sd_isub F hd kk
  · cases hx
theorem ex_12 (F : ev_F p s m args meth c D cI cZ cS ad A j) (hj : j < 114) {a b : Nat} {z w : Int} {X : ev_X} (hok : ev_ok1 j pc ((12, a, b, z, w) : ev_O) = true) (hx : ev_x ((12, a, b, z, w) : ev_O) L st σ = some X) : ev_G p l e s m args below meth c D cI cZ cS ad A Q j pc (ev_in ((12, a, b, z, w) : ev_O)).2 L st σ X := by
  obtain ⟨hd, h2⟩ := ev_ok1_d hok (show (12 : Nat) ≠ 53 by decide)
  simp only [ev_x] at hx
  split at hx
  · cases hx
    intro kk
    exact sd_imul F hd kk
  · cases hx
theorem ex_15 (F : ev_F p s m args meth c D cI cZ cS ad A j) (hj : j < 114) {a b : Nat} {z w : Int} {X : ev_X} (hok : ev_ok1 j pc ((15, a, b, z, w) : ev_O) = true) (hx : ev_x ((15, a, b, z, w) : ev_O) L st σ = some X) : ev_G p l e s m args below meth c D cI cZ cS ad A Q j pc (ev_in ((15, a, b, z, w) : ev_O)).2 L st σ X := by
  obtain ⟨hd, h2⟩ := ev_ok1_d hok (show (15 : Nat) ≠ 53 by decide)
  simp only [ev_x] at hx
  split at hx
  · cases hx
    intro kk
    exact sd_iand F hd kk
  · cases hx
theorem ex_16 (F : ev_F p s m args meth c D cI cZ cS ad A j) (hj : j < 114) {a b : Nat} {z w : Int} {X : ev_X} (hok : ev_ok1 j pc ((16, a, b, z, w) : ev_O) = true) (hx : ev_x ((16, a, b, z, w) : ev_O) L st σ = some X) : ev_G p l e s m args below meth c D cI cZ cS ad A Q j pc (ev_in ((16, a, b, z, w) : ev_O)).2 L st σ X := by
  obtain ⟨hd, h2⟩ := ev_ok1_d hok (show (16 : Nat) ≠ 53 by decide)
  simp only [ev_x] at hx
  split at hx
  · cases hx
    intro kk
    exact sd_ior F hd kk
  · cases hx
theorem ex_17 (F : ev_F p s m args meth c D cI cZ cS ad A j) (hj : j < 114) {a b : Nat} {z w : Int} {X : ev_X} (hok : ev_ok1 j pc ((17, a, b, z, w) : ev_O) = true) (hx : ev_x ((17, a, b, z, w) : ev_O) L st σ = some X) : ev_G p l e s m args below meth c D cI cZ cS ad A Q j pc (ev_in ((17, a, b, z, w) : ev_O)).2 L st σ X := by
  obtain ⟨hd, h2⟩ := ev_ok1_d hok (show (17 : Nat) ≠ 53 by decide)
  simp only [ev_x] at hx
  split at hx
  · cases hx
    intro kk
    exact sd_ixor F hd kk
  · cases hx
theorem ex_18 (F : ev_F p s m args meth c D cI cZ cS ad A j) (hj : j < 114) {a b : Nat} {z w : Int} {X : ev_X} (hok : ev_ok1 j pc ((18, a, b, z, w) : ev_O) = true) (hx : ev_x ((18, a, b, z, w) : ev_O) L st σ = some X) : ev_G p l e s m args below meth c D cI cZ cS ad A Q j pc (ev_in ((18, a, b, z, w) : ev_O)).2 L st σ X := by
  obtain ⟨hd, h2⟩ := ev_ok1_d hok (show (18 : Nat) ≠ 53 by decide)
  simp only [ev_x] at hx
  split at hx
  · cases hx
    intro kk
    exact sd_ishl F hd kk
  · cases hx
theorem ex_19 (F : ev_F p s m args meth c D cI cZ cS ad A j) (hj : j < 114) {a b : Nat} {z w : Int} {X : ev_X} (hok : ev_ok1 j pc ((19, a, b, z, w) : ev_O) = true) (hx : ev_x ((19, a, b, z, w) : ev_O) L st σ = some X) : ev_G p l e s m args below meth c D cI cZ cS ad A Q j pc (ev_in ((19, a, b, z, w) : ev_O)).2 L st σ X := by
  obtain ⟨hd, h2⟩ := ev_ok1_d hok (show (19 : Nat) ≠ 53 by decide)
  simp only [ev_x] at hx
  split at hx
  · cases hx
    intro kk
    exact sd_ishr F hd kk
  · cases hx
theorem ex_20 (F : ev_F p s m args meth c D cI cZ cS ad A j) (hj : j < 114) {a b : Nat} {z w : Int} {X : ev_X} (hok : ev_ok1 j pc ((20, a, b, z, w) : ev_O) = true) (hx : ev_x ((20, a, b, z, w) : ev_O) L st σ = some X) : ev_G p l e s m args below meth c D cI cZ cS ad A Q j pc (ev_in ((20, a, b, z, w) : ev_O)).2 L st σ X := by
  obtain ⟨hd, h2⟩ := ev_ok1_d hok (show (20 : Nat) ≠ 53 by decide)
  simp only [ev_x] at hx
  split at hx
  · cases hx
    intro kk
    exact sd_ladd F hd kk
  · cases hx
theorem ex_21 (F : ev_F p s m args meth c D cI cZ cS ad A j) (hj : j < 114) {a b : Nat} {z w : Int} {X : ev_X} (hok : ev_ok1 j pc ((21, a, b, z, w) : ev_O) = true) (hx : ev_x ((21, a, b, z, w) : ev_O) L st σ = some X) : ev_G p l e s m args below meth c D cI cZ cS ad A Q j pc (ev_in ((21, a, b, z, w) : ev_O)).2 L st σ X := by
  obtain ⟨hd, h2⟩ := ev_ok1_d hok (show (21 : Nat) ≠ 53 by decide)
  simp only [ev_x] at hx
  split at hx
  · cases hx
    intro kk
    exact sd_lmul F hd kk
  · cases hx
theorem ex_22 (F : ev_F p s m args meth c D cI cZ cS ad A j) (hj : j < 114) {a b : Nat} {z w : Int} {X : ev_X} (hok : ev_ok1 j pc ((22, a, b, z, w) : ev_O) = true) (hx : ev_x ((22, a, b, z, w) : ev_O) L st σ = some X) : ev_G p l e s m args below meth c D cI cZ cS ad A Q j pc (ev_in ((22, a, b, z, w) : ev_O)).2 L st σ X := by
  obtain ⟨hd, h2⟩ := ev_ok1_d hok (show (22 : Nat) ≠ 53 by decide)
  simp only [ev_x] at hx
  split at hx
  · cases hx
    intro kk
    exact sd_i2l F hd kk
  · cases hx
theorem ex_25 (F : ev_F p s m args meth c D cI cZ cS ad A j) (hj : j < 114) {a b : Nat} {z w : Int} {X : ev_X} (hok : ev_ok1 j pc ((25, a, b, z, w) : ev_O) = true) (hx : ev_x ((25, a, b, z, w) : ev_O) L st σ = some X) : ev_G p l e s m args below meth c D cI cZ cS ad A Q j pc (ev_in ((25, a, b, z, w) : ev_O)).2 L st σ X := by
  obtain ⟨hd, h2⟩ := ev_ok1_d hok (show (25 : Nat) ≠ 53 by decide)
  simp only [ev_x] at hx
  split at hx
  · cases hx
    intro kk
    exact sd_dup2 F hd kk
  · cases hx
theorem ex_26 (F : ev_F p s m args meth c D cI cZ cS ad A j) (hj : j < 114) {a b : Nat} {z w : Int} {X : ev_X} (hok : ev_ok1 j pc ((26, a, b, z, w) : ev_O) = true) (hx : ev_x ((26, a, b, z, w) : ev_O) L st σ = some X) : ev_G p l e s m args below meth c D cI cZ cS ad A Q j pc (ev_in ((26, a, b, z, w) : ev_O)).2 L st σ X := by
  obtain ⟨hd, h2⟩ := ev_ok1_d hok (show (26 : Nat) ≠ 53 by decide)
  simp only [ev_x] at hx
  split at hx
  · cases hx
    intro kk
    exact sd_pop F hd kk
  · cases hx
theorem ex_13 (F : ev_F p s m args meth c D cI cZ cS ad A j) (hj : j < 114) {a b : Nat} {z w : Int} {X : ev_X} (hok : ev_ok1 j pc ((13, a, b, z, w) : ev_O) = true) (hx : ev_x ((13, a, b, z, w) : ev_O) L st σ = some X) : ev_G p l e s m args below meth c D cI cZ cS ad A Q j pc (ev_in ((13, a, b, z, w) : ev_O)).2 L st σ X := by
  obtain ⟨hd, h2⟩ := ev_ok1_d hok (show (13 : Nat) ≠ 53 by decide)
  simp only [ev_x] at hx
  split at hx
  · split at hx
    · cases hx
    · next hne =>
      cases hx
      intro kk
      exact sd_idiv F hd hne kk
  · cases hx
theorem ex_14 (F : ev_F p s m args meth c D cI cZ cS ad A j) (hj : j < 114) {a b : Nat} {z w : Int} {X : ev_X} (hok : ev_ok1 j pc ((14, a, b, z, w) : ev_O) = true) (hx : ev_x ((14, a, b, z, w) : ev_O) L st σ = some X) : ev_G p l e s m args below meth c D cI cZ cS ad A Q j pc (ev_in ((14, a, b, z, w) : ev_O)).2 L st σ X := by
  obtain ⟨hd, h2⟩ := ev_ok1_d hok (show (14 : Nat) ≠ 53 by decide)
  simp only [ev_x] at hx
  split at hx
  · split at hx
    · cases hx
    · next hne =>
      cases hx
      intro kk
      exact sd_irem F hd hne kk
  · cases hx
theorem ex_23 (F : ev_F p s m args meth c D cI cZ cS ad A j) (hj : j < 114) {a b : Nat} {z w : Int} {X : ev_X} (hok : ev_ok1 j pc ((23, a, b, z, w) : ev_O) = true) (hx : ev_x ((23, a, b, z, w) : ev_O) L st σ = some X) : ev_G p l e s m args below meth c D cI cZ cS ad A Q j pc (ev_in ((23, a, b, z, w) : ev_O)).2 L st σ X := by
  obtain ⟨hd, h2⟩ := ev_ok1_d hok (show (23 : Nat) ≠ 53 by decide)
  simp only [ev_x] at hx
  split at hx
  · next x hg =>
    split at hx
    · next hc =>
      cases hx
      intro kk
      exact sd_iinc F hd hg hc.1 hc.2 kk
    · cases hx
  · cases hx
theorem ex_24 (F : ev_F p s m args meth c D cI cZ cS ad A j) (hj : j < 114) {a b : Nat} {z w : Int} {X : ev_X} (hok : ev_ok1 j pc ((24, a, b, z, w) : ev_O) = true) (hx : ev_x ((24, a, b, z, w) : ev_O) L st σ = some X) : ev_G p l e s m args below meth c D cI cZ cS ad A Q j pc (ev_in ((24, a, b, z, w) : ev_O)).2 L st σ X := by
  obtain ⟨hd, h2⟩ := ev_ok1_d hok (show (24 : Nat) ≠ 53 by decide)
  simp only [ev_x] at hx
  split at hx
  · cases hx
    intro kk
    exact sd_dupi F hd kk
  · cases hx
    intro kk
    exact sd_dupr F hd kk
  · cases hx
theorem ex_27 (F : ev_F p s m args meth c D cI cZ cS ad A j) (hj : j < 114) {a b : Nat} {z w : Int} {X : ev_X} (hok : ev_ok1 j pc ((27, a, b, z, w) : ev_O) = true) (hx : ev_x ((27, a, b, z, w) : ev_O) L st σ = some X) : ev_G p l e s m args below meth c D cI cZ cS ad A Q j pc (ev_in ((27, a, b, z, w) : ev_O)).2 L st σ X := by
  obtain ⟨hd, h2⟩ := ev_ok1_d hok (show (27 : Nat) ≠ 53 by decide)
  simp only [ev_x] at hx
  split at hx
  · next i st' =>
    split at hx
    · next hi =>
      cases hx
      intro kk
      have h3 := (Bool.and_eq_true _ _).mp h2
      have h4 := of_decide_eq_true h3.1
      have hz : ((z.toNat : Nat) : Int) = z := by omega
      have h5 := of_decide_eq_true ((Bool.and_eq_true _ _).mp h3.2).1
      refine sd_get F hd h4.1 h3.2 hi ?_ kk
      unfold ev_fv
      rcases hk : ev_kd b z.toNat with ⟨k1, k2⟩
      rw [hk] at h5
      obtain ⟨-, -, h6, h7, -⟩ := h5
      dsimp only at h6 h7
      subst h6
      skip
      rw [hz]
      rfl
    · cases hx
  · cases hx
theorem ex_28 (F : ev_F p s m args meth c D cI cZ cS ad A j) (hj : j < 114) {a b : Nat} {z w : Int} {X : ev_X} (hok : ev_ok1 j pc ((28, a, b, z, w) : ev_O) = true) (hx : ev_x ((28, a, b, z, w) : ev_O) L st σ = some X) : ev_G p l e s m args below meth c D cI cZ cS ad A Q j pc (ev_in ((28, a, b, z, w) : ev_O)).2 L st σ X := by
  obtain ⟨hd, h2⟩ := ev_ok1_d hok (show (28 : Nat) ≠ 53 by decide)
  simp only [ev_x] at hx
  split at hx
  · next i st' =>
    split at hx
    · next hi =>
      cases hx
      intro kk
      have h3 := (Bool.and_eq_true _ _).mp h2
      have h4 := of_decide_eq_true h3.1
      have hz : ((z.toNat : Nat) : Int) = z := by omega
      have h5 := of_decide_eq_true ((Bool.and_eq_true _ _).mp h3.2).1
      refine sd_get F hd h4.1 h3.2 hi ?_ kk
      unfold ev_fv
      rcases hk : ev_kd b z.toNat with ⟨k1, k2⟩
      rw [hk] at h5
      obtain ⟨-, -, h6, h7, -⟩ := h5
      dsimp only at h6 h7
      subst h6
      have h8 := h7 rfl
      subst h8
      rfl
    · cases hx
  · cases hx
theorem ex_29 (F : ev_F p s m args meth c D cI cZ cS ad A j) (hj : j < 114) {a b : Nat} {z w : Int} {X : ev_X} (hok : ev_ok1 j pc ((29, a, b, z, w) : ev_O) = true) (hx : ev_x ((29, a, b, z, w) : ev_O) L st σ = some X) : ev_G p l e s m args below meth c D cI cZ cS ad A Q j pc (ev_in ((29, a, b, z, w) : ev_O)).2 L st σ X := by
  obtain ⟨hd, h2⟩ := ev_ok1_d hok (show (29 : Nat) ≠ 53 by decide)
  simp only [ev_x] at hx
  split at hx
  · next i st' =>
    split at hx
    · next hi =>
      cases hx
      intro kk
      have h3 := (Bool.and_eq_true _ _).mp h2
      have h4 := of_decide_eq_true h3.1
      have hz : ((z.toNat : Nat) : Int) = z := by omega
      have h5 := of_decide_eq_true ((Bool.and_eq_true _ _).mp h3.2).1
      refine sd_get F hd h4.1 h3.2 hi ?_ kk
      unfold ev_fv
      rcases hk : ev_kd b z.toNat with ⟨k1, k2⟩
      rw [hk] at h5
      obtain ⟨-, -, h6, h7, -⟩ := h5
      dsimp only at h6 h7
      subst h6
      skip
      rw [hz]
      rfl
    · cases hx
  · cases hx
theorem ex_30 (F : ev_F p s m args meth c D cI cZ cS ad A j) (hj : j < 114) {a b : Nat} {z w : Int} {X : ev_X} (hok : ev_ok1 j pc ((30, a, b, z, w) : ev_O) = true) (hx : ev_x ((30, a, b, z, w) : ev_O) L st σ = some X) : ev_G p l e s m args below meth c D cI cZ cS ad A Q j pc (ev_in ((30, a, b, z, w) : ev_O)).2 L st σ X := by
  obtain ⟨hd, h2⟩ := ev_ok1_d hok (show (30 : Nat) ≠ 53 by decide)
  simp only [ev_x] at hx
  split at hx
  · next v i st' =>
    split at hx
    · next hi =>
      cases hx
      intro kk
      have h3 := (Bool.and_eq_true _ _).mp h2
      have h4 := of_decide_eq_true h3.1
      have hz : ((z.toNat : Nat) : Int) = z := by omega
      have h5 := of_decide_eq_true ((Bool.and_eq_true _ _).mp h3.2).1
      refine sd_put (x := v) F hd h4.1 h3.2 (by decide) hi ?_ rfl rfl (by rw [hz]; exact kk)
      unfold ev_fv
      rcases hk : ev_kd b z.toNat with ⟨k1, k2⟩
      rw [hk] at h5
      obtain ⟨-, -, h6, h7, -⟩ := h5
      dsimp only at h6 h7
      subst h6
      simp [ev_up, ev_rv]
    · cases hx
  · cases hx
theorem ex_31 (F : ev_F p s m args meth c D cI cZ cS ad A j) (hj : j < 114) {a b : Nat} {z w : Int} {X : ev_X} (hok : ev_ok1 j pc ((31, a, b, z, w) : ev_O) = true) (hx : ev_x ((31, a, b, z, w) : ev_O) L st σ = some X) : ev_G p l e s m args below meth c D cI cZ cS ad A Q j pc (ev_in ((31, a, b, z, w) : ev_O)).2 L st σ X := by
  obtain ⟨hd, h2⟩ := ev_ok1_d hok (show (31 : Nat) ≠ 53 by decide)
  simp only [ev_x] at hx
  split at hx
  · next v i st' =>
    split at hx
    · next hi =>
      cases hx
      intro kk
      have h3 := (Bool.and_eq_true _ _).mp h2
      have h4 := of_decide_eq_true h3.1
      have hz : ((z.toNat : Nat) : Int) = z := by omega
      have h5 := of_decide_eq_true ((Bool.and_eq_true _ _).mp h3.2).1
      refine sd_put (x := v.toInt) F hd h4.1 h3.2 (by decide) hi ?_ rfl rfl (by rw [hz]; exact kk)
      unfold ev_fv
      rcases hk : ev_kd b z.toNat with ⟨k1, k2⟩
      rw [hk] at h5
      obtain ⟨-, -, h6, h7, -⟩ := h5
      dsimp only at h6 h7
      subst h6
      simp [ev_up, ev_rv]
    · cases hx
  · cases hx
theorem ex_32 (F : ev_F p s m args meth c D cI cZ cS ad A j) (hj : j < 114) {a b : Nat} {z w : Int} {X : ev_X} (hok : ev_ok1 j pc ((32, a, b, z, w) : ev_O) = true) (hx : ev_x ((32, a, b, z, w) : ev_O) L st σ = some X) : ev_G p l e s m args below meth c D cI cZ cS ad A Q j pc (ev_in ((32, a, b, z, w) : ev_O)).2 L st σ X := by
  obtain ⟨hd, h2⟩ := ev_ok1_d hok (show (32 : Nat) ≠ 53 by decide)
  simp only [ev_x] at hx
  split at hx
  · split at hx
    · next hc =>
      cases hx
      intro kk
      exact sd_iald F hd hc.1 hc.2.1 hc.2.2 kk
    · cases hx
  · cases hx
theorem ex_33 (F : ev_F p s m args meth c D cI cZ cS ad A j) (hj : j < 114) {a b : Nat} {z w : Int} {X : ev_X} (hok : ev_ok1 j pc ((33, a, b, z, w) : ev_O) = true) (hx : ev_x ((33, a, b, z, w) : ev_O) L st σ = some X) : ev_G p l e s m args below meth c D cI cZ cS ad A Q j pc (ev_in ((33, a, b, z, w) : ev_O)).2 L st σ X := by
  obtain ⟨hd, h2⟩ := ev_ok1_d hok (show (33 : Nat) ≠ 53 by decide)
  simp only [ev_x] at hx
  split at hx
  · split at hx
    · next hc =>
      cases hx
      intro kk
      exact sd_iast F hd hc.1 hc.2.1 hc.2.2 kk
    · cases hx
  · cases hx
theorem ex_34 (F : ev_F p s m args meth c D cI cZ cS ad A j) (hj : j < 114) {a b : Nat} {z w : Int} {X : ev_X} (hok : ev_ok1 j pc ((34, a, b, z, w) : ev_O) = true) (hx : ev_x ((34, a, b, z, w) : ev_O) L st σ = some X) : ev_G p l e s m args below meth c D cI cZ cS ad A Q j pc (ev_in ((34, a, b, z, w) : ev_O)).2 L st σ X := by
  obtain ⟨hd, h2⟩ := ev_ok1_d hok (show (34 : Nat) ≠ 53 by decide)
  simp only [ev_x] at hx
  split at hx
  · split at hx
    · next hc =>
      cases hx
      intro kk
      exact sd_zald F hd hc.1 hc.2.1 hc.2.2 kk
    · cases hx
  · cases hx
theorem ex_36 (F : ev_F p s m args meth c D cI cZ cS ad A j) (hj : j < 114) {a b : Nat} {z w : Int} {X : ev_X} (hok : ev_ok1 j pc ((36, a, b, z, w) : ev_O) = true) (hx : ev_x ((36, a, b, z, w) : ev_O) L st σ = some X) : ev_G p l e s m args below meth c D cI cZ cS ad A Q j pc (ev_in ((36, a, b, z, w) : ev_O)).2 L st σ X := by
  obtain ⟨hd, h2⟩ := ev_ok1_d hok (show (36 : Nat) ≠ 53 by decide)
  simp only [ev_x] at hx
  split at hx
  · split at hx
    · next hc =>
      cases hx
      intro kk
      exact sd_aald F hd hc.1 hc.2.1 hc.2.2 kk
    · cases hx
  · cases hx
theorem ex_35 (F : ev_F p s m args meth c D cI cZ cS ad A j) (hj : j < 114) {a b : Nat} {z w : Int} {X : ev_X} (hok : ev_ok1 j pc ((35, a, b, z, w) : ev_O) = true) (hx : ev_x ((35, a, b, z, w) : ev_O) L st σ = some X) : ev_G p l e s m args below meth c D cI cZ cS ad A Q j pc (ev_in ((35, a, b, z, w) : ev_O)).2 L st σ X := by
  obtain ⟨hd, h2⟩ := ev_ok1_d hok (show (35 : Nat) ≠ 53 by decide)
  simp only [ev_x] at hx
  split at hx
  · split at hx
    · next hc =>
      cases hx
      intro kk
      exact sd_zast F hd hc.1 hc.2.1 hc.2.2.1 hc.2.2.2 kk
    · cases hx
  · cases hx
theorem ex_37 (F : ev_F p s m args meth c D cI cZ cS ad A j) (hj : j < 114) {a b : Nat} {z w : Int} {X : ev_X} (hok : ev_ok1 j pc ((37, a, b, z, w) : ev_O) = true) (hx : ev_x ((37, a, b, z, w) : ev_O) L st σ = some X) : ev_G p l e s m args below meth c D cI cZ cS ad A Q j pc (ev_in ((37, a, b, z, w) : ev_O)).2 L st σ X := by
  obtain ⟨hd, h2⟩ := ev_ok1_d hok (show (37 : Nat) ≠ 53 by decide)
  simp only [ev_x] at hx
  split at hx
  · split at hx
    · next hc =>
      cases hx
      intro kk
      exact sd_aast F hd hc.1 hc.2.1 hc.2.2.1 hc.2.2.2 kk
    · cases hx
  · cases hx
theorem ex_61 (F : ev_F p s m args meth c D cI cZ cS ad A j) (hj : j < 114) {a b : Nat} {z w : Int} {X : ev_X} (hok : ev_ok1 j pc ((61, a, b, z, w) : ev_O) = true) (hx : ev_x ((61, a, b, z, w) : ev_O) L st σ = some X) : ev_G p l e s m args below meth c D cI cZ cS ad A Q j pc (ev_in ((61, a, b, z, w) : ev_O)).2 L st σ X := by
  obtain ⟨hd, h2⟩ := ev_ok1_d hok (show (61 : Nat) ≠ 53 by decide)
  simp only [ev_x] at hx
  split at hx
  · split at hx
    · next hc =>
      cases hx
      intro kk
      have h3 := of_decide_eq_true h2
      exact sd_copy F hd h3.1 h3.2 hc.2.2.2.2.2.2.2 hc.1 hc.2.1 hc.2.2.1 hc.2.2.2.1 hc.2.2.2.2.1 hc.2.2.2.2.2.1 hc.2.2.2.2.2.2.1 kk
    · cases hx
  · cases hx
theorem ex_62 (F : ev_F p s m args meth c D cI cZ cS ad A j) (hj : j < 114) {a b : Nat} {z w : Int} {X : ev_X} (hok : ev_ok1 j pc ((62, a, b, z, w) : ev_O) = true) (hx : ev_x ((62, a, b, z, w) : ev_O) L st σ = some X) : ev_G p l e s m args below meth c D cI cZ cS ad A Q j pc (ev_in ((62, a, b, z, w) : ev_O)).2 L st σ X := by
  obtain ⟨hd, h2⟩ := ev_ok1_d hok (show (62 : Nat) ≠ 53 by decide)
  simp only [ev_x] at hx
  split at hx
  · split at hx
    · next hc =>
      cases hx
      intro kk
      have h3 := of_decide_eq_true h2
      exact sd_max F hd h3.1 h3.2 hc kk
    · cases hx
  · cases hx
theorem ex_63 (F : ev_F p s m args meth c D cI cZ cS ad A j) (hj : j < 114) {a b : Nat} {z w : Int} {X : ev_X} (hok : ev_ok1 j pc ((63, a, b, z, w) : ev_O) = true) (hx : ev_x ((63, a, b, z, w) : ev_O) L st σ = some X) : ev_G p l e s m args below meth c D cI cZ cS ad A Q j pc (ev_in ((63, a, b, z, w) : ev_O)).2 L st σ X := by
  obtain ⟨hd, h2⟩ := ev_ok1_d hok (show (63 : Nat) ≠ 53 by decide)
  simp only [ev_x] at hx
  split at hx
  · split at hx
    · next hc =>
      cases hx
      intro kk
      have h3 := of_decide_eq_true h2
      exact sd_min F hd h3.1 h3.2 hc kk
    · cases hx
  · cases hx
theorem ex_40 (F : ev_F p s m args meth c D cI cZ cS ad A j) (hj : j < 114) {a b : Nat} {z w : Int} {X : ev_X} (hok : ev_ok1 j pc ((40, a, b, z, w) : ev_O) = true) (hx : ev_x ((40, a, b, z, w) : ev_O) L st σ = some X) : ev_G p l e s m args below meth c D cI cZ cS ad A Q j pc (ev_in ((40, a, b, z, w) : ev_O)).2 L st σ X := by
  obtain ⟨hd, h2⟩ := ev_ok1_d hok (show (40 : Nat) ≠ 53 by decide)
  simp only [ev_x] at hx
  split at hx
  · have h3 := of_decide_eq_true h2
    cases hx
    split
    · next hc =>
      intro kk
      exact sd_icmp_eq F hd h3 (by rw [if_pos hc]; exact kk)
    · next hc =>
      intro kk
      exact sd_icmp_eq F hd h3 (by rw [if_neg hc]; exact kk)
  · cases hx
theorem ex_46 (F : ev_F p s m args meth c D cI cZ cS ad A j) (hj : j < 114) {a b : Nat} {z w : Int} {X : ev_X} (hok : ev_ok1 j pc ((46, a, b, z, w) : ev_O) = true) (hx : ev_x ((46, a, b, z, w) : ev_O) L st σ = some X) : ev_G p l e s m args below meth c D cI cZ cS ad A Q j pc (ev_in ((46, a, b, z, w) : ev_O)).2 L st σ X := by
  obtain ⟨hd, h2⟩ := ev_ok1_d hok (show (46 : Nat) ≠ 53 by decide)
  simp only [ev_x] at hx
  split at hx
  · have h3 := of_decide_eq_true h2
    cases hx
    split
    · next hc =>
      intro kk
      exact sd_if_eq F hd h3 (by rw [if_pos hc]; exact kk)
    · next hc =>
      intro kk
      exact sd_if_eq F hd h3 (by rw [if_neg hc]; exact kk)
  · cases hx
theorem ex_41 (F : ev_F p s m args meth c D cI cZ cS ad A j) (hj : j < 114) {a b : Nat} {z w : Int} {X : ev_X} (hok : ev_ok1 j pc ((41, a, b, z, w) : ev_O) = true) (hx : ev_x ((41, a, b, z, w) : ev_O) L st σ = some X) : ev_G p l e s m args below meth c D cI cZ cS ad A Q j pc (ev_in ((41, a, b, z, w) : ev_O)).2 L st σ X := by
  obtain ⟨hd, h2⟩ := ev_ok1_d hok (show (41 : Nat) ≠ 53 by decide)
  simp only [ev_x] at hx
  split at hx
  · have h3 := of_decide_eq_true h2
    cases hx
    split
    · next hc =>
      intro kk
      exact sd_icmp_ne F hd h3 (by rw [if_pos hc]; exact kk)
    · next hc =>
      intro kk
      exact sd_icmp_ne F hd h3 (by rw [if_neg hc]; exact kk)
  · cases hx
theorem ex_47 (F : ev_F p s m args meth c D cI cZ cS ad A j) (hj : j < 114) {a b : Nat} {z w : Int} {X : ev_X} (hok : ev_ok1 j pc ((47, a, b, z, w) : ev_O) = true) (hx : ev_x ((47, a, b, z, w) : ev_O) L st σ = some X) : ev_G p l e s m args below meth c D cI cZ cS ad A Q j pc (ev_in ((47, a, b, z, w) : ev_O)).2 L st σ X := by
  obtain ⟨hd, h2⟩ := ev_ok1_d hok (show (47 : Nat) ≠ 53 by decide)
  simp only [ev_x] at hx
  split at hx
  · have h3 := of_decide_eq_true h2
    cases hx
    split
    · next hc =>
      intro kk
      exact sd_if_ne F hd h3 (by rw [if_pos hc]; exact kk)
    · next hc =>
      intro kk
      exact sd_if_ne F hd h3 (by rw [if_neg hc]; exact kk)
  · cases hx
theorem ex_42 (F : ev_F p s m args meth c D cI cZ cS ad A j) (hj : j < 114) {a b : Nat} {z w : Int} {X : ev_X} (hok : ev_ok1 j pc ((42, a, b, z, w) : ev_O) = true) (hx : ev_x ((42, a, b, z, w) : ev_O) L st σ = some X) : ev_G p l e s m args below meth c D cI cZ cS ad A Q j pc (ev_in ((42, a, b, z, w) : ev_O)).2 L st σ X := by
  obtain ⟨hd, h2⟩ := ev_ok1_d hok (show (42 : Nat) ≠ 53 by decide)
  simp only [ev_x] at hx
  split at hx
  · have h3 := of_decide_eq_true h2
    cases hx
    split
    · next hc =>
      intro kk
      exact sd_icmp_lt F hd h3 (by rw [if_pos hc]; exact kk)
    · next hc =>
      intro kk
      exact sd_icmp_lt F hd h3 (by rw [if_neg hc]; exact kk)
  · cases hx
theorem ex_48 (F : ev_F p s m args meth c D cI cZ cS ad A j) (hj : j < 114) {a b : Nat} {z w : Int} {X : ev_X} (hok : ev_ok1 j pc ((48, a, b, z, w) : ev_O) = true) (hx : ev_x ((48, a, b, z, w) : ev_O) L st σ = some X) : ev_G p l e s m args below meth c D cI cZ cS ad A Q j pc (ev_in ((48, a, b, z, w) : ev_O)).2 L st σ X := by
  obtain ⟨hd, h2⟩ := ev_ok1_d hok (show (48 : Nat) ≠ 53 by decide)
  simp only [ev_x] at hx
  split at hx
  · have h3 := of_decide_eq_true h2
    cases hx
    split
    · next hc =>
      intro kk
      exact sd_if_lt F hd h3 (by rw [if_pos hc]; exact kk)
    · next hc =>
      intro kk
      exact sd_if_lt F hd h3 (by rw [if_neg hc]; exact kk)
  · cases hx
theorem ex_43 (F : ev_F p s m args meth c D cI cZ cS ad A j) (hj : j < 114) {a b : Nat} {z w : Int} {X : ev_X} (hok : ev_ok1 j pc ((43, a, b, z, w) : ev_O) = true) (hx : ev_x ((43, a, b, z, w) : ev_O) L st σ = some X) : ev_G p l e s m args below meth c D cI cZ cS ad A Q j pc (ev_in ((43, a, b, z, w) : ev_O)).2 L st σ X := by
  obtain ⟨hd, h2⟩ := ev_ok1_d hok (show (43 : Nat) ≠ 53 by decide)
  simp only [ev_x] at hx
  split at hx
  · have h3 := of_decide_eq_true h2
    cases hx
    split
    · next hc =>
      intro kk
      exact sd_icmp_ge F hd h3 (by rw [if_pos hc]; exact kk)
    · next hc =>
      intro kk
      exact sd_icmp_ge F hd h3 (by rw [if_neg hc]; exact kk)
  · cases hx
theorem ex_49 (F : ev_F p s m args meth c D cI cZ cS ad A j) (hj : j < 114) {a b : Nat} {z w : Int} {X : ev_X} (hok : ev_ok1 j pc ((49, a, b, z, w) : ev_O) = true) (hx : ev_x ((49, a, b, z, w) : ev_O) L st σ = some X) : ev_G p l e s m args below meth c D cI cZ cS ad A Q j pc (ev_in ((49, a, b, z, w) : ev_O)).2 L st σ X := by
  obtain ⟨hd, h2⟩ := ev_ok1_d hok (show (49 : Nat) ≠ 53 by decide)
  simp only [ev_x] at hx
  split at hx
  · have h3 := of_decide_eq_true h2
    cases hx
    split
    · next hc =>
      intro kk
      exact sd_if_ge F hd h3 (by rw [if_pos hc]; exact kk)
    · next hc =>
      intro kk
      exact sd_if_ge F hd h3 (by rw [if_neg hc]; exact kk)
  · cases hx
theorem ex_44 (F : ev_F p s m args meth c D cI cZ cS ad A j) (hj : j < 114) {a b : Nat} {z w : Int} {X : ev_X} (hok : ev_ok1 j pc ((44, a, b, z, w) : ev_O) = true) (hx : ev_x ((44, a, b, z, w) : ev_O) L st σ = some X) : ev_G p l e s m args below meth c D cI cZ cS ad A Q j pc (ev_in ((44, a, b, z, w) : ev_O)).2 L st σ X := by
  obtain ⟨hd, h2⟩ := ev_ok1_d hok (show (44 : Nat) ≠ 53 by decide)
  simp only [ev_x] at hx
  split at hx
  · have h3 := of_decide_eq_true h2
    cases hx
    split
    · next hc =>
      intro kk
      exact sd_icmp_gt F hd h3 (by rw [if_pos hc]; exact kk)
    · next hc =>
      intro kk
      exact sd_icmp_gt F hd h3 (by rw [if_neg hc]; exact kk)
  · cases hx
theorem ex_50 (F : ev_F p s m args meth c D cI cZ cS ad A j) (hj : j < 114) {a b : Nat} {z w : Int} {X : ev_X} (hok : ev_ok1 j pc ((50, a, b, z, w) : ev_O) = true) (hx : ev_x ((50, a, b, z, w) : ev_O) L st σ = some X) : ev_G p l e s m args below meth c D cI cZ cS ad A Q j pc (ev_in ((50, a, b, z, w) : ev_O)).2 L st σ X := by
  obtain ⟨hd, h2⟩ := ev_ok1_d hok (show (50 : Nat) ≠ 53 by decide)
  simp only [ev_x] at hx
  split at hx
  · have h3 := of_decide_eq_true h2
    cases hx
    split
    · next hc =>
      intro kk
      exact sd_if_gt F hd h3 (by rw [if_pos hc]; exact kk)
    · next hc =>
      intro kk
      exact sd_if_gt F hd h3 (by rw [if_neg hc]; exact kk)
  · cases hx
theorem ex_45 (F : ev_F p s m args meth c D cI cZ cS ad A j) (hj : j < 114) {a b : Nat} {z w : Int} {X : ev_X} (hok : ev_ok1 j pc ((45, a, b, z, w) : ev_O) = true) (hx : ev_x ((45, a, b, z, w) : ev_O) L st σ = some X) : ev_G p l e s m args below meth c D cI cZ cS ad A Q j pc (ev_in ((45, a, b, z, w) : ev_O)).2 L st σ X := by
  obtain ⟨hd, h2⟩ := ev_ok1_d hok (show (45 : Nat) ≠ 53 by decide)
  simp only [ev_x] at hx
  split at hx
  · have h3 := of_decide_eq_true h2
    cases hx
    split
    · next hc =>
      intro kk
      exact sd_icmp_le F hd h3 (by rw [if_pos hc]; exact kk)
    · next hc =>
      intro kk
      exact sd_icmp_le F hd h3 (by rw [if_neg hc]; exact kk)
  · cases hx
theorem ex_51 (F : ev_F p s m args meth c D cI cZ cS ad A j) (hj : j < 114) {a b : Nat} {z w : Int} {X : ev_X} (hok : ev_ok1 j pc ((51, a, b, z, w) : ev_O) = true) (hx : ev_x ((51, a, b, z, w) : ev_O) L st σ = some X) : ev_G p l e s m args below meth c D cI cZ cS ad A Q j pc (ev_in ((51, a, b, z, w) : ev_O)).2 L st σ X := by
  obtain ⟨hd, h2⟩ := ev_ok1_d hok (show (51 : Nat) ≠ 53 by decide)
  simp only [ev_x] at hx
  split at hx
  · have h3 := of_decide_eq_true h2
    cases hx
    split
    · next hc =>
      intro kk
      exact sd_if_le F hd h3 (by rw [if_pos hc]; exact kk)
    · next hc =>
      intro kk
      exact sd_if_le F hd h3 (by rw [if_neg hc]; exact kk)
  · cases hx
theorem ex_52 (F : ev_F p s m args meth c D cI cZ cS ad A j) (hj : j < 114) {a b : Nat} {z w : Int} {X : ev_X} (hok : ev_ok1 j pc ((52, a, b, z, w) : ev_O) = true) (hx : ev_x ((52, a, b, z, w) : ev_O) L st σ = some X) : ev_G p l e s m args below meth c D cI cZ cS ad A Q j pc (ev_in ((52, a, b, z, w) : ev_O)).2 L st σ X := by
  obtain ⟨hd, h2⟩ := ev_ok1_d hok (show (52 : Nat) ≠ 53 by decide)
  simp only [ev_x] at hx
  cases hx
  intro kk
  exact sd_goto F hd (of_decide_eq_true h2) kk
theorem ex_54 (F : ev_F p s m args meth c D cI cZ cS ad A j) (hj : j < 114) {a b : Nat} {z w : Int} {X : ev_X} (hok : ev_ok1 j pc ((54, a, b, z, w) : ev_O) = true) (hx : ev_x ((54, a, b, z, w) : ev_O) L st σ = some X) : ev_G p l e s m args below meth c D cI cZ cS ad A Q j pc (ev_in ((54, a, b, z, w) : ev_O)).2 L st σ X := by
  obtain ⟨hd, h2⟩ := ev_ok1_d hok (show (54 : Nat) ≠ 53 by decide)
  simp only [ev_x] at hx
  split at hx
  · cases hx
    intro kk
    exact sd_switch F hd h2 kk
  · cases hx
theorem ex_55 (F : ev_F p s m args meth c D cI cZ cS ad A j) (hj : j < 114) {a b : Nat} {z w : Int} {X : ev_X} (hok : ev_ok1 j pc ((55, a, b, z, w) : ev_O) = true) (hx : ev_x ((55, a, b, z, w) : ev_O) L st σ = some X) : ev_G p l e s m args below meth c D cI cZ cS ad A Q j pc (ev_in ((55, a, b, z, w) : ev_O)).2 L st σ X := by
  obtain ⟨hd, h2⟩ := ev_ok1_d hok (show (55 : Nat) ≠ 53 by decide)
  simp only [ev_x] at hx
  split at hx
  · cases hx
    intro kk
    exact sd_lookup F hd h2 kk
  · cases hx
theorem ex_56 (F : ev_F p s m args meth c D cI cZ cS ad A j) (hj : j < 114) {a b : Nat} {z w : Int} {X : ev_X} (hok : ev_ok1 j pc ((56, a, b, z, w) : ev_O) = true) (hx : ev_x ((56, a, b, z, w) : ev_O) L st σ = some X) : ev_G p l e s m args below meth c D cI cZ cS ad A Q j pc (ev_in ((56, a, b, z, w) : ev_O)).2 L st σ X := by
  obtain ⟨hd, h2⟩ := ev_ok1_d hok (show (56 : Nat) ≠ 53 by decide)
  simp only [ev_x] at hx
  split at hx
  · split at hx
    · next hc =>
      cases hx
      intro kk hc0
      subst kk
      have h3 := of_decide_eq_true h2
      refine sd_iret F hc0 hd ?_
      by_cases ha : a = 0
      · exact Or.inl (h3.1 ha)
      · exact Or.inr ⟨h3.2 ha, hc.resolve_left ha⟩
    · cases hx
  · cases hx
theorem ex_57 (F : ev_F p s m args meth c D cI cZ cS ad A j) (hj : j < 114) {a b : Nat} {z w : Int} {X : ev_X} (hok : ev_ok1 j pc ((57, a, b, z, w) : ev_O) = true) (hx : ev_x ((57, a, b, z, w) : ev_O) L st σ = some X) : ev_G p l e s m args below meth c D cI cZ cS ad A Q j pc (ev_in ((57, a, b, z, w) : ev_O)).2 L st σ X := by
  obtain ⟨hd, h2⟩ := ev_ok1_d hok (show (57 : Nat) ≠ 53 by decide)
  simp only [ev_x] at hx
  split at hx
  · cases hx
    intro kk hc0
    subst kk
    exact sd_lret F hc0 hd (of_decide_eq_true h2)
  · cases hx
theorem ex_58 (F : ev_F p s m args meth c D cI cZ cS ad A j) (hj : j < 114) {a b : Nat} {z w : Int} {X : ev_X} (hok : ev_ok1 j pc ((58, a, b, z, w) : ev_O) = true) (hx : ev_x ((58, a, b, z, w) : ev_O) L st σ = some X) : ev_G p l e s m args below meth c D cI cZ cS ad A Q j pc (ev_in ((58, a, b, z, w) : ev_O)).2 L st σ X := by
  obtain ⟨hd, h2⟩ := ev_ok1_d hok (show (58 : Nat) ≠ 53 by decide)
  simp only [ev_x] at hx
  split at hx
  · cases hx
    intro kk hc0
    subst kk
    exact sd_vret F hc0 hd (of_decide_eq_true h2)
  · cases hx
theorem ex_59 (F : ev_F p s m args meth c D cI cZ cS ad A j) (hj : j < 114) {a b : Nat} {z w : Int} {X : ev_X} (hok : ev_ok1 j pc ((59, a, b, z, w) : ev_O) = true) (hx : ev_x ((59, a, b, z, w) : ev_O) L st σ = some X) : ev_G p l e s m args below meth c D cI cZ cS ad A Q j pc (ev_in ((59, a, b, z, w) : ev_O)).2 L st σ X := by
  obtain ⟨hd, h2⟩ := ev_ok1_d hok (show (59 : Nat) ≠ 53 by decide)
  simp only [ev_x] at hx
  split at hx
  · next i as rest hp =>
    split at hx
    · next hc =>
      cases hx
      have h3 := (Bool.and_eq_true _ _).mp h2
      have h4 := of_decide_eq_true h3.1
      obtain ⟨e1, e2⟩ := ev_pop_spec _ _ _ _ _ hp
      refine ⟨h4.1, fun r1 hM kk => ?_⟩
      refine sd_callV F hj hd h4.1 h4.2.2.1 ?_ h4.2.2.2.2 h3.2 (b := i) (as := as) (rest := rest) ?_ ?_ hc.1 hM kk
      · have := h4.2.1
        simp at e2
        omega
      · simpa using e1
      · have := h4.2.2.2.1
        omega
    · cases hx
  · cases hx
theorem ex_60 (F : ev_F p s m args meth c D cI cZ cS ad A j) (hj : j < 114) {a b : Nat} {z w : Int} {X : ev_X} (hok : ev_ok1 j pc ((60, a, b, z, w) : ev_O) = true) (hx : ev_x ((60, a, b, z, w) : ev_O) L st σ = some X) : ev_G p l e s m args below meth c D cI cZ cS ad A Q j pc (ev_in ((60, a, b, z, w) : ev_O)).2 L st σ X := by
  obtain ⟨hd, h2⟩ := ev_ok1_d hok (show (60 : Nat) ≠ 53 by decide)
  simp only [ev_x] at hx
  split at hx
  · next as rest hp =>
    split at hx
    · next hc =>
      cases hx
      have h3 := (Bool.and_eq_true _ _).mp h2
      have h4 := of_decide_eq_true h3.1
      obtain ⟨e1, e2⟩ := ev_pop_spec _ _ _ _ _ hp
      refine ⟨h4.1, fun r1 hM kk => ?_⟩
      refine sd_callS F hj hd h4.1 h4.2.2.1 ?_ h4.2.2.2 h3.2 (as := as) (rest := rest) ?_ hc hM kk
      · have := h4.2.1
        simp at e2
        omega
      · simpa using e1
    · cases hx
  · cases hx
theorem ev_x_sound (F : ev_F p s m args meth c D cI cZ cS ad A j) (hj : j < 114) {op : ev_O} {X : ev_X} (hok : ev_ok1 j pc op = true) (hx : ev_x op L st σ = some X) (h38 : op.1 = 38 → ev_G p l e s m args below meth c D cI cZ cS ad A Q j pc (ev_in op).2 L st σ X) : ev_G p l e s m args below meth c D cI cZ cS ad A Q j pc (ev_in op).2 L st σ X := by
  obtain ⟨k, a, b, z, w⟩ := op
  by_cases hk : k < 64
  · match k, hk with
    | 0, _ => exact ex_0 F hj hok hx
    | 1, _ => exact ex_1 F hj hok hx
    | 2, _ => exact ex_2 F hj hok hx
    | 3, _ => exact ex_3 F hj hok hx
    | 4, _ => exact ex_4 F hj hok hx
    | 5, _ => exact ex_5 F hj hok hx
    | 6, _ => exact ex_6 F hj hok hx
    | 7, _ => exact ex_7 F hj hok hx
    | 8, _ => exact ex_8 F hj hok hx
    | 9, _ => exact ex_9 F hj hok hx
    | 10, _ => exact ex_10 F hj hok hx
    | 11, _ => exact ex_11 F hj hok hx
    | 12, _ => exact ex_12 F hj hok hx
    | 13, _ => exact ex_13 F hj hok hx
    | 14, _ => exact ex_14 F hj hok hx
    | 15, _ => exact ex_15 F hj hok hx
    | 16, _ => exact ex_16 F hj hok hx
    | 17, _ => exact ex_17 F hj hok hx
    | 18, _ => exact ex_18 F hj hok hx
    | 19, _ => exact ex_19 F hj hok hx
    | 20, _ => exact ex_20 F hj hok hx
    | 21, _ => exact ex_21 F hj hok hx
    | 22, _ => exact ex_22 F hj hok hx
    | 23, _ => exact ex_23 F hj hok hx
    | 24, _ => exact ex_24 F hj hok hx
    | 25, _ => exact ex_25 F hj hok hx
    | 26, _ => exact ex_26 F hj hok hx
    | 27, _ => exact ex_27 F hj hok hx
    | 28, _ => exact ex_28 F hj hok hx
    | 29, _ => exact ex_29 F hj hok hx
    | 30, _ => exact ex_30 F hj hok hx
    | 31, _ => exact ex_31 F hj hok hx
    | 32, _ => exact ex_32 F hj hok hx
    | 33, _ => exact ex_33 F hj hok hx
    | 34, _ => exact ex_34 F hj hok hx
    | 35, _ => exact ex_35 F hj hok hx
    | 36, _ => exact ex_36 F hj hok hx
    | 37, _ => exact ex_37 F hj hok hx
    | 38, _ => exact h38 rfl
    | 39, _ => cases hx
    | 40, _ => exact ex_40 F hj hok hx
    | 41, _ => exact ex_41 F hj hok hx
    | 42, _ => exact ex_42 F hj hok hx
    | 43, _ => exact ex_43 F hj hok hx
    | 44, _ => exact ex_44 F hj hok hx
    | 45, _ => exact ex_45 F hj hok hx
    | 46, _ => exact ex_46 F hj hok hx
    | 47, _ => exact ex_47 F hj hok hx
    | 48, _ => exact ex_48 F hj hok hx
    | 49, _ => exact ex_49 F hj hok hx
    | 50, _ => exact ex_50 F hj hok hx
    | 51, _ => exact ex_51 F hj hok hx
    | 52, _ => exact ex_52 F hj hok hx
    | 53, _ =>
      cases hx
      have h := of_decide_eq_true (show decide (pc = ev_pcs j a) = true from hok)
      intro kk
      rw [h]
      exact kk
    | 54, _ => exact ex_54 F hj hok hx
    | 55, _ => exact ex_55 F hj hok hx
    | 56, _ => exact ex_56 F hj hok hx
    | 57, _ => exact ex_57 F hj hok hx
    | 58, _ => exact ex_58 F hj hok hx
    | 59, _ => exact ex_59 F hj hok hx
    | 60, _ => exact ex_60 F hj hok hx
    | 61, _ => exact ex_61 F hj hok hx
    | 62, _ => exact ex_62 F hj hok hx
    | 63, _ => exact ex_63 F hj hok hx
  · exfalso
    unfold ev_x at hx
    split at hx <;> first | (cases hx; done) | (rename_i heq; have h9 := congrArg Prod.fst heq; dsimp only at h9; omega) | (simp_all; done)
end SNX
end
section
/-! the pure machine speaks of the real one -/
theorem ev_pcs0 : ∀ j, j < 113 → ev_pcs j 0 = 0 := by decide +kernel
theorem ev_met_of {l : Launch} {D : va_G} {cI cZ cS : ClassId} {ad : Int → Nat} {A : Nat → Prop} (hD : ∀ σ, va_D A (ev_wd cI cZ cS ad σ)) {f q : Nat} (hq : q < 113)
    (IH : ∀ (p : Program) (e : Env) (s : State) (m : MethodId) (args : Array Value) (below : List Frame) (meth : Method) (c : Code), ev_F p s m args meth c D cI cZ cS ad A q → ∀ (t : Nat) (L : ev_L) (st : List ev_V) (σ : ev_M) (r : ev_R), ev_b f q t L st σ = some r → ev_W p l e s m args below meth c D cI cZ cS ad A (MQ below (ev_Qc D cI cZ cS ad A r) args s 0 0 A) q (ev_pcs q t) L st σ)
    {as : List ev_V} {σ : ev_M} {r : ev_R} (h : ev_go (ev_b f) q as σ = some r) : ev_Mt l D cI cZ cS ad A q as σ r := by
  unfold ev_go at h
  split at h
  · next hle =>
    obtain ⟨k1, k2, k3, k4, k5, k6⟩ := ev_mok_spec hq
    refine Met.ofW (cc := ev_bc q) (maxL := ev_mxl q) (ret := ev_ret q) k3 rfl ?_
    intro p e s m args below meth c s₁ B hml hv
    obtain ⟨rfl, hP, hK, hN⟩ := hv
    have hts := atoms_spec (ws := ev_wo q) B.pre
    have hown : s.vm.findClass (ev_cn (ev_own q)) = some m.cls := by
      rw [← k2]
      exact findClass_of_methodNamed B.named
    have F : ev_F p s m ((as.map (ev_rv ad)).toArray) meth c D cI cZ cS ad A q := ⟨B.exec, B.bytes, B.returns, hml, hown, fun w hw => hts w (List.mem_cons_of_mem _ hw), hK, hN, B.notSynchronized, hD⟩
    have hW := IH p e s m ((as.map (ev_rv ad)).toArray) below meth c F 0 (ev_ent q as) [] σ r h s.heap [] _ hP va_S.rf (ev_lh_entry rfl hle)
    rw [ev_pcs0 q hq] at hW
    rw [(ev_c00 hq).1, (ev_c00 hq).2] at hW
    rw [lg_entry_eq]
    exact hW
  · cases h
theorem ev_main {l : Launch} {D : va_G} {cI cZ cS : ClassId} {ad : Int → Nat} {A : Nat → Prop} (hD : ∀ σ, va_D A (ev_wd cI cZ cS ad σ)) (hchk : ∀ j, j < 114 → ev_chk j = true) : ∀ (f j : Nat), j < 113 → ∀ (p : Program) (e : Env) (s : State) (m : MethodId) (args : Array Value) (below : List Frame) (meth : Method) (c : Code), ev_F p s m args meth c D cI cZ cS ad A j → ∀ (t : Nat) (L : ev_L) (st : List ev_V) (σ : ev_M) (r : ev_R), ev_b f j t L st σ = some r → ev_W p l e s m args below meth c D cI cZ cS ad A (MQ below (ev_Qc D cI cZ cS ad A r) args s 0 0 A) j (ev_pcs j t) L st σ := by
  intro f
  induction f with
  | zero =>
    intro j hj p e s m args below meth c F t L st σ r h
    simp [ev_b] at h
  | succ f IH =>
    intro j hj p e s m args below meth c F t L st σ r h
    unfold ev_b at h
    have inner : ∀ (ops : List ev_O) (pc : Nat) (L : ev_L) (st : List ev_V) (σ : ev_M), ev_okb j ops pc = true → ev_o (ev_go (ev_b f)) (fun t L st σ => ev_b f j t L st σ) ops L st σ = some r → ev_W p l e s m args below meth c D cI cZ cS ad A (MQ below (ev_Qc D cI cZ cS ad A r) args s 0 0 A) j pc L st σ := by
      intro ops
      induction ops with
      | nil =>
        intro pc L st σ _ h
        simp [ev_o] at h
      | cons op ops ih =>
        intro pc L st σ hok h
        have hok2 := (Bool.and_eq_true _ _).mp (show (ev_ok1 j pc op && ev_okb j ops (pc + (ev_in op).2)) = true from hok)
        unfold ev_o at h
        rcases hx : ev_x op L st σ with _ | ⟨L1, st1, σ1⟩ | ⟨t, L1, st1, σ1⟩ | q | ⟨q, as, rest, L1, σ1⟩ <;> rw [hx] at h <;> dsimp only at h
        · cases h
        · have g := ev_x_sound (e := e) (l := l) (below := below) (Q := MQ below (ev_Qc D cI cZ cS ad A r) args s 0 0 A) F (by omega) hok2.1 hx (fun h8 => absurd (ev_ok38 hok2.1 h8) (by omega))
          exact g (ih _ _ _ _ hok2.2 h)
        · have g := ev_x_sound (e := e) (l := l) (below := below) (Q := MQ below (ev_Qc D cI cZ cS ad A r) args s 0 0 A) F (by omega) hok2.1 hx (fun h8 => absurd (ev_ok38 hok2.1 h8) (by omega))
          exact g (IH j hj p e s m args below meth c F t L1 st1 σ1 r h)
        · have g := ev_x_sound (e := e) (l := l) (below := below) (Q := MQ below (ev_Qc D cI cZ cS ad A r) args s 0 0 A) F (by omega) hok2.1 hx (fun h8 => absurd (ev_ok38 hok2.1 h8) (by omega))
          exact g (by rw [Option.some.inj h]) (ev_c00 hj)
        · have g := ev_x_sound (e := e) (l := l) (below := below) (Q := MQ below (ev_Qc D cI cZ cS ad A r) args s 0 0 A) F (by omega) hok2.1 hx (fun h8 => absurd (ev_ok38 hok2.1 h8) (by omega))
          rcases hc : ev_go (ev_b f) q as σ1 with _ | ⟨v, σ2⟩ <;> rw [hc] at h <;> dsimp only at h
          · cases h
          · exact g.2 (v, σ2) (ev_met_of hD g.1 (fun p e s m args below meth c F t L st σ r h => IH q g.1 p e s m args below meth c F t L st σ r h) hc) (ih _ _ _ _ hok2.2 h)
    have hck := hchk j (by omega)
    unfold ev_chk at hck
    rcases Nat.lt_or_ge t (ev_ms.getD j []).length with ht | ht
    · exact inner _ _ _ _ _ (List.all_eq_true.mp hck t (List.mem_range.mpr ht)) h
    · exfalso
      have : ev_blk j t = [] := by
        unfold ev_blk
        rw [List.getD_eq_getElem?_getD (l := ev_ms.getD j []), List.getElem?_eq_none ht]
        rfl
      rw [this] at h
      simp [ev_o] at h
/-- a call of a method, by what the pure machine says -/
theorem ev_met {l : Launch} {D : va_G} {cI cZ cS : ClassId} {ad : Int → Nat} {A : Nat → Prop} (hD : ∀ σ, va_D A (ev_wd cI cZ cS ad σ)) (hchk : ∀ j, j < 114 → ev_chk j = true) {q : Nat} (hq : q < 113) {as : List ev_V} {σ : ev_M} {r : ev_R} (h : EM q as σ = some r) : ev_Mt l D cI cZ cS ad A q as σ r := by
  obtain ⟨f, hf⟩ : ∃ f, ev_go (ev_b f) q as σ = some r := by
    unfold EM ev_go at h
    split at h
    · next hle =>
      obtain ⟨f, hf⟩ := EB_iff.mp h
      exact ⟨f, by unfold ev_go; rw [if_pos hle]; exact hf⟩
    · cases h
  exact ev_met_of hD hq (fun p e s m args below meth c F t L st σ r h => ev_main hD hchk f q hq p e s m args below meth c F t L st σ r h) hf
end
section
/-! the code is as the pure machine has it -/
theorem ev_chk_0 : ev_chk 0 = true := by decide +kernel
theorem ev_chk_1 : ev_chk 1 = true := by decide +kernel
theorem ev_chk_2 : ev_chk 2 = true := by decide +kernel
theorem ev_chk_3 : ev_chk 3 = true := by decide +kernel
theorem ev_chk_4 : ev_chk 4 = true := by decide +kernel
theorem ev_chk_5 : ev_chk 5 = true := by decide +kernel
theorem ev_chk_6 : ev_chk 6 = true := by decide +kernel
theorem ev_chk_7 : ev_chk 7 = true := by decide +kernel
theorem ev_chk_8 : ev_chk 8 = true := by decide +kernel
theorem ev_chk_9 : ev_chk 9 = true := by decide +kernel
theorem ev_chk_10 : ev_chk 10 = true := by decide +kernel
theorem ev_chk_11 : ev_chk 11 = true := by decide +kernel
theorem ev_chk_12 : ev_chk 12 = true := by decide +kernel
theorem ev_chk_13 : ev_chk 13 = true := by decide +kernel
theorem ev_chk_14 : ev_chk 14 = true := by decide +kernel
theorem ev_chk_15 : ev_chk 15 = true := by decide +kernel
theorem ev_chk_16 : ev_chk 16 = true := by decide +kernel
theorem ev_chk_17 : ev_chk 17 = true := by decide +kernel
theorem ev_chk_18 : ev_chk 18 = true := by decide +kernel
theorem ev_chk_19 : ev_chk 19 = true := by decide +kernel
theorem ev_chk_20 : ev_chk 20 = true := by decide +kernel
theorem ev_chk_21 : ev_chk 21 = true := by decide +kernel
theorem ev_chk_22 : ev_chk 22 = true := by decide +kernel
theorem ev_chk_23 : ev_chk 23 = true := by decide +kernel
theorem ev_chk_24 : ev_chk 24 = true := by decide +kernel
theorem ev_chk_25 : ev_chk 25 = true := by decide +kernel
theorem ev_chk_26 : ev_chk 26 = true := by decide +kernel
theorem ev_chk_27 : ev_chk 27 = true := by decide +kernel
theorem ev_chk_28 : ev_chk 28 = true := by decide +kernel
theorem ev_chk_29 : ev_chk 29 = true := by decide +kernel
end
section
/-! the code is as the pure machine has it -/
theorem ev_chk_30 : ev_chk 30 = true := by decide +kernel
theorem ev_chk_31 : ev_chk 31 = true := by decide +kernel
theorem ev_chk_32 : ev_chk 32 = true := by decide +kernel
theorem ev_chk_33 : ev_chk 33 = true := by decide +kernel
theorem ev_chk_34 : ev_chk 34 = true := by decide +kernel
theorem ev_chk_35 : ev_chk 35 = true := by decide +kernel
theorem ev_chk_36 : ev_chk 36 = true := by decide +kernel
theorem ev_chk_37 : ev_chk 37 = true := by decide +kernel
theorem ev_chk_38 : ev_chk 38 = true := by decide +kernel
theorem ev_chk_39 : ev_chk 39 = true := by decide +kernel
theorem ev_chk_40 : ev_chk 40 = true := by decide +kernel
theorem ev_chk_41 : ev_chk 41 = true := by decide +kernel
theorem ev_chk_42 : ev_chk 42 = true := by decide +kernel
theorem ev_chk_43 : ev_chk 43 = true := by decide +kernel
theorem ev_chk_44 : ev_chk 44 = true := by decide +kernel
theorem ev_chk_45 : ev_chk 45 = true := by decide +kernel
theorem ev_chk_46 : ev_chk 46 = true := by decide +kernel
theorem ev_chk_47 : ev_chk 47 = true := by decide +kernel
theorem ev_chk_48 : ev_chk 48 = true := by decide +kernel
theorem ev_chk_49 : ev_chk 49 = true := by decide +kernel
theorem ev_chk_50 : ev_chk 50 = true := by decide +kernel
theorem ev_chk_51 : ev_chk 51 = true := by decide +kernel
theorem ev_chk_52 : ev_chk 52 = true := by decide +kernel
theorem ev_chk_53 : ev_chk 53 = true := by decide +kernel
theorem ev_chk_54 : ev_chk 54 = true := by decide +kernel
theorem ev_chk_55 : ev_chk 55 = true := by decide +kernel
theorem ev_chk_56 : ev_chk 56 = true := by decide +kernel
theorem ev_chk_57 : ev_chk 57 = true := by decide +kernel
theorem ev_chk_58 : ev_chk 58 = true := by decide +kernel
theorem ev_chk_59 : ev_chk 59 = true := by decide +kernel
end
section
/-! the code is as the pure machine has it -/
theorem ev_chk_60 : ev_chk 60 = true := by decide +kernel
theorem ev_chk_61 : ev_chk 61 = true := by decide +kernel
theorem ev_chk_62 : ev_chk 62 = true := by decide +kernel
theorem ev_chk_63 : ev_chk 63 = true := by decide +kernel
theorem ev_chk_64 : ev_chk 64 = true := by decide +kernel
theorem ev_chk_65 : ev_chk 65 = true := by decide +kernel
theorem ev_chk_66 : ev_chk 66 = true := by decide +kernel
theorem ev_chk_67 : ev_chk 67 = true := by decide +kernel
theorem ev_chk_68 : ev_chk 68 = true := by decide +kernel
theorem ev_chk_69 : ev_chk 69 = true := by decide +kernel
theorem ev_chk_70 : ev_chk 70 = true := by decide +kernel
theorem ev_chk_71 : ev_chk 71 = true := by decide +kernel
theorem ev_chk_72 : ev_chk 72 = true := by decide +kernel
theorem ev_chk_73 : ev_chk 73 = true := by decide +kernel
theorem ev_chk_74 : ev_chk 74 = true := by decide +kernel
theorem ev_chk_75 : ev_chk 75 = true := by decide +kernel
theorem ev_chk_76 : ev_chk 76 = true := by decide +kernel
theorem ev_chk_77 : ev_chk 77 = true := by decide +kernel
theorem ev_chk_78 : ev_chk 78 = true := by decide +kernel
theorem ev_chk_79 : ev_chk 79 = true := by decide +kernel
theorem ev_chk_80 : ev_chk 80 = true := by decide +kernel
theorem ev_chk_81 : ev_chk 81 = true := by decide +kernel
end
section
/-! the code is as the pure machine has it -/
theorem ev_chk_82 : ev_chk 82 = true := by decide +kernel
theorem ev_chk_83 : ev_chk 83 = true := by decide +kernel
theorem ev_chk_84 : ev_chk 84 = true := by decide +kernel
theorem ev_chk_85 : ev_chk 85 = true := by decide +kernel
theorem ev_chk_86 : ev_chk 86 = true := by decide +kernel
theorem ev_chk_87 : ev_chk 87 = true := by decide +kernel
theorem ev_chk_88 : ev_chk 88 = true := by decide +kernel
theorem ev_chk_89 : ev_chk 89 = true := by decide +kernel
theorem ev_chk_90 : ev_chk 90 = true := by decide +kernel
theorem ev_chk_91 : ev_chk 91 = true := by decide +kernel
theorem ev_chk_92 : ev_chk 92 = true := by decide +kernel
theorem ev_chk_93 : ev_chk 93 = true := by decide +kernel
theorem ev_chk_94 : ev_chk 94 = true := by decide +kernel
theorem ev_chk_95 : ev_chk 95 = true := by decide +kernel
theorem ev_chk_96 : ev_chk 96 = true := by decide +kernel
theorem ev_chk_97 : ev_chk 97 = true := by decide +kernel
theorem ev_chk_98 : ev_chk 98 = true := by decide +kernel
theorem ev_chk_99 : ev_chk 99 = true := by decide +kernel
theorem ev_chk_100 : ev_chk 100 = true := by decide +kernel
theorem ev_chk_101 : ev_chk 101 = true := by decide +kernel
theorem ev_chk_102 : ev_chk 102 = true := by decide +kernel
theorem ev_chk_103 : ev_chk 103 = true := by decide +kernel
theorem ev_chk_104 : ev_chk 104 = true := by decide +kernel
theorem ev_chk_105 : ev_chk 105 = true := by decide +kernel
theorem ev_chk_106 : ev_chk 106 = true := by decide +kernel
theorem ev_chk_107 : ev_chk 107 = true := by decide +kernel
end
section
/-! the code is as the pure machine has it -/
theorem ev_chk_108 : ev_chk 108 = true := by decide +kernel
theorem ev_chk_109 : ev_chk 109 = true := by decide +kernel
theorem ev_chk_110 : ev_chk 110 = true := by decide +kernel
theorem ev_chk_111 : ev_chk 111 = true := by decide +kernel
theorem ev_chk_112 : ev_chk 112 = true := by decide +kernel
theorem ev_chk_113 : ev_chk 113 = true := by decide +kernel
end
section
/-! every method is checked -/
theorem ev_chks : ∀ j, j < 114 → ev_chk j = true := by
  intro j hj
  rcases Nat.lt_or_ge j 57 with h | h
  · rcases Nat.lt_or_ge j 28 with h | h
    · rcases Nat.lt_or_ge j 14 with h | h
      · rcases Nat.lt_or_ge j 7 with h | h
        · rcases Nat.lt_or_ge j 3 with h | h
          · rcases Nat.lt_or_ge j 1 with h | h
            · exact (show j = 0 by omega) ▸ ev_chk_0
            · rcases Nat.lt_or_ge j 2 with h | h
              · exact (show j = 1 by omega) ▸ ev_chk_1
              · exact (show j = 2 by omega) ▸ ev_chk_2
          · rcases Nat.lt_or_ge j 5 with h | h
            · rcases Nat.lt_or_ge j 4 with h | h
              · exact (show j = 3 by omega) ▸ ev_chk_3
              · exact (show j = 4 by omega) ▸ ev_chk_4
            · rcases Nat.lt_or_ge j 6 with h | h
              · exact (show j = 5 by omega) ▸ ev_chk_5
              · exact (show j = 6 by omega) ▸ ev_chk_6
        · rcases Nat.lt_or_ge j 10 with h | h
          · rcases Nat.lt_or_ge j 8 with h | h
            · exact (show j = 7 by omega) ▸ ev_chk_7
            · rcases Nat.lt_or_ge j 9 with h | h
              · exact (show j = 8 by omega) ▸ ev_chk_8
              · exact (show j = 9 by omega) ▸ ev_chk_9
          · rcases Nat.lt_or_ge j 12 with h | h
            · rcases Nat.lt_or_ge j 11 with h | h
              · exact (show j = 10 by omega) ▸ ev_chk_10
              · exact (show j = 11 by omega) ▸ ev_chk_11
            · rcases Nat.lt_or_ge j 13 with h | h
              · exact (show j = 12 by omega) ▸ ev_chk_12
              · exact (show j = 13 by omega) ▸ ev_chk_13
      · rcases Nat.lt_or_ge j 21 with h | h
        · rcases Nat.lt_or_ge j 17 with h | h
          · rcases Nat.lt_or_ge j 15 with h | h
            · exact (show j = 14 by omega) ▸ ev_chk_14
            · rcases Nat.lt_or_ge j 16 with h | h
              · exact (show j = 15 by omega) ▸ ev_chk_15
              · exact (show j = 16 by omega) ▸ ev_chk_16
          · rcases Nat.lt_or_ge j 19 with h | h
            · rcases Nat.lt_or_ge j 18 with h | h
              · exact (show j = 17 by omega) ▸ ev_chk_17
              · exact (show j = 18 by omega) ▸ ev_chk_18
            · rcases Nat.lt_or_ge j 20 with h | h
              · exact (show j = 19 by omega) ▸ ev_chk_19
              · exact (show j = 20 by omega) ▸ ev_chk_20
        · rcases Nat.lt_or_ge j 24 with h | h
          · rcases Nat.lt_or_ge j 22 with h | h
            · exact (show j = 21 by omega) ▸ ev_chk_21
            · rcases Nat.lt_or_ge j 23 with h | h
              · exact (show j = 22 by omega) ▸ ev_chk_22
              · exact (show j = 23 by omega) ▸ ev_chk_23
          · rcases Nat.lt_or_ge j 26 with h | h
            · rcases Nat.lt_or_ge j 25 with h | h
              · exact (show j = 24 by omega) ▸ ev_chk_24
              · exact (show j = 25 by omega) ▸ ev_chk_25
            · rcases Nat.lt_or_ge j 27 with h | h
              · exact (show j = 26 by omega) ▸ ev_chk_26
              · exact (show j = 27 by omega) ▸ ev_chk_27
    · rcases Nat.lt_or_ge j 42 with h | h
      · rcases Nat.lt_or_ge j 35 with h | h
        · rcases Nat.lt_or_ge j 31 with h | h
          · rcases Nat.lt_or_ge j 29 with h | h
            · exact (show j = 28 by omega) ▸ ev_chk_28
            · rcases Nat.lt_or_ge j 30 with h | h
              · exact (show j = 29 by omega) ▸ ev_chk_29
              · exact (show j = 30 by omega) ▸ ev_chk_30
          · rcases Nat.lt_or_ge j 33 with h | h
            · rcases Nat.lt_or_ge j 32 with h | h
              · exact (show j = 31 by omega) ▸ ev_chk_31
              · exact (show j = 32 by omega) ▸ ev_chk_32
            · rcases Nat.lt_or_ge j 34 with h | h
              · exact (show j = 33 by omega) ▸ ev_chk_33
              · exact (show j = 34 by omega) ▸ ev_chk_34
        · rcases Nat.lt_or_ge j 38 with h | h
          · rcases Nat.lt_or_ge j 36 with h | h
            · exact (show j = 35 by omega) ▸ ev_chk_35
            · rcases Nat.lt_or_ge j 37 with h | h
              · exact (show j = 36 by omega) ▸ ev_chk_36
              · exact (show j = 37 by omega) ▸ ev_chk_37
          · rcases Nat.lt_or_ge j 40 with h | h
            · rcases Nat.lt_or_ge j 39 with h | h
              · exact (show j = 38 by omega) ▸ ev_chk_38
              · exact (show j = 39 by omega) ▸ ev_chk_39
            · rcases Nat.lt_or_ge j 41 with h | h
              · exact (show j = 40 by omega) ▸ ev_chk_40
              · exact (show j = 41 by omega) ▸ ev_chk_41
      · rcases Nat.lt_or_ge j 49 with h | h
        · rcases Nat.lt_or_ge j 45 with h | h
          · rcases Nat.lt_or_ge j 43 with h | h
            · exact (show j = 42 by omega) ▸ ev_chk_42
            · rcases Nat.lt_or_ge j 44 with h | h
              · exact (show j = 43 by omega) ▸ ev_chk_43
              · exact (show j = 44 by omega) ▸ ev_chk_44
          · rcases Nat.lt_or_ge j 47 with h | h
            · rcases Nat.lt_or_ge j 46 with h | h
              · exact (show j = 45 by omega) ▸ ev_chk_45
              · exact (show j = 46 by omega) ▸ ev_chk_46
            · rcases Nat.lt_or_ge j 48 with h | h
              · exact (show j = 47 by omega) ▸ ev_chk_47
              · exact (show j = 48 by omega) ▸ ev_chk_48
        · rcases Nat.lt_or_ge j 53 with h | h
          · rcases Nat.lt_or_ge j 51 with h | h
            · rcases Nat.lt_or_ge j 50 with h | h
              · exact (show j = 49 by omega) ▸ ev_chk_49
              · exact (show j = 50 by omega) ▸ ev_chk_50
            · rcases Nat.lt_or_ge j 52 with h | h
              · exact (show j = 51 by omega) ▸ ev_chk_51
              · exact (show j = 52 by omega) ▸ ev_chk_52
          · rcases Nat.lt_or_ge j 55 with h | h
            · rcases Nat.lt_or_ge j 54 with h | h
              · exact (show j = 53 by omega) ▸ ev_chk_53
              · exact (show j = 54 by omega) ▸ ev_chk_54
            · rcases Nat.lt_or_ge j 56 with h | h
              · exact (show j = 55 by omega) ▸ ev_chk_55
              · exact (show j = 56 by omega) ▸ ev_chk_56
  · rcases Nat.lt_or_ge j 85 with h | h
    · rcases Nat.lt_or_ge j 71 with h | h
      · rcases Nat.lt_or_ge j 64 with h | h
        · rcases Nat.lt_or_ge j 60 with h | h
          · rcases Nat.lt_or_ge j 58 with h | h
            · exact (show j = 57 by omega) ▸ ev_chk_57
            · rcases Nat.lt_or_ge j 59 with h | h
              · exact (show j = 58 by omega) ▸ ev_chk_58
              · exact (show j = 59 by omega) ▸ ev_chk_59
          · rcases Nat.lt_or_ge j 62 with h | h
            · rcases Nat.lt_or_ge j 61 with h | h
              · exact (show j = 60 by omega) ▸ ev_chk_60
              · exact (show j = 61 by omega) ▸ ev_chk_61
            · rcases Nat.lt_or_ge j 63 with h | h
              · exact (show j = 62 by omega) ▸ ev_chk_62
              · exact (show j = 63 by omega) ▸ ev_chk_63
        · rcases Nat.lt_or_ge j 67 with h | h
          · rcases Nat.lt_or_ge j 65 with h | h
            · exact (show j = 64 by omega) ▸ ev_chk_64
            · rcases Nat.lt_or_ge j 66 with h | h
              · exact (show j = 65 by omega) ▸ ev_chk_65
              · exact (show j = 66 by omega) ▸ ev_chk_66
          · rcases Nat.lt_or_ge j 69 with h | h
            · rcases Nat.lt_or_ge j 68 with h | h
              · exact (show j = 67 by omega) ▸ ev_chk_67
              · exact (show j = 68 by omega) ▸ ev_chk_68
            · rcases Nat.lt_or_ge j 70 with h | h
              · exact (show j = 69 by omega) ▸ ev_chk_69
              · exact (show j = 70 by omega) ▸ ev_chk_70
      · rcases Nat.lt_or_ge j 78 with h | h
        · rcases Nat.lt_or_ge j 74 with h | h
          · rcases Nat.lt_or_ge j 72 with h | h
            · exact (show j = 71 by omega) ▸ ev_chk_71
            · rcases Nat.lt_or_ge j 73 with h | h
              · exact (show j = 72 by omega) ▸ ev_chk_72
              · exact (show j = 73 by omega) ▸ ev_chk_73
          · rcases Nat.lt_or_ge j 76 with h | h
            · rcases Nat.lt_or_ge j 75 with h | h
              · exact (show j = 74 by omega) ▸ ev_chk_74
              · exact (show j = 75 by omega) ▸ ev_chk_75
            · rcases Nat.lt_or_ge j 77 with h | h
              · exact (show j = 76 by omega) ▸ ev_chk_76
              · exact (show j = 77 by omega) ▸ ev_chk_77
        · rcases Nat.lt_or_ge j 81 with h | h
          · rcases Nat.lt_or_ge j 79 with h | h
            · exact (show j = 78 by omega) ▸ ev_chk_78
            · rcases Nat.lt_or_ge j 80 with h | h
              · exact (show j = 79 by omega) ▸ ev_chk_79
              · exact (show j = 80 by omega) ▸ ev_chk_80
          · rcases Nat.lt_or_ge j 83 with h | h
            · rcases Nat.lt_or_ge j 82 with h | h
              · exact (show j = 81 by omega) ▸ ev_chk_81
              · exact (show j = 82 by omega) ▸ ev_chk_82
            · rcases Nat.lt_or_ge j 84 with h | h
              · exact (show j = 83 by omega) ▸ ev_chk_83
              · exact (show j = 84 by omega) ▸ ev_chk_84
    · rcases Nat.lt_or_ge j 99 with h | h
      · rcases Nat.lt_or_ge j 92 with h | h
        · rcases Nat.lt_or_ge j 88 with h | h
          · rcases Nat.lt_or_ge j 86 with h | h
            · exact (show j = 85 by omega) ▸ ev_chk_85
            · rcases Nat.lt_or_ge j 87 with h | h
              · exact (show j = 86 by omega) ▸ ev_chk_86
              · exact (show j = 87 by omega) ▸ ev_chk_87
          · rcases Nat.lt_or_ge j 90 with h | h
            · rcases Nat.lt_or_ge j 89 with h | h
              · exact (show j = 88 by omega) ▸ ev_chk_88
              · exact (show j = 89 by omega) ▸ ev_chk_89
            · rcases Nat.lt_or_ge j 91 with h | h
              · exact (show j = 90 by omega) ▸ ev_chk_90
              · exact (show j = 91 by omega) ▸ ev_chk_91
        · rcases Nat.lt_or_ge j 95 with h | h
          · rcases Nat.lt_or_ge j 93 with h | h
            · exact (show j = 92 by omega) ▸ ev_chk_92
            · rcases Nat.lt_or_ge j 94 with h | h
              · exact (show j = 93 by omega) ▸ ev_chk_93
              · exact (show j = 94 by omega) ▸ ev_chk_94
          · rcases Nat.lt_or_ge j 97 with h | h
            · rcases Nat.lt_or_ge j 96 with h | h
              · exact (show j = 95 by omega) ▸ ev_chk_95
              · exact (show j = 96 by omega) ▸ ev_chk_96
            · rcases Nat.lt_or_ge j 98 with h | h
              · exact (show j = 97 by omega) ▸ ev_chk_97
              · exact (show j = 98 by omega) ▸ ev_chk_98
      · rcases Nat.lt_or_ge j 106 with h | h
        · rcases Nat.lt_or_ge j 102 with h | h
          · rcases Nat.lt_or_ge j 100 with h | h
            · exact (show j = 99 by omega) ▸ ev_chk_99
            · rcases Nat.lt_or_ge j 101 with h | h
              · exact (show j = 100 by omega) ▸ ev_chk_100
              · exact (show j = 101 by omega) ▸ ev_chk_101
          · rcases Nat.lt_or_ge j 104 with h | h
            · rcases Nat.lt_or_ge j 103 with h | h
              · exact (show j = 102 by omega) ▸ ev_chk_102
              · exact (show j = 103 by omega) ▸ ev_chk_103
            · rcases Nat.lt_or_ge j 105 with h | h
              · exact (show j = 104 by omega) ▸ ev_chk_104
              · exact (show j = 105 by omega) ▸ ev_chk_105
        · rcases Nat.lt_or_ge j 110 with h | h
          · rcases Nat.lt_or_ge j 108 with h | h
            · rcases Nat.lt_or_ge j 107 with h | h
              · exact (show j = 106 by omega) ▸ ev_chk_106
              · exact (show j = 107 by omega) ▸ ev_chk_107
            · rcases Nat.lt_or_ge j 109 with h | h
              · exact (show j = 108 by omega) ▸ ev_chk_108
              · exact (show j = 109 by omega) ▸ ev_chk_109
          · rcases Nat.lt_or_ge j 112 with h | h
            · rcases Nat.lt_or_ge j 111 with h | h
              · exact (show j = 110 by omega) ▸ ev_chk_110
              · exact (show j = 111 by omega) ▸ ev_chk_111
            · rcases Nat.lt_or_ge j 113 with h | h
              · exact (show j = 112 by omega) ▸ ev_chk_112
              · exact (show j = 113 by omega) ▸ ev_chk_113
end
section
/-! the pure machine, an instruction each, as equations -/
section EOS
variable {j : Nat} {ops : List ev_O} {L : ev_L} {st : List ev_V} {σ : ev_M} {k f e c t n q : Nat} {z w x y : Int} {a b : ev_V} {h g : Int64} {i : Int} {R : Option ev_R}
theorem ev_wr_id {x : Int} (h0 : -2147483648 ≤ x) (h1 : x ≤ 2147483647) : ev_wr x = x := by
  unfold ev_wr
  omega
theorem ev_len_le (i : Int) : ev_len i ≤ 2366 := by
  unfold ev_len
  split
  · omega
  · have h : ∀ q ∈ ev_sh, q.2 ≤ 2366 := by decide +kernel
    rw [List.getD_eq_getElem?_getD]
    rcases hq : ev_sh[i.toNat]? with _ | q
    · simp
    · simp only [Option.getD_some]
      exact h q (List.mem_of_getElem? hq)
variable {p0 p1 p2 p3 p4 p5 p6 p7 p8 p9 p10 p11 p12 p13 p14 p15 p16 : Option ev_V}
theorem eo_0_0 : EO j ((0, 0, f, z, w) :: ops) (some (.inl x) :: L) st σ = EO j ops (some (.inl x) :: L) (.inl x :: st) σ := by
  rfl
theorem eo_0_1 : EO j ((0, 1, f, z, w) :: ops) (p0 :: some (.inl x) :: L) st σ = EO j ops (p0 :: some (.inl x) :: L) (.inl x :: st) σ := by
  rfl
theorem eo_0_2 : EO j ((0, 2, f, z, w) :: ops) (p0 :: p1 :: some (.inl x) :: L) st σ = EO j ops (p0 :: p1 :: some (.inl x) :: L) (.inl x :: st) σ := by
  rfl
theorem eo_0_3 : EO j ((0, 3, f, z, w) :: ops) (p0 :: p1 :: p2 :: some (.inl x) :: L) st σ = EO j ops (p0 :: p1 :: p2 :: some (.inl x) :: L) (.inl x :: st) σ := by
  rfl
theorem eo_0_4 : EO j ((0, 4, f, z, w) :: ops) (p0 :: p1 :: p2 :: p3 :: some (.inl x) :: L) st σ = EO j ops (p0 :: p1 :: p2 :: p3 :: some (.inl x) :: L) (.inl x :: st) σ := by
  rfl
theorem eo_0_5 : EO j ((0, 5, f, z, w) :: ops) (p0 :: p1 :: p2 :: p3 :: p4 :: some (.inl x) :: L) st σ = EO j ops (p0 :: p1 :: p2 :: p3 :: p4 :: some (.inl x) :: L) (.inl x :: st) σ := by
  rfl
theorem eo_0_6 : EO j ((0, 6, f, z, w) :: ops) (p0 :: p1 :: p2 :: p3 :: p4 :: p5 :: some (.inl x) :: L) st σ = EO j ops (p0 :: p1 :: p2 :: p3 :: p4 :: p5 :: some (.inl x) :: L) (.inl x :: st) σ := by
  rfl
theorem eo_0_7 : EO j ((0, 7, f, z, w) :: ops) (p0 :: p1 :: p2 :: p3 :: p4 :: p5 :: p6 :: some (.inl x) :: L) st σ = EO j ops (p0 :: p1 :: p2 :: p3 :: p4 :: p5 :: p6 :: some (.inl x) :: L) (.inl x :: st) σ := by
  rfl
theorem eo_0_8 : EO j ((0, 8, f, z, w) :: ops) (p0 :: p1 :: p2 :: p3 :: p4 :: p5 :: p6 :: p7 :: some (.inl x) :: L) st σ = EO j ops (p0 :: p1 :: p2 :: p3 :: p4 :: p5 :: p6 :: p7 :: some (.inl x) :: L) (.inl x :: st) σ := by
  rfl
theorem eo_0_9 : EO j ((0, 9, f, z, w) :: ops) (p0 :: p1 :: p2 :: p3 :: p4 :: p5 :: p6 :: p7 :: p8 :: some (.inl x) :: L) st σ = EO j ops (p0 :: p1 :: p2 :: p3 :: p4 :: p5 :: p6 :: p7 :: p8 :: some (.inl x) :: L) (.inl x :: st) σ := by
  rfl
theorem eo_0_10 : EO j ((0, 10, f, z, w) :: ops) (p0 :: p1 :: p2 :: p3 :: p4 :: p5 :: p6 :: p7 :: p8 :: p9 :: some (.inl x) :: L) st σ = EO j ops (p0 :: p1 :: p2 :: p3 :: p4 :: p5 :: p6 :: p7 :: p8 :: p9 :: some (.inl x) :: L) (.inl x :: st) σ := by
  rfl
theorem eo_0_11 : EO j ((0, 11, f, z, w) :: ops) (p0 :: p1 :: p2 :: p3 :: p4 :: p5 :: p6 :: p7 :: p8 :: p9 :: p10 :: some (.inl x) :: L) st σ = EO j ops (p0 :: p1 :: p2 :: p3 :: p4 :: p5 :: p6 :: p7 :: p8 :: p9 :: p10 :: some (.inl x) :: L) (.inl x :: st) σ := by
  rfl
theorem eo_0_12 : EO j ((0, 12, f, z, w) :: ops) (p0 :: p1 :: p2 :: p3 :: p4 :: p5 :: p6 :: p7 :: p8 :: p9 :: p10 :: p11 :: some (.inl x) :: L) st σ = EO j ops (p0 :: p1 :: p2 :: p3 :: p4 :: p5 :: p6 :: p7 :: p8 :: p9 :: p10 :: p11 :: some (.inl x) :: L) (.inl x :: st) σ := by
  rfl
theorem eo_0_13 : EO j ((0, 13, f, z, w) :: ops) (p0 :: p1 :: p2 :: p3 :: p4 :: p5 :: p6 :: p7 :: p8 :: p9 :: p10 :: p11 :: p12 :: some (.inl x) :: L) st σ = EO j ops (p0 :: p1 :: p2 :: p3 :: p4 :: p5 :: p6 :: p7 :: p8 :: p9 :: p10 :: p11 :: p12 :: some (.inl x) :: L) (.inl x :: st) σ := by
  rfl
theorem eo_0_14 : EO j ((0, 14, f, z, w) :: ops) (p0 :: p1 :: p2 :: p3 :: p4 :: p5 :: p6 :: p7 :: p8 :: p9 :: p10 :: p11 :: p12 :: p13 :: some (.inl x) :: L) st σ = EO j ops (p0 :: p1 :: p2 :: p3 :: p4 :: p5 :: p6 :: p7 :: p8 :: p9 :: p10 :: p11 :: p12 :: p13 :: some (.inl x) :: L) (.inl x :: st) σ := by
  rfl
theorem eo_0_15 : EO j ((0, 15, f, z, w) :: ops) (p0 :: p1 :: p2 :: p3 :: p4 :: p5 :: p6 :: p7 :: p8 :: p9 :: p10 :: p11 :: p12 :: p13 :: p14 :: some (.inl x) :: L) st σ = EO j ops (p0 :: p1 :: p2 :: p3 :: p4 :: p5 :: p6 :: p7 :: p8 :: p9 :: p10 :: p11 :: p12 :: p13 :: p14 :: some (.inl x) :: L) (.inl x :: st) σ := by
  rfl
theorem eo_0_16 : EO j ((0, 16, f, z, w) :: ops) (p0 :: p1 :: p2 :: p3 :: p4 :: p5 :: p6 :: p7 :: p8 :: p9 :: p10 :: p11 :: p12 :: p13 :: p14 :: p15 :: some (.inl x) :: L) st σ = EO j ops (p0 :: p1 :: p2 :: p3 :: p4 :: p5 :: p6 :: p7 :: p8 :: p9 :: p10 :: p11 :: p12 :: p13 :: p14 :: p15 :: some (.inl x) :: L) (.inl x :: st) σ := by
  rfl
theorem eo_1_0 : EO j ((1, 0, f, z, w) :: ops) (some (.inr (.inl x)) :: L) st σ = EO j ops (some (.inr (.inl x)) :: L) (.inr (.inl x) :: st) σ := by
  rfl
theorem eo_1_1 : EO j ((1, 1, f, z, w) :: ops) (p0 :: some (.inr (.inl x)) :: L) st σ = EO j ops (p0 :: some (.inr (.inl x)) :: L) (.inr (.inl x) :: st) σ := by
  rfl
theorem eo_1_2 : EO j ((1, 2, f, z, w) :: ops) (p0 :: p1 :: some (.inr (.inl x)) :: L) st σ = EO j ops (p0 :: p1 :: some (.inr (.inl x)) :: L) (.inr (.inl x) :: st) σ := by
  rfl
theorem eo_1_3 : EO j ((1, 3, f, z, w) :: ops) (p0 :: p1 :: p2 :: some (.inr (.inl x)) :: L) st σ = EO j ops (p0 :: p1 :: p2 :: some (.inr (.inl x)) :: L) (.inr (.inl x) :: st) σ := by
  rfl
theorem eo_1_4 : EO j ((1, 4, f, z, w) :: ops) (p0 :: p1 :: p2 :: p3 :: some (.inr (.inl x)) :: L) st σ = EO j ops (p0 :: p1 :: p2 :: p3 :: some (.inr (.inl x)) :: L) (.inr (.inl x) :: st) σ := by
  rfl
theorem eo_1_5 : EO j ((1, 5, f, z, w) :: ops) (p0 :: p1 :: p2 :: p3 :: p4 :: some (.inr (.inl x)) :: L) st σ = EO j ops (p0 :: p1 :: p2 :: p3 :: p4 :: some (.inr (.inl x)) :: L) (.inr (.inl x) :: st) σ := by
  rfl
theorem eo_1_6 : EO j ((1, 6, f, z, w) :: ops) (p0 :: p1 :: p2 :: p3 :: p4 :: p5 :: some (.inr (.inl x)) :: L) st σ = EO j ops (p0 :: p1 :: p2 :: p3 :: p4 :: p5 :: some (.inr (.inl x)) :: L) (.inr (.inl x) :: st) σ := by
  rfl
theorem eo_1_7 : EO j ((1, 7, f, z, w) :: ops) (p0 :: p1 :: p2 :: p3 :: p4 :: p5 :: p6 :: some (.inr (.inl x)) :: L) st σ = EO j ops (p0 :: p1 :: p2 :: p3 :: p4 :: p5 :: p6 :: some (.inr (.inl x)) :: L) (.inr (.inl x) :: st) σ := by
  rfl
theorem eo_1_8 : EO j ((1, 8, f, z, w) :: ops) (p0 :: p1 :: p2 :: p3 :: p4 :: p5 :: p6 :: p7 :: some (.inr (.inl x)) :: L) st σ = EO j ops (p0 :: p1 :: p2 :: p3 :: p4 :: p5 :: p6 :: p7 :: some (.inr (.inl x)) :: L) (.inr (.inl x) :: st) σ := by
  rfl
theorem eo_1_9 : EO j ((1, 9, f, z, w) :: ops) (p0 :: p1 :: p2 :: p3 :: p4 :: p5 :: p6 :: p7 :: p8 :: some (.inr (.inl x)) :: L) st σ = EO j ops (p0 :: p1 :: p2 :: p3 :: p4 :: p5 :: p6 :: p7 :: p8 :: some (.inr (.inl x)) :: L) (.inr (.inl x) :: st) σ := by
  rfl
theorem eo_1_10 : EO j ((1, 10, f, z, w) :: ops) (p0 :: p1 :: p2 :: p3 :: p4 :: p5 :: p6 :: p7 :: p8 :: p9 :: some (.inr (.inl x)) :: L) st σ = EO j ops (p0 :: p1 :: p2 :: p3 :: p4 :: p5 :: p6 :: p7 :: p8 :: p9 :: some (.inr (.inl x)) :: L) (.inr (.inl x) :: st) σ := by
  rfl
theorem eo_1_11 : EO j ((1, 11, f, z, w) :: ops) (p0 :: p1 :: p2 :: p3 :: p4 :: p5 :: p6 :: p7 :: p8 :: p9 :: p10 :: some (.inr (.inl x)) :: L) st σ = EO j ops (p0 :: p1 :: p2 :: p3 :: p4 :: p5 :: p6 :: p7 :: p8 :: p9 :: p10 :: some (.inr (.inl x)) :: L) (.inr (.inl x) :: st) σ := by
  rfl
theorem eo_1_12 : EO j ((1, 12, f, z, w) :: ops) (p0 :: p1 :: p2 :: p3 :: p4 :: p5 :: p6 :: p7 :: p8 :: p9 :: p10 :: p11 :: some (.inr (.inl x)) :: L) st σ = EO j ops (p0 :: p1 :: p2 :: p3 :: p4 :: p5 :: p6 :: p7 :: p8 :: p9 :: p10 :: p11 :: some (.inr (.inl x)) :: L) (.inr (.inl x) :: st) σ := by
  rfl
theorem eo_1_13 : EO j ((1, 13, f, z, w) :: ops) (p0 :: p1 :: p2 :: p3 :: p4 :: p5 :: p6 :: p7 :: p8 :: p9 :: p10 :: p11 :: p12 :: some (.inr (.inl x)) :: L) st σ = EO j ops (p0 :: p1 :: p2 :: p3 :: p4 :: p5 :: p6 :: p7 :: p8 :: p9 :: p10 :: p11 :: p12 :: some (.inr (.inl x)) :: L) (.inr (.inl x) :: st) σ := by
  rfl
theorem eo_1_14 : EO j ((1, 14, f, z, w) :: ops) (p0 :: p1 :: p2 :: p3 :: p4 :: p5 :: p6 :: p7 :: p8 :: p9 :: p10 :: p11 :: p12 :: p13 :: some (.inr (.inl x)) :: L) st σ = EO j ops (p0 :: p1 :: p2 :: p3 :: p4 :: p5 :: p6 :: p7 :: p8 :: p9 :: p10 :: p11 :: p12 :: p13 :: some (.inr (.inl x)) :: L) (.inr (.inl x) :: st) σ := by
  rfl
theorem eo_1_15 : EO j ((1, 15, f, z, w) :: ops) (p0 :: p1 :: p2 :: p3 :: p4 :: p5 :: p6 :: p7 :: p8 :: p9 :: p10 :: p11 :: p12 :: p13 :: p14 :: some (.inr (.inl x)) :: L) st σ = EO j ops (p0 :: p1 :: p2 :: p3 :: p4 :: p5 :: p6 :: p7 :: p8 :: p9 :: p10 :: p11 :: p12 :: p13 :: p14 :: some (.inr (.inl x)) :: L) (.inr (.inl x) :: st) σ := by
  rfl
theorem eo_1_16 : EO j ((1, 16, f, z, w) :: ops) (p0 :: p1 :: p2 :: p3 :: p4 :: p5 :: p6 :: p7 :: p8 :: p9 :: p10 :: p11 :: p12 :: p13 :: p14 :: p15 :: some (.inr (.inl x)) :: L) st σ = EO j ops (p0 :: p1 :: p2 :: p3 :: p4 :: p5 :: p6 :: p7 :: p8 :: p9 :: p10 :: p11 :: p12 :: p13 :: p14 :: p15 :: some (.inr (.inl x)) :: L) (.inr (.inl x) :: st) σ := by
  rfl
theorem eo_2_0 : EO j ((2, 0, f, z, w) :: ops) (some (.inr (.inr h)) :: L) st σ = EO j ops (some (.inr (.inr h)) :: L) (.inr (.inr h) :: st) σ := by
  rfl
theorem eo_2_1 : EO j ((2, 1, f, z, w) :: ops) (p0 :: some (.inr (.inr h)) :: L) st σ = EO j ops (p0 :: some (.inr (.inr h)) :: L) (.inr (.inr h) :: st) σ := by
  rfl
theorem eo_2_2 : EO j ((2, 2, f, z, w) :: ops) (p0 :: p1 :: some (.inr (.inr h)) :: L) st σ = EO j ops (p0 :: p1 :: some (.inr (.inr h)) :: L) (.inr (.inr h) :: st) σ := by
  rfl
theorem eo_2_3 : EO j ((2, 3, f, z, w) :: ops) (p0 :: p1 :: p2 :: some (.inr (.inr h)) :: L) st σ = EO j ops (p0 :: p1 :: p2 :: some (.inr (.inr h)) :: L) (.inr (.inr h) :: st) σ := by
  rfl
theorem eo_2_4 : EO j ((2, 4, f, z, w) :: ops) (p0 :: p1 :: p2 :: p3 :: some (.inr (.inr h)) :: L) st σ = EO j ops (p0 :: p1 :: p2 :: p3 :: some (.inr (.inr h)) :: L) (.inr (.inr h) :: st) σ := by
  rfl
theorem eo_2_5 : EO j ((2, 5, f, z, w) :: ops) (p0 :: p1 :: p2 :: p3 :: p4 :: some (.inr (.inr h)) :: L) st σ = EO j ops (p0 :: p1 :: p2 :: p3 :: p4 :: some (.inr (.inr h)) :: L) (.inr (.inr h) :: st) σ := by
  rfl
theorem eo_2_6 : EO j ((2, 6, f, z, w) :: ops) (p0 :: p1 :: p2 :: p3 :: p4 :: p5 :: some (.inr (.inr h)) :: L) st σ = EO j ops (p0 :: p1 :: p2 :: p3 :: p4 :: p5 :: some (.inr (.inr h)) :: L) (.inr (.inr h) :: st) σ := by
  rfl
theorem eo_2_7 : EO j ((2, 7, f, z, w) :: ops) (p0 :: p1 :: p2 :: p3 :: p4 :: p5 :: p6 :: some (.inr (.inr h)) :: L) st σ = EO j ops (p0 :: p1 :: p2 :: p3 :: p4 :: p5 :: p6 :: some (.inr (.inr h)) :: L) (.inr (.inr h) :: st) σ := by
  rfl
theorem eo_2_8 : EO j ((2, 8, f, z, w) :: ops) (p0 :: p1 :: p2 :: p3 :: p4 :: p5 :: p6 :: p7 :: some (.inr (.inr h)) :: L) st σ = EO j ops (p0 :: p1 :: p2 :: p3 :: p4 :: p5 :: p6 :: p7 :: some (.inr (.inr h)) :: L) (.inr (.inr h) :: st) σ := by
  rfl
theorem eo_2_9 : EO j ((2, 9, f, z, w) :: ops) (p0 :: p1 :: p2 :: p3 :: p4 :: p5 :: p6 :: p7 :: p8 :: some (.inr (.inr h)) :: L) st σ = EO j ops (p0 :: p1 :: p2 :: p3 :: p4 :: p5 :: p6 :: p7 :: p8 :: some (.inr (.inr h)) :: L) (.inr (.inr h) :: st) σ := by
  rfl
theorem eo_2_10 : EO j ((2, 10, f, z, w) :: ops) (p0 :: p1 :: p2 :: p3 :: p4 :: p5 :: p6 :: p7 :: p8 :: p9 :: some (.inr (.inr h)) :: L) st σ = EO j ops (p0 :: p1 :: p2 :: p3 :: p4 :: p5 :: p6 :: p7 :: p8 :: p9 :: some (.inr (.inr h)) :: L) (.inr (.inr h) :: st) σ := by
  rfl
theorem eo_2_11 : EO j ((2, 11, f, z, w) :: ops) (p0 :: p1 :: p2 :: p3 :: p4 :: p5 :: p6 :: p7 :: p8 :: p9 :: p10 :: some (.inr (.inr h)) :: L) st σ = EO j ops (p0 :: p1 :: p2 :: p3 :: p4 :: p5 :: p6 :: p7 :: p8 :: p9 :: p10 :: some (.inr (.inr h)) :: L) (.inr (.inr h) :: st) σ := by
  rfl
theorem eo_2_12 : EO j ((2, 12, f, z, w) :: ops) (p0 :: p1 :: p2 :: p3 :: p4 :: p5 :: p6 :: p7 :: p8 :: p9 :: p10 :: p11 :: some (.inr (.inr h)) :: L) st σ = EO j ops (p0 :: p1 :: p2 :: p3 :: p4 :: p5 :: p6 :: p7 :: p8 :: p9 :: p10 :: p11 :: some (.inr (.inr h)) :: L) (.inr (.inr h) :: st) σ := by
  rfl
theorem eo_2_13 : EO j ((2, 13, f, z, w) :: ops) (p0 :: p1 :: p2 :: p3 :: p4 :: p5 :: p6 :: p7 :: p8 :: p9 :: p10 :: p11 :: p12 :: some (.inr (.inr h)) :: L) st σ = EO j ops (p0 :: p1 :: p2 :: p3 :: p4 :: p5 :: p6 :: p7 :: p8 :: p9 :: p10 :: p11 :: p12 :: some (.inr (.inr h)) :: L) (.inr (.inr h) :: st) σ := by
  rfl
theorem eo_2_14 : EO j ((2, 14, f, z, w) :: ops) (p0 :: p1 :: p2 :: p3 :: p4 :: p5 :: p6 :: p7 :: p8 :: p9 :: p10 :: p11 :: p12 :: p13 :: some (.inr (.inr h)) :: L) st σ = EO j ops (p0 :: p1 :: p2 :: p3 :: p4 :: p5 :: p6 :: p7 :: p8 :: p9 :: p10 :: p11 :: p12 :: p13 :: some (.inr (.inr h)) :: L) (.inr (.inr h) :: st) σ := by
  rfl
theorem eo_2_15 : EO j ((2, 15, f, z, w) :: ops) (p0 :: p1 :: p2 :: p3 :: p4 :: p5 :: p6 :: p7 :: p8 :: p9 :: p10 :: p11 :: p12 :: p13 :: p14 :: some (.inr (.inr h)) :: L) st σ = EO j ops (p0 :: p1 :: p2 :: p3 :: p4 :: p5 :: p6 :: p7 :: p8 :: p9 :: p10 :: p11 :: p12 :: p13 :: p14 :: some (.inr (.inr h)) :: L) (.inr (.inr h) :: st) σ := by
  rfl
theorem eo_2_16 : EO j ((2, 16, f, z, w) :: ops) (p0 :: p1 :: p2 :: p3 :: p4 :: p5 :: p6 :: p7 :: p8 :: p9 :: p10 :: p11 :: p12 :: p13 :: p14 :: p15 :: some (.inr (.inr h)) :: L) st σ = EO j ops (p0 :: p1 :: p2 :: p3 :: p4 :: p5 :: p6 :: p7 :: p8 :: p9 :: p10 :: p11 :: p12 :: p13 :: p14 :: p15 :: some (.inr (.inr h)) :: L) (.inr (.inr h) :: st) σ := by
  rfl
theorem eo_3_0 : EO j ((3, 0, f, z, w) :: ops) (p16 :: L) (.inl x :: st) σ = EO j ops (some (.inl x) :: L) st σ := by
  rfl
theorem eo_3_1n : EO j ((3, 1, f, z, w) :: ops) (none :: p16 :: L) (.inl x :: st) σ = EO j ops (none :: some (.inl x) :: L) st σ := by
  unfold EO; simp only [ev_o, ev_x, ev_nl, ev_get, ev_set, List.length_cons]; rw [if_pos ⟨trivial, by omega⟩]
theorem eo_3_1i : EO j ((3, 1, f, z, w) :: ops) (some (.inl y) :: p16 :: L) (.inl x :: st) σ = EO j ops (some (.inl y) :: some (.inl x) :: L) st σ := by
  unfold EO; simp only [ev_o, ev_x, ev_nl, ev_get, ev_set, List.length_cons]; rw [if_pos ⟨trivial, by omega⟩]
theorem eo_3_1r : EO j ((3, 1, f, z, w) :: ops) (some (.inr (.inl y)) :: p16 :: L) (.inl x :: st) σ = EO j ops (some (.inr (.inl y)) :: some (.inl x) :: L) st σ := by
  unfold EO; simp only [ev_o, ev_x, ev_nl, ev_get, ev_set, List.length_cons]; rw [if_pos ⟨trivial, by omega⟩]
theorem eo_3_2n : EO j ((3, 2, f, z, w) :: ops) (p0 :: none :: p16 :: L) (.inl x :: st) σ = EO j ops (p0 :: none :: some (.inl x) :: L) st σ := by
  unfold EO; simp only [ev_o, ev_x, ev_nl, ev_get, ev_set, List.length_cons]; rw [if_pos ⟨trivial, by omega⟩]
theorem eo_3_2i : EO j ((3, 2, f, z, w) :: ops) (p0 :: some (.inl y) :: p16 :: L) (.inl x :: st) σ = EO j ops (p0 :: some (.inl y) :: some (.inl x) :: L) st σ := by
  unfold EO; simp only [ev_o, ev_x, ev_nl, ev_get, ev_set, List.length_cons]; rw [if_pos ⟨trivial, by omega⟩]
theorem eo_3_2r : EO j ((3, 2, f, z, w) :: ops) (p0 :: some (.inr (.inl y)) :: p16 :: L) (.inl x :: st) σ = EO j ops (p0 :: some (.inr (.inl y)) :: some (.inl x) :: L) st σ := by
  unfold EO; simp only [ev_o, ev_x, ev_nl, ev_get, ev_set, List.length_cons]; rw [if_pos ⟨trivial, by omega⟩]
theorem eo_3_3n : EO j ((3, 3, f, z, w) :: ops) (p0 :: p1 :: none :: p16 :: L) (.inl x :: st) σ = EO j ops (p0 :: p1 :: none :: some (.inl x) :: L) st σ := by
  unfold EO; simp only [ev_o, ev_x, ev_nl, ev_get, ev_set, List.length_cons]; rw [if_pos ⟨trivial, by omega⟩]
theorem eo_3_3i : EO j ((3, 3, f, z, w) :: ops) (p0 :: p1 :: some (.inl y) :: p16 :: L) (.inl x :: st) σ = EO j ops (p0 :: p1 :: some (.inl y) :: some (.inl x) :: L) st σ := by
  unfold EO; simp only [ev_o, ev_x, ev_nl, ev_get, ev_set, List.length_cons]; rw [if_pos ⟨trivial, by omega⟩]
theorem eo_3_3r : EO j ((3, 3, f, z, w) :: ops) (p0 :: p1 :: some (.inr (.inl y)) :: p16 :: L) (.inl x :: st) σ = EO j ops (p0 :: p1 :: some (.inr (.inl y)) :: some (.inl x) :: L) st σ := by
  unfold EO; simp only [ev_o, ev_x, ev_nl, ev_get, ev_set, List.length_cons]; rw [if_pos ⟨trivial, by omega⟩]
theorem eo_3_4n : EO j ((3, 4, f, z, w) :: ops) (p0 :: p1 :: p2 :: none :: p16 :: L) (.inl x :: st) σ = EO j ops (p0 :: p1 :: p2 :: none :: some (.inl x) :: L) st σ := by
  unfold EO; simp only [ev_o, ev_x, ev_nl, ev_get, ev_set, List.length_cons]; rw [if_pos ⟨trivial, by omega⟩]
theorem eo_3_4i : EO j ((3, 4, f, z, w) :: ops) (p0 :: p1 :: p2 :: some (.inl y) :: p16 :: L) (.inl x :: st) σ = EO j ops (p0 :: p1 :: p2 :: some (.inl y) :: some (.inl x) :: L) st σ := by
  unfold EO; simp only [ev_o, ev_x, ev_nl, ev_get, ev_set, List.length_cons]; rw [if_pos ⟨trivial, by omega⟩]
theorem eo_3_4r : EO j ((3, 4, f, z, w) :: ops) (p0 :: p1 :: p2 :: some (.inr (.inl y)) :: p16 :: L) (.inl x :: st) σ = EO j ops (p0 :: p1 :: p2 :: some (.inr (.inl y)) :: some (.inl x) :: L) st σ := by
  unfold EO; simp only [ev_o, ev_x, ev_nl, ev_get, ev_set, List.length_cons]; rw [if_pos ⟨trivial, by omega⟩]
theorem eo_3_5n : EO j ((3, 5, f, z, w) :: ops) (p0 :: p1 :: p2 :: p3 :: none :: p16 :: L) (.inl x :: st) σ = EO j ops (p0 :: p1 :: p2 :: p3 :: none :: some (.inl x) :: L) st σ := by
  unfold EO; simp only [ev_o, ev_x, ev_nl, ev_get, ev_set, List.length_cons]; rw [if_pos ⟨trivial, by omega⟩]
theorem eo_3_5i : EO j ((3, 5, f, z, w) :: ops) (p0 :: p1 :: p2 :: p3 :: some (.inl y) :: p16 :: L) (.inl x :: st) σ = EO j ops (p0 :: p1 :: p2 :: p3 :: some (.inl y) :: some (.inl x) :: L) st σ := by
  unfold EO; simp only [ev_o, ev_x, ev_nl, ev_get, ev_set, List.length_cons]; rw [if_pos ⟨trivial, by omega⟩]
theorem eo_3_5r : EO j ((3, 5, f, z, w) :: ops) (p0 :: p1 :: p2 :: p3 :: some (.inr (.inl y)) :: p16 :: L) (.inl x :: st) σ = EO j ops (p0 :: p1 :: p2 :: p3 :: some (.inr (.inl y)) :: some (.inl x) :: L) st σ := by
  unfold EO; simp only [ev_o, ev_x, ev_nl, ev_get, ev_set, List.length_cons]; rw [if_pos ⟨trivial, by omega⟩]
theorem eo_3_6n : EO j ((3, 6, f, z, w) :: ops) (p0 :: p1 :: p2 :: p3 :: p4 :: none :: p16 :: L) (.inl x :: st) σ = EO j ops (p0 :: p1 :: p2 :: p3 :: p4 :: none :: some (.inl x) :: L) st σ := by
  unfold EO; simp only [ev_o, ev_x, ev_nl, ev_get, ev_set, List.length_cons]; rw [if_pos ⟨trivial, by omega⟩]
theorem eo_3_6i : EO j ((3, 6, f, z, w) :: ops) (p0 :: p1 :: p2 :: p3 :: p4 :: some (.inl y) :: p16 :: L) (.inl x :: st) σ = EO j ops (p0 :: p1 :: p2 :: p3 :: p4 :: some (.inl y) :: some (.inl x) :: L) st σ := by
  unfold EO; simp only [ev_o, ev_x, ev_nl, ev_get, ev_set, List.length_cons]; rw [if_pos ⟨trivial, by omega⟩]
theorem eo_3_6r : EO j ((3, 6, f, z, w) :: ops) (p0 :: p1 :: p2 :: p3 :: p4 :: some (.inr (.inl y)) :: p16 :: L) (.inl x :: st) σ = EO j ops (p0 :: p1 :: p2 :: p3 :: p4 :: some (.inr (.inl y)) :: some (.inl x) :: L) st σ := by
  unfold EO; simp only [ev_o, ev_x, ev_nl, ev_get, ev_set, List.length_cons]; rw [if_pos ⟨trivial, by omega⟩]
theorem eo_3_7n : EO j ((3, 7, f, z, w) :: ops) (p0 :: p1 :: p2 :: p3 :: p4 :: p5 :: none :: p16 :: L) (.inl x :: st) σ = EO j ops (p0 :: p1 :: p2 :: p3 :: p4 :: p5 :: none :: some (.inl x) :: L) st σ := by
  unfold EO; simp only [ev_o, ev_x, ev_nl, ev_get, ev_set, List.length_cons]; rw [if_pos ⟨trivial, by omega⟩]
theorem eo_3_7i : EO j ((3, 7, f, z, w) :: ops) (p0 :: p1 :: p2 :: p3 :: p4 :: p5 :: some (.inl y) :: p16 :: L) (.inl x :: st) σ = EO j ops (p0 :: p1 :: p2 :: p3 :: p4 :: p5 :: some (.inl y) :: some (.inl x) :: L) st σ := by
  unfold EO; simp only [ev_o, ev_x, ev_nl, ev_get, ev_set, List.length_cons]; rw [if_pos ⟨trivial, by omega⟩]
theorem eo_3_7r : EO j ((3, 7, f, z, w) :: ops) (p0 :: p1 :: p2 :: p3 :: p4 :: p5 :: some (.inr (.inl y)) :: p16 :: L) (.inl x :: st) σ = EO j ops (p0 :: p1 :: p2 :: p3 :: p4 :: p5 :: some (.inr (.inl y)) :: some (.inl x) :: L) st σ := by
  unfold EO; simp only [ev_o, ev_x, ev_nl, ev_get, ev_set, List.length_cons]; rw [if_pos ⟨trivial, by omega⟩]
theorem eo_3_8n : EO j ((3, 8, f, z, w) :: ops) (p0 :: p1 :: p2 :: p3 :: p4 :: p5 :: p6 :: none :: p16 :: L) (.inl x :: st) σ = EO j ops (p0 :: p1 :: p2 :: p3 :: p4 :: p5 :: p6 :: none :: some (.inl x) :: L) st σ := by
  unfold EO; simp only [ev_o, ev_x, ev_nl, ev_get, ev_set, List.length_cons]; rw [if_pos ⟨trivial, by omega⟩]
theorem eo_3_8i : EO j ((3, 8, f, z, w) :: ops) (p0 :: p1 :: p2 :: p3 :: p4 :: p5 :: p6 :: some (.inl y) :: p16 :: L) (.inl x :: st) σ = EO j ops (p0 :: p1 :: p2 :: p3 :: p4 :: p5 :: p6 :: some (.inl y) :: some (.inl x) :: L) st σ := by
  unfold EO; simp only [ev_o, ev_x, ev_nl, ev_get, ev_set, List.length_cons]; rw [if_pos ⟨trivial, by omega⟩]
theorem eo_3_8r : EO j ((3, 8, f, z, w) :: ops) (p0 :: p1 :: p2 :: p3 :: p4 :: p5 :: p6 :: some (.inr (.inl y)) :: p16 :: L) (.inl x :: st) σ = EO j ops (p0 :: p1 :: p2 :: p3 :: p4 :: p5 :: p6 :: some (.inr (.inl y)) :: some (.inl x) :: L) st σ := by
  unfold EO; simp only [ev_o, ev_x, ev_nl, ev_get, ev_set, List.length_cons]; rw [if_pos ⟨trivial, by omega⟩]
theorem eo_3_9n : EO j ((3, 9, f, z, w) :: ops) (p0 :: p1 :: p2 :: p3 :: p4 :: p5 :: p6 :: p7 :: none :: p16 :: L) (.inl x :: st) σ = EO j ops (p0 :: p1 :: p2 :: p3 :: p4 :: p5 :: p6 :: p7 :: none :: some (.inl x) :: L) st σ := by
  unfold EO; simp only [ev_o, ev_x, ev_nl, ev_get, ev_set, List.length_cons]; rw [if_pos ⟨trivial, by omega⟩]
theorem eo_3_9i : EO j ((3, 9, f, z, w) :: ops) (p0 :: p1 :: p2 :: p3 :: p4 :: p5 :: p6 :: p7 :: some (.inl y) :: p16 :: L) (.inl x :: st) σ = EO j ops (p0 :: p1 :: p2 :: p3 :: p4 :: p5 :: p6 :: p7 :: some (.inl y) :: some (.inl x) :: L) st σ := by
  unfold EO; simp only [ev_o, ev_x, ev_nl, ev_get, ev_set, List.length_cons]; rw [if_pos ⟨trivial, by omega⟩]
theorem eo_3_9r : EO j ((3, 9, f, z, w) :: ops) (p0 :: p1 :: p2 :: p3 :: p4 :: p5 :: p6 :: p7 :: some (.inr (.inl y)) :: p16 :: L) (.inl x :: st) σ = EO j ops (p0 :: p1 :: p2 :: p3 :: p4 :: p5 :: p6 :: p7 :: some (.inr (.inl y)) :: some (.inl x) :: L) st σ := by
  unfold EO; simp only [ev_o, ev_x, ev_nl, ev_get, ev_set, List.length_cons]; rw [if_pos ⟨trivial, by omega⟩]
theorem eo_3_10n : EO j ((3, 10, f, z, w) :: ops) (p0 :: p1 :: p2 :: p3 :: p4 :: p5 :: p6 :: p7 :: p8 :: none :: p16 :: L) (.inl x :: st) σ = EO j ops (p0 :: p1 :: p2 :: p3 :: p4 :: p5 :: p6 :: p7 :: p8 :: none :: some (.inl x) :: L) st σ := by
  unfold EO; simp only [ev_o, ev_x, ev_nl, ev_get, ev_set, List.length_cons]; rw [if_pos ⟨trivial, by omega⟩]
theorem eo_3_10i : EO j ((3, 10, f, z, w) :: ops) (p0 :: p1 :: p2 :: p3 :: p4 :: p5 :: p6 :: p7 :: p8 :: some (.inl y) :: p16 :: L) (.inl x :: st) σ = EO j ops (p0 :: p1 :: p2 :: p3 :: p4 :: p5 :: p6 :: p7 :: p8 :: some (.inl y) :: some (.inl x) :: L) st σ := by
  unfold EO; simp only [ev_o, ev_x, ev_nl, ev_get, ev_set, List.length_cons]; rw [if_pos ⟨trivial, by omega⟩]
theorem eo_3_10r : EO j ((3, 10, f, z, w) :: ops) (p0 :: p1 :: p2 :: p3 :: p4 :: p5 :: p6 :: p7 :: p8 :: some (.inr (.inl y)) :: p16 :: L) (.inl x :: st) σ = EO j ops (p0 :: p1 :: p2 :: p3 :: p4 :: p5 :: p6 :: p7 :: p8 :: some (.inr (.inl y)) :: some (.inl x) :: L) st σ := by
  unfold EO; simp only [ev_o, ev_x, ev_nl, ev_get, ev_set, List.length_cons]; rw [if_pos ⟨trivial, by omega⟩]
theorem eo_3_11n : EO j ((3, 11, f, z, w) :: ops) (p0 :: p1 :: p2 :: p3 :: p4 :: p5 :: p6 :: p7 :: p8 :: p9 :: none :: p16 :: L) (.inl x :: st) σ = EO j ops (p0 :: p1 :: p2 :: p3 :: p4 :: p5 :: p6 :: p7 :: p8 :: p9 :: none :: some (.inl x) :: L) st σ := by
  unfold EO; simp only [ev_o, ev_x, ev_nl, ev_get, ev_set, List.length_cons]; rw [if_pos ⟨trivial, by omega⟩]
theorem eo_3_11i : EO j ((3, 11, f, z, w) :: ops) (p0 :: p1 :: p2 :: p3 :: p4 :: p5 :: p6 :: p7 :: p8 :: p9 :: some (.inl y) :: p16 :: L) (.inl x :: st) σ = EO j ops (p0 :: p1 :: p2 :: p3 :: p4 :: p5 :: p6 :: p7 :: p8 :: p9 :: some (.inl y) :: some (.inl x) :: L) st σ := by
  unfold EO; simp only [ev_o, ev_x, ev_nl, ev_get, ev_set, List.length_cons]; rw [if_pos ⟨trivial, by omega⟩]
theorem eo_3_11r : EO j ((3, 11, f, z, w) :: ops) (p0 :: p1 :: p2 :: p3 :: p4 :: p5 :: p6 :: p7 :: p8 :: p9 :: some (.inr (.inl y)) :: p16 :: L) (.inl x :: st) σ = EO j ops (p0 :: p1 :: p2 :: p3 :: p4 :: p5 :: p6 :: p7 :: p8 :: p9 :: some (.inr (.inl y)) :: some (.inl x) :: L) st σ := by
  unfold EO; simp only [ev_o, ev_x, ev_nl, ev_get, ev_set, List.length_cons]; rw [if_pos ⟨trivial, by omega⟩]
theorem eo_3_12n : EO j ((3, 12, f, z, w) :: ops) (p0 :: p1 :: p2 :: p3 :: p4 :: p5 :: p6 :: p7 :: p8 :: p9 :: p10 :: none :: p16 :: L) (.inl x :: st) σ = EO j ops (p0 :: p1 :: p2 :: p3 :: p4 :: p5 :: p6 :: p7 :: p8 :: p9 :: p10 :: none :: some (.inl x) :: L) st σ := by
  unfold EO; simp only [ev_o, ev_x, ev_nl, ev_get, ev_set, List.length_cons]; rw [if_pos ⟨trivial, by omega⟩]
theorem eo_3_12i : EO j ((3, 12, f, z, w) :: ops) (p0 :: p1 :: p2 :: p3 :: p4 :: p5 :: p6 :: p7 :: p8 :: p9 :: p10 :: some (.inl y) :: p16 :: L) (.inl x :: st) σ = EO j ops (p0 :: p1 :: p2 :: p3 :: p4 :: p5 :: p6 :: p7 :: p8 :: p9 :: p10 :: some (.inl y) :: some (.inl x) :: L) st σ := by
  unfold EO; simp only [ev_o, ev_x, ev_nl, ev_get, ev_set, List.length_cons]; rw [if_pos ⟨trivial, by omega⟩]
theorem eo_3_12r : EO j ((3, 12, f, z, w) :: ops) (p0 :: p1 :: p2 :: p3 :: p4 :: p5 :: p6 :: p7 :: p8 :: p9 :: p10 :: some (.inr (.inl y)) :: p16 :: L) (.inl x :: st) σ = EO j ops (p0 :: p1 :: p2 :: p3 :: p4 :: p5 :: p6 :: p7 :: p8 :: p9 :: p10 :: some (.inr (.inl y)) :: some (.inl x) :: L) st σ := by
  unfold EO; simp only [ev_o, ev_x, ev_nl, ev_get, ev_set, List.length_cons]; rw [if_pos ⟨trivial, by omega⟩]
theorem eo_3_13n : EO j ((3, 13, f, z, w) :: ops) (p0 :: p1 :: p2 :: p3 :: p4 :: p5 :: p6 :: p7 :: p8 :: p9 :: p10 :: p11 :: none :: p16 :: L) (.inl x :: st) σ = EO j ops (p0 :: p1 :: p2 :: p3 :: p4 :: p5 :: p6 :: p7 :: p8 :: p9 :: p10 :: p11 :: none :: some (.inl x) :: L) st σ := by
  unfold EO; simp only [ev_o, ev_x, ev_nl, ev_get, ev_set, List.length_cons]; rw [if_pos ⟨trivial, by omega⟩]
theorem eo_3_13i : EO j ((3, 13, f, z, w) :: ops) (p0 :: p1 :: p2 :: p3 :: p4 :: p5 :: p6 :: p7 :: p8 :: p9 :: p10 :: p11 :: some (.inl y) :: p16 :: L) (.inl x :: st) σ = EO j ops (p0 :: p1 :: p2 :: p3 :: p4 :: p5 :: p6 :: p7 :: p8 :: p9 :: p10 :: p11 :: some (.inl y) :: some (.inl x) :: L) st σ := by
  unfold EO; simp only [ev_o, ev_x, ev_nl, ev_get, ev_set, List.length_cons]; rw [if_pos ⟨trivial, by omega⟩]
theorem eo_3_13r : EO j ((3, 13, f, z, w) :: ops) (p0 :: p1 :: p2 :: p3 :: p4 :: p5 :: p6 :: p7 :: p8 :: p9 :: p10 :: p11 :: some (.inr (.inl y)) :: p16 :: L) (.inl x :: st) σ = EO j ops (p0 :: p1 :: p2 :: p3 :: p4 :: p5 :: p6 :: p7 :: p8 :: p9 :: p10 :: p11 :: some (.inr (.inl y)) :: some (.inl x) :: L) st σ := by
  unfold EO; simp only [ev_o, ev_x, ev_nl, ev_get, ev_set, List.length_cons]; rw [if_pos ⟨trivial, by omega⟩]
theorem eo_3_14n : EO j ((3, 14, f, z, w) :: ops) (p0 :: p1 :: p2 :: p3 :: p4 :: p5 :: p6 :: p7 :: p8 :: p9 :: p10 :: p11 :: p12 :: none :: p16 :: L) (.inl x :: st) σ = EO j ops (p0 :: p1 :: p2 :: p3 :: p4 :: p5 :: p6 :: p7 :: p8 :: p9 :: p10 :: p11 :: p12 :: none :: some (.inl x) :: L) st σ := by
  unfold EO; simp only [ev_o, ev_x, ev_nl, ev_get, ev_set, List.length_cons]; rw [if_pos ⟨trivial, by omega⟩]
theorem eo_3_14i : EO j ((3, 14, f, z, w) :: ops) (p0 :: p1 :: p2 :: p3 :: p4 :: p5 :: p6 :: p7 :: p8 :: p9 :: p10 :: p11 :: p12 :: some (.inl y) :: p16 :: L) (.inl x :: st) σ = EO j ops (p0 :: p1 :: p2 :: p3 :: p4 :: p5 :: p6 :: p7 :: p8 :: p9 :: p10 :: p11 :: p12 :: some (.inl y) :: some (.inl x) :: L) st σ := by
  unfold EO; simp only [ev_o, ev_x, ev_nl, ev_get, ev_set, List.length_cons]; rw [if_pos ⟨trivial, by omega⟩]
theorem eo_3_14r : EO j ((3, 14, f, z, w) :: ops) (p0 :: p1 :: p2 :: p3 :: p4 :: p5 :: p6 :: p7 :: p8 :: p9 :: p10 :: p11 :: p12 :: some (.inr (.inl y)) :: p16 :: L) (.inl x :: st) σ = EO j ops (p0 :: p1 :: p2 :: p3 :: p4 :: p5 :: p6 :: p7 :: p8 :: p9 :: p10 :: p11 :: p12 :: some (.inr (.inl y)) :: some (.inl x) :: L) st σ := by
  unfold EO; simp only [ev_o, ev_x, ev_nl, ev_get, ev_set, List.length_cons]; rw [if_pos ⟨trivial, by omega⟩]
theorem eo_3_15n : EO j ((3, 15, f, z, w) :: ops) (p0 :: p1 :: p2 :: p3 :: p4 :: p5 :: p6 :: p7 :: p8 :: p9 :: p10 :: p11 :: p12 :: p13 :: none :: p16 :: L) (.inl x :: st) σ = EO j ops (p0 :: p1 :: p2 :: p3 :: p4 :: p5 :: p6 :: p7 :: p8 :: p9 :: p10 :: p11 :: p12 :: p13 :: none :: some (.inl x) :: L) st σ := by
  unfold EO; simp only [ev_o, ev_x, ev_nl, ev_get, ev_set, List.length_cons]; rw [if_pos ⟨trivial, by omega⟩]
theorem eo_3_15i : EO j ((3, 15, f, z, w) :: ops) (p0 :: p1 :: p2 :: p3 :: p4 :: p5 :: p6 :: p7 :: p8 :: p9 :: p10 :: p11 :: p12 :: p13 :: some (.inl y) :: p16 :: L) (.inl x :: st) σ = EO j ops (p0 :: p1 :: p2 :: p3 :: p4 :: p5 :: p6 :: p7 :: p8 :: p9 :: p10 :: p11 :: p12 :: p13 :: some (.inl y) :: some (.inl x) :: L) st σ := by
  unfold EO; simp only [ev_o, ev_x, ev_nl, ev_get, ev_set, List.length_cons]; rw [if_pos ⟨trivial, by omega⟩]
theorem eo_3_15r : EO j ((3, 15, f, z, w) :: ops) (p0 :: p1 :: p2 :: p3 :: p4 :: p5 :: p6 :: p7 :: p8 :: p9 :: p10 :: p11 :: p12 :: p13 :: some (.inr (.inl y)) :: p16 :: L) (.inl x :: st) σ = EO j ops (p0 :: p1 :: p2 :: p3 :: p4 :: p5 :: p6 :: p7 :: p8 :: p9 :: p10 :: p11 :: p12 :: p13 :: some (.inr (.inl y)) :: some (.inl x) :: L) st σ := by
  unfold EO; simp only [ev_o, ev_x, ev_nl, ev_get, ev_set, List.length_cons]; rw [if_pos ⟨trivial, by omega⟩]
theorem eo_3_16n : EO j ((3, 16, f, z, w) :: ops) (p0 :: p1 :: p2 :: p3 :: p4 :: p5 :: p6 :: p7 :: p8 :: p9 :: p10 :: p11 :: p12 :: p13 :: p14 :: none :: p16 :: L) (.inl x :: st) σ = EO j ops (p0 :: p1 :: p2 :: p3 :: p4 :: p5 :: p6 :: p7 :: p8 :: p9 :: p10 :: p11 :: p12 :: p13 :: p14 :: none :: some (.inl x) :: L) st σ := by
  unfold EO; simp only [ev_o, ev_x, ev_nl, ev_get, ev_set, List.length_cons]; rw [if_pos ⟨trivial, by omega⟩]
theorem eo_3_16i : EO j ((3, 16, f, z, w) :: ops) (p0 :: p1 :: p2 :: p3 :: p4 :: p5 :: p6 :: p7 :: p8 :: p9 :: p10 :: p11 :: p12 :: p13 :: p14 :: some (.inl y) :: p16 :: L) (.inl x :: st) σ = EO j ops (p0 :: p1 :: p2 :: p3 :: p4 :: p5 :: p6 :: p7 :: p8 :: p9 :: p10 :: p11 :: p12 :: p13 :: p14 :: some (.inl y) :: some (.inl x) :: L) st σ := by
  unfold EO; simp only [ev_o, ev_x, ev_nl, ev_get, ev_set, List.length_cons]; rw [if_pos ⟨trivial, by omega⟩]
theorem eo_3_16r : EO j ((3, 16, f, z, w) :: ops) (p0 :: p1 :: p2 :: p3 :: p4 :: p5 :: p6 :: p7 :: p8 :: p9 :: p10 :: p11 :: p12 :: p13 :: p14 :: some (.inr (.inl y)) :: p16 :: L) (.inl x :: st) σ = EO j ops (p0 :: p1 :: p2 :: p3 :: p4 :: p5 :: p6 :: p7 :: p8 :: p9 :: p10 :: p11 :: p12 :: p13 :: p14 :: some (.inr (.inl y)) :: some (.inl x) :: L) st σ := by
  unfold EO; simp only [ev_o, ev_x, ev_nl, ev_get, ev_set, List.length_cons]; rw [if_pos ⟨trivial, by omega⟩]
theorem eo_4_0 : EO j ((4, 0, f, z, w) :: ops) (p16 :: L) (.inr (.inl x) :: st) σ = EO j ops (some (.inr (.inl x)) :: L) st σ := by
  rfl
theorem eo_4_1n : EO j ((4, 1, f, z, w) :: ops) (none :: p16 :: L) (.inr (.inl x) :: st) σ = EO j ops (none :: some (.inr (.inl x)) :: L) st σ := by
  unfold EO; simp only [ev_o, ev_x, ev_nl, ev_get, ev_set, List.length_cons]; rw [if_pos ⟨trivial, by omega⟩]
theorem eo_4_1i : EO j ((4, 1, f, z, w) :: ops) (some (.inl y) :: p16 :: L) (.inr (.inl x) :: st) σ = EO j ops (some (.inl y) :: some (.inr (.inl x)) :: L) st σ := by
  unfold EO; simp only [ev_o, ev_x, ev_nl, ev_get, ev_set, List.length_cons]; rw [if_pos ⟨trivial, by omega⟩]
theorem eo_4_1r : EO j ((4, 1, f, z, w) :: ops) (some (.inr (.inl y)) :: p16 :: L) (.inr (.inl x) :: st) σ = EO j ops (some (.inr (.inl y)) :: some (.inr (.inl x)) :: L) st σ := by
  unfold EO; simp only [ev_o, ev_x, ev_nl, ev_get, ev_set, List.length_cons]; rw [if_pos ⟨trivial, by omega⟩]
theorem eo_4_2n : EO j ((4, 2, f, z, w) :: ops) (p0 :: none :: p16 :: L) (.inr (.inl x) :: st) σ = EO j ops (p0 :: none :: some (.inr (.inl x)) :: L) st σ := by
  unfold EO; simp only [ev_o, ev_x, ev_nl, ev_get, ev_set, List.length_cons]; rw [if_pos ⟨trivial, by omega⟩]
theorem eo_4_2i : EO j ((4, 2, f, z, w) :: ops) (p0 :: some (.inl y) :: p16 :: L) (.inr (.inl x) :: st) σ = EO j ops (p0 :: some (.inl y) :: some (.inr (.inl x)) :: L) st σ := by
  unfold EO; simp only [ev_o, ev_x, ev_nl, ev_get, ev_set, List.length_cons]; rw [if_pos ⟨trivial, by omega⟩]
theorem eo_4_2r : EO j ((4, 2, f, z, w) :: ops) (p0 :: some (.inr (.inl y)) :: p16 :: L) (.inr (.inl x) :: st) σ = EO j ops (p0 :: some (.inr (.inl y)) :: some (.inr (.inl x)) :: L) st σ := by
  unfold EO; simp only [ev_o, ev_x, ev_nl, ev_get, ev_set, List.length_cons]; rw [if_pos ⟨trivial, by omega⟩]
theorem eo_4_3n : EO j ((4, 3, f, z, w) :: ops) (p0 :: p1 :: none :: p16 :: L) (.inr (.inl x) :: st) σ = EO j ops (p0 :: p1 :: none :: some (.inr (.inl x)) :: L) st σ := by
  unfold EO; simp only [ev_o, ev_x, ev_nl, ev_get, ev_set, List.length_cons]; rw [if_pos ⟨trivial, by omega⟩]
theorem eo_4_3i : EO j ((4, 3, f, z, w) :: ops) (p0 :: p1 :: some (.inl y) :: p16 :: L) (.inr (.inl x) :: st) σ = EO j ops (p0 :: p1 :: some (.inl y) :: some (.inr (.inl x)) :: L) st σ := by
  unfold EO; simp only [ev_o, ev_x, ev_nl, ev_get, ev_set, List.length_cons]; rw [if_pos ⟨trivial, by omega⟩]
theorem eo_4_3r : EO j ((4, 3, f, z, w) :: ops) (p0 :: p1 :: some (.inr (.inl y)) :: p16 :: L) (.inr (.inl x) :: st) σ = EO j ops (p0 :: p1 :: some (.inr (.inl y)) :: some (.inr (.inl x)) :: L) st σ := by
  unfold EO; simp only [ev_o, ev_x, ev_nl, ev_get, ev_set, List.length_cons]; rw [if_pos ⟨trivial, by omega⟩]
theorem eo_4_4n : EO j ((4, 4, f, z, w) :: ops) (p0 :: p1 :: p2 :: none :: p16 :: L) (.inr (.inl x) :: st) σ = EO j ops (p0 :: p1 :: p2 :: none :: some (.inr (.inl x)) :: L) st σ := by
  unfold EO; simp only [ev_o, ev_x, ev_nl, ev_get, ev_set, List.length_cons]; rw [if_pos ⟨trivial, by omega⟩]
theorem eo_4_4i : EO j ((4, 4, f, z, w) :: ops) (p0 :: p1 :: p2 :: some (.inl y) :: p16 :: L) (.inr (.inl x) :: st) σ = EO j ops (p0 :: p1 :: p2 :: some (.inl y) :: some (.inr (.inl x)) :: L) st σ := by
  unfold EO; simp only [ev_o, ev_x, ev_nl, ev_get, ev_set, List.length_cons]; rw [if_pos ⟨trivial, by omega⟩]
theorem eo_4_4r : EO j ((4, 4, f, z, w) :: ops) (p0 :: p1 :: p2 :: some (.inr (.inl y)) :: p16 :: L) (.inr (.inl x) :: st) σ = EO j ops (p0 :: p1 :: p2 :: some (.inr (.inl y)) :: some (.inr (.inl x)) :: L) st σ := by
  unfold EO; simp only [ev_o, ev_x, ev_nl, ev_get, ev_set, List.length_cons]; rw [if_pos ⟨trivial, by omega⟩]
theorem eo_4_5n : EO j ((4, 5, f, z, w) :: ops) (p0 :: p1 :: p2 :: p3 :: none :: p16 :: L) (.inr (.inl x) :: st) σ = EO j ops (p0 :: p1 :: p2 :: p3 :: none :: some (.inr (.inl x)) :: L) st σ := by
  unfold EO; simp only [ev_o, ev_x, ev_nl, ev_get, ev_set, List.length_cons]; rw [if_pos ⟨trivial, by omega⟩]
theorem eo_4_5i : EO j ((4, 5, f, z, w) :: ops) (p0 :: p1 :: p2 :: p3 :: some (.inl y) :: p16 :: L) (.inr (.inl x) :: st) σ = EO j ops (p0 :: p1 :: p2 :: p3 :: some (.inl y) :: some (.inr (.inl x)) :: L) st σ := by
  unfold EO; simp only [ev_o, ev_x, ev_nl, ev_get, ev_set, List.length_cons]; rw [if_pos ⟨trivial, by omega⟩]
theorem eo_4_5r : EO j ((4, 5, f, z, w) :: ops) (p0 :: p1 :: p2 :: p3 :: some (.inr (.inl y)) :: p16 :: L) (.inr (.inl x) :: st) σ = EO j ops (p0 :: p1 :: p2 :: p3 :: some (.inr (.inl y)) :: some (.inr (.inl x)) :: L) st σ := by
  unfold EO; simp only [ev_o, ev_x, ev_nl, ev_get, ev_set, List.length_cons]; rw [if_pos ⟨trivial, by omega⟩]
theorem eo_4_6n : EO j ((4, 6, f, z, w) :: ops) (p0 :: p1 :: p2 :: p3 :: p4 :: none :: p16 :: L) (.inr (.inl x) :: st) σ = EO j ops (p0 :: p1 :: p2 :: p3 :: p4 :: none :: some (.inr (.inl x)) :: L) st σ := by
  unfold EO; simp only [ev_o, ev_x, ev_nl, ev_get, ev_set, List.length_cons]; rw [if_pos ⟨trivial, by omega⟩]
theorem eo_4_6i : EO j ((4, 6, f, z, w) :: ops) (p0 :: p1 :: p2 :: p3 :: p4 :: some (.inl y) :: p16 :: L) (.inr (.inl x) :: st) σ = EO j ops (p0 :: p1 :: p2 :: p3 :: p4 :: some (.inl y) :: some (.inr (.inl x)) :: L) st σ := by
  unfold EO; simp only [ev_o, ev_x, ev_nl, ev_get, ev_set, List.length_cons]; rw [if_pos ⟨trivial, by omega⟩]
theorem eo_4_6r : EO j ((4, 6, f, z, w) :: ops) (p0 :: p1 :: p2 :: p3 :: p4 :: some (.inr (.inl y)) :: p16 :: L) (.inr (.inl x) :: st) σ = EO j ops (p0 :: p1 :: p2 :: p3 :: p4 :: some (.inr (.inl y)) :: some (.inr (.inl x)) :: L) st σ := by
  unfold EO; simp only [ev_o, ev_x, ev_nl, ev_get, ev_set, List.length_cons]; rw [if_pos ⟨trivial, by omega⟩]
theorem eo_4_7n : EO j ((4, 7, f, z, w) :: ops) (p0 :: p1 :: p2 :: p3 :: p4 :: p5 :: none :: p16 :: L) (.inr (.inl x) :: st) σ = EO j ops (p0 :: p1 :: p2 :: p3 :: p4 :: p5 :: none :: some (.inr (.inl x)) :: L) st σ := by
  unfold EO; simp only [ev_o, ev_x, ev_nl, ev_get, ev_set, List.length_cons]; rw [if_pos ⟨trivial, by omega⟩]
theorem eo_4_7i : EO j ((4, 7, f, z, w) :: ops) (p0 :: p1 :: p2 :: p3 :: p4 :: p5 :: some (.inl y) :: p16 :: L) (.inr (.inl x) :: st) σ = EO j ops (p0 :: p1 :: p2 :: p3 :: p4 :: p5 :: some (.inl y) :: some (.inr (.inl x)) :: L) st σ := by
  unfold EO; simp only [ev_o, ev_x, ev_nl, ev_get, ev_set, List.length_cons]; rw [if_pos ⟨trivial, by omega⟩]
theorem eo_4_7r : EO j ((4, 7, f, z, w) :: ops) (p0 :: p1 :: p2 :: p3 :: p4 :: p5 :: some (.inr (.inl y)) :: p16 :: L) (.inr (.inl x) :: st) σ = EO j ops (p0 :: p1 :: p2 :: p3 :: p4 :: p5 :: some (.inr (.inl y)) :: some (.inr (.inl x)) :: L) st σ := by
  unfold EO; simp only [ev_o, ev_x, ev_nl, ev_get, ev_set, List.length_cons]; rw [if_pos ⟨trivial, by omega⟩]
theorem eo_4_8n : EO j ((4, 8, f, z, w) :: ops) (p0 :: p1 :: p2 :: p3 :: p4 :: p5 :: p6 :: none :: p16 :: L) (.inr (.inl x) :: st) σ = EO j ops (p0 :: p1 :: p2 :: p3 :: p4 :: p5 :: p6 :: none :: some (.inr (.inl x)) :: L) st σ := by
  unfold EO; simp only [ev_o, ev_x, ev_nl, ev_get, ev_set, List.length_cons]; rw [if_pos ⟨trivial, by omega⟩]
theorem eo_4_8i : EO j ((4, 8, f, z, w) :: ops) (p0 :: p1 :: p2 :: p3 :: p4 :: p5 :: p6 :: some (.inl y) :: p16 :: L) (.inr (.inl x) :: st) σ = EO j ops (p0 :: p1 :: p2 :: p3 :: p4 :: p5 :: p6 :: some (.inl y) :: some (.inr (.inl x)) :: L) st σ := by
  unfold EO; simp only [ev_o, ev_x, ev_nl, ev_get, ev_set, List.length_cons]; rw [if_pos ⟨trivial, by omega⟩]
theorem eo_4_8r : EO j ((4, 8, f, z, w) :: ops) (p0 :: p1 :: p2 :: p3 :: p4 :: p5 :: p6 :: some (.inr (.inl y)) :: p16 :: L) (.inr (.inl x) :: st) σ = EO j ops (p0 :: p1 :: p2 :: p3 :: p4 :: p5 :: p6 :: some (.inr (.inl y)) :: some (.inr (.inl x)) :: L) st σ := by
  unfold EO; simp only [ev_o, ev_x, ev_nl, ev_get, ev_set, List.length_cons]; rw [if_pos ⟨trivial, by omega⟩]
theorem eo_4_9n : EO j ((4, 9, f, z, w) :: ops) (p0 :: p1 :: p2 :: p3 :: p4 :: p5 :: p6 :: p7 :: none :: p16 :: L) (.inr (.inl x) :: st) σ = EO j ops (p0 :: p1 :: p2 :: p3 :: p4 :: p5 :: p6 :: p7 :: none :: some (.inr (.inl x)) :: L) st σ := by
  unfold EO; simp only [ev_o, ev_x, ev_nl, ev_get, ev_set, List.length_cons]; rw [if_pos ⟨trivial, by omega⟩]
theorem eo_4_9i : EO j ((4, 9, f, z, w) :: ops) (p0 :: p1 :: p2 :: p3 :: p4 :: p5 :: p6 :: p7 :: some (.inl y) :: p16 :: L) (.inr (.inl x) :: st) σ = EO j ops (p0 :: p1 :: p2 :: p3 :: p4 :: p5 :: p6 :: p7 :: some (.inl y) :: some (.inr (.inl x)) :: L) st σ := by
  unfold EO; simp only [ev_o, ev_x, ev_nl, ev_get, ev_set, List.length_cons]; rw [if_pos ⟨trivial, by omega⟩]
theorem eo_4_9r : EO j ((4, 9, f, z, w) :: ops) (p0 :: p1 :: p2 :: p3 :: p4 :: p5 :: p6 :: p7 :: some (.inr (.inl y)) :: p16 :: L) (.inr (.inl x) :: st) σ = EO j ops (p0 :: p1 :: p2 :: p3 :: p4 :: p5 :: p6 :: p7 :: some (.inr (.inl y)) :: some (.inr (.inl x)) :: L) st σ := by
  unfold EO; simp only [ev_o, ev_x, ev_nl, ev_get, ev_set, List.length_cons]; rw [if_pos ⟨trivial, by omega⟩]
theorem eo_4_10n : EO j ((4, 10, f, z, w) :: ops) (p0 :: p1 :: p2 :: p3 :: p4 :: p5 :: p6 :: p7 :: p8 :: none :: p16 :: L) (.inr (.inl x) :: st) σ = EO j ops (p0 :: p1 :: p2 :: p3 :: p4 :: p5 :: p6 :: p7 :: p8 :: none :: some (.inr (.inl x)) :: L) st σ := by
  unfold EO; simp only [ev_o, ev_x, ev_nl, ev_get, ev_set, List.length_cons]; rw [if_pos ⟨trivial, by omega⟩]
theorem eo_4_10i : EO j ((4, 10, f, z, w) :: ops) (p0 :: p1 :: p2 :: p3 :: p4 :: p5 :: p6 :: p7 :: p8 :: some (.inl y) :: p16 :: L) (.inr (.inl x) :: st) σ = EO j ops (p0 :: p1 :: p2 :: p3 :: p4 :: p5 :: p6 :: p7 :: p8 :: some (.inl y) :: some (.inr (.inl x)) :: L) st σ := by
  unfold EO; simp only [ev_o, ev_x, ev_nl, ev_get, ev_set, List.length_cons]; rw [if_pos ⟨trivial, by omega⟩]
theorem eo_4_10r : EO j ((4, 10, f, z, w) :: ops) (p0 :: p1 :: p2 :: p3 :: p4 :: p5 :: p6 :: p7 :: p8 :: some (.inr (.inl y)) :: p16 :: L) (.inr (.inl x) :: st) σ = EO j ops (p0 :: p1 :: p2 :: p3 :: p4 :: p5 :: p6 :: p7 :: p8 :: some (.inr (.inl y)) :: some (.inr (.inl x)) :: L) st σ := by
  unfold EO; simp only [ev_o, ev_x, ev_nl, ev_get, ev_set, List.length_cons]; rw [if_pos ⟨trivial, by omega⟩]
theorem eo_4_11n : EO j ((4, 11, f, z, w) :: ops) (p0 :: p1 :: p2 :: p3 :: p4 :: p5 :: p6 :: p7 :: p8 :: p9 :: none :: p16 :: L) (.inr (.inl x) :: st) σ = EO j ops (p0 :: p1 :: p2 :: p3 :: p4 :: p5 :: p6 :: p7 :: p8 :: p9 :: none :: some (.inr (.inl x)) :: L) st σ := by
  unfold EO; simp only [ev_o, ev_x, ev_nl, ev_get, ev_set, List.length_cons]; rw [if_pos ⟨trivial, by omega⟩]
theorem eo_4_11i : EO j ((4, 11, f, z, w) :: ops) (p0 :: p1 :: p2 :: p3 :: p4 :: p5 :: p6 :: p7 :: p8 :: p9 :: some (.inl y) :: p16 :: L) (.inr (.inl x) :: st) σ = EO j ops (p0 :: p1 :: p2 :: p3 :: p4 :: p5 :: p6 :: p7 :: p8 :: p9 :: some (.inl y) :: some (.inr (.inl x)) :: L) st σ := by
  unfold EO; simp only [ev_o, ev_x, ev_nl, ev_get, ev_set, List.length_cons]; rw [if_pos ⟨trivial, by omega⟩]
theorem eo_4_11r : EO j ((4, 11, f, z, w) :: ops) (p0 :: p1 :: p2 :: p3 :: p4 :: p5 :: p6 :: p7 :: p8 :: p9 :: some (.inr (.inl y)) :: p16 :: L) (.inr (.inl x) :: st) σ = EO j ops (p0 :: p1 :: p2 :: p3 :: p4 :: p5 :: p6 :: p7 :: p8 :: p9 :: some (.inr (.inl y)) :: some (.inr (.inl x)) :: L) st σ := by
  unfold EO; simp only [ev_o, ev_x, ev_nl, ev_get, ev_set, List.length_cons]; rw [if_pos ⟨trivial, by omega⟩]
theorem eo_4_12n : EO j ((4, 12, f, z, w) :: ops) (p0 :: p1 :: p2 :: p3 :: p4 :: p5 :: p6 :: p7 :: p8 :: p9 :: p10 :: none :: p16 :: L) (.inr (.inl x) :: st) σ = EO j ops (p0 :: p1 :: p2 :: p3 :: p4 :: p5 :: p6 :: p7 :: p8 :: p9 :: p10 :: none :: some (.inr (.inl x)) :: L) st σ := by
  unfold EO; simp only [ev_o, ev_x, ev_nl, ev_get, ev_set, List.length_cons]; rw [if_pos ⟨trivial, by omega⟩]
theorem eo_4_12i : EO j ((4, 12, f, z, w) :: ops) (p0 :: p1 :: p2 :: p3 :: p4 :: p5 :: p6 :: p7 :: p8 :: p9 :: p10 :: some (.inl y) :: p16 :: L) (.inr (.inl x) :: st) σ = EO j ops (p0 :: p1 :: p2 :: p3 :: p4 :: p5 :: p6 :: p7 :: p8 :: p9 :: p10 :: some (.inl y) :: some (.inr (.inl x)) :: L) st σ := by
  unfold EO; simp only [ev_o, ev_x, ev_nl, ev_get, ev_set, List.length_cons]; rw [if_pos ⟨trivial, by omega⟩]
theorem eo_4_12r : EO j ((4, 12, f, z, w) :: ops) (p0 :: p1 :: p2 :: p3 :: p4 :: p5 :: p6 :: p7 :: p8 :: p9 :: p10 :: some (.inr (.inl y)) :: p16 :: L) (.inr (.inl x) :: st) σ = EO j ops (p0 :: p1 :: p2 :: p3 :: p4 :: p5 :: p6 :: p7 :: p8 :: p9 :: p10 :: some (.inr (.inl y)) :: some (.inr (.inl x)) :: L) st σ := by
  unfold EO; simp only [ev_o, ev_x, ev_nl, ev_get, ev_set, List.length_cons]; rw [if_pos ⟨trivial, by omega⟩]
theorem eo_4_13n : EO j ((4, 13, f, z, w) :: ops) (p0 :: p1 :: p2 :: p3 :: p4 :: p5 :: p6 :: p7 :: p8 :: p9 :: p10 :: p11 :: none :: p16 :: L) (.inr (.inl x) :: st) σ = EO j ops (p0 :: p1 :: p2 :: p3 :: p4 :: p5 :: p6 :: p7 :: p8 :: p9 :: p10 :: p11 :: none :: some (.inr (.inl x)) :: L) st σ := by
  unfold EO; simp only [ev_o, ev_x, ev_nl, ev_get, ev_set, List.length_cons]; rw [if_pos ⟨trivial, by omega⟩]
theorem eo_4_13i : EO j ((4, 13, f, z, w) :: ops) (p0 :: p1 :: p2 :: p3 :: p4 :: p5 :: p6 :: p7 :: p8 :: p9 :: p10 :: p11 :: some (.inl y) :: p16 :: L) (.inr (.inl x) :: st) σ = EO j ops (p0 :: p1 :: p2 :: p3 :: p4 :: p5 :: p6 :: p7 :: p8 :: p9 :: p10 :: p11 :: some (.inl y) :: some (.inr (.inl x)) :: L) st σ := by
  unfold EO; simp only [ev_o, ev_x, ev_nl, ev_get, ev_set, List.length_cons]; rw [if_pos ⟨trivial, by omega⟩]
theorem eo_4_13r : EO j ((4, 13, f, z, w) :: ops) (p0 :: p1 :: p2 :: p3 :: p4 :: p5 :: p6 :: p7 :: p8 :: p9 :: p10 :: p11 :: some (.inr (.inl y)) :: p16 :: L) (.inr (.inl x) :: st) σ = EO j ops (p0 :: p1 :: p2 :: p3 :: p4 :: p5 :: p6 :: p7 :: p8 :: p9 :: p10 :: p11 :: some (.inr (.inl y)) :: some (.inr (.inl x)) :: L) st σ := by
  unfold EO; simp only [ev_o, ev_x, ev_nl, ev_get, ev_set, List.length_cons]; rw [if_pos ⟨trivial, by omega⟩]
theorem eo_4_14n : EO j ((4, 14, f, z, w) :: ops) (p0 :: p1 :: p2 :: p3 :: p4 :: p5 :: p6 :: p7 :: p8 :: p9 :: p10 :: p11 :: p12 :: none :: p16 :: L) (.inr (.inl x) :: st) σ = EO j ops (p0 :: p1 :: p2 :: p3 :: p4 :: p5 :: p6 :: p7 :: p8 :: p9 :: p10 :: p11 :: p12 :: none :: some (.inr (.inl x)) :: L) st σ := by
  unfold EO; simp only [ev_o, ev_x, ev_nl, ev_get, ev_set, List.length_cons]; rw [if_pos ⟨trivial, by omega⟩]
theorem eo_4_14i : EO j ((4, 14, f, z, w) :: ops) (p0 :: p1 :: p2 :: p3 :: p4 :: p5 :: p6 :: p7 :: p8 :: p9 :: p10 :: p11 :: p12 :: some (.inl y) :: p16 :: L) (.inr (.inl x) :: st) σ = EO j ops (p0 :: p1 :: p2 :: p3 :: p4 :: p5 :: p6 :: p7 :: p8 :: p9 :: p10 :: p11 :: p12 :: some (.inl y) :: some (.inr (.inl x)) :: L) st σ := by
  unfold EO; simp only [ev_o, ev_x, ev_nl, ev_get, ev_set, List.length_cons]; rw [if_pos ⟨trivial, by omega⟩]
theorem eo_4_14r : EO j ((4, 14, f, z, w) :: ops) (p0 :: p1 :: p2 :: p3 :: p4 :: p5 :: p6 :: p7 :: p8 :: p9 :: p10 :: p11 :: p12 :: some (.inr (.inl y)) :: p16 :: L) (.inr (.inl x) :: st) σ = EO j ops (p0 :: p1 :: p2 :: p3 :: p4 :: p5 :: p6 :: p7 :: p8 :: p9 :: p10 :: p11 :: p12 :: some (.inr (.inl y)) :: some (.inr (.inl x)) :: L) st σ := by
  unfold EO; simp only [ev_o, ev_x, ev_nl, ev_get, ev_set, List.length_cons]; rw [if_pos ⟨trivial, by omega⟩]
theorem eo_4_15n : EO j ((4, 15, f, z, w) :: ops) (p0 :: p1 :: p2 :: p3 :: p4 :: p5 :: p6 :: p7 :: p8 :: p9 :: p10 :: p11 :: p12 :: p13 :: none :: p16 :: L) (.inr (.inl x) :: st) σ = EO j ops (p0 :: p1 :: p2 :: p3 :: p4 :: p5 :: p6 :: p7 :: p8 :: p9 :: p10 :: p11 :: p12 :: p13 :: none :: some (.inr (.inl x)) :: L) st σ := by
  unfold EO; simp only [ev_o, ev_x, ev_nl, ev_get, ev_set, List.length_cons]; rw [if_pos ⟨trivial, by omega⟩]
theorem eo_4_15i : EO j ((4, 15, f, z, w) :: ops) (p0 :: p1 :: p2 :: p3 :: p4 :: p5 :: p6 :: p7 :: p8 :: p9 :: p10 :: p11 :: p12 :: p13 :: some (.inl y) :: p16 :: L) (.inr (.inl x) :: st) σ = EO j ops (p0 :: p1 :: p2 :: p3 :: p4 :: p5 :: p6 :: p7 :: p8 :: p9 :: p10 :: p11 :: p12 :: p13 :: some (.inl y) :: some (.inr (.inl x)) :: L) st σ := by
  unfold EO; simp only [ev_o, ev_x, ev_nl, ev_get, ev_set, List.length_cons]; rw [if_pos ⟨trivial, by omega⟩]
theorem eo_4_15r : EO j ((4, 15, f, z, w) :: ops) (p0 :: p1 :: p2 :: p3 :: p4 :: p5 :: p6 :: p7 :: p8 :: p9 :: p10 :: p11 :: p12 :: p13 :: some (.inr (.inl y)) :: p16 :: L) (.inr (.inl x) :: st) σ = EO j ops (p0 :: p1 :: p2 :: p3 :: p4 :: p5 :: p6 :: p7 :: p8 :: p9 :: p10 :: p11 :: p12 :: p13 :: some (.inr (.inl y)) :: some (.inr (.inl x)) :: L) st σ := by
  unfold EO; simp only [ev_o, ev_x, ev_nl, ev_get, ev_set, List.length_cons]; rw [if_pos ⟨trivial, by omega⟩]
theorem eo_4_16n : EO j ((4, 16, f, z, w) :: ops) (p0 :: p1 :: p2 :: p3 :: p4 :: p5 :: p6 :: p7 :: p8 :: p9 :: p10 :: p11 :: p12 :: p13 :: p14 :: none :: p16 :: L) (.inr (.inl x) :: st) σ = EO j ops (p0 :: p1 :: p2 :: p3 :: p4 :: p5 :: p6 :: p7 :: p8 :: p9 :: p10 :: p11 :: p12 :: p13 :: p14 :: none :: some (.inr (.inl x)) :: L) st σ := by
  unfold EO; simp only [ev_o, ev_x, ev_nl, ev_get, ev_set, List.length_cons]; rw [if_pos ⟨trivial, by omega⟩]
theorem eo_4_16i : EO j ((4, 16, f, z, w) :: ops) (p0 :: p1 :: p2 :: p3 :: p4 :: p5 :: p6 :: p7 :: p8 :: p9 :: p10 :: p11 :: p12 :: p13 :: p14 :: some (.inl y) :: p16 :: L) (.inr (.inl x) :: st) σ = EO j ops (p0 :: p1 :: p2 :: p3 :: p4 :: p5 :: p6 :: p7 :: p8 :: p9 :: p10 :: p11 :: p12 :: p13 :: p14 :: some (.inl y) :: some (.inr (.inl x)) :: L) st σ := by
  unfold EO; simp only [ev_o, ev_x, ev_nl, ev_get, ev_set, List.length_cons]; rw [if_pos ⟨trivial, by omega⟩]
theorem eo_4_16r : EO j ((4, 16, f, z, w) :: ops) (p0 :: p1 :: p2 :: p3 :: p4 :: p5 :: p6 :: p7 :: p8 :: p9 :: p10 :: p11 :: p12 :: p13 :: p14 :: some (.inr (.inl y)) :: p16 :: L) (.inr (.inl x) :: st) σ = EO j ops (p0 :: p1 :: p2 :: p3 :: p4 :: p5 :: p6 :: p7 :: p8 :: p9 :: p10 :: p11 :: p12 :: p13 :: p14 :: some (.inr (.inl y)) :: some (.inr (.inl x)) :: L) st σ := by
  unfold EO; simp only [ev_o, ev_x, ev_nl, ev_get, ev_set, List.length_cons]; rw [if_pos ⟨trivial, by omega⟩]
theorem eo_23_1n : EO j ((23, 1, f, z, w) :: ops) (none :: some (.inl x) :: L) st σ = EO j ops (none :: some (.inl (x + z)) :: L) st σ := by
  unfold EO; simp only [ev_o, ev_x, ev_nl, ev_get, ev_set, List.length_cons]; rw [if_pos ⟨trivial, by omega⟩]
theorem eo_23_1i : EO j ((23, 1, f, z, w) :: ops) (some (.inl y) :: some (.inl x) :: L) st σ = EO j ops (some (.inl y) :: some (.inl (x + z)) :: L) st σ := by
  unfold EO; simp only [ev_o, ev_x, ev_nl, ev_get, ev_set, List.length_cons]; rw [if_pos ⟨trivial, by omega⟩]
theorem eo_23_1r : EO j ((23, 1, f, z, w) :: ops) (some (.inr (.inl y)) :: some (.inl x) :: L) st σ = EO j ops (some (.inr (.inl y)) :: some (.inl (x + z)) :: L) st σ := by
  unfold EO; simp only [ev_o, ev_x, ev_nl, ev_get, ev_set, List.length_cons]; rw [if_pos ⟨trivial, by omega⟩]
theorem eo_23_2n : EO j ((23, 2, f, z, w) :: ops) (p0 :: none :: some (.inl x) :: L) st σ = EO j ops (p0 :: none :: some (.inl (x + z)) :: L) st σ := by
  unfold EO; simp only [ev_o, ev_x, ev_nl, ev_get, ev_set, List.length_cons]; rw [if_pos ⟨trivial, by omega⟩]
theorem eo_23_2i : EO j ((23, 2, f, z, w) :: ops) (p0 :: some (.inl y) :: some (.inl x) :: L) st σ = EO j ops (p0 :: some (.inl y) :: some (.inl (x + z)) :: L) st σ := by
  unfold EO; simp only [ev_o, ev_x, ev_nl, ev_get, ev_set, List.length_cons]; rw [if_pos ⟨trivial, by omega⟩]
theorem eo_23_2r : EO j ((23, 2, f, z, w) :: ops) (p0 :: some (.inr (.inl y)) :: some (.inl x) :: L) st σ = EO j ops (p0 :: some (.inr (.inl y)) :: some (.inl (x + z)) :: L) st σ := by
  unfold EO; simp only [ev_o, ev_x, ev_nl, ev_get, ev_set, List.length_cons]; rw [if_pos ⟨trivial, by omega⟩]
theorem eo_23_3n : EO j ((23, 3, f, z, w) :: ops) (p0 :: p1 :: none :: some (.inl x) :: L) st σ = EO j ops (p0 :: p1 :: none :: some (.inl (x + z)) :: L) st σ := by
  unfold EO; simp only [ev_o, ev_x, ev_nl, ev_get, ev_set, List.length_cons]; rw [if_pos ⟨trivial, by omega⟩]
theorem eo_23_3i : EO j ((23, 3, f, z, w) :: ops) (p0 :: p1 :: some (.inl y) :: some (.inl x) :: L) st σ = EO j ops (p0 :: p1 :: some (.inl y) :: some (.inl (x + z)) :: L) st σ := by
  unfold EO; simp only [ev_o, ev_x, ev_nl, ev_get, ev_set, List.length_cons]; rw [if_pos ⟨trivial, by omega⟩]
theorem eo_23_3r : EO j ((23, 3, f, z, w) :: ops) (p0 :: p1 :: some (.inr (.inl y)) :: some (.inl x) :: L) st σ = EO j ops (p0 :: p1 :: some (.inr (.inl y)) :: some (.inl (x + z)) :: L) st σ := by
  unfold EO; simp only [ev_o, ev_x, ev_nl, ev_get, ev_set, List.length_cons]; rw [if_pos ⟨trivial, by omega⟩]
theorem eo_23_4n : EO j ((23, 4, f, z, w) :: ops) (p0 :: p1 :: p2 :: none :: some (.inl x) :: L) st σ = EO j ops (p0 :: p1 :: p2 :: none :: some (.inl (x + z)) :: L) st σ := by
  unfold EO; simp only [ev_o, ev_x, ev_nl, ev_get, ev_set, List.length_cons]; rw [if_pos ⟨trivial, by omega⟩]
theorem eo_23_4i : EO j ((23, 4, f, z, w) :: ops) (p0 :: p1 :: p2 :: some (.inl y) :: some (.inl x) :: L) st σ = EO j ops (p0 :: p1 :: p2 :: some (.inl y) :: some (.inl (x + z)) :: L) st σ := by
  unfold EO; simp only [ev_o, ev_x, ev_nl, ev_get, ev_set, List.length_cons]; rw [if_pos ⟨trivial, by omega⟩]
theorem eo_23_4r : EO j ((23, 4, f, z, w) :: ops) (p0 :: p1 :: p2 :: some (.inr (.inl y)) :: some (.inl x) :: L) st σ = EO j ops (p0 :: p1 :: p2 :: some (.inr (.inl y)) :: some (.inl (x + z)) :: L) st σ := by
  unfold EO; simp only [ev_o, ev_x, ev_nl, ev_get, ev_set, List.length_cons]; rw [if_pos ⟨trivial, by omega⟩]
theorem eo_23_5n : EO j ((23, 5, f, z, w) :: ops) (p0 :: p1 :: p2 :: p3 :: none :: some (.inl x) :: L) st σ = EO j ops (p0 :: p1 :: p2 :: p3 :: none :: some (.inl (x + z)) :: L) st σ := by
  unfold EO; simp only [ev_o, ev_x, ev_nl, ev_get, ev_set, List.length_cons]; rw [if_pos ⟨trivial, by omega⟩]
theorem eo_23_5i : EO j ((23, 5, f, z, w) :: ops) (p0 :: p1 :: p2 :: p3 :: some (.inl y) :: some (.inl x) :: L) st σ = EO j ops (p0 :: p1 :: p2 :: p3 :: some (.inl y) :: some (.inl (x + z)) :: L) st σ := by
  unfold EO; simp only [ev_o, ev_x, ev_nl, ev_get, ev_set, List.length_cons]; rw [if_pos ⟨trivial, by omega⟩]
theorem eo_23_5r : EO j ((23, 5, f, z, w) :: ops) (p0 :: p1 :: p2 :: p3 :: some (.inr (.inl y)) :: some (.inl x) :: L) st σ = EO j ops (p0 :: p1 :: p2 :: p3 :: some (.inr (.inl y)) :: some (.inl (x + z)) :: L) st σ := by
  unfold EO; simp only [ev_o, ev_x, ev_nl, ev_get, ev_set, List.length_cons]; rw [if_pos ⟨trivial, by omega⟩]
theorem eo_23_6n : EO j ((23, 6, f, z, w) :: ops) (p0 :: p1 :: p2 :: p3 :: p4 :: none :: some (.inl x) :: L) st σ = EO j ops (p0 :: p1 :: p2 :: p3 :: p4 :: none :: some (.inl (x + z)) :: L) st σ := by
  unfold EO; simp only [ev_o, ev_x, ev_nl, ev_get, ev_set, List.length_cons]; rw [if_pos ⟨trivial, by omega⟩]
theorem eo_23_6i : EO j ((23, 6, f, z, w) :: ops) (p0 :: p1 :: p2 :: p3 :: p4 :: some (.inl y) :: some (.inl x) :: L) st σ = EO j ops (p0 :: p1 :: p2 :: p3 :: p4 :: some (.inl y) :: some (.inl (x + z)) :: L) st σ := by
  unfold EO; simp only [ev_o, ev_x, ev_nl, ev_get, ev_set, List.length_cons]; rw [if_pos ⟨trivial, by omega⟩]
theorem eo_23_6r : EO j ((23, 6, f, z, w) :: ops) (p0 :: p1 :: p2 :: p3 :: p4 :: some (.inr (.inl y)) :: some (.inl x) :: L) st σ = EO j ops (p0 :: p1 :: p2 :: p3 :: p4 :: some (.inr (.inl y)) :: some (.inl (x + z)) :: L) st σ := by
  unfold EO; simp only [ev_o, ev_x, ev_nl, ev_get, ev_set, List.length_cons]; rw [if_pos ⟨trivial, by omega⟩]
theorem eo_23_7n : EO j ((23, 7, f, z, w) :: ops) (p0 :: p1 :: p2 :: p3 :: p4 :: p5 :: none :: some (.inl x) :: L) st σ = EO j ops (p0 :: p1 :: p2 :: p3 :: p4 :: p5 :: none :: some (.inl (x + z)) :: L) st σ := by
  unfold EO; simp only [ev_o, ev_x, ev_nl, ev_get, ev_set, List.length_cons]; rw [if_pos ⟨trivial, by omega⟩]
theorem eo_23_7i : EO j ((23, 7, f, z, w) :: ops) (p0 :: p1 :: p2 :: p3 :: p4 :: p5 :: some (.inl y) :: some (.inl x) :: L) st σ = EO j ops (p0 :: p1 :: p2 :: p3 :: p4 :: p5 :: some (.inl y) :: some (.inl (x + z)) :: L) st σ := by
  unfold EO; simp only [ev_o, ev_x, ev_nl, ev_get, ev_set, List.length_cons]; rw [if_pos ⟨trivial, by omega⟩]
theorem eo_23_7r : EO j ((23, 7, f, z, w) :: ops) (p0 :: p1 :: p2 :: p3 :: p4 :: p5 :: some (.inr (.inl y)) :: some (.inl x) :: L) st σ = EO j ops (p0 :: p1 :: p2 :: p3 :: p4 :: p5 :: some (.inr (.inl y)) :: some (.inl (x + z)) :: L) st σ := by
  unfold EO; simp only [ev_o, ev_x, ev_nl, ev_get, ev_set, List.length_cons]; rw [if_pos ⟨trivial, by omega⟩]
theorem eo_23_8n : EO j ((23, 8, f, z, w) :: ops) (p0 :: p1 :: p2 :: p3 :: p4 :: p5 :: p6 :: none :: some (.inl x) :: L) st σ = EO j ops (p0 :: p1 :: p2 :: p3 :: p4 :: p5 :: p6 :: none :: some (.inl (x + z)) :: L) st σ := by
  unfold EO; simp only [ev_o, ev_x, ev_nl, ev_get, ev_set, List.length_cons]; rw [if_pos ⟨trivial, by omega⟩]
theorem eo_23_8i : EO j ((23, 8, f, z, w) :: ops) (p0 :: p1 :: p2 :: p3 :: p4 :: p5 :: p6 :: some (.inl y) :: some (.inl x) :: L) st σ = EO j ops (p0 :: p1 :: p2 :: p3 :: p4 :: p5 :: p6 :: some (.inl y) :: some (.inl (x + z)) :: L) st σ := by
  unfold EO; simp only [ev_o, ev_x, ev_nl, ev_get, ev_set, List.length_cons]; rw [if_pos ⟨trivial, by omega⟩]
theorem eo_23_8r : EO j ((23, 8, f, z, w) :: ops) (p0 :: p1 :: p2 :: p3 :: p4 :: p5 :: p6 :: some (.inr (.inl y)) :: some (.inl x) :: L) st σ = EO j ops (p0 :: p1 :: p2 :: p3 :: p4 :: p5 :: p6 :: some (.inr (.inl y)) :: some (.inl (x + z)) :: L) st σ := by
  unfold EO; simp only [ev_o, ev_x, ev_nl, ev_get, ev_set, List.length_cons]; rw [if_pos ⟨trivial, by omega⟩]
theorem eo_23_9n : EO j ((23, 9, f, z, w) :: ops) (p0 :: p1 :: p2 :: p3 :: p4 :: p5 :: p6 :: p7 :: none :: some (.inl x) :: L) st σ = EO j ops (p0 :: p1 :: p2 :: p3 :: p4 :: p5 :: p6 :: p7 :: none :: some (.inl (x + z)) :: L) st σ := by
  unfold EO; simp only [ev_o, ev_x, ev_nl, ev_get, ev_set, List.length_cons]; rw [if_pos ⟨trivial, by omega⟩]
theorem eo_23_9i : EO j ((23, 9, f, z, w) :: ops) (p0 :: p1 :: p2 :: p3 :: p4 :: p5 :: p6 :: p7 :: some (.inl y) :: some (.inl x) :: L) st σ = EO j ops (p0 :: p1 :: p2 :: p3 :: p4 :: p5 :: p6 :: p7 :: some (.inl y) :: some (.inl (x + z)) :: L) st σ := by
  unfold EO; simp only [ev_o, ev_x, ev_nl, ev_get, ev_set, List.length_cons]; rw [if_pos ⟨trivial, by omega⟩]
theorem eo_23_9r : EO j ((23, 9, f, z, w) :: ops) (p0 :: p1 :: p2 :: p3 :: p4 :: p5 :: p6 :: p7 :: some (.inr (.inl y)) :: some (.inl x) :: L) st σ = EO j ops (p0 :: p1 :: p2 :: p3 :: p4 :: p5 :: p6 :: p7 :: some (.inr (.inl y)) :: some (.inl (x + z)) :: L) st σ := by
  unfold EO; simp only [ev_o, ev_x, ev_nl, ev_get, ev_set, List.length_cons]; rw [if_pos ⟨trivial, by omega⟩]
theorem eo_23_10n : EO j ((23, 10, f, z, w) :: ops) (p0 :: p1 :: p2 :: p3 :: p4 :: p5 :: p6 :: p7 :: p8 :: none :: some (.inl x) :: L) st σ = EO j ops (p0 :: p1 :: p2 :: p3 :: p4 :: p5 :: p6 :: p7 :: p8 :: none :: some (.inl (x + z)) :: L) st σ := by
  unfold EO; simp only [ev_o, ev_x, ev_nl, ev_get, ev_set, List.length_cons]; rw [if_pos ⟨trivial, by omega⟩]
theorem eo_23_10i : EO j ((23, 10, f, z, w) :: ops) (p0 :: p1 :: p2 :: p3 :: p4 :: p5 :: p6 :: p7 :: p8 :: some (.inl y) :: some (.inl x) :: L) st σ = EO j ops (p0 :: p1 :: p2 :: p3 :: p4 :: p5 :: p6 :: p7 :: p8 :: some (.inl y) :: some (.inl (x + z)) :: L) st σ := by
  unfold EO; simp only [ev_o, ev_x, ev_nl, ev_get, ev_set, List.length_cons]; rw [if_pos ⟨trivial, by omega⟩]
theorem eo_23_10r : EO j ((23, 10, f, z, w) :: ops) (p0 :: p1 :: p2 :: p3 :: p4 :: p5 :: p6 :: p7 :: p8 :: some (.inr (.inl y)) :: some (.inl x) :: L) st σ = EO j ops (p0 :: p1 :: p2 :: p3 :: p4 :: p5 :: p6 :: p7 :: p8 :: some (.inr (.inl y)) :: some (.inl (x + z)) :: L) st σ := by
  unfold EO; simp only [ev_o, ev_x, ev_nl, ev_get, ev_set, List.length_cons]; rw [if_pos ⟨trivial, by omega⟩]
theorem eo_23_11n : EO j ((23, 11, f, z, w) :: ops) (p0 :: p1 :: p2 :: p3 :: p4 :: p5 :: p6 :: p7 :: p8 :: p9 :: none :: some (.inl x) :: L) st σ = EO j ops (p0 :: p1 :: p2 :: p3 :: p4 :: p5 :: p6 :: p7 :: p8 :: p9 :: none :: some (.inl (x + z)) :: L) st σ := by
  unfold EO; simp only [ev_o, ev_x, ev_nl, ev_get, ev_set, List.length_cons]; rw [if_pos ⟨trivial, by omega⟩]
theorem eo_23_11i : EO j ((23, 11, f, z, w) :: ops) (p0 :: p1 :: p2 :: p3 :: p4 :: p5 :: p6 :: p7 :: p8 :: p9 :: some (.inl y) :: some (.inl x) :: L) st σ = EO j ops (p0 :: p1 :: p2 :: p3 :: p4 :: p5 :: p6 :: p7 :: p8 :: p9 :: some (.inl y) :: some (.inl (x + z)) :: L) st σ := by
  unfold EO; simp only [ev_o, ev_x, ev_nl, ev_get, ev_set, List.length_cons]; rw [if_pos ⟨trivial, by omega⟩]
theorem eo_23_11r : EO j ((23, 11, f, z, w) :: ops) (p0 :: p1 :: p2 :: p3 :: p4 :: p5 :: p6 :: p7 :: p8 :: p9 :: some (.inr (.inl y)) :: some (.inl x) :: L) st σ = EO j ops (p0 :: p1 :: p2 :: p3 :: p4 :: p5 :: p6 :: p7 :: p8 :: p9 :: some (.inr (.inl y)) :: some (.inl (x + z)) :: L) st σ := by
  unfold EO; simp only [ev_o, ev_x, ev_nl, ev_get, ev_set, List.length_cons]; rw [if_pos ⟨trivial, by omega⟩]
theorem eo_23_12n : EO j ((23, 12, f, z, w) :: ops) (p0 :: p1 :: p2 :: p3 :: p4 :: p5 :: p6 :: p7 :: p8 :: p9 :: p10 :: none :: some (.inl x) :: L) st σ = EO j ops (p0 :: p1 :: p2 :: p3 :: p4 :: p5 :: p6 :: p7 :: p8 :: p9 :: p10 :: none :: some (.inl (x + z)) :: L) st σ := by
  unfold EO; simp only [ev_o, ev_x, ev_nl, ev_get, ev_set, List.length_cons]; rw [if_pos ⟨trivial, by omega⟩]
theorem eo_23_12i : EO j ((23, 12, f, z, w) :: ops) (p0 :: p1 :: p2 :: p3 :: p4 :: p5 :: p6 :: p7 :: p8 :: p9 :: p10 :: some (.inl y) :: some (.inl x) :: L) st σ = EO j ops (p0 :: p1 :: p2 :: p3 :: p4 :: p5 :: p6 :: p7 :: p8 :: p9 :: p10 :: some (.inl y) :: some (.inl (x + z)) :: L) st σ := by
  unfold EO; simp only [ev_o, ev_x, ev_nl, ev_get, ev_set, List.length_cons]; rw [if_pos ⟨trivial, by omega⟩]
theorem eo_23_12r : EO j ((23, 12, f, z, w) :: ops) (p0 :: p1 :: p2 :: p3 :: p4 :: p5 :: p6 :: p7 :: p8 :: p9 :: p10 :: some (.inr (.inl y)) :: some (.inl x) :: L) st σ = EO j ops (p0 :: p1 :: p2 :: p3 :: p4 :: p5 :: p6 :: p7 :: p8 :: p9 :: p10 :: some (.inr (.inl y)) :: some (.inl (x + z)) :: L) st σ := by
  unfold EO; simp only [ev_o, ev_x, ev_nl, ev_get, ev_set, List.length_cons]; rw [if_pos ⟨trivial, by omega⟩]
theorem eo_23_13n : EO j ((23, 13, f, z, w) :: ops) (p0 :: p1 :: p2 :: p3 :: p4 :: p5 :: p6 :: p7 :: p8 :: p9 :: p10 :: p11 :: none :: some (.inl x) :: L) st σ = EO j ops (p0 :: p1 :: p2 :: p3 :: p4 :: p5 :: p6 :: p7 :: p8 :: p9 :: p10 :: p11 :: none :: some (.inl (x + z)) :: L) st σ := by
  unfold EO; simp only [ev_o, ev_x, ev_nl, ev_get, ev_set, List.length_cons]; rw [if_pos ⟨trivial, by omega⟩]
theorem eo_23_13i : EO j ((23, 13, f, z, w) :: ops) (p0 :: p1 :: p2 :: p3 :: p4 :: p5 :: p6 :: p7 :: p8 :: p9 :: p10 :: p11 :: some (.inl y) :: some (.inl x) :: L) st σ = EO j ops (p0 :: p1 :: p2 :: p3 :: p4 :: p5 :: p6 :: p7 :: p8 :: p9 :: p10 :: p11 :: some (.inl y) :: some (.inl (x + z)) :: L) st σ := by
  unfold EO; simp only [ev_o, ev_x, ev_nl, ev_get, ev_set, List.length_cons]; rw [if_pos ⟨trivial, by omega⟩]
theorem eo_23_13r : EO j ((23, 13, f, z, w) :: ops) (p0 :: p1 :: p2 :: p3 :: p4 :: p5 :: p6 :: p7 :: p8 :: p9 :: p10 :: p11 :: some (.inr (.inl y)) :: some (.inl x) :: L) st σ = EO j ops (p0 :: p1 :: p2 :: p3 :: p4 :: p5 :: p6 :: p7 :: p8 :: p9 :: p10 :: p11 :: some (.inr (.inl y)) :: some (.inl (x + z)) :: L) st σ := by
  unfold EO; simp only [ev_o, ev_x, ev_nl, ev_get, ev_set, List.length_cons]; rw [if_pos ⟨trivial, by omega⟩]
theorem eo_23_14n : EO j ((23, 14, f, z, w) :: ops) (p0 :: p1 :: p2 :: p3 :: p4 :: p5 :: p6 :: p7 :: p8 :: p9 :: p10 :: p11 :: p12 :: none :: some (.inl x) :: L) st σ = EO j ops (p0 :: p1 :: p2 :: p3 :: p4 :: p5 :: p6 :: p7 :: p8 :: p9 :: p10 :: p11 :: p12 :: none :: some (.inl (x + z)) :: L) st σ := by
  unfold EO; simp only [ev_o, ev_x, ev_nl, ev_get, ev_set, List.length_cons]; rw [if_pos ⟨trivial, by omega⟩]
theorem eo_23_14i : EO j ((23, 14, f, z, w) :: ops) (p0 :: p1 :: p2 :: p3 :: p4 :: p5 :: p6 :: p7 :: p8 :: p9 :: p10 :: p11 :: p12 :: some (.inl y) :: some (.inl x) :: L) st σ = EO j ops (p0 :: p1 :: p2 :: p3 :: p4 :: p5 :: p6 :: p7 :: p8 :: p9 :: p10 :: p11 :: p12 :: some (.inl y) :: some (.inl (x + z)) :: L) st σ := by
  unfold EO; simp only [ev_o, ev_x, ev_nl, ev_get, ev_set, List.length_cons]; rw [if_pos ⟨trivial, by omega⟩]
theorem eo_23_14r : EO j ((23, 14, f, z, w) :: ops) (p0 :: p1 :: p2 :: p3 :: p4 :: p5 :: p6 :: p7 :: p8 :: p9 :: p10 :: p11 :: p12 :: some (.inr (.inl y)) :: some (.inl x) :: L) st σ = EO j ops (p0 :: p1 :: p2 :: p3 :: p4 :: p5 :: p6 :: p7 :: p8 :: p9 :: p10 :: p11 :: p12 :: some (.inr (.inl y)) :: some (.inl (x + z)) :: L) st σ := by
  unfold EO; simp only [ev_o, ev_x, ev_nl, ev_get, ev_set, List.length_cons]; rw [if_pos ⟨trivial, by omega⟩]
theorem eo_23_15n : EO j ((23, 15, f, z, w) :: ops) (p0 :: p1 :: p2 :: p3 :: p4 :: p5 :: p6 :: p7 :: p8 :: p9 :: p10 :: p11 :: p12 :: p13 :: none :: some (.inl x) :: L) st σ = EO j ops (p0 :: p1 :: p2 :: p3 :: p4 :: p5 :: p6 :: p7 :: p8 :: p9 :: p10 :: p11 :: p12 :: p13 :: none :: some (.inl (x + z)) :: L) st σ := by
  unfold EO; simp only [ev_o, ev_x, ev_nl, ev_get, ev_set, List.length_cons]; rw [if_pos ⟨trivial, by omega⟩]
theorem eo_23_15i : EO j ((23, 15, f, z, w) :: ops) (p0 :: p1 :: p2 :: p3 :: p4 :: p5 :: p6 :: p7 :: p8 :: p9 :: p10 :: p11 :: p12 :: p13 :: some (.inl y) :: some (.inl x) :: L) st σ = EO j ops (p0 :: p1 :: p2 :: p3 :: p4 :: p5 :: p6 :: p7 :: p8 :: p9 :: p10 :: p11 :: p12 :: p13 :: some (.inl y) :: some (.inl (x + z)) :: L) st σ := by
  unfold EO; simp only [ev_o, ev_x, ev_nl, ev_get, ev_set, List.length_cons]; rw [if_pos ⟨trivial, by omega⟩]
theorem eo_23_15r : EO j ((23, 15, f, z, w) :: ops) (p0 :: p1 :: p2 :: p3 :: p4 :: p5 :: p6 :: p7 :: p8 :: p9 :: p10 :: p11 :: p12 :: p13 :: some (.inr (.inl y)) :: some (.inl x) :: L) st σ = EO j ops (p0 :: p1 :: p2 :: p3 :: p4 :: p5 :: p6 :: p7 :: p8 :: p9 :: p10 :: p11 :: p12 :: p13 :: some (.inr (.inl y)) :: some (.inl (x + z)) :: L) st σ := by
  unfold EO; simp only [ev_o, ev_x, ev_nl, ev_get, ev_set, List.length_cons]; rw [if_pos ⟨trivial, by omega⟩]
theorem eo_23_16n : EO j ((23, 16, f, z, w) :: ops) (p0 :: p1 :: p2 :: p3 :: p4 :: p5 :: p6 :: p7 :: p8 :: p9 :: p10 :: p11 :: p12 :: p13 :: p14 :: none :: some (.inl x) :: L) st σ = EO j ops (p0 :: p1 :: p2 :: p3 :: p4 :: p5 :: p6 :: p7 :: p8 :: p9 :: p10 :: p11 :: p12 :: p13 :: p14 :: none :: some (.inl (x + z)) :: L) st σ := by
  unfold EO; simp only [ev_o, ev_x, ev_nl, ev_get, ev_set, List.length_cons]; rw [if_pos ⟨trivial, by omega⟩]
theorem eo_23_16i : EO j ((23, 16, f, z, w) :: ops) (p0 :: p1 :: p2 :: p3 :: p4 :: p5 :: p6 :: p7 :: p8 :: p9 :: p10 :: p11 :: p12 :: p13 :: p14 :: some (.inl y) :: some (.inl x) :: L) st σ = EO j ops (p0 :: p1 :: p2 :: p3 :: p4 :: p5 :: p6 :: p7 :: p8 :: p9 :: p10 :: p11 :: p12 :: p13 :: p14 :: some (.inl y) :: some (.inl (x + z)) :: L) st σ := by
  unfold EO; simp only [ev_o, ev_x, ev_nl, ev_get, ev_set, List.length_cons]; rw [if_pos ⟨trivial, by omega⟩]
theorem eo_23_16r : EO j ((23, 16, f, z, w) :: ops) (p0 :: p1 :: p2 :: p3 :: p4 :: p5 :: p6 :: p7 :: p8 :: p9 :: p10 :: p11 :: p12 :: p13 :: p14 :: some (.inr (.inl y)) :: some (.inl x) :: L) st σ = EO j ops (p0 :: p1 :: p2 :: p3 :: p4 :: p5 :: p6 :: p7 :: p8 :: p9 :: p10 :: p11 :: p12 :: p13 :: p14 :: some (.inr (.inl y)) :: some (.inl (x + z)) :: L) st σ := by
  unfold EO; simp only [ev_o, ev_x, ev_nl, ev_get, ev_set, List.length_cons]; rw [if_pos ⟨trivial, by omega⟩]
theorem eo_23_0 : EO j ((23, 0, f, z, w) :: ops) (some (.inl x) :: L) st σ = EO j ops (some (.inl (x + z)) :: L) st σ := by
  rfl
theorem eo_6 : EO j ((6, k, f, z, w) :: ops) L st σ = EO j ops L (.inl z :: st) σ := by
  rfl
theorem eo_7 : EO j ((7, k, f, z, w) :: ops) L st σ = EO j ops L (.inl z :: st) σ := by
  rfl
theorem eo_8 : EO j ((8, k, f, z, w) :: ops) L st σ = EO j ops L (.inr (.inr (Int64.ofInt z)) :: st) σ := by
  rfl
theorem eo_10 : EO j ((10, k, f, z, w) :: ops) L (.inl y :: .inl x :: st) σ = EO j ops L (.inl (x + y) :: st) σ := by
  rfl
theorem eo_11 : EO j ((11, k, f, z, w) :: ops) L (.inl y :: .inl x :: st) σ = EO j ops L (.inl (x - y) :: st) σ := by
  rfl
theorem eo_12 : EO j ((12, k, f, z, w) :: ops) L (.inl y :: .inl x :: st) σ = EO j ops L (.inl (x * y) :: st) σ := by
  rfl
theorem eo_15 : EO j ((15, k, f, z, w) :: ops) L (.inl y :: .inl x :: st) σ = EO j ops L (.inl (ev_and x y) :: st) σ := by
  rfl
theorem eo_16 : EO j ((16, k, f, z, w) :: ops) L (.inl y :: .inl x :: st) σ = EO j ops L (.inl (ev_or x y) :: st) σ := by
  rfl
theorem eo_17 : EO j ((17, k, f, z, w) :: ops) L (.inl y :: .inl x :: st) σ = EO j ops L (.inl (ev_xor x y) :: st) σ := by
  rfl
theorem eo_18 : EO j ((18, k, f, z, w) :: ops) L (.inl y :: .inl x :: st) σ = EO j ops L (.inl (ev_shl x y) :: st) σ := by
  rfl
theorem eo_19 : EO j ((19, k, f, z, w) :: ops) L (.inl y :: .inl x :: st) σ = EO j ops L (.inl (ev_shr x y) :: st) σ := by
  rfl
theorem eo_13 (hy : ¬ ev_wr y = 0) : EO j ((13, k, f, z, w) :: ops) L (.inl y :: .inl x :: st) σ = EO j ops L (.inl (ev_div x y) :: st) σ := by
  unfold EO; simp only [ev_o, ev_x]; rw [if_neg hy]
theorem eo_14 (hy : ¬ ev_wr y = 0) : EO j ((14, k, f, z, w) :: ops) L (.inl y :: .inl x :: st) σ = EO j ops L (.inl (ev_rem x y) :: st) σ := by
  unfold EO; simp only [ev_o, ev_x]; rw [if_neg hy]
theorem eo_20 : EO j ((20, k, f, z, w) :: ops) L (.inr (.inr g) :: .inr (.inr h) :: st) σ = EO j ops L (.inr (.inr (h + g)) :: st) σ := by
  rfl
theorem eo_21 : EO j ((21, k, f, z, w) :: ops) L (.inr (.inr g) :: .inr (.inr h) :: st) σ = EO j ops L (.inr (.inr (h * g)) :: st) σ := by
  rfl
theorem eo_9 : EO j ((9, k, f, z, w) :: ops) L (.inr (.inr g) :: .inr (.inr h) :: st) σ = EO j ops L (.inl (ev_lc h g) :: st) σ := by
  rfl
theorem eo_38 (hc : ev_w st ≤ 8) : EO j ((38, k, f, z, w) :: ops) L (.inl x :: .inr (.inl 200) :: st) σ = EO j ops L (.inl (σ 200 (ev_wr x)) :: st) σ := by
  unfold EO; simp only [ev_o, ev_x]; rw [if_pos ⟨trivial, hc⟩]
theorem eo_22 : EO j ((22, k, f, z, w) :: ops) L (.inl x :: st) σ = EO j ops L (.inr (.inr (Int64.ofInt (ev_wr x))) :: st) σ := by
  rfl
theorem eo_24i : EO j ((24, k, f, z, w) :: ops) L (.inl x :: st) σ = EO j ops L (.inl x :: .inl x :: st) σ := by
  rfl
theorem eo_24r : EO j ((24, k, f, z, w) :: ops) L (.inr (.inl x) :: st) σ = EO j ops L (.inr (.inl x) :: .inr (.inl x) :: st) σ := by
  rfl
theorem eo_25 : EO j ((25, k, f, z, w) :: ops) L (.inl y :: .inr (.inl x) :: st) σ = EO j ops L (.inl y :: .inr (.inl x) :: .inl y :: .inr (.inl x) :: st) σ := by
  rfl
theorem eo_26 : EO j ((26, k, f, z, w) :: ops) L (.inl x :: st) σ = EO j ops L st σ := by
  rfl
theorem eo_27 (hc : ev_cls i = c) : EO j ((27, e, c, z, w) :: ops) L (.inr (.inl i) :: st) σ = EO j ops L (.inl (σ i z) :: st) σ := by
  unfold EO; simp only [ev_o, ev_x]; rw [if_pos hc]
theorem eo_28 (hc : ev_cls i = c) : EO j ((28, e, c, z, w) :: ops) L (.inr (.inl i) :: st) σ = EO j ops L (.inr (.inl (i + w)) :: st) σ := by
  unfold EO; simp only [ev_o, ev_x]; rw [if_pos hc]
theorem eo_29 (hc : ev_cls i = c) : EO j ((29, e, c, z, w) :: ops) L (.inr (.inl i) :: st) σ = EO j ops L (.inr (.inr (Int64.ofInt (σ i z))) :: st) σ := by
  unfold EO; simp only [ev_o, ev_x]; rw [if_pos hc]
theorem eo_30 (hc : ev_cls i = c) : EO j ((30, e, c, z, w) :: ops) L (.inl x :: .inr (.inl i) :: st) σ = EO j ops L st (ev_up σ i z x) := by
  unfold EO; simp only [ev_o, ev_x]; rw [if_pos hc]
theorem eo_31 (hc : ev_cls i = c) : EO j ((31, e, c, z, w) :: ops) L (.inr (.inr h) :: .inr (.inl i) :: st) σ = EO j ops L st (ev_up σ i z h.toInt) := by
  unfold EO; simp only [ev_o, ev_x]; rw [if_pos hc]
theorem eo_32 (hc : ev_cls i = 12) (h0 : 0 ≤ x) (h1 : x < ev_len i) : EO j ((32, k, f, z, w) :: ops) L (.inl x :: .inr (.inl i) :: st) σ = EO j ops L (.inl (σ i x) :: st) σ := by
  have h9 := ev_len_le i
  have hw : ev_wr x = x := ev_wr_id (by omega) (by omega)
  unfold EO; simp only [ev_o, ev_x, hw]; rw [if_pos ⟨hc, h0, h1⟩]
theorem eo_34 (hc : ev_cls i = 13) (h0 : 0 ≤ x) (h1 : x < ev_len i) : EO j ((34, k, f, z, w) :: ops) L (.inl x :: .inr (.inl i) :: st) σ = EO j ops L (.inl (σ i x) :: st) σ := by
  have h9 := ev_len_le i
  have hw : ev_wr x = x := ev_wr_id (by omega) (by omega)
  unfold EO; simp only [ev_o, ev_x, hw]; rw [if_pos ⟨hc, h0, h1⟩]
theorem eo_36 (hc : ev_cls i = 14) (h0 : 0 ≤ x) (h1 : x < ev_len i) : EO j ((36, k, f, z, w) :: ops) L (.inl x :: .inr (.inl i) :: st) σ = EO j ops L (.inr (.inl (σ i x)) :: st) σ := by
  have h9 := ev_len_le i
  have hw : ev_wr x = x := ev_wr_id (by omega) (by omega)
  unfold EO; simp only [ev_o, ev_x, hw]; rw [if_pos ⟨hc, h0, h1⟩]
theorem eo_33 (hc : ev_cls i = 12) (h0 : 0 ≤ x) (h1 : x < ev_len i) : EO j ((33, k, f, z, w) :: ops) L (.inl y :: .inl x :: .inr (.inl i) :: st) σ = EO j ops L st (ev_up σ i x y) := by
  have h9 := ev_len_le i
  have hw : ev_wr x = x := ev_wr_id (by omega) (by omega)
  unfold EO; simp only [ev_o, ev_x, hw]; rw [if_pos ⟨hc, h0, h1⟩]
theorem eo_35 (hc : ev_cls i = 13) (h0 : 0 ≤ x) (h1 : x < ev_len i) (h2 : 0 ≤ y ∧ y ≤ 1) : EO j ((35, k, f, z, w) :: ops) L (.inl y :: .inl x :: .inr (.inl i) :: st) σ = EO j ops L st (ev_up σ i x y) := by
  have h9 := ev_len_le i
  have hw : ev_wr x = x := ev_wr_id (by omega) (by omega)
  unfold EO; simp only [ev_o, ev_x, hw]; rw [if_pos ⟨hc, h0, h1, h2.1, h2.2⟩]
theorem eo_37 (hc : ev_cls i = 14) (h0 : 0 ≤ x) (h1 : x < ev_len i) (h2 : ev_cls y = 7) : EO j ((37, k, f, z, w) :: ops) L (.inr (.inl y) :: .inl x :: .inr (.inl i) :: st) σ = EO j ops L st (ev_up σ i x y) := by
  have h9 := ev_len_le i
  have hw : ev_wr x = x := ev_wr_id (by omega) (by omega)
  unfold EO; simp only [ev_o, ev_x, hw]; rw [if_pos ⟨hc, h0, h1, h2⟩]
theorem eo_40 : EO j ((40, t, f, z, w) :: ops) L (.inl y :: .inl x :: st) σ = if ev_wr x = ev_wr y then EB j t L st σ else EO j ops L st σ := by
  by_cases hq : ev_wr x = ev_wr y
  · rw [if_pos hq]; unfold EO; simp only [ev_o, ev_x, if_pos hq]
  · rw [if_neg hq]; unfold EO; simp only [ev_o, ev_x, if_neg hq]
theorem br_40 (h1 : ev_wr x = ev_wr y → EB j t L st σ = R) (h2 : ¬ (ev_wr x = ev_wr y) → EO j ops L st σ = R) : EO j ((40, t, f, z, w) :: ops) L (.inl y :: .inl x :: st) σ = R := by
  rw [eo_40]
  split
  · next h => exact h1 h
  · next h => exact h2 h
theorem eo_46 : EO j ((46, t, f, z, w) :: ops) L (.inl x :: st) σ = if ev_wr x = 0 then EB j t L st σ else EO j ops L st σ := by
  by_cases hq : ev_wr x = 0
  · rw [if_pos hq]; unfold EO; simp only [ev_o, ev_x, if_pos hq]
  · rw [if_neg hq]; unfold EO; simp only [ev_o, ev_x, if_neg hq]
theorem br_46 (h1 : ev_wr x = 0 → EB j t L st σ = R) (h2 : ¬ (ev_wr x = 0) → EO j ops L st σ = R) : EO j ((46, t, f, z, w) :: ops) L (.inl x :: st) σ = R := by
  rw [eo_46]
  split
  · next h => exact h1 h
  · next h => exact h2 h
theorem eo_41 : EO j ((41, t, f, z, w) :: ops) L (.inl y :: .inl x :: st) σ = if ev_wr x = ev_wr y then EO j ops L st σ else EB j t L st σ := by
  by_cases hq : ev_wr x = ev_wr y
  · rw [if_pos hq]; unfold EO; simp only [ev_o, ev_x, if_pos hq]
  · rw [if_neg hq]; unfold EO; simp only [ev_o, ev_x, if_neg hq]
theorem br_41 (h1 : ev_wr x = ev_wr y → EO j ops L st σ = R) (h2 : ¬ (ev_wr x = ev_wr y) → EB j t L st σ = R) : EO j ((41, t, f, z, w) :: ops) L (.inl y :: .inl x :: st) σ = R := by
  rw [eo_41]
  split
  · next h => exact h1 h
  · next h => exact h2 h
theorem eo_47 : EO j ((47, t, f, z, w) :: ops) L (.inl x :: st) σ = if ev_wr x = 0 then EO j ops L st σ else EB j t L st σ := by
  by_cases hq : ev_wr x = 0
  · rw [if_pos hq]; unfold EO; simp only [ev_o, ev_x, if_pos hq]
  · rw [if_neg hq]; unfold EO; simp only [ev_o, ev_x, if_neg hq]
theorem br_47 (h1 : ev_wr x = 0 → EO j ops L st σ = R) (h2 : ¬ (ev_wr x = 0) → EB j t L st σ = R) : EO j ((47, t, f, z, w) :: ops) L (.inl x :: st) σ = R := by
  rw [eo_47]
  split
  · next h => exact h1 h
  · next h => exact h2 h
theorem eo_42 : EO j ((42, t, f, z, w) :: ops) L (.inl y :: .inl x :: st) σ = if ev_wr x < ev_wr y then EB j t L st σ else EO j ops L st σ := by
  by_cases hq : ev_wr x < ev_wr y
  · rw [if_pos hq]; unfold EO; simp only [ev_o, ev_x, if_pos hq]
  · rw [if_neg hq]; unfold EO; simp only [ev_o, ev_x, if_neg hq]
theorem br_42 (h1 : ev_wr x < ev_wr y → EB j t L st σ = R) (h2 : ¬ (ev_wr x < ev_wr y) → EO j ops L st σ = R) : EO j ((42, t, f, z, w) :: ops) L (.inl y :: .inl x :: st) σ = R := by
  rw [eo_42]
  split
  · next h => exact h1 h
  · next h => exact h2 h
theorem eo_48 : EO j ((48, t, f, z, w) :: ops) L (.inl x :: st) σ = if ev_wr x < 0 then EB j t L st σ else EO j ops L st σ := by
  by_cases hq : ev_wr x < 0
  · rw [if_pos hq]; unfold EO; simp only [ev_o, ev_x, if_pos hq]
  · rw [if_neg hq]; unfold EO; simp only [ev_o, ev_x, if_neg hq]
theorem br_48 (h1 : ev_wr x < 0 → EB j t L st σ = R) (h2 : ¬ (ev_wr x < 0) → EO j ops L st σ = R) : EO j ((48, t, f, z, w) :: ops) L (.inl x :: st) σ = R := by
  rw [eo_48]
  split
  · next h => exact h1 h
  · next h => exact h2 h
theorem eo_43 : EO j ((43, t, f, z, w) :: ops) L (.inl y :: .inl x :: st) σ = if ev_wr x < ev_wr y then EO j ops L st σ else EB j t L st σ := by
  by_cases hq : ev_wr x < ev_wr y
  · rw [if_pos hq]; unfold EO; simp only [ev_o, ev_x, if_pos hq]
  · rw [if_neg hq]; unfold EO; simp only [ev_o, ev_x, if_neg hq]
theorem br_43 (h1 : ev_wr x < ev_wr y → EO j ops L st σ = R) (h2 : ¬ (ev_wr x < ev_wr y) → EB j t L st σ = R) : EO j ((43, t, f, z, w) :: ops) L (.inl y :: .inl x :: st) σ = R := by
  rw [eo_43]
  split
  · next h => exact h1 h
  · next h => exact h2 h
theorem eo_49 : EO j ((49, t, f, z, w) :: ops) L (.inl x :: st) σ = if ev_wr x < 0 then EO j ops L st σ else EB j t L st σ := by
  by_cases hq : ev_wr x < 0
  · rw [if_pos hq]; unfold EO; simp only [ev_o, ev_x, if_pos hq]
  · rw [if_neg hq]; unfold EO; simp only [ev_o, ev_x, if_neg hq]
theorem br_49 (h1 : ev_wr x < 0 → EO j ops L st σ = R) (h2 : ¬ (ev_wr x < 0) → EB j t L st σ = R) : EO j ((49, t, f, z, w) :: ops) L (.inl x :: st) σ = R := by
  rw [eo_49]
  split
  · next h => exact h1 h
  · next h => exact h2 h
theorem eo_44 : EO j ((44, t, f, z, w) :: ops) L (.inl y :: .inl x :: st) σ = if ev_wr y < ev_wr x then EB j t L st σ else EO j ops L st σ := by
  by_cases hq : ev_wr y < ev_wr x
  · rw [if_pos hq]; unfold EO; simp only [ev_o, ev_x, if_pos hq]
  · rw [if_neg hq]; unfold EO; simp only [ev_o, ev_x, if_neg hq]
theorem br_44 (h1 : ev_wr y < ev_wr x → EB j t L st σ = R) (h2 : ¬ (ev_wr y < ev_wr x) → EO j ops L st σ = R) : EO j ((44, t, f, z, w) :: ops) L (.inl y :: .inl x :: st) σ = R := by
  rw [eo_44]
  split
  · next h => exact h1 h
  · next h => exact h2 h
theorem eo_50 : EO j ((50, t, f, z, w) :: ops) L (.inl x :: st) σ = if 0 < ev_wr x then EB j t L st σ else EO j ops L st σ := by
  by_cases hq : 0 < ev_wr x
  · rw [if_pos hq]; unfold EO; simp only [ev_o, ev_x, if_pos hq]
  · rw [if_neg hq]; unfold EO; simp only [ev_o, ev_x, if_neg hq]
theorem br_50 (h1 : 0 < ev_wr x → EB j t L st σ = R) (h2 : ¬ (0 < ev_wr x) → EO j ops L st σ = R) : EO j ((50, t, f, z, w) :: ops) L (.inl x :: st) σ = R := by
  rw [eo_50]
  split
  · next h => exact h1 h
  · next h => exact h2 h
theorem eo_45 : EO j ((45, t, f, z, w) :: ops) L (.inl y :: .inl x :: st) σ = if ev_wr y < ev_wr x then EO j ops L st σ else EB j t L st σ := by
  by_cases hq : ev_wr y < ev_wr x
  · rw [if_pos hq]; unfold EO; simp only [ev_o, ev_x, if_pos hq]
  · rw [if_neg hq]; unfold EO; simp only [ev_o, ev_x, if_neg hq]
theorem br_45 (h1 : ev_wr y < ev_wr x → EO j ops L st σ = R) (h2 : ¬ (ev_wr y < ev_wr x) → EB j t L st σ = R) : EO j ((45, t, f, z, w) :: ops) L (.inl y :: .inl x :: st) σ = R := by
  rw [eo_45]
  split
  · next h => exact h1 h
  · next h => exact h2 h
theorem eo_51 : EO j ((51, t, f, z, w) :: ops) L (.inl x :: st) σ = if 0 < ev_wr x then EO j ops L st σ else EB j t L st σ := by
  by_cases hq : 0 < ev_wr x
  · rw [if_pos hq]; unfold EO; simp only [ev_o, ev_x, if_pos hq]
  · rw [if_neg hq]; unfold EO; simp only [ev_o, ev_x, if_neg hq]
theorem br_51 (h1 : 0 < ev_wr x → EO j ops L st σ = R) (h2 : ¬ (0 < ev_wr x) → EB j t L st σ = R) : EO j ((51, t, f, z, w) :: ops) L (.inl x :: st) σ = R := by
  rw [eo_51]
  split
  · next h => exact h1 h
  · next h => exact h2 h
theorem eo_52 : EO j ((52, t, f, z, w) :: ops) L st σ = EB j t L st σ := by
  rfl
theorem eo_53 : EO j ((53, t, f, z, w) :: ops) L st σ = EB j t L st σ := by
  rfl
theorem eo_54 : EO j ((54, k, f, z, w) :: ops) L (.inl x :: st) σ = EB j (ev_sel (ev_wr x) (ev_sw k).1 (ev_sw k).2) L st σ := by
  rfl
theorem eo_55 : EO j ((55, k, f, z, w) :: ops) L (.inl x :: st) σ = EB j (ev_sel (ev_wr x) (ev_sw k).1 (ev_sw k).2) L st σ := by
  rfl
theorem eo_56i : EO j ((56, 0, f, z, w) :: ops) L [.inl x] σ = some (some (.inl x), σ) := by
  rfl
theorem eo_56z (hc : x = 0 ∨ x = 1) : EO j ((56, 1, f, z, w) :: ops) L [.inl x] σ = some (some (.inl x), σ) := by
  unfold EO; simp only [ev_o, ev_x]; rw [if_pos (Or.inr hc)]
theorem eo_57 : EO j ((57, k, f, z, w) :: ops) L [.inr (.inr h)] σ = some (some (.inr (.inr h)), σ) := by
  rfl
theorem eo_58 : EO j ((58, k, f, z, w) :: ops) L ([] : List ev_V) σ = some (none, σ) := by
  rfl
noncomputable def ev_k (j : Nat) (ops : List ev_O) (L : ev_L) (st : List ev_V) (r : Option ev_R) : Option ev_R := match r with
  | none => none
  | some (v, σ) => EO j ops L (v.toList ++ st) σ
theorem ev_ki {j : Nat} {ops : List ev_O} {L : ev_L} {st : List ev_V} {v : ev_V} {σ : ev_M} : ev_k j ops L st (some (some v, σ)) = EO j ops L (v :: st) σ := rfl
theorem ev_kv {j : Nat} {ops : List ev_O} {L : ev_L} {st : List ev_V} {σ : ev_M} : ev_k j ops L st (some (none, σ)) = EO j ops L st σ := rfl
variable {a0 a1 a2 a3 a4 a5 : ev_V}
theorem eo_60_0 (hc : ev_w st ≤ 8) : EO j ((60, q, 0, z, w) :: ops) L (st) σ = ev_k j ops L st (EM q [] σ) := by
  unfold EO; simp only [ev_o, ev_x, ev_pop]; rw [if_pos hc]; dsimp only; unfold ev_k; rcases EM q [] σ with _ | ⟨v, σ1⟩ <;> rfl
theorem eo_59_1 (hc : ev_w st ≤ 8 ∧ (ev_cls i : Int) = w) : EO j ((59, q, 1, z, w) :: ops) L (.inr (.inl i) :: st) σ = ev_k j ops L st (EM q [.inr (.inl i)] σ) := by
  unfold EO; simp only [ev_o, ev_x, ev_pop]; rw [if_pos hc]; dsimp only; unfold ev_k; rcases EM q [.inr (.inl i)] σ with _ | ⟨v, σ1⟩ <;> rfl
theorem eo_60_1 (hc : ev_w st ≤ 8) : EO j ((60, q, 1, z, w) :: ops) L (a0 :: st) σ = ev_k j ops L st (EM q [a0] σ) := by
  unfold EO; simp only [ev_o, ev_x, ev_pop]; rw [if_pos hc]; dsimp only; unfold ev_k; rcases EM q [a0] σ with _ | ⟨v, σ1⟩ <;> rfl
theorem eo_59_2 (hc : ev_w st ≤ 8 ∧ (ev_cls i : Int) = w) : EO j ((59, q, 2, z, w) :: ops) L (a0 :: .inr (.inl i) :: st) σ = ev_k j ops L st (EM q [.inr (.inl i), a0] σ) := by
  unfold EO; simp only [ev_o, ev_x, ev_pop]; rw [if_pos hc]; dsimp only; unfold ev_k; rcases EM q [.inr (.inl i), a0] σ with _ | ⟨v, σ1⟩ <;> rfl
theorem eo_60_2 (hc : ev_w st ≤ 8) : EO j ((60, q, 2, z, w) :: ops) L (a1 :: a0 :: st) σ = ev_k j ops L st (EM q [a0, a1] σ) := by
  unfold EO; simp only [ev_o, ev_x, ev_pop]; rw [if_pos hc]; dsimp only; unfold ev_k; rcases EM q [a0, a1] σ with _ | ⟨v, σ1⟩ <;> rfl
theorem eo_59_3 (hc : ev_w st ≤ 8 ∧ (ev_cls i : Int) = w) : EO j ((59, q, 3, z, w) :: ops) L (a1 :: a0 :: .inr (.inl i) :: st) σ = ev_k j ops L st (EM q [.inr (.inl i), a0, a1] σ) := by
  unfold EO; simp only [ev_o, ev_x, ev_pop]; rw [if_pos hc]; dsimp only; unfold ev_k; rcases EM q [.inr (.inl i), a0, a1] σ with _ | ⟨v, σ1⟩ <;> rfl
theorem eo_60_3 (hc : ev_w st ≤ 8) : EO j ((60, q, 3, z, w) :: ops) L (a2 :: a1 :: a0 :: st) σ = ev_k j ops L st (EM q [a0, a1, a2] σ) := by
  unfold EO; simp only [ev_o, ev_x, ev_pop]; rw [if_pos hc]; dsimp only; unfold ev_k; rcases EM q [a0, a1, a2] σ with _ | ⟨v, σ1⟩ <;> rfl
theorem eo_59_4 (hc : ev_w st ≤ 8 ∧ (ev_cls i : Int) = w) : EO j ((59, q, 4, z, w) :: ops) L (a2 :: a1 :: a0 :: .inr (.inl i) :: st) σ = ev_k j ops L st (EM q [.inr (.inl i), a0, a1, a2] σ) := by
  unfold EO; simp only [ev_o, ev_x, ev_pop]; rw [if_pos hc]; dsimp only; unfold ev_k; rcases EM q [.inr (.inl i), a0, a1, a2] σ with _ | ⟨v, σ1⟩ <;> rfl
theorem eo_60_4 (hc : ev_w st ≤ 8) : EO j ((60, q, 4, z, w) :: ops) L (a3 :: a2 :: a1 :: a0 :: st) σ = ev_k j ops L st (EM q [a0, a1, a2, a3] σ) := by
  unfold EO; simp only [ev_o, ev_x, ev_pop]; rw [if_pos hc]; dsimp only; unfold ev_k; rcases EM q [a0, a1, a2, a3] σ with _ | ⟨v, σ1⟩ <;> rfl
theorem eo_59_5 (hc : ev_w st ≤ 8 ∧ (ev_cls i : Int) = w) : EO j ((59, q, 5, z, w) :: ops) L (a3 :: a2 :: a1 :: a0 :: .inr (.inl i) :: st) σ = ev_k j ops L st (EM q [.inr (.inl i), a0, a1, a2, a3] σ) := by
  unfold EO; simp only [ev_o, ev_x, ev_pop]; rw [if_pos hc]; dsimp only; unfold ev_k; rcases EM q [.inr (.inl i), a0, a1, a2, a3] σ with _ | ⟨v, σ1⟩ <;> rfl
theorem eo_60_5 (hc : ev_w st ≤ 8) : EO j ((60, q, 5, z, w) :: ops) L (a4 :: a3 :: a2 :: a1 :: a0 :: st) σ = ev_k j ops L st (EM q [a0, a1, a2, a3, a4] σ) := by
  unfold EO; simp only [ev_o, ev_x, ev_pop]; rw [if_pos hc]; dsimp only; unfold ev_k; rcases EM q [a0, a1, a2, a3, a4] σ with _ | ⟨v, σ1⟩ <;> rfl
theorem eo_59_6 (hc : ev_w st ≤ 8 ∧ (ev_cls i : Int) = w) : EO j ((59, q, 6, z, w) :: ops) L (a4 :: a3 :: a2 :: a1 :: a0 :: .inr (.inl i) :: st) σ = ev_k j ops L st (EM q [.inr (.inl i), a0, a1, a2, a3, a4] σ) := by
  unfold EO; simp only [ev_o, ev_x, ev_pop]; rw [if_pos hc]; dsimp only; unfold ev_k; rcases EM q [.inr (.inl i), a0, a1, a2, a3, a4] σ with _ | ⟨v, σ1⟩ <;> rfl
theorem eo_60_6 (hc : ev_w st ≤ 8) : EO j ((60, q, 6, z, w) :: ops) L (a5 :: a4 :: a3 :: a2 :: a1 :: a0 :: st) σ = ev_k j ops L st (EM q [a0, a1, a2, a3, a4, a5] σ) := by
  unfold EO; simp only [ev_o, ev_x, ev_pop]; rw [if_pos hc]; dsimp only; unfold ev_k; rcases EM q [a0, a1, a2, a3, a4, a5] σ with _ | ⟨v, σ1⟩ <;> rfl
theorem eo_61 {k' f' : Nat} {z' w' : Int} (hc : ev_cls x = 12 ∧ ev_cls y = 12) (h0 : 0 ≤ i ∧ 0 ≤ z ∧ 0 ≤ w) (h1 : i + w ≤ ev_len x) (h2 : z + w ≤ ev_len y) (h3 : ev_w st ≤ 8) : EO j ((61, k', f', z', w') :: ops) L (.inl w :: .inl z :: .inr (.inl y) :: .inl i :: .inr (.inl x) :: st) σ = EO j ops L st (ev_cp σ x i y z w) := by
  have h8 := ev_len_le x
  have h9 := ev_len_le y
  have e1 : ev_wr i = i := ev_wr_id (by omega) (by omega)
  have e2 : ev_wr z = z := ev_wr_id (by omega) (by omega)
  have e3 : ev_wr w = w := ev_wr_id (by omega) (by omega)
  unfold EO
  simp only [ev_o, ev_x, e1, e2, e3]
  rw [if_pos ⟨hc.1, hc.2, h0.1, h0.2.1, h0.2.2, h1, h2, h3⟩]
theorem eo_62 (hc : ev_w st ≤ 8) : EO j ((62, k, f, z, w) :: ops) L (.inl y :: .inl x :: st) σ = EO j ops L (.inl (if ev_wr x < ev_wr y then y else x) :: st) σ := by
  unfold EO; simp only [ev_o, ev_x]; rw [if_pos hc]
theorem eo_63 (hc : ev_w st ≤ 8) : EO j ((63, k, f, z, w) :: ops) L (.inl y :: .inl x :: st) σ = EO j ops L (.inl (if ev_wr y < ev_wr x then y else x) :: st) σ := by
  unfold EO; simp only [ev_o, ev_x]; rw [if_pos hc]
end EOS
theorem ev_up_eq {σ : ev_M} {i k v i' k' : Int} (h : i' = i ∧ k' = k) : ev_up σ i k v i' k' = v := by
  unfold ev_up
  rw [if_pos h]
theorem ev_up_ne {σ : ev_M} {i k v i' k' : Int} (h : i' ≠ i ∨ k' ≠ k) : ev_up σ i k v i' k' = σ i' k' := by
  unfold ev_up
  rw [if_neg (fun q => h.elim (fun z => z q.1) (fun z => z q.2))]
end
section
/-! the objects: states s + k (now: ev_n, supposed: ev_sp, kept ones), single ones by number; the instructions on them -/
def ev_n : Int := 0
def ev_sp : Int := 23
def ev_S (s : Int) : Prop := 0 ≤ s ∧ s ≤ 138 ∧ s % 23 = 0
theorem ev_S_n : ev_S ev_n := by unfold ev_S ev_n; decide
theorem ev_S_sp : ev_S ev_sp := by unfold ev_S ev_sp; decide
theorem ev_S_cases {s : Int} (h : ev_S s) : s = 0 ∨ s = 23 ∨ s = 46 ∨ s = 69 ∨ s = 92 ∨ s = 115 ∨ s = 138 := by
  obtain ⟨h0, h1, h2⟩ := h
  omega
theorem cS_0 {s : Int} (h : ev_S s) : ev_cls (s) = 7 ∧ ev_len (s) = 0 := by
  rcases ev_S_cases h with rfl | rfl | rfl | rfl | rfl | rfl | rfl <;> decide
theorem cS_1 {s : Int} (h : ev_S s) : ev_cls (s + 1) = 6 ∧ ev_len (s + 1) = 0 := by
  rcases ev_S_cases h with rfl | rfl | rfl | rfl | rfl | rfl | rfl <;> decide
theorem cS_2 {s : Int} (h : ev_S s) : ev_cls (s + 2) = 12 ∧ ev_len (s + 2) = 20 := by
  rcases ev_S_cases h with rfl | rfl | rfl | rfl | rfl | rfl | rfl <;> decide
theorem cS_3 {s : Int} (h : ev_S s) : ev_cls (s + 3) = 12 ∧ ev_len (s + 3) = 20 := by
  rcases ev_S_cases h with rfl | rfl | rfl | rfl | rfl | rfl | rfl <;> decide
theorem cS_4 {s : Int} (h : ev_S s) : ev_cls (s + 4) = 12 ∧ ev_len (s + 4) = 20 := by
  rcases ev_S_cases h with rfl | rfl | rfl | rfl | rfl | rfl | rfl <;> decide
theorem cS_5 {s : Int} (h : ev_S s) : ev_cls (s + 5) = 12 ∧ ev_len (s + 5) = 20 := by
  rcases ev_S_cases h with rfl | rfl | rfl | rfl | rfl | rfl | rfl <;> decide
theorem cS_6 {s : Int} (h : ev_S s) : ev_cls (s + 6) = 1 ∧ ev_len (s + 6) = 0 := by
  rcases ev_S_cases h with rfl | rfl | rfl | rfl | rfl | rfl | rfl <;> decide
theorem cS_7 {s : Int} (h : ev_S s) : ev_cls (s + 7) = 12 ∧ ev_len (s + 7) = 6 := by
  rcases ev_S_cases h with rfl | rfl | rfl | rfl | rfl | rfl | rfl <;> decide
theorem cS_8 {s : Int} (h : ev_S s) : ev_cls (s + 8) = 12 ∧ ev_len (s + 8) = 6 := by
  rcases ev_S_cases h with rfl | rfl | rfl | rfl | rfl | rfl | rfl <;> decide
theorem cS_9 {s : Int} (h : ev_S s) : ev_cls (s + 9) = 12 ∧ ev_len (s + 9) = 6 := by
  rcases ev_S_cases h with rfl | rfl | rfl | rfl | rfl | rfl | rfl <;> decide
theorem cS_10 {s : Int} (h : ev_S s) : ev_cls (s + 10) = 13 ∧ ev_len (s + 10) = 6 := by
  rcases ev_S_cases h with rfl | rfl | rfl | rfl | rfl | rfl | rfl <;> decide
theorem cS_11 {s : Int} (h : ev_S s) : ev_cls (s + 11) = 12 ∧ ev_len (s + 11) = 6 := by
  rcases ev_S_cases h with rfl | rfl | rfl | rfl | rfl | rfl | rfl <;> decide
theorem cS_12 {s : Int} (h : ev_S s) : ev_cls (s + 12) = 12 ∧ ev_len (s + 12) = 36 := by
  rcases ev_S_cases h with rfl | rfl | rfl | rfl | rfl | rfl | rfl <;> decide
theorem cS_13 {s : Int} (h : ev_S s) : ev_cls (s + 13) = 12 ∧ ev_len (s + 13) = 36 := by
  rcases ev_S_cases h with rfl | rfl | rfl | rfl | rfl | rfl | rfl <;> decide
theorem cS_14 {s : Int} (h : ev_S s) : ev_cls (s + 14) = 12 ∧ ev_len (s + 14) = 36 := by
  rcases ev_S_cases h with rfl | rfl | rfl | rfl | rfl | rfl | rfl <;> decide
theorem cS_15 {s : Int} (h : ev_S s) : ev_cls (s + 15) = 12 ∧ ev_len (s + 15) = 36 := by
  rcases ev_S_cases h with rfl | rfl | rfl | rfl | rfl | rfl | rfl <;> decide
theorem cS_16 {s : Int} (h : ev_S s) : ev_cls (s + 16) = 12 ∧ ev_len (s + 16) = 36 := by
  rcases ev_S_cases h with rfl | rfl | rfl | rfl | rfl | rfl | rfl <;> decide
theorem cS_17 {s : Int} (h : ev_S s) : ev_cls (s + 17) = 4 ∧ ev_len (s + 17) = 0 := by
  rcases ev_S_cases h with rfl | rfl | rfl | rfl | rfl | rfl | rfl <;> decide
theorem cS_18 {s : Int} (h : ev_S s) : ev_cls (s + 18) = 12 ∧ ev_len (s + 18) = 8 := by
  rcases ev_S_cases h with rfl | rfl | rfl | rfl | rfl | rfl | rfl <;> decide
theorem cS_19 {s : Int} (h : ev_S s) : ev_cls (s + 19) = 12 ∧ ev_len (s + 19) = 8 := by
  rcases ev_S_cases h with rfl | rfl | rfl | rfl | rfl | rfl | rfl <;> decide
theorem cS_20 {s : Int} (h : ev_S s) : ev_cls (s + 20) = 12 ∧ ev_len (s + 20) = 8 := by
  rcases ev_S_cases h with rfl | rfl | rfl | rfl | rfl | rfl | rfl <;> decide
theorem cS_21 {s : Int} (h : ev_S s) : ev_cls (s + 21) = 12 ∧ ev_len (s + 21) = 3 := by
  rcases ev_S_cases h with rfl | rfl | rfl | rfl | rfl | rfl | rfl <;> decide
theorem cS_22 {s : Int} (h : ev_S s) : ev_cls (s + 22) = 12 ∧ ev_len (s + 22) = 12 := by
  rcases ev_S_cases h with rfl | rfl | rfl | rfl | rfl | rfl | rfl <;> decide
section IDS
variable {j : Nat} {ops : List ev_O} {L : ev_L} {st : List ev_V} {σ : ev_M} {k f e c t n q : Nat} {z w x y s : Int} {a b : ev_V} {h g : Int64} {i : Int} {R : Option ev_R}
theorem g0_27 : EO j ((27, e, 0, z, w) :: ops) L (.inr (.inl (179)) :: st) σ = EO j ops L (.inl (σ (179) z) :: st) σ := eo_27 (by decide)
theorem g0_30 : EO j ((30, e, 0, z, w) :: ops) L (.inl x :: .inr (.inl (179)) :: st) σ = EO j ops L st (ev_up σ (179) z x) := eo_30 (by decide)
theorem g0_28_1 : EO j ((28, e, 0, 1, 1) :: ops) L (.inr (.inl (179)) :: st) σ = EO j ops L (.inr (.inl (180)) :: st) σ := eo_28 (by decide)
theorem g0_28_2 : EO j ((28, e, 0, 2, 2) :: ops) L (.inr (.inl (179)) :: st) σ = EO j ops L (.inr (.inl (181)) :: st) σ := eo_28 (by decide)
theorem g1_27 (hs : ev_S s) : EO j ((27, e, 1, z, w) :: ops) L (.inr (.inl (s + 6)) :: st) σ = EO j ops L (.inl (σ (s + 6) z) :: st) σ := eo_27 ((cS_6 hs).1)
theorem g1_30 (hs : ev_S s) : EO j ((30, e, 1, z, w) :: ops) L (.inl x :: .inr (.inl (s + 6)) :: st) σ = EO j ops L st (ev_up σ (s + 6) z x) := eo_30 ((cS_6 hs).1)
theorem g1_28_1 (hs : ev_S s) : EO j ((28, e, 1, 1, 1) :: ops) L (.inr (.inl (s + 6)) :: st) σ = EO j ops L (.inr (.inl (s + 7)) :: st) σ := (eo_28 ((cS_6 hs).1)).trans (by rw [Int.add_assoc]; rfl)
theorem g1_28_2 (hs : ev_S s) : EO j ((28, e, 1, 2, 2) :: ops) L (.inr (.inl (s + 6)) :: st) σ = EO j ops L (.inr (.inl (s + 8)) :: st) σ := (eo_28 ((cS_6 hs).1)).trans (by rw [Int.add_assoc]; rfl)
theorem g1_28_3 (hs : ev_S s) : EO j ((28, e, 1, 3, 3) :: ops) L (.inr (.inl (s + 6)) :: st) σ = EO j ops L (.inr (.inl (s + 9)) :: st) σ := (eo_28 ((cS_6 hs).1)).trans (by rw [Int.add_assoc]; rfl)
theorem g1_28_4 (hs : ev_S s) : EO j ((28, e, 1, 4, 4) :: ops) L (.inr (.inl (s + 6)) :: st) σ = EO j ops L (.inr (.inl (s + 10)) :: st) σ := (eo_28 ((cS_6 hs).1)).trans (by rw [Int.add_assoc]; rfl)
theorem g1_28_5 (hs : ev_S s) : EO j ((28, e, 1, 5, 5) :: ops) L (.inr (.inl (s + 6)) :: st) σ = EO j ops L (.inr (.inl (s + 11)) :: st) σ := (eo_28 ((cS_6 hs).1)).trans (by rw [Int.add_assoc]; rfl)
theorem g1_28_6 (hs : ev_S s) : EO j ((28, e, 1, 6, 6) :: ops) L (.inr (.inl (s + 6)) :: st) σ = EO j ops L (.inr (.inl (s + 12)) :: st) σ := (eo_28 ((cS_6 hs).1)).trans (by rw [Int.add_assoc]; rfl)
theorem g1_28_7 (hs : ev_S s) : EO j ((28, e, 1, 7, 7) :: ops) L (.inr (.inl (s + 6)) :: st) σ = EO j ops L (.inr (.inl (s + 13)) :: st) σ := (eo_28 ((cS_6 hs).1)).trans (by rw [Int.add_assoc]; rfl)
theorem g1_28_8 (hs : ev_S s) : EO j ((28, e, 1, 8, 8) :: ops) L (.inr (.inl (s + 6)) :: st) σ = EO j ops L (.inr (.inl (s + 14)) :: st) σ := (eo_28 ((cS_6 hs).1)).trans (by rw [Int.add_assoc]; rfl)
theorem g1_28_9 (hs : ev_S s) : EO j ((28, e, 1, 9, 9) :: ops) L (.inr (.inl (s + 6)) :: st) σ = EO j ops L (.inr (.inl (s + 15)) :: st) σ := (eo_28 ((cS_6 hs).1)).trans (by rw [Int.add_assoc]; rfl)
theorem g1_28_10 (hs : ev_S s) : EO j ((28, e, 1, 10, 10) :: ops) L (.inr (.inl (s + 6)) :: st) σ = EO j ops L (.inr (.inl (s + 16)) :: st) σ := (eo_28 ((cS_6 hs).1)).trans (by rw [Int.add_assoc]; rfl)
theorem g2_28_0 : EO j ((28, e, 2, 0, 1) :: ops) L (.inr (.inl (170)) :: st) σ = EO j ops L (.inr (.inl (171)) :: st) σ := eo_28 (by decide)
theorem g2_28_1 : EO j ((28, e, 2, 1, 2) :: ops) L (.inr (.inl (170)) :: st) σ = EO j ops L (.inr (.inl (172)) :: st) σ := eo_28 (by decide)
theorem g3_27 : EO j ((27, e, 3, z, w) :: ops) L (.inr (.inl (162)) :: st) σ = EO j ops L (.inl (σ (162) z) :: st) σ := eo_27 (by decide)
theorem g3_30 : EO j ((30, e, 3, z, w) :: ops) L (.inl x :: .inr (.inl (162)) :: st) σ = EO j ops L st (ev_up σ (162) z x) := eo_30 (by decide)
theorem g3_28_1 : EO j ((28, e, 3, 1, 1) :: ops) L (.inr (.inl (162)) :: st) σ = EO j ops L (.inr (.inl (163)) :: st) σ := eo_28 (by decide)
theorem g4_27 (hs : ev_S s) : EO j ((27, e, 4, z, w) :: ops) L (.inr (.inl (s + 17)) :: st) σ = EO j ops L (.inl (σ (s + 17) z) :: st) σ := eo_27 ((cS_17 hs).1)
theorem g4_30 (hs : ev_S s) : EO j ((30, e, 4, z, w) :: ops) L (.inl x :: .inr (.inl (s + 17)) :: st) σ = EO j ops L st (ev_up σ (s + 17) z x) := eo_30 ((cS_17 hs).1)
theorem g4_28_2 (hs : ev_S s) : EO j ((28, e, 4, 2, 1) :: ops) L (.inr (.inl (s + 17)) :: st) σ = EO j ops L (.inr (.inl (s + 18)) :: st) σ := (eo_28 ((cS_17 hs).1)).trans (by rw [Int.add_assoc]; rfl)
theorem g4_28_3 (hs : ev_S s) : EO j ((28, e, 4, 3, 2) :: ops) L (.inr (.inl (s + 17)) :: st) σ = EO j ops L (.inr (.inl (s + 19)) :: st) σ := (eo_28 ((cS_17 hs).1)).trans (by rw [Int.add_assoc]; rfl)
theorem g4_28_4 (hs : ev_S s) : EO j ((28, e, 4, 4, 3) :: ops) L (.inr (.inl (s + 17)) :: st) σ = EO j ops L (.inr (.inl (s + 20)) :: st) σ := (eo_28 ((cS_17 hs).1)).trans (by rw [Int.add_assoc]; rfl)
theorem g4_28_5 (hs : ev_S s) : EO j ((28, e, 4, 5, 4) :: ops) L (.inr (.inl (s + 17)) :: st) σ = EO j ops L (.inr (.inl (s + 21)) :: st) σ := (eo_28 ((cS_17 hs).1)).trans (by rw [Int.add_assoc]; rfl)
theorem g4_28_6 (hs : ev_S s) : EO j ((28, e, 4, 6, 5) :: ops) L (.inr (.inl (s + 17)) :: st) σ = EO j ops L (.inr (.inl (s + 22)) :: st) σ := (eo_28 ((cS_17 hs).1)).trans (by rw [Int.add_assoc]; rfl)
theorem g5_27 : EO j ((27, e, 5, z, w) :: ops) L (.inr (.inl (164)) :: st) σ = EO j ops L (.inl (σ (164) z) :: st) σ := eo_27 (by decide)
theorem g5_30 : EO j ((30, e, 5, z, w) :: ops) L (.inl x :: .inr (.inl (164)) :: st) σ = EO j ops L st (ev_up σ (164) z x) := eo_30 (by decide)
theorem g5_28_0 : EO j ((28, e, 5, 0, 1) :: ops) L (.inr (.inl (164)) :: st) σ = EO j ops L (.inr (.inl (165)) :: st) σ := eo_28 (by decide)
theorem g5_28_7 : EO j ((28, e, 5, 7, 2) :: ops) L (.inr (.inl (164)) :: st) σ = EO j ops L (.inr (.inl (166)) :: st) σ := eo_28 (by decide)
theorem g5_28_8 : EO j ((28, e, 5, 8, 3) :: ops) L (.inr (.inl (164)) :: st) σ = EO j ops L (.inr (.inl (167)) :: st) σ := eo_28 (by decide)
theorem g5_28_9 : EO j ((28, e, 5, 9, 4) :: ops) L (.inr (.inl (164)) :: st) σ = EO j ops L (.inr (.inl (168)) :: st) σ := eo_28 (by decide)
theorem g5_28_10 : EO j ((28, e, 5, 10, 5) :: ops) L (.inr (.inl (164)) :: st) σ = EO j ops L (.inr (.inl (169)) :: st) σ := eo_28 (by decide)
theorem g6_27 (hs : ev_S s) : EO j ((27, e, 6, z, w) :: ops) L (.inr (.inl (s + 1)) :: st) σ = EO j ops L (.inl (σ (s + 1) z) :: st) σ := eo_27 ((cS_1 hs).1)
theorem g6_30 (hs : ev_S s) : EO j ((30, e, 6, z, w) :: ops) L (.inl x :: .inr (.inl (s + 1)) :: st) σ = EO j ops L st (ev_up σ (s + 1) z x) := eo_30 ((cS_1 hs).1)
theorem g6_28_2 (hs : ev_S s) : EO j ((28, e, 6, 2, 1) :: ops) L (.inr (.inl (s + 1)) :: st) σ = EO j ops L (.inr (.inl (s + 2)) :: st) σ := (eo_28 ((cS_1 hs).1)).trans (by rw [Int.add_assoc]; rfl)
theorem g6_28_3 (hs : ev_S s) : EO j ((28, e, 6, 3, 2) :: ops) L (.inr (.inl (s + 1)) :: st) σ = EO j ops L (.inr (.inl (s + 3)) :: st) σ := (eo_28 ((cS_1 hs).1)).trans (by rw [Int.add_assoc]; rfl)
theorem g6_28_4 (hs : ev_S s) : EO j ((28, e, 6, 4, 3) :: ops) L (.inr (.inl (s + 1)) :: st) σ = EO j ops L (.inr (.inl (s + 4)) :: st) σ := (eo_28 ((cS_1 hs).1)).trans (by rw [Int.add_assoc]; rfl)
theorem g6_28_5 (hs : ev_S s) : EO j ((28, e, 6, 5, 4) :: ops) L (.inr (.inl (s + 1)) :: st) σ = EO j ops L (.inr (.inl (s + 5)) :: st) σ := (eo_28 ((cS_1 hs).1)).trans (by rw [Int.add_assoc]; rfl)
theorem g7_27 (hs : ev_S s) : EO j ((27, e, 7, z, w) :: ops) L (.inr (.inl (s)) :: st) σ = EO j ops L (.inl (σ (s) z) :: st) σ := eo_27 ((cS_0 hs).1)
theorem g7_30 (hs : ev_S s) : EO j ((30, e, 7, z, w) :: ops) L (.inl x :: .inr (.inl (s)) :: st) σ = EO j ops L st (ev_up σ (s) z x) := eo_30 ((cS_0 hs).1)
theorem g7_28_0 (hs : ev_S s) : EO j ((28, e, 7, 0, 1) :: ops) L (.inr (.inl (s)) :: st) σ = EO j ops L (.inr (.inl (s + 1)) :: st) σ := eo_28 ((cS_0 hs).1)
theorem g7_28_1 (hs : ev_S s) : EO j ((28, e, 7, 1, 6) :: ops) L (.inr (.inl (s)) :: st) σ = EO j ops L (.inr (.inl (s + 6)) :: st) σ := eo_28 ((cS_0 hs).1)
theorem g7_28_2 (hs : ev_S s) : EO j ((28, e, 7, 2, 17) :: ops) L (.inr (.inl (s)) :: st) σ = EO j ops L (.inr (.inl (s + 17)) :: st) σ := eo_28 ((cS_0 hs).1)
theorem g8_27 : EO j ((27, e, 8, z, w) :: ops) L (.inr (.inl (177)) :: st) σ = EO j ops L (.inl (σ (177) z) :: st) σ := eo_27 (by decide)
theorem g8_30 : EO j ((30, e, 8, z, w) :: ops) L (.inl x :: .inr (.inl (177)) :: st) σ = EO j ops L st (ev_up σ (177) z x) := eo_30 (by decide)
theorem g8_28_1 : EO j ((28, e, 8, 1, 1) :: ops) L (.inr (.inl (177)) :: st) σ = EO j ops L (.inr (.inl (178)) :: st) σ := eo_28 (by decide)
theorem g9_28_0 : EO j ((28, e, 9, 0, 1) :: ops) L (.inr (.inl (173)) :: st) σ = EO j ops L (.inr (.inl (174)) :: st) σ := eo_28 (by decide)
theorem g9_28_1 : EO j ((28, e, 9, 1, 2) :: ops) L (.inr (.inl (173)) :: st) σ = EO j ops L (.inr (.inl (175)) :: st) σ := eo_28 (by decide)
theorem g9_28_2 : EO j ((28, e, 9, 2, 3) :: ops) L (.inr (.inl (173)) :: st) σ = EO j ops L (.inr (.inl (176)) :: st) σ := eo_28 (by decide)
theorem g10_28_0 : EO j ((28, e, 10, 0, (-161)) :: ops) L (.inr (.inl (161)) :: st) σ = EO j ops L (.inr (.inl (ev_n)) :: st) σ := eo_28 (by decide)
theorem g10_28_1 : EO j ((28, e, 10, 1, (-138)) :: ops) L (.inr (.inl (161)) :: st) σ = EO j ops L (.inr (.inl (ev_sp)) :: st) σ := eo_28 (by decide)
theorem g10_28_2 : EO j ((28, e, 10, 2, 1) :: ops) L (.inr (.inl (161)) :: st) σ = EO j ops L (.inr (.inl (162)) :: st) σ := eo_28 (by decide)
theorem g10_28_3 : EO j ((28, e, 10, 3, 3) :: ops) L (.inr (.inl (161)) :: st) σ = EO j ops L (.inr (.inl (164)) :: st) σ := eo_28 (by decide)
theorem g10_28_4 : EO j ((28, e, 10, 4, 9) :: ops) L (.inr (.inl (161)) :: st) σ = EO j ops L (.inr (.inl (170)) :: st) σ := eo_28 (by decide)
theorem g10_28_5 : EO j ((28, e, 10, 5, 12) :: ops) L (.inr (.inl (161)) :: st) σ = EO j ops L (.inr (.inl (173)) :: st) σ := eo_28 (by decide)
theorem g10_28_6 : EO j ((28, e, 10, 6, 16) :: ops) L (.inr (.inl (161)) :: st) σ = EO j ops L (.inr (.inl (177)) :: st) σ := eo_28 (by decide)
theorem g10_28_7 : EO j ((28, e, 10, 7, 18) :: ops) L (.inr (.inl (161)) :: st) σ = EO j ops L (.inr (.inl (179)) :: st) σ := eo_28 (by decide)
theorem a32_s2 (hs : ev_S s) (h0 : 0 ≤ x) (h1 : x < 20) : EO j ((32, k, f, z, w) :: ops) L (.inl x :: .inr (.inl (s + 2)) :: st) σ = EO j ops L (.inl (σ (s + 2) x) :: st) σ := eo_32 ((cS_2 hs).1) h0 (by rw [(cS_2 hs).2]; exact h1)
theorem a33_s2 (hs : ev_S s) (h0 : 0 ≤ x) (h1 : x < 20) : EO j ((33, k, f, z, w) :: ops) L (.inl y :: .inl x :: .inr (.inl (s + 2)) :: st) σ = EO j ops L st (ev_up σ (s + 2) x y) := eo_33 ((cS_2 hs).1) h0 (by rw [(cS_2 hs).2]; exact h1)
theorem a32_s3 (hs : ev_S s) (h0 : 0 ≤ x) (h1 : x < 20) : EO j ((32, k, f, z, w) :: ops) L (.inl x :: .inr (.inl (s + 3)) :: st) σ = EO j ops L (.inl (σ (s + 3) x) :: st) σ := eo_32 ((cS_3 hs).1) h0 (by rw [(cS_3 hs).2]; exact h1)
theorem a33_s3 (hs : ev_S s) (h0 : 0 ≤ x) (h1 : x < 20) : EO j ((33, k, f, z, w) :: ops) L (.inl y :: .inl x :: .inr (.inl (s + 3)) :: st) σ = EO j ops L st (ev_up σ (s + 3) x y) := eo_33 ((cS_3 hs).1) h0 (by rw [(cS_3 hs).2]; exact h1)
theorem a32_s4 (hs : ev_S s) (h0 : 0 ≤ x) (h1 : x < 20) : EO j ((32, k, f, z, w) :: ops) L (.inl x :: .inr (.inl (s + 4)) :: st) σ = EO j ops L (.inl (σ (s + 4) x) :: st) σ := eo_32 ((cS_4 hs).1) h0 (by rw [(cS_4 hs).2]; exact h1)
theorem a33_s4 (hs : ev_S s) (h0 : 0 ≤ x) (h1 : x < 20) : EO j ((33, k, f, z, w) :: ops) L (.inl y :: .inl x :: .inr (.inl (s + 4)) :: st) σ = EO j ops L st (ev_up σ (s + 4) x y) := eo_33 ((cS_4 hs).1) h0 (by rw [(cS_4 hs).2]; exact h1)
theorem a32_s5 (hs : ev_S s) (h0 : 0 ≤ x) (h1 : x < 20) : EO j ((32, k, f, z, w) :: ops) L (.inl x :: .inr (.inl (s + 5)) :: st) σ = EO j ops L (.inl (σ (s + 5) x) :: st) σ := eo_32 ((cS_5 hs).1) h0 (by rw [(cS_5 hs).2]; exact h1)
theorem a33_s5 (hs : ev_S s) (h0 : 0 ≤ x) (h1 : x < 20) : EO j ((33, k, f, z, w) :: ops) L (.inl y :: .inl x :: .inr (.inl (s + 5)) :: st) σ = EO j ops L st (ev_up σ (s + 5) x y) := eo_33 ((cS_5 hs).1) h0 (by rw [(cS_5 hs).2]; exact h1)
theorem a32_s7 (hs : ev_S s) (h0 : 0 ≤ x) (h1 : x < 6) : EO j ((32, k, f, z, w) :: ops) L (.inl x :: .inr (.inl (s + 7)) :: st) σ = EO j ops L (.inl (σ (s + 7) x) :: st) σ := eo_32 ((cS_7 hs).1) h0 (by rw [(cS_7 hs).2]; exact h1)
theorem a33_s7 (hs : ev_S s) (h0 : 0 ≤ x) (h1 : x < 6) : EO j ((33, k, f, z, w) :: ops) L (.inl y :: .inl x :: .inr (.inl (s + 7)) :: st) σ = EO j ops L st (ev_up σ (s + 7) x y) := eo_33 ((cS_7 hs).1) h0 (by rw [(cS_7 hs).2]; exact h1)
theorem a32_s8 (hs : ev_S s) (h0 : 0 ≤ x) (h1 : x < 6) : EO j ((32, k, f, z, w) :: ops) L (.inl x :: .inr (.inl (s + 8)) :: st) σ = EO j ops L (.inl (σ (s + 8) x) :: st) σ := eo_32 ((cS_8 hs).1) h0 (by rw [(cS_8 hs).2]; exact h1)
theorem a33_s8 (hs : ev_S s) (h0 : 0 ≤ x) (h1 : x < 6) : EO j ((33, k, f, z, w) :: ops) L (.inl y :: .inl x :: .inr (.inl (s + 8)) :: st) σ = EO j ops L st (ev_up σ (s + 8) x y) := eo_33 ((cS_8 hs).1) h0 (by rw [(cS_8 hs).2]; exact h1)
theorem a32_s9 (hs : ev_S s) (h0 : 0 ≤ x) (h1 : x < 6) : EO j ((32, k, f, z, w) :: ops) L (.inl x :: .inr (.inl (s + 9)) :: st) σ = EO j ops L (.inl (σ (s + 9) x) :: st) σ := eo_32 ((cS_9 hs).1) h0 (by rw [(cS_9 hs).2]; exact h1)
theorem a33_s9 (hs : ev_S s) (h0 : 0 ≤ x) (h1 : x < 6) : EO j ((33, k, f, z, w) :: ops) L (.inl y :: .inl x :: .inr (.inl (s + 9)) :: st) σ = EO j ops L st (ev_up σ (s + 9) x y) := eo_33 ((cS_9 hs).1) h0 (by rw [(cS_9 hs).2]; exact h1)
theorem a34_s10 (hs : ev_S s) (h0 : 0 ≤ x) (h1 : x < 6) : EO j ((34, k, f, z, w) :: ops) L (.inl x :: .inr (.inl (s + 10)) :: st) σ = EO j ops L (.inl (σ (s + 10) x) :: st) σ := eo_34 ((cS_10 hs).1) h0 (by rw [(cS_10 hs).2]; exact h1)
theorem a35_s10 (hs : ev_S s) (h0 : 0 ≤ x) (h1 : x < 6) (h2 : 0 ≤ y ∧ y ≤ 1) : EO j ((35, k, f, z, w) :: ops) L (.inl y :: .inl x :: .inr (.inl (s + 10)) :: st) σ = EO j ops L st (ev_up σ (s + 10) x y) := eo_35 ((cS_10 hs).1) h0 (by rw [(cS_10 hs).2]; exact h1) h2
theorem a32_s11 (hs : ev_S s) (h0 : 0 ≤ x) (h1 : x < 6) : EO j ((32, k, f, z, w) :: ops) L (.inl x :: .inr (.inl (s + 11)) :: st) σ = EO j ops L (.inl (σ (s + 11) x) :: st) σ := eo_32 ((cS_11 hs).1) h0 (by rw [(cS_11 hs).2]; exact h1)
theorem a33_s11 (hs : ev_S s) (h0 : 0 ≤ x) (h1 : x < 6) : EO j ((33, k, f, z, w) :: ops) L (.inl y :: .inl x :: .inr (.inl (s + 11)) :: st) σ = EO j ops L st (ev_up σ (s + 11) x y) := eo_33 ((cS_11 hs).1) h0 (by rw [(cS_11 hs).2]; exact h1)
theorem a32_s12 (hs : ev_S s) (h0 : 0 ≤ x) (h1 : x < 36) : EO j ((32, k, f, z, w) :: ops) L (.inl x :: .inr (.inl (s + 12)) :: st) σ = EO j ops L (.inl (σ (s + 12) x) :: st) σ := eo_32 ((cS_12 hs).1) h0 (by rw [(cS_12 hs).2]; exact h1)
theorem a33_s12 (hs : ev_S s) (h0 : 0 ≤ x) (h1 : x < 36) : EO j ((33, k, f, z, w) :: ops) L (.inl y :: .inl x :: .inr (.inl (s + 12)) :: st) σ = EO j ops L st (ev_up σ (s + 12) x y) := eo_33 ((cS_12 hs).1) h0 (by rw [(cS_12 hs).2]; exact h1)
theorem a32_s13 (hs : ev_S s) (h0 : 0 ≤ x) (h1 : x < 36) : EO j ((32, k, f, z, w) :: ops) L (.inl x :: .inr (.inl (s + 13)) :: st) σ = EO j ops L (.inl (σ (s + 13) x) :: st) σ := eo_32 ((cS_13 hs).1) h0 (by rw [(cS_13 hs).2]; exact h1)
theorem a33_s13 (hs : ev_S s) (h0 : 0 ≤ x) (h1 : x < 36) : EO j ((33, k, f, z, w) :: ops) L (.inl y :: .inl x :: .inr (.inl (s + 13)) :: st) σ = EO j ops L st (ev_up σ (s + 13) x y) := eo_33 ((cS_13 hs).1) h0 (by rw [(cS_13 hs).2]; exact h1)
theorem a32_s14 (hs : ev_S s) (h0 : 0 ≤ x) (h1 : x < 36) : EO j ((32, k, f, z, w) :: ops) L (.inl x :: .inr (.inl (s + 14)) :: st) σ = EO j ops L (.inl (σ (s + 14) x) :: st) σ := eo_32 ((cS_14 hs).1) h0 (by rw [(cS_14 hs).2]; exact h1)
theorem a33_s14 (hs : ev_S s) (h0 : 0 ≤ x) (h1 : x < 36) : EO j ((33, k, f, z, w) :: ops) L (.inl y :: .inl x :: .inr (.inl (s + 14)) :: st) σ = EO j ops L st (ev_up σ (s + 14) x y) := eo_33 ((cS_14 hs).1) h0 (by rw [(cS_14 hs).2]; exact h1)
theorem a32_s15 (hs : ev_S s) (h0 : 0 ≤ x) (h1 : x < 36) : EO j ((32, k, f, z, w) :: ops) L (.inl x :: .inr (.inl (s + 15)) :: st) σ = EO j ops L (.inl (σ (s + 15) x) :: st) σ := eo_32 ((cS_15 hs).1) h0 (by rw [(cS_15 hs).2]; exact h1)
theorem a33_s15 (hs : ev_S s) (h0 : 0 ≤ x) (h1 : x < 36) : EO j ((33, k, f, z, w) :: ops) L (.inl y :: .inl x :: .inr (.inl (s + 15)) :: st) σ = EO j ops L st (ev_up σ (s + 15) x y) := eo_33 ((cS_15 hs).1) h0 (by rw [(cS_15 hs).2]; exact h1)
theorem a32_s16 (hs : ev_S s) (h0 : 0 ≤ x) (h1 : x < 36) : EO j ((32, k, f, z, w) :: ops) L (.inl x :: .inr (.inl (s + 16)) :: st) σ = EO j ops L (.inl (σ (s + 16) x) :: st) σ := eo_32 ((cS_16 hs).1) h0 (by rw [(cS_16 hs).2]; exact h1)
theorem a33_s16 (hs : ev_S s) (h0 : 0 ≤ x) (h1 : x < 36) : EO j ((33, k, f, z, w) :: ops) L (.inl y :: .inl x :: .inr (.inl (s + 16)) :: st) σ = EO j ops L st (ev_up σ (s + 16) x y) := eo_33 ((cS_16 hs).1) h0 (by rw [(cS_16 hs).2]; exact h1)
theorem a32_s18 (hs : ev_S s) (h0 : 0 ≤ x) (h1 : x < 8) : EO j ((32, k, f, z, w) :: ops) L (.inl x :: .inr (.inl (s + 18)) :: st) σ = EO j ops L (.inl (σ (s + 18) x) :: st) σ := eo_32 ((cS_18 hs).1) h0 (by rw [(cS_18 hs).2]; exact h1)
theorem a33_s18 (hs : ev_S s) (h0 : 0 ≤ x) (h1 : x < 8) : EO j ((33, k, f, z, w) :: ops) L (.inl y :: .inl x :: .inr (.inl (s + 18)) :: st) σ = EO j ops L st (ev_up σ (s + 18) x y) := eo_33 ((cS_18 hs).1) h0 (by rw [(cS_18 hs).2]; exact h1)
theorem a32_s19 (hs : ev_S s) (h0 : 0 ≤ x) (h1 : x < 8) : EO j ((32, k, f, z, w) :: ops) L (.inl x :: .inr (.inl (s + 19)) :: st) σ = EO j ops L (.inl (σ (s + 19) x) :: st) σ := eo_32 ((cS_19 hs).1) h0 (by rw [(cS_19 hs).2]; exact h1)
theorem a33_s19 (hs : ev_S s) (h0 : 0 ≤ x) (h1 : x < 8) : EO j ((33, k, f, z, w) :: ops) L (.inl y :: .inl x :: .inr (.inl (s + 19)) :: st) σ = EO j ops L st (ev_up σ (s + 19) x y) := eo_33 ((cS_19 hs).1) h0 (by rw [(cS_19 hs).2]; exact h1)
theorem a32_s20 (hs : ev_S s) (h0 : 0 ≤ x) (h1 : x < 8) : EO j ((32, k, f, z, w) :: ops) L (.inl x :: .inr (.inl (s + 20)) :: st) σ = EO j ops L (.inl (σ (s + 20) x) :: st) σ := eo_32 ((cS_20 hs).1) h0 (by rw [(cS_20 hs).2]; exact h1)
theorem a33_s20 (hs : ev_S s) (h0 : 0 ≤ x) (h1 : x < 8) : EO j ((33, k, f, z, w) :: ops) L (.inl y :: .inl x :: .inr (.inl (s + 20)) :: st) σ = EO j ops L st (ev_up σ (s + 20) x y) := eo_33 ((cS_20 hs).1) h0 (by rw [(cS_20 hs).2]; exact h1)
theorem a32_s21 (hs : ev_S s) (h0 : 0 ≤ x) (h1 : x < 3) : EO j ((32, k, f, z, w) :: ops) L (.inl x :: .inr (.inl (s + 21)) :: st) σ = EO j ops L (.inl (σ (s + 21) x) :: st) σ := eo_32 ((cS_21 hs).1) h0 (by rw [(cS_21 hs).2]; exact h1)
theorem a33_s21 (hs : ev_S s) (h0 : 0 ≤ x) (h1 : x < 3) : EO j ((33, k, f, z, w) :: ops) L (.inl y :: .inl x :: .inr (.inl (s + 21)) :: st) σ = EO j ops L st (ev_up σ (s + 21) x y) := eo_33 ((cS_21 hs).1) h0 (by rw [(cS_21 hs).2]; exact h1)
theorem a32_s22 (hs : ev_S s) (h0 : 0 ≤ x) (h1 : x < 12) : EO j ((32, k, f, z, w) :: ops) L (.inl x :: .inr (.inl (s + 22)) :: st) σ = EO j ops L (.inl (σ (s + 22) x) :: st) σ := eo_32 ((cS_22 hs).1) h0 (by rw [(cS_22 hs).2]; exact h1)
theorem a33_s22 (hs : ev_S s) (h0 : 0 ≤ x) (h1 : x < 12) : EO j ((33, k, f, z, w) :: ops) L (.inl y :: .inl x :: .inr (.inl (s + 22)) :: st) σ = EO j ops L st (ev_up σ (s + 22) x y) := eo_33 ((cS_22 hs).1) h0 (by rw [(cS_22 hs).2]; exact h1)
theorem a36_163 (h0 : 0 ≤ x) (h1 : x < 5) : EO j ((36, k, f, z, w) :: ops) L (.inl x :: .inr (.inl (163)) :: st) σ = EO j ops L (.inr (.inl (σ (163) x)) :: st) σ := eo_36 (by decide) h0 (by rw [show ev_len 163 = 5 by decide]; exact h1)
theorem a37_163 (h0 : 0 ≤ x) (h1 : x < 5) (h2 : ev_S y) : EO j ((37, k, f, z, w) :: ops) L (.inr (.inl y) :: .inl x :: .inr (.inl (163)) :: st) σ = EO j ops L st (ev_up σ (163) x y) := eo_37 (by decide) h0 (by rw [show ev_len 163 = 5 by decide]; exact h1) (cS_0 h2).1
theorem a32_165 (h0 : 0 ≤ x) (h1 : x < 100) : EO j ((32, k, f, z, w) :: ops) L (.inl x :: .inr (.inl (165)) :: st) σ = EO j ops L (.inl (σ (165) x) :: st) σ := eo_32 (by decide) h0 (by rw [show ev_len 165 = 100 by decide]; exact h1)
theorem a33_165 (h0 : 0 ≤ x) (h1 : x < 100) : EO j ((33, k, f, z, w) :: ops) L (.inl y :: .inl x :: .inr (.inl (165)) :: st) σ = EO j ops L st (ev_up σ (165) x y) := eo_33 (by decide) h0 (by rw [show ev_len 165 = 100 by decide]; exact h1)
theorem a32_166 (h0 : 0 ≤ x) (h1 : x < 20) : EO j ((32, k, f, z, w) :: ops) L (.inl x :: .inr (.inl (166)) :: st) σ = EO j ops L (.inl (σ (166) x) :: st) σ := eo_32 (by decide) h0 (by rw [show ev_len 166 = 20 by decide]; exact h1)
theorem a33_166 (h0 : 0 ≤ x) (h1 : x < 20) : EO j ((33, k, f, z, w) :: ops) L (.inl y :: .inl x :: .inr (.inl (166)) :: st) σ = EO j ops L st (ev_up σ (166) x y) := eo_33 (by decide) h0 (by rw [show ev_len 166 = 20 by decide]; exact h1)
theorem a32_167 (h0 : 0 ≤ x) (h1 : x < 20) : EO j ((32, k, f, z, w) :: ops) L (.inl x :: .inr (.inl (167)) :: st) σ = EO j ops L (.inl (σ (167) x) :: st) σ := eo_32 (by decide) h0 (by rw [show ev_len 167 = 20 by decide]; exact h1)
theorem a33_167 (h0 : 0 ≤ x) (h1 : x < 20) : EO j ((33, k, f, z, w) :: ops) L (.inl y :: .inl x :: .inr (.inl (167)) :: st) σ = EO j ops L st (ev_up σ (167) x y) := eo_33 (by decide) h0 (by rw [show ev_len 167 = 20 by decide]; exact h1)
theorem a32_168 (h0 : 0 ≤ x) (h1 : x < 20) : EO j ((32, k, f, z, w) :: ops) L (.inl x :: .inr (.inl (168)) :: st) σ = EO j ops L (.inl (σ (168) x) :: st) σ := eo_32 (by decide) h0 (by rw [show ev_len 168 = 20 by decide]; exact h1)
theorem a33_168 (h0 : 0 ≤ x) (h1 : x < 20) : EO j ((33, k, f, z, w) :: ops) L (.inl y :: .inl x :: .inr (.inl (168)) :: st) σ = EO j ops L st (ev_up σ (168) x y) := eo_33 (by decide) h0 (by rw [show ev_len 168 = 20 by decide]; exact h1)
theorem a34_169 (h0 : 0 ≤ x) (h1 : x < 20) : EO j ((34, k, f, z, w) :: ops) L (.inl x :: .inr (.inl (169)) :: st) σ = EO j ops L (.inl (σ (169) x) :: st) σ := eo_34 (by decide) h0 (by rw [show ev_len 169 = 20 by decide]; exact h1)
theorem a35_169 (h0 : 0 ≤ x) (h1 : x < 20) (h2 : 0 ≤ y ∧ y ≤ 1) : EO j ((35, k, f, z, w) :: ops) L (.inl y :: .inl x :: .inr (.inl (169)) :: st) σ = EO j ops L st (ev_up σ (169) x y) := eo_35 (by decide) h0 (by rw [show ev_len 169 = 20 by decide]; exact h1) h2
theorem a32_171 (h0 : 0 ≤ x) (h1 : x < 6) : EO j ((32, k, f, z, w) :: ops) L (.inl x :: .inr (.inl (171)) :: st) σ = EO j ops L (.inl (σ (171) x) :: st) σ := eo_32 (by decide) h0 (by rw [show ev_len 171 = 6 by decide]; exact h1)
theorem a33_171 (h0 : 0 ≤ x) (h1 : x < 6) : EO j ((33, k, f, z, w) :: ops) L (.inl y :: .inl x :: .inr (.inl (171)) :: st) σ = EO j ops L st (ev_up σ (171) x y) := eo_33 (by decide) h0 (by rw [show ev_len 171 = 6 by decide]; exact h1)
theorem a32_172 (h0 : 0 ≤ x) (h1 : x < 6) : EO j ((32, k, f, z, w) :: ops) L (.inl x :: .inr (.inl (172)) :: st) σ = EO j ops L (.inl (σ (172) x) :: st) σ := eo_32 (by decide) h0 (by rw [show ev_len 172 = 6 by decide]; exact h1)
theorem a33_172 (h0 : 0 ≤ x) (h1 : x < 6) : EO j ((33, k, f, z, w) :: ops) L (.inl y :: .inl x :: .inr (.inl (172)) :: st) σ = EO j ops L st (ev_up σ (172) x y) := eo_33 (by decide) h0 (by rw [show ev_len 172 = 6 by decide]; exact h1)
theorem a32_174 (h0 : 0 ≤ x) (h1 : x < 10) : EO j ((32, k, f, z, w) :: ops) L (.inl x :: .inr (.inl (174)) :: st) σ = EO j ops L (.inl (σ (174) x) :: st) σ := eo_32 (by decide) h0 (by rw [show ev_len 174 = 10 by decide]; exact h1)
theorem a33_174 (h0 : 0 ≤ x) (h1 : x < 10) : EO j ((33, k, f, z, w) :: ops) L (.inl y :: .inl x :: .inr (.inl (174)) :: st) σ = EO j ops L st (ev_up σ (174) x y) := eo_33 (by decide) h0 (by rw [show ev_len 174 = 10 by decide]; exact h1)
theorem a32_175 (h0 : 0 ≤ x) (h1 : x < 10) : EO j ((32, k, f, z, w) :: ops) L (.inl x :: .inr (.inl (175)) :: st) σ = EO j ops L (.inl (σ (175) x) :: st) σ := eo_32 (by decide) h0 (by rw [show ev_len 175 = 10 by decide]; exact h1)
theorem a33_175 (h0 : 0 ≤ x) (h1 : x < 10) : EO j ((33, k, f, z, w) :: ops) L (.inl y :: .inl x :: .inr (.inl (175)) :: st) σ = EO j ops L st (ev_up σ (175) x y) := eo_33 (by decide) h0 (by rw [show ev_len 175 = 10 by decide]; exact h1)
theorem a32_176 (h0 : 0 ≤ x) (h1 : x < 10) : EO j ((32, k, f, z, w) :: ops) L (.inl x :: .inr (.inl (176)) :: st) σ = EO j ops L (.inl (σ (176) x) :: st) σ := eo_32 (by decide) h0 (by rw [show ev_len 176 = 10 by decide]; exact h1)
theorem a33_176 (h0 : 0 ≤ x) (h1 : x < 10) : EO j ((33, k, f, z, w) :: ops) L (.inl y :: .inl x :: .inr (.inl (176)) :: st) σ = EO j ops L st (ev_up σ (176) x y) := eo_33 (by decide) h0 (by rw [show ev_len 176 = 10 by decide]; exact h1)
theorem a32_178 (h0 : 0 ≤ x) (h1 : x < 6) : EO j ((32, k, f, z, w) :: ops) L (.inl x :: .inr (.inl (178)) :: st) σ = EO j ops L (.inl (σ (178) x) :: st) σ := eo_32 (by decide) h0 (by rw [show ev_len 178 = 6 by decide]; exact h1)
theorem a33_178 (h0 : 0 ≤ x) (h1 : x < 6) : EO j ((33, k, f, z, w) :: ops) L (.inl y :: .inl x :: .inr (.inl (178)) :: st) σ = EO j ops L st (ev_up σ (178) x y) := eo_33 (by decide) h0 (by rw [show ev_len 178 = 6 by decide]; exact h1)
theorem a32_180 (h0 : 0 ≤ x) (h1 : x < 8) : EO j ((32, k, f, z, w) :: ops) L (.inl x :: .inr (.inl (180)) :: st) σ = EO j ops L (.inl (σ (180) x) :: st) σ := eo_32 (by decide) h0 (by rw [show ev_len 180 = 8 by decide]; exact h1)
theorem a33_180 (h0 : 0 ≤ x) (h1 : x < 8) : EO j ((33, k, f, z, w) :: ops) L (.inl y :: .inl x :: .inr (.inl (180)) :: st) σ = EO j ops L st (ev_up σ (180) x y) := eo_33 (by decide) h0 (by rw [show ev_len 180 = 8 by decide]; exact h1)
theorem a32_181 (h0 : 0 ≤ x) (h1 : x < 8) : EO j ((32, k, f, z, w) :: ops) L (.inl x :: .inr (.inl (181)) :: st) σ = EO j ops L (.inl (σ (181) x) :: st) σ := eo_32 (by decide) h0 (by rw [show ev_len 181 = 8 by decide]; exact h1)
theorem a33_181 (h0 : 0 ≤ x) (h1 : x < 8) : EO j ((33, k, f, z, w) :: ops) L (.inl y :: .inl x :: .inr (.inl (181)) :: st) σ = EO j ops L st (ev_up σ (181) x y) := eo_33 (by decide) h0 (by rw [show ev_len 181 = 8 by decide]; exact h1)
theorem cp_s2 {t : Int} {k f : Nat} (hs : ev_S s) (ht : ev_S t) (h3 : ev_w st ≤ 8) : EO j ((61, k, f, z, w) :: ops) L (.inl 20 :: .inl 0 :: .inr (.inl (t + 2)) :: .inl 0 :: .inr (.inl (s + 2)) :: st) σ = EO j ops L st (ev_cp σ (s + 2) 0 (t + 2) 0 20) := eo_61 ⟨(cS_2 hs).1, (cS_2 ht).1⟩ ⟨by omega, by omega, by omega⟩ (by rw [(cS_2 hs).2]; omega) (by rw [(cS_2 ht).2]; omega) h3
theorem cp_s3 {t : Int} {k f : Nat} (hs : ev_S s) (ht : ev_S t) (h3 : ev_w st ≤ 8) : EO j ((61, k, f, z, w) :: ops) L (.inl 20 :: .inl 0 :: .inr (.inl (t + 3)) :: .inl 0 :: .inr (.inl (s + 3)) :: st) σ = EO j ops L st (ev_cp σ (s + 3) 0 (t + 3) 0 20) := eo_61 ⟨(cS_3 hs).1, (cS_3 ht).1⟩ ⟨by omega, by omega, by omega⟩ (by rw [(cS_3 hs).2]; omega) (by rw [(cS_3 ht).2]; omega) h3
theorem cp_s4 {t : Int} {k f : Nat} (hs : ev_S s) (ht : ev_S t) (h3 : ev_w st ≤ 8) : EO j ((61, k, f, z, w) :: ops) L (.inl 20 :: .inl 0 :: .inr (.inl (t + 4)) :: .inl 0 :: .inr (.inl (s + 4)) :: st) σ = EO j ops L st (ev_cp σ (s + 4) 0 (t + 4) 0 20) := eo_61 ⟨(cS_4 hs).1, (cS_4 ht).1⟩ ⟨by omega, by omega, by omega⟩ (by rw [(cS_4 hs).2]; omega) (by rw [(cS_4 ht).2]; omega) h3
theorem cp_s5 {t : Int} {k f : Nat} (hs : ev_S s) (ht : ev_S t) (h3 : ev_w st ≤ 8) : EO j ((61, k, f, z, w) :: ops) L (.inl 20 :: .inl 0 :: .inr (.inl (t + 5)) :: .inl 0 :: .inr (.inl (s + 5)) :: st) σ = EO j ops L st (ev_cp σ (s + 5) 0 (t + 5) 0 20) := eo_61 ⟨(cS_5 hs).1, (cS_5 ht).1⟩ ⟨by omega, by omega, by omega⟩ (by rw [(cS_5 hs).2]; omega) (by rw [(cS_5 ht).2]; omega) h3
theorem cp_s7 {t : Int} {k f : Nat} (hs : ev_S s) (ht : ev_S t) (h3 : ev_w st ≤ 8) : EO j ((61, k, f, z, w) :: ops) L (.inl 6 :: .inl 0 :: .inr (.inl (t + 7)) :: .inl 0 :: .inr (.inl (s + 7)) :: st) σ = EO j ops L st (ev_cp σ (s + 7) 0 (t + 7) 0 6) := eo_61 ⟨(cS_7 hs).1, (cS_7 ht).1⟩ ⟨by omega, by omega, by omega⟩ (by rw [(cS_7 hs).2]; omega) (by rw [(cS_7 ht).2]; omega) h3
theorem cp_s8 {t : Int} {k f : Nat} (hs : ev_S s) (ht : ev_S t) (h3 : ev_w st ≤ 8) : EO j ((61, k, f, z, w) :: ops) L (.inl 6 :: .inl 0 :: .inr (.inl (t + 8)) :: .inl 0 :: .inr (.inl (s + 8)) :: st) σ = EO j ops L st (ev_cp σ (s + 8) 0 (t + 8) 0 6) := eo_61 ⟨(cS_8 hs).1, (cS_8 ht).1⟩ ⟨by omega, by omega, by omega⟩ (by rw [(cS_8 hs).2]; omega) (by rw [(cS_8 ht).2]; omega) h3
theorem cp_s9 {t : Int} {k f : Nat} (hs : ev_S s) (ht : ev_S t) (h3 : ev_w st ≤ 8) : EO j ((61, k, f, z, w) :: ops) L (.inl 6 :: .inl 0 :: .inr (.inl (t + 9)) :: .inl 0 :: .inr (.inl (s + 9)) :: st) σ = EO j ops L st (ev_cp σ (s + 9) 0 (t + 9) 0 6) := eo_61 ⟨(cS_9 hs).1, (cS_9 ht).1⟩ ⟨by omega, by omega, by omega⟩ (by rw [(cS_9 hs).2]; omega) (by rw [(cS_9 ht).2]; omega) h3
theorem cp_s11 {t : Int} {k f : Nat} (hs : ev_S s) (ht : ev_S t) (h3 : ev_w st ≤ 8) : EO j ((61, k, f, z, w) :: ops) L (.inl 6 :: .inl 0 :: .inr (.inl (t + 11)) :: .inl 0 :: .inr (.inl (s + 11)) :: st) σ = EO j ops L st (ev_cp σ (s + 11) 0 (t + 11) 0 6) := eo_61 ⟨(cS_11 hs).1, (cS_11 ht).1⟩ ⟨by omega, by omega, by omega⟩ (by rw [(cS_11 hs).2]; omega) (by rw [(cS_11 ht).2]; omega) h3
theorem cp_s12 {t : Int} {k f : Nat} (hs : ev_S s) (ht : ev_S t) (h3 : ev_w st ≤ 8) : EO j ((61, k, f, z, w) :: ops) L (.inl 36 :: .inl 0 :: .inr (.inl (t + 12)) :: .inl 0 :: .inr (.inl (s + 12)) :: st) σ = EO j ops L st (ev_cp σ (s + 12) 0 (t + 12) 0 36) := eo_61 ⟨(cS_12 hs).1, (cS_12 ht).1⟩ ⟨by omega, by omega, by omega⟩ (by rw [(cS_12 hs).2]; omega) (by rw [(cS_12 ht).2]; omega) h3
theorem cp_s13 {t : Int} {k f : Nat} (hs : ev_S s) (ht : ev_S t) (h3 : ev_w st ≤ 8) : EO j ((61, k, f, z, w) :: ops) L (.inl 36 :: .inl 0 :: .inr (.inl (t + 13)) :: .inl 0 :: .inr (.inl (s + 13)) :: st) σ = EO j ops L st (ev_cp σ (s + 13) 0 (t + 13) 0 36) := eo_61 ⟨(cS_13 hs).1, (cS_13 ht).1⟩ ⟨by omega, by omega, by omega⟩ (by rw [(cS_13 hs).2]; omega) (by rw [(cS_13 ht).2]; omega) h3
theorem cp_s14 {t : Int} {k f : Nat} (hs : ev_S s) (ht : ev_S t) (h3 : ev_w st ≤ 8) : EO j ((61, k, f, z, w) :: ops) L (.inl 36 :: .inl 0 :: .inr (.inl (t + 14)) :: .inl 0 :: .inr (.inl (s + 14)) :: st) σ = EO j ops L st (ev_cp σ (s + 14) 0 (t + 14) 0 36) := eo_61 ⟨(cS_14 hs).1, (cS_14 ht).1⟩ ⟨by omega, by omega, by omega⟩ (by rw [(cS_14 hs).2]; omega) (by rw [(cS_14 ht).2]; omega) h3
theorem cp_s15 {t : Int} {k f : Nat} (hs : ev_S s) (ht : ev_S t) (h3 : ev_w st ≤ 8) : EO j ((61, k, f, z, w) :: ops) L (.inl 36 :: .inl 0 :: .inr (.inl (t + 15)) :: .inl 0 :: .inr (.inl (s + 15)) :: st) σ = EO j ops L st (ev_cp σ (s + 15) 0 (t + 15) 0 36) := eo_61 ⟨(cS_15 hs).1, (cS_15 ht).1⟩ ⟨by omega, by omega, by omega⟩ (by rw [(cS_15 hs).2]; omega) (by rw [(cS_15 ht).2]; omega) h3
theorem cp_s16 {t : Int} {k f : Nat} (hs : ev_S s) (ht : ev_S t) (h3 : ev_w st ≤ 8) : EO j ((61, k, f, z, w) :: ops) L (.inl 36 :: .inl 0 :: .inr (.inl (t + 16)) :: .inl 0 :: .inr (.inl (s + 16)) :: st) σ = EO j ops L st (ev_cp σ (s + 16) 0 (t + 16) 0 36) := eo_61 ⟨(cS_16 hs).1, (cS_16 ht).1⟩ ⟨by omega, by omega, by omega⟩ (by rw [(cS_16 hs).2]; omega) (by rw [(cS_16 ht).2]; omega) h3
theorem cp_s18 {t : Int} {k f : Nat} (hs : ev_S s) (ht : ev_S t) (h3 : ev_w st ≤ 8) : EO j ((61, k, f, z, w) :: ops) L (.inl 8 :: .inl 0 :: .inr (.inl (t + 18)) :: .inl 0 :: .inr (.inl (s + 18)) :: st) σ = EO j ops L st (ev_cp σ (s + 18) 0 (t + 18) 0 8) := eo_61 ⟨(cS_18 hs).1, (cS_18 ht).1⟩ ⟨by omega, by omega, by omega⟩ (by rw [(cS_18 hs).2]; omega) (by rw [(cS_18 ht).2]; omega) h3
theorem cp_s19 {t : Int} {k f : Nat} (hs : ev_S s) (ht : ev_S t) (h3 : ev_w st ≤ 8) : EO j ((61, k, f, z, w) :: ops) L (.inl 8 :: .inl 0 :: .inr (.inl (t + 19)) :: .inl 0 :: .inr (.inl (s + 19)) :: st) σ = EO j ops L st (ev_cp σ (s + 19) 0 (t + 19) 0 8) := eo_61 ⟨(cS_19 hs).1, (cS_19 ht).1⟩ ⟨by omega, by omega, by omega⟩ (by rw [(cS_19 hs).2]; omega) (by rw [(cS_19 ht).2]; omega) h3
theorem cp_s20 {t : Int} {k f : Nat} (hs : ev_S s) (ht : ev_S t) (h3 : ev_w st ≤ 8) : EO j ((61, k, f, z, w) :: ops) L (.inl 8 :: .inl 0 :: .inr (.inl (t + 20)) :: .inl 0 :: .inr (.inl (s + 20)) :: st) σ = EO j ops L st (ev_cp σ (s + 20) 0 (t + 20) 0 8) := eo_61 ⟨(cS_20 hs).1, (cS_20 ht).1⟩ ⟨by omega, by omega, by omega⟩ (by rw [(cS_20 hs).2]; omega) (by rw [(cS_20 ht).2]; omega) h3
theorem cp_s21 {t : Int} {k f : Nat} (hs : ev_S s) (ht : ev_S t) (h3 : ev_w st ≤ 8) : EO j ((61, k, f, z, w) :: ops) L (.inl 3 :: .inl 0 :: .inr (.inl (t + 21)) :: .inl 0 :: .inr (.inl (s + 21)) :: st) σ = EO j ops L st (ev_cp σ (s + 21) 0 (t + 21) 0 3) := eo_61 ⟨(cS_21 hs).1, (cS_21 ht).1⟩ ⟨by omega, by omega, by omega⟩ (by rw [(cS_21 hs).2]; omega) (by rw [(cS_21 ht).2]; omega) h3
theorem cp_s22 {t : Int} {k f : Nat} (hs : ev_S s) (ht : ev_S t) (h3 : ev_w st ≤ 8) : EO j ((61, k, f, z, w) :: ops) L (.inl 12 :: .inl 0 :: .inr (.inl (t + 22)) :: .inl 0 :: .inr (.inl (s + 22)) :: st) σ = EO j ops L st (ev_cp σ (s + 22) 0 (t + 22) 0 12) := eo_61 ⟨(cS_22 hs).1, (cS_22 ht).1⟩ ⟨by omega, by omega, by omega⟩ (by rw [(cS_22 hs).2]; omega) (by rw [(cS_22 ht).2]; omega) h3
theorem cp_aw {k f : Nat} (h3 : ev_w st ≤ 8) : EO j ((61, k, f, z, w) :: ops) L (.inl 8 :: .inl 0 :: .inr (.inl 180) :: .inl 0 :: .inr (.inl 181) :: st) σ = EO j ops L st (ev_cp σ 181 0 180 0 8) := eo_61 ⟨by decide, by decide⟩ ⟨by omega, by omega, by omega⟩ (by decide) (by decide) h3
variable {a0 a1 a2 a3 a4 a5 : ev_V}
theorem v0_2 (h3 : ev_w st ≤ 8) : EO j ((59, q, 2, z, 0) :: ops) L (a0 :: .inr (.inl (179)) :: st) σ = ev_k j ops L st (EM q [.inr (.inl (179)), a0] σ) := eo_59_2 ⟨h3, by rw [show ev_cls 179 = 0 by decide]; rfl⟩
theorem v0_3 (h3 : ev_w st ≤ 8) : EO j ((59, q, 3, z, 0) :: ops) L (a1 :: a0 :: .inr (.inl (179)) :: st) σ = ev_k j ops L st (EM q [.inr (.inl (179)), a0, a1] σ) := eo_59_3 ⟨h3, by rw [show ev_cls 179 = 0 by decide]; rfl⟩
theorem v1_2 (hs : ev_S s) (h3 : ev_w st ≤ 8) : EO j ((59, q, 2, z, 1) :: ops) L (a0 :: .inr (.inl (s + 6)) :: st) σ = ev_k j ops L st (EM q [.inr (.inl (s + 6)), a0] σ) := eo_59_2 ⟨h3, by rw [(cS_6 hs).1]; rfl⟩
theorem v1_3 (hs : ev_S s) (h3 : ev_w st ≤ 8) : EO j ((59, q, 3, z, 1) :: ops) L (a1 :: a0 :: .inr (.inl (s + 6)) :: st) σ = ev_k j ops L st (EM q [.inr (.inl (s + 6)), a0, a1] σ) := eo_59_3 ⟨h3, by rw [(cS_6 hs).1]; rfl⟩
theorem v1_4 (hs : ev_S s) (h3 : ev_w st ≤ 8) : EO j ((59, q, 4, z, 1) :: ops) L (a2 :: a1 :: a0 :: .inr (.inl (s + 6)) :: st) σ = ev_k j ops L st (EM q [.inr (.inl (s + 6)), a0, a1, a2] σ) := eo_59_4 ⟨h3, by rw [(cS_6 hs).1]; rfl⟩
theorem v1_5 (hs : ev_S s) (h3 : ev_w st ≤ 8) : EO j ((59, q, 5, z, 1) :: ops) L (a3 :: a2 :: a1 :: a0 :: .inr (.inl (s + 6)) :: st) σ = ev_k j ops L st (EM q [.inr (.inl (s + 6)), a0, a1, a2, a3] σ) := eo_59_5 ⟨h3, by rw [(cS_6 hs).1]; rfl⟩
theorem v2_2 (h3 : ev_w st ≤ 8) : EO j ((59, q, 2, z, 2) :: ops) L (a0 :: .inr (.inl (170)) :: st) σ = ev_k j ops L st (EM q [.inr (.inl (170)), a0] σ) := eo_59_2 ⟨h3, by rw [show ev_cls 170 = 2 by decide]; rfl⟩
theorem v2_3 (h3 : ev_w st ≤ 8) : EO j ((59, q, 3, z, 2) :: ops) L (a1 :: a0 :: .inr (.inl (170)) :: st) σ = ev_k j ops L st (EM q [.inr (.inl (170)), a0, a1] σ) := eo_59_3 ⟨h3, by rw [show ev_cls 170 = 2 by decide]; rfl⟩
theorem v2_4 (h3 : ev_w st ≤ 8) : EO j ((59, q, 4, z, 2) :: ops) L (a2 :: a1 :: a0 :: .inr (.inl (170)) :: st) σ = ev_k j ops L st (EM q [.inr (.inl (170)), a0, a1, a2] σ) := eo_59_4 ⟨h3, by rw [show ev_cls 170 = 2 by decide]; rfl⟩
theorem v3_1 (h3 : ev_w st ≤ 8) : EO j ((59, q, 1, z, 3) :: ops) L (.inr (.inl (162)) :: st) σ = ev_k j ops L st (EM q [.inr (.inl (162))] σ) := eo_59_1 ⟨h3, by rw [show ev_cls 162 = 3 by decide]; rfl⟩
theorem v3_2 (h3 : ev_w st ≤ 8) : EO j ((59, q, 2, z, 3) :: ops) L (a0 :: .inr (.inl (162)) :: st) σ = ev_k j ops L st (EM q [.inr (.inl (162)), a0] σ) := eo_59_2 ⟨h3, by rw [show ev_cls 162 = 3 by decide]; rfl⟩
theorem v4_2 (hs : ev_S s) (h3 : ev_w st ≤ 8) : EO j ((59, q, 2, z, 4) :: ops) L (a0 :: .inr (.inl (s + 17)) :: st) σ = ev_k j ops L st (EM q [.inr (.inl (s + 17)), a0] σ) := eo_59_2 ⟨h3, by rw [(cS_17 hs).1]; rfl⟩
theorem v4_4 (hs : ev_S s) (h3 : ev_w st ≤ 8) : EO j ((59, q, 4, z, 4) :: ops) L (a2 :: a1 :: a0 :: .inr (.inl (s + 17)) :: st) σ = ev_k j ops L st (EM q [.inr (.inl (s + 17)), a0, a1, a2] σ) := eo_59_4 ⟨h3, by rw [(cS_17 hs).1]; rfl⟩
theorem v4_6 (hs : ev_S s) (h3 : ev_w st ≤ 8) : EO j ((59, q, 6, z, 4) :: ops) L (a4 :: a3 :: a2 :: a1 :: a0 :: .inr (.inl (s + 17)) :: st) σ = ev_k j ops L st (EM q [.inr (.inl (s + 17)), a0, a1, a2, a3, a4] σ) := eo_59_6 ⟨h3, by rw [(cS_17 hs).1]; rfl⟩
theorem v5_1 (h3 : ev_w st ≤ 8) : EO j ((59, q, 1, z, 5) :: ops) L (.inr (.inl (164)) :: st) σ = ev_k j ops L st (EM q [.inr (.inl (164))] σ) := eo_59_1 ⟨h3, by rw [show ev_cls 164 = 5 by decide]; rfl⟩
theorem v5_2 (h3 : ev_w st ≤ 8) : EO j ((59, q, 2, z, 5) :: ops) L (a0 :: .inr (.inl (164)) :: st) σ = ev_k j ops L st (EM q [.inr (.inl (164)), a0] σ) := eo_59_2 ⟨h3, by rw [show ev_cls 164 = 5 by decide]; rfl⟩
theorem v5_4 (h3 : ev_w st ≤ 8) : EO j ((59, q, 4, z, 5) :: ops) L (a2 :: a1 :: a0 :: .inr (.inl (164)) :: st) σ = ev_k j ops L st (EM q [.inr (.inl (164)), a0, a1, a2] σ) := eo_59_4 ⟨h3, by rw [show ev_cls 164 = 5 by decide]; rfl⟩
theorem v6_2 (hs : ev_S s) (h3 : ev_w st ≤ 8) : EO j ((59, q, 2, z, 6) :: ops) L (a0 :: .inr (.inl (s + 1)) :: st) σ = ev_k j ops L st (EM q [.inr (.inl (s + 1)), a0] σ) := eo_59_2 ⟨h3, by rw [(cS_1 hs).1]; rfl⟩
theorem v6_4 (hs : ev_S s) (h3 : ev_w st ≤ 8) : EO j ((59, q, 4, z, 6) :: ops) L (a2 :: a1 :: a0 :: .inr (.inl (s + 1)) :: st) σ = ev_k j ops L st (EM q [.inr (.inl (s + 1)), a0, a1, a2] σ) := eo_59_4 ⟨h3, by rw [(cS_1 hs).1]; rfl⟩
theorem v7_1 (hs : ev_S s) (h3 : ev_w st ≤ 8) : EO j ((59, q, 1, z, 7) :: ops) L (.inr (.inl (s)) :: st) σ = ev_k j ops L st (EM q [.inr (.inl (s))] σ) := eo_59_1 ⟨h3, by rw [(cS_0 hs).1]; rfl⟩
theorem v7_2 (hs : ev_S s) (h3 : ev_w st ≤ 8) : EO j ((59, q, 2, z, 7) :: ops) L (a0 :: .inr (.inl (s)) :: st) σ = ev_k j ops L st (EM q [.inr (.inl (s)), a0] σ) := eo_59_2 ⟨h3, by rw [(cS_0 hs).1]; rfl⟩
theorem v7_3 (hs : ev_S s) (h3 : ev_w st ≤ 8) : EO j ((59, q, 3, z, 7) :: ops) L (a1 :: a0 :: .inr (.inl (s)) :: st) σ = ev_k j ops L st (EM q [.inr (.inl (s)), a0, a1] σ) := eo_59_3 ⟨h3, by rw [(cS_0 hs).1]; rfl⟩
theorem v8_6 (h3 : ev_w st ≤ 8) : EO j ((59, q, 6, z, 8) :: ops) L (a4 :: a3 :: a2 :: a1 :: a0 :: .inr (.inl (177)) :: st) σ = ev_k j ops L st (EM q [.inr (.inl (177)), a0, a1, a2, a3, a4] σ) := eo_59_6 ⟨h3, by rw [show ev_cls 177 = 8 by decide]; rfl⟩
theorem v9_2 (h3 : ev_w st ≤ 8) : EO j ((59, q, 2, z, 9) :: ops) L (a0 :: .inr (.inl (173)) :: st) σ = ev_k j ops L st (EM q [.inr (.inl (173)), a0] σ) := eo_59_2 ⟨h3, by rw [show ev_cls 173 = 9 by decide]; rfl⟩
theorem v9_3 (h3 : ev_w st ≤ 8) : EO j ((59, q, 3, z, 9) :: ops) L (a1 :: a0 :: .inr (.inl (173)) :: st) σ = ev_k j ops L st (EM q [.inr (.inl (173)), a0, a1] σ) := eo_59_3 ⟨h3, by rw [show ev_cls 173 = 9 by decide]; rfl⟩
theorem v9_4 (h3 : ev_w st ≤ 8) : EO j ((59, q, 4, z, 9) :: ops) L (a2 :: a1 :: a0 :: .inr (.inl (173)) :: st) σ = ev_k j ops L st (EM q [.inr (.inl (173)), a0, a1, a2] σ) := eo_59_4 ⟨h3, by rw [show ev_cls 173 = 9 by decide]; rfl⟩
theorem v9_5 (h3 : ev_w st ≤ 8) : EO j ((59, q, 5, z, 9) :: ops) L (a3 :: a2 :: a1 :: a0 :: .inr (.inl (173)) :: st) σ = ev_k j ops L st (EM q [.inr (.inl (173)), a0, a1, a2, a3] σ) := eo_59_5 ⟨h3, by rw [show ev_cls 173 = 9 by decide]; rfl⟩
theorem v10_1 (h3 : ev_w st ≤ 8) : EO j ((59, q, 1, z, 10) :: ops) L (.inr (.inl (161)) :: st) σ = ev_k j ops L st (EM q [.inr (.inl (161))] σ) := eo_59_1 ⟨h3, by rw [show ev_cls 161 = 10 by decide]; rfl⟩
theorem v10_2 (h3 : ev_w st ≤ 8) : EO j ((59, q, 2, z, 10) :: ops) L (a0 :: .inr (.inl (161)) :: st) σ = ev_k j ops L st (EM q [.inr (.inl (161)), a0] σ) := eo_59_2 ⟨h3, by rw [show ev_cls 161 = 10 by decide]; rfl⟩
theorem v10_3 (h3 : ev_w st ≤ 8) : EO j ((59, q, 3, z, 10) :: ops) L (a1 :: a0 :: .inr (.inl (161)) :: st) σ = ev_k j ops L st (EM q [.inr (.inl (161)), a0, a1] σ) := eo_59_3 ⟨h3, by rw [show ev_cls 161 = 10 by decide]; rfl⟩
theorem v10_4 (h3 : ev_w st ≤ 8) : EO j ((59, q, 4, z, 10) :: ops) L (a2 :: a1 :: a0 :: .inr (.inl (161)) :: st) σ = ev_k j ops L st (EM q [.inr (.inl (161)), a0, a1, a2] σ) := eo_59_4 ⟨h3, by rw [show ev_cls 161 = 10 by decide]; rfl⟩
theorem v10_5 (h3 : ev_w st ≤ 8) : EO j ((59, q, 5, z, 10) :: ops) L (a3 :: a2 :: a1 :: a0 :: .inr (.inl (161)) :: st) σ = ev_k j ops L st (EM q [.inr (.inl (161)), a0, a1, a2, a3] σ) := eo_59_5 ⟨h3, by rw [show ev_cls 161 = 10 by decide]; rfl⟩
theorem v10_6 (h3 : ev_w st ≤ 8) : EO j ((59, q, 6, z, 10) :: ops) L (a4 :: a3 :: a2 :: a1 :: a0 :: .inr (.inl (161)) :: st) σ = ev_k j ops L st (EM q [.inr (.inl (161)), a0, a1, a2, a3, a4] σ) := eo_59_6 ⟨h3, by rw [show ev_cls 161 = 10 by decide]; rfl⟩
end IDS
end
section
/-! the blocks as equations; a call from its first block on -/
theorem mm_0 {i0 : Int} {i1 : Int} {σ : ev_M} : EM 0 [.inr (.inl i0), .inr (.inl i1)] σ = EB 0 0 [some (.inr (.inl i0)), some (.inr (.inl i1)), none, none, none, none] [] σ := by
  unfold EM ev_go
  exact if_pos (Nat.le_of_ble_eq_true rfl)
theorem bk_0_0 {L : ev_L} {st : List ev_V} {σ : ev_M} : EB 0 0 L st σ = EO 0 [(1, 1, 0, 0, 0), (28, 18, 7, 2, 17), (27, 24, 4, 0, 0), (3, 2, 0, 0, 0), (1, 0, 0, 0, 0), (0, 2, 0, 0, 0), (47, 1, 0, 7, 0), (6, 0, 0, 0, 0), (52, 2, 0, 4, 0)] L st σ := EB_eq 0 0 L st σ
theorem bk_0_1 {L : ev_L} {st : List ev_V} {σ : ev_M} : EB 0 1 L st σ = EO 0 [(6, 0, 0, (-1), 0), (53, 2, 0, 0, 0)] L st σ := EB_eq 0 1 L st σ
theorem bk_0_2 {L : ev_L} {st : List ev_V} {σ : ev_M} : EB 0 2 L st σ = EO 0 [(30, 30, 0, 0, 0), (6, 0, 0, 0, 0), (3, 3, 0, 0, 0), (53, 3, 0, 0, 0)] L st σ := EB_eq 0 2 L st σ
theorem bk_0_3 {L : ev_L} {st : List ev_V} {σ : ev_M} : EB 0 3 L st σ = EO 0 [(0, 3, 0, 0, 0), (0, 2, 0, 0, 0), (43, 4, 0, 16, 0), (1, 0, 0, 0, 0), (28, 9, 0, 1, 1), (0, 3, 0, 0, 0), (6, 0, 0, (-1), 0), (33, 0, 0, 0, 0), (23, 3, 0, 1, 0), (52, 3, 0, (-15), 0)] L st σ := EB_eq 0 3 L st σ
theorem bk_0_4 {L : ev_L} {st : List ev_V} {σ : ev_M} : EB 0 4 L st σ = EO 0 [(0, 2, 0, 0, 0), (47, 5, 0, 7, 0), (6, 0, 0, 0, 0), (52, 6, 0, 12, 0)] L st σ := EB_eq 0 4 L st σ
theorem bk_0_5 {L : ev_L} {st : List ev_V} {σ : ev_M} : EB 0 5 L st σ = EO 0 [(6, 0, 0, 1, 0), (1, 1, 0, 0, 0), (28, 18, 7, 2, 17), (27, 33, 4, 1, 0), (18, 0, 0, 0, 0), (53, 6, 0, 0, 0)] L st σ := EB_eq 0 5 L st σ
theorem bk_0_6 {L : ev_L} {st : List ev_V} {σ : ev_M} : EB 0 6 L st σ = EO 0 [(3, 3, 0, 0, 0), (6, 0, 0, 1, 0), (3, 4, 1, 0, 0), (53, 7, 0, 0, 0)] L st σ := EB_eq 0 6 L st σ
theorem bk_0_7 {L : ev_L} {st : List ev_V} {σ : ev_M} : EB 0 7 L st σ = EO 0 [(0, 4, 1, 0, 0), (0, 3, 0, 0, 0), (43, 10, 0, 73, 0), (1, 0, 0, 0, 0), (1, 1, 0, 0, 0), (0, 4, 1, 0, 0), (59, 1, 3, 36, 0), (3, 5, 1, 0, 0), (1, 0, 0, 0, 0), (27, 30, 0, 0, 0), (6, 0, 0, (-1), 0), (40, 8, 0, 29, 0), (0, 5, 1, 0, 0), (1, 0, 0, 0, 0), (27, 30, 0, 0, 0), (42, 8, 0, 20, 0), (0, 5, 1, 0, 0), (1, 0, 0, 0, 0), (27, 30, 0, 0, 0), (41, 9, 0, 32, 0), (1, 0, 0, 0, 0), (0, 2, 0, 0, 0), (59, 3, 2, 40, 0), (46, 9, 0, 24, 0), (53, 8, 0, 0, 0)] L st σ := EB_eq 0 7 L st σ
theorem bk_0_8 {L : ev_L} {st : List ev_V} {σ : ev_M} : EB 0 8 L st σ = EO 0 [(1, 0, 0, 0, 0), (0, 5, 1, 0, 0), (30, 30, 0, 0, 0), (1, 0, 0, 0, 0), (28, 15, 0, 2, 2), (6, 0, 0, 0, 0), (1, 0, 0, 0, 0), (28, 9, 0, 1, 1), (6, 0, 0, 0, 0), (6, 1, 0, 8, 0), (61, 44, 0, 0, 0), (53, 9, 0, 0, 0)] L st σ := EB_eq 0 8 L st σ
theorem bk_0_9 {L : ev_L} {st : List ev_V} {σ : ev_M} : EB 0 9 L st σ = EO 0 [(23, 4, 0, 1, 0), (52, 7, 0, (-73), 0)] L st σ := EB_eq 0 9 L st σ
theorem bk_0_10 {L : ev_L} {st : List ev_V} {σ : ev_M} : EB 0 10 L st σ = EO 0 [(58, 0, 0, 0, 0)] L st σ := EB_eq 0 10 L st σ
theorem mm_1 {i0 : Int} {i1 : Int} {x2 : Int} {σ : ev_M} : EM 1 [.inr (.inl i0), .inr (.inl i1), .inl x2] σ = EB 1 0 [some (.inr (.inl i0)), some (.inr (.inl i1)), some (.inl x2), none, none, none] [] σ := by
  unfold EM ev_go
  exact if_pos (Nat.le_of_ble_eq_true rfl)
theorem bk_1_0 {L : ev_L} {st : List ev_V} {σ : ev_M} : EB 1 0 L st σ = EO 1 [(6, 0, 0, 0, 0), (3, 3, 0, 0, 0), (6, 0, 0, 0, 0), (3, 4, 1, 0, 0), (53, 1, 0, 0, 0)] L st σ := EB_eq 1 0 L st σ
theorem bk_1_1 {L : ev_L} {st : List ev_V} {σ : ev_M} : EB 1 1 L st σ = EO 1 [(0, 4, 1, 0, 0), (1, 1, 0, 0, 0), (28, 18, 7, 2, 17), (27, 33, 4, 1, 0), (43, 3, 0, 31, 0), (0, 2, 0, 0, 0), (6, 0, 0, 1, 0), (0, 4, 1, 0, 0), (18, 0, 0, 0, 0), (15, 0, 0, 0, 0), (46, 2, 0, 16, 0), (0, 3, 0, 0, 0), (1, 1, 0, 0, 0), (28, 18, 7, 2, 17), (28, 50, 4, 5, 4), (0, 4, 1, 0, 0), (32, 0, 0, 0, 0), (10, 0, 0, 0, 0), (3, 3, 0, 0, 0), (53, 2, 0, 0, 0)] L st σ := EB_eq 1 1 L st σ
theorem bk_1_2 {L : ev_L} {st : List ev_V} {σ : ev_M} : EB 1 2 L st σ = EO 1 [(23, 4, 0, 1, 0), (52, 1, 0, (-37), 0)] L st σ := EB_eq 1 2 L st σ
theorem bk_1_3 {L : ev_L} {st : List ev_V} {σ : ev_M} : EB 1 3 L st σ = EO 1 [(6, 0, 0, 0, 0), (3, 4, 1, 0, 0), (53, 4, 0, 0, 0)] L st σ := EB_eq 1 3 L st σ
theorem bk_1_4 {L : ev_L} {st : List ev_V} {σ : ev_M} : EB 1 4 L st σ = EO 1 [(0, 4, 1, 0, 0), (1, 1, 0, 0, 0), (28, 18, 7, 2, 17), (27, 24, 4, 0, 0), (43, 7, 0, 48, 0), (1, 1, 0, 0, 0), (0, 2, 0, 0, 0), (0, 4, 1, 0, 0), (60, 2, 3, 53, 0), (3, 5, 1, 0, 0), (1, 0, 0, 0, 0), (28, 15, 0, 2, 2), (0, 4, 1, 0, 0), (0, 5, 1, 0, 0), (33, 0, 0, 0, 0), (0, 3, 0, 0, 0), (0, 5, 1, 0, 0), (6, 0, 0, (-1), 0), (41, 5, 0, 7, 0), (6, 0, 0, 0, 0), (52, 6, 0, 11, 0)] L st σ := EB_eq 1 4 L st σ
theorem bk_1_5 {L : ev_L} {st : List ev_V} {σ : ev_M} : EB 1 5 L st σ = EO 1 [(1, 1, 0, 0, 0), (0, 4, 1, 0, 0), (0, 5, 1, 0, 0), (59, 53, 3, 57, 7), (53, 6, 0, 0, 0)] L st σ := EB_eq 1 5 L st σ
theorem bk_1_6 {L : ev_L} {st : List ev_V} {σ : ev_M} : EB 1 6 L st σ = EO 1 [(10, 0, 0, 0, 0), (3, 3, 0, 0, 0), (23, 4, 0, 1, 0), (52, 4, 0, (-54), 0)] L st σ := EB_eq 1 6 L st σ
theorem bk_1_7 {L : ev_L} {st : List ev_V} {σ : ev_M} : EB 1 7 L st σ = EO 1 [(0, 3, 0, 0, 0), (56, 0, 0, 0, 0)] L st σ := EB_eq 1 7 L st σ
theorem mm_2 {i0 : Int} {x1 : Int} {x2 : Int} {σ : ev_M} : EM 2 [.inr (.inl i0), .inl x1, .inl x2] σ = EB 2 0 [some (.inr (.inl i0)), some (.inl x1), some (.inl x2), none, none] [] σ := by
  unfold EM ev_go
  exact if_pos (Nat.le_of_ble_eq_true rfl)
theorem bk_2_0 {L : ev_L} {st : List ev_V} {σ : ev_M} : EB 2 0 L st σ = EO 2 [(6, 0, 0, (-1), 0), (3, 3, 0, 0, 0), (6, 0, 0, 0, 0), (3, 4, 1, 0, 0), (53, 1, 0, 0, 0)] L st σ := EB_eq 2 0 L st σ
theorem bk_2_1 {L : ev_L} {st : List ev_V} {σ : ev_M} : EB 2 1 L st σ = EO 2 [(0, 4, 1, 0, 0), (1, 0, 0, 0, 0), (28, 18, 7, 2, 17), (27, 33, 4, 1, 0), (43, 4, 0, 42, 0), (0, 1, 0, 0, 0), (6, 0, 0, 1, 0), (0, 4, 1, 0, 0), (18, 0, 0, 0, 0), (15, 0, 0, 0, 0), (46, 3, 0, 27, 0), (0, 3, 0, 0, 0), (6, 0, 0, (-1), 0), (40, 2, 0, 19, 0), (1, 0, 0, 0, 0), (0, 2, 0, 0, 0), (0, 4, 1, 0, 0), (59, 53, 3, 57, 7), (1, 0, 0, 0, 0), (0, 2, 0, 0, 0), (0, 3, 0, 0, 0), (59, 53, 3, 57, 7), (43, 3, 0, 6, 0), (53, 2, 0, 0, 0)] L st σ := EB_eq 2 1 L st σ
theorem bk_2_2 {L : ev_L} {st : List ev_V} {σ : ev_M} : EB 2 2 L st σ = EO 2 [(0, 4, 1, 0, 0), (3, 3, 0, 0, 0), (53, 3, 0, 0, 0)] L st σ := EB_eq 2 2 L st σ
theorem bk_2_3 {L : ev_L} {st : List ev_V} {σ : ev_M} : EB 2 3 L st σ = EO 2 [(23, 4, 0, 1, 0), (52, 1, 0, (-48), 0)] L st σ := EB_eq 2 3 L st σ
theorem bk_2_4 {L : ev_L} {st : List ev_V} {σ : ev_M} : EB 2 4 L st σ = EO 2 [(0, 3, 0, 0, 0), (56, 0, 0, 0, 0)] L st σ := EB_eq 2 4 L st σ
theorem mm_3 {i0 : Int} {x1 : Int} {σ : ev_M} : EM 3 [.inr (.inl i0), .inl x1] σ = EB 3 0 [some (.inr (.inl i0)), some (.inl x1), none] [] σ := by
  unfold EM ev_go
  exact if_pos (Nat.le_of_ble_eq_true rfl)
theorem bk_3_0 {L : ev_L} {st : List ev_V} {σ : ev_M} : EB 3 0 L st σ = EO 3 [(6, 0, 0, 0, 0), (3, 2, 0, 0, 0), (53, 1, 0, 0, 0)] L st σ := EB_eq 3 0 L st σ
theorem bk_3_1 {L : ev_L} {st : List ev_V} {σ : ev_M} : EB 3 1 L st σ = EO 3 [(0, 2, 0, 0, 0), (0, 1, 0, 0, 0), (43, 5, 0, 45, 0), (1, 0, 0, 0, 0), (28, 15, 0, 2, 2), (0, 2, 0, 0, 0), (32, 0, 0, 0, 0), (1, 0, 0, 0, 0), (28, 9, 0, 1, 1), (0, 2, 0, 0, 0), (32, 0, 0, 0, 0), (40, 4, 0, 24, 0), (1, 0, 0, 0, 0), (28, 15, 0, 2, 2), (0, 2, 0, 0, 0), (32, 0, 0, 0, 0), (1, 0, 0, 0, 0), (28, 9, 0, 1, 1), (0, 2, 0, 0, 0), (32, 0, 0, 0, 0), (43, 2, 0, 7, 0), (6, 0, 0, 1, 0), (52, 3, 0, 4, 0)] L st σ := EB_eq 3 1 L st σ
theorem bk_3_2 {L : ev_L} {st : List ev_V} {σ : ev_M} : EB 3 2 L st σ = EO 3 [(6, 0, 0, 0, 0), (53, 3, 0, 0, 0)] L st σ := EB_eq 3 2 L st σ
theorem bk_3_3 {L : ev_L} {st : List ev_V} {σ : ev_M} : EB 3 3 L st σ = EO 3 [(56, 1, 0, 0, 0)] L st σ := EB_eq 3 3 L st σ
theorem bk_3_4 {L : ev_L} {st : List ev_V} {σ : ev_M} : EB 3 4 L st σ = EO 3 [(23, 2, 0, 1, 0), (52, 1, 0, (-44), 0)] L st σ := EB_eq 3 4 L st σ
theorem bk_3_5 {L : ev_L} {st : List ev_V} {σ : ev_M} : EB 3 5 L st σ = EO 3 [(6, 0, 0, 0, 0), (56, 1, 0, 0, 0)] L st σ := EB_eq 3 5 L st σ
theorem mm_4 {i0 : Int} {i1 : Int} {x2 : Int} {σ : ev_M} : EM 4 [.inr (.inl i0), .inr (.inl i1), .inl x2] σ = EB 4 0 [some (.inr (.inl i0)), some (.inr (.inl i1)), some (.inl x2), none, none, none] [] σ := by
  unfold EM ev_go
  exact if_pos (Nat.le_of_ble_eq_true rfl)
theorem bk_4_0 {L : ev_L} {st : List ev_V} {σ : ev_M} : EB 4 0 L st σ = EO 4 [(6, 0, 0, 0, 0), (3, 3, 0, 0, 0), (6, 0, 0, 0, 0), (3, 4, 1, 0, 0), (6, 0, 0, 0, 0), (3, 5, 1, 0, 0), (53, 1, 0, 0, 0)] L st σ := EB_eq 4 0 L st σ
theorem bk_4_1 {L : ev_L} {st : List ev_V} {σ : ev_M} : EB 4 1 L st σ = EO 4 [(0, 5, 1, 0, 0), (1, 1, 0, 0, 0), (28, 18, 7, 2, 17), (27, 24, 4, 0, 0), (43, 3, 0, 33, 0), (1, 0, 0, 0, 0), (28, 9, 0, 1, 1), (0, 5, 1, 0, 0), (32, 0, 0, 0, 0), (0, 2, 0, 0, 0), (41, 2, 0, 16, 0), (0, 3, 0, 0, 0), (1, 1, 0, 0, 0), (0, 5, 1, 0, 0), (0, 2, 0, 0, 0), (59, 53, 3, 57, 7), (10, 0, 0, 0, 0), (3, 3, 0, 0, 0), (6, 0, 0, 1, 0), (3, 4, 1, 0, 0), (53, 2, 0, 0, 0)] L st σ := EB_eq 4 1 L st σ
theorem bk_4_2 {L : ev_L} {st : List ev_V} {σ : ev_M} : EB 4 2 L st σ = EO 4 [(23, 5, 0, 1, 0), (52, 1, 0, (-39), 0)] L st σ := EB_eq 4 2 L st σ
theorem bk_4_3 {L : ev_L} {st : List ev_V} {σ : ev_M} : EB 4 3 L st σ = EO 4 [(0, 4, 1, 0, 0), (46, 4, 0, 17, 0), (0, 3, 0, 0, 0), (1, 1, 0, 0, 0), (28, 18, 7, 2, 17), (28, 50, 4, 5, 4), (0, 2, 0, 0, 0), (32, 0, 0, 0, 0), (10, 0, 0, 0, 0), (52, 5, 0, 4, 0)] L st σ := EB_eq 4 3 L st σ
theorem bk_4_4 {L : ev_L} {st : List ev_V} {σ : ev_M} : EB 4 4 L st σ = EO 4 [(6, 0, 0, 0, 0), (53, 5, 0, 0, 0)] L st σ := EB_eq 4 4 L st σ
theorem bk_4_5 {L : ev_L} {st : List ev_V} {σ : ev_M} : EB 4 5 L st σ = EO 4 [(56, 0, 0, 0, 0)] L st σ := EB_eq 4 5 L st σ
theorem mm_5 {x0 : Int} {x1 : Int} {σ : ev_M} : EM 5 [.inl x0, .inl x1] σ = EB 5 0 [some (.inl x0), some (.inl x1)] [] σ := by
  unfold EM ev_go
  exact if_pos (Nat.le_of_ble_eq_true rfl)
theorem bk_5_0 {L : ev_L} {st : List ev_V} {σ : ev_M} : EB 5 0 L st σ = EO 5 [(0, 0, 0, 0, 0), (6, 1, 0, 6, 0), (12, 0, 0, 0, 0), (0, 1, 0, 0, 0), (10, 0, 0, 0, 0), (56, 0, 0, 0, 0)] L st σ := EB_eq 5 0 L st σ
theorem mm_6 {i0 : Int} {x1 : Int} {σ : ev_M} : EM 6 [.inr (.inl i0), .inl x1] σ = EB 6 0 [some (.inr (.inl i0)), some (.inl x1)] [] σ := by
  unfold EM ev_go
  exact if_pos (Nat.le_of_ble_eq_true rfl)
theorem bk_6_0 {L : ev_L} {st : List ev_V} {σ : ev_M} : EB 6 0 L st σ = EO 6 [(6, 0, 0, 0, 0), (0, 1, 0, 0, 0), (44, 1, 0, 15, 0), (0, 1, 0, 0, 0), (1, 0, 0, 0, 0), (27, 43, 1, 0, 0), (43, 1, 0, 7, 0), (6, 0, 0, 1, 0), (52, 2, 0, 4, 0)] L st σ := EB_eq 6 0 L st σ
theorem bk_6_1 {L : ev_L} {st : List ev_V} {σ : ev_M} : EB 6 1 L st σ = EO 6 [(6, 0, 0, 0, 0), (53, 2, 0, 0, 0)] L st σ := EB_eq 6 1 L st σ
theorem bk_6_2 {L : ev_L} {st : List ev_V} {σ : ev_M} : EB 6 2 L st σ = EO 6 [(56, 1, 0, 0, 0)] L st σ := EB_eq 6 2 L st σ
theorem mm_7 {i0 : Int} {x1 : Int} {x2 : Int} {σ : ev_M} : EM 7 [.inr (.inl i0), .inl x1, .inl x2] σ = EB 7 0 [some (.inr (.inl i0)), some (.inl x1), some (.inl x2)] [] σ := by
  unfold EM ev_go
  exact if_pos (Nat.le_of_ble_eq_true rfl)
theorem bk_7_0 {L : ev_L} {st : List ev_V} {σ : ev_M} : EB 7 0 L st σ = EO 7 [(1, 0, 0, 0, 0), (0, 1, 0, 0, 0), (59, 6, 2, 47, 1), (46, 1, 0, 22, 0), (6, 0, 0, 0, 0), (0, 2, 0, 0, 0), (44, 1, 0, 17, 0), (0, 2, 0, 0, 0), (1, 0, 0, 0, 0), (28, 25, 1, 5, 5), (0, 1, 0, 0, 0), (32, 0, 0, 0, 0), (43, 1, 0, 7, 0), (6, 0, 0, 1, 0), (52, 2, 0, 4, 0)] L st σ := EB_eq 7 0 L st σ
theorem bk_7_1 {L : ev_L} {st : List ev_V} {σ : ev_M} : EB 7 1 L st σ = EO 7 [(6, 0, 0, 0, 0), (53, 2, 0, 0, 0)] L st σ := EB_eq 7 1 L st σ
theorem bk_7_2 {L : ev_L} {st : List ev_V} {σ : ev_M} : EB 7 2 L st σ = EO 7 [(56, 1, 0, 0, 0)] L st σ := EB_eq 7 2 L st σ
theorem mm_8 {i0 : Int} {x1 : Int} {x2 : Int} {σ : ev_M} : EM 8 [.inr (.inl i0), .inl x1, .inl x2] σ = EB 8 0 [some (.inr (.inl i0)), some (.inl x1), some (.inl x2), none] [] σ := by
  unfold EM ev_go
  exact if_pos (Nat.le_of_ble_eq_true rfl)
theorem bk_8_0 {L : ev_L} {st : List ev_V} {σ : ev_M} : EB 8 0 L st σ = EO 8 [(1, 0, 0, 0, 0), (27, 43, 1, 0, 0), (3, 3, 0, 0, 0), (1, 0, 0, 0, 0), (28, 9, 1, 1, 1), (0, 3, 0, 0, 0), (0, 1, 0, 0, 0), (33, 0, 0, 0, 0), (1, 0, 0, 0, 0), (28, 15, 1, 2, 2), (0, 3, 0, 0, 0), (6, 0, 0, 0, 0), (33, 0, 0, 0, 0), (1, 0, 0, 0, 0), (28, 18, 1, 3, 3), (0, 3, 0, 0, 0), (0, 2, 0, 0, 0), (33, 0, 0, 0, 0), (1, 0, 0, 0, 0), (28, 21, 1, 4, 4), (0, 3, 0, 0, 0), (6, 0, 0, 0, 0), (35, 0, 0, 0, 0), (1, 0, 0, 0, 0), (28, 25, 1, 5, 5), (0, 3, 0, 0, 0), (6, 0, 0, 0, 0), (33, 0, 0, 0, 0), (1, 0, 0, 0, 0), (24, 0, 0, 0, 0), (27, 43, 1, 0, 0), (6, 0, 0, 1, 0), (10, 0, 0, 0, 0), (30, 43, 1, 0, 0), (0, 3, 0, 0, 0), (56, 0, 0, 0, 0)] L st σ := EB_eq 8 0 L st σ
theorem mm_9 {i0 : Int} {x1 : Int} {x2 : Int} {x3 : Int} {x4 : Int} {σ : ev_M} : EM 9 [.inr (.inl i0), .inl x1, .inl x2, .inl x3, .inl x4] σ = EB 9 0 [some (.inr (.inl i0)), some (.inl x1), some (.inl x2), some (.inl x3), some (.inl x4), none, none] [] σ := by
  unfold EM ev_go
  exact if_pos (Nat.le_of_ble_eq_true rfl)
theorem bk_9_0 {L : ev_L} {st : List ev_V} {σ : ev_M} : EB 9 0 L st σ = EO 9 [(1, 0, 0, 0, 0), (28, 25, 1, 5, 5), (0, 1, 0, 0, 0), (32, 0, 0, 0, 0), (3, 5, 1, 0, 0), (0, 1, 0, 0, 0), (0, 5, 1, 0, 0), (60, 5, 2, 51, 0), (3, 6, 1, 0, 0), (1, 0, 0, 0, 0), (28, 28, 1, 6, 6), (0, 6, 1, 0, 0), (0, 2, 0, 0, 0), (33, 0, 0, 0, 0), (1, 0, 0, 0, 0), (28, 31, 1, 7, 7), (0, 6, 1, 0, 0), (0, 3, 0, 0, 0), (33, 0, 0, 0, 0), (1, 0, 0, 0, 0), (28, 34, 1, 8, 8), (0, 6, 1, 0, 0), (6, 0, 0, 0, 0), (33, 0, 0, 0, 0), (1, 0, 0, 0, 0), (28, 37, 1, 9, 9), (0, 6, 1, 0, 0), (0, 4, 1, 0, 0), (33, 0, 0, 0, 0), (1, 0, 0, 0, 0), (28, 40, 1, 10, 10), (0, 6, 1, 0, 0), (6, 0, 0, 0, 0), (33, 0, 0, 0, 0), (1, 0, 0, 0, 0), (28, 25, 1, 5, 5), (0, 1, 0, 0, 0), (25, 0, 0, 0, 0), (32, 0, 0, 0, 0), (6, 0, 0, 1, 0), (10, 0, 0, 0, 0), (33, 0, 0, 0, 0), (0, 5, 1, 0, 0), (56, 0, 0, 0, 0)] L st σ := EB_eq 9 0 L st σ
theorem mm_10 {i0 : Int} {x1 : Int} {x2 : Int} {x3 : Int} {σ : ev_M} : EM 10 [.inr (.inl i0), .inl x1, .inl x2, .inl x3] σ = EB 10 0 [some (.inr (.inl i0)), some (.inl x1), some (.inl x2), some (.inl x3), none] [] σ := by
  unfold EM ev_go
  exact if_pos (Nat.le_of_ble_eq_true rfl)
theorem bk_10_0 {L : ev_L} {st : List ev_V} {σ : ev_M} : EB 10 0 L st σ = EO 10 [(0, 1, 0, 0, 0), (0, 2, 0, 0, 0), (60, 5, 2, 51, 0), (3, 4, 1, 0, 0), (1, 0, 0, 0, 0), (28, 40, 1, 10, 10), (0, 4, 1, 0, 0), (25, 0, 0, 0, 0), (32, 0, 0, 0, 0), (0, 3, 0, 0, 0), (17, 0, 0, 0, 0), (33, 0, 0, 0, 0), (1, 0, 0, 0, 0), (28, 40, 1, 10, 10), (0, 4, 1, 0, 0), (32, 0, 0, 0, 0), (0, 3, 0, 0, 0), (15, 0, 0, 0, 0), (46, 1, 0, 7, 0), (6, 0, 0, 1, 0), (52, 2, 0, 4, 0)] L st σ := EB_eq 10 0 L st σ
theorem bk_10_1 {L : ev_L} {st : List ev_V} {σ : ev_M} : EB 10 1 L st σ = EO 10 [(6, 0, 0, 0, 0), (53, 2, 0, 0, 0)] L st σ := EB_eq 10 1 L st σ
theorem bk_10_2 {L : ev_L} {st : List ev_V} {σ : ev_M} : EB 10 2 L st σ = EO 10 [(56, 1, 0, 0, 0)] L st σ := EB_eq 10 2 L st σ
theorem mm_11 {i0 : Int} {x1 : Int} {x2 : Int} {σ : ev_M} : EM 11 [.inr (.inl i0), .inl x1, .inl x2] σ = EB 11 0 [some (.inr (.inl i0)), some (.inl x1), some (.inl x2)] [] σ := by
  unfold EM ev_go
  exact if_pos (Nat.le_of_ble_eq_true rfl)
theorem bk_11_0 {L : ev_L} {st : List ev_V} {σ : ev_M} : EB 11 0 L st σ = EO 11 [(1, 0, 0, 0, 0), (28, 31, 1, 7, 7), (0, 1, 0, 0, 0), (0, 2, 0, 0, 0), (33, 0, 0, 0, 0), (1, 0, 0, 0, 0), (28, 34, 1, 8, 8), (0, 1, 0, 0, 0), (6, 0, 0, 0, 0), (33, 0, 0, 0, 0), (58, 0, 0, 0, 0)] L st σ := EB_eq 11 0 L st σ
theorem mm_12 {i0 : Int} {x1 : Int} {x2 : Int} {σ : ev_M} : EM 12 [.inr (.inl i0), .inl x1, .inl x2] σ = EB 12 0 [some (.inr (.inl i0)), some (.inl x1), some (.inl x2)] [] σ := by
  unfold EM ev_go
  exact if_pos (Nat.le_of_ble_eq_true rfl)
theorem bk_12_0 {L : ev_L} {st : List ev_V} {σ : ev_M} : EB 12 0 L st σ = EO 12 [(6, 0, 0, 0, 0), (1, 0, 0, 0, 0), (28, 31, 1, 7, 7), (0, 1, 0, 0, 0), (32, 0, 0, 0, 0), (1, 0, 0, 0, 0), (28, 34, 1, 8, 8), (0, 1, 0, 0, 0), (32, 0, 0, 0, 0), (0, 2, 0, 0, 0), (1, 0, 0, 0, 0), (28, 37, 1, 9, 9), (0, 1, 0, 0, 0), (32, 0, 0, 0, 0), (12, 0, 0, 0, 0), (10, 0, 0, 0, 0), (6, 1, 0, 100, 0), (13, 0, 0, 0, 0), (11, 0, 0, 0, 0), (62, 55, 0, 0, 0), (56, 0, 0, 0, 0)] L st σ := EB_eq 12 0 L st σ
theorem mm_13 {i0 : Int} {x1 : Int} {σ : ev_M} : EM 13 [.inr (.inl i0), .inl x1] σ = EB 13 0 [some (.inr (.inl i0)), some (.inl x1), none, none, none] [] σ := by
  unfold EM ev_go
  exact if_pos (Nat.le_of_ble_eq_true rfl)
theorem bk_13_0 {L : ev_L} {st : List ev_V} {σ : ev_M} : EB 13 0 L st σ = EO 13 [(6, 0, 0, 0, 0), (3, 2, 0, 0, 0), (53, 1, 0, 0, 0)] L st σ := EB_eq 13 0 L st σ
theorem bk_13_1 {L : ev_L} {st : List ev_V} {σ : ev_M} : EB 13 1 L st σ = EO 13 [(0, 2, 0, 0, 0), (1, 0, 0, 0, 0), (27, 43, 1, 0, 0), (43, 4, 0, 75, 0), (6, 0, 0, 0, 0), (3, 3, 0, 0, 0), (53, 2, 0, 0, 0)] L st σ := EB_eq 13 1 L st σ
theorem bk_13_2 {L : ev_L} {st : List ev_V} {σ : ev_M} : EB 13 2 L st σ = EO 13 [(0, 3, 0, 0, 0), (1, 0, 0, 0, 0), (28, 25, 1, 5, 5), (0, 2, 0, 0, 0), (32, 0, 0, 0, 0), (43, 3, 0, 57, 0), (0, 2, 0, 0, 0), (0, 3, 0, 0, 0), (60, 5, 2, 51, 0), (3, 4, 1, 0, 0), (1, 0, 0, 0, 0), (28, 31, 1, 7, 7), (0, 4, 1, 0, 0), (1, 0, 0, 0, 0), (0, 4, 1, 0, 0), (0, 1, 0, 0, 0), (59, 12, 3, 60, 1), (33, 0, 0, 0, 0), (1, 0, 0, 0, 0), (28, 34, 1, 8, 8), (0, 4, 1, 0, 0), (1, 0, 0, 0, 0), (28, 34, 1, 8, 8), (0, 4, 1, 0, 0), (32, 0, 0, 0, 0), (0, 1, 0, 0, 0), (1, 0, 0, 0, 0), (28, 37, 1, 9, 9), (0, 4, 1, 0, 0), (32, 0, 0, 0, 0), (12, 0, 0, 0, 0), (10, 0, 0, 0, 0), (6, 1, 0, 100, 0), (14, 0, 0, 0, 0), (33, 0, 0, 0, 0), (23, 3, 0, 1, 0), (52, 2, 0, (-61), 0)] L st σ := EB_eq 13 2 L st σ
theorem bk_13_3 {L : ev_L} {st : List ev_V} {σ : ev_M} : EB 13 3 L st σ = EO 13 [(23, 2, 0, 1, 0), (52, 1, 0, (-77), 0)] L st σ := EB_eq 13 3 L st σ
theorem bk_13_4 {L : ev_L} {st : List ev_V} {σ : ev_M} : EB 13 4 L st σ = EO 13 [(58, 0, 0, 0, 0)] L st σ := EB_eq 13 4 L st σ
theorem mm_14 {i0 : Int} {x1 : Int} {σ : ev_M} : EM 14 [.inr (.inl i0), .inl x1] σ = EB 14 0 [some (.inr (.inl i0)), some (.inl x1), none, none] [] σ := by
  unfold EM ev_go
  exact if_pos (Nat.le_of_ble_eq_true rfl)
theorem bk_14_0 {L : ev_L} {st : List ev_V} {σ : ev_M} : EB 14 0 L st σ = EO 14 [(1, 0, 0, 0, 0), (28, 15, 1, 2, 2), (0, 1, 0, 0, 0), (32, 0, 0, 0, 0), (3, 2, 0, 0, 0), (0, 2, 0, 0, 0), (6, 1, 0, 7, 0), (42, 1, 0, 7, 0), (6, 0, 0, 4, 0), (52, 3, 0, 13, 0)] L st σ := EB_eq 14 0 L st σ
theorem bk_14_1 {L : ev_L} {st : List ev_V} {σ : ev_M} : EB 14 1 L st σ = EO 14 [(0, 2, 0, 0, 0), (6, 0, 0, 5, 0), (42, 2, 0, 7, 0), (6, 0, 0, 2, 0), (52, 3, 0, 4, 0)] L st σ := EB_eq 14 1 L st σ
theorem bk_14_2 {L : ev_L} {st : List ev_V} {σ : ev_M} : EB 14 2 L st σ = EO 14 [(6, 0, 0, 1, 0), (53, 3, 0, 0, 0)] L st σ := EB_eq 14 2 L st σ
theorem bk_14_3 {L : ev_L} {st : List ev_V} {σ : ev_M} : EB 14 3 L st σ = EO 14 [(3, 3, 0, 0, 0), (1, 0, 0, 0, 0), (28, 18, 1, 3, 3), (0, 1, 0, 0, 0), (32, 0, 0, 0, 0), (0, 3, 0, 0, 0), (10, 0, 0, 0, 0), (56, 0, 0, 0, 0)] L st σ := EB_eq 14 3 L st σ
theorem mm_15 {i0 : Int} {x1 : Int} {σ : ev_M} : EM 15 [.inr (.inl i0), .inl x1] σ = EB 15 0 [some (.inr (.inl i0)), some (.inl x1)] [] σ := by
  unfold EM ev_go
  exact if_pos (Nat.le_of_ble_eq_true rfl)
theorem bk_15_0 {L : ev_L} {st : List ev_V} {σ : ev_M} : EB 15 0 L st σ = EO 15 [(1, 0, 0, 0, 0), (28, 21, 1, 4, 4), (0, 1, 0, 0, 0), (34, 0, 0, 0, 0), (46, 1, 0, 7, 0), (6, 0, 0, 0, 0), (52, 2, 0, 12, 0)] L st σ := EB_eq 15 0 L st σ
theorem bk_15_1 {L : ev_L} {st : List ev_V} {σ : ev_M} : EB 15 1 L st σ = EO 15 [(1, 0, 0, 0, 0), (28, 15, 1, 2, 2), (0, 1, 0, 0, 0), (32, 0, 0, 0, 0), (60, 16, 1, 63, 0), (53, 2, 0, 0, 0)] L st σ := EB_eq 15 1 L st σ
theorem bk_15_2 {L : ev_L} {st : List ev_V} {σ : ev_M} : EB 15 2 L st σ = EO 15 [(56, 0, 0, 0, 0)] L st σ := EB_eq 15 2 L st σ
theorem mm_16 {x0 : Int} {σ : ev_M} : EM 16 [.inl x0] σ = EB 16 0 [some (.inl x0)] [] σ := by
  unfold EM ev_go
  exact if_pos (Nat.le_of_ble_eq_true rfl)
theorem bk_16_0 {L : ev_L} {st : List ev_V} {σ : ev_M} : EB 16 0 L st σ = EO 16 [(0, 0, 0, 0, 0), (54, 0, 0, 0, 0)] L st σ := EB_eq 16 0 L st σ
theorem bk_16_1 {L : ev_L} {st : List ev_V} {σ : ev_M} : EB 16 1 L st σ = EO 16 [(6, 0, 0, 0, 0), (56, 0, 0, 0, 0)] L st σ := EB_eq 16 1 L st σ
theorem bk_16_2 {L : ev_L} {st : List ev_V} {σ : ev_M} : EB 16 2 L st σ = EO 16 [(6, 0, 0, 3, 0), (56, 0, 0, 0, 0)] L st σ := EB_eq 16 2 L st σ
theorem bk_16_3 {L : ev_L} {st : List ev_V} {σ : ev_M} : EB 16 3 L st σ = EO 16 [(6, 1, 0, 7, 0), (56, 0, 0, 0, 0)] L st σ := EB_eq 16 3 L st σ
theorem bk_16_4 {L : ev_L} {st : List ev_V} {σ : ev_M} : EB 16 4 L st σ = EO 16 [(6, 1, 0, 12, 0), (56, 0, 0, 0, 0)] L st σ := EB_eq 16 4 L st σ
theorem bk_16_5 {L : ev_L} {st : List ev_V} {σ : ev_M} : EB 16 5 L st σ = EO 16 [(6, 1, 0, 20, 0), (56, 0, 0, 0, 0)] L st σ := EB_eq 16 5 L st σ
theorem bk_16_6 {L : ev_L} {st : List ev_V} {σ : ev_M} : EB 16 6 L st σ = EO 16 [(6, 1, 0, 28, 0), (56, 0, 0, 0, 0)] L st σ := EB_eq 16 6 L st σ
theorem bk_16_7 {L : ev_L} {st : List ev_V} {σ : ev_M} : EB 16 7 L st σ = EO 16 [(6, 1, 0, 40, 0), (56, 0, 0, 0, 0)] L st σ := EB_eq 16 7 L st σ
theorem bk_16_8 {L : ev_L} {st : List ev_V} {σ : ev_M} : EB 16 8 L st σ = EO 16 [(6, 1, 0, 60, 0), (56, 0, 0, 0, 0)] L st σ := EB_eq 16 8 L st σ
theorem mm_17 {i0 : Int} {i1 : Int} {σ : ev_M} : EM 17 [.inr (.inl i0), .inr (.inl i1)] σ = EB 17 0 [some (.inr (.inl i0)), some (.inr (.inl i1)), none] [] σ := by
  unfold EM ev_go
  exact if_pos (Nat.le_of_ble_eq_true rfl)
theorem bk_17_0 {L : ev_L} {st : List ev_V} {σ : ev_M} : EB 17 0 L st σ = EO 17 [(1, 0, 0, 0, 0), (1, 1, 0, 0, 0), (27, 43, 1, 0, 0), (30, 43, 1, 0, 0), (1, 1, 0, 0, 0), (28, 9, 1, 1, 1), (6, 0, 0, 0, 0), (1, 0, 0, 0, 0), (28, 9, 1, 1, 1), (6, 0, 0, 0, 0), (6, 1, 0, 6, 0), (61, 67, 0, 0, 0), (1, 1, 0, 0, 0), (28, 15, 1, 2, 2), (6, 0, 0, 0, 0), (1, 0, 0, 0, 0), (28, 15, 1, 2, 2), (6, 0, 0, 0, 0), (6, 1, 0, 6, 0), (61, 67, 0, 0, 0), (1, 1, 0, 0, 0), (28, 18, 1, 3, 3), (6, 0, 0, 0, 0), (1, 0, 0, 0, 0), (28, 18, 1, 3, 3), (6, 0, 0, 0, 0), (6, 1, 0, 6, 0), (61, 67, 0, 0, 0), (1, 1, 0, 0, 0), (28, 25, 1, 5, 5), (6, 0, 0, 0, 0), (1, 0, 0, 0, 0), (28, 25, 1, 5, 5), (6, 0, 0, 0, 0), (6, 1, 0, 6, 0), (61, 67, 0, 0, 0), (1, 1, 0, 0, 0), (28, 28, 1, 6, 6), (6, 0, 0, 0, 0), (1, 0, 0, 0, 0), (28, 28, 1, 6, 6), (6, 0, 0, 0, 0), (6, 1, 0, 36, 0), (61, 67, 0, 0, 0), (1, 1, 0, 0, 0), (28, 31, 1, 7, 7), (6, 0, 0, 0, 0), (1, 0, 0, 0, 0), (28, 31, 1, 7, 7), (6, 0, 0, 0, 0), (6, 1, 0, 36, 0), (61, 67, 0, 0, 0), (1, 1, 0, 0, 0), (28, 34, 1, 8, 8), (6, 0, 0, 0, 0), (1, 0, 0, 0, 0), (28, 34, 1, 8, 8), (6, 0, 0, 0, 0), (6, 1, 0, 36, 0), (61, 67, 0, 0, 0), (1, 1, 0, 0, 0), (28, 37, 1, 9, 9), (6, 0, 0, 0, 0), (1, 0, 0, 0, 0), (28, 37, 1, 9, 9), (6, 0, 0, 0, 0), (6, 1, 0, 36, 0), (61, 67, 0, 0, 0), (1, 1, 0, 0, 0), (28, 40, 1, 10, 10), (6, 0, 0, 0, 0), (1, 0, 0, 0, 0), (28, 40, 1, 10, 10), (6, 0, 0, 0, 0), (6, 1, 0, 36, 0), (61, 67, 0, 0, 0), (6, 0, 0, 0, 0), (3, 2, 0, 0, 0), (53, 1, 0, 0, 0)] L st σ := EB_eq 17 0 L st σ
theorem bk_17_1 {L : ev_L} {st : List ev_V} {σ : ev_M} : EB 17 1 L st σ = EO 17 [(0, 2, 0, 0, 0), (6, 1, 0, 6, 0), (43, 2, 0, 21, 0), (1, 0, 0, 0, 0), (28, 21, 1, 4, 4), (0, 2, 0, 0, 0), (1, 1, 0, 0, 0), (28, 21, 1, 4, 4), (0, 2, 0, 0, 0), (34, 0, 0, 0, 0), (35, 0, 0, 0, 0), (23, 2, 0, 1, 0), (52, 1, 0, (-21), 0)] L st σ := EB_eq 17 1 L st σ
theorem bk_17_2 {L : ev_L} {st : List ev_V} {σ : ev_M} : EB 17 2 L st σ = EO 17 [(58, 0, 0, 0, 0)] L st σ := EB_eq 17 2 L st σ
theorem mm_18 {i0 : Int} {i1 : Int} {x2 : Int} {σ : ev_M} : EM 18 [.inr (.inl i0), .inr (.inl i1), .inl x2] σ = EB 18 0 [some (.inr (.inl i0)), some (.inr (.inl i1)), some (.inl x2)] [] σ := by
  unfold EM ev_go
  exact if_pos (Nat.le_of_ble_eq_true rfl)
theorem bk_18_0 {L : ev_L} {st : List ev_V} {σ : ev_M} : EB 18 0 L st σ = EO 18 [(1, 0, 0, 0, 0), (1, 1, 0, 0, 0), (0, 2, 0, 0, 0), (6, 0, 0, 0, 0), (59, 20, 4, 18, 2), (1, 0, 0, 0, 0), (1, 1, 0, 0, 0), (0, 2, 0, 0, 0), (59, 21, 3, 22, 2), (56, 0, 0, 0, 0)] L st σ := EB_eq 18 0 L st σ
theorem mm_19 {i0 : Int} {i1 : Int} {x2 : Int} {x3 : Int} {σ : ev_M} : EM 19 [.inr (.inl i0), .inr (.inl i1), .inl x2, .inl x3] σ = EB 19 0 [some (.inr (.inl i0)), some (.inr (.inl i1)), some (.inl x2), some (.inl x3)] [] σ := by
  unfold EM ev_go
  exact if_pos (Nat.le_of_ble_eq_true rfl)
theorem bk_19_0 {L : ev_L} {st : List ev_V} {σ : ev_M} : EB 19 0 L st σ = EO 19 [(1, 0, 0, 0, 0), (1, 1, 0, 0, 0), (0, 2, 0, 0, 0), (0, 3, 0, 0, 0), (59, 20, 4, 18, 2), (1, 0, 0, 0, 0), (1, 1, 0, 0, 0), (0, 2, 0, 0, 0), (59, 21, 3, 22, 2), (56, 0, 0, 0, 0)] L st σ := EB_eq 19 0 L st σ
theorem mm_20 {i0 : Int} {i1 : Int} {x2 : Int} {x3 : Int} {σ : ev_M} : EM 20 [.inr (.inl i0), .inr (.inl i1), .inl x2, .inl x3] σ = EB 20 0 [some (.inr (.inl i0)), some (.inr (.inl i1)), some (.inl x2), some (.inl x3), none] [] σ := by
  unfold EM ev_go
  exact if_pos (Nat.le_of_ble_eq_true rfl)
theorem bk_20_0 {L : ev_L} {st : List ev_V} {σ : ev_M} : EB 20 0 L st σ = EO 20 [(6, 0, 0, 0, 0), (3, 4, 1, 0, 0), (53, 1, 0, 0, 0)] L st σ := EB_eq 20 0 L st σ
theorem bk_20_1 {L : ev_L} {st : List ev_V} {σ : ev_M} : EB 20 1 L st σ = EO 20 [(0, 4, 1, 0, 0), (1, 1, 0, 0, 0), (28, 26, 1, 5, 5), (0, 2, 0, 0, 0), (32, 0, 0, 0, 0), (43, 2, 0, 27, 0), (1, 0, 0, 0, 0), (28, 9, 2, 0, 1), (0, 4, 1, 0, 0), (1, 1, 0, 0, 0), (0, 2, 0, 0, 0), (0, 4, 1, 0, 0), (60, 5, 2, 31, 0), (0, 3, 0, 0, 0), (59, 12, 3, 35, 1), (33, 0, 0, 0, 0), (23, 4, 0, 1, 0), (52, 1, 0, (-32), 0)] L st σ := EB_eq 20 1 L st σ
theorem bk_20_2 {L : ev_L} {st : List ev_V} {σ : ev_M} : EB 20 2 L st σ = EO 20 [(58, 0, 0, 0, 0)] L st σ := EB_eq 20 2 L st σ
theorem mm_21 {i0 : Int} {i1 : Int} {x2 : Int} {σ : ev_M} : EM 21 [.inr (.inl i0), .inr (.inl i1), .inl x2] σ = EB 21 0 [some (.inr (.inl i0)), some (.inr (.inl i1)), some (.inl x2), none, none, none, none, none] [] σ := by
  unfold EM ev_go
  exact if_pos (Nat.le_of_ble_eq_true rfl)
theorem bk_21_0 {L : ev_L} {st : List ev_V} {σ : ev_M} : EB 21 0 L st σ = EO 21 [(1, 1, 0, 0, 0), (28, 26, 1, 5, 5), (0, 2, 0, 0, 0), (32, 0, 0, 0, 0), (3, 3, 0, 0, 0), (0, 3, 0, 0, 0), (6, 0, 0, 1, 0), (11, 0, 0, 0, 0), (3, 4, 1, 0, 0), (53, 1, 0, 0, 0)] L st σ := EB_eq 21 0 L st σ
theorem bk_21_1 {L : ev_L} {st : List ev_V} {σ : ev_M} : EB 21 1 L st σ = EO 21 [(0, 4, 1, 0, 0), (48, 7, 0, 99, 0), (1, 1, 0, 0, 0), (28, 38, 1, 10, 10), (0, 2, 0, 0, 0), (0, 4, 1, 0, 0), (60, 5, 2, 31, 0), (32, 0, 0, 0, 0), (3, 5, 1, 0, 0), (0, 5, 1, 0, 0), (6, 1, 0, 64, 0), (15, 0, 0, 0, 0), (46, 2, 0, 8, 0), (6, 1, 0, 9, 0), (52, 3, 0, 4, 0)] L st σ := EB_eq 21 1 L st σ
theorem bk_21_2 {L : ev_L} {st : List ev_V} {σ : ev_M} : EB 21 2 L st σ = EO 21 [(6, 0, 0, 0, 0), (53, 3, 0, 0, 0)] L st σ := EB_eq 21 2 L st σ
theorem bk_21_3 {L : ev_L} {st : List ev_V} {σ : ev_M} : EB 21 3 L st σ = EO 21 [(3, 6, 1, 0, 0), (0, 4, 1, 0, 0), (6, 0, 0, 1, 0), (10, 0, 0, 0, 0), (3, 7, 1, 0, 0), (53, 4, 0, 0, 0)] L st σ := EB_eq 21 3 L st σ
theorem bk_21_4 {L : ev_L} {st : List ev_V} {σ : ev_M} : EB 21 4 L st σ = EO 21 [(0, 7, 1, 0, 0), (0, 3, 0, 0, 0), (43, 6, 0, 33, 0), (0, 5, 1, 0, 0), (6, 0, 0, 1, 0), (0, 7, 1, 0, 0), (18, 0, 0, 0, 0), (15, 0, 0, 0, 0), (46, 5, 0, 17, 0), (0, 6, 1, 0, 0), (1, 0, 0, 0, 0), (28, 15, 2, 1, 2), (0, 7, 1, 0, 0), (32, 0, 0, 0, 0), (62, 41, 0, 0, 0), (3, 6, 1, 0, 0), (53, 5, 0, 0, 0)] L st σ := EB_eq 21 4 L st σ
theorem bk_21_5 {L : ev_L} {st : List ev_V} {σ : ev_M} : EB 21 5 L st σ = EO 21 [(23, 7, 0, 1, 0), (52, 4, 0, (-33), 0)] L st σ := EB_eq 21 5 L st σ
theorem bk_21_6 {L : ev_L} {st : List ev_V} {σ : ev_M} : EB 21 6 L st σ = EO 21 [(1, 0, 0, 0, 0), (28, 15, 2, 1, 2), (0, 4, 1, 0, 0), (1, 0, 0, 0, 0), (28, 9, 2, 0, 1), (0, 4, 1, 0, 0), (32, 0, 0, 0, 0), (0, 6, 1, 0, 0), (63, 46, 0, 0, 0), (33, 0, 0, 0, 0), (23, 4, 0, (-1), 0), (52, 1, 0, (-98), 0)] L st σ := EB_eq 21 6 L st σ
theorem bk_21_7 {L : ev_L} {st : List ev_V} {σ : ev_M} : EB 21 7 L st σ = EO 21 [(0, 3, 0, 0, 0), (47, 8, 0, 7, 0), (6, 0, 0, 0, 0), (52, 9, 0, 9, 0)] L st σ := EB_eq 21 7 L st σ
theorem bk_21_8 {L : ev_L} {st : List ev_V} {σ : ev_M} : EB 21 8 L st σ = EO 21 [(1, 0, 0, 0, 0), (28, 15, 2, 1, 2), (6, 0, 0, 0, 0), (32, 0, 0, 0, 0), (53, 9, 0, 0, 0)] L st σ := EB_eq 21 8 L st σ
theorem bk_21_9 {L : ev_L} {st : List ev_V} {σ : ev_M} : EB 21 9 L st σ = EO 21 [(56, 0, 0, 0, 0)] L st σ := EB_eq 21 9 L st σ
theorem mm_22 {i0 : Int} {i1 : Int} {σ : ev_M} : EM 22 [.inr (.inl i0), .inr (.inl i1)] σ = EB 22 0 [some (.inr (.inl i0)), some (.inr (.inl i1)), none, none] [] σ := by
  unfold EM ev_go
  exact if_pos (Nat.le_of_ble_eq_true rfl)
theorem bk_22_0 {L : ev_L} {st : List ev_V} {σ : ev_M} : EB 22 0 L st σ = EO 22 [(6, 0, 0, 0, 0), (3, 2, 0, 0, 0), (6, 0, 0, 0, 0), (3, 3, 0, 0, 0), (53, 1, 0, 0, 0)] L st σ := EB_eq 22 0 L st σ
theorem bk_22_1 {L : ev_L} {st : List ev_V} {σ : ev_M} : EB 22 1 L st σ = EO 22 [(0, 3, 0, 0, 0), (1, 1, 0, 0, 0), (27, 49, 1, 0, 0), (43, 3, 0, 27, 0), (1, 0, 0, 0, 0), (1, 1, 0, 0, 0), (0, 3, 0, 0, 0), (59, 18, 3, 53, 2), (1, 1, 0, 0, 0), (28, 56, 1, 2, 2), (0, 3, 0, 0, 0), (32, 0, 0, 0, 0), (43, 2, 0, 6, 0), (23, 2, 0, 1, 0), (53, 2, 0, 0, 0)] L st σ := EB_eq 22 1 L st σ
theorem bk_22_2 {L : ev_L} {st : List ev_V} {σ : ev_M} : EB 22 2 L st σ = EO 22 [(23, 3, 0, 1, 0), (52, 1, 0, (-29), 0)] L st σ := EB_eq 22 2 L st σ
theorem bk_22_3 {L : ev_L} {st : List ev_V} {σ : ev_M} : EB 22 3 L st σ = EO 22 [(0, 2, 0, 0, 0), (56, 0, 0, 0, 0)] L st σ := EB_eq 22 3 L st σ
theorem mm_23 {i0 : Int} {i1 : Int} {x2 : Int} {σ : ev_M} : EM 23 [.inr (.inl i0), .inr (.inl i1), .inl x2] σ = EB 23 0 [some (.inr (.inl i0)), some (.inr (.inl i1)), some (.inl x2), none, none, none] [] σ := by
  unfold EM ev_go
  exact if_pos (Nat.le_of_ble_eq_true rfl)
theorem bk_23_0 {L : ev_L} {st : List ev_V} {σ : ev_M} : EB 23 0 L st σ = EO 23 [(1, 0, 0, 0, 0), (1, 1, 0, 0, 0), (0, 2, 0, 0, 0), (59, 18, 3, 53, 2), (3, 3, 0, 0, 0), (6, 0, 0, 0, 0), (3, 4, 1, 0, 0), (6, 0, 0, 0, 0), (3, 5, 1, 0, 0), (53, 1, 0, 0, 0)] L st σ := EB_eq 23 0 L st σ
theorem bk_23_1 {L : ev_L} {st : List ev_V} {σ : ev_M} : EB 23 1 L st σ = EO 23 [(0, 5, 1, 0, 0), (1, 1, 0, 0, 0), (28, 26, 1, 5, 5), (0, 2, 0, 0, 0), (32, 0, 0, 0, 0), (43, 4, 0, 60, 0), (1, 0, 0, 0, 0), (28, 9, 2, 0, 1), (0, 5, 1, 0, 0), (32, 0, 0, 0, 0), (51, 3, 0, 44, 0), (1, 0, 0, 0, 0), (28, 9, 2, 0, 1), (0, 5, 1, 0, 0), (25, 0, 0, 0, 0), (32, 0, 0, 0, 0), (6, 0, 0, 1, 0), (11, 0, 0, 0, 0), (33, 0, 0, 0, 0), (1, 0, 0, 0, 0), (1, 1, 0, 0, 0), (0, 2, 0, 0, 0), (59, 21, 3, 22, 2), (0, 3, 0, 0, 0), (43, 2, 0, 12, 0), (0, 4, 1, 0, 0), (6, 0, 0, 1, 0), (0, 5, 1, 0, 0), (18, 0, 0, 0, 0), (16, 0, 0, 0, 0), (3, 4, 1, 0, 0), (53, 2, 0, 0, 0)] L st σ := EB_eq 23 1 L st σ
theorem bk_23_2 {L : ev_L} {st : List ev_V} {σ : ev_M} : EB 23 2 L st σ = EO 23 [(1, 0, 0, 0, 0), (28, 9, 2, 0, 1), (0, 5, 1, 0, 0), (25, 0, 0, 0, 0), (32, 0, 0, 0, 0), (6, 0, 0, 1, 0), (10, 0, 0, 0, 0), (33, 0, 0, 0, 0), (53, 3, 0, 0, 0)] L st σ := EB_eq 23 2 L st σ
theorem bk_23_3 {L : ev_L} {st : List ev_V} {σ : ev_M} : EB 23 3 L st σ = EO 23 [(23, 5, 0, 1, 0), (52, 1, 0, (-65), 0)] L st σ := EB_eq 23 3 L st σ
theorem bk_23_4 {L : ev_L} {st : List ev_V} {σ : ev_M} : EB 23 4 L st σ = EO 23 [(0, 4, 1, 0, 0), (56, 0, 0, 0, 0)] L st σ := EB_eq 23 4 L st σ
theorem mm_24 {i0 : Int} {i1 : Int} {x2 : Int} {σ : ev_M} : EM 24 [.inr (.inl i0), .inr (.inl i1), .inl x2] σ = EB 24 0 [some (.inr (.inl i0)), some (.inr (.inl i1)), some (.inl x2), none, none, none, none] [] σ := by
  unfold EM ev_go
  exact if_pos (Nat.le_of_ble_eq_true rfl)
theorem bk_24_0 {L : ev_L} {st : List ev_V} {σ : ev_M} : EB 24 0 L st σ = EO 24 [(1, 0, 0, 0, 0), (1, 1, 0, 0, 0), (0, 2, 0, 0, 0), (59, 18, 3, 53, 2), (3, 3, 0, 0, 0), (6, 0, 0, 0, 0), (3, 4, 1, 0, 0), (6, 2, 0, 512, 0), (3, 5, 1, 0, 0), (53, 1, 0, 0, 0)] L st σ := EB_eq 24 0 L st σ
theorem bk_24_1 {L : ev_L} {st : List ev_V} {σ : ev_M} : EB 24 1 L st σ = EO 24 [(0, 5, 1, 0, 0), (51, 3, 0, 43, 0), (0, 4, 1, 0, 0), (0, 5, 1, 0, 0), (10, 0, 0, 0, 0), (3, 6, 1, 0, 0), (0, 6, 1, 0, 0), (6, 2, 0, 1000, 0), (44, 2, 0, 19, 0), (1, 0, 0, 0, 0), (1, 1, 0, 0, 0), (0, 2, 0, 0, 0), (0, 6, 1, 0, 0), (59, 19, 4, 59, 2), (0, 3, 0, 0, 0), (42, 2, 0, 7, 0), (0, 6, 1, 0, 0), (3, 4, 1, 0, 0), (53, 2, 0, 0, 0)] L st σ := EB_eq 24 1 L st σ
theorem bk_24_2 {L : ev_L} {st : List ev_V} {σ : ev_M} : EB 24 2 L st σ = EO 24 [(0, 5, 1, 0, 0), (6, 0, 0, 2, 0), (13, 0, 0, 0, 0), (3, 5, 1, 0, 0), (52, 1, 0, (-42), 0)] L st σ := EB_eq 24 2 L st σ
theorem bk_24_3 {L : ev_L} {st : List ev_V} {σ : ev_M} : EB 24 3 L st σ = EO 24 [(0, 4, 1, 0, 0), (6, 2, 0, 1000, 0), (43, 4, 0, 10, 0), (0, 4, 1, 0, 0), (6, 0, 0, 1, 0), (10, 0, 0, 0, 0), (52, 5, 0, 4, 0)] L st σ := EB_eq 24 3 L st σ
theorem bk_24_4 {L : ev_L} {st : List ev_V} {σ : ev_M} : EB 24 4 L st σ = EO 24 [(6, 0, 0, (-1), 0), (53, 5, 0, 0, 0)] L st σ := EB_eq 24 4 L st σ
theorem bk_24_5 {L : ev_L} {st : List ev_V} {σ : ev_M} : EB 24 5 L st σ = EO 24 [(56, 0, 0, 0, 0)] L st σ := EB_eq 24 5 L st σ
theorem mm_25 {i0 : Int} {i1 : Int} {x2 : Int} {σ : ev_M} : EM 25 [.inr (.inl i0), .inr (.inl i1), .inl x2] σ = EB 25 0 [some (.inr (.inl i0)), some (.inr (.inl i1)), some (.inl x2), none, none] [] σ := by
  unfold EM ev_go
  exact if_pos (Nat.le_of_ble_eq_true rfl)
theorem bk_25_0 {L : ev_L} {st : List ev_V} {σ : ev_M} : EB 25 0 L st σ = EO 25 [(1, 0, 0, 0, 0), (1, 1, 0, 0, 0), (28, 63, 7, 1, 6), (0, 2, 0, 0, 0), (6, 0, 0, 0, 0), (59, 20, 4, 18, 2), (6, 0, 0, 0, 0), (3, 3, 0, 0, 0), (53, 1, 0, 0, 0)] L st σ := EB_eq 25 0 L st σ
theorem bk_25_1 {L : ev_L} {st : List ev_V} {σ : ev_M} : EB 25 1 L st σ = EO 25 [(0, 3, 0, 0, 0), (1, 1, 0, 0, 0), (28, 69, 7, 2, 17), (27, 73, 4, 0, 0), (43, 3, 0, 62, 0), (1, 1, 0, 0, 0), (28, 69, 7, 2, 17), (28, 78, 4, 2, 1), (0, 3, 0, 0, 0), (32, 0, 0, 0, 0), (0, 2, 0, 0, 0), (41, 2, 0, 43, 0), (1, 1, 0, 0, 0), (28, 69, 7, 2, 17), (28, 81, 4, 3, 2), (0, 3, 0, 0, 0), (32, 0, 0, 0, 0), (3, 4, 1, 0, 0), (1, 0, 0, 0, 0), (28, 9, 2, 0, 1), (0, 4, 1, 0, 0), (6, 1, 0, 9, 0), (1, 0, 0, 0, 0), (28, 9, 2, 0, 1), (0, 4, 1, 0, 0), (32, 0, 0, 0, 0), (1, 1, 0, 0, 0), (28, 69, 7, 2, 17), (28, 84, 4, 4, 3), (0, 3, 0, 0, 0), (32, 0, 0, 0, 0), (10, 0, 0, 0, 0), (63, 46, 0, 0, 0), (33, 0, 0, 0, 0), (53, 2, 0, 0, 0)] L st σ := EB_eq 25 1 L st σ
theorem bk_25_2 {L : ev_L} {st : List ev_V} {σ : ev_M} : EB 25 2 L st σ = EO 25 [(23, 3, 0, 1, 0), (52, 1, 0, (-67), 0)] L st σ := EB_eq 25 2 L st σ
theorem bk_25_3 {L : ev_L} {st : List ev_V} {σ : ev_M} : EB 25 3 L st σ = EO 25 [(1, 0, 0, 0, 0), (1, 1, 0, 0, 0), (28, 63, 7, 1, 6), (0, 2, 0, 0, 0), (59, 21, 3, 22, 2), (56, 0, 0, 0, 0)] L st σ := EB_eq 25 3 L st σ
theorem mm_26 {i0 : Int} {i1 : Int} {σ : ev_M} : EM 26 [.inr (.inl i0), .inr (.inl i1)] σ = EB 26 0 [some (.inr (.inl i0)), some (.inr (.inl i1))] [] σ := by
  unfold EM ev_go
  exact if_pos (Nat.le_of_ble_eq_true rfl)
theorem bk_26_0 {L : ev_L} {st : List ev_V} {σ : ev_M} : EB 26 0 L st σ = EO 26 [(1, 0, 0, 0, 0), (27, 18, 3, 0, 0), (6, 0, 0, 5, 0), (42, 1, 0, 7, 0), (1, 0, 0, 0, 0), (59, 27, 1, 22, 3), (53, 1, 0, 0, 0)] L st σ := EB_eq 26 0 L st σ
theorem bk_26_1 {L : ev_L} {st : List ev_V} {σ : ev_M} : EB 26 1 L st σ = EO 26 [(1, 0, 0, 0, 0), (28, 11, 3, 1, 1), (1, 0, 0, 0, 0), (27, 18, 3, 0, 0), (36, 0, 0, 0, 0), (1, 1, 0, 0, 0), (59, 56, 2, 25, 7), (1, 0, 0, 0, 0), (24, 0, 0, 0, 0), (27, 18, 3, 0, 0), (6, 0, 0, 1, 0), (10, 0, 0, 0, 0), (30, 18, 3, 0, 0), (58, 0, 0, 0, 0)] L st σ := EB_eq 26 1 L st σ
theorem mm_27 {i0 : Int} {σ : ev_M} : EM 27 [.inr (.inl i0)] σ = EB 27 0 [some (.inr (.inl i0)), none, none] [] σ := by
  unfold EM ev_go
  exact if_pos (Nat.le_of_ble_eq_true rfl)
theorem bk_27_0 {L : ev_L} {st : List ev_V} {σ : ev_M} : EB 27 0 L st σ = EO 27 [(1, 0, 0, 0, 0), (28, 11, 3, 1, 1), (6, 0, 0, 0, 0), (36, 0, 0, 0, 0), (4, 1, 0, 0, 0), (6, 0, 0, 1, 0), (3, 2, 0, 0, 0), (53, 1, 0, 0, 0)] L st σ := EB_eq 27 0 L st σ
theorem bk_27_1 {L : ev_L} {st : List ev_V} {σ : ev_M} : EB 27 1 L st σ = EO 27 [(0, 2, 0, 0, 0), (6, 0, 0, 5, 0), (43, 2, 0, 23, 0), (1, 0, 0, 0, 0), (28, 11, 3, 1, 1), (0, 2, 0, 0, 0), (6, 0, 0, 1, 0), (11, 0, 0, 0, 0), (1, 0, 0, 0, 0), (28, 11, 3, 1, 1), (0, 2, 0, 0, 0), (36, 0, 0, 0, 0), (37, 0, 0, 0, 0), (23, 2, 0, 1, 0), (52, 1, 0, (-22), 0)] L st σ := EB_eq 27 1 L st σ
theorem bk_27_2 {L : ev_L} {st : List ev_V} {σ : ev_M} : EB 27 2 L st σ = EO 27 [(1, 0, 0, 0, 0), (28, 11, 3, 1, 1), (6, 0, 0, 4, 0), (1, 1, 0, 0, 0), (37, 0, 0, 0, 0), (1, 0, 0, 0, 0), (6, 0, 0, 4, 0), (30, 18, 3, 0, 0), (58, 0, 0, 0, 0)] L st σ := EB_eq 27 2 L st σ
theorem mm_28 {i0 : Int} {i1 : Int} {σ : ev_M} : EM 28 [.inr (.inl i0), .inr (.inl i1)] σ = EB 28 0 [some (.inr (.inl i0)), some (.inr (.inl i1))] [] σ := by
  unfold EM ev_go
  exact if_pos (Nat.le_of_ble_eq_true rfl)
theorem bk_28_0 {L : ev_L} {st : List ev_V} {σ : ev_M} : EB 28 0 L st σ = EO 28 [(1, 0, 0, 0, 0), (27, 18, 3, 0, 0), (50, 1, 0, 5, 0), (6, 0, 0, 0, 0), (56, 1, 0, 0, 0)] L st σ := EB_eq 28 0 L st σ
theorem bk_28_1 {L : ev_L} {st : List ev_V} {σ : ev_M} : EB 28 1 L st σ = EO 28 [(1, 0, 0, 0, 0), (24, 0, 0, 0, 0), (27, 18, 3, 0, 0), (6, 0, 0, 1, 0), (11, 0, 0, 0, 0), (30, 18, 3, 0, 0), (1, 1, 0, 0, 0), (1, 0, 0, 0, 0), (28, 11, 3, 1, 1), (1, 0, 0, 0, 0), (27, 18, 3, 0, 0), (36, 0, 0, 0, 0), (59, 56, 2, 25, 7), (6, 0, 0, 1, 0), (56, 1, 0, 0, 0)] L st σ := EB_eq 28 1 L st σ
theorem mm_29 {i0 : Int} {x1 : Int} {σ : ev_M} : EM 29 [.inr (.inl i0), .inl x1] σ = EB 29 0 [some (.inr (.inl i0)), some (.inl x1)] [] σ := by
  unfold EM ev_go
  exact if_pos (Nat.le_of_ble_eq_true rfl)
theorem bk_29_0 {L : ev_L} {st : List ev_V} {σ : ev_M} : EB 29 0 L st σ = EO 29 [(6, 0, 0, 0, 0), (0, 1, 0, 0, 0), (44, 1, 0, 15, 0), (0, 1, 0, 0, 0), (1, 0, 0, 0, 0), (27, 27, 4, 0, 0), (43, 1, 0, 7, 0), (6, 0, 0, 1, 0), (52, 2, 0, 4, 0)] L st σ := EB_eq 29 0 L st σ
theorem bk_29_1 {L : ev_L} {st : List ev_V} {σ : ev_M} : EB 29 1 L st σ = EO 29 [(6, 0, 0, 0, 0), (53, 2, 0, 0, 0)] L st σ := EB_eq 29 1 L st σ
theorem bk_29_2 {L : ev_L} {st : List ev_V} {σ : ev_M} : EB 29 2 L st σ = EO 29 [(56, 1, 0, 0, 0)] L st σ := EB_eq 29 2 L st σ
theorem mm_30 {i0 : Int} {x1 : Int} {σ : ev_M} : EM 30 [.inr (.inl i0), .inl x1] σ = EB 30 0 [some (.inr (.inl i0)), some (.inl x1)] [] σ := by
  unfold EM ev_go
  exact if_pos (Nat.le_of_ble_eq_true rfl)
theorem bk_30_0 {L : ev_L} {st : List ev_V} {σ : ev_M} : EB 30 0 L st σ = EO 30 [(6, 0, 0, 0, 0), (0, 1, 0, 0, 0), (44, 1, 0, 15, 0), (0, 1, 0, 0, 0), (1, 0, 0, 0, 0), (27, 31, 4, 1, 0), (43, 1, 0, 7, 0), (6, 0, 0, 1, 0), (52, 2, 0, 4, 0)] L st σ := EB_eq 30 0 L st σ
theorem bk_30_1 {L : ev_L} {st : List ev_V} {σ : ev_M} : EB 30 1 L st σ = EO 30 [(6, 0, 0, 0, 0), (53, 2, 0, 0, 0)] L st σ := EB_eq 30 1 L st σ
theorem bk_30_2 {L : ev_L} {st : List ev_V} {σ : ev_M} : EB 30 2 L st σ = EO 30 [(56, 1, 0, 0, 0)] L st σ := EB_eq 30 2 L st σ
theorem mm_31 {i0 : Int} {x1 : Int} {x2 : Int} {x3 : Int} {x4 : Int} {x5 : Int} {σ : ev_M} : EM 31 [.inr (.inl i0), .inl x1, .inl x2, .inl x3, .inl x4, .inl x5] σ = EB 31 0 [some (.inr (.inl i0)), some (.inl x1), some (.inl x2), some (.inl x3), some (.inl x4), some (.inl x5), none, none] [] σ := by
  unfold EM ev_go
  exact if_pos (Nat.le_of_ble_eq_true rfl)
theorem bk_31_0 {L : ev_L} {st : List ev_V} {σ : ev_M} : EB 31 0 L st σ = EO 31 [(1, 0, 0, 0, 0), (27, 31, 4, 1, 0), (3, 6, 1, 0, 0), (0, 6, 1, 0, 0), (6, 0, 0, 4, 0), (12, 0, 0, 0, 0), (3, 7, 1, 0, 0), (1, 0, 0, 0, 0), (28, 21, 4, 5, 4), (0, 6, 1, 0, 0), (0, 1, 0, 0, 0), (33, 0, 0, 0, 0), (1, 0, 0, 0, 0), (28, 24, 4, 6, 5), (0, 7, 1, 0, 0), (0, 2, 0, 0, 0), (33, 0, 0, 0, 0), (1, 0, 0, 0, 0), (28, 24, 4, 6, 5), (0, 7, 1, 0, 0), (6, 0, 0, 1, 0), (10, 0, 0, 0, 0), (0, 3, 0, 0, 0), (33, 0, 0, 0, 0), (1, 0, 0, 0, 0), (28, 24, 4, 6, 5), (0, 7, 1, 0, 0), (6, 0, 0, 2, 0), (10, 0, 0, 0, 0), (0, 4, 1, 0, 0), (33, 0, 0, 0, 0), (1, 0, 0, 0, 0), (28, 24, 4, 6, 5), (0, 7, 1, 0, 0), (6, 0, 0, 3, 0), (10, 0, 0, 0, 0), (0, 5, 1, 0, 0), (33, 0, 0, 0, 0), (1, 0, 0, 0, 0), (24, 0, 0, 0, 0), (27, 31, 4, 1, 0), (6, 0, 0, 1, 0), (10, 0, 0, 0, 0), (30, 31, 4, 1, 0), (0, 6, 1, 0, 0), (56, 0, 0, 0, 0)] L st σ := EB_eq 31 0 L st σ
theorem mm_32 {i0 : Int} {x1 : Int} {x2 : Int} {x3 : Int} {σ : ev_M} : EM 32 [.inr (.inl i0), .inl x1, .inl x2, .inl x3] σ = EB 32 0 [some (.inr (.inl i0)), some (.inl x1), some (.inl x2), some (.inl x3), none] [] σ := by
  unfold EM ev_go
  exact if_pos (Nat.le_of_ble_eq_true rfl)
theorem bk_32_0 {L : ev_L} {st : List ev_V} {σ : ev_M} : EB 32 0 L st σ = EO 32 [(1, 0, 0, 0, 0), (27, 27, 4, 0, 0), (3, 4, 1, 0, 0), (1, 0, 0, 0, 0), (28, 9, 4, 2, 1), (0, 4, 1, 0, 0), (0, 1, 0, 0, 0), (33, 0, 0, 0, 0), (1, 0, 0, 0, 0), (28, 15, 4, 3, 2), (0, 4, 1, 0, 0), (0, 2, 0, 0, 0), (33, 0, 0, 0, 0), (1, 0, 0, 0, 0), (28, 18, 4, 4, 3), (0, 4, 1, 0, 0), (0, 3, 0, 0, 0), (33, 0, 0, 0, 0), (1, 0, 0, 0, 0), (24, 0, 0, 0, 0), (27, 27, 4, 0, 0), (6, 0, 0, 1, 0), (10, 0, 0, 0, 0), (30, 27, 4, 0, 0), (0, 4, 1, 0, 0), (56, 0, 0, 0, 0)] L st σ := EB_eq 32 0 L st σ
theorem mm_33 {i0 : Int} {i1 : Int} {σ : ev_M} : EM 33 [.inr (.inl i0), .inr (.inl i1)] σ = EB 33 0 [some (.inr (.inl i0)), some (.inr (.inl i1))] [] σ := by
  unfold EM ev_go
  exact if_pos (Nat.le_of_ble_eq_true rfl)
theorem bk_33_0 {L : ev_L} {st : List ev_V} {σ : ev_M} : EB 33 0 L st σ = EO 33 [(1, 0, 0, 0, 0), (1, 1, 0, 0, 0), (27, 27, 4, 0, 0), (30, 27, 4, 0, 0), (1, 0, 0, 0, 0), (1, 1, 0, 0, 0), (27, 31, 4, 1, 0), (30, 31, 4, 1, 0), (1, 1, 0, 0, 0), (28, 9, 4, 2, 1), (6, 0, 0, 0, 0), (1, 0, 0, 0, 0), (28, 9, 4, 2, 1), (6, 0, 0, 0, 0), (6, 1, 0, 8, 0), (61, 34, 0, 0, 0), (1, 1, 0, 0, 0), (28, 15, 4, 3, 2), (6, 0, 0, 0, 0), (1, 0, 0, 0, 0), (28, 15, 4, 3, 2), (6, 0, 0, 0, 0), (6, 1, 0, 8, 0), (61, 34, 0, 0, 0), (1, 1, 0, 0, 0), (28, 18, 4, 4, 3), (6, 0, 0, 0, 0), (1, 0, 0, 0, 0), (28, 18, 4, 4, 3), (6, 0, 0, 0, 0), (6, 1, 0, 8, 0), (61, 34, 0, 0, 0), (1, 1, 0, 0, 0), (28, 21, 4, 5, 4), (6, 0, 0, 0, 0), (1, 0, 0, 0, 0), (28, 21, 4, 5, 4), (6, 0, 0, 0, 0), (6, 0, 0, 3, 0), (61, 34, 0, 0, 0), (1, 1, 0, 0, 0), (28, 24, 4, 6, 5), (6, 0, 0, 0, 0), (1, 0, 0, 0, 0), (28, 24, 4, 6, 5), (6, 0, 0, 0, 0), (6, 1, 0, 12, 0), (61, 34, 0, 0, 0), (58, 0, 0, 0, 0)] L st σ := EB_eq 33 0 L st σ
theorem mm_34 {i0 : Int} {i1 : Int} {σ : ev_M} : EM 34 [.inr (.inl i0), .inr (.inl i1)] σ = EB 34 0 [some (.inr (.inl i0)), some (.inr (.inl i1)), none, none] [] σ := by
  unfold EM ev_go
  exact if_pos (Nat.le_of_ble_eq_true rfl)
theorem bk_34_0 {L : ev_L} {st : List ev_V} {σ : ev_M} : EB 34 0 L st σ = EO 34 [(1, 0, 0, 0, 0), (6, 0, 0, 0, 0), (30, 28, 5, 2, 0), (1, 0, 0, 0, 0), (6, 0, 0, (-1), 0), (30, 32, 5, 3, 0), (1, 0, 0, 0, 0), (6, 0, 0, 0, 0), (30, 35, 5, 5, 0), (1, 0, 0, 0, 0), (6, 0, 0, 0, 0), (30, 38, 5, 6, 0), (6, 0, 0, 1, 0), (3, 2, 0, 0, 0), (6, 0, 0, 0, 0), (3, 3, 0, 0, 0), (53, 1, 0, 0, 0)] L st σ := EB_eq 34 0 L st σ
theorem bk_34_1 {L : ev_L} {st : List ev_V} {σ : ev_M} : EB 34 1 L st σ = EO 34 [(0, 2, 0, 0, 0), (46, 4, 0, 36, 0), (0, 3, 0, 0, 0), (6, 1, 0, 100, 0), (43, 4, 0, 30, 0), (1, 0, 0, 0, 0), (1, 1, 0, 0, 0), (59, 35, 2, 41, 5), (46, 2, 0, 14, 0), (1, 0, 0, 0, 0), (59, 38, 1, 45, 5), (46, 2, 0, 7, 0), (6, 0, 0, 1, 0), (52, 3, 0, 4, 0)] L st σ := EB_eq 34 1 L st σ
theorem bk_34_2 {L : ev_L} {st : List ev_V} {σ : ev_M} : EB 34 2 L st σ = EO 34 [(6, 0, 0, 0, 0), (53, 3, 0, 0, 0)] L st σ := EB_eq 34 2 L st σ
theorem bk_34_3 {L : ev_L} {st : List ev_V} {σ : ev_M} : EB 34 3 L st σ = EO 34 [(3, 2, 0, 0, 0), (23, 3, 0, 1, 0), (52, 1, 0, (-34), 0)] L st σ := EB_eq 34 3 L st σ
theorem bk_34_4 {L : ev_L} {st : List ev_V} {σ : ev_M} : EB 34 4 L st σ = EO 34 [(1, 0, 0, 0, 0), (27, 32, 5, 3, 0), (56, 0, 0, 0, 0)] L st σ := EB_eq 34 4 L st σ
theorem mm_35 {i0 : Int} {i1 : Int} {σ : ev_M} : EM 35 [.inr (.inl i0), .inr (.inl i1)] σ = EB 35 0 [some (.inr (.inl i0)), some (.inr (.inl i1)), none, none, none] [] σ := by
  unfold EM ev_go
  exact if_pos (Nat.le_of_ble_eq_true rfl)
theorem bk_35_0 {L : ev_L} {st : List ev_V} {σ : ev_M} : EB 35 0 L st σ = EO 35 [(1, 0, 0, 0, 0), (59, 41, 1, 49, 5), (1, 1, 0, 0, 0), (28, 52, 7, 0, 1), (27, 57, 6, 1, 0), (1, 0, 0, 0, 0), (27, 35, 5, 5, 0), (10, 0, 0, 0, 0), (6, 1, 0, 20, 0), (42, 1, 0, 12, 0), (1, 0, 0, 0, 0), (1, 0, 0, 0, 0), (27, 28, 5, 2, 0), (59, 43, 2, 62, 5), (56, 1, 0, 0, 0)] L st σ := EB_eq 35 0 L st σ
theorem bk_35_1 {L : ev_L} {st : List ev_V} {σ : ev_M} : EB 35 1 L st σ = EO 35 [(1, 1, 0, 0, 0), (28, 52, 7, 0, 1), (27, 66, 6, 0, 0), (3, 2, 0, 0, 0), (1, 0, 0, 0, 0), (6, 0, 0, 0, 0), (0, 2, 0, 0, 0), (6, 0, 0, 1, 0), (11, 0, 0, 0, 0), (6, 0, 0, (-1), 0), (59, 40, 4, 69, 5), (47, 2, 0, 5, 0), (6, 0, 0, 0, 0), (56, 1, 0, 0, 0)] L st σ := EB_eq 35 1 L st σ
theorem bk_35_2 {L : ev_L} {st : List ev_V} {σ : ev_M} : EB 35 2 L st σ = EO 35 [(1, 0, 0, 0, 0), (27, 73, 5, 4, 0), (3, 3, 0, 0, 0), (1, 0, 0, 0, 0), (6, 1, 0, 45, 0), (59, 39, 2, 76, 5), (46, 3, 0, 15, 0), (1, 0, 0, 0, 0), (6, 0, 0, 0, 0), (0, 2, 0, 0, 0), (6, 0, 0, 1, 0), (11, 0, 0, 0, 0), (0, 3, 0, 0, 0), (59, 40, 4, 69, 5), (47, 4, 0, 5, 0), (53, 3, 0, 0, 0)] L st σ := EB_eq 35 2 L st σ
theorem bk_35_3 {L : ev_L} {st : List ev_V} {σ : ev_M} : EB 35 3 L st σ = EO 35 [(6, 0, 0, 0, 0), (56, 1, 0, 0, 0)] L st σ := EB_eq 35 3 L st σ
theorem bk_35_4 {L : ev_L} {st : List ev_V} {σ : ev_M} : EB 35 4 L st σ = EO 35 [(1, 0, 0, 0, 0), (27, 73, 5, 4, 0), (3, 4, 1, 0, 0), (1, 0, 0, 0, 0), (6, 1, 0, 58, 0), (59, 39, 2, 76, 5), (46, 5, 0, 14, 0), (1, 0, 0, 0, 0), (6, 0, 0, 1, 0), (6, 1, 0, 99, 0), (6, 0, 0, (-1), 0), (59, 40, 4, 69, 5), (47, 6, 0, 5, 0), (53, 5, 0, 0, 0)] L st σ := EB_eq 35 4 L st σ
theorem bk_35_5 {L : ev_L} {st : List ev_V} {σ : ev_M} : EB 35 5 L st σ = EO 35 [(6, 0, 0, 0, 0), (56, 1, 0, 0, 0)] L st σ := EB_eq 35 5 L st σ
theorem bk_35_6 {L : ev_L} {st : List ev_V} {σ : ev_M} : EB 35 6 L st σ = EO 35 [(1, 0, 0, 0, 0), (0, 3, 0, 0, 0), (0, 4, 1, 0, 0), (1, 0, 0, 0, 0), (27, 73, 5, 4, 0), (59, 36, 4, 80, 5), (46, 7, 0, 15, 0), (1, 0, 0, 0, 0), (1, 1, 0, 0, 0), (59, 37, 2, 83, 5), (46, 7, 0, 7, 0), (6, 0, 0, 1, 0), (52, 8, 0, 4, 0)] L st σ := EB_eq 35 6 L st σ
theorem bk_35_7 {L : ev_L} {st : List ev_V} {σ : ev_M} : EB 35 7 L st σ = EO 35 [(6, 0, 0, 0, 0), (53, 8, 0, 0, 0)] L st σ := EB_eq 35 7 L st σ
theorem bk_35_8 {L : ev_L} {st : List ev_V} {σ : ev_M} : EB 35 8 L st σ = EO 35 [(56, 1, 0, 0, 0)] L st σ := EB_eq 35 8 L st σ
theorem mm_36 {i0 : Int} {x1 : Int} {x2 : Int} {x3 : Int} {σ : ev_M} : EM 36 [.inr (.inl i0), .inl x1, .inl x2, .inl x3] σ = EB 36 0 [some (.inr (.inl i0)), some (.inl x1), some (.inl x2), some (.inl x3)] [] σ := by
  unfold EM ev_go
  exact if_pos (Nat.le_of_ble_eq_true rfl)
theorem bk_36_0 {L : ev_L} {st : List ev_V} {σ : ev_M} : EB 36 0 L st σ = EO 36 [(1, 0, 0, 0, 0), (27, 35, 5, 5, 0), (6, 1, 0, 20, 0), (42, 1, 0, 12, 0), (1, 0, 0, 0, 0), (1, 0, 0, 0, 0), (27, 28, 5, 2, 0), (59, 43, 2, 62, 5), (56, 1, 0, 0, 0)] L st σ := EB_eq 36 0 L st σ
theorem bk_36_1 {L : ev_L} {st : List ev_V} {σ : ev_M} : EB 36 1 L st σ = EO 36 [(1, 0, 0, 0, 0), (28, 15, 5, 7, 2), (1, 0, 0, 0, 0), (27, 35, 5, 5, 0), (0, 1, 0, 0, 0), (33, 0, 0, 0, 0), (1, 0, 0, 0, 0), (28, 18, 5, 8, 3), (1, 0, 0, 0, 0), (27, 35, 5, 5, 0), (0, 2, 0, 0, 0), (33, 0, 0, 0, 0), (1, 0, 0, 0, 0), (28, 21, 5, 9, 4), (1, 0, 0, 0, 0), (27, 35, 5, 5, 0), (0, 3, 0, 0, 0), (33, 0, 0, 0, 0), (1, 0, 0, 0, 0), (28, 24, 5, 10, 5), (1, 0, 0, 0, 0), (27, 35, 5, 5, 0), (6, 0, 0, 0, 0), (35, 0, 0, 0, 0), (1, 0, 0, 0, 0), (24, 0, 0, 0, 0), (27, 35, 5, 5, 0), (6, 0, 0, 1, 0), (10, 0, 0, 0, 0), (30, 35, 5, 5, 0), (6, 0, 0, 1, 0), (56, 1, 0, 0, 0)] L st σ := EB_eq 36 1 L st σ
theorem mm_37 {i0 : Int} {i1 : Int} {σ : ev_M} : EM 37 [.inr (.inl i0), .inr (.inl i1)] σ = EB 37 0 [some (.inr (.inl i0)), some (.inr (.inl i1))] [] σ := by
  unfold EM ev_go
  exact if_pos (Nat.le_of_ble_eq_true rfl)
theorem bk_37_0 {L : ev_L} {st : List ev_V} {σ : ev_M} : EB 37 0 L st σ = EO 37 [(1, 0, 0, 0, 0), (59, 41, 1, 49, 5), (1, 0, 0, 0, 0), (27, 28, 5, 2, 0), (1, 0, 0, 0, 0), (27, 86, 5, 1, 0), (43, 1, 0, 17, 0), (1, 0, 0, 0, 0), (28, 9, 5, 0, 1), (1, 0, 0, 0, 0), (27, 28, 5, 2, 0), (32, 0, 0, 0, 0), (6, 1, 0, 98, 0), (40, 2, 0, 5, 0), (53, 1, 0, 0, 0)] L st σ := EB_eq 37 0 L st σ
theorem bk_37_1 {L : ev_L} {st : List ev_V} {σ : ev_M} : EB 37 1 L st σ = EO 37 [(6, 0, 0, 1, 0), (56, 1, 0, 0, 0)] L st σ := EB_eq 37 1 L st σ
theorem bk_37_2 {L : ev_L} {st : List ev_V} {σ : ev_M} : EB 37 2 L st σ = EO 37 [(1, 1, 0, 0, 0), (28, 89, 7, 1, 6), (27, 92, 1, 0, 0), (1, 0, 0, 0, 0), (27, 38, 5, 6, 0), (10, 0, 0, 0, 0), (6, 1, 0, 6, 0), (43, 3, 0, 11, 0), (1, 0, 0, 0, 0), (27, 35, 5, 5, 0), (6, 0, 0, 1, 0), (43, 4, 0, 12, 0), (53, 3, 0, 0, 0)] L st σ := EB_eq 37 2 L st σ
theorem bk_37_3 {L : ev_L} {st : List ev_V} {σ : ev_M} : EB 37 3 L st σ = EO 37 [(1, 0, 0, 0, 0), (1, 0, 0, 0, 0), (27, 28, 5, 2, 0), (59, 43, 2, 62, 5), (56, 1, 0, 0, 0)] L st σ := EB_eq 37 3 L st σ
theorem bk_37_4 {L : ev_L} {st : List ev_V} {σ : ev_M} : EB 37 4 L st σ = EO 37 [(1, 0, 0, 0, 0), (28, 24, 5, 10, 5), (1, 0, 0, 0, 0), (27, 35, 5, 5, 0), (6, 0, 0, 1, 0), (11, 0, 0, 0, 0), (6, 0, 0, 1, 0), (35, 0, 0, 0, 0), (1, 0, 0, 0, 0), (24, 0, 0, 0, 0), (27, 38, 5, 6, 0), (6, 0, 0, 1, 0), (10, 0, 0, 0, 0), (30, 38, 5, 6, 0), (1, 0, 0, 0, 0), (24, 0, 0, 0, 0), (27, 28, 5, 2, 0), (6, 0, 0, 1, 0), (10, 0, 0, 0, 0), (30, 28, 5, 2, 0), (6, 0, 0, 1, 0), (56, 1, 0, 0, 0)] L st σ := EB_eq 37 4 L st σ
theorem mm_38 {i0 : Int} {σ : ev_M} : EM 38 [.inr (.inl i0)] σ = EB 38 0 [some (.inr (.inl i0))] [] σ := by
  unfold EM ev_go
  exact if_pos (Nat.le_of_ble_eq_true rfl)
theorem bk_38_0 {L : ev_L} {st : List ev_V} {σ : ev_M} : EB 38 0 L st σ = EO 38 [(1, 0, 0, 0, 0), (59, 41, 1, 49, 5), (1, 0, 0, 0, 0), (27, 28, 5, 2, 0), (1, 0, 0, 0, 0), (27, 86, 5, 1, 0), (43, 1, 0, 16, 0), (1, 0, 0, 0, 0), (6, 1, 0, 59, 0), (59, 39, 2, 76, 5), (46, 1, 0, 7, 0), (6, 0, 0, 1, 0), (52, 2, 0, 4, 0)] L st σ := EB_eq 38 0 L st σ
theorem bk_38_1 {L : ev_L} {st : List ev_V} {σ : ev_M} : EB 38 1 L st σ = EO 38 [(6, 0, 0, 0, 0), (53, 2, 0, 0, 0)] L st σ := EB_eq 38 1 L st σ
theorem bk_38_2 {L : ev_L} {st : List ev_V} {σ : ev_M} : EB 38 2 L st σ = EO 38 [(56, 1, 0, 0, 0)] L st σ := EB_eq 38 2 L st σ
theorem mm_39 {i0 : Int} {x1 : Int} {σ : ev_M} : EM 39 [.inr (.inl i0), .inl x1] σ = EB 39 0 [some (.inr (.inl i0)), some (.inl x1)] [] σ := by
  unfold EM ev_go
  exact if_pos (Nat.le_of_ble_eq_true rfl)
theorem bk_39_0 {L : ev_L} {st : List ev_V} {σ : ev_M} : EB 39 0 L st σ = EO 39 [(1, 0, 0, 0, 0), (59, 41, 1, 49, 5), (1, 0, 0, 0, 0), (27, 28, 5, 2, 0), (1, 0, 0, 0, 0), (27, 86, 5, 1, 0), (43, 1, 0, 16, 0), (1, 0, 0, 0, 0), (28, 9, 5, 0, 1), (1, 0, 0, 0, 0), (27, 28, 5, 2, 0), (32, 0, 0, 0, 0), (0, 1, 0, 0, 0), (40, 2, 0, 12, 0), (53, 1, 0, 0, 0)] L st σ := EB_eq 39 0 L st σ
theorem bk_39_1 {L : ev_L} {st : List ev_V} {σ : ev_M} : EB 39 1 L st σ = EO 39 [(1, 0, 0, 0, 0), (1, 0, 0, 0, 0), (27, 28, 5, 2, 0), (59, 43, 2, 62, 5), (56, 1, 0, 0, 0)] L st σ := EB_eq 39 1 L st σ
theorem bk_39_2 {L : ev_L} {st : List ev_V} {σ : ev_M} : EB 39 2 L st σ = EO 39 [(1, 0, 0, 0, 0), (24, 0, 0, 0, 0), (27, 28, 5, 2, 0), (6, 0, 0, 1, 0), (10, 0, 0, 0, 0), (30, 28, 5, 2, 0), (6, 0, 0, 1, 0), (56, 1, 0, 0, 0)] L st σ := EB_eq 39 2 L st σ
theorem mm_40 {i0 : Int} {x1 : Int} {x2 : Int} {x3 : Int} {σ : ev_M} : EM 40 [.inr (.inl i0), .inl x1, .inl x2, .inl x3] σ = EB 40 0 [some (.inr (.inl i0)), some (.inl x1), some (.inl x2), some (.inl x3), none, none] [] σ := by
  unfold EM ev_go
  exact if_pos (Nat.le_of_ble_eq_true rfl)
theorem bk_40_0 {L : ev_L} {st : List ev_V} {σ : ev_M} : EB 40 0 L st σ = EO 40 [(1, 0, 0, 0, 0), (59, 41, 1, 49, 5), (1, 0, 0, 0, 0), (27, 28, 5, 2, 0), (3, 4, 1, 0, 0), (1, 0, 0, 0, 0), (6, 0, 0, 0, 0), (30, 73, 5, 4, 0), (53, 1, 0, 0, 0)] L st σ := EB_eq 40 0 L st σ
theorem bk_40_1 {L : ev_L} {st : List ev_V} {σ : ev_M} : EB 40 1 L st σ = EO 40 [(1, 0, 0, 0, 0), (27, 28, 5, 2, 0), (1, 0, 0, 0, 0), (27, 86, 5, 1, 0), (43, 3, 0, 66, 0), (1, 0, 0, 0, 0), (28, 9, 5, 0, 1), (1, 0, 0, 0, 0), (27, 28, 5, 2, 0), (32, 0, 0, 0, 0), (60, 42, 1, 95, 0), (46, 3, 0, 51, 0), (1, 0, 0, 0, 0), (27, 28, 5, 2, 0), (0, 4, 1, 0, 0), (6, 0, 0, 2, 0), (10, 0, 0, 0, 0), (43, 2, 0, 27, 0), (1, 0, 0, 0, 0), (1, 0, 0, 0, 0), (27, 73, 5, 4, 0), (6, 1, 0, 10, 0), (12, 0, 0, 0, 0), (1, 0, 0, 0, 0), (28, 9, 5, 0, 1), (1, 0, 0, 0, 0), (27, 28, 5, 2, 0), (32, 0, 0, 0, 0), (10, 0, 0, 0, 0), (6, 1, 0, 48, 0), (11, 0, 0, 0, 0), (30, 73, 5, 4, 0), (53, 2, 0, 0, 0)] L st σ := EB_eq 40 1 L st σ
theorem bk_40_2 {L : ev_L} {st : List ev_V} {σ : ev_M} : EB 40 2 L st σ = EO 40 [(1, 0, 0, 0, 0), (24, 0, 0, 0, 0), (27, 28, 5, 2, 0), (6, 0, 0, 1, 0), (10, 0, 0, 0, 0), (30, 28, 5, 2, 0), (52, 1, 0, (-71), 0)] L st σ := EB_eq 40 2 L st σ
theorem bk_40_3 {L : ev_L} {st : List ev_V} {σ : ev_M} : EB 40 3 L st σ = EO 40 [(1, 0, 0, 0, 0), (27, 28, 5, 2, 0), (0, 4, 1, 0, 0), (41, 4, 0, 12, 0), (1, 0, 0, 0, 0), (1, 0, 0, 0, 0), (27, 28, 5, 2, 0), (59, 43, 2, 62, 5), (56, 1, 0, 0, 0)] L st σ := EB_eq 40 3 L st σ
theorem bk_40_4 {L : ev_L} {st : List ev_V} {σ : ev_M} : EB 40 4 L st σ = EO 40 [(1, 0, 0, 0, 0), (27, 28, 5, 2, 0), (0, 4, 1, 0, 0), (6, 0, 0, 2, 0), (10, 0, 0, 0, 0), (44, 5, 0, 27, 0), (1, 0, 0, 0, 0), (27, 73, 5, 4, 0), (0, 1, 0, 0, 0), (0, 2, 0, 0, 0), (60, 104, 3, 98, 0), (46, 5, 0, 15, 0), (1, 0, 0, 0, 0), (27, 73, 5, 4, 0), (0, 3, 0, 0, 0), (40, 5, 0, 7, 0), (6, 0, 0, 1, 0), (52, 6, 0, 4, 0)] L st σ := EB_eq 40 4 L st σ
theorem bk_40_5 {L : ev_L} {st : List ev_V} {σ : ev_M} : EB 40 5 L st σ = EO 40 [(6, 0, 0, 0, 0), (53, 6, 0, 0, 0)] L st σ := EB_eq 40 5 L st σ
theorem bk_40_6 {L : ev_L} {st : List ev_V} {σ : ev_M} : EB 40 6 L st σ = EO 40 [(3, 5, 1, 0, 0), (0, 5, 1, 0, 0), (47, 7, 0, 12, 0), (1, 0, 0, 0, 0), (0, 4, 1, 0, 0), (59, 43, 2, 62, 5), (46, 8, 0, 7, 0), (53, 7, 0, 0, 0)] L st σ := EB_eq 40 6 L st σ
theorem bk_40_7 {L : ev_L} {st : List ev_V} {σ : ev_M} : EB 40 7 L st σ = EO 40 [(6, 0, 0, 1, 0), (52, 9, 0, 4, 0)] L st σ := EB_eq 40 7 L st σ
theorem bk_40_8 {L : ev_L} {st : List ev_V} {σ : ev_M} : EB 40 8 L st σ = EO 40 [(6, 0, 0, 0, 0), (53, 9, 0, 0, 0)] L st σ := EB_eq 40 8 L st σ
theorem bk_40_9 {L : ev_L} {st : List ev_V} {σ : ev_M} : EB 40 9 L st σ = EO 40 [(56, 1, 0, 0, 0)] L st σ := EB_eq 40 9 L st σ
theorem mm_41 {i0 : Int} {σ : ev_M} : EM 41 [.inr (.inl i0)] σ = EB 41 0 [some (.inr (.inl i0))] [] σ := by
  unfold EM ev_go
  exact if_pos (Nat.le_of_ble_eq_true rfl)
theorem bk_41_0 {L : ev_L} {st : List ev_V} {σ : ev_M} : EB 41 0 L st σ = EO 41 [(1, 0, 0, 0, 0), (27, 28, 5, 2, 0), (1, 0, 0, 0, 0), (27, 86, 5, 1, 0), (43, 1, 0, 30, 0), (1, 0, 0, 0, 0), (28, 9, 5, 0, 1), (1, 0, 0, 0, 0), (27, 28, 5, 2, 0), (32, 0, 0, 0, 0), (6, 1, 0, 32, 0), (41, 1, 0, 16, 0), (1, 0, 0, 0, 0), (24, 0, 0, 0, 0), (27, 28, 5, 2, 0), (6, 0, 0, 1, 0), (10, 0, 0, 0, 0), (30, 28, 5, 2, 0), (52, 0, 0, (-35), 0)] L st σ := EB_eq 41 0 L st σ
theorem bk_41_1 {L : ev_L} {st : List ev_V} {σ : ev_M} : EB 41 1 L st σ = EO 41 [(58, 0, 0, 0, 0)] L st σ := EB_eq 41 1 L st σ
theorem mm_42 {x0 : Int} {σ : ev_M} : EM 42 [.inl x0] σ = EB 42 0 [some (.inl x0)] [] σ := by
  unfold EM ev_go
  exact if_pos (Nat.le_of_ble_eq_true rfl)
theorem bk_42_0 {L : ev_L} {st : List ev_V} {σ : ev_M} : EB 42 0 L st σ = EO 42 [(6, 1, 0, 48, 0), (0, 0, 0, 0, 0), (44, 1, 0, 13, 0), (0, 0, 0, 0, 0), (6, 1, 0, 57, 0), (44, 1, 0, 7, 0), (6, 0, 0, 1, 0), (52, 2, 0, 4, 0)] L st σ := EB_eq 42 0 L st σ
theorem bk_42_1 {L : ev_L} {st : List ev_V} {σ : ev_M} : EB 42 1 L st σ = EO 42 [(6, 0, 0, 0, 0), (53, 2, 0, 0, 0)] L st σ := EB_eq 42 1 L st σ
theorem bk_42_2 {L : ev_L} {st : List ev_V} {σ : ev_M} : EB 42 2 L st σ = EO 42 [(56, 1, 0, 0, 0)] L st σ := EB_eq 42 2 L st σ
theorem mm_43 {i0 : Int} {x1 : Int} {σ : ev_M} : EM 43 [.inr (.inl i0), .inl x1] σ = EB 43 0 [some (.inr (.inl i0)), some (.inl x1)] [] σ := by
  unfold EM ev_go
  exact if_pos (Nat.le_of_ble_eq_true rfl)
theorem bk_43_0 {L : ev_L} {st : List ev_V} {σ : ev_M} : EB 43 0 L st σ = EO 43 [(1, 0, 0, 0, 0), (0, 1, 0, 0, 0), (30, 32, 5, 3, 0), (6, 0, 0, 0, 0), (56, 1, 0, 0, 0)] L st σ := EB_eq 43 0 L st σ
theorem mm_44 {i0 : Int} {x1 : Int} {σ : ev_M} : EM 44 [.inr (.inl i0), .inl x1] σ = EB 44 0 [some (.inr (.inl i0)), some (.inl x1)] [] σ := by
  unfold EM ev_go
  exact if_pos (Nat.le_of_ble_eq_true rfl)
theorem bk_44_0 {L : ev_L} {st : List ev_V} {σ : ev_M} : EB 44 0 L st σ = EO 44 [(6, 0, 0, 0, 0), (0, 1, 0, 0, 0), (44, 1, 0, 15, 0), (0, 1, 0, 0, 0), (1, 0, 0, 0, 0), (27, 24, 6, 0, 0), (43, 1, 0, 7, 0), (6, 0, 0, 1, 0), (52, 2, 0, 4, 0)] L st σ := EB_eq 44 0 L st σ
theorem bk_44_1 {L : ev_L} {st : List ev_V} {σ : ev_M} : EB 44 1 L st σ = EO 44 [(6, 0, 0, 0, 0), (53, 2, 0, 0, 0)] L st σ := EB_eq 44 1 L st σ
theorem bk_44_2 {L : ev_L} {st : List ev_V} {σ : ev_M} : EB 44 2 L st σ = EO 44 [(56, 1, 0, 0, 0)] L st σ := EB_eq 44 2 L st σ
theorem mm_45 {i0 : Int} {x1 : Int} {σ : ev_M} : EM 45 [.inr (.inl i0), .inl x1] σ = EB 45 0 [some (.inr (.inl i0)), some (.inl x1)] [] σ := by
  unfold EM ev_go
  exact if_pos (Nat.le_of_ble_eq_true rfl)
theorem bk_45_0 {L : ev_L} {st : List ev_V} {σ : ev_M} : EB 45 0 L st σ = EO 45 [(6, 0, 0, 0, 0), (0, 1, 0, 0, 0), (44, 1, 0, 15, 0), (0, 1, 0, 0, 0), (1, 0, 0, 0, 0), (27, 28, 6, 1, 0), (43, 1, 0, 7, 0), (6, 0, 0, 1, 0), (52, 2, 0, 4, 0)] L st σ := EB_eq 45 0 L st σ
theorem bk_45_1 {L : ev_L} {st : List ev_V} {σ : ev_M} : EB 45 1 L st σ = EO 45 [(6, 0, 0, 0, 0), (53, 2, 0, 0, 0)] L st σ := EB_eq 45 1 L st σ
theorem bk_45_2 {L : ev_L} {st : List ev_V} {σ : ev_M} : EB 45 2 L st σ = EO 45 [(56, 1, 0, 0, 0)] L st σ := EB_eq 45 2 L st σ
theorem mm_46 {i0 : Int} {x1 : Int} {x2 : Int} {x3 : Int} {σ : ev_M} : EM 46 [.inr (.inl i0), .inl x1, .inl x2, .inl x3] σ = EB 46 0 [some (.inr (.inl i0)), some (.inl x1), some (.inl x2), some (.inl x3), none] [] σ := by
  unfold EM ev_go
  exact if_pos (Nat.le_of_ble_eq_true rfl)
theorem bk_46_0 {L : ev_L} {st : List ev_V} {σ : ev_M} : EB 46 0 L st σ = EO 46 [(1, 0, 0, 0, 0), (27, 28, 6, 1, 0), (3, 4, 1, 0, 0), (1, 0, 0, 0, 0), (28, 9, 6, 2, 1), (0, 4, 1, 0, 0), (0, 1, 0, 0, 0), (33, 0, 0, 0, 0), (1, 0, 0, 0, 0), (28, 15, 6, 3, 2), (0, 4, 1, 0, 0), (0, 2, 0, 0, 0), (33, 0, 0, 0, 0), (1, 0, 0, 0, 0), (28, 18, 6, 4, 3), (0, 4, 1, 0, 0), (0, 3, 0, 0, 0), (33, 0, 0, 0, 0), (1, 0, 0, 0, 0), (28, 21, 6, 5, 4), (0, 4, 1, 0, 0), (6, 0, 0, (-1), 0), (33, 0, 0, 0, 0), (1, 0, 0, 0, 0), (24, 0, 0, 0, 0), (27, 28, 6, 1, 0), (6, 0, 0, 1, 0), (10, 0, 0, 0, 0), (30, 28, 6, 1, 0), (0, 4, 1, 0, 0), (56, 0, 0, 0, 0)] L st σ := EB_eq 46 0 L st σ
theorem mm_47 {i0 : Int} {i1 : Int} {σ : ev_M} : EM 47 [.inr (.inl i0), .inr (.inl i1)] σ = EB 47 0 [some (.inr (.inl i0)), some (.inr (.inl i1))] [] σ := by
  unfold EM ev_go
  exact if_pos (Nat.le_of_ble_eq_true rfl)
theorem bk_47_0 {L : ev_L} {st : List ev_V} {σ : ev_M} : EB 47 0 L st σ = EO 47 [(1, 0, 0, 0, 0), (1, 1, 0, 0, 0), (27, 24, 6, 0, 0), (30, 24, 6, 0, 0), (1, 0, 0, 0, 0), (1, 1, 0, 0, 0), (27, 28, 6, 1, 0), (30, 28, 6, 1, 0), (1, 1, 0, 0, 0), (28, 9, 6, 2, 1), (6, 0, 0, 0, 0), (1, 0, 0, 0, 0), (28, 9, 6, 2, 1), (6, 0, 0, 0, 0), (6, 1, 0, 20, 0), (61, 31, 0, 0, 0), (1, 1, 0, 0, 0), (28, 15, 6, 3, 2), (6, 0, 0, 0, 0), (1, 0, 0, 0, 0), (28, 15, 6, 3, 2), (6, 0, 0, 0, 0), (6, 1, 0, 20, 0), (61, 31, 0, 0, 0), (1, 1, 0, 0, 0), (28, 18, 6, 4, 3), (6, 0, 0, 0, 0), (1, 0, 0, 0, 0), (28, 18, 6, 4, 3), (6, 0, 0, 0, 0), (6, 1, 0, 20, 0), (61, 31, 0, 0, 0), (1, 1, 0, 0, 0), (28, 21, 6, 5, 4), (6, 0, 0, 0, 0), (1, 0, 0, 0, 0), (28, 21, 6, 5, 4), (6, 0, 0, 0, 0), (6, 1, 0, 20, 0), (61, 31, 0, 0, 0), (58, 0, 0, 0, 0)] L st σ := EB_eq 47 0 L st σ
theorem mm_48 {i0 : Int} {x1 : Int} {σ : ev_M} : EM 48 [.inr (.inl i0), .inl x1] σ = EB 48 0 [some (.inr (.inl i0)), some (.inl x1), none] [] σ := by
  unfold EM ev_go
  exact if_pos (Nat.le_of_ble_eq_true rfl)
theorem bk_48_0 {L : ev_L} {st : List ev_V} {σ : ev_M} : EB 48 0 L st σ = EO 48 [(1, 0, 0, 0, 0), (28, 21, 7, 1, 6), (0, 1, 0, 0, 0), (1, 0, 0, 0, 0), (27, 32, 7, 3, 0), (59, 8, 3, 36, 1), (3, 2, 0, 0, 0), (1, 0, 0, 0, 0), (28, 12, 7, 0, 1), (28, 40, 6, 5, 4), (0, 1, 0, 0, 0), (0, 2, 0, 0, 0), (33, 0, 0, 0, 0), (0, 2, 0, 0, 0), (56, 0, 0, 0, 0)] L st σ := EB_eq 48 0 L st σ
theorem mm_49 {i0 : Int} {x1 : Int} {σ : ev_M} : EM 49 [.inr (.inl i0), .inl x1] σ = EB 49 0 [some (.inr (.inl i0)), some (.inl x1)] [] σ := by
  unfold EM ev_go
  exact if_pos (Nat.le_of_ble_eq_true rfl)
theorem bk_49_0 {L : ev_L} {st : List ev_V} {σ : ev_M} : EB 49 0 L st σ = EO 49 [(1, 0, 0, 0, 0), (27, 32, 7, 3, 0), (1, 0, 0, 0, 0), (28, 21, 7, 1, 6), (0, 1, 0, 0, 0), (59, 14, 2, 44, 1), (42, 1, 0, 7, 0), (6, 0, 0, 1, 0), (52, 2, 0, 4, 0)] L st σ := EB_eq 49 0 L st σ
theorem bk_49_1 {L : ev_L} {st : List ev_V} {σ : ev_M} : EB 49 1 L st σ = EO 49 [(6, 0, 0, 0, 0), (53, 2, 0, 0, 0)] L st σ := EB_eq 49 1 L st σ
theorem bk_49_2 {L : ev_L} {st : List ev_V} {σ : ev_M} : EB 49 2 L st σ = EO 49 [(56, 1, 0, 0, 0)] L st σ := EB_eq 49 2 L st σ
theorem mm_50 {i0 : Int} {σ : ev_M} : EM 50 [.inr (.inl i0)] σ = EB 50 0 [some (.inr (.inl i0)), none, none] [] σ := by
  unfold EM ev_go
  exact if_pos (Nat.le_of_ble_eq_true rfl)
theorem bk_50_0 {L : ev_L} {st : List ev_V} {σ : ev_M} : EB 50 0 L st σ = EO 50 [(6, 0, 0, 0, 0), (3, 1, 0, 0, 0), (6, 0, 0, 0, 0), (3, 2, 0, 0, 0), (53, 1, 0, 0, 0)] L st σ := EB_eq 50 0 L st σ
theorem bk_50_1 {L : ev_L} {st : List ev_V} {σ : ev_M} : EB 50 1 L st σ = EO 50 [(0, 2, 0, 0, 0), (1, 0, 0, 0, 0), (28, 21, 7, 1, 6), (27, 48, 1, 0, 0), (43, 3, 0, 20, 0), (1, 0, 0, 0, 0), (0, 2, 0, 0, 0), (59, 49, 2, 51, 7), (46, 2, 0, 6, 0), (23, 1, 0, 1, 0), (53, 2, 0, 0, 0)] L st σ := EB_eq 50 1 L st σ
theorem bk_50_2 {L : ev_L} {st : List ev_V} {σ : ev_M} : EB 50 2 L st σ = EO 50 [(23, 2, 0, 1, 0), (52, 1, 0, (-25), 0)] L st σ := EB_eq 50 2 L st σ
theorem bk_50_3 {L : ev_L} {st : List ev_V} {σ : ev_M} : EB 50 3 L st σ = EO 50 [(0, 1, 0, 0, 0), (56, 0, 0, 0, 0)] L st σ := EB_eq 50 3 L st σ
theorem mm_51 {i0 : Int} {x1 : Int} {x2 : Int} {σ : ev_M} : EM 51 [.inr (.inl i0), .inl x1, .inl x2] σ = EB 51 0 [some (.inr (.inl i0)), some (.inl x1), some (.inl x2)] [] σ := by
  unfold EM ev_go
  exact if_pos (Nat.le_of_ble_eq_true rfl)
theorem bk_51_0 {L : ev_L} {st : List ev_V} {σ : ev_M} : EB 51 0 L st σ = EO 51 [(1, 0, 0, 0, 0), (28, 21, 7, 1, 6), (28, 55, 1, 2, 2), (0, 1, 0, 0, 0), (0, 2, 0, 0, 0), (33, 0, 0, 0, 0), (1, 0, 0, 0, 0), (28, 21, 7, 1, 6), (28, 58, 1, 3, 3), (0, 1, 0, 0, 0), (1, 0, 0, 0, 0), (27, 32, 7, 3, 0), (33, 0, 0, 0, 0), (1, 0, 0, 0, 0), (24, 0, 0, 0, 0), (27, 61, 7, 4, 0), (6, 0, 0, 1, 0), (10, 0, 0, 0, 0), (30, 61, 7, 4, 0), (1, 0, 0, 0, 0), (24, 0, 0, 0, 0), (27, 64, 7, 5, 0), (6, 0, 0, 5, 0), (1, 0, 0, 0, 0), (28, 21, 7, 1, 6), (28, 67, 1, 5, 5), (0, 1, 0, 0, 0), (32, 0, 0, 0, 0), (10, 0, 0, 0, 0), (10, 0, 0, 0, 0), (30, 64, 7, 5, 0), (58, 0, 0, 0, 0)] L st σ := EB_eq 51 0 L st σ
theorem mm_52 {i0 : Int} {x1 : Int} {σ : ev_M} : EM 52 [.inr (.inl i0), .inl x1] σ = EB 52 0 [some (.inr (.inl i0)), some (.inl x1), none] [] σ := by
  unfold EM ev_go
  exact if_pos (Nat.le_of_ble_eq_true rfl)
theorem bk_52_0 {L : ev_L} {st : List ev_V} {σ : ev_M} : EB 52 0 L st σ = EO 52 [(1, 0, 0, 0, 0), (28, 12, 7, 0, 1), (28, 40, 6, 5, 4), (0, 1, 0, 0, 0), (32, 0, 0, 0, 0), (3, 2, 0, 0, 0), (1, 0, 0, 0, 0), (28, 21, 7, 1, 6), (0, 2, 0, 0, 0), (59, 6, 2, 70, 1), (46, 1, 0, 14, 0), (1, 0, 0, 0, 0), (28, 21, 7, 1, 6), (0, 2, 0, 0, 0), (59, 15, 2, 73, 1), (52, 2, 0, 5, 0)] L st σ := EB_eq 52 0 L st σ
theorem bk_52_1 {L : ev_L} {st : List ev_V} {σ : ev_M} : EB 52 1 L st σ = EO 52 [(6, 1, 0, 60, 0), (53, 2, 0, 0, 0)] L st σ := EB_eq 52 1 L st σ
theorem bk_52_2 {L : ev_L} {st : List ev_V} {σ : ev_M} : EB 52 2 L st σ = EO 52 [(56, 0, 0, 0, 0)] L st σ := EB_eq 52 2 L st σ
theorem mm_53 {i0 : Int} {x1 : Int} {x2 : Int} {σ : ev_M} : EM 53 [.inr (.inl i0), .inl x1, .inl x2] σ = EB 53 0 [some (.inr (.inl i0)), some (.inl x1), some (.inl x2), none] [] σ := by
  unfold EM ev_go
  exact if_pos (Nat.le_of_ble_eq_true rfl)
theorem bk_53_0 {L : ev_L} {st : List ev_V} {σ : ev_M} : EB 53 0 L st σ = EO 53 [(1, 0, 0, 0, 0), (28, 28, 7, 2, 17), (28, 76, 4, 2, 1), (0, 1, 0, 0, 0), (32, 0, 0, 0, 0), (1, 0, 0, 0, 0), (28, 28, 7, 2, 17), (28, 77, 4, 3, 2), (0, 1, 0, 0, 0), (32, 0, 0, 0, 0), (60, 5, 2, 80, 0), (3, 3, 0, 0, 0), (1, 0, 0, 0, 0), (28, 28, 7, 2, 17), (28, 83, 4, 4, 3), (0, 1, 0, 0, 0), (32, 0, 0, 0, 0), (1, 0, 0, 0, 0), (28, 28, 7, 2, 17), (28, 86, 4, 6, 5), (0, 2, 0, 0, 0), (6, 0, 0, 4, 0), (12, 0, 0, 0, 0), (1, 0, 0, 0, 0), (28, 21, 7, 1, 6), (28, 89, 1, 6, 6), (0, 3, 0, 0, 0), (32, 0, 0, 0, 0), (10, 0, 0, 0, 0), (32, 0, 0, 0, 0), (12, 0, 0, 0, 0), (56, 0, 0, 0, 0)] L st σ := EB_eq 53 0 L st σ
theorem mm_54 {i0 : Int} {x1 : Int} {σ : ev_M} : EM 54 [.inr (.inl i0), .inl x1] σ = EB 54 0 [some (.inr (.inl i0)), some (.inl x1), none, none] [] σ := by
  unfold EM ev_go
  exact if_pos (Nat.le_of_ble_eq_true rfl)
theorem bk_54_0 {L : ev_L} {st : List ev_V} {σ : ev_M} : EB 54 0 L st σ = EO 54 [(1, 0, 0, 0, 0), (28, 28, 7, 2, 17), (27, 92, 4, 0, 0), (47, 1, 0, 7, 0), (6, 0, 0, 0, 0), (52, 2, 0, 12, 0)] L st σ := EB_eq 54 0 L st σ
theorem bk_54_1 {L : ev_L} {st : List ev_V} {σ : ev_M} : EB 54 1 L st σ = EO 54 [(1, 0, 0, 0, 0), (28, 28, 7, 2, 17), (28, 95, 4, 5, 4), (0, 1, 0, 0, 0), (32, 0, 0, 0, 0), (53, 2, 0, 0, 0)] L st σ := EB_eq 54 1 L st σ
theorem bk_54_2 {L : ev_L} {st : List ev_V} {σ : ev_M} : EB 54 2 L st σ = EO 54 [(3, 2, 0, 0, 0), (6, 0, 0, 0, 0), (3, 3, 0, 0, 0), (53, 3, 0, 0, 0)] L st σ := EB_eq 54 2 L st σ
theorem bk_54_3 {L : ev_L} {st : List ev_V} {σ : ev_M} : EB 54 3 L st σ = EO 54 [(0, 3, 0, 0, 0), (1, 0, 0, 0, 0), (28, 28, 7, 2, 17), (27, 92, 4, 0, 0), (43, 4, 0, 18, 0), (0, 2, 0, 0, 0), (1, 0, 0, 0, 0), (0, 3, 0, 0, 0), (0, 1, 0, 0, 0), (59, 53, 3, 98, 7), (10, 0, 0, 0, 0), (3, 2, 0, 0, 0), (23, 3, 0, 1, 0), (52, 3, 0, (-23), 0)] L st σ := EB_eq 54 3 L st σ
theorem bk_54_4 {L : ev_L} {st : List ev_V} {σ : ev_M} : EB 54 4 L st σ = EO 54 [(0, 2, 0, 0, 0), (56, 0, 0, 0, 0)] L st σ := EB_eq 54 4 L st σ
theorem mm_55 {i0 : Int} {σ : ev_M} : EM 55 [.inr (.inl i0)] σ = EB 55 0 [some (.inr (.inl i0)), none, none] [] σ := by
  unfold EM ev_go
  exact if_pos (Nat.le_of_ble_eq_true rfl)
theorem bk_55_0 {L : ev_L} {st : List ev_V} {σ : ev_M} : EB 55 0 L st σ = EO 55 [(6, 0, 0, 0, 0), (3, 1, 0, 0, 0), (53, 1, 0, 0, 0)] L st σ := EB_eq 55 0 L st σ
theorem bk_55_1 {L : ev_L} {st : List ev_V} {σ : ev_M} : EB 55 1 L st σ = EO 55 [(0, 1, 0, 0, 0), (1, 0, 0, 0, 0), (28, 28, 7, 2, 17), (27, 92, 4, 0, 0), (43, 2, 0, 63, 0), (1, 0, 0, 0, 0), (28, 28, 7, 2, 17), (28, 76, 4, 2, 1), (0, 1, 0, 0, 0), (32, 0, 0, 0, 0), (1, 0, 0, 0, 0), (28, 28, 7, 2, 17), (28, 77, 4, 3, 2), (0, 1, 0, 0, 0), (32, 0, 0, 0, 0), (60, 5, 2, 80, 0), (3, 2, 0, 0, 0), (1, 0, 0, 0, 0), (28, 21, 7, 1, 6), (0, 2, 0, 0, 0), (6, 1, 0, 9, 0), (1, 0, 0, 0, 0), (28, 21, 7, 1, 6), (28, 101, 1, 7, 7), (0, 2, 0, 0, 0), (32, 0, 0, 0, 0), (1, 0, 0, 0, 0), (28, 28, 7, 2, 17), (28, 83, 4, 4, 3), (0, 1, 0, 0, 0), (32, 0, 0, 0, 0), (10, 0, 0, 0, 0), (63, 104, 0, 0, 0), (59, 11, 3, 109, 1), (23, 1, 0, 1, 0), (52, 1, 0, (-68), 0)] L st σ := EB_eq 55 1 L st σ
theorem bk_55_2 {L : ev_L} {st : List ev_V} {σ : ev_M} : EB 55 2 L st σ = EO 55 [(1, 0, 0, 0, 0), (28, 28, 7, 2, 17), (6, 0, 0, 0, 0), (30, 92, 4, 0, 0), (58, 0, 0, 0, 0)] L st σ := EB_eq 55 2 L st σ
theorem mm_56 {i0 : Int} {i1 : Int} {σ : ev_M} : EM 56 [.inr (.inl i0), .inr (.inl i1)] σ = EB 56 0 [some (.inr (.inl i0)), some (.inr (.inl i1))] [] σ := by
  unfold EM ev_go
  exact if_pos (Nat.le_of_ble_eq_true rfl)
theorem bk_56_0 {L : ev_L} {st : List ev_V} {σ : ev_M} : EB 56 0 L st σ = EO 56 [(1, 0, 0, 0, 0), (28, 12, 7, 0, 1), (1, 1, 0, 0, 0), (28, 12, 7, 0, 1), (59, 47, 2, 113, 6), (1, 0, 0, 0, 0), (28, 21, 7, 1, 6), (1, 1, 0, 0, 0), (28, 21, 7, 1, 6), (59, 17, 2, 117, 1), (1, 0, 0, 0, 0), (28, 28, 7, 2, 17), (1, 1, 0, 0, 0), (28, 28, 7, 2, 17), (59, 33, 2, 120, 4), (1, 0, 0, 0, 0), (1, 1, 0, 0, 0), (27, 32, 7, 3, 0), (30, 32, 7, 3, 0), (1, 0, 0, 0, 0), (1, 1, 0, 0, 0), (27, 61, 7, 4, 0), (30, 61, 7, 4, 0), (1, 0, 0, 0, 0), (1, 1, 0, 0, 0), (27, 64, 7, 5, 0), (30, 64, 7, 5, 0), (1, 0, 0, 0, 0), (1, 1, 0, 0, 0), (27, 123, 7, 6, 0), (30, 123, 7, 6, 0), (58, 0, 0, 0, 0)] L st σ := EB_eq 56 0 L st σ
theorem mm_57 {i0 : Int} {i1 : Int} {i2 : Int} {i3 : Int} {x4 : Int} {x5 : Int} {σ : ev_M} : EM 57 [.inr (.inl i0), .inr (.inl i1), .inr (.inl i2), .inr (.inl i3), .inl x4, .inl x5] σ = EB 57 0 [some (.inr (.inl i0)), some (.inr (.inl i1)), some (.inr (.inl i2)), some (.inr (.inl i3)), some (.inl x4), some (.inl x5), none, none, none, none, none] [] σ := by
  unfold EM ev_go
  exact if_pos (Nat.le_of_ble_eq_true rfl)
theorem bk_57_0 {L : ev_L} {st : List ev_V} {σ : ev_M} : EB 57 0 L st σ = EO 57 [(0, 4, 1, 0, 0), (3, 6, 1, 0, 0), (0, 5, 1, 0, 0), (3, 7, 1, 0, 0), (1, 0, 0, 0, 0), (6, 0, 0, 0, 0), (30, 15, 8, 0, 0), (53, 1, 0, 0, 0)] L st σ := EB_eq 57 0 L st σ
theorem bk_57_1 {L : ev_L} {st : List ev_V} {σ : ev_M} : EB 57 1 L st σ = EO 57 [(1, 0, 0, 0, 0), (27, 15, 8, 0, 0), (6, 1, 0, 6, 0), (43, 4, 0, 109, 0), (1, 2, 0, 0, 0), (1, 1, 0, 0, 0), (0, 6, 1, 0, 0), (6, 1, 0, 12, 0), (6, 0, 0, (-1), 0), (59, 62, 5, 19, 9), (1, 1, 0, 0, 0), (1, 2, 0, 0, 0), (60, 58, 2, 25, 0), (3, 8, 1, 0, 0), (0, 8, 1, 0, 0), (6, 0, 0, (-1), 0), (41, 2, 0, 4, 0), (58, 0, 0, 0, 0)] L st σ := EB_eq 57 1 L st σ
theorem bk_57_2 {L : ev_L} {st : List ev_V} {σ : ev_M} : EB 57 2 L st σ = EO 57 [(1, 1, 0, 0, 0), (1, 2, 0, 0, 0), (0, 8, 1, 0, 0), (60, 59, 3, 29, 0), (3, 9, 1, 0, 0), (1, 2, 0, 0, 0), (28, 33, 9, 0, 1), (0, 9, 1, 0, 0), (32, 0, 0, 0, 0), (60, 60, 1, 36, 0), (6, 0, 0, 4, 0), (10, 0, 0, 0, 0), (3, 10, 1, 0, 0), (0, 10, 1, 0, 0), (0, 7, 1, 0, 0), (45, 3, 0, 4, 0), (58, 0, 0, 0, 0)] L st σ := EB_eq 57 2 L st σ
theorem bk_57_3 {L : ev_L} {st : List ev_V} {σ : ev_M} : EB 57 3 L st σ = EO 57 [(0, 7, 1, 0, 0), (0, 10, 1, 0, 0), (11, 0, 0, 0, 0), (3, 7, 1, 0, 0), (0, 9, 1, 0, 0), (3, 6, 1, 0, 0), (1, 1, 0, 0, 0), (0, 8, 1, 0, 0), (1, 3, 0, 0, 0), (1, 1, 0, 0, 0), (28, 40, 7, 1, 6), (0, 8, 1, 0, 0), (59, 18, 3, 46, 2), (59, 51, 3, 52, 7), (1, 0, 0, 0, 0), (28, 9, 8, 1, 1), (1, 0, 0, 0, 0), (27, 15, 8, 0, 0), (0, 8, 1, 0, 0), (33, 0, 0, 0, 0), (1, 0, 0, 0, 0), (24, 0, 0, 0, 0), (27, 15, 8, 0, 0), (6, 0, 0, 1, 0), (10, 0, 0, 0, 0), (30, 15, 8, 0, 0), (52, 1, 0, (-112), 0)] L st σ := EB_eq 57 3 L st σ
theorem bk_57_4 {L : ev_L} {st : List ev_V} {σ : ev_M} : EB 57 4 L st σ = EO 57 [(58, 0, 0, 0, 0)] L st σ := EB_eq 57 4 L st σ
theorem mm_58 {i0 : Int} {i1 : Int} {σ : ev_M} : EM 58 [.inr (.inl i0), .inr (.inl i1)] σ = EB 58 0 [some (.inr (.inl i0)), some (.inr (.inl i1)), none, none, none, none] [] σ := by
  unfold EM ev_go
  exact if_pos (Nat.le_of_ble_eq_true rfl)
theorem bk_58_0 {L : ev_L} {st : List ev_V} {σ : ev_M} : EB 58 0 L st σ = EO 58 [(6, 0, 0, (-1), 0), (3, 2, 0, 0, 0), (7, 56, 0, 1000000, 0), (3, 3, 0, 0, 0), (6, 0, 0, 0, 0), (3, 4, 1, 0, 0), (53, 1, 0, 0, 0)] L st σ := EB_eq 58 0 L st σ
theorem bk_58_1 {L : ev_L} {st : List ev_V} {σ : ev_M} : EB 58 1 L st σ = EO 58 [(0, 4, 1, 0, 0), (1, 0, 0, 0, 0), (28, 40, 7, 1, 6), (27, 57, 1, 0, 0), (43, 3, 0, 44, 0), (1, 1, 0, 0, 0), (28, 33, 9, 0, 1), (1, 0, 0, 0, 0), (1, 1, 0, 0, 0), (0, 4, 1, 0, 0), (60, 59, 3, 29, 0), (32, 0, 0, 0, 0), (3, 5, 1, 0, 0), (1, 0, 0, 0, 0), (0, 4, 1, 0, 0), (59, 49, 2, 60, 7), (46, 2, 0, 15, 0), (0, 5, 1, 0, 0), (0, 3, 0, 0, 0), (43, 2, 0, 9, 0), (0, 4, 1, 0, 0), (3, 2, 0, 0, 0), (0, 5, 1, 0, 0), (3, 3, 0, 0, 0), (53, 2, 0, 0, 0)] L st σ := EB_eq 58 1 L st σ
theorem bk_58_2 {L : ev_L} {st : List ev_V} {σ : ev_M} : EB 58 2 L st σ = EO 58 [(23, 4, 0, 1, 0), (52, 1, 0, (-50), 0)] L st σ := EB_eq 58 2 L st σ
theorem bk_58_3 {L : ev_L} {st : List ev_V} {σ : ev_M} : EB 58 3 L st σ = EO 58 [(0, 2, 0, 0, 0), (56, 0, 0, 0, 0)] L st σ := EB_eq 58 3 L st σ
theorem mm_59 {i0 : Int} {i1 : Int} {x2 : Int} {σ : ev_M} : EM 59 [.inr (.inl i0), .inr (.inl i1), .inl x2] σ = EB 59 0 [some (.inr (.inl i0)), some (.inr (.inl i1)), some (.inl x2), none, none, none] [] σ := by
  unfold EM ev_go
  exact if_pos (Nat.le_of_ble_eq_true rfl)
theorem bk_59_0 {L : ev_L} {st : List ev_V} {σ : ev_M} : EB 59 0 L st σ = EO 59 [(1, 0, 0, 0, 0), (28, 40, 7, 1, 6), (28, 64, 1, 1, 1), (0, 2, 0, 0, 0), (32, 0, 0, 0, 0), (3, 3, 0, 0, 0), (1, 0, 0, 0, 0), (28, 67, 7, 0, 1), (28, 71, 6, 2, 1), (0, 3, 0, 0, 0), (32, 0, 0, 0, 0), (1, 0, 0, 0, 0), (28, 67, 7, 0, 1), (28, 76, 6, 3, 2), (0, 3, 0, 0, 0), (32, 0, 0, 0, 0), (63, 79, 0, 0, 0), (3, 4, 1, 0, 0), (1, 0, 0, 0, 0), (28, 67, 7, 0, 1), (28, 71, 6, 2, 1), (0, 3, 0, 0, 0), (32, 0, 0, 0, 0), (1, 0, 0, 0, 0), (28, 67, 7, 0, 1), (28, 76, 6, 3, 2), (0, 3, 0, 0, 0), (32, 0, 0, 0, 0), (62, 85, 0, 0, 0), (3, 5, 1, 0, 0), (1, 1, 0, 0, 0), (28, 33, 9, 0, 1), (0, 5, 1, 0, 0), (32, 0, 0, 0, 0), (1, 1, 0, 0, 0), (28, 33, 9, 0, 1), (0, 4, 1, 0, 0), (32, 0, 0, 0, 0), (43, 1, 0, 8, 0), (0, 5, 1, 0, 0), (52, 2, 0, 5, 0)] L st σ := EB_eq 59 0 L st σ
theorem bk_59_1 {L : ev_L} {st : List ev_V} {σ : ev_M} : EB 59 1 L st σ = EO 59 [(0, 4, 1, 0, 0), (53, 2, 0, 0, 0)] L st σ := EB_eq 59 1 L st σ
theorem bk_59_2 {L : ev_L} {st : List ev_V} {σ : ev_M} : EB 59 2 L st σ = EO 59 [(56, 0, 0, 0, 0)] L st σ := EB_eq 59 2 L st σ
theorem mm_60 {x0 : Int} {σ : ev_M} : EM 60 [.inl x0] σ = EB 60 0 [some (.inl x0)] [] σ := by
  unfold EM ev_go
  exact if_pos (Nat.le_of_ble_eq_true rfl)
theorem bk_60_0 {L : ev_L} {st : List ev_V} {σ : ev_M} : EB 60 0 L st σ = EO 60 [(0, 0, 0, 0, 0), (6, 1, 0, 10, 0), (10, 0, 0, 0, 0), (6, 0, 0, 1, 0), (11, 0, 0, 0, 0), (6, 1, 0, 10, 0), (13, 0, 0, 0, 0), (56, 0, 0, 0, 0)] L st σ := EB_eq 60 0 L st σ
theorem mm_61 {i0 : Int} {x1 : Int} {σ : ev_M} : EM 61 [.inr (.inl i0), .inl x1] σ = EB 61 0 [some (.inr (.inl i0)), some (.inl x1)] [] σ := by
  unfold EM ev_go
  exact if_pos (Nat.le_of_ble_eq_true rfl)
theorem bk_61_0 {L : ev_L} {st : List ev_V} {σ : ev_M} : EB 61 0 L st σ = EO 61 [(1, 0, 0, 0, 0), (28, 9, 9, 0, 1), (0, 1, 0, 0, 0), (32, 0, 0, 0, 0), (7, 21, 0, 1000000, 0), (43, 1, 0, 7, 0), (6, 0, 0, 1, 0), (52, 2, 0, 4, 0)] L st σ := EB_eq 61 0 L st σ
theorem bk_61_1 {L : ev_L} {st : List ev_V} {σ : ev_M} : EB 61 1 L st σ = EO 61 [(6, 0, 0, 0, 0), (53, 2, 0, 0, 0)] L st σ := EB_eq 61 1 L st σ
theorem bk_61_2 {L : ev_L} {st : List ev_V} {σ : ev_M} : EB 61 2 L st σ = EO 61 [(56, 1, 0, 0, 0)] L st σ := EB_eq 61 2 L st σ
theorem mm_62 {i0 : Int} {i1 : Int} {x2 : Int} {x3 : Int} {x4 : Int} {σ : ev_M} : EM 62 [.inr (.inl i0), .inr (.inl i1), .inl x2, .inl x3, .inl x4] σ = EB 62 0 [some (.inr (.inl i0)), some (.inr (.inl i1)), some (.inl x2), some (.inl x3), some (.inl x4), none, none, none] [] σ := by
  unfold EM ev_go
  exact if_pos (Nat.le_of_ble_eq_true rfl)
theorem bk_62_0 {L : ev_L} {st : List ev_V} {σ : ev_M} : EB 62 0 L st σ = EO 62 [(6, 0, 0, 0, 0), (3, 5, 1, 0, 0), (53, 1, 0, 0, 0)] L st σ := EB_eq 62 0 L st σ
theorem bk_62_1 {L : ev_L} {st : List ev_V} {σ : ev_M} : EB 62 1 L st σ = EO 62 [(0, 5, 1, 0, 0), (6, 1, 0, 10, 0), (43, 2, 0, 18, 0), (1, 0, 0, 0, 0), (28, 9, 9, 0, 1), (0, 5, 1, 0, 0), (7, 21, 0, 1000000, 0), (33, 0, 0, 0, 0), (23, 5, 0, 1, 0), (52, 1, 0, (-19), 0)] L st σ := EB_eq 62 1 L st σ
theorem bk_62_2 {L : ev_L} {st : List ev_V} {σ : ev_M} : EB 62 2 L st σ = EO 62 [(1, 0, 0, 0, 0), (28, 9, 9, 0, 1), (0, 2, 0, 0, 0), (6, 0, 0, 0, 0), (33, 0, 0, 0, 0), (6, 0, 0, 1, 0), (3, 5, 1, 0, 0), (6, 0, 0, 0, 0), (3, 6, 1, 0, 0), (53, 3, 0, 0, 0)] L st σ := EB_eq 62 2 L st σ
theorem bk_62_3 {L : ev_L} {st : List ev_V} {σ : ev_M} : EB 62 3 L st σ = EO 62 [(0, 5, 1, 0, 0), (46, 10, 0, 82, 0), (0, 6, 1, 0, 0), (6, 1, 0, 10, 0), (43, 10, 0, 75, 0), (6, 0, 0, 0, 0), (3, 5, 1, 0, 0), (6, 0, 0, 0, 0), (3, 7, 1, 0, 0), (53, 4, 0, 0, 0)] L st σ := EB_eq 62 3 L st σ
theorem bk_62_4 {L : ev_L} {st : List ev_V} {σ : ev_M} : EB 62 4 L st σ = EO 62 [(0, 7, 1, 0, 0), (1, 1, 0, 0, 0), (28, 22, 7, 0, 1), (27, 28, 6, 1, 0), (43, 9, 0, 51, 0), (0, 7, 1, 0, 0), (0, 4, 1, 0, 0), (40, 8, 0, 38, 0), (1, 1, 0, 0, 0), (0, 7, 1, 0, 0), (59, 52, 2, 34, 7), (0, 3, 0, 0, 0), (42, 8, 0, 28, 0), (1, 0, 0, 0, 0), (1, 1, 0, 0, 0), (28, 22, 7, 0, 1), (0, 7, 1, 0, 0), (59, 63, 3, 38, 9), (47, 5, 0, 8, 0), (0, 5, 1, 0, 0), (46, 6, 0, 7, 0), (53, 5, 0, 0, 0)] L st σ := EB_eq 62 4 L st σ
theorem bk_62_5 {L : ev_L} {st : List ev_V} {σ : ev_M} : EB 62 5 L st σ = EO 62 [(6, 0, 0, 1, 0), (52, 7, 0, 4, 0)] L st σ := EB_eq 62 5 L st σ
theorem bk_62_6 {L : ev_L} {st : List ev_V} {σ : ev_M} : EB 62 6 L st σ = EO 62 [(6, 0, 0, 0, 0), (53, 7, 0, 0, 0)] L st σ := EB_eq 62 6 L st σ
theorem bk_62_7 {L : ev_L} {st : List ev_V} {σ : ev_M} : EB 62 7 L st σ = EO 62 [(3, 5, 1, 0, 0), (53, 8, 0, 0, 0)] L st σ := EB_eq 62 7 L st σ
theorem bk_62_8 {L : ev_L} {st : List ev_V} {σ : ev_M} : EB 62 8 L st σ = EO 62 [(23, 7, 0, 1, 0), (52, 4, 0, (-57), 0)] L st σ := EB_eq 62 8 L st σ
theorem bk_62_9 {L : ev_L} {st : List ev_V} {σ : ev_M} : EB 62 9 L st σ = EO 62 [(23, 6, 0, 1, 0), (52, 3, 0, (-81), 0)] L st σ := EB_eq 62 9 L st σ
theorem bk_62_10 {L : ev_L} {st : List ev_V} {σ : ev_M} : EB 62 10 L st σ = EO 62 [(58, 0, 0, 0, 0)] L st σ := EB_eq 62 10 L st σ
theorem mm_63 {i0 : Int} {i1 : Int} {x2 : Int} {σ : ev_M} : EM 63 [.inr (.inl i0), .inr (.inl i1), .inl x2] σ = EB 63 0 [some (.inr (.inl i0)), some (.inr (.inl i1)), some (.inl x2), none, none, none, none] [] σ := by
  unfold EM ev_go
  exact if_pos (Nat.le_of_ble_eq_true rfl)
theorem bk_63_0 {L : ev_L} {st : List ev_V} {σ : ev_M} : EB 63 0 L st σ = EO 63 [(1, 1, 0, 0, 0), (28, 42, 6, 2, 1), (0, 2, 0, 0, 0), (32, 0, 0, 0, 0), (3, 3, 0, 0, 0), (1, 1, 0, 0, 0), (28, 45, 6, 3, 2), (0, 2, 0, 0, 0), (32, 0, 0, 0, 0), (3, 4, 1, 0, 0), (1, 1, 0, 0, 0), (28, 48, 6, 4, 3), (0, 2, 0, 0, 0), (32, 0, 0, 0, 0), (3, 5, 1, 0, 0), (6, 0, 0, 0, 0), (3, 6, 1, 0, 0), (1, 0, 0, 0, 0), (28, 9, 9, 0, 1), (0, 3, 0, 0, 0), (32, 0, 0, 0, 0), (0, 5, 1, 0, 0), (10, 0, 0, 0, 0), (1, 0, 0, 0, 0), (28, 9, 9, 0, 1), (0, 4, 1, 0, 0), (32, 0, 0, 0, 0), (43, 1, 0, 22, 0), (1, 0, 0, 0, 0), (28, 9, 9, 0, 1), (0, 4, 1, 0, 0), (1, 0, 0, 0, 0), (28, 9, 9, 0, 1), (0, 3, 0, 0, 0), (32, 0, 0, 0, 0), (0, 5, 1, 0, 0), (10, 0, 0, 0, 0), (33, 0, 0, 0, 0), (6, 0, 0, 1, 0), (3, 6, 1, 0, 0), (53, 1, 0, 0, 0)] L st σ := EB_eq 63 0 L st σ
theorem bk_63_1 {L : ev_L} {st : List ev_V} {σ : ev_M} : EB 63 1 L st σ = EO 63 [(1, 0, 0, 0, 0), (28, 9, 9, 0, 1), (0, 4, 1, 0, 0), (32, 0, 0, 0, 0), (0, 5, 1, 0, 0), (10, 0, 0, 0, 0), (1, 0, 0, 0, 0), (28, 9, 9, 0, 1), (0, 3, 0, 0, 0), (32, 0, 0, 0, 0), (43, 2, 0, 22, 0), (1, 0, 0, 0, 0), (28, 9, 9, 0, 1), (0, 3, 0, 0, 0), (1, 0, 0, 0, 0), (28, 9, 9, 0, 1), (0, 4, 1, 0, 0), (32, 0, 0, 0, 0), (0, 5, 1, 0, 0), (10, 0, 0, 0, 0), (33, 0, 0, 0, 0), (6, 0, 0, 1, 0), (3, 6, 1, 0, 0), (53, 2, 0, 0, 0)] L st σ := EB_eq 63 1 L st σ
theorem bk_63_2 {L : ev_L} {st : List ev_V} {σ : ev_M} : EB 63 2 L st σ = EO 63 [(0, 6, 1, 0, 0), (56, 1, 0, 0, 0)] L st σ := EB_eq 63 2 L st σ
theorem mm_64 {i0 : Int} {i1 : Int} {x2 : Int} {x3 : Int} {x4 : Int} {σ : ev_M} : EM 64 [.inr (.inl i0), .inr (.inl i1), .inl x2, .inl x3, .inl x4] σ = EB 64 0 [some (.inr (.inl i0)), some (.inr (.inl i1)), some (.inl x2), some (.inl x3), some (.inl x4), none, none] [] σ := by
  unfold EM ev_go
  exact if_pos (Nat.le_of_ble_eq_true rfl)
theorem bk_64_0 {L : ev_L} {st : List ev_V} {σ : ev_M} : EB 64 0 L st σ = EO 64 [(1, 0, 0, 0, 0), (0, 3, 0, 0, 0), (59, 61, 2, 51, 9), (47, 1, 0, 5, 0), (6, 0, 0, 0, 0), (56, 0, 0, 0, 0)] L st σ := EB_eq 64 0 L st σ
theorem bk_64_1 {L : ev_L} {st : List ev_V} {σ : ev_M} : EB 64 1 L st σ = EO 64 [(6, 0, 0, 0, 0), (3, 5, 1, 0, 0), (0, 3, 0, 0, 0), (3, 6, 1, 0, 0), (53, 2, 0, 0, 0)] L st σ := EB_eq 64 1 L st σ
theorem bk_64_2 {L : ev_L} {st : List ev_V} {σ : ev_M} : EB 64 2 L st σ = EO 64 [(0, 5, 1, 0, 0), (6, 1, 0, 10, 0), (43, 5, 0, 45, 0), (0, 6, 1, 0, 0), (6, 0, 0, (-1), 0), (40, 5, 0, 39, 0), (1, 0, 0, 0, 0), (28, 18, 9, 2, 3), (0, 5, 1, 0, 0), (0, 6, 1, 0, 0), (33, 0, 0, 0, 0), (23, 5, 0, 1, 0), (0, 6, 1, 0, 0), (0, 2, 0, 0, 0), (41, 3, 0, 7, 0), (6, 0, 0, (-1), 0), (52, 4, 0, 12, 0)] L st σ := EB_eq 64 2 L st σ
theorem bk_64_3 {L : ev_L} {st : List ev_V} {σ : ev_M} : EB 64 3 L st σ = EO 64 [(1, 0, 0, 0, 0), (1, 1, 0, 0, 0), (0, 6, 1, 0, 0), (0, 4, 1, 0, 0), (59, 65, 4, 55, 9), (53, 4, 0, 0, 0)] L st σ := EB_eq 64 3 L st σ
theorem bk_64_4 {L : ev_L} {st : List ev_V} {σ : ev_M} : EB 64 4 L st σ = EO 64 [(3, 6, 1, 0, 0), (52, 2, 0, (-46), 0)] L st σ := EB_eq 64 4 L st σ
theorem bk_64_5 {L : ev_L} {st : List ev_V} {σ : ev_M} : EB 64 5 L st σ = EO 64 [(0, 5, 1, 0, 0), (56, 0, 0, 0, 0)] L st σ := EB_eq 64 5 L st σ
theorem mm_65 {i0 : Int} {i1 : Int} {x2 : Int} {x3 : Int} {σ : ev_M} : EM 65 [.inr (.inl i0), .inr (.inl i1), .inl x2, .inl x3] σ = EB 65 0 [some (.inr (.inl i0)), some (.inr (.inl i1)), some (.inl x2), some (.inl x3), none, none, none, none, none, none] [] σ := by
  unfold EM ev_go
  exact if_pos (Nat.le_of_ble_eq_true rfl)
theorem bk_65_0 {L : ev_L} {st : List ev_V} {σ : ev_M} : EB 65 0 L st σ = EO 65 [(6, 0, 0, (-1), 0), (3, 4, 1, 0, 0), (6, 0, 0, 0, 0), (3, 5, 1, 0, 0), (53, 1, 0, 0, 0)] L st σ := EB_eq 65 0 L st σ
theorem bk_65_1 {L : ev_L} {st : List ev_V} {σ : ev_M} : EB 65 1 L st σ = EO 65 [(0, 5, 1, 0, 0), (1, 1, 0, 0, 0), (28, 22, 7, 0, 1), (27, 28, 6, 1, 0), (43, 9, 0, 126, 0), (1, 1, 0, 0, 0), (28, 22, 7, 0, 1), (28, 42, 6, 2, 1), (0, 5, 1, 0, 0), (32, 0, 0, 0, 0), (3, 6, 1, 0, 0), (1, 1, 0, 0, 0), (28, 22, 7, 0, 1), (28, 45, 6, 3, 2), (0, 5, 1, 0, 0), (32, 0, 0, 0, 0), (3, 7, 1, 0, 0), (1, 1, 0, 0, 0), (0, 5, 1, 0, 0), (59, 52, 2, 34, 7), (0, 3, 0, 0, 0), (42, 8, 0, 86, 0), (0, 6, 1, 0, 0), (0, 2, 0, 0, 0), (40, 2, 0, 9, 0), (0, 7, 1, 0, 0), (0, 2, 0, 0, 0), (41, 8, 0, 74, 0), (53, 2, 0, 0, 0)] L st σ := EB_eq 65 1 L st σ
theorem bk_65_2 {L : ev_L} {st : List ev_V} {σ : ev_M} : EB 65 2 L st σ = EO 65 [(0, 6, 1, 0, 0), (0, 2, 0, 0, 0), (41, 3, 0, 8, 0), (0, 7, 1, 0, 0), (52, 4, 0, 5, 0)] L st σ := EB_eq 65 2 L st σ
theorem bk_65_3 {L : ev_L} {st : List ev_V} {σ : ev_M} : EB 65 3 L st σ = EO 65 [(0, 6, 1, 0, 0), (53, 4, 0, 0, 0)] L st σ := EB_eq 65 3 L st σ
theorem bk_65_4 {L : ev_L} {st : List ev_V} {σ : ev_M} : EB 65 4 L st σ = EO 65 [(3, 8, 1, 0, 0), (1, 0, 0, 0, 0), (28, 9, 9, 0, 1), (0, 8, 1, 0, 0), (32, 0, 0, 0, 0), (1, 1, 0, 0, 0), (28, 22, 7, 0, 1), (28, 48, 6, 4, 3), (0, 5, 1, 0, 0), (32, 0, 0, 0, 0), (10, 0, 0, 0, 0), (1, 0, 0, 0, 0), (28, 9, 9, 0, 1), (0, 2, 0, 0, 0), (32, 0, 0, 0, 0), (41, 5, 0, 7, 0), (6, 0, 0, 1, 0), (52, 6, 0, 4, 0)] L st σ := EB_eq 65 4 L st σ
theorem bk_65_5 {L : ev_L} {st : List ev_V} {σ : ev_M} : EB 65 5 L st σ = EO 65 [(6, 0, 0, 0, 0), (53, 6, 0, 0, 0)] L st σ := EB_eq 65 5 L st σ
theorem bk_65_6 {L : ev_L} {st : List ev_V} {σ : ev_M} : EB 65 6 L st σ = EO 65 [(3, 9, 1, 0, 0), (0, 9, 1, 0, 0), (46, 8, 0, 20, 0), (0, 4, 1, 0, 0), (6, 0, 0, (-1), 0), (40, 7, 0, 10, 0), (0, 8, 1, 0, 0), (0, 4, 1, 0, 0), (43, 8, 0, 7, 0), (53, 7, 0, 0, 0)] L st σ := EB_eq 65 6 L st σ
theorem bk_65_7 {L : ev_L} {st : List ev_V} {σ : ev_M} : EB 65 7 L st σ = EO 65 [(0, 8, 1, 0, 0), (3, 4, 1, 0, 0), (53, 8, 0, 0, 0)] L st σ := EB_eq 65 7 L st σ
theorem bk_65_8 {L : ev_L} {st : List ev_V} {σ : ev_M} : EB 65 8 L st σ = EO 65 [(23, 5, 0, 1, 0), (52, 1, 0, (-132), 0)] L st σ := EB_eq 65 8 L st σ
theorem bk_65_9 {L : ev_L} {st : List ev_V} {σ : ev_M} : EB 65 9 L st σ = EO 65 [(0, 4, 1, 0, 0), (56, 0, 0, 0, 0)] L st σ := EB_eq 65 9 L st σ
theorem mm_66 {i0 : Int} {i1 : Int} {x2 : Int} {x3 : Int} {σ : ev_M} : EM 66 [.inr (.inl i0), .inr (.inl i1), .inl x2, .inl x3] σ = EB 66 0 [some (.inr (.inl i0)), some (.inr (.inl i1)), some (.inl x2), some (.inl x3), none, none, none] [] σ := by
  unfold EM ev_go
  exact if_pos (Nat.le_of_ble_eq_true rfl)
theorem bk_66_0 {L : ev_L} {st : List ev_V} {σ : ev_M} : EB 66 0 L st σ = EO 66 [(6, 0, 0, 0, 0), (3, 4, 1, 0, 0), (53, 1, 0, 0, 0)] L st σ := EB_eq 66 0 L st σ
theorem bk_66_1 {L : ev_L} {st : List ev_V} {σ : ev_M} : EB 66 1 L st σ = EO 66 [(0, 4, 1, 0, 0), (6, 1, 0, 10, 0), (43, 2, 0, 17, 0), (1, 0, 0, 0, 0), (28, 15, 9, 1, 2), (0, 4, 1, 0, 0), (6, 0, 0, 0, 0), (33, 0, 0, 0, 0), (23, 4, 0, 1, 0), (52, 1, 0, (-18), 0)] L st σ := EB_eq 66 1 L st σ
theorem bk_66_2 {L : ev_L} {st : List ev_V} {σ : ev_M} : EB 66 2 L st σ = EO 66 [(1, 0, 0, 0, 0), (28, 15, 9, 1, 2), (0, 2, 0, 0, 0), (6, 1, 0, 60, 0), (33, 0, 0, 0, 0), (6, 0, 0, 1, 0), (3, 4, 1, 0, 0), (6, 0, 0, 0, 0), (3, 5, 1, 0, 0), (53, 3, 0, 0, 0)] L st σ := EB_eq 66 2 L st σ
theorem bk_66_3 {L : ev_L} {st : List ev_V} {σ : ev_M} : EB 66 3 L st σ = EO 66 [(0, 4, 1, 0, 0), (46, 9, 0, 62, 0), (0, 5, 1, 0, 0), (6, 1, 0, 10, 0), (43, 9, 0, 55, 0), (6, 0, 0, 0, 0), (3, 4, 1, 0, 0), (6, 0, 0, 0, 0), (3, 6, 1, 0, 0), (53, 4, 0, 0, 0)] L st σ := EB_eq 66 3 L st σ
theorem bk_66_4 {L : ev_L} {st : List ev_V} {σ : ev_M} : EB 66 4 L st σ = EO 66 [(0, 6, 1, 0, 0), (1, 1, 0, 0, 0), (28, 22, 7, 0, 1), (27, 28, 6, 1, 0), (43, 8, 0, 31, 0), (1, 0, 0, 0, 0), (1, 1, 0, 0, 0), (0, 6, 1, 0, 0), (59, 67, 3, 59, 9), (47, 5, 0, 8, 0), (0, 4, 1, 0, 0), (46, 6, 0, 7, 0), (53, 5, 0, 0, 0)] L st σ := EB_eq 66 4 L st σ
theorem bk_66_5 {L : ev_L} {st : List ev_V} {σ : ev_M} : EB 66 5 L st σ = EO 66 [(6, 0, 0, 1, 0), (52, 7, 0, 4, 0)] L st σ := EB_eq 66 5 L st σ
theorem bk_66_6 {L : ev_L} {st : List ev_V} {σ : ev_M} : EB 66 6 L st σ = EO 66 [(6, 0, 0, 0, 0), (53, 7, 0, 0, 0)] L st σ := EB_eq 66 6 L st σ
theorem bk_66_7 {L : ev_L} {st : List ev_V} {σ : ev_M} : EB 66 7 L st σ = EO 66 [(3, 4, 1, 0, 0), (23, 6, 0, 1, 0), (52, 4, 0, (-37), 0)] L st σ := EB_eq 66 7 L st σ
theorem bk_66_8 {L : ev_L} {st : List ev_V} {σ : ev_M} : EB 66 8 L st σ = EO 66 [(23, 5, 0, 1, 0), (52, 3, 0, (-61), 0)] L st σ := EB_eq 66 8 L st σ
theorem bk_66_9 {L : ev_L} {st : List ev_V} {σ : ev_M} : EB 66 9 L st σ = EO 66 [(1, 0, 0, 0, 0), (28, 15, 9, 1, 2), (0, 3, 0, 0, 0), (32, 0, 0, 0, 0), (56, 0, 0, 0, 0)] L st σ := EB_eq 66 9 L st σ
theorem mm_67 {i0 : Int} {i1 : Int} {x2 : Int} {σ : ev_M} : EM 67 [.inr (.inl i0), .inr (.inl i1), .inl x2] σ = EB 67 0 [some (.inr (.inl i0)), some (.inr (.inl i1)), some (.inl x2), none, none, none, none] [] σ := by
  unfold EM ev_go
  exact if_pos (Nat.le_of_ble_eq_true rfl)
theorem bk_67_0 {L : ev_L} {st : List ev_V} {σ : ev_M} : EB 67 0 L st σ = EO 67 [(1, 1, 0, 0, 0), (28, 22, 7, 0, 1), (28, 42, 6, 2, 1), (0, 2, 0, 0, 0), (32, 0, 0, 0, 0), (3, 3, 0, 0, 0), (1, 1, 0, 0, 0), (28, 22, 7, 0, 1), (28, 45, 6, 3, 2), (0, 2, 0, 0, 0), (32, 0, 0, 0, 0), (3, 4, 1, 0, 0), (1, 1, 0, 0, 0), (0, 2, 0, 0, 0), (59, 52, 2, 34, 7), (3, 5, 1, 0, 0), (6, 0, 0, 0, 0), (3, 6, 1, 0, 0), (1, 0, 0, 0, 0), (28, 15, 9, 1, 2), (0, 3, 0, 0, 0), (32, 0, 0, 0, 0), (0, 5, 1, 0, 0), (63, 63, 0, 0, 0), (1, 0, 0, 0, 0), (28, 15, 9, 1, 2), (0, 4, 1, 0, 0), (32, 0, 0, 0, 0), (45, 1, 0, 24, 0), (1, 0, 0, 0, 0), (28, 15, 9, 1, 2), (0, 4, 1, 0, 0), (1, 0, 0, 0, 0), (28, 15, 9, 1, 2), (0, 3, 0, 0, 0), (32, 0, 0, 0, 0), (0, 5, 1, 0, 0), (63, 63, 0, 0, 0), (33, 0, 0, 0, 0), (6, 0, 0, 1, 0), (3, 6, 1, 0, 0), (53, 1, 0, 0, 0)] L st σ := EB_eq 67 0 L st σ
theorem bk_67_1 {L : ev_L} {st : List ev_V} {σ : ev_M} : EB 67 1 L st σ = EO 67 [(1, 0, 0, 0, 0), (28, 15, 9, 1, 2), (0, 4, 1, 0, 0), (32, 0, 0, 0, 0), (0, 5, 1, 0, 0), (63, 63, 0, 0, 0), (1, 0, 0, 0, 0), (28, 15, 9, 1, 2), (0, 3, 0, 0, 0), (32, 0, 0, 0, 0), (45, 2, 0, 24, 0), (1, 0, 0, 0, 0), (28, 15, 9, 1, 2), (0, 3, 0, 0, 0), (1, 0, 0, 0, 0), (28, 15, 9, 1, 2), (0, 4, 1, 0, 0), (32, 0, 0, 0, 0), (0, 5, 1, 0, 0), (63, 63, 0, 0, 0), (33, 0, 0, 0, 0), (6, 0, 0, 1, 0), (3, 6, 1, 0, 0), (53, 2, 0, 0, 0)] L st σ := EB_eq 67 1 L st σ
theorem bk_67_2 {L : ev_L} {st : List ev_V} {σ : ev_M} : EB 67 2 L st σ = EO 67 [(0, 6, 1, 0, 0), (56, 1, 0, 0, 0)] L st σ := EB_eq 67 2 L st σ
theorem mm_68 {i0 : Int} {x1 : Int} {σ : ev_M} : EM 68 [.inr (.inl i0), .inl x1] σ = EB 68 0 [some (.inr (.inl i0)), some (.inl x1)] [] σ := by
  unfold EM ev_go
  exact if_pos (Nat.le_of_ble_eq_true rfl)
theorem bk_68_0 {L : ev_L} {st : List ev_V} {σ : ev_M} : EB 68 0 L st σ = EO 68 [(0, 1, 0, 0, 0), (6, 0, 0, 1, 0), (6, 1, 0, 10, 0), (60, 104, 3, 61, 0), (47, 1, 0, 6, 0), (6, 1, 0, (-3), 0), (56, 0, 0, 0, 0)] L st σ := EB_eq 68 0 L st σ
theorem bk_68_1 {L : ev_L} {st : List ev_V} {σ : ev_M} : EB 68 1 L st σ = EO 68 [(1, 0, 0, 0, 0), (28, 10, 10, 0, (-161)), (28, 65, 7, 0, 1), (27, 69, 6, 0, 0), (0, 1, 0, 0, 0), (10, 0, 0, 0, 0), (6, 1, 0, 10, 0), (45, 2, 0, 6, 0), (6, 1, 0, (-5), 0), (56, 0, 0, 0, 0)] L st σ := EB_eq 68 1 L st σ
theorem bk_68_2 {L : ev_L} {st : List ev_V} {σ : ev_M} : EB 68 2 L st σ = EO 68 [(1, 0, 0, 0, 0), (28, 22, 10, 2, 1), (1, 0, 0, 0, 0), (28, 10, 10, 0, (-161)), (59, 26, 2, 75, 3), (1, 0, 0, 0, 0), (28, 10, 10, 0, (-161)), (28, 65, 7, 0, 1), (24, 0, 0, 0, 0), (27, 69, 6, 0, 0), (0, 1, 0, 0, 0), (10, 0, 0, 0, 0), (30, 69, 6, 0, 0), (1, 0, 0, 0, 0), (28, 10, 10, 0, (-161)), (28, 65, 7, 0, 1), (27, 69, 6, 0, 0), (56, 0, 0, 0, 0)] L st σ := EB_eq 68 2 L st σ
theorem mm_69 {i0 : Int} {x1 : Int} {x2 : Int} {x3 : Int} {σ : ev_M} : EM 69 [.inr (.inl i0), .inl x1, .inl x2, .inl x3] σ = EB 69 0 [some (.inr (.inl i0)), some (.inl x1), some (.inl x2), some (.inl x3)] [] σ := by
  unfold EM ev_go
  exact if_pos (Nat.le_of_ble_eq_true rfl)
theorem bk_69_0 {L : ev_L} {st : List ev_V} {σ : ev_M} : EB 69 0 L st σ = EO 69 [(1, 0, 0, 0, 0), (28, 10, 10, 0, (-161)), (28, 65, 7, 0, 1), (0, 1, 0, 0, 0), (59, 44, 2, 79, 6), (46, 1, 0, 17, 0), (1, 0, 0, 0, 0), (28, 10, 10, 0, (-161)), (28, 65, 7, 0, 1), (0, 2, 0, 0, 0), (59, 44, 2, 79, 6), (47, 2, 0, 6, 0), (53, 1, 0, 0, 0)] L st σ := EB_eq 69 0 L st σ
theorem bk_69_1 {L : ev_L} {st : List ev_V} {σ : ev_M} : EB 69 1 L st σ = EO 69 [(6, 1, 0, (-2), 0), (56, 0, 0, 0, 0)] L st σ := EB_eq 69 1 L st σ
theorem bk_69_2 {L : ev_L} {st : List ev_V} {σ : ev_M} : EB 69 2 L st σ = EO 69 [(0, 1, 0, 0, 0), (0, 2, 0, 0, 0), (40, 3, 0, 13, 0), (0, 3, 0, 0, 0), (6, 0, 0, 1, 0), (6, 1, 0, 99, 0), (60, 104, 3, 61, 0), (47, 4, 0, 6, 0), (53, 3, 0, 0, 0)] L st σ := EB_eq 69 2 L st σ
theorem bk_69_3 {L : ev_L} {st : List ev_V} {σ : ev_M} : EB 69 3 L st σ = EO 69 [(6, 1, 0, (-3), 0), (56, 0, 0, 0, 0)] L st σ := EB_eq 69 3 L st σ
theorem bk_69_4 {L : ev_L} {st : List ev_V} {σ : ev_M} : EB 69 4 L st σ = EO 69 [(1, 0, 0, 0, 0), (28, 10, 10, 0, (-161)), (28, 65, 7, 0, 1), (27, 83, 6, 1, 0), (6, 1, 0, 20, 0), (42, 5, 0, 6, 0), (6, 1, 0, (-5), 0), (56, 0, 0, 0, 0)] L st σ := EB_eq 69 4 L st σ
theorem bk_69_5 {L : ev_L} {st : List ev_V} {σ : ev_M} : EB 69 5 L st σ = EO 69 [(1, 0, 0, 0, 0), (28, 22, 10, 2, 1), (1, 0, 0, 0, 0), (28, 10, 10, 0, (-161)), (59, 26, 2, 75, 3), (1, 0, 0, 0, 0), (28, 10, 10, 0, (-161)), (28, 65, 7, 0, 1), (0, 1, 0, 0, 0), (0, 2, 0, 0, 0), (0, 3, 0, 0, 0), (59, 46, 4, 86, 6), (56, 0, 0, 0, 0)] L st σ := EB_eq 69 5 L st σ
theorem mm_70 {i0 : Int} {x1 : Int} {σ : ev_M} : EM 70 [.inr (.inl i0), .inl x1] σ = EB 70 0 [some (.inr (.inl i0)), some (.inl x1)] [] σ := by
  unfold EM ev_go
  exact if_pos (Nat.le_of_ble_eq_true rfl)
theorem bk_70_0 {L : ev_L} {st : List ev_V} {σ : ev_M} : EB 70 0 L st σ = EO 70 [(1, 0, 0, 0, 0), (28, 10, 10, 0, (-161)), (28, 65, 7, 0, 1), (0, 1, 0, 0, 0), (59, 45, 2, 90, 6), (47, 1, 0, 6, 0), (6, 1, 0, (-2), 0), (56, 0, 0, 0, 0)] L st σ := EB_eq 70 0 L st σ
theorem bk_70_1 {L : ev_L} {st : List ev_V} {σ : ev_M} : EB 70 1 L st σ = EO 70 [(1, 0, 0, 0, 0), (28, 10, 10, 0, (-161)), (28, 65, 7, 0, 1), (28, 93, 6, 5, 4), (0, 1, 0, 0, 0), (32, 0, 0, 0, 0), (6, 0, 0, (-1), 0), (40, 2, 0, 6, 0), (6, 1, 0, (-4), 0), (56, 0, 0, 0, 0)] L st σ := EB_eq 70 1 L st σ
theorem bk_70_2 {L : ev_L} {st : List ev_V} {σ : ev_M} : EB 70 2 L st σ = EO 70 [(1, 0, 0, 0, 0), (28, 10, 10, 0, (-161)), (28, 97, 7, 1, 6), (27, 101, 1, 0, 0), (6, 1, 0, 6, 0), (42, 3, 0, 6, 0), (6, 1, 0, (-5), 0), (56, 0, 0, 0, 0)] L st σ := EB_eq 70 2 L st σ
theorem bk_70_3 {L : ev_L} {st : List ev_V} {σ : ev_M} : EB 70 3 L st σ = EO 70 [(1, 0, 0, 0, 0), (28, 22, 10, 2, 1), (1, 0, 0, 0, 0), (28, 10, 10, 0, (-161)), (59, 26, 2, 75, 3), (1, 0, 0, 0, 0), (28, 10, 10, 0, (-161)), (0, 1, 0, 0, 0), (59, 48, 2, 104, 7), (56, 0, 0, 0, 0)] L st σ := EB_eq 70 3 L st σ
theorem mm_71 {i0 : Int} {x1 : Int} {x2 : Int} {x3 : Int} {x4 : Int} {σ : ev_M} : EM 71 [.inr (.inl i0), .inl x1, .inl x2, .inl x3, .inl x4] σ = EB 71 0 [some (.inr (.inl i0)), some (.inl x1), some (.inl x2), some (.inl x3), some (.inl x4)] [] σ := by
  unfold EM ev_go
  exact if_pos (Nat.le_of_ble_eq_true rfl)
theorem bk_71_0 {L : ev_L} {st : List ev_V} {σ : ev_M} : EB 71 0 L st σ = EO 71 [(1, 0, 0, 0, 0), (28, 10, 10, 0, (-161)), (28, 97, 7, 1, 6), (0, 1, 0, 0, 0), (59, 6, 2, 108, 1), (47, 1, 0, 6, 0), (6, 1, 0, (-2), 0), (56, 0, 0, 0, 0)] L st σ := EB_eq 71 0 L st σ
theorem bk_71_1 {L : ev_L} {st : List ev_V} {σ : ev_M} : EB 71 1 L st σ = EO 71 [(0, 2, 0, 0, 0), (6, 0, 0, 0, 0), (6, 0, 0, 3, 0), (60, 104, 3, 61, 0), (46, 2, 0, 24, 0), (0, 3, 0, 0, 0), (6, 0, 0, 0, 0), (6, 1, 0, 9, 0), (60, 104, 3, 61, 0), (46, 2, 0, 14, 0), (0, 4, 1, 0, 0), (6, 0, 0, 0, 0), (6, 1, 0, 60, 0), (60, 104, 3, 61, 0), (47, 3, 0, 6, 0), (53, 2, 0, 0, 0)] L st σ := EB_eq 71 1 L st σ
theorem bk_71_2 {L : ev_L} {st : List ev_V} {σ : ev_M} : EB 71 2 L st σ = EO 71 [(6, 1, 0, (-3), 0), (56, 0, 0, 0, 0)] L st σ := EB_eq 71 2 L st σ
theorem bk_71_3 {L : ev_L} {st : List ev_V} {σ : ev_M} : EB 71 3 L st σ = EO 71 [(1, 0, 0, 0, 0), (28, 10, 10, 0, (-161)), (28, 97, 7, 1, 6), (28, 111, 1, 5, 5), (0, 1, 0, 0, 0), (32, 0, 0, 0, 0), (6, 1, 0, 6, 0), (42, 4, 0, 6, 0), (6, 1, 0, (-5), 0), (56, 0, 0, 0, 0)] L st σ := EB_eq 71 3 L st σ
theorem bk_71_4 {L : ev_L} {st : List ev_V} {σ : ev_M} : EB 71 4 L st σ = EO 71 [(1, 0, 0, 0, 0), (28, 22, 10, 2, 1), (1, 0, 0, 0, 0), (28, 10, 10, 0, (-161)), (59, 26, 2, 75, 3), (1, 0, 0, 0, 0), (28, 10, 10, 0, (-161)), (28, 97, 7, 1, 6), (0, 1, 0, 0, 0), (0, 2, 0, 0, 0), (0, 3, 0, 0, 0), (0, 4, 1, 0, 0), (59, 9, 5, 114, 1), (56, 0, 0, 0, 0)] L st σ := EB_eq 71 4 L st σ
theorem mm_72 {i0 : Int} {x1 : Int} {x2 : Int} {x3 : Int} {σ : ev_M} : EM 72 [.inr (.inl i0), .inl x1, .inl x2, .inl x3] σ = EB 72 0 [some (.inr (.inl i0)), some (.inl x1), some (.inl x2), some (.inl x3), none] [] σ := by
  unfold EM ev_go
  exact if_pos (Nat.le_of_ble_eq_true rfl)
theorem bk_72_0 {L : ev_L} {st : List ev_V} {σ : ev_M} : EB 72 0 L st σ = EO 72 [(1, 0, 0, 0, 0), (28, 10, 10, 0, (-161)), (28, 97, 7, 1, 6), (0, 1, 0, 0, 0), (0, 2, 0, 0, 0), (59, 7, 3, 118, 1), (47, 1, 0, 6, 0), (6, 1, 0, (-2), 0), (56, 0, 0, 0, 0)] L st σ := EB_eq 72 0 L st σ
theorem bk_72_1 {L : ev_L} {st : List ev_V} {σ : ev_M} : EB 72 1 L st σ = EO 72 [(0, 3, 0, 0, 0), (6, 0, 0, (-1), 0), (40, 2, 0, 21, 0), (1, 0, 0, 0, 0), (28, 10, 10, 0, (-161)), (28, 97, 7, 1, 6), (0, 1, 0, 0, 0), (0, 3, 0, 0, 0), (59, 7, 3, 118, 1), (47, 2, 0, 6, 0), (6, 1, 0, (-2), 0), (56, 0, 0, 0, 0)] L st σ := EB_eq 72 1 L st σ
theorem bk_72_2 {L : ev_L} {st : List ev_V} {σ : ev_M} : EB 72 2 L st σ = EO 72 [(0, 3, 0, 0, 0), (6, 0, 0, (-1), 0), (40, 3, 0, 11, 0), (0, 3, 0, 0, 0), (0, 2, 0, 0, 0), (44, 3, 0, 6, 0), (6, 1, 0, (-3), 0), (56, 0, 0, 0, 0)] L st σ := EB_eq 72 2 L st σ
theorem bk_72_3 {L : ev_L} {st : List ev_V} {σ : ev_M} : EB 72 3 L st σ = EO 72 [(1, 0, 0, 0, 0), (28, 22, 10, 2, 1), (1, 0, 0, 0, 0), (28, 10, 10, 0, (-161)), (59, 26, 2, 75, 3), (0, 3, 0, 0, 0), (6, 0, 0, (-1), 0), (41, 4, 0, 8, 0), (6, 1, 0, 64, 0), (52, 5, 0, 6, 0)] L st σ := EB_eq 72 3 L st σ
theorem bk_72_4 {L : ev_L} {st : List ev_V} {σ : ev_M} : EB 72 4 L st σ = EO 72 [(6, 0, 0, 1, 0), (0, 3, 0, 0, 0), (18, 0, 0, 0, 0), (53, 5, 0, 0, 0)] L st σ := EB_eq 72 4 L st σ
theorem bk_72_5 {L : ev_L} {st : List ev_V} {σ : ev_M} : EB 72 5 L st σ = EO 72 [(3, 4, 1, 0, 0), (1, 0, 0, 0, 0), (28, 10, 10, 0, (-161)), (28, 97, 7, 1, 6), (0, 1, 0, 0, 0), (0, 2, 0, 0, 0), (0, 4, 1, 0, 0), (59, 10, 4, 122, 1), (46, 6, 0, 7, 0), (6, 0, 0, 1, 0), (52, 7, 0, 4, 0)] L st σ := EB_eq 72 5 L st σ
theorem bk_72_6 {L : ev_L} {st : List ev_V} {σ : ev_M} : EB 72 6 L st σ = EO 72 [(6, 0, 0, 0, 0), (53, 7, 0, 0, 0)] L st σ := EB_eq 72 6 L st σ
theorem bk_72_7 {L : ev_L} {st : List ev_V} {σ : ev_M} : EB 72 7 L st σ = EO 72 [(56, 0, 0, 0, 0)] L st σ := EB_eq 72 7 L st σ
theorem mm_73 {i0 : Int} {x1 : Int} {x2 : Int} {x3 : Int} {σ : ev_M} : EM 73 [.inr (.inl i0), .inl x1, .inl x2, .inl x3] σ = EB 73 0 [some (.inr (.inl i0)), some (.inl x1), some (.inl x2), some (.inl x3), none, none] [] σ := by
  unfold EM ev_go
  exact if_pos (Nat.le_of_ble_eq_true rfl)
theorem bk_73_0 {L : ev_L} {st : List ev_V} {σ : ev_M} : EB 73 0 L st σ = EO 73 [(1, 0, 0, 0, 0), (28, 10, 10, 0, (-161)), (28, 97, 7, 1, 6), (0, 1, 0, 0, 0), (0, 2, 0, 0, 0), (59, 7, 3, 118, 1), (47, 1, 0, 6, 0), (6, 1, 0, (-2), 0), (56, 0, 0, 0, 0)] L st σ := EB_eq 73 0 L st σ
theorem bk_73_1 {L : ev_L} {st : List ev_V} {σ : ev_M} : EB 73 1 L st σ = EO 73 [(0, 3, 0, 0, 0), (6, 0, 0, 0, 0), (6, 1, 0, 9, 0), (60, 104, 3, 61, 0), (47, 2, 0, 6, 0), (6, 1, 0, (-3), 0), (56, 0, 0, 0, 0)] L st σ := EB_eq 73 1 L st σ
theorem bk_73_2 {L : ev_L} {st : List ev_V} {σ : ev_M} : EB 73 2 L st σ = EO 73 [(1, 0, 0, 0, 0), (28, 22, 10, 2, 1), (1, 0, 0, 0, 0), (28, 10, 10, 0, (-161)), (59, 26, 2, 75, 3), (0, 1, 0, 0, 0), (0, 2, 0, 0, 0), (60, 5, 2, 125, 0), (3, 4, 1, 0, 0), (1, 0, 0, 0, 0), (28, 10, 10, 0, (-161)), (28, 97, 7, 1, 6), (28, 129, 1, 7, 7), (0, 4, 1, 0, 0), (32, 0, 0, 0, 0), (3, 5, 1, 0, 0), (1, 0, 0, 0, 0), (28, 10, 10, 0, (-161)), (28, 97, 7, 1, 6), (0, 4, 1, 0, 0), (0, 3, 0, 0, 0), (59, 11, 3, 132, 1), (0, 5, 1, 0, 0), (56, 0, 0, 0, 0)] L st σ := EB_eq 73 2 L st σ
theorem mm_74 {i0 : Int} {x1 : Int} {x2 : Int} {σ : ev_M} : EM 74 [.inr (.inl i0), .inl x1, .inl x2] σ = EB 74 0 [some (.inr (.inl i0)), some (.inl x1), some (.inl x2), none] [] σ := by
  unfold EM ev_go
  exact if_pos (Nat.le_of_ble_eq_true rfl)
theorem bk_74_0 {L : ev_L} {st : List ev_V} {σ : ev_M} : EB 74 0 L st σ = EO 74 [(1, 0, 0, 0, 0), (28, 10, 10, 0, (-161)), (28, 97, 7, 1, 6), (0, 1, 0, 0, 0), (59, 6, 2, 108, 1), (47, 1, 0, 6, 0), (6, 1, 0, (-2), 0), (56, 0, 0, 0, 0)] L st σ := EB_eq 74 0 L st σ
theorem bk_74_1 {L : ev_L} {st : List ev_V} {σ : ev_M} : EB 74 1 L st σ = EO 74 [(1, 0, 0, 0, 0), (28, 22, 10, 2, 1), (1, 0, 0, 0, 0), (28, 10, 10, 0, (-161)), (59, 26, 2, 75, 3), (1, 0, 0, 0, 0), (28, 10, 10, 0, (-161)), (28, 97, 7, 1, 6), (28, 136, 1, 4, 4), (0, 1, 0, 0, 0), (34, 0, 0, 0, 0), (3, 3, 0, 0, 0), (1, 0, 0, 0, 0), (28, 10, 10, 0, (-161)), (28, 97, 7, 1, 6), (28, 136, 1, 4, 4), (0, 1, 0, 0, 0), (0, 2, 0, 0, 0), (35, 0, 0, 0, 0), (0, 3, 0, 0, 0), (46, 2, 0, 7, 0), (6, 0, 0, 1, 0), (52, 3, 0, 4, 0)] L st σ := EB_eq 74 1 L st σ
theorem bk_74_2 {L : ev_L} {st : List ev_V} {σ : ev_M} : EB 74 2 L st σ = EO 74 [(6, 0, 0, 0, 0), (53, 3, 0, 0, 0)] L st σ := EB_eq 74 2 L st σ
theorem bk_74_3 {L : ev_L} {st : List ev_V} {σ : ev_M} : EB 74 3 L st σ = EO 74 [(56, 0, 0, 0, 0)] L st σ := EB_eq 74 3 L st σ
theorem mm_75 {i0 : Int} {x1 : Int} {σ : ev_M} : EM 75 [.inr (.inl i0), .inl x1] σ = EB 75 0 [some (.inr (.inl i0)), some (.inl x1)] [] σ := by
  unfold EM ev_go
  exact if_pos (Nat.le_of_ble_eq_true rfl)
theorem bk_75_0 {L : ev_L} {st : List ev_V} {σ : ev_M} : EB 75 0 L st σ = EO 75 [(0, 1, 0, 0, 0), (54, 1, 0, 0, 0)] L st σ := EB_eq 75 0 L st σ
theorem bk_75_1 {L : ev_L} {st : List ev_V} {σ : ev_M} : EB 75 1 L st σ = EO 75 [(1, 0, 0, 0, 0), (28, 10, 10, 0, (-161)), (28, 65, 7, 0, 1), (27, 69, 6, 0, 0), (56, 0, 0, 0, 0)] L st σ := EB_eq 75 1 L st σ
theorem bk_75_2 {L : ev_L} {st : List ev_V} {σ : ev_M} : EB 75 2 L st σ = EO 75 [(1, 0, 0, 0, 0), (28, 10, 10, 0, (-161)), (28, 65, 7, 0, 1), (27, 83, 6, 1, 0), (56, 0, 0, 0, 0)] L st σ := EB_eq 75 2 L st σ
theorem bk_75_3 {L : ev_L} {st : List ev_V} {σ : ev_M} : EB 75 3 L st σ = EO 75 [(1, 0, 0, 0, 0), (28, 10, 10, 0, (-161)), (28, 97, 7, 1, 6), (27, 101, 1, 0, 0), (56, 0, 0, 0, 0)] L st σ := EB_eq 75 3 L st σ
theorem bk_75_4 {L : ev_L} {st : List ev_V} {σ : ev_M} : EB 75 4 L st σ = EO 75 [(1, 0, 0, 0, 0), (28, 10, 10, 0, (-161)), (28, 140, 7, 2, 17), (27, 144, 4, 0, 0), (56, 0, 0, 0, 0)] L st σ := EB_eq 75 4 L st σ
theorem bk_75_5 {L : ev_L} {st : List ev_V} {σ : ev_M} : EB 75 5 L st σ = EO 75 [(1, 0, 0, 0, 0), (28, 10, 10, 0, (-161)), (28, 140, 7, 2, 17), (27, 149, 4, 1, 0), (56, 0, 0, 0, 0)] L st σ := EB_eq 75 5 L st σ
theorem bk_75_6 {L : ev_L} {st : List ev_V} {σ : ev_M} : EB 75 6 L st σ = EO 75 [(1, 0, 0, 0, 0), (28, 10, 10, 0, (-161)), (27, 152, 7, 3, 0), (56, 0, 0, 0, 0)] L st σ := EB_eq 75 6 L st σ
theorem bk_75_7 {L : ev_L} {st : List ev_V} {σ : ev_M} : EB 75 7 L st σ = EO 75 [(1, 0, 0, 0, 0), (28, 10, 10, 0, (-161)), (27, 155, 7, 4, 0), (56, 0, 0, 0, 0)] L st σ := EB_eq 75 7 L st σ
theorem bk_75_8 {L : ev_L} {st : List ev_V} {σ : ev_M} : EB 75 8 L st σ = EO 75 [(1, 0, 0, 0, 0), (28, 10, 10, 0, (-161)), (27, 158, 7, 5, 0), (56, 0, 0, 0, 0)] L st σ := EB_eq 75 8 L st σ
theorem bk_75_9 {L : ev_L} {st : List ev_V} {σ : ev_M} : EB 75 9 L st σ = EO 75 [(1, 0, 0, 0, 0), (28, 10, 10, 0, (-161)), (27, 161, 7, 6, 0), (56, 0, 0, 0, 0)] L st σ := EB_eq 75 9 L st σ
theorem bk_75_10 {L : ev_L} {st : List ev_V} {σ : ev_M} : EB 75 10 L st σ = EO 75 [(1, 0, 0, 0, 0), (28, 10, 10, 0, (-161)), (59, 50, 1, 164, 7), (56, 0, 0, 0, 0)] L st σ := EB_eq 75 10 L st σ
theorem bk_75_11 {L : ev_L} {st : List ev_V} {σ : ev_M} : EB 75 11 L st σ = EO 75 [(1, 0, 0, 0, 0), (28, 36, 10, 4, 9), (1, 0, 0, 0, 0), (28, 10, 10, 0, (-161)), (28, 97, 7, 1, 6), (59, 22, 2, 168, 2), (56, 0, 0, 0, 0)] L st σ := EB_eq 75 11 L st σ
theorem bk_75_12 {L : ev_L} {st : List ev_V} {σ : ev_M} : EB 75 12 L st σ = EO 75 [(6, 1, 0, (-3), 0), (56, 0, 0, 0, 0)] L st σ := EB_eq 75 12 L st σ
theorem mm_76 {i0 : Int} {x1 : Int} {x2 : Int} {σ : ev_M} : EM 76 [.inr (.inl i0), .inl x1, .inl x2] σ = EB 76 0 [some (.inr (.inl i0)), some (.inl x1), some (.inl x2)] [] σ := by
  unfold EM ev_go
  exact if_pos (Nat.le_of_ble_eq_true rfl)
theorem bk_76_0 {L : ev_L} {st : List ev_V} {σ : ev_M} : EB 76 0 L st σ = EO 76 [(1, 0, 0, 0, 0), (28, 10, 10, 0, (-161)), (28, 65, 7, 0, 1), (0, 1, 0, 0, 0), (59, 45, 2, 90, 6), (47, 1, 0, 6, 0), (6, 1, 0, (-2), 0), (56, 0, 0, 0, 0)] L st σ := EB_eq 76 0 L st σ
theorem bk_76_1 {L : ev_L} {st : List ev_V} {σ : ev_M} : EB 76 1 L st σ = EO 76 [(0, 2, 0, 0, 0), (54, 2, 0, 0, 0)] L st σ := EB_eq 76 1 L st σ
theorem bk_76_2 {L : ev_L} {st : List ev_V} {σ : ev_M} : EB 76 2 L st σ = EO 76 [(1, 0, 0, 0, 0), (28, 10, 10, 0, (-161)), (28, 65, 7, 0, 1), (28, 172, 6, 2, 1), (0, 1, 0, 0, 0), (32, 0, 0, 0, 0), (56, 0, 0, 0, 0)] L st σ := EB_eq 76 2 L st σ
theorem bk_76_3 {L : ev_L} {st : List ev_V} {σ : ev_M} : EB 76 3 L st σ = EO 76 [(1, 0, 0, 0, 0), (28, 10, 10, 0, (-161)), (28, 65, 7, 0, 1), (28, 175, 6, 3, 2), (0, 1, 0, 0, 0), (32, 0, 0, 0, 0), (56, 0, 0, 0, 0)] L st σ := EB_eq 76 3 L st σ
theorem bk_76_4 {L : ev_L} {st : List ev_V} {σ : ev_M} : EB 76 4 L st σ = EO 76 [(1, 0, 0, 0, 0), (28, 10, 10, 0, (-161)), (28, 65, 7, 0, 1), (28, 178, 6, 4, 3), (0, 1, 0, 0, 0), (32, 0, 0, 0, 0), (56, 0, 0, 0, 0)] L st σ := EB_eq 76 4 L st σ
theorem bk_76_5 {L : ev_L} {st : List ev_V} {σ : ev_M} : EB 76 5 L st σ = EO 76 [(1, 0, 0, 0, 0), (28, 10, 10, 0, (-161)), (28, 65, 7, 0, 1), (28, 93, 6, 5, 4), (0, 1, 0, 0, 0), (32, 0, 0, 0, 0), (56, 0, 0, 0, 0)] L st σ := EB_eq 76 5 L st σ
theorem bk_76_6 {L : ev_L} {st : List ev_V} {σ : ev_M} : EB 76 6 L st σ = EO 76 [(6, 1, 0, (-3), 0), (56, 0, 0, 0, 0)] L st σ := EB_eq 76 6 L st σ
theorem mm_77 {i0 : Int} {x1 : Int} {x2 : Int} {σ : ev_M} : EM 77 [.inr (.inl i0), .inl x1, .inl x2] σ = EB 77 0 [some (.inr (.inl i0)), some (.inl x1), some (.inl x2)] [] σ := by
  unfold EM ev_go
  exact if_pos (Nat.le_of_ble_eq_true rfl)
theorem bk_77_0 {L : ev_L} {st : List ev_V} {σ : ev_M} : EB 77 0 L st σ = EO 77 [(1, 0, 0, 0, 0), (28, 10, 10, 0, (-161)), (28, 97, 7, 1, 6), (0, 1, 0, 0, 0), (59, 6, 2, 108, 1), (47, 1, 0, 6, 0), (6, 1, 0, (-2), 0), (56, 0, 0, 0, 0)] L st σ := EB_eq 77 0 L st σ
theorem bk_77_1 {L : ev_L} {st : List ev_V} {σ : ev_M} : EB 77 1 L st σ = EO 77 [(0, 2, 0, 0, 0), (54, 3, 0, 0, 0)] L st σ := EB_eq 77 1 L st σ
theorem bk_77_2 {L : ev_L} {st : List ev_V} {σ : ev_M} : EB 77 2 L st σ = EO 77 [(1, 0, 0, 0, 0), (28, 10, 10, 0, (-161)), (28, 97, 7, 1, 6), (28, 181, 1, 1, 1), (0, 1, 0, 0, 0), (32, 0, 0, 0, 0), (56, 0, 0, 0, 0)] L st σ := EB_eq 77 2 L st σ
theorem bk_77_3 {L : ev_L} {st : List ev_V} {σ : ev_M} : EB 77 3 L st σ = EO 77 [(1, 0, 0, 0, 0), (28, 10, 10, 0, (-161)), (28, 97, 7, 1, 6), (28, 111, 1, 5, 5), (0, 1, 0, 0, 0), (32, 0, 0, 0, 0), (56, 0, 0, 0, 0)] L st σ := EB_eq 77 3 L st σ
theorem bk_77_4 {L : ev_L} {st : List ev_V} {σ : ev_M} : EB 77 4 L st σ = EO 77 [(1, 0, 0, 0, 0), (28, 36, 10, 4, 9), (1, 0, 0, 0, 0), (28, 10, 10, 0, (-161)), (28, 97, 7, 1, 6), (0, 1, 0, 0, 0), (59, 18, 3, 184, 2), (56, 0, 0, 0, 0)] L st σ := EB_eq 77 4 L st σ
theorem bk_77_5 {L : ev_L} {st : List ev_V} {σ : ev_M} : EB 77 5 L st σ = EO 77 [(1, 0, 0, 0, 0), (28, 10, 10, 0, (-161)), (28, 97, 7, 1, 6), (28, 188, 1, 2, 2), (0, 1, 0, 0, 0), (32, 0, 0, 0, 0), (56, 0, 0, 0, 0)] L st σ := EB_eq 77 5 L st σ
theorem bk_77_6 {L : ev_L} {st : List ev_V} {σ : ev_M} : EB 77 6 L st σ = EO 77 [(1, 0, 0, 0, 0), (28, 10, 10, 0, (-161)), (28, 97, 7, 1, 6), (28, 191, 1, 3, 3), (0, 1, 0, 0, 0), (32, 0, 0, 0, 0), (56, 0, 0, 0, 0)] L st σ := EB_eq 77 6 L st σ
theorem bk_77_7 {L : ev_L} {st : List ev_V} {σ : ev_M} : EB 77 7 L st σ = EO 77 [(1, 0, 0, 0, 0), (28, 10, 10, 0, (-161)), (28, 97, 7, 1, 6), (0, 1, 0, 0, 0), (59, 14, 2, 194, 1), (56, 0, 0, 0, 0)] L st σ := EB_eq 77 7 L st σ
theorem bk_77_8 {L : ev_L} {st : List ev_V} {σ : ev_M} : EB 77 8 L st σ = EO 77 [(1, 0, 0, 0, 0), (28, 10, 10, 0, (-161)), (0, 1, 0, 0, 0), (59, 49, 2, 197, 7), (46, 9, 0, 7, 0), (6, 0, 0, 1, 0), (52, 10, 0, 4, 0)] L st σ := EB_eq 77 8 L st σ
theorem bk_77_9 {L : ev_L} {st : List ev_V} {σ : ev_M} : EB 77 9 L st σ = EO 77 [(6, 0, 0, 0, 0), (53, 10, 0, 0, 0)] L st σ := EB_eq 77 9 L st σ
theorem bk_77_10 {L : ev_L} {st : List ev_V} {σ : ev_M} : EB 77 10 L st σ = EO 77 [(56, 0, 0, 0, 0)] L st σ := EB_eq 77 10 L st σ
theorem bk_77_11 {L : ev_L} {st : List ev_V} {σ : ev_M} : EB 77 11 L st σ = EO 77 [(1, 0, 0, 0, 0), (28, 10, 10, 0, (-161)), (28, 97, 7, 1, 6), (28, 136, 1, 4, 4), (0, 1, 0, 0, 0), (34, 0, 0, 0, 0), (46, 12, 0, 7, 0), (6, 0, 0, 1, 0), (52, 13, 0, 4, 0)] L st σ := EB_eq 77 11 L st σ
theorem bk_77_12 {L : ev_L} {st : List ev_V} {σ : ev_M} : EB 77 12 L st σ = EO 77 [(6, 0, 0, 0, 0), (53, 13, 0, 0, 0)] L st σ := EB_eq 77 12 L st σ
theorem bk_77_13 {L : ev_L} {st : List ev_V} {σ : ev_M} : EB 77 13 L st σ = EO 77 [(56, 0, 0, 0, 0)] L st σ := EB_eq 77 13 L st σ
theorem bk_77_14 {L : ev_L} {st : List ev_V} {σ : ev_M} : EB 77 14 L st σ = EO 77 [(1, 0, 0, 0, 0), (28, 10, 10, 0, (-161)), (28, 97, 7, 1, 6), (0, 1, 0, 0, 0), (59, 15, 2, 200, 1), (56, 0, 0, 0, 0)] L st σ := EB_eq 77 14 L st σ
theorem bk_77_15 {L : ev_L} {st : List ev_V} {σ : ev_M} : EB 77 15 L st σ = EO 77 [(6, 1, 0, (-3), 0), (56, 0, 0, 0, 0)] L st σ := EB_eq 77 15 L st σ
theorem mm_78 {i0 : Int} {x1 : Int} {x2 : Int} {x3 : Int} {σ : ev_M} : EM 78 [.inr (.inl i0), .inl x1, .inl x2, .inl x3] σ = EB 78 0 [some (.inr (.inl i0)), some (.inl x1), some (.inl x2), some (.inl x3), none] [] σ := by
  unfold EM ev_go
  exact if_pos (Nat.le_of_ble_eq_true rfl)
theorem bk_78_0 {L : ev_L} {st : List ev_V} {σ : ev_M} : EB 78 0 L st σ = EO 78 [(1, 0, 0, 0, 0), (28, 10, 10, 0, (-161)), (28, 97, 7, 1, 6), (0, 1, 0, 0, 0), (0, 2, 0, 0, 0), (59, 7, 3, 118, 1), (47, 1, 0, 6, 0), (6, 1, 0, (-2), 0), (56, 0, 0, 0, 0)] L st σ := EB_eq 78 0 L st σ
theorem bk_78_1 {L : ev_L} {st : List ev_V} {σ : ev_M} : EB 78 1 L st σ = EO 78 [(0, 1, 0, 0, 0), (0, 2, 0, 0, 0), (60, 5, 2, 125, 0), (3, 4, 1, 0, 0), (0, 3, 0, 0, 0), (54, 4, 0, 0, 0)] L st σ := EB_eq 78 1 L st σ
theorem bk_78_2 {L : ev_L} {st : List ev_V} {σ : ev_M} : EB 78 2 L st σ = EO 78 [(1, 0, 0, 0, 0), (28, 10, 10, 0, (-161)), (28, 97, 7, 1, 6), (28, 203, 1, 6, 6), (0, 4, 1, 0, 0), (32, 0, 0, 0, 0), (56, 0, 0, 0, 0)] L st σ := EB_eq 78 2 L st σ
theorem bk_78_3 {L : ev_L} {st : List ev_V} {σ : ev_M} : EB 78 3 L st σ = EO 78 [(1, 0, 0, 0, 0), (28, 10, 10, 0, (-161)), (28, 97, 7, 1, 6), (28, 129, 1, 7, 7), (0, 4, 1, 0, 0), (32, 0, 0, 0, 0), (56, 0, 0, 0, 0)] L st σ := EB_eq 78 3 L st σ
theorem bk_78_4 {L : ev_L} {st : List ev_V} {σ : ev_M} : EB 78 4 L st σ = EO 78 [(1, 0, 0, 0, 0), (28, 10, 10, 0, (-161)), (28, 97, 7, 1, 6), (28, 206, 1, 8, 8), (0, 4, 1, 0, 0), (32, 0, 0, 0, 0), (56, 0, 0, 0, 0)] L st σ := EB_eq 78 4 L st σ
theorem bk_78_5 {L : ev_L} {st : List ev_V} {σ : ev_M} : EB 78 5 L st σ = EO 78 [(1, 0, 0, 0, 0), (28, 10, 10, 0, (-161)), (28, 97, 7, 1, 6), (28, 209, 1, 9, 9), (0, 4, 1, 0, 0), (32, 0, 0, 0, 0), (56, 0, 0, 0, 0)] L st σ := EB_eq 78 5 L st σ
theorem bk_78_6 {L : ev_L} {st : List ev_V} {σ : ev_M} : EB 78 6 L st σ = EO 78 [(1, 0, 0, 0, 0), (28, 36, 10, 4, 9), (1, 0, 0, 0, 0), (28, 10, 10, 0, (-161)), (28, 97, 7, 1, 6), (0, 1, 0, 0, 0), (59, 18, 3, 184, 2), (26, 0, 0, 0, 0), (1, 0, 0, 0, 0), (28, 36, 10, 4, 9), (28, 212, 2, 1, 2), (0, 2, 0, 0, 0), (32, 0, 0, 0, 0), (56, 0, 0, 0, 0)] L st σ := EB_eq 78 6 L st σ
theorem bk_78_7 {L : ev_L} {st : List ev_V} {σ : ev_M} : EB 78 7 L st σ = EO 78 [(1, 0, 0, 0, 0), (28, 10, 10, 0, (-161)), (28, 97, 7, 1, 6), (28, 215, 1, 10, 10), (0, 4, 1, 0, 0), (32, 0, 0, 0, 0), (56, 0, 0, 0, 0)] L st σ := EB_eq 78 7 L st σ
theorem bk_78_8 {L : ev_L} {st : List ev_V} {σ : ev_M} : EB 78 8 L st σ = EO 78 [(6, 1, 0, (-3), 0), (56, 0, 0, 0, 0)] L st σ := EB_eq 78 8 L st σ
theorem mm_79 {i0 : Int} {x1 : Int} {σ : ev_M} : EM 79 [.inr (.inl i0), .inl x1] σ = EB 79 0 [some (.inr (.inl i0)), some (.inl x1)] [] σ := by
  unfold EM ev_go
  exact if_pos (Nat.le_of_ble_eq_true rfl)
theorem bk_79_0 {L : ev_L} {st : List ev_V} {σ : ev_M} : EB 79 0 L st σ = EO 79 [(1, 0, 0, 0, 0), (28, 10, 10, 0, (-161)), (28, 97, 7, 1, 6), (0, 1, 0, 0, 0), (59, 6, 2, 108, 1), (47, 1, 0, 6, 0), (6, 1, 0, (-2), 0), (56, 0, 0, 0, 0)] L st σ := EB_eq 79 0 L st σ
theorem bk_79_1 {L : ev_L} {st : List ev_V} {σ : ev_M} : EB 79 1 L st σ = EO 79 [(1, 0, 0, 0, 0), (28, 36, 10, 4, 9), (1, 0, 0, 0, 0), (28, 10, 10, 0, (-161)), (28, 97, 7, 1, 6), (0, 1, 0, 0, 0), (59, 23, 3, 218, 2), (56, 0, 0, 0, 0)] L st σ := EB_eq 79 1 L st σ
theorem mm_80 {i0 : Int} {x1 : Int} {σ : ev_M} : EM 80 [.inr (.inl i0), .inl x1] σ = EB 80 0 [some (.inr (.inl i0)), some (.inl x1)] [] σ := by
  unfold EM ev_go
  exact if_pos (Nat.le_of_ble_eq_true rfl)
theorem bk_80_0 {L : ev_L} {st : List ev_V} {σ : ev_M} : EB 80 0 L st σ = EO 80 [(0, 1, 0, 0, 0), (6, 0, 0, 1, 0), (6, 1, 0, 50, 0), (60, 104, 3, 61, 0), (47, 1, 0, 6, 0), (6, 1, 0, (-3), 0), (56, 0, 0, 0, 0)] L st σ := EB_eq 80 0 L st σ
theorem bk_80_1 {L : ev_L} {st : List ev_V} {σ : ev_M} : EB 80 1 L st σ = EO 80 [(1, 0, 0, 0, 0), (28, 10, 10, 0, (-161)), (27, 152, 7, 3, 0), (0, 1, 0, 0, 0), (10, 0, 0, 0, 0), (6, 2, 0, 1000, 0), (45, 2, 0, 6, 0), (6, 1, 0, (-5), 0), (56, 0, 0, 0, 0)] L st σ := EB_eq 80 1 L st σ
theorem bk_80_2 {L : ev_L} {st : List ev_V} {σ : ev_M} : EB 80 2 L st σ = EO 80 [(1, 0, 0, 0, 0), (28, 22, 10, 2, 1), (1, 0, 0, 0, 0), (28, 10, 10, 0, (-161)), (59, 26, 2, 75, 3), (1, 0, 0, 0, 0), (28, 10, 10, 0, (-161)), (24, 0, 0, 0, 0), (27, 152, 7, 3, 0), (0, 1, 0, 0, 0), (10, 0, 0, 0, 0), (30, 152, 7, 3, 0), (1, 0, 0, 0, 0), (28, 10, 10, 0, (-161)), (28, 97, 7, 1, 6), (0, 1, 0, 0, 0), (59, 13, 2, 221, 1), (1, 0, 0, 0, 0), (28, 10, 10, 0, (-161)), (27, 152, 7, 3, 0), (56, 0, 0, 0, 0)] L st σ := EB_eq 80 2 L st σ
theorem mm_81 {i0 : Int} {x1 : Int} {σ : ev_M} : EM 81 [.inr (.inl i0), .inl x1] σ = EB 81 0 [some (.inr (.inl i0)), some (.inl x1)] [] σ := by
  unfold EM ev_go
  exact if_pos (Nat.le_of_ble_eq_true rfl)
theorem bk_81_0 {L : ev_L} {st : List ev_V} {σ : ev_M} : EB 81 0 L st σ = EO 81 [(1, 0, 0, 0, 0), (28, 10, 10, 0, (-161)), (28, 97, 7, 1, 6), (0, 1, 0, 0, 0), (59, 6, 2, 108, 1), (47, 1, 0, 6, 0), (6, 1, 0, (-2), 0), (56, 0, 0, 0, 0)] L st σ := EB_eq 81 0 L st σ
theorem bk_81_1 {L : ev_L} {st : List ev_V} {σ : ev_M} : EB 81 1 L st σ = EO 81 [(1, 0, 0, 0, 0), (28, 22, 10, 2, 1), (1, 0, 0, 0, 0), (28, 10, 10, 0, (-161)), (59, 26, 2, 75, 3), (1, 0, 0, 0, 0), (28, 10, 10, 0, (-161)), (0, 1, 0, 0, 0), (1, 0, 0, 0, 0), (28, 36, 10, 4, 9), (1, 0, 0, 0, 0), (28, 10, 10, 0, (-161)), (28, 97, 7, 1, 6), (0, 1, 0, 0, 0), (59, 18, 3, 184, 2), (59, 51, 3, 225, 7), (1, 0, 0, 0, 0), (28, 10, 10, 0, (-161)), (28, 97, 7, 1, 6), (28, 188, 1, 2, 2), (0, 1, 0, 0, 0), (32, 0, 0, 0, 0), (56, 0, 0, 0, 0)] L st σ := EB_eq 81 1 L st σ
theorem mm_82 {i0 : Int} {x1 : Int} {x2 : Int} {σ : ev_M} : EM 82 [.inr (.inl i0), .inl x1, .inl x2] σ = EB 82 0 [some (.inr (.inl i0)), some (.inl x1), some (.inl x2)] [] σ := by
  unfold EM ev_go
  exact if_pos (Nat.le_of_ble_eq_true rfl)
theorem bk_82_0 {L : ev_L} {st : List ev_V} {σ : ev_M} : EB 82 0 L st σ = EO 82 [(1, 0, 0, 0, 0), (28, 10, 10, 0, (-161)), (28, 65, 7, 0, 1), (0, 1, 0, 0, 0), (59, 44, 2, 79, 6), (47, 1, 0, 6, 0), (6, 1, 0, (-2), 0), (56, 0, 0, 0, 0)] L st σ := EB_eq 82 0 L st σ
theorem bk_82_1 {L : ev_L} {st : List ev_V} {σ : ev_M} : EB 82 1 L st σ = EO 82 [(0, 2, 0, 0, 0), (6, 0, 0, 1, 0), (6, 2, 0, 200, 0), (60, 104, 3, 61, 0), (47, 2, 0, 6, 0), (6, 1, 0, (-3), 0), (56, 0, 0, 0, 0)] L st σ := EB_eq 82 1 L st σ
theorem bk_82_2 {L : ev_L} {st : List ev_V} {σ : ev_M} : EB 82 2 L st σ = EO 82 [(1, 0, 0, 0, 0), (28, 22, 10, 2, 1), (1, 0, 0, 0, 0), (28, 10, 10, 0, (-161)), (59, 26, 2, 75, 3), (1, 0, 0, 0, 0), (28, 50, 10, 6, 16), (1, 0, 0, 0, 0), (28, 10, 10, 0, (-161)), (1, 0, 0, 0, 0), (28, 43, 10, 5, 12), (1, 0, 0, 0, 0), (28, 36, 10, 4, 9), (0, 1, 0, 0, 0), (0, 2, 0, 0, 0), (59, 57, 6, 228, 8), (1, 0, 0, 0, 0), (28, 50, 10, 6, 16), (27, 232, 8, 0, 0), (56, 0, 0, 0, 0)] L st σ := EB_eq 82 2 L st σ
theorem mm_83 {i0 : Int} {x1 : Int} {x2 : Int} {x3 : Int} {σ : ev_M} : EM 83 [.inr (.inl i0), .inl x1, .inl x2, .inl x3] σ = EB 83 0 [some (.inr (.inl i0)), some (.inl x1), some (.inl x2), some (.inl x3)] [] σ := by
  unfold EM ev_go
  exact if_pos (Nat.le_of_ble_eq_true rfl)
theorem bk_83_0 {L : ev_L} {st : List ev_V} {σ : ev_M} : EB 83 0 L st σ = EO 83 [(1, 0, 0, 0, 0), (28, 10, 10, 0, (-161)), (28, 65, 7, 0, 1), (0, 1, 0, 0, 0), (59, 44, 2, 79, 6), (47, 1, 0, 6, 0), (6, 1, 0, (-2), 0), (56, 0, 0, 0, 0)] L st σ := EB_eq 83 0 L st σ
theorem bk_83_1 {L : ev_L} {st : List ev_V} {σ : ev_M} : EB 83 1 L st σ = EO 83 [(0, 2, 0, 0, 0), (6, 0, 0, 1, 0), (6, 2, 0, 200, 0), (60, 104, 3, 61, 0), (46, 2, 0, 7, 0), (0, 3, 0, 0, 0), (49, 3, 0, 6, 0), (53, 2, 0, 0, 0)] L st σ := EB_eq 83 1 L st σ
theorem bk_83_2 {L : ev_L} {st : List ev_V} {σ : ev_M} : EB 83 2 L st σ = EO 83 [(6, 1, 0, (-3), 0), (56, 0, 0, 0, 0)] L st σ := EB_eq 83 2 L st σ
theorem bk_83_3 {L : ev_L} {st : List ev_V} {σ : ev_M} : EB 83 3 L st σ = EO 83 [(1, 0, 0, 0, 0), (28, 16, 10, 1, (-138)), (1, 0, 0, 0, 0), (28, 10, 10, 0, (-161)), (59, 56, 2, 233, 7), (1, 0, 0, 0, 0), (28, 50, 10, 6, 16), (1, 0, 0, 0, 0), (28, 16, 10, 1, (-138)), (1, 0, 0, 0, 0), (28, 43, 10, 5, 12), (1, 0, 0, 0, 0), (28, 36, 10, 4, 9), (0, 1, 0, 0, 0), (0, 2, 0, 0, 0), (59, 57, 6, 228, 8), (0, 3, 0, 0, 0), (1, 0, 0, 0, 0), (28, 50, 10, 6, 16), (27, 232, 8, 0, 0), (43, 4, 0, 15, 0), (1, 0, 0, 0, 0), (28, 50, 10, 6, 16), (28, 236, 8, 1, 1), (0, 3, 0, 0, 0), (32, 0, 0, 0, 0), (52, 5, 0, 4, 0)] L st σ := EB_eq 83 3 L st σ
theorem bk_83_4 {L : ev_L} {st : List ev_V} {σ : ev_M} : EB 83 4 L st σ = EO 83 [(6, 0, 0, (-1), 0), (53, 5, 0, 0, 0)] L st σ := EB_eq 83 4 L st σ
theorem bk_83_5 {L : ev_L} {st : List ev_V} {σ : ev_M} : EB 83 5 L st σ = EO 83 [(56, 0, 0, 0, 0)] L st σ := EB_eq 83 5 L st σ
theorem mm_84 {i0 : Int} {x1 : Int} {σ : ev_M} : EM 84 [.inr (.inl i0), .inl x1] σ = EB 84 0 [some (.inr (.inl i0)), some (.inl x1)] [] σ := by
  unfold EM ev_go
  exact if_pos (Nat.le_of_ble_eq_true rfl)
theorem bk_84_0 {L : ev_L} {st : List ev_V} {σ : ev_M} : EB 84 0 L st σ = EO 84 [(1, 0, 0, 0, 0), (28, 10, 10, 0, (-161)), (28, 97, 7, 1, 6), (0, 1, 0, 0, 0), (59, 6, 2, 108, 1), (47, 1, 0, 6, 0), (6, 1, 0, (-2), 0), (56, 0, 0, 0, 0)] L st σ := EB_eq 84 0 L st σ
theorem bk_84_1 {L : ev_L} {st : List ev_V} {σ : ev_M} : EB 84 1 L st σ = EO 84 [(1, 0, 0, 0, 0), (28, 36, 10, 4, 9), (1, 0, 0, 0, 0), (28, 10, 10, 0, (-161)), (28, 97, 7, 1, 6), (0, 1, 0, 0, 0), (59, 24, 3, 239, 2), (56, 0, 0, 0, 0)] L st σ := EB_eq 84 1 L st σ
theorem mm_85 {i0 : Int} {x1 : Int} {x2 : Int} {x3 : Int} {σ : ev_M} : EM 85 [.inr (.inl i0), .inl x1, .inl x2, .inl x3] σ = EB 85 0 [some (.inr (.inl i0)), some (.inl x1), some (.inl x2), some (.inl x3)] [] σ := by
  unfold EM ev_go
  exact if_pos (Nat.le_of_ble_eq_true rfl)
theorem bk_85_0 {L : ev_L} {st : List ev_V} {σ : ev_M} : EB 85 0 L st σ = EO 85 [(1, 0, 0, 0, 0), (28, 10, 10, 0, (-161)), (28, 65, 7, 0, 1), (0, 1, 0, 0, 0), (59, 44, 2, 79, 6), (46, 1, 0, 17, 0), (1, 0, 0, 0, 0), (28, 10, 10, 0, (-161)), (28, 65, 7, 0, 1), (0, 2, 0, 0, 0), (59, 44, 2, 79, 6), (47, 2, 0, 6, 0), (53, 1, 0, 0, 0)] L st σ := EB_eq 85 0 L st σ
theorem bk_85_1 {L : ev_L} {st : List ev_V} {σ : ev_M} : EB 85 1 L st σ = EO 85 [(6, 1, 0, (-2), 0), (56, 0, 0, 0, 0)] L st σ := EB_eq 85 1 L st σ
theorem bk_85_2 {L : ev_L} {st : List ev_V} {σ : ev_M} : EB 85 2 L st σ = EO 85 [(0, 3, 0, 0, 0), (6, 0, 0, 1, 0), (6, 1, 0, 60, 0), (60, 104, 3, 61, 0), (47, 3, 0, 6, 0), (6, 1, 0, (-3), 0), (56, 0, 0, 0, 0)] L st σ := EB_eq 85 2 L st σ
theorem bk_85_3 {L : ev_L} {st : List ev_V} {σ : ev_M} : EB 85 3 L st σ = EO 85 [(1, 0, 0, 0, 0), (28, 43, 10, 5, 12), (1, 0, 0, 0, 0), (28, 10, 10, 0, (-161)), (0, 1, 0, 0, 0), (0, 3, 0, 0, 0), (6, 0, 0, (-1), 0), (59, 62, 5, 242, 9), (1, 0, 0, 0, 0), (28, 43, 10, 5, 12), (0, 2, 0, 0, 0), (59, 61, 2, 246, 9), (46, 4, 0, 15, 0), (1, 0, 0, 0, 0), (28, 43, 10, 5, 12), (28, 249, 9, 0, 1), (0, 2, 0, 0, 0), (32, 0, 0, 0, 0), (52, 5, 0, 4, 0)] L st σ := EB_eq 85 3 L st σ
theorem bk_85_4 {L : ev_L} {st : List ev_V} {σ : ev_M} : EB 85 4 L st σ = EO 85 [(6, 0, 0, (-1), 0), (53, 5, 0, 0, 0)] L st σ := EB_eq 85 4 L st σ
theorem bk_85_5 {L : ev_L} {st : List ev_V} {σ : ev_M} : EB 85 5 L st σ = EO 85 [(56, 0, 0, 0, 0)] L st σ := EB_eq 85 5 L st σ
theorem mm_86 {i0 : Int} {x1 : Int} {x2 : Int} {x3 : Int} {x4 : Int} {σ : ev_M} : EM 86 [.inr (.inl i0), .inl x1, .inl x2, .inl x3, .inl x4] σ = EB 86 0 [some (.inr (.inl i0)), some (.inl x1), some (.inl x2), some (.inl x3), some (.inl x4), none] [] σ := by
  unfold EM ev_go
  exact if_pos (Nat.le_of_ble_eq_true rfl)
theorem bk_86_0 {L : ev_L} {st : List ev_V} {σ : ev_M} : EB 86 0 L st σ = EO 86 [(1, 0, 0, 0, 0), (28, 10, 10, 0, (-161)), (28, 65, 7, 0, 1), (0, 1, 0, 0, 0), (59, 44, 2, 79, 6), (46, 1, 0, 17, 0), (1, 0, 0, 0, 0), (28, 10, 10, 0, (-161)), (28, 65, 7, 0, 1), (0, 2, 0, 0, 0), (59, 44, 2, 79, 6), (47, 2, 0, 6, 0), (53, 1, 0, 0, 0)] L st σ := EB_eq 86 0 L st σ
theorem bk_86_1 {L : ev_L} {st : List ev_V} {σ : ev_M} : EB 86 1 L st σ = EO 86 [(6, 1, 0, (-2), 0), (56, 0, 0, 0, 0)] L st σ := EB_eq 86 1 L st σ
theorem bk_86_2 {L : ev_L} {st : List ev_V} {σ : ev_M} : EB 86 2 L st σ = EO 86 [(0, 3, 0, 0, 0), (6, 0, 0, 1, 0), (6, 1, 0, 60, 0), (60, 104, 3, 61, 0), (46, 3, 0, 8, 0), (0, 4, 1, 0, 0), (49, 4, 0, 6, 0), (53, 3, 0, 0, 0)] L st σ := EB_eq 86 2 L st σ
theorem bk_86_3 {L : ev_L} {st : List ev_V} {σ : ev_M} : EB 86 3 L st σ = EO 86 [(6, 1, 0, (-3), 0), (56, 0, 0, 0, 0)] L st σ := EB_eq 86 3 L st σ
theorem bk_86_4 {L : ev_L} {st : List ev_V} {σ : ev_M} : EB 86 4 L st σ = EO 86 [(1, 0, 0, 0, 0), (28, 43, 10, 5, 12), (1, 0, 0, 0, 0), (28, 10, 10, 0, (-161)), (0, 1, 0, 0, 0), (0, 3, 0, 0, 0), (6, 0, 0, (-1), 0), (59, 62, 5, 242, 9), (1, 0, 0, 0, 0), (28, 43, 10, 5, 12), (1, 0, 0, 0, 0), (28, 10, 10, 0, (-161)), (0, 1, 0, 0, 0), (0, 2, 0, 0, 0), (0, 3, 0, 0, 0), (59, 64, 5, 252, 9), (3, 5, 1, 0, 0), (0, 4, 1, 0, 0), (0, 5, 1, 0, 0), (43, 5, 0, 21, 0), (1, 0, 0, 0, 0), (28, 43, 10, 5, 12), (28, 256, 9, 2, 3), (0, 5, 1, 0, 0), (6, 0, 0, 1, 0), (11, 0, 0, 0, 0), (0, 4, 1, 0, 0), (11, 0, 0, 0, 0), (32, 0, 0, 0, 0), (52, 6, 0, 4, 0)] L st σ := EB_eq 86 4 L st σ
theorem bk_86_5 {L : ev_L} {st : List ev_V} {σ : ev_M} : EB 86 5 L st σ = EO 86 [(6, 0, 0, (-1), 0), (53, 6, 0, 0, 0)] L st σ := EB_eq 86 5 L st σ
theorem bk_86_6 {L : ev_L} {st : List ev_V} {σ : ev_M} : EB 86 6 L st σ = EO 86 [(56, 0, 0, 0, 0)] L st σ := EB_eq 86 6 L st σ
theorem mm_87 {i0 : Int} {x1 : Int} {x2 : Int} {σ : ev_M} : EM 87 [.inr (.inl i0), .inl x1, .inl x2] σ = EB 87 0 [some (.inr (.inl i0)), some (.inl x1), some (.inl x2), none, none] [] σ := by
  unfold EM ev_go
  exact if_pos (Nat.le_of_ble_eq_true rfl)
theorem bk_87_0 {L : ev_L} {st : List ev_V} {σ : ev_M} : EB 87 0 L st σ = EO 87 [(1, 0, 0, 0, 0), (28, 10, 10, 0, (-161)), (28, 97, 7, 1, 6), (0, 1, 0, 0, 0), (59, 6, 2, 108, 1), (47, 1, 0, 6, 0), (6, 1, 0, (-2), 0), (56, 0, 0, 0, 0)] L st σ := EB_eq 87 0 L st σ
theorem bk_87_1 {L : ev_L} {st : List ev_V} {σ : ev_M} : EB 87 1 L st σ = EO 87 [(0, 2, 0, 0, 0), (6, 0, 0, 1, 0), (6, 1, 0, 60, 0), (60, 104, 3, 61, 0), (47, 2, 0, 6, 0), (6, 1, 0, (-3), 0), (56, 0, 0, 0, 0)] L st σ := EB_eq 87 1 L st σ
theorem bk_87_2 {L : ev_L} {st : List ev_V} {σ : ev_M} : EB 87 2 L st σ = EO 87 [(1, 0, 0, 0, 0), (28, 10, 10, 0, (-161)), (28, 97, 7, 1, 6), (28, 181, 1, 1, 1), (0, 1, 0, 0, 0), (32, 0, 0, 0, 0), (3, 3, 0, 0, 0), (1, 0, 0, 0, 0), (28, 10, 10, 0, (-161)), (28, 65, 7, 0, 1), (28, 175, 6, 3, 2), (0, 3, 0, 0, 0), (32, 0, 0, 0, 0), (3, 4, 1, 0, 0), (1, 0, 0, 0, 0), (28, 43, 10, 5, 12), (1, 0, 0, 0, 0), (28, 10, 10, 0, (-161)), (1, 0, 0, 0, 0), (28, 10, 10, 0, (-161)), (28, 65, 7, 0, 1), (28, 172, 6, 2, 1), (0, 3, 0, 0, 0), (32, 0, 0, 0, 0), (0, 2, 0, 0, 0), (0, 3, 0, 0, 0), (59, 62, 5, 242, 9), (1, 0, 0, 0, 0), (28, 43, 10, 5, 12), (0, 4, 1, 0, 0), (59, 61, 2, 246, 9), (46, 3, 0, 33, 0), (6, 2, 0, 1000, 0), (1, 0, 0, 0, 0), (28, 43, 10, 5, 12), (28, 249, 9, 0, 1), (0, 4, 1, 0, 0), (32, 0, 0, 0, 0), (10, 0, 0, 0, 0), (1, 0, 0, 0, 0), (28, 10, 10, 0, (-161)), (28, 65, 7, 0, 1), (28, 178, 6, 4, 3), (0, 3, 0, 0, 0), (32, 0, 0, 0, 0), (11, 0, 0, 0, 0), (52, 4, 0, 4, 0)] L st σ := EB_eq 87 2 L st σ
theorem bk_87_3 {L : ev_L} {st : List ev_V} {σ : ev_M} : EB 87 3 L st σ = EO 87 [(6, 0, 0, (-1), 0), (53, 4, 0, 0, 0)] L st σ := EB_eq 87 3 L st σ
theorem bk_87_4 {L : ev_L} {st : List ev_V} {σ : ev_M} : EB 87 4 L st σ = EO 87 [(56, 0, 0, 0, 0)] L st σ := EB_eq 87 4 L st σ
theorem mm_88 {i0 : Int} {x1 : Int} {x2 : Int} {σ : ev_M} : EM 88 [.inr (.inl i0), .inl x1, .inl x2] σ = EB 88 0 [some (.inr (.inl i0)), some (.inl x1), some (.inl x2), none] [] σ := by
  unfold EM ev_go
  exact if_pos (Nat.le_of_ble_eq_true rfl)
theorem bk_88_0 {L : ev_L} {st : List ev_V} {σ : ev_M} : EB 88 0 L st σ = EO 88 [(1, 0, 0, 0, 0), (28, 10, 10, 0, (-161)), (28, 65, 7, 0, 1), (0, 1, 0, 0, 0), (59, 44, 2, 79, 6), (46, 1, 0, 17, 0), (1, 0, 0, 0, 0), (28, 10, 10, 0, (-161)), (28, 65, 7, 0, 1), (0, 2, 0, 0, 0), (59, 44, 2, 79, 6), (47, 2, 0, 6, 0), (53, 1, 0, 0, 0)] L st σ := EB_eq 88 0 L st σ
theorem bk_88_1 {L : ev_L} {st : List ev_V} {σ : ev_M} : EB 88 1 L st σ = EO 88 [(6, 1, 0, (-2), 0), (56, 0, 0, 0, 0)] L st σ := EB_eq 88 1 L st σ
theorem bk_88_2 {L : ev_L} {st : List ev_V} {σ : ev_M} : EB 88 2 L st σ = EO 88 [(0, 1, 0, 0, 0), (0, 2, 0, 0, 0), (41, 3, 0, 6, 0), (6, 1, 0, (-4), 0), (56, 0, 0, 0, 0)] L st σ := EB_eq 88 2 L st σ
theorem bk_88_3 {L : ev_L} {st : List ev_V} {σ : ev_M} : EB 88 3 L st σ = EO 88 [(1, 0, 0, 0, 0), (28, 43, 10, 5, 12), (1, 0, 0, 0, 0), (28, 10, 10, 0, (-161)), (0, 1, 0, 0, 0), (0, 2, 0, 0, 0), (59, 66, 4, 259, 9), (3, 3, 0, 0, 0), (0, 3, 0, 0, 0), (51, 4, 0, 7, 0), (0, 3, 0, 0, 0), (52, 5, 0, 4, 0)] L st σ := EB_eq 88 3 L st σ
theorem bk_88_4 {L : ev_L} {st : List ev_V} {σ : ev_M} : EB 88 4 L st σ = EO 88 [(6, 0, 0, (-1), 0), (53, 5, 0, 0, 0)] L st σ := EB_eq 88 4 L st σ
theorem bk_88_5 {L : ev_L} {st : List ev_V} {σ : ev_M} : EB 88 5 L st σ = EO 88 [(56, 0, 0, 0, 0)] L st σ := EB_eq 88 5 L st σ
theorem mm_89 {i0 : Int} {x1 : Int} {x2 : Int} {x3 : Int} {x4 : Int} {x5 : Int} {σ : ev_M} : EM 89 [.inr (.inl i0), .inl x1, .inl x2, .inl x3, .inl x4, .inl x5] σ = EB 89 0 [some (.inr (.inl i0)), some (.inl x1), some (.inl x2), some (.inl x3), some (.inl x4), some (.inl x5)] [] σ := by
  unfold EM ev_go
  exact if_pos (Nat.le_of_ble_eq_true rfl)
theorem bk_89_0 {L : ev_L} {st : List ev_V} {σ : ev_M} : EB 89 0 L st σ = EO 89 [(0, 1, 0, 0, 0), (6, 0, 0, 0, 0), (6, 2, 0, 999, 0), (60, 104, 3, 61, 0), (46, 1, 0, 33, 0), (0, 2, 0, 0, 0), (60, 105, 1, 263, 0), (46, 1, 0, 26, 0), (0, 3, 0, 0, 0), (60, 105, 1, 263, 0), (46, 1, 0, 19, 0), (0, 4, 1, 0, 0), (60, 105, 1, 263, 0), (46, 1, 0, 11, 0), (0, 5, 1, 0, 0), (60, 105, 1, 263, 0), (47, 2, 0, 6, 0), (53, 1, 0, 0, 0)] L st σ := EB_eq 89 0 L st σ
theorem bk_89_1 {L : ev_L} {st : List ev_V} {σ : ev_M} : EB 89 1 L st σ = EO 89 [(6, 1, 0, (-3), 0), (56, 0, 0, 0, 0)] L st σ := EB_eq 89 1 L st σ
theorem bk_89_2 {L : ev_L} {st : List ev_V} {σ : ev_M} : EB 89 2 L st σ = EO 89 [(1, 0, 0, 0, 0), (28, 10, 10, 0, (-161)), (28, 140, 7, 2, 17), (27, 149, 4, 1, 0), (6, 0, 0, 3, 0), (42, 3, 0, 6, 0), (6, 1, 0, (-5), 0), (56, 0, 0, 0, 0)] L st σ := EB_eq 89 2 L st σ
theorem bk_89_3 {L : ev_L} {st : List ev_V} {σ : ev_M} : EB 89 3 L st σ = EO 89 [(1, 0, 0, 0, 0), (28, 22, 10, 2, 1), (1, 0, 0, 0, 0), (28, 10, 10, 0, (-161)), (59, 26, 2, 75, 3), (1, 0, 0, 0, 0), (28, 10, 10, 0, (-161)), (28, 140, 7, 2, 17), (0, 1, 0, 0, 0), (0, 2, 0, 0, 0), (0, 3, 0, 0, 0), (0, 4, 1, 0, 0), (0, 5, 1, 0, 0), (59, 31, 6, 266, 4), (56, 0, 0, 0, 0)] L st σ := EB_eq 89 3 L st σ
theorem mm_90 {i0 : Int} {x1 : Int} {x2 : Int} {x3 : Int} {σ : ev_M} : EM 90 [.inr (.inl i0), .inl x1, .inl x2, .inl x3] σ = EB 90 0 [some (.inr (.inl i0)), some (.inl x1), some (.inl x2), some (.inl x3)] [] σ := by
  unfold EM ev_go
  exact if_pos (Nat.le_of_ble_eq_true rfl)
theorem bk_90_0 {L : ev_L} {st : List ev_V} {σ : ev_M} : EB 90 0 L st σ = EO 90 [(1, 0, 0, 0, 0), (28, 10, 10, 0, (-161)), (28, 97, 7, 1, 6), (0, 1, 0, 0, 0), (0, 2, 0, 0, 0), (59, 7, 3, 118, 1), (47, 1, 0, 6, 0), (6, 1, 0, (-2), 0), (56, 0, 0, 0, 0)] L st σ := EB_eq 90 0 L st σ
theorem bk_90_1 {L : ev_L} {st : List ev_V} {σ : ev_M} : EB 90 1 L st σ = EO 90 [(0, 3, 0, 0, 0), (6, 0, 0, 1, 0), (6, 1, 0, 9, 0), (60, 104, 3, 61, 0), (47, 2, 0, 6, 0), (6, 1, 0, (-3), 0), (56, 0, 0, 0, 0)] L st σ := EB_eq 90 1 L st σ
theorem bk_90_2 {L : ev_L} {st : List ev_V} {σ : ev_M} : EB 90 2 L st σ = EO 90 [(1, 0, 0, 0, 0), (28, 10, 10, 0, (-161)), (28, 140, 7, 2, 17), (27, 144, 4, 0, 0), (6, 1, 0, 8, 0), (42, 3, 0, 6, 0), (6, 1, 0, (-5), 0), (56, 0, 0, 0, 0)] L st σ := EB_eq 90 2 L st σ
theorem bk_90_3 {L : ev_L} {st : List ev_V} {σ : ev_M} : EB 90 3 L st σ = EO 90 [(1, 0, 0, 0, 0), (28, 22, 10, 2, 1), (1, 0, 0, 0, 0), (28, 10, 10, 0, (-161)), (59, 26, 2, 75, 3), (1, 0, 0, 0, 0), (28, 10, 10, 0, (-161)), (28, 140, 7, 2, 17), (0, 1, 0, 0, 0), (0, 2, 0, 0, 0), (0, 3, 0, 0, 0), (59, 32, 4, 270, 4), (56, 0, 0, 0, 0)] L st σ := EB_eq 90 3 L st σ
theorem mm_91 {i0 : Int} {σ : ev_M} : EM 91 [.inr (.inl i0)] σ = EB 91 0 [some (.inr (.inl i0)), none] [] σ := by
  unfold EM ev_go
  exact if_pos (Nat.le_of_ble_eq_true rfl)
theorem bk_91_0 {L : ev_L} {st : List ev_V} {σ : ev_M} : EB 91 0 L st σ = EO 91 [(1, 0, 0, 0, 0), (28, 22, 10, 2, 1), (1, 0, 0, 0, 0), (28, 10, 10, 0, (-161)), (59, 26, 2, 75, 3), (1, 0, 0, 0, 0), (28, 10, 10, 0, (-161)), (28, 140, 7, 2, 17), (27, 144, 4, 0, 0), (3, 1, 0, 0, 0), (1, 0, 0, 0, 0), (28, 10, 10, 0, (-161)), (28, 140, 7, 2, 17), (6, 0, 0, 0, 0), (30, 144, 4, 0, 0), (0, 1, 0, 0, 0), (56, 0, 0, 0, 0)] L st σ := EB_eq 91 0 L st σ
theorem mm_92 {i0 : Int} {x1 : Int} {x2 : Int} {σ : ev_M} : EM 92 [.inr (.inl i0), .inl x1, .inl x2] σ = EB 92 0 [some (.inr (.inl i0)), some (.inl x1), some (.inl x2)] [] σ := by
  unfold EM ev_go
  exact if_pos (Nat.le_of_ble_eq_true rfl)
theorem bk_92_0 {L : ev_L} {st : List ev_V} {σ : ev_M} : EB 92 0 L st σ = EO 92 [(1, 0, 0, 0, 0), (28, 10, 10, 0, (-161)), (28, 140, 7, 2, 17), (0, 1, 0, 0, 0), (59, 29, 2, 273, 4), (47, 1, 0, 6, 0), (6, 1, 0, (-2), 0), (56, 0, 0, 0, 0)] L st σ := EB_eq 92 0 L st σ
theorem bk_92_1 {L : ev_L} {st : List ev_V} {σ : ev_M} : EB 92 1 L st σ = EO 92 [(0, 2, 0, 0, 0), (54, 5, 0, 0, 0)] L st σ := EB_eq 92 1 L st σ
theorem bk_92_2 {L : ev_L} {st : List ev_V} {σ : ev_M} : EB 92 2 L st σ = EO 92 [(1, 0, 0, 0, 0), (28, 10, 10, 0, (-161)), (28, 140, 7, 2, 17), (28, 276, 4, 2, 1), (0, 1, 0, 0, 0), (32, 0, 0, 0, 0), (56, 0, 0, 0, 0)] L st σ := EB_eq 92 2 L st σ
theorem bk_92_3 {L : ev_L} {st : List ev_V} {σ : ev_M} : EB 92 3 L st σ = EO 92 [(1, 0, 0, 0, 0), (28, 10, 10, 0, (-161)), (28, 140, 7, 2, 17), (28, 277, 4, 3, 2), (0, 1, 0, 0, 0), (32, 0, 0, 0, 0), (56, 0, 0, 0, 0)] L st σ := EB_eq 92 3 L st σ
theorem bk_92_4 {L : ev_L} {st : List ev_V} {σ : ev_M} : EB 92 4 L st σ = EO 92 [(1, 0, 0, 0, 0), (28, 10, 10, 0, (-161)), (28, 140, 7, 2, 17), (28, 280, 4, 4, 3), (0, 1, 0, 0, 0), (32, 0, 0, 0, 0), (56, 0, 0, 0, 0)] L st σ := EB_eq 92 4 L st σ
theorem bk_92_5 {L : ev_L} {st : List ev_V} {σ : ev_M} : EB 92 5 L st σ = EO 92 [(1, 0, 0, 0, 0), (28, 57, 10, 7, 18), (1, 0, 0, 0, 0), (28, 10, 10, 0, (-161)), (59, 0, 2, 283, 0), (1, 0, 0, 0, 0), (28, 57, 10, 7, 18), (28, 286, 0, 1, 1), (0, 1, 0, 0, 0), (32, 0, 0, 0, 0), (56, 0, 0, 0, 0)] L st σ := EB_eq 92 5 L st σ
theorem bk_92_6 {L : ev_L} {st : List ev_V} {σ : ev_M} : EB 92 6 L st σ = EO 92 [(6, 1, 0, (-3), 0), (56, 0, 0, 0, 0)] L st σ := EB_eq 92 6 L st σ
theorem mm_93 {i0 : Int} {x1 : Int} {x2 : Int} {σ : ev_M} : EM 93 [.inr (.inl i0), .inl x1, .inl x2] σ = EB 93 0 [some (.inr (.inl i0)), some (.inl x1), some (.inl x2)] [] σ := by
  unfold EM ev_go
  exact if_pos (Nat.le_of_ble_eq_true rfl)
theorem bk_93_0 {L : ev_L} {st : List ev_V} {σ : ev_M} : EB 93 0 L st σ = EO 93 [(1, 0, 0, 0, 0), (28, 10, 10, 0, (-161)), (28, 140, 7, 2, 17), (0, 1, 0, 0, 0), (59, 30, 2, 289, 4), (47, 1, 0, 6, 0), (6, 1, 0, (-2), 0), (56, 0, 0, 0, 0)] L st σ := EB_eq 93 0 L st σ
theorem bk_93_1 {L : ev_L} {st : List ev_V} {σ : ev_M} : EB 93 1 L st σ = EO 93 [(0, 2, 0, 0, 0), (6, 0, 0, 1, 0), (6, 0, 0, 4, 0), (60, 104, 3, 61, 0), (46, 2, 0, 22, 0), (1, 0, 0, 0, 0), (28, 10, 10, 0, (-161)), (28, 140, 7, 2, 17), (28, 292, 4, 6, 5), (0, 1, 0, 0, 0), (6, 0, 0, 4, 0), (12, 0, 0, 0, 0), (0, 2, 0, 0, 0), (10, 0, 0, 0, 0), (6, 0, 0, 1, 0), (11, 0, 0, 0, 0), (32, 0, 0, 0, 0), (56, 0, 0, 0, 0)] L st σ := EB_eq 93 1 L st σ
theorem bk_93_2 {L : ev_L} {st : List ev_V} {σ : ev_M} : EB 93 2 L st σ = EO 93 [(0, 2, 0, 0, 0), (55, 6, 0, 0, 0)] L st σ := EB_eq 93 2 L st σ
theorem bk_93_3 {L : ev_L} {st : List ev_V} {σ : ev_M} : EB 93 3 L st σ = EO 93 [(1, 0, 0, 0, 0), (28, 10, 10, 0, (-161)), (28, 140, 7, 2, 17), (28, 295, 4, 5, 4), (0, 1, 0, 0, 0), (32, 0, 0, 0, 0), (56, 0, 0, 0, 0)] L st σ := EB_eq 93 3 L st σ
theorem bk_93_4 {L : ev_L} {st : List ev_V} {σ : ev_M} : EB 93 4 L st σ = EO 93 [(1, 0, 0, 0, 0), (28, 57, 10, 7, 18), (1, 0, 0, 0, 0), (28, 10, 10, 0, (-161)), (59, 0, 2, 283, 0), (1, 0, 0, 0, 0), (28, 57, 10, 7, 18), (1, 0, 0, 0, 0), (28, 10, 10, 0, (-161)), (0, 1, 0, 0, 0), (59, 4, 3, 298, 0), (56, 0, 0, 0, 0)] L st σ := EB_eq 93 4 L st σ
theorem bk_93_5 {L : ev_L} {st : List ev_V} {σ : ev_M} : EB 93 5 L st σ = EO 93 [(1, 0, 0, 0, 0), (28, 10, 10, 0, (-161)), (0, 1, 0, 0, 0), (59, 54, 2, 302, 7), (56, 0, 0, 0, 0)] L st σ := EB_eq 93 5 L st σ
theorem bk_93_6 {L : ev_L} {st : List ev_V} {σ : ev_M} : EB 93 6 L st σ = EO 93 [(6, 1, 0, (-3), 0), (56, 0, 0, 0, 0)] L st σ := EB_eq 93 6 L st σ
theorem mm_94 {i0 : Int} {σ : ev_M} : EM 94 [.inr (.inl i0)] σ = EB 94 0 [some (.inr (.inl i0))] [] σ := by
  unfold EM ev_go
  exact if_pos (Nat.le_of_ble_eq_true rfl)
theorem bk_94_0 {L : ev_L} {st : List ev_V} {σ : ev_M} : EB 94 0 L st σ = EO 94 [(1, 0, 0, 0, 0), (28, 57, 10, 7, 18), (1, 0, 0, 0, 0), (28, 10, 10, 0, (-161)), (59, 0, 2, 283, 0), (1, 0, 0, 0, 0), (28, 57, 10, 7, 18), (27, 305, 0, 0, 0), (56, 0, 0, 0, 0)] L st σ := EB_eq 94 0 L st σ
theorem mm_95 {i0 : Int} {x1 : Int} {σ : ev_M} : EM 95 [.inr (.inl i0), .inl x1] σ = EB 95 0 [some (.inr (.inl i0)), some (.inl x1)] [] σ := by
  unfold EM ev_go
  exact if_pos (Nat.le_of_ble_eq_true rfl)
theorem bk_95_0 {L : ev_L} {st : List ev_V} {σ : ev_M} : EB 95 0 L st σ = EO 95 [(1, 0, 0, 0, 0), (28, 10, 10, 0, (-161)), (28, 97, 7, 1, 6), (0, 1, 0, 0, 0), (59, 6, 2, 108, 1), (47, 1, 0, 6, 0), (6, 1, 0, (-2), 0), (56, 0, 0, 0, 0)] L st σ := EB_eq 95 0 L st σ
theorem bk_95_1 {L : ev_L} {st : List ev_V} {σ : ev_M} : EB 95 1 L st σ = EO 95 [(1, 0, 0, 0, 0), (28, 36, 10, 4, 9), (1, 0, 0, 0, 0), (28, 10, 10, 0, (-161)), (0, 1, 0, 0, 0), (59, 25, 3, 308, 2), (56, 0, 0, 0, 0)] L st σ := EB_eq 95 1 L st σ
theorem mm_96 {i0 : Int} {σ : ev_M} : EM 96 [.inr (.inl i0)] σ = EB 96 0 [some (.inr (.inl i0))] [] σ := by
  unfold EM ev_go
  exact if_pos (Nat.le_of_ble_eq_true rfl)
theorem bk_96_0 {L : ev_L} {st : List ev_V} {σ : ev_M} : EB 96 0 L st σ = EO 96 [(1, 0, 0, 0, 0), (28, 57, 10, 7, 18), (1, 0, 0, 0, 0), (28, 10, 10, 0, (-161)), (59, 0, 2, 283, 0), (1, 0, 0, 0, 0), (28, 57, 10, 7, 18), (27, 305, 0, 0, 0), (6, 0, 0, (-1), 0), (41, 1, 0, 6, 0), (6, 1, 0, (-4), 0), (56, 0, 0, 0, 0)] L st σ := EB_eq 96 0 L st σ
theorem bk_96_1 {L : ev_L} {st : List ev_V} {σ : ev_M} : EB 96 1 L st σ = EO 96 [(1, 0, 0, 0, 0), (28, 22, 10, 2, 1), (1, 0, 0, 0, 0), (28, 10, 10, 0, (-161)), (59, 26, 2, 75, 3), (1, 0, 0, 0, 0), (28, 10, 10, 0, (-161)), (24, 0, 0, 0, 0), (27, 161, 7, 6, 0), (1, 0, 0, 0, 0), (28, 57, 10, 7, 18), (27, 305, 0, 0, 0), (10, 0, 0, 0, 0), (30, 161, 7, 6, 0), (1, 0, 0, 0, 0), (28, 10, 10, 0, (-161)), (59, 55, 1, 311, 7), (1, 0, 0, 0, 0), (28, 57, 10, 7, 18), (27, 305, 0, 0, 0), (56, 0, 0, 0, 0)] L st σ := EB_eq 96 1 L st σ
theorem mm_97 {i0 : Int} {σ : ev_M} : EM 97 [.inr (.inl i0)] σ = EB 97 0 [some (.inr (.inl i0))] [] σ := by
  unfold EM ev_go
  exact if_pos (Nat.le_of_ble_eq_true rfl)
theorem bk_97_0 {L : ev_L} {st : List ev_V} {σ : ev_M} : EB 97 0 L st σ = EO 97 [(1, 0, 0, 0, 0), (28, 22, 10, 2, 1), (1, 0, 0, 0, 0), (28, 10, 10, 0, (-161)), (59, 28, 2, 314, 3), (47, 1, 0, 6, 0), (6, 1, 0, (-4), 0), (56, 0, 0, 0, 0)] L st σ := EB_eq 97 0 L st σ
theorem bk_97_1 {L : ev_L} {st : List ev_V} {σ : ev_M} : EB 97 1 L st σ = EO 97 [(1, 0, 0, 0, 0), (28, 22, 10, 2, 1), (27, 318, 3, 0, 0), (56, 0, 0, 0, 0)] L st σ := EB_eq 97 1 L st σ
theorem mm_98 {i0 : Int} {σ : ev_M} : EM 98 [.inr (.inl i0)] σ = EB 98 0 [some (.inr (.inl i0))] [] σ := by
  unfold EM ev_go
  exact if_pos (Nat.le_of_ble_eq_true rfl)
theorem bk_98_0 {L : ev_L} {st : List ev_V} {σ : ev_M} : EB 98 0 L st σ = EO 98 [(1, 0, 0, 0, 0), (28, 22, 10, 2, 1), (1, 0, 0, 0, 0), (28, 10, 10, 0, (-161)), (59, 28, 2, 314, 3), (47, 1, 0, 6, 0), (6, 1, 0, (-4), 0), (56, 0, 0, 0, 0)] L st σ := EB_eq 98 0 L st σ
theorem bk_98_1 {L : ev_L} {st : List ev_V} {σ : ev_M} : EB 98 1 L st σ = EO 98 [(1, 0, 0, 0, 0), (28, 22, 10, 2, 1), (27, 318, 3, 0, 0), (56, 0, 0, 0, 0)] L st σ := EB_eq 98 1 L st σ
theorem mm_99 {i0 : Int} {σ : ev_M} : EM 99 [.inr (.inl i0)] σ = EB 99 0 [some (.inr (.inl i0))] [] σ := by
  unfold EM ev_go
  exact if_pos (Nat.le_of_ble_eq_true rfl)
theorem bk_99_0 {L : ev_L} {st : List ev_V} {σ : ev_M} : EB 99 0 L st σ = EO 99 [(1, 0, 0, 0, 0), (28, 22, 10, 2, 1), (1, 0, 0, 0, 0), (28, 10, 10, 0, (-161)), (59, 28, 2, 314, 3), (47, 1, 0, 6, 0), (6, 1, 0, (-4), 0), (56, 0, 0, 0, 0)] L st σ := EB_eq 99 0 L st σ
theorem bk_99_1 {L : ev_L} {st : List ev_V} {σ : ev_M} : EB 99 1 L st σ = EO 99 [(1, 0, 0, 0, 0), (28, 22, 10, 2, 1), (27, 318, 3, 0, 0), (56, 0, 0, 0, 0)] L st σ := EB_eq 99 1 L st σ
theorem mm_100 {i0 : Int} {σ : ev_M} : EM 100 [.inr (.inl i0)] σ = EB 100 0 [some (.inr (.inl i0))] [] σ := by
  unfold EM ev_go
  exact if_pos (Nat.le_of_ble_eq_true rfl)
theorem bk_100_0 {L : ev_L} {st : List ev_V} {σ : ev_M} : EB 100 0 L st σ = EO 100 [(1, 0, 0, 0, 0), (28, 22, 10, 2, 1), (1, 0, 0, 0, 0), (28, 10, 10, 0, (-161)), (59, 28, 2, 314, 3), (47, 1, 0, 6, 0), (6, 1, 0, (-4), 0), (56, 0, 0, 0, 0)] L st σ := EB_eq 100 0 L st σ
theorem bk_100_1 {L : ev_L} {st : List ev_V} {σ : ev_M} : EB 100 1 L st σ = EO 100 [(1, 0, 0, 0, 0), (28, 22, 10, 2, 1), (27, 318, 3, 0, 0), (56, 0, 0, 0, 0)] L st σ := EB_eq 100 1 L st σ
theorem mm_101 {i0 : Int} {σ : ev_M} : EM 101 [.inr (.inl i0)] σ = EB 101 0 [some (.inr (.inl i0)), none, none] [] σ := by
  unfold EM ev_go
  exact if_pos (Nat.le_of_ble_eq_true rfl)
theorem bk_101_0 {L : ev_L} {st : List ev_V} {σ : ev_M} : EB 101 0 L st σ = EO 101 [(1, 0, 0, 0, 0), (28, 29, 10, 3, 3), (1, 0, 0, 0, 0), (28, 10, 10, 0, (-161)), (59, 34, 2, 324, 5), (6, 0, 0, (-1), 0), (40, 1, 0, 6, 0), (6, 1, 0, (-4), 0), (56, 0, 0, 0, 0)] L st σ := EB_eq 101 0 L st σ
theorem bk_101_1 {L : ev_L} {st : List ev_V} {σ : ev_M} : EB 101 1 L st σ = EO 101 [(1, 0, 0, 0, 0), (28, 22, 10, 2, 1), (1, 0, 0, 0, 0), (28, 10, 10, 0, (-161)), (59, 26, 2, 75, 3), (6, 0, 0, 0, 0), (3, 1, 0, 0, 0), (53, 2, 0, 0, 0)] L st σ := EB_eq 101 1 L st σ
theorem bk_101_2 {L : ev_L} {st : List ev_V} {σ : ev_M} : EB 101 2 L st σ = EO 101 [(0, 1, 0, 0, 0), (1, 0, 0, 0, 0), (28, 29, 10, 3, 3), (27, 328, 5, 5, 0), (43, 4, 0, 68, 0), (1, 0, 0, 0, 0), (28, 10, 10, 0, (-161)), (28, 65, 7, 0, 1), (1, 0, 0, 0, 0), (28, 29, 10, 3, 3), (28, 330, 5, 7, 2), (0, 1, 0, 0, 0), (32, 0, 0, 0, 0), (1, 0, 0, 0, 0), (28, 29, 10, 3, 3), (28, 331, 5, 8, 3), (0, 1, 0, 0, 0), (32, 0, 0, 0, 0), (1, 0, 0, 0, 0), (28, 29, 10, 3, 3), (28, 332, 5, 9, 4), (0, 1, 0, 0, 0), (32, 0, 0, 0, 0), (59, 46, 4, 86, 6), (3, 2, 0, 0, 0), (1, 0, 0, 0, 0), (28, 29, 10, 3, 3), (28, 333, 5, 10, 5), (0, 1, 0, 0, 0), (34, 0, 0, 0, 0), (46, 3, 0, 12, 0), (1, 0, 0, 0, 0), (28, 10, 10, 0, (-161)), (0, 2, 0, 0, 0), (59, 48, 2, 104, 7), (26, 0, 0, 0, 0), (53, 3, 0, 0, 0)] L st σ := EB_eq 101 2 L st σ
theorem bk_101_3 {L : ev_L} {st : List ev_V} {σ : ev_M} : EB 101 3 L st σ = EO 101 [(23, 1, 0, 1, 0), (52, 2, 0, (-73), 0)] L st σ := EB_eq 101 3 L st σ
theorem bk_101_4 {L : ev_L} {st : List ev_V} {σ : ev_M} : EB 101 4 L st σ = EO 101 [(1, 0, 0, 0, 0), (28, 10, 10, 0, (-161)), (28, 65, 7, 0, 1), (27, 83, 6, 1, 0), (56, 0, 0, 0, 0)] L st σ := EB_eq 101 4 L st σ
theorem mm_102 {i0 : Int} {σ : ev_M} : EM 102 [.inr (.inl i0)] σ = EB 102 0 [some (.inr (.inl i0)), none, none, none, none] [] σ := by
  unfold EM ev_go
  exact if_pos (Nat.le_of_ble_eq_true rfl)
theorem bk_102_0 {L : ev_L} {st : List ev_V} {σ : ev_M} : EB 102 0 L st σ = EO 102 [(8, 336, 0, 17, 0), (5, 1, 0, 0, 0), (6, 0, 0, 0, 0), (3, 3, 0, 0, 0), (53, 1, 0, 0, 0)] L st σ := EB_eq 102 0 L st σ
theorem bk_102_1 {L : ev_L} {st : List ev_V} {σ : ev_M} : EB 102 1 L st σ = EO 102 [(0, 3, 0, 0, 0), (6, 1, 0, 10, 0), (44, 2, 0, 22, 0), (8, 338, 0, 31, 0), (2, 1, 0, 0, 0), (21, 0, 0, 0, 0), (1, 0, 0, 0, 0), (0, 3, 0, 0, 0), (59, 75, 2, 340, 10), (22, 0, 0, 0, 0), (20, 0, 0, 0, 0), (5, 1, 0, 0, 0), (23, 3, 0, 1, 0), (52, 1, 0, (-22), 0)] L st σ := EB_eq 102 1 L st σ
theorem bk_102_2 {L : ev_L} {st : List ev_V} {σ : ev_M} : EB 102 2 L st σ = EO 102 [(6, 0, 0, 0, 0), (3, 3, 0, 0, 0), (53, 3, 0, 0, 0)] L st σ := EB_eq 102 2 L st σ
theorem bk_102_3 {L : ev_L} {st : List ev_V} {σ : ev_M} : EB 102 3 L st σ = EO 102 [(0, 3, 0, 0, 0), (1, 0, 0, 0, 0), (28, 10, 10, 0, (-161)), (28, 65, 7, 0, 1), (27, 83, 6, 1, 0), (43, 6, 0, 39, 0), (6, 0, 0, 0, 0), (3, 4, 1, 0, 0), (53, 4, 0, 0, 0)] L st σ := EB_eq 102 3 L st σ
theorem bk_102_4 {L : ev_L} {st : List ev_V} {σ : ev_M} : EB 102 4 L st σ = EO 102 [(0, 4, 1, 0, 0), (6, 0, 0, 3, 0), (44, 5, 0, 24, 0), (8, 338, 0, 31, 0), (2, 1, 0, 0, 0), (21, 0, 0, 0, 0), (1, 0, 0, 0, 0), (0, 3, 0, 0, 0), (0, 4, 1, 0, 0), (59, 76, 3, 343, 10), (22, 0, 0, 0, 0), (20, 0, 0, 0, 0), (5, 1, 0, 0, 0), (23, 4, 0, 1, 0), (52, 4, 0, (-24), 0)] L st σ := EB_eq 102 4 L st σ
theorem bk_102_5 {L : ev_L} {st : List ev_V} {σ : ev_M} : EB 102 5 L st σ = EO 102 [(23, 3, 0, 1, 0), (52, 3, 0, (-47), 0)] L st σ := EB_eq 102 5 L st σ
theorem bk_102_6 {L : ev_L} {st : List ev_V} {σ : ev_M} : EB 102 6 L st σ = EO 102 [(6, 0, 0, 0, 0), (3, 3, 0, 0, 0), (53, 7, 0, 0, 0)] L st σ := EB_eq 102 6 L st σ
theorem bk_102_7 {L : ev_L} {st : List ev_V} {σ : ev_M} : EB 102 7 L st σ = EO 102 [(0, 3, 0, 0, 0), (1, 0, 0, 0, 0), (28, 10, 10, 0, (-161)), (28, 97, 7, 1, 6), (27, 101, 1, 0, 0), (43, 8, 0, 16, 0), (1, 0, 0, 0, 0), (2, 1, 0, 0, 0), (0, 3, 0, 0, 0), (59, 103, 3, 345, 10), (5, 1, 0, 0, 0), (23, 3, 0, 1, 0), (52, 7, 0, (-24), 0)] L st σ := EB_eq 102 7 L st σ
theorem bk_102_8 {L : ev_L} {st : List ev_V} {σ : ev_M} : EB 102 8 L st σ = EO 102 [(6, 0, 0, 0, 0), (3, 3, 0, 0, 0), (53, 9, 0, 0, 0)] L st σ := EB_eq 102 8 L st σ
theorem bk_102_9 {L : ev_L} {st : List ev_V} {σ : ev_M} : EB 102 9 L st σ = EO 102 [(0, 3, 0, 0, 0), (1, 0, 0, 0, 0), (28, 10, 10, 0, (-161)), (28, 140, 7, 2, 17), (27, 144, 4, 0, 0), (43, 12, 0, 39, 0), (6, 0, 0, 0, 0), (3, 4, 1, 0, 0), (53, 10, 0, 0, 0)] L st σ := EB_eq 102 9 L st σ
theorem bk_102_10 {L : ev_L} {st : List ev_V} {σ : ev_M} : EB 102 10 L st σ = EO 102 [(0, 4, 1, 0, 0), (6, 0, 0, 3, 0), (44, 11, 0, 24, 0), (8, 338, 0, 31, 0), (2, 1, 0, 0, 0), (21, 0, 0, 0, 0), (1, 0, 0, 0, 0), (0, 3, 0, 0, 0), (0, 4, 1, 0, 0), (59, 92, 3, 349, 10), (22, 0, 0, 0, 0), (20, 0, 0, 0, 0), (5, 1, 0, 0, 0), (23, 4, 0, 1, 0), (52, 10, 0, (-24), 0)] L st σ := EB_eq 102 10 L st σ
theorem bk_102_11 {L : ev_L} {st : List ev_V} {σ : ev_M} : EB 102 11 L st σ = EO 102 [(23, 3, 0, 1, 0), (52, 9, 0, (-47), 0)] L st σ := EB_eq 102 11 L st σ
theorem bk_102_12 {L : ev_L} {st : List ev_V} {σ : ev_M} : EB 102 12 L st σ = EO 102 [(6, 0, 0, 0, 0), (3, 3, 0, 0, 0), (53, 13, 0, 0, 0)] L st σ := EB_eq 102 12 L st σ
theorem bk_102_13 {L : ev_L} {st : List ev_V} {σ : ev_M} : EB 102 13 L st σ = EO 102 [(0, 3, 0, 0, 0), (1, 0, 0, 0, 0), (28, 10, 10, 0, (-161)), (28, 140, 7, 2, 17), (27, 149, 4, 1, 0), (43, 16, 0, 40, 0), (6, 0, 0, 0, 0), (3, 4, 1, 0, 0), (53, 14, 0, 0, 0)] L st σ := EB_eq 102 13 L st σ
theorem bk_102_14 {L : ev_L} {st : List ev_V} {σ : ev_M} : EB 102 14 L st σ = EO 102 [(0, 4, 1, 0, 0), (6, 1, 0, 6, 0), (44, 15, 0, 24, 0), (8, 338, 0, 31, 0), (2, 1, 0, 0, 0), (21, 0, 0, 0, 0), (1, 0, 0, 0, 0), (0, 3, 0, 0, 0), (0, 4, 1, 0, 0), (59, 93, 3, 352, 10), (22, 0, 0, 0, 0), (20, 0, 0, 0, 0), (5, 1, 0, 0, 0), (23, 4, 0, 1, 0), (52, 14, 0, (-25), 0)] L st σ := EB_eq 102 14 L st σ
theorem bk_102_15 {L : ev_L} {st : List ev_V} {σ : ev_M} : EB 102 15 L st σ = EO 102 [(23, 3, 0, 1, 0), (52, 13, 0, (-48), 0)] L st σ := EB_eq 102 15 L st σ
theorem bk_102_16 {L : ev_L} {st : List ev_V} {σ : ev_M} : EB 102 16 L st σ = EO 102 [(2, 1, 0, 0, 0), (57, 0, 0, 0, 0)] L st σ := EB_eq 102 16 L st σ
theorem mm_103 {i0 : Int} {h1 : Int64} {x2 : Int} {σ : ev_M} : EM 103 [.inr (.inl i0), .inr (.inr h1), .inl x2] σ = EB 103 0 [some (.inr (.inl i0)), some (.inr (.inr h1)), none, some (.inl x2), none, none, none, none] [] σ := by
  unfold EM ev_go
  exact if_pos (Nat.le_of_ble_eq_true rfl)
theorem bk_103_0 {L : ev_L} {st : List ev_V} {σ : ev_M} : EB 103 0 L st σ = EO 103 [(2, 1, 0, 0, 0), (5, 4, 1, 0, 0), (6, 0, 0, 0, 0), (3, 6, 1, 0, 0), (53, 1, 0, 0, 0)] L st σ := EB_eq 103 0 L st σ
theorem bk_103_1 {L : ev_L} {st : List ev_V} {σ : ev_M} : EB 103 1 L st σ = EO 103 [(0, 6, 1, 0, 0), (6, 1, 0, 8, 0), (44, 2, 0, 26, 0), (8, 338, 0, 31, 0), (2, 4, 1, 0, 0), (21, 0, 0, 0, 0), (1, 0, 0, 0, 0), (0, 3, 0, 0, 0), (0, 6, 1, 0, 0), (59, 77, 3, 355, 10), (22, 0, 0, 0, 0), (20, 0, 0, 0, 0), (5, 4, 1, 0, 0), (23, 6, 0, 1, 0), (52, 1, 0, (-27), 0)] L st σ := EB_eq 103 1 L st σ
theorem bk_103_2 {L : ev_L} {st : List ev_V} {σ : ev_M} : EB 103 2 L st σ = EO 103 [(6, 0, 0, 0, 0), (3, 6, 1, 0, 0), (53, 3, 0, 0, 0)] L st σ := EB_eq 103 2 L st σ
theorem bk_103_3 {L : ev_L} {st : List ev_V} {σ : ev_M} : EB 103 3 L st σ = EO 103 [(0, 6, 1, 0, 0), (1, 0, 0, 0, 0), (28, 10, 10, 0, (-161)), (28, 97, 7, 1, 6), (28, 111, 1, 5, 5), (0, 3, 0, 0, 0), (32, 0, 0, 0, 0), (43, 6, 0, 43, 0), (6, 0, 0, 0, 0), (3, 7, 1, 0, 0), (53, 4, 0, 0, 0)] L st σ := EB_eq 103 3 L st σ
theorem bk_103_4 {L : ev_L} {st : List ev_V} {σ : ev_M} : EB 103 4 L st σ = EO 103 [(0, 7, 1, 0, 0), (6, 0, 0, 5, 0), (44, 5, 0, 28, 0), (8, 338, 0, 31, 0), (2, 4, 1, 0, 0), (21, 0, 0, 0, 0), (1, 0, 0, 0, 0), (0, 3, 0, 0, 0), (0, 6, 1, 0, 0), (0, 7, 1, 0, 0), (59, 78, 4, 357, 10), (22, 0, 0, 0, 0), (20, 0, 0, 0, 0), (5, 4, 1, 0, 0), (23, 7, 0, 1, 0), (52, 4, 0, (-28), 0)] L st σ := EB_eq 103 4 L st σ
theorem bk_103_5 {L : ev_L} {st : List ev_V} {σ : ev_M} : EB 103 5 L st σ = EO 103 [(23, 6, 0, 1, 0), (52, 3, 0, (-54), 0)] L st σ := EB_eq 103 5 L st σ
theorem bk_103_6 {L : ev_L} {st : List ev_V} {σ : ev_M} : EB 103 6 L st σ = EO 103 [(2, 4, 1, 0, 0), (57, 0, 0, 0, 0)] L st σ := EB_eq 103 6 L st σ
theorem mm_104 {x0 : Int} {x1 : Int} {x2 : Int} {σ : ev_M} : EM 104 [.inl x0, .inl x1, .inl x2] σ = EB 104 0 [some (.inl x0), some (.inl x1), some (.inl x2)] [] σ := by
  unfold EM ev_go
  exact if_pos (Nat.le_of_ble_eq_true rfl)
theorem bk_104_0 {L : ev_L} {st : List ev_V} {σ : ev_M} : EB 104 0 L st σ = EO 104 [(0, 1, 0, 0, 0), (0, 0, 0, 0, 0), (44, 1, 0, 12, 0), (0, 0, 0, 0, 0), (0, 2, 0, 0, 0), (44, 1, 0, 7, 0), (6, 0, 0, 1, 0), (52, 2, 0, 4, 0)] L st σ := EB_eq 104 0 L st σ
theorem bk_104_1 {L : ev_L} {st : List ev_V} {σ : ev_M} : EB 104 1 L st σ = EO 104 [(6, 0, 0, 0, 0), (53, 2, 0, 0, 0)] L st σ := EB_eq 104 1 L st σ
theorem bk_104_2 {L : ev_L} {st : List ev_V} {σ : ev_M} : EB 104 2 L st σ = EO 104 [(56, 1, 0, 0, 0)] L st σ := EB_eq 104 2 L st σ
theorem mm_105 {x0 : Int} {σ : ev_M} : EM 105 [.inl x0] σ = EB 105 0 [some (.inl x0)] [] σ := by
  unfold EM ev_go
  exact if_pos (Nat.le_of_ble_eq_true rfl)
theorem bk_105_0 {L : ev_L} {st : List ev_V} {σ : ev_M} : EB 105 0 L st σ = EO 105 [(0, 0, 0, 0, 0), (6, 0, 0, 1, 0), (6, 1, 0, 99, 0), (60, 104, 3, 61, 0), (56, 1, 0, 0, 0)] L st σ := EB_eq 105 0 L st σ
theorem mm_106 {x0 : Int} {x1 : Int} {σ : ev_M} : EM 106 [.inl x0, .inl x1] σ = EB 106 0 [some (.inl x0), some (.inl x1)] [] σ := by
  unfold EM ev_go
  exact if_pos (Nat.le_of_ble_eq_true rfl)
theorem bk_106_0 {L : ev_L} {st : List ev_V} {σ : ev_M} : EB 106 0 L st σ = EO 106 [(0, 0, 0, 0, 0), (7, 7, 0, 2147483647, 0), (15, 0, 0, 0, 0), (0, 1, 0, 0, 0), (14, 0, 0, 0, 0), (56, 0, 0, 0, 0)] L st σ := EB_eq 106 0 L st σ
theorem mm_107 {i0 : Int} {σ : ev_M} : EM 107 [.inr (.inl i0)] σ = EB 107 0 [some (.inr (.inl i0)), none, none, none, none, none, none, none, none, none, none, none, none] [] σ := by
  unfold EM ev_go
  exact if_pos (Nat.le_of_ble_eq_true rfl)
theorem bk_107_0 {L : ev_L} {st : List ev_V} {σ : ev_M} : EB 107 0 L st σ = EO 107 [(6, 0, 0, 0, 0), (3, 1, 0, 0, 0), (6, 0, 0, 0, 0), (3, 2, 0, 0, 0), (6, 0, 0, 0, 0), (3, 3, 0, 0, 0), (53, 1, 0, 0, 0)] L st σ := EB_eq 107 0 L st σ
theorem bk_107_1 {L : ev_L} {st : List ev_V} {σ : ev_M} : EB 107 1 L st σ = EO 107 [(0, 3, 0, 0, 0), (1, 0, 0, 0, 0), (6, 0, 0, 2, 0), (59, 75, 2, 8, 10), (43, 37, 0, 448, 0), (1, 0, 0, 0, 0), (0, 3, 0, 0, 0), (6, 0, 0, 1, 0), (59, 77, 3, 14, 10), (3, 4, 1, 0, 0), (1, 0, 0, 0, 0), (0, 3, 0, 0, 0), (6, 0, 0, 3, 0), (59, 77, 3, 14, 10), (3, 5, 1, 0, 0), (1, 0, 0, 0, 0), (0, 3, 0, 0, 0), (6, 0, 0, 2, 0), (59, 77, 3, 14, 10), (3, 6, 1, 0, 0), (1, 0, 0, 0, 0), (0, 3, 0, 0, 0), (6, 0, 0, 4, 0), (59, 77, 3, 14, 10), (0, 5, 1, 0, 0), (6, 1, 0, 6, 0), (45, 2, 0, 7, 0), (6, 0, 0, 4, 0), (52, 4, 0, 14, 0)] L st σ := EB_eq 107 1 L st σ
theorem bk_107_2 {L : ev_L} {st : List ev_V} {σ : ev_M} : EB 107 2 L st σ = EO 107 [(0, 5, 1, 0, 0), (6, 0, 0, 4, 0), (45, 3, 0, 7, 0), (6, 0, 0, 2, 0), (52, 4, 0, 4, 0)] L st σ := EB_eq 107 2 L st σ
theorem bk_107_3 {L : ev_L} {st : List ev_V} {σ : ev_M} : EB 107 3 L st σ = EO 107 [(6, 0, 0, 1, 0), (53, 4, 0, 0, 0)] L st σ := EB_eq 107 3 L st σ
theorem bk_107_4 {L : ev_L} {st : List ev_V} {σ : ev_M} : EB 107 4 L st σ = EO 107 [(10, 0, 0, 0, 0), (3, 7, 1, 0, 0), (0, 5, 1, 0, 0), (47, 5, 0, 7, 0), (6, 0, 0, 0, 0), (52, 12, 0, 72, 0)] L st σ := EB_eq 107 4 L st σ
theorem bk_107_5 {L : ev_L} {st : List ev_V} {σ : ev_M} : EB 107 5 L st σ = EO 107 [(0, 5, 1, 0, 0), (6, 0, 0, 3, 0), (43, 6, 0, 7, 0), (6, 0, 0, 3, 0), (52, 12, 0, 62, 0)] L st σ := EB_eq 107 5 L st σ
theorem bk_107_6 {L : ev_L} {st : List ev_V} {σ : ev_M} : EB 107 6 L st σ = EO 107 [(0, 5, 1, 0, 0), (6, 0, 0, 3, 0), (41, 7, 0, 8, 0), (6, 1, 0, 7, 0), (52, 12, 0, 51, 0)] L st σ := EB_eq 107 6 L st σ
theorem bk_107_7 {L : ev_L} {st : List ev_V} {σ : ev_M} : EB 107 7 L st σ = EO 107 [(0, 5, 1, 0, 0), (6, 0, 0, 4, 0), (41, 8, 0, 8, 0), (6, 1, 0, 12, 0), (52, 12, 0, 40, 0)] L st σ := EB_eq 107 7 L st σ
theorem bk_107_8 {L : ev_L} {st : List ev_V} {σ : ev_M} : EB 107 8 L st σ = EO 107 [(0, 5, 1, 0, 0), (6, 0, 0, 5, 0), (41, 9, 0, 8, 0), (6, 1, 0, 20, 0), (52, 12, 0, 29, 0)] L st σ := EB_eq 107 8 L st σ
theorem bk_107_9 {L : ev_L} {st : List ev_V} {σ : ev_M} : EB 107 9 L st σ = EO 107 [(0, 5, 1, 0, 0), (6, 1, 0, 6, 0), (41, 10, 0, 8, 0), (6, 1, 0, 28, 0), (52, 12, 0, 17, 0)] L st σ := EB_eq 107 9 L st σ
theorem bk_107_10 {L : ev_L} {st : List ev_V} {σ : ev_M} : EB 107 10 L st σ = EO 107 [(0, 5, 1, 0, 0), (6, 1, 0, 7, 0), (41, 11, 0, 8, 0), (6, 1, 0, 40, 0), (52, 12, 0, 5, 0)] L st σ := EB_eq 107 10 L st σ
theorem bk_107_11 {L : ev_L} {st : List ev_V} {σ : ev_M} : EB 107 11 L st σ = EO 107 [(6, 1, 0, 60, 0), (53, 12, 0, 0, 0)] L st σ := EB_eq 107 11 L st σ
theorem bk_107_12 {L : ev_L} {st : List ev_V} {σ : ev_M} : EB 107 12 L st σ = EO 107 [(3, 8, 1, 0, 0), (1, 0, 0, 0, 0), (1, 0, 0, 0, 0), (0, 3, 0, 0, 0), (6, 0, 0, 0, 0), (59, 77, 3, 14, 10), (6, 0, 0, 3, 0), (59, 76, 3, 18, 10), (0, 3, 0, 0, 0), (41, 19, 0, 87, 0), (1, 0, 0, 0, 0), (0, 3, 0, 0, 0), (6, 0, 0, 5, 0), (59, 77, 3, 14, 10), (0, 7, 1, 0, 0), (41, 19, 0, 76, 0), (1, 0, 0, 0, 0), (0, 3, 0, 0, 0), (6, 1, 0, 6, 0), (59, 77, 3, 14, 10), (1, 0, 0, 0, 0), (6, 0, 0, 5, 0), (59, 75, 2, 8, 10), (0, 7, 1, 0, 0), (42, 13, 0, 7, 0), (6, 0, 0, 1, 0), (52, 14, 0, 4, 0)] L st σ := EB_eq 107 12 L st σ
theorem bk_107_13 {L : ev_L} {st : List ev_V} {σ : ev_M} : EB 107 13 L st σ = EO 107 [(6, 0, 0, 0, 0), (53, 14, 0, 0, 0)] L st σ := EB_eq 107 13 L st σ
theorem bk_107_14 {L : ev_L} {st : List ev_V} {σ : ev_M} : EB 107 14 L st σ = EO 107 [(41, 19, 0, 51, 0), (1, 0, 0, 0, 0), (0, 3, 0, 0, 0), (6, 1, 0, 8, 0), (59, 77, 3, 14, 10), (1, 0, 0, 0, 0), (0, 3, 0, 0, 0), (6, 1, 0, 7, 0), (59, 77, 3, 14, 10), (6, 0, 0, 1, 0), (41, 15, 0, 7, 0), (6, 0, 0, 0, 0), (52, 16, 0, 5, 0)] L st σ := EB_eq 107 14 L st σ
theorem bk_107_15 {L : ev_L} {st : List ev_V} {σ : ev_M} : EB 107 15 L st σ = EO 107 [(0, 8, 1, 0, 0), (53, 16, 0, 0, 0)] L st σ := EB_eq 107 15 L st σ
theorem bk_107_16 {L : ev_L} {st : List ev_V} {σ : ev_M} : EB 107 16 L st σ = EO 107 [(41, 19, 0, 24, 0), (0, 6, 1, 0, 0), (0, 4, 1, 0, 0), (47, 17, 0, 7, 0), (6, 0, 0, 0, 0), (52, 18, 0, 10, 0)] L st σ := EB_eq 107 16 L st σ
theorem bk_107_17 {L : ev_L} {st : List ev_V} {σ : ev_M} : EB 107 17 L st σ = EO 107 [(1, 0, 0, 0, 0), (0, 3, 0, 0, 0), (6, 0, 0, 0, 0), (6, 0, 0, 4, 0), (59, 78, 4, 21, 10), (53, 18, 0, 0, 0)] L st σ := EB_eq 107 17 L st σ
theorem bk_107_18 {L : ev_L} {st : List ev_V} {σ : ev_M} : EB 107 18 L st σ = EO 107 [(40, 20, 0, 5, 0), (53, 19, 0, 0, 0)] L st σ := EB_eq 107 18 L st σ
theorem bk_107_19 {L : ev_L} {st : List ev_V} {σ : ev_M} : EB 107 19 L st σ = EO 107 [(6, 0, 0, 0, 0), (56, 1, 0, 0, 0)] L st σ := EB_eq 107 19 L st σ
theorem bk_107_20 {L : ev_L} {st : List ev_V} {σ : ev_M} : EB 107 20 L st σ = EO 107 [(0, 1, 0, 0, 0), (1, 0, 0, 0, 0), (0, 3, 0, 0, 0), (6, 1, 0, 6, 0), (59, 77, 3, 14, 10), (10, 0, 0, 0, 0), (3, 1, 0, 0, 0), (0, 2, 0, 0, 0), (0, 6, 1, 0, 0), (0, 5, 1, 0, 0), (43, 21, 0, 7, 0), (6, 0, 0, 1, 0), (52, 22, 0, 4, 0)] L st σ := EB_eq 107 20 L st σ
theorem bk_107_21 {L : ev_L} {st : List ev_V} {σ : ev_M} : EB 107 21 L st σ = EO 107 [(6, 0, 0, 0, 0), (53, 22, 0, 0, 0)] L st σ := EB_eq 107 21 L st σ
theorem bk_107_22 {L : ev_L} {st : List ev_V} {σ : ev_M} : EB 107 22 L st σ = EO 107 [(10, 0, 0, 0, 0), (3, 2, 0, 0, 0), (6, 0, 0, 0, 0), (3, 9, 1, 0, 0), (53, 23, 0, 0, 0)] L st σ := EB_eq 107 22 L st σ
theorem bk_107_23 {L : ev_L} {st : List ev_V} {σ : ev_M} : EB 107 23 L st σ = EO 107 [(0, 9, 1, 0, 0), (0, 4, 1, 0, 0), (43, 36, 0, 171, 0), (1, 0, 0, 0, 0), (0, 3, 0, 0, 0), (0, 9, 1, 0, 0), (6, 0, 0, 5, 0), (59, 78, 4, 21, 10), (3, 10, 1, 0, 0), (0, 10, 1, 0, 0), (6, 1, 0, 64, 0), (42, 24, 0, 8, 0), (6, 1, 0, 9, 0), (52, 25, 0, 4, 0)] L st σ := EB_eq 107 23 L st σ
theorem bk_107_24 {L : ev_L} {st : List ev_V} {σ : ev_M} : EB 107 24 L st σ = EO 107 [(6, 0, 0, 0, 0), (53, 25, 0, 0, 0)] L st σ := EB_eq 107 24 L st σ
theorem bk_107_25 {L : ev_L} {st : List ev_V} {σ : ev_M} : EB 107 25 L st σ = EO 107 [(3, 11, 1, 0, 0), (6, 0, 0, 0, 0), (3, 12, 1, 0, 0), (53, 26, 0, 0, 0)] L st σ := EB_eq 107 25 L st σ
theorem bk_107_26 {L : ev_L} {st : List ev_V} {σ : ev_M} : EB 107 26 L st σ = EO 107 [(0, 12, 1, 0, 0), (0, 4, 1, 0, 0), (43, 31, 0, 57, 0), (0, 10, 1, 0, 0), (0, 12, 1, 0, 0), (19, 0, 0, 0, 0), (6, 0, 0, 1, 0), (15, 0, 0, 0, 0), (6, 0, 0, 1, 0), (41, 30, 0, 40, 0), (0, 12, 1, 0, 0), (0, 9, 1, 0, 0), (44, 27, 0, 5, 0), (6, 0, 0, 0, 0), (56, 1, 0, 0, 0)] L st σ := EB_eq 107 26 L st σ
theorem bk_107_27 {L : ev_L} {st : List ev_V} {σ : ev_M} : EB 107 27 L st σ = EO 107 [(1, 0, 0, 0, 0), (0, 3, 0, 0, 0), (0, 12, 1, 0, 0), (6, 0, 0, 4, 0), (59, 78, 4, 21, 10), (0, 11, 1, 0, 0), (45, 28, 0, 14, 0), (1, 0, 0, 0, 0), (0, 3, 0, 0, 0), (0, 12, 1, 0, 0), (6, 0, 0, 4, 0), (59, 78, 4, 21, 10), (52, 29, 0, 5, 0)] L st σ := EB_eq 107 27 L st σ
theorem bk_107_28 {L : ev_L} {st : List ev_V} {σ : ev_M} : EB 107 28 L st σ = EO 107 [(0, 11, 1, 0, 0), (53, 29, 0, 0, 0)] L st σ := EB_eq 107 28 L st σ
theorem bk_107_29 {L : ev_L} {st : List ev_V} {σ : ev_M} : EB 107 29 L st σ = EO 107 [(3, 11, 1, 0, 0), (53, 30, 0, 0, 0)] L st σ := EB_eq 107 29 L st σ
theorem bk_107_30 {L : ev_L} {st : List ev_V} {σ : ev_M} : EB 107 30 L st σ = EO 107 [(23, 12, 0, 1, 0), (52, 26, 0, (-58), 0)] L st σ := EB_eq 107 30 L st σ
theorem bk_107_31 {L : ev_L} {st : List ev_V} {σ : ev_M} : EB 107 31 L st σ = EO 107 [(1, 0, 0, 0, 0), (0, 3, 0, 0, 0), (0, 9, 1, 0, 0), (6, 0, 0, 1, 0), (59, 78, 4, 21, 10), (3, 12, 1, 0, 0), (1, 0, 0, 0, 0), (0, 3, 0, 0, 0), (0, 9, 1, 0, 0), (6, 0, 0, 4, 0), (59, 78, 4, 21, 10), (0, 12, 1, 0, 0), (0, 11, 1, 0, 0), (43, 32, 0, 8, 0), (0, 12, 1, 0, 0), (52, 33, 0, 5, 0)] L st σ := EB_eq 107 31 L st σ
theorem bk_107_32 {L : ev_L} {st : List ev_V} {σ : ev_M} : EB 107 32 L st σ = EO 107 [(0, 11, 1, 0, 0), (53, 33, 0, 0, 0)] L st σ := EB_eq 107 32 L st σ
theorem bk_107_33 {L : ev_L} {st : List ev_V} {σ : ev_M} : EB 107 33 L st σ = EO 107 [(41, 34, 0, 39, 0), (0, 12, 1, 0, 0), (48, 34, 0, 34, 0), (0, 12, 1, 0, 0), (6, 1, 0, 9, 0), (44, 34, 0, 27, 0), (1, 0, 0, 0, 0), (0, 3, 0, 0, 0), (0, 9, 1, 0, 0), (6, 0, 0, 2, 0), (59, 78, 4, 21, 10), (48, 34, 0, 16, 0), (1, 0, 0, 0, 0), (0, 3, 0, 0, 0), (0, 9, 1, 0, 0), (6, 0, 0, 2, 0), (59, 78, 4, 21, 10), (6, 1, 0, 99, 0), (45, 35, 0, 5, 0), (53, 34, 0, 0, 0)] L st σ := EB_eq 107 33 L st σ
theorem bk_107_34 {L : ev_L} {st : List ev_V} {σ : ev_M} : EB 107 34 L st σ = EO 107 [(6, 0, 0, 0, 0), (56, 1, 0, 0, 0)] L st σ := EB_eq 107 34 L st σ
theorem bk_107_35 {L : ev_L} {st : List ev_V} {σ : ev_M} : EB 107 35 L st σ = EO 107 [(23, 9, 0, 1, 0), (52, 23, 0, (-172), 0)] L st σ := EB_eq 107 35 L st σ
theorem bk_107_36 {L : ev_L} {st : List ev_V} {σ : ev_M} : EB 107 36 L st σ = EO 107 [(23, 3, 0, 1, 0), (52, 1, 0, (-451), 0)] L st σ := EB_eq 107 36 L st σ
theorem bk_107_37 {L : ev_L} {st : List ev_V} {σ : ev_M} : EB 107 37 L st σ = EO 107 [(1, 0, 0, 0, 0), (6, 1, 0, 9, 0), (59, 75, 2, 8, 10), (0, 1, 0, 0, 0), (41, 38, 0, 17, 0), (1, 0, 0, 0, 0), (6, 1, 0, 10, 0), (59, 75, 2, 8, 10), (0, 2, 0, 0, 0), (41, 38, 0, 7, 0), (6, 0, 0, 1, 0), (52, 39, 0, 4, 0)] L st σ := EB_eq 107 37 L st σ
theorem bk_107_38 {L : ev_L} {st : List ev_V} {σ : ev_M} : EB 107 38 L st σ = EO 107 [(6, 0, 0, 0, 0), (53, 39, 0, 0, 0)] L st σ := EB_eq 107 38 L st σ
theorem bk_107_39 {L : ev_L} {st : List ev_V} {σ : ev_M} : EB 107 39 L st σ = EO 107 [(56, 1, 0, 0, 0)] L st σ := EB_eq 107 39 L st σ
theorem mm_108 {i0 : Int} {x1 : Int} {x2 : Int} {σ : ev_M} : EM 108 [.inr (.inl i0), .inl x1, .inl x2] σ = EB 108 0 [some (.inr (.inl i0)), some (.inl x1), some (.inl x2), none] [] σ := by
  unfold EM ev_go
  exact if_pos (Nat.le_of_ble_eq_true rfl)
theorem bk_108_0 {L : ev_L} {st : List ev_V} {σ : ev_M} : EB 108 0 L st σ = EO 108 [(1, 0, 0, 0, 0), (0, 1, 0, 0, 0), (6, 0, 0, 3, 0), (59, 76, 3, 18, 10), (3, 3, 0, 0, 0), (0, 3, 0, 0, 0), (48, 1, 0, 14, 0), (1, 0, 0, 0, 0), (0, 3, 0, 0, 0), (6, 1, 0, 8, 0), (59, 77, 3, 14, 10), (0, 2, 0, 0, 0), (42, 2, 0, 7, 0), (53, 1, 0, 0, 0)] L st σ := EB_eq 108 0 L st σ
theorem bk_108_1 {L : ev_L} {st : List ev_V} {σ : ev_M} : EB 108 1 L st σ = EO 108 [(6, 0, 0, 1, 0), (52, 3, 0, 4, 0)] L st σ := EB_eq 108 1 L st σ
theorem bk_108_2 {L : ev_L} {st : List ev_V} {σ : ev_M} : EB 108 2 L st σ = EO 108 [(6, 0, 0, 0, 0), (53, 3, 0, 0, 0)] L st σ := EB_eq 108 2 L st σ
theorem bk_108_3 {L : ev_L} {st : List ev_V} {σ : ev_M} : EB 108 3 L st σ = EO 108 [(56, 1, 0, 0, 0)] L st σ := EB_eq 108 3 L st σ
theorem mm_109 {i0 : Int} {x1 : Int} {x2 : Int} {σ : ev_M} : EM 109 [.inr (.inl i0), .inl x1, .inl x2] σ = EB 109 0 [some (.inr (.inl i0)), some (.inl x1), some (.inl x2), none, none, none, none, none, none, none, none, none, none] [] σ := by
  unfold EM ev_go
  exact if_pos (Nat.le_of_ble_eq_true rfl)
theorem bk_109_0 {L : ev_L} {st : List ev_V} {σ : ev_M} : EB 109 0 L st σ = EO 109 [(6, 0, 0, 0, 0), (3, 3, 0, 0, 0), (53, 1, 0, 0, 0)] L st σ := EB_eq 109 0 L st σ
theorem bk_109_1 {L : ev_L} {st : List ev_V} {σ : ev_M} : EB 109 1 L st σ = EO 109 [(0, 3, 0, 0, 0), (1, 0, 0, 0, 0), (6, 0, 0, 0, 0), (59, 75, 2, 8, 10), (43, 35, 0, 483, 0), (1, 0, 0, 0, 0), (0, 1, 0, 0, 0), (0, 3, 0, 0, 0), (0, 2, 0, 0, 0), (59, 85, 4, 25, 10), (3, 4, 1, 0, 0), (0, 4, 1, 0, 0), (1, 0, 0, 0, 0), (0, 3, 0, 0, 0), (0, 1, 0, 0, 0), (0, 2, 0, 0, 0), (59, 85, 4, 25, 10), (41, 6, 0, 26, 0), (0, 3, 0, 0, 0), (0, 1, 0, 0, 0), (41, 2, 0, 7, 0), (6, 0, 0, 1, 0), (52, 3, 0, 4, 0)] L st σ := EB_eq 109 1 L st σ
theorem bk_109_2 {L : ev_L} {st : List ev_V} {σ : ev_M} : EB 109 2 L st σ = EO 109 [(6, 0, 0, 0, 0), (53, 3, 0, 0, 0)] L st σ := EB_eq 109 2 L st σ
theorem bk_109_3 {L : ev_L} {st : List ev_V} {σ : ev_M} : EB 109 3 L st σ = EO 109 [(0, 4, 1, 0, 0), (47, 4, 0, 7, 0), (6, 0, 0, 1, 0), (52, 5, 0, 4, 0)] L st σ := EB_eq 109 3 L st σ
theorem bk_109_4 {L : ev_L} {st : List ev_V} {σ : ev_M} : EB 109 4 L st σ = EO 109 [(6, 0, 0, 0, 0), (53, 5, 0, 0, 0)] L st σ := EB_eq 109 4 L st σ
theorem bk_109_5 {L : ev_L} {st : List ev_V} {σ : ev_M} : EB 109 5 L st σ = EO 109 [(40, 7, 0, 5, 0), (53, 6, 0, 0, 0)] L st σ := EB_eq 109 5 L st σ
theorem bk_109_6 {L : ev_L} {st : List ev_V} {σ : ev_M} : EB 109 6 L st σ = EO 109 [(6, 0, 0, 0, 0), (56, 1, 0, 0, 0)] L st σ := EB_eq 109 6 L st σ
theorem bk_109_7 {L : ev_L} {st : List ev_V} {σ : ev_M} : EB 109 7 L st σ = EO 109 [(6, 0, 0, 0, 0), (3, 5, 1, 0, 0), (53, 8, 0, 0, 0)] L st σ := EB_eq 109 7 L st σ
theorem bk_109_8 {L : ev_L} {st : List ev_V} {σ : ev_M} : EB 109 8 L st σ = EO 109 [(0, 5, 1, 0, 0), (1, 0, 0, 0, 0), (6, 0, 0, 1, 0), (59, 75, 2, 8, 10), (43, 14, 0, 108, 0), (1, 0, 0, 0, 0), (0, 5, 1, 0, 0), (0, 2, 0, 0, 0), (60, 108, 3, 28, 0), (46, 13, 0, 92, 0), (1, 0, 0, 0, 0), (0, 5, 1, 0, 0), (6, 0, 0, 0, 0), (59, 76, 3, 18, 10), (0, 3, 0, 0, 0), (40, 9, 0, 14, 0), (1, 0, 0, 0, 0), (0, 5, 1, 0, 0), (6, 0, 0, 1, 0), (59, 76, 3, 18, 10), (0, 3, 0, 0, 0), (41, 13, 0, 70, 0), (53, 9, 0, 0, 0)] L st σ := EB_eq 109 8 L st σ
theorem bk_109_9 {L : ev_L} {st : List ev_V} {σ : ev_M} : EB 109 9 L st σ = EO 109 [(1, 0, 0, 0, 0), (0, 5, 1, 0, 0), (6, 0, 0, 0, 0), (59, 76, 3, 18, 10), (0, 3, 0, 0, 0), (41, 10, 0, 13, 0), (1, 0, 0, 0, 0), (0, 5, 1, 0, 0), (6, 0, 0, 1, 0), (59, 76, 3, 18, 10), (52, 11, 0, 10, 0)] L st σ := EB_eq 109 9 L st σ
theorem bk_109_10 {L : ev_L} {st : List ev_V} {σ : ev_M} : EB 109 10 L st σ = EO 109 [(1, 0, 0, 0, 0), (0, 5, 1, 0, 0), (6, 0, 0, 0, 0), (59, 76, 3, 18, 10), (53, 11, 0, 0, 0)] L st σ := EB_eq 109 10 L st σ
theorem bk_109_11 {L : ev_L} {st : List ev_V} {σ : ev_M} : EB 109 11 L st σ = EO 109 [(3, 6, 1, 0, 0), (1, 0, 0, 0, 0), (0, 1, 0, 0, 0), (0, 6, 1, 0, 0), (0, 2, 0, 0, 0), (59, 85, 4, 25, 10), (3, 7, 1, 0, 0), (0, 7, 1, 0, 0), (48, 13, 0, 25, 0), (0, 4, 1, 0, 0), (48, 12, 0, 18, 0), (0, 4, 1, 0, 0), (0, 7, 1, 0, 0), (1, 0, 0, 0, 0), (0, 5, 1, 0, 0), (6, 0, 0, 2, 0), (59, 76, 3, 18, 10), (10, 0, 0, 0, 0), (45, 13, 0, 5, 0), (53, 12, 0, 0, 0)] L st σ := EB_eq 109 11 L st σ
theorem bk_109_12 {L : ev_L} {st : List ev_V} {σ : ev_M} : EB 109 12 L st σ = EO 109 [(6, 0, 0, 0, 0), (56, 1, 0, 0, 0)] L st σ := EB_eq 109 12 L st σ
theorem bk_109_13 {L : ev_L} {st : List ev_V} {σ : ev_M} : EB 109 13 L st σ = EO 109 [(23, 5, 0, 1, 0), (52, 8, 0, (-112), 0)] L st σ := EB_eq 109 13 L st σ
theorem bk_109_14 {L : ev_L} {st : List ev_V} {σ : ev_M} : EB 109 14 L st σ = EO 109 [(6, 0, 0, 0, 0), (3, 5, 1, 0, 0), (6, 0, 0, 0, 0), (3, 6, 1, 0, 0), (53, 15, 0, 0, 0)] L st σ := EB_eq 109 14 L st σ
theorem bk_109_15 {L : ev_L} {st : List ev_V} {σ : ev_M} : EB 109 15 L st σ = EO 109 [(1, 0, 0, 0, 0), (0, 1, 0, 0, 0), (0, 3, 0, 0, 0), (0, 2, 0, 0, 0), (0, 5, 1, 0, 0), (59, 86, 5, 34, 10), (48, 31, 0, 248, 0), (1, 0, 0, 0, 0), (0, 1, 0, 0, 0), (0, 3, 0, 0, 0), (0, 2, 0, 0, 0), (0, 5, 1, 0, 0), (59, 86, 5, 34, 10), (3, 7, 1, 0, 0), (0, 5, 1, 0, 0), (47, 16, 0, 12, 0), (0, 7, 1, 0, 0), (0, 1, 0, 0, 0), (40, 18, 0, 21, 0), (52, 17, 0, 16, 0)] L st σ := EB_eq 109 15 L st σ
theorem bk_109_16 {L : ev_L} {st : List ev_V} {σ : ev_M} : EB 109 16 L st σ = EO 109 [(1, 0, 0, 0, 0), (0, 1, 0, 0, 0), (0, 7, 1, 0, 0), (0, 2, 0, 0, 0), (59, 85, 4, 25, 10), (0, 6, 1, 0, 0), (44, 18, 0, 5, 0), (53, 17, 0, 0, 0)] L st σ := EB_eq 109 16 L st σ
theorem bk_109_17 {L : ev_L} {st : List ev_V} {σ : ev_M} : EB 109 17 L st σ = EO 109 [(6, 0, 0, 0, 0), (56, 1, 0, 0, 0)] L st σ := EB_eq 109 17 L st σ
theorem bk_109_18 {L : ev_L} {st : List ev_V} {σ : ev_M} : EB 109 18 L st σ = EO 109 [(0, 6, 1, 0, 0), (3, 8, 1, 0, 0), (1, 0, 0, 0, 0), (0, 1, 0, 0, 0), (0, 7, 1, 0, 0), (0, 2, 0, 0, 0), (59, 85, 4, 25, 10), (3, 6, 1, 0, 0), (0, 5, 1, 0, 0), (51, 30, 0, 183, 0), (6, 0, 0, (-1), 0), (3, 9, 1, 0, 0), (6, 0, 0, 0, 0), (3, 10, 1, 0, 0), (53, 19, 0, 0, 0)] L st σ := EB_eq 109 18 L st σ
theorem bk_109_19 {L : ev_L} {st : List ev_V} {σ : ev_M} : EB 109 19 L st σ = EO 109 [(0, 10, 1, 0, 0), (1, 0, 0, 0, 0), (6, 0, 0, 1, 0), (59, 75, 2, 8, 10), (43, 28, 0, 136, 0), (1, 0, 0, 0, 0), (0, 10, 1, 0, 0), (6, 0, 0, 0, 0), (59, 76, 3, 18, 10), (0, 7, 1, 0, 0), (41, 20, 0, 13, 0), (1, 0, 0, 0, 0), (0, 10, 1, 0, 0), (6, 0, 0, 1, 0), (59, 76, 3, 18, 10), (52, 22, 0, 26, 0)] L st σ := EB_eq 109 19 L st σ
theorem bk_109_20 {L : ev_L} {st : List ev_V} {σ : ev_M} : EB 109 20 L st σ = EO 109 [(1, 0, 0, 0, 0), (0, 10, 1, 0, 0), (6, 0, 0, 1, 0), (59, 76, 3, 18, 10), (0, 7, 1, 0, 0), (41, 21, 0, 13, 0), (1, 0, 0, 0, 0), (0, 10, 1, 0, 0), (6, 0, 0, 0, 0), (59, 76, 3, 18, 10), (52, 22, 0, 4, 0)] L st σ := EB_eq 109 20 L st σ
theorem bk_109_21 {L : ev_L} {st : List ev_V} {σ : ev_M} : EB 109 21 L st σ = EO 109 [(6, 0, 0, (-1), 0), (53, 22, 0, 0, 0)] L st σ := EB_eq 109 21 L st σ
theorem bk_109_22 {L : ev_L} {st : List ev_V} {σ : ev_M} : EB 109 22 L st σ = EO 109 [(3, 11, 1, 0, 0), (0, 11, 1, 0, 0), (48, 23, 0, 49, 0), (1, 0, 0, 0, 0), (0, 10, 1, 0, 0), (0, 2, 0, 0, 0), (60, 108, 3, 28, 0), (46, 23, 0, 39, 0), (1, 0, 0, 0, 0), (0, 1, 0, 0, 0), (0, 11, 1, 0, 0), (0, 2, 0, 0, 0), (59, 85, 4, 25, 10), (48, 23, 0, 28, 0), (1, 0, 0, 0, 0), (0, 1, 0, 0, 0), (0, 11, 1, 0, 0), (0, 2, 0, 0, 0), (59, 85, 4, 25, 10), (1, 0, 0, 0, 0), (0, 10, 1, 0, 0), (6, 0, 0, 2, 0), (59, 76, 3, 18, 10), (10, 0, 0, 0, 0), (0, 6, 1, 0, 0), (41, 23, 0, 7, 0), (6, 0, 0, 1, 0), (52, 24, 0, 4, 0)] L st σ := EB_eq 109 22 L st σ
theorem bk_109_23 {L : ev_L} {st : List ev_V} {σ : ev_M} : EB 109 23 L st σ = EO 109 [(6, 0, 0, 0, 0), (53, 24, 0, 0, 0)] L st σ := EB_eq 109 23 L st σ
theorem bk_109_24 {L : ev_L} {st : List ev_V} {σ : ev_M} : EB 109 24 L st σ = EO 109 [(3, 12, 1, 0, 0), (0, 12, 1, 0, 0), (46, 26, 0, 20, 0), (0, 9, 1, 0, 0), (48, 25, 0, 10, 0), (0, 11, 1, 0, 0), (0, 9, 1, 0, 0), (43, 26, 0, 8, 0), (53, 25, 0, 0, 0)] L st σ := EB_eq 109 24 L st σ
theorem bk_109_25 {L : ev_L} {st : List ev_V} {σ : ev_M} : EB 109 25 L st σ = EO 109 [(0, 11, 1, 0, 0), (52, 27, 0, 5, 0)] L st σ := EB_eq 109 25 L st σ
theorem bk_109_26 {L : ev_L} {st : List ev_V} {σ : ev_M} : EB 109 26 L st σ = EO 109 [(0, 9, 1, 0, 0), (53, 27, 0, 0, 0)] L st σ := EB_eq 109 26 L st σ
theorem bk_109_27 {L : ev_L} {st : List ev_V} {σ : ev_M} : EB 109 27 L st σ = EO 109 [(3, 9, 1, 0, 0), (23, 10, 0, 1, 0), (52, 19, 0, (-140), 0)] L st σ := EB_eq 109 27 L st σ
theorem bk_109_28 {L : ev_L} {st : List ev_V} {σ : ev_M} : EB 109 28 L st σ = EO 109 [(0, 9, 1, 0, 0), (1, 0, 0, 0, 0), (0, 1, 0, 0, 0), (0, 3, 0, 0, 0), (0, 2, 0, 0, 0), (0, 5, 1, 0, 0), (6, 0, 0, 1, 0), (11, 0, 0, 0, 0), (59, 86, 5, 34, 10), (41, 29, 0, 16, 0), (1, 0, 0, 0, 0), (0, 1, 0, 0, 0), (0, 9, 1, 0, 0), (0, 2, 0, 0, 0), (59, 85, 4, 25, 10), (0, 8, 1, 0, 0), (40, 30, 0, 5, 0), (53, 29, 0, 0, 0)] L st σ := EB_eq 109 28 L st σ
theorem bk_109_29 {L : ev_L} {st : List ev_V} {σ : ev_M} : EB 109 29 L st σ = EO 109 [(6, 0, 0, 0, 0), (56, 1, 0, 0, 0)] L st σ := EB_eq 109 29 L st σ
theorem bk_109_30 {L : ev_L} {st : List ev_V} {σ : ev_M} : EB 109 30 L st σ = EO 109 [(23, 5, 0, 1, 0), (52, 15, 0, (-254), 0)] L st σ := EB_eq 109 30 L st σ
theorem bk_109_31 {L : ev_L} {st : List ev_V} {σ : ev_M} : EB 109 31 L st σ = EO 109 [(0, 4, 1, 0, 0), (49, 32, 0, 11, 0), (0, 5, 1, 0, 0), (46, 34, 0, 40, 0), (52, 33, 0, 35, 0)] L st σ := EB_eq 109 31 L st σ
theorem bk_109_32 {L : ev_L} {st : List ev_V} {σ : ev_M} : EB 109 32 L st σ = EO 109 [(0, 6, 1, 0, 0), (0, 4, 1, 0, 0), (41, 33, 0, 28, 0), (1, 0, 0, 0, 0), (0, 1, 0, 0, 0), (0, 3, 0, 0, 0), (0, 2, 0, 0, 0), (0, 5, 1, 0, 0), (6, 0, 0, 1, 0), (11, 0, 0, 0, 0), (59, 86, 5, 34, 10), (0, 3, 0, 0, 0), (41, 33, 0, 13, 0), (0, 5, 1, 0, 0), (1, 0, 0, 0, 0), (6, 0, 0, 0, 0), (59, 75, 2, 8, 10), (45, 34, 0, 5, 0), (53, 33, 0, 0, 0)] L st σ := EB_eq 109 32 L st σ
theorem bk_109_33 {L : ev_L} {st : List ev_V} {σ : ev_M} : EB 109 33 L st σ = EO 109 [(6, 0, 0, 0, 0), (56, 1, 0, 0, 0)] L st σ := EB_eq 109 33 L st σ
theorem bk_109_34 {L : ev_L} {st : List ev_V} {σ : ev_M} : EB 109 34 L st σ = EO 109 [(23, 3, 0, 1, 0), (52, 1, 0, (-486), 0)] L st σ := EB_eq 109 34 L st σ
theorem bk_109_35 {L : ev_L} {st : List ev_V} {σ : ev_M} : EB 109 35 L st σ = EO 109 [(6, 0, 0, 1, 0), (56, 1, 0, 0, 0)] L st σ := EB_eq 109 35 L st σ
theorem mm_110 {i0 : Int} {σ : ev_M} : EM 110 [.inr (.inl i0)] σ = EB 110 0 [some (.inr (.inl i0)), none, none, none, none, none, none, none, none, none, none, none, none] [] σ := by
  unfold EM ev_go
  exact if_pos (Nat.le_of_ble_eq_true rfl)
theorem bk_110_0 {L : ev_L} {st : List ev_V} {σ : ev_M} : EB 110 0 L st σ = EO 110 [(1, 0, 0, 0, 0), (6, 0, 0, 3, 0), (59, 75, 2, 8, 10), (3, 1, 0, 0, 0), (1, 0, 0, 0, 0), (6, 0, 0, 4, 0), (59, 75, 2, 8, 10), (3, 2, 0, 0, 0), (1, 0, 0, 0, 0), (59, 94, 1, 38, 10), (3, 3, 0, 0, 0), (0, 1, 0, 0, 0), (46, 1, 0, 7, 0), (0, 2, 0, 0, 0), (47, 7, 0, 36, 0), (53, 1, 0, 0, 0)] L st σ := EB_eq 110 0 L st σ
theorem bk_110_1 {L : ev_L} {st : List ev_V} {σ : ev_M} : EB 110 1 L st σ = EO 110 [(0, 3, 0, 0, 0), (0, 1, 0, 0, 0), (47, 2, 0, 7, 0), (6, 0, 0, 0, 0), (52, 3, 0, 4, 0)] L st σ := EB_eq 110 1 L st σ
theorem bk_110_2 {L : ev_L} {st : List ev_V} {σ : ev_M} : EB 110 2 L st σ = EO 110 [(6, 0, 0, (-1), 0), (53, 3, 0, 0, 0)] L st σ := EB_eq 110 2 L st σ
theorem bk_110_3 {L : ev_L} {st : List ev_V} {σ : ev_M} : EB 110 3 L st σ = EO 110 [(41, 5, 0, 21, 0), (0, 1, 0, 0, 0), (46, 4, 0, 13, 0), (1, 0, 0, 0, 0), (6, 0, 0, 0, 0), (6, 0, 0, 3, 0), (59, 92, 3, 42, 10), (6, 0, 0, (-1), 0), (41, 5, 0, 7, 0), (53, 4, 0, 0, 0)] L st σ := EB_eq 110 3 L st σ
theorem bk_110_4 {L : ev_L} {st : List ev_V} {σ : ev_M} : EB 110 4 L st σ = EO 110 [(6, 0, 0, 1, 0), (52, 6, 0, 4, 0)] L st σ := EB_eq 110 4 L st σ
theorem bk_110_5 {L : ev_L} {st : List ev_V} {σ : ev_M} : EB 110 5 L st σ = EO 110 [(6, 0, 0, 0, 0), (53, 6, 0, 0, 0)] L st σ := EB_eq 110 5 L st σ
theorem bk_110_6 {L : ev_L} {st : List ev_V} {σ : ev_M} : EB 110 6 L st σ = EO 110 [(56, 1, 0, 0, 0)] L st σ := EB_eq 110 6 L st σ
theorem bk_110_7 {L : ev_L} {st : List ev_V} {σ : ev_M} : EB 110 7 L st σ = EO 110 [(6, 0, 0, 0, 0), (3, 4, 1, 0, 0), (6, 0, 0, 0, 0), (3, 5, 1, 0, 0), (53, 8, 0, 0, 0)] L st σ := EB_eq 110 7 L st σ
theorem bk_110_8 {L : ev_L} {st : List ev_V} {σ : ev_M} : EB 110 8 L st σ = EO 110 [(0, 5, 1, 0, 0), (0, 2, 0, 0, 0), (43, 22, 0, 209, 0), (6, 0, 0, 0, 0), (3, 6, 1, 0, 0), (6, 0, 0, 0, 0), (3, 7, 1, 0, 0), (6, 0, 0, 0, 0), (3, 8, 1, 0, 0), (6, 0, 0, 0, 0), (3, 9, 1, 0, 0), (53, 9, 0, 0, 0)] L st σ := EB_eq 110 8 L st σ
theorem bk_110_9 {L : ev_L} {st : List ev_V} {σ : ev_M} : EB 110 9 L st σ = EO 110 [(0, 9, 1, 0, 0), (0, 1, 0, 0, 0), (43, 17, 0, 109, 0), (1, 0, 0, 0, 0), (1, 0, 0, 0, 0), (0, 9, 1, 0, 0), (6, 0, 0, 0, 0), (59, 92, 3, 42, 10), (1, 0, 0, 0, 0), (0, 9, 1, 0, 0), (6, 0, 0, 1, 0), (59, 92, 3, 42, 10), (6, 0, 0, 0, 0), (59, 78, 4, 21, 10), (3, 10, 1, 0, 0), (1, 0, 0, 0, 0), (0, 9, 1, 0, 0), (6, 0, 0, 2, 0), (59, 92, 3, 42, 10), (1, 0, 0, 0, 0), (0, 5, 1, 0, 0), (6, 0, 0, 1, 0), (0, 10, 1, 0, 0), (10, 0, 0, 0, 0), (59, 93, 3, 45, 10), (12, 0, 0, 0, 0), (3, 11, 1, 0, 0), (1, 0, 0, 0, 0), (0, 9, 1, 0, 0), (6, 0, 0, 3, 0), (59, 92, 3, 42, 10), (0, 5, 1, 0, 0), (41, 10, 0, 7, 0), (6, 0, 0, 1, 0), (52, 11, 0, 4, 0)] L st σ := EB_eq 110 9 L st σ
theorem bk_110_10 {L : ev_L} {st : List ev_V} {σ : ev_M} : EB 110 10 L st σ = EO 110 [(6, 0, 0, 0, 0), (53, 11, 0, 0, 0)] L st σ := EB_eq 110 10 L st σ
theorem bk_110_11 {L : ev_L} {st : List ev_V} {σ : ev_M} : EB 110 11 L st σ = EO 110 [(3, 12, 1, 0, 0), (0, 8, 1, 0, 0), (47, 12, 0, 8, 0), (0, 12, 1, 0, 0), (46, 13, 0, 7, 0), (53, 12, 0, 0, 0)] L st σ := EB_eq 110 11 L st σ
theorem bk_110_12 {L : ev_L} {st : List ev_V} {σ : ev_M} : EB 110 12 L st σ = EO 110 [(6, 0, 0, 1, 0), (52, 14, 0, 4, 0)] L st σ := EB_eq 110 12 L st σ
theorem bk_110_13 {L : ev_L} {st : List ev_V} {σ : ev_M} : EB 110 13 L st σ = EO 110 [(6, 0, 0, 0, 0), (53, 14, 0, 0, 0)] L st σ := EB_eq 110 13 L st σ
theorem bk_110_14 {L : ev_L} {st : List ev_V} {σ : ev_M} : EB 110 14 L st σ = EO 110 [(3, 8, 1, 0, 0), (0, 6, 1, 0, 0), (0, 12, 1, 0, 0), (46, 15, 0, 8, 0), (0, 11, 1, 0, 0), (52, 16, 0, 4, 0)] L st σ := EB_eq 110 14 L st σ
theorem bk_110_15 {L : ev_L} {st : List ev_V} {σ : ev_M} : EB 110 15 L st σ = EO 110 [(6, 0, 0, 0, 0), (53, 16, 0, 0, 0)] L st σ := EB_eq 110 15 L st σ
theorem bk_110_16 {L : ev_L} {st : List ev_V} {σ : ev_M} : EB 110 16 L st σ = EO 110 [(10, 0, 0, 0, 0), (3, 6, 1, 0, 0), (0, 7, 1, 0, 0), (0, 11, 1, 0, 0), (10, 0, 0, 0, 0), (3, 7, 1, 0, 0), (23, 9, 0, 1, 0), (52, 9, 0, (-109), 0)] L st σ := EB_eq 110 16 L st σ
theorem bk_110_17 {L : ev_L} {st : List ev_V} {σ : ev_M} : EB 110 17 L st σ = EO 110 [(1, 0, 0, 0, 0), (0, 5, 1, 0, 0), (6, 0, 0, 5, 0), (59, 93, 3, 45, 10), (0, 8, 1, 0, 0), (46, 18, 0, 16, 0), (0, 6, 1, 0, 0), (1, 0, 0, 0, 0), (0, 5, 1, 0, 0), (6, 0, 0, 0, 0), (59, 93, 3, 45, 10), (10, 0, 0, 0, 0), (52, 19, 0, 4, 0)] L st σ := EB_eq 110 17 L st σ
theorem bk_110_18 {L : ev_L} {st : List ev_V} {σ : ev_M} : EB 110 18 L st σ = EO 110 [(6, 0, 0, 0, 0), (53, 19, 0, 0, 0)] L st σ := EB_eq 110 18 L st σ
theorem bk_110_19 {L : ev_L} {st : List ev_V} {σ : ev_M} : EB 110 19 L st σ = EO 110 [(41, 20, 0, 36, 0), (1, 0, 0, 0, 0), (0, 5, 1, 0, 0), (6, 1, 0, 6, 0), (59, 93, 3, 45, 10), (0, 7, 1, 0, 0), (1, 0, 0, 0, 0), (0, 5, 1, 0, 0), (6, 0, 0, 0, 0), (59, 93, 3, 45, 10), (10, 0, 0, 0, 0), (41, 20, 0, 15, 0), (0, 3, 0, 0, 0), (1, 0, 0, 0, 0), (0, 5, 1, 0, 0), (6, 1, 0, 6, 0), (59, 93, 3, 45, 10), (45, 21, 0, 5, 0), (53, 20, 0, 0, 0)] L st σ := EB_eq 110 19 L st σ
theorem bk_110_20 {L : ev_L} {st : List ev_V} {σ : ev_M} : EB 110 20 L st σ = EO 110 [(6, 0, 0, 0, 0), (56, 1, 0, 0, 0)] L st σ := EB_eq 110 20 L st σ
theorem bk_110_21 {L : ev_L} {st : List ev_V} {σ : ev_M} : EB 110 21 L st σ = EO 110 [(0, 4, 1, 0, 0), (1, 0, 0, 0, 0), (0, 5, 1, 0, 0), (6, 0, 0, 5, 0), (59, 93, 3, 45, 10), (10, 0, 0, 0, 0), (3, 4, 1, 0, 0), (23, 5, 0, 1, 0), (52, 8, 0, (-209), 0)] L st σ := EB_eq 110 21 L st σ
theorem bk_110_22 {L : ev_L} {st : List ev_V} {σ : ev_M} : EB 110 22 L st σ = EO 110 [(0, 4, 1, 0, 0), (0, 3, 0, 0, 0), (41, 23, 0, 7, 0), (6, 0, 0, 1, 0), (52, 24, 0, 4, 0)] L st σ := EB_eq 110 22 L st σ
theorem bk_110_23 {L : ev_L} {st : List ev_V} {σ : ev_M} : EB 110 23 L st σ = EO 110 [(6, 0, 0, 0, 0), (53, 24, 0, 0, 0)] L st σ := EB_eq 110 23 L st σ
theorem bk_110_24 {L : ev_L} {st : List ev_V} {σ : ev_M} : EB 110 24 L st σ = EO 110 [(56, 1, 0, 0, 0)] L st σ := EB_eq 110 24 L st σ
theorem mm_111 {i0 : Int} {x1 : Int} {x2 : Int} {σ : ev_M} : EM 111 [.inr (.inl i0), .inl x1, .inl x2] σ = EB 111 0 [some (.inr (.inl i0)), some (.inl x1), some (.inl x2), none, none, none, none, none, none, none, none, none, none, none, none, none, none] [] σ := by
  unfold EM ev_go
  exact if_pos (Nat.le_of_ble_eq_true rfl)
theorem bk_111_0 {L : ev_L} {st : List ev_V} {σ : ev_M} : EB 111 0 L st σ = EO 111 [(1, 0, 0, 0, 0), (59, 102, 1, 48, 10), (5, 3, 0, 0, 0), (1, 0, 0, 0, 0), (6, 1, 0, 9, 0), (59, 75, 2, 8, 10), (3, 5, 1, 0, 0), (1, 0, 0, 0, 0), (6, 1, 0, 6, 0), (59, 75, 2, 8, 10), (3, 6, 1, 0, 0), (1, 0, 0, 0, 0), (6, 1, 0, 7, 0), (59, 75, 2, 8, 10), (3, 7, 1, 0, 0), (1, 0, 0, 0, 0), (0, 1, 0, 0, 0), (0, 2, 0, 0, 0), (6, 0, 0, 0, 0), (59, 83, 4, 52, 10), (3, 8, 1, 0, 0), (6, 0, 0, 0, 0), (3, 9, 1, 0, 0), (6, 0, 0, 0, 0), (3, 10, 1, 0, 0), (53, 1, 0, 0, 0)] L st σ := EB_eq 111 0 L st σ
theorem bk_111_1 {L : ev_L} {st : List ev_V} {σ : ev_M} : EB 111 1 L st σ = EO 111 [(1, 0, 0, 0, 0), (0, 1, 0, 0, 0), (0, 2, 0, 0, 0), (0, 9, 1, 0, 0), (59, 83, 4, 52, 10), (48, 6, 0, 78, 0), (1, 0, 0, 0, 0), (0, 1, 0, 0, 0), (0, 2, 0, 0, 0), (0, 9, 1, 0, 0), (59, 83, 4, 52, 10), (3, 11, 1, 0, 0), (6, 0, 0, 0, 0), (3, 12, 1, 0, 0), (53, 2, 0, 0, 0)] L st σ := EB_eq 111 1 L st σ
theorem bk_111_2 {L : ev_L} {st : List ev_V} {σ : ev_M} : EB 111 2 L st σ = EO 111 [(0, 12, 1, 0, 0), (0, 9, 1, 0, 0), (43, 4, 0, 24, 0), (1, 0, 0, 0, 0), (0, 1, 0, 0, 0), (0, 2, 0, 0, 0), (0, 12, 1, 0, 0), (59, 83, 4, 52, 10), (0, 11, 1, 0, 0), (41, 3, 0, 5, 0), (6, 0, 0, 0, 0), (56, 1, 0, 0, 0)] L st σ := EB_eq 111 2 L st σ
theorem bk_111_3 {L : ev_L} {st : List ev_V} {σ : ev_M} : EB 111 3 L st σ = EO 111 [(23, 12, 0, 1, 0), (52, 2, 0, (-25), 0)] L st σ := EB_eq 111 3 L st σ
theorem bk_111_4 {L : ev_L} {st : List ev_V} {σ : ev_M} : EB 111 4 L st σ = EO 111 [(0, 10, 1, 0, 0), (6, 0, 0, 5, 0), (1, 0, 0, 0, 0), (0, 11, 1, 0, 0), (6, 0, 0, 1, 0), (59, 77, 3, 14, 10), (10, 0, 0, 0, 0), (10, 0, 0, 0, 0), (3, 10, 1, 0, 0), (1, 0, 0, 0, 0), (0, 11, 1, 0, 0), (6, 1, 0, 6, 0), (59, 77, 3, 14, 10), (6, 0, 0, 1, 0), (40, 5, 0, 5, 0), (6, 0, 0, 0, 0), (56, 1, 0, 0, 0)] L st σ := EB_eq 111 4 L st σ
theorem bk_111_5 {L : ev_L} {st : List ev_V} {σ : ev_M} : EB 111 5 L st σ = EO 111 [(23, 9, 0, 1, 0), (52, 1, 0, (-83), 0)] L st σ := EB_eq 111 5 L st σ
theorem bk_111_6 {L : ev_L} {st : List ev_V} {σ : ev_M} : EB 111 6 L st σ = EO 111 [(0, 8, 1, 0, 0), (48, 17, 0, 229, 0), (1, 0, 0, 0, 0), (0, 1, 0, 0, 0), (1, 0, 0, 0, 0), (1, 0, 0, 0, 0), (0, 8, 1, 0, 0), (6, 0, 0, 0, 0), (59, 77, 3, 14, 10), (6, 0, 0, 0, 0), (59, 76, 3, 18, 10), (6, 1, 0, 12, 0), (59, 85, 4, 25, 10), (3, 11, 1, 0, 0), (1, 0, 0, 0, 0), (0, 1, 0, 0, 0), (1, 0, 0, 0, 0), (1, 0, 0, 0, 0), (0, 8, 1, 0, 0), (6, 0, 0, 0, 0), (59, 77, 3, 14, 10), (6, 0, 0, 1, 0), (59, 76, 3, 18, 10), (6, 1, 0, 12, 0), (59, 85, 4, 25, 10), (3, 12, 1, 0, 0), (0, 11, 1, 0, 0), (49, 7, 0, 8, 0), (0, 12, 1, 0, 0), (52, 10, 0, 27, 0)] L st σ := EB_eq 111 6 L st σ
theorem bk_111_7 {L : ev_L} {st : List ev_V} {σ : ev_M} : EB 111 7 L st σ = EO 111 [(0, 12, 1, 0, 0), (49, 8, 0, 8, 0), (0, 11, 1, 0, 0), (52, 10, 0, 17, 0)] L st σ := EB_eq 111 7 L st σ
theorem bk_111_8 {L : ev_L} {st : List ev_V} {σ : ev_M} : EB 111 8 L st σ = EO 111 [(0, 11, 1, 0, 0), (0, 12, 1, 0, 0), (43, 9, 0, 8, 0), (0, 11, 1, 0, 0), (52, 10, 0, 5, 0)] L st σ := EB_eq 111 8 L st σ
theorem bk_111_9 {L : ev_L} {st : List ev_V} {σ : ev_M} : EB 111 9 L st σ = EO 111 [(0, 12, 1, 0, 0), (53, 10, 0, 0, 0)] L st σ := EB_eq 111 9 L st σ
theorem bk_111_10 {L : ev_L} {st : List ev_V} {σ : ev_M} : EB 111 10 L st σ = EO 111 [(3, 13, 1, 0, 0), (0, 13, 1, 0, 0), (48, 11, 0, 17, 0), (0, 13, 1, 0, 0), (6, 1, 0, 9, 0), (10, 0, 0, 0, 0), (6, 1, 0, 10, 0), (13, 0, 0, 0, 0), (6, 0, 0, 4, 0), (10, 0, 0, 0, 0), (0, 2, 0, 0, 0), (45, 12, 0, 5, 0), (53, 11, 0, 0, 0)] L st σ := EB_eq 111 10 L st σ
theorem bk_111_11 {L : ev_L} {st : List ev_V} {σ : ev_M} : EB 111 11 L st σ = EO 111 [(6, 0, 0, 0, 0), (56, 1, 0, 0, 0)] L st σ := EB_eq 111 11 L st σ
theorem bk_111_12 {L : ev_L} {st : List ev_V} {σ : ev_M} : EB 111 12 L st σ = EO 111 [(6, 0, 0, 0, 0), (3, 14, 1, 0, 0), (53, 13, 0, 0, 0)] L st σ := EB_eq 111 12 L st σ
theorem bk_111_13 {L : ev_L} {st : List ev_V} {σ : ev_M} : EB 111 13 L st σ = EO 111 [(0, 14, 1, 0, 0), (1, 0, 0, 0, 0), (6, 0, 0, 2, 0), (59, 75, 2, 8, 10), (43, 17, 0, 117, 0), (1, 0, 0, 0, 0), (0, 1, 0, 0, 0), (1, 0, 0, 0, 0), (1, 0, 0, 0, 0), (0, 14, 1, 0, 0), (6, 0, 0, 0, 0), (59, 77, 3, 14, 10), (6, 0, 0, 0, 0), (59, 76, 3, 18, 10), (6, 1, 0, 12, 0), (59, 85, 4, 25, 10), (3, 15, 1, 0, 0), (1, 0, 0, 0, 0), (0, 1, 0, 0, 0), (1, 0, 0, 0, 0), (1, 0, 0, 0, 0), (0, 14, 1, 0, 0), (6, 0, 0, 0, 0), (59, 77, 3, 14, 10), (6, 0, 0, 1, 0), (59, 76, 3, 18, 10), (6, 1, 0, 12, 0), (59, 85, 4, 25, 10), (3, 16, 1, 0, 0), (1, 0, 0, 0, 0), (0, 14, 1, 0, 0), (6, 1, 0, 6, 0), (59, 77, 3, 14, 10), (6, 0, 0, 1, 0), (41, 16, 0, 57, 0), (0, 15, 1, 0, 0), (48, 14, 0, 24, 0), (0, 15, 1, 0, 0), (0, 13, 1, 0, 0), (42, 15, 0, 43, 0), (0, 15, 1, 0, 0), (0, 13, 1, 0, 0), (41, 14, 0, 10, 0), (0, 14, 1, 0, 0), (0, 8, 1, 0, 0), (42, 15, 0, 29, 0), (53, 14, 0, 0, 0)] L st σ := EB_eq 111 13 L st σ
theorem bk_111_14 {L : ev_L} {st : List ev_V} {σ : ev_M} : EB 111 14 L st σ = EO 111 [(0, 16, 1, 0, 0), (48, 16, 0, 26, 0), (0, 16, 1, 0, 0), (0, 13, 1, 0, 0), (42, 15, 0, 17, 0), (0, 16, 1, 0, 0), (0, 13, 1, 0, 0), (41, 16, 0, 12, 0), (0, 14, 1, 0, 0), (0, 8, 1, 0, 0), (43, 16, 0, 5, 0), (53, 15, 0, 0, 0)] L st σ := EB_eq 111 14 L st σ
theorem bk_111_15 {L : ev_L} {st : List ev_V} {σ : ev_M} : EB 111 15 L st σ = EO 111 [(6, 0, 0, 0, 0), (56, 1, 0, 0, 0)] L st σ := EB_eq 111 15 L st σ
theorem bk_111_16 {L : ev_L} {st : List ev_V} {σ : ev_M} : EB 111 16 L st σ = EO 111 [(23, 14, 0, 1, 0), (52, 13, 0, (-121), 0)] L st σ := EB_eq 111 16 L st σ
theorem bk_111_17 {L : ev_L} {st : List ev_V} {σ : ev_M} : EB 111 17 L st σ = EO 111 [(1, 0, 0, 0, 0), (59, 102, 1, 48, 10), (2, 3, 0, 0, 0), (9, 0, 0, 0, 0), (47, 18, 0, 63, 0), (1, 0, 0, 0, 0), (0, 1, 0, 0, 0), (0, 2, 0, 0, 0), (59, 82, 3, 55, 10), (0, 9, 1, 0, 0), (41, 18, 0, 52, 0), (1, 0, 0, 0, 0), (6, 1, 0, 6, 0), (59, 75, 2, 8, 10), (0, 6, 1, 0, 0), (0, 9, 1, 0, 0), (10, 0, 0, 0, 0), (41, 18, 0, 38, 0), (1, 0, 0, 0, 0), (6, 1, 0, 7, 0), (59, 75, 2, 8, 10), (0, 7, 1, 0, 0), (0, 10, 1, 0, 0), (10, 0, 0, 0, 0), (41, 18, 0, 24, 0), (1, 0, 0, 0, 0), (6, 1, 0, 9, 0), (59, 75, 2, 8, 10), (0, 5, 1, 0, 0), (0, 9, 1, 0, 0), (11, 0, 0, 0, 0), (41, 18, 0, 10, 0), (1, 0, 0, 0, 0), (60, 107, 1, 58, 0), (47, 19, 0, 5, 0), (53, 18, 0, 0, 0)] L st σ := EB_eq 111 17 L st σ
theorem bk_111_18 {L : ev_L} {st : List ev_V} {σ : ev_M} : EB 111 18 L st σ = EO 111 [(6, 0, 0, 0, 0), (56, 1, 0, 0, 0)] L st σ := EB_eq 111 18 L st σ
theorem bk_111_19 {L : ev_L} {st : List ev_V} {σ : ev_M} : EB 111 19 L st σ = EO 111 [(1, 0, 0, 0, 0), (59, 97, 1, 62, 10), (48, 20, 0, 16, 0), (1, 0, 0, 0, 0), (59, 102, 1, 48, 10), (2, 3, 0, 0, 0), (9, 0, 0, 0, 0), (47, 20, 0, 7, 0), (6, 0, 0, 1, 0), (52, 21, 0, 4, 0)] L st σ := EB_eq 111 19 L st σ
theorem bk_111_20 {L : ev_L} {st : List ev_V} {σ : ev_M} : EB 111 20 L st σ = EO 111 [(6, 0, 0, 0, 0), (53, 21, 0, 0, 0)] L st σ := EB_eq 111 20 L st σ
theorem bk_111_21 {L : ev_L} {st : List ev_V} {σ : ev_M} : EB 111 21 L st σ = EO 111 [(56, 1, 0, 0, 0)] L st σ := EB_eq 111 21 L st σ
theorem mm_112 {i0 : Int} {x1 : Int} {σ : ev_M} : EM 112 [.inr (.inl i0), .inl x1] σ = EB 112 0 [some (.inr (.inl i0)), some (.inl x1), none, none] [] σ := by
  unfold EM ev_go
  exact if_pos (Nat.le_of_ble_eq_true rfl)
theorem bk_112_0 {L : ev_L} {st : List ev_V} {σ : ev_M} : EB 112 0 L st σ = EO 112 [(0, 1, 0, 0, 0), (6, 0, 0, 4, 0), (19, 0, 0, 0, 0), (1, 0, 0, 0, 0), (6, 0, 0, 2, 0), (59, 75, 2, 8, 10), (6, 0, 0, 1, 0), (10, 0, 0, 0, 0), (60, 106, 2, 65, 0), (3, 2, 0, 0, 0), (0, 1, 0, 0, 0), (6, 1, 0, 7, 0), (19, 0, 0, 0, 0), (6, 1, 0, 6, 0), (60, 106, 2, 65, 0), (3, 3, 0, 0, 0), (0, 1, 0, 0, 0), (6, 1, 0, 18, 0), (60, 106, 2, 65, 0), (54, 7, 0, 0, 0)] L st σ := EB_eq 112 0 L st σ
theorem bk_112_1 {L : ev_L} {st : List ev_V} {σ : ev_M} : EB 112 1 L st σ = EO 112 [(1, 0, 0, 0, 0), (6, 0, 0, 1, 0), (0, 1, 0, 0, 0), (6, 0, 0, 4, 0), (19, 0, 0, 0, 0), (6, 0, 0, 1, 0), (15, 0, 0, 0, 0), (10, 0, 0, 0, 0), (59, 68, 2, 68, 10), (56, 0, 0, 0, 0)] L st σ := EB_eq 112 1 L st σ
theorem bk_112_2 {L : ev_L} {st : List ev_V} {σ : ev_M} : EB 112 2 L st σ = EO 112 [(1, 0, 0, 0, 0), (0, 1, 0, 0, 0), (6, 0, 0, 4, 0), (19, 0, 0, 0, 0), (6, 1, 0, 9, 0), (60, 106, 2, 65, 0), (0, 1, 0, 0, 0), (6, 1, 0, 8, 0), (19, 0, 0, 0, 0), (6, 1, 0, 9, 0), (60, 106, 2, 65, 0), (6, 0, 0, 1, 0), (0, 1, 0, 0, 0), (6, 1, 0, 12, 0), (19, 0, 0, 0, 0), (6, 1, 0, 99, 0), (60, 106, 2, 65, 0), (10, 0, 0, 0, 0), (59, 69, 4, 71, 10), (56, 0, 0, 0, 0)] L st σ := EB_eq 112 2 L st σ
theorem bk_112_3 {L : ev_L} {st : List ev_V} {σ : ev_M} : EB 112 3 L st σ = EO 112 [(1, 0, 0, 0, 0), (0, 1, 0, 0, 0), (6, 0, 0, 4, 0), (19, 0, 0, 0, 0), (1, 0, 0, 0, 0), (6, 0, 0, 1, 0), (59, 75, 2, 8, 10), (6, 0, 0, 1, 0), (10, 0, 0, 0, 0), (60, 106, 2, 65, 0), (59, 70, 2, 74, 10), (56, 0, 0, 0, 0)] L st σ := EB_eq 112 3 L st σ
theorem bk_112_4 {L : ev_L} {st : List ev_V} {σ : ev_M} : EB 112 4 L st σ = EO 112 [(1, 0, 0, 0, 0), (0, 2, 0, 0, 0), (0, 1, 0, 0, 0), (6, 1, 0, 7, 0), (19, 0, 0, 0, 0), (6, 0, 0, 4, 0), (60, 106, 2, 65, 0), (0, 1, 0, 0, 0), (6, 1, 0, 9, 0), (19, 0, 0, 0, 0), (6, 1, 0, 10, 0), (60, 106, 2, 65, 0), (0, 1, 0, 0, 0), (6, 1, 0, 13, 0), (19, 0, 0, 0, 0), (6, 1, 0, 61, 0), (60, 106, 2, 65, 0), (59, 71, 5, 77, 10), (56, 0, 0, 0, 0)] L st σ := EB_eq 112 4 L st σ
theorem bk_112_5 {L : ev_L} {st : List ev_V} {σ : ev_M} : EB 112 5 L st σ = EO 112 [(1, 0, 0, 0, 0), (0, 2, 0, 0, 0), (0, 3, 0, 0, 0), (0, 1, 0, 0, 0), (6, 1, 0, 10, 0), (19, 0, 0, 0, 0), (6, 0, 0, 3, 0), (15, 0, 0, 0, 0), (47, 6, 0, 7, 0), (6, 0, 0, (-1), 0), (52, 7, 0, 6, 0)] L st σ := EB_eq 112 5 L st σ
theorem bk_112_6 {L : ev_L} {st : List ev_V} {σ : ev_M} : EB 112 6 L st σ = EO 112 [(0, 3, 0, 0, 0), (6, 0, 0, 1, 0), (10, 0, 0, 0, 0), (53, 7, 0, 0, 0)] L st σ := EB_eq 112 6 L st σ
theorem bk_112_7 {L : ev_L} {st : List ev_V} {σ : ev_M} : EB 112 7 L st σ = EO 112 [(59, 72, 4, 80, 10), (56, 0, 0, 0, 0)] L st σ := EB_eq 112 7 L st σ
theorem bk_112_8 {L : ev_L} {st : List ev_V} {σ : ev_M} : EB 112 8 L st σ = EO 112 [(1, 0, 0, 0, 0), (0, 2, 0, 0, 0), (0, 3, 0, 0, 0), (0, 1, 0, 0, 0), (6, 1, 0, 10, 0), (19, 0, 0, 0, 0), (6, 1, 0, 10, 0), (60, 106, 2, 65, 0), (59, 73, 4, 83, 10), (56, 0, 0, 0, 0)] L st σ := EB_eq 112 8 L st σ
theorem bk_112_9 {L : ev_L} {st : List ev_V} {σ : ev_M} : EB 112 9 L st σ = EO 112 [(1, 0, 0, 0, 0), (0, 2, 0, 0, 0), (0, 1, 0, 0, 0), (6, 1, 0, 7, 0), (19, 0, 0, 0, 0), (6, 0, 0, 1, 0), (15, 0, 0, 0, 0), (47, 10, 0, 7, 0), (6, 0, 0, 1, 0), (52, 11, 0, 4, 0)] L st σ := EB_eq 112 9 L st σ
theorem bk_112_10 {L : ev_L} {st : List ev_V} {σ : ev_M} : EB 112 10 L st σ = EO 112 [(6, 0, 0, 0, 0), (53, 11, 0, 0, 0)] L st σ := EB_eq 112 10 L st σ
theorem bk_112_11 {L : ev_L} {st : List ev_V} {σ : ev_M} : EB 112 11 L st σ = EO 112 [(59, 74, 3, 86, 10), (56, 0, 0, 0, 0)] L st σ := EB_eq 112 11 L st σ
theorem bk_112_12 {L : ev_L} {st : List ev_V} {σ : ev_M} : EB 112 12 L st σ = EO 112 [(1, 0, 0, 0, 0), (6, 0, 0, 1, 0), (0, 1, 0, 0, 0), (6, 0, 0, 4, 0), (19, 0, 0, 0, 0), (6, 0, 0, 4, 0), (60, 106, 2, 65, 0), (10, 0, 0, 0, 0), (59, 80, 2, 90, 10), (56, 0, 0, 0, 0)] L st σ := EB_eq 112 12 L st σ
theorem bk_112_13 {L : ev_L} {st : List ev_V} {σ : ev_M} : EB 112 13 L st σ = EO 112 [(1, 0, 0, 0, 0), (0, 2, 0, 0, 0), (59, 81, 2, 93, 10), (56, 0, 0, 0, 0)] L st σ := EB_eq 112 13 L st σ
theorem bk_112_14 {L : ev_L} {st : List ev_V} {σ : ev_M} : EB 112 14 L st σ = EO 112 [(1, 0, 0, 0, 0), (0, 1, 0, 0, 0), (6, 0, 0, 4, 0), (19, 0, 0, 0, 0), (6, 2, 0, 200, 0), (60, 106, 2, 65, 0), (6, 0, 0, 1, 0), (0, 1, 0, 0, 0), (6, 1, 0, 7, 0), (19, 0, 0, 0, 0), (6, 1, 0, 30, 0), (60, 106, 2, 65, 0), (10, 0, 0, 0, 0), (6, 0, 0, 1, 0), (0, 1, 0, 0, 0), (6, 1, 0, 10, 0), (19, 0, 0, 0, 0), (6, 1, 0, 30, 0), (60, 106, 2, 65, 0), (10, 0, 0, 0, 0), (6, 0, 0, 1, 0), (0, 1, 0, 0, 0), (6, 1, 0, 13, 0), (19, 0, 0, 0, 0), (6, 1, 0, 30, 0), (60, 106, 2, 65, 0), (10, 0, 0, 0, 0), (6, 0, 0, 1, 0), (0, 1, 0, 0, 0), (6, 1, 0, 16, 0), (19, 0, 0, 0, 0), (6, 1, 0, 30, 0), (60, 106, 2, 65, 0), (10, 0, 0, 0, 0), (59, 89, 6, 96, 10), (56, 0, 0, 0, 0)] L st σ := EB_eq 112 14 L st σ
theorem bk_112_15 {L : ev_L} {st : List ev_V} {σ : ev_M} : EB 112 15 L st σ = EO 112 [(1, 0, 0, 0, 0), (0, 2, 0, 0, 0), (0, 3, 0, 0, 0), (6, 0, 0, 1, 0), (0, 1, 0, 0, 0), (6, 1, 0, 10, 0), (19, 0, 0, 0, 0), (6, 1, 0, 9, 0), (60, 106, 2, 65, 0), (10, 0, 0, 0, 0), (59, 90, 4, 100, 10), (56, 0, 0, 0, 0)] L st σ := EB_eq 112 15 L st σ
theorem bk_112_16 {L : ev_L} {st : List ev_V} {σ : ev_M} : EB 112 16 L st σ = EO 112 [(0, 1, 0, 0, 0), (6, 0, 0, 4, 0), (19, 0, 0, 0, 0), (6, 0, 0, 3, 0), (15, 0, 0, 0, 0), (47, 17, 0, 10, 0), (1, 0, 0, 0, 0), (59, 91, 1, 103, 10), (52, 18, 0, 30, 0)] L st σ := EB_eq 112 16 L st σ
theorem bk_112_17 {L : ev_L} {st : List ev_V} {σ : ev_M} : EB 112 17 L st σ = EO 112 [(1, 0, 0, 0, 0), (0, 1, 0, 0, 0), (6, 1, 0, 6, 0), (19, 0, 0, 0, 0), (1, 0, 0, 0, 0), (6, 0, 0, 0, 0), (59, 75, 2, 8, 10), (60, 106, 2, 65, 0), (6, 0, 0, 1, 0), (0, 1, 0, 0, 0), (6, 1, 0, 10, 0), (19, 0, 0, 0, 0), (6, 1, 0, 60, 0), (60, 106, 2, 65, 0), (10, 0, 0, 0, 0), (59, 82, 3, 55, 10), (53, 18, 0, 0, 0)] L st σ := EB_eq 112 17 L st σ
theorem bk_112_18 {L : ev_L} {st : List ev_V} {σ : ev_M} : EB 112 18 L st σ = EO 112 [(56, 0, 0, 0, 0)] L st σ := EB_eq 112 18 L st σ
theorem bk_112_19 {L : ev_L} {st : List ev_V} {σ : ev_M} : EB 112 19 L st σ = EO 112 [(1, 0, 0, 0, 0), (59, 96, 1, 106, 10), (56, 0, 0, 0, 0)] L st σ := EB_eq 112 19 L st σ
theorem mm_113 {i0 : Int} {i1 : Int} {σ : ev_M} : EM 113 [.inr (.inl i0), .inr (.inl i1)] σ = EB 113 0 [some (.inr (.inl i0)), some (.inr (.inl i1)), none, none, none, none, none, none, none, none, none, none, none, none, none] [] σ := by
  unfold EM ev_go
  exact if_pos (Nat.le_of_ble_eq_true rfl)
theorem bk_113_0 {L : ev_L} {st : List ev_V} {σ : ev_M} : EB 113 0 L st σ = EO 113 [] L st σ := EB_eq 113 0 L st σ
theorem bk_113_1 {L : ev_L} {st : List ev_V} {σ : ev_M} : EB 113 1 L st σ = EO 113 [(1, 0, 0, 0, 0), (6, 0, 0, 0, 0), (38, 110, 0, 0, 0), (3, 2, 0, 0, 0), (1, 1, 0, 0, 0), (59, 97, 1, 62, 10), (6, 1, 0, (-4), 0), (41, 2, 0, 49, 0), (1, 1, 0, 0, 0), (59, 101, 1, 114, 10), (6, 1, 0, (-4), 0), (41, 2, 0, 40, 0), (1, 1, 0, 0, 0), (59, 94, 1, 38, 10), (47, 2, 0, 33, 0), (1, 1, 0, 0, 0), (59, 96, 1, 106, 10), (47, 2, 0, 26, 0), (1, 1, 0, 0, 0), (6, 0, 0, 0, 0), (6, 0, 0, 0, 0), (6, 0, 0, 1, 0), (59, 85, 4, 25, 10), (6, 1, 0, (-2), 0), (41, 2, 0, 14, 0), (1, 1, 0, 0, 0), (6, 1, 0, 11, 0), (59, 68, 2, 68, 10), (6, 1, 0, (-3), 0), (40, 3, 0, 5, 0), (53, 2, 0, 0, 0)] L st σ := EB_eq 113 1 L st σ
theorem bk_113_2 {L : ev_L} {st : List ev_V} {σ : ev_M} : EB 113 2 L st σ = EO 113 [(6, 0, 0, 0, 0), (56, 1, 0, 0, 0)] L st σ := EB_eq 113 2 L st σ
theorem bk_113_3 {L : ev_L} {st : List ev_V} {σ : ev_M} : EB 113 3 L st σ = EO 113 [(6, 0, 0, 3, 0), (0, 2, 0, 0, 0), (6, 0, 0, 4, 0), (60, 106, 2, 65, 0), (10, 0, 0, 0, 0), (3, 3, 0, 0, 0), (1, 1, 0, 0, 0), (0, 3, 0, 0, 0), (59, 68, 2, 68, 10), (26, 0, 0, 0, 0), (6, 0, 0, 1, 0), (3, 4, 1, 0, 0), (53, 4, 0, 0, 0)] L st σ := EB_eq 113 3 L st σ
theorem bk_113_4 {L : ev_L} {st : List ev_V} {σ : ev_M} : EB 113 4 L st σ = EO 113 [(0, 4, 1, 0, 0), (0, 3, 0, 0, 0), (43, 8, 0, 179, 0), (1, 0, 0, 0, 0), (0, 4, 1, 0, 0), (38, 110, 0, 0, 0), (3, 5, 1, 0, 0), (1, 1, 0, 0, 0), (0, 5, 1, 0, 0), (0, 4, 1, 0, 0), (60, 106, 2, 65, 0), (0, 4, 1, 0, 0), (6, 0, 0, 1, 0), (0, 5, 1, 0, 0), (6, 0, 0, 3, 0), (19, 0, 0, 0, 0), (6, 1, 0, 60, 0), (60, 106, 2, 65, 0), (10, 0, 0, 0, 0), (59, 69, 4, 71, 10), (0, 4, 1, 0, 0), (6, 0, 0, 1, 0), (11, 0, 0, 0, 0), (40, 5, 0, 5, 0), (6, 0, 0, 0, 0), (56, 1, 0, 0, 0)] L st σ := EB_eq 113 4 L st σ
theorem bk_113_5 {L : ev_L} {st : List ev_V} {σ : ev_M} : EB 113 5 L st σ = EO 113 [(0, 5, 1, 0, 0), (6, 1, 0, 10, 0), (19, 0, 0, 0, 0), (6, 0, 0, 1, 0), (15, 0, 0, 0, 0), (47, 7, 0, 122, 0), (1, 1, 0, 0, 0), (0, 4, 1, 0, 0), (6, 0, 0, 1, 0), (11, 0, 0, 0, 0), (59, 70, 2, 74, 10), (3, 6, 1, 0, 0), (1, 1, 0, 0, 0), (0, 6, 1, 0, 0), (0, 5, 1, 0, 0), (6, 1, 0, 11, 0), (19, 0, 0, 0, 0), (6, 0, 0, 3, 0), (15, 0, 0, 0, 0), (6, 0, 0, 3, 0), (0, 5, 1, 0, 0), (6, 1, 0, 13, 0), (19, 0, 0, 0, 0), (6, 1, 0, 7, 0), (60, 106, 2, 65, 0), (10, 0, 0, 0, 0), (0, 5, 1, 0, 0), (6, 1, 0, 16, 0), (19, 0, 0, 0, 0), (6, 1, 0, 61, 0), (60, 106, 2, 65, 0), (59, 71, 5, 77, 10), (47, 6, 0, 72, 0), (1, 1, 0, 0, 0), (0, 6, 1, 0, 0), (0, 5, 1, 0, 0), (6, 1, 0, 22, 0), (19, 0, 0, 0, 0), (6, 0, 0, 3, 0), (15, 0, 0, 0, 0), (0, 5, 1, 0, 0), (6, 1, 0, 18, 0), (19, 0, 0, 0, 0), (6, 1, 0, 10, 0), (60, 106, 2, 65, 0), (6, 1, 0, 10, 0), (59, 71, 5, 77, 10), (6, 0, 0, 1, 0), (41, 6, 0, 43, 0), (1, 1, 0, 0, 0), (0, 6, 1, 0, 0), (6, 0, 0, 0, 0), (6, 0, 0, 1, 0), (59, 72, 4, 80, 10), (6, 0, 0, 1, 0), (41, 6, 0, 31, 0), (1, 1, 0, 0, 0), (0, 6, 1, 0, 0), (6, 0, 0, 1, 0), (6, 0, 0, (-1), 0), (59, 72, 4, 80, 10), (6, 0, 0, 1, 0), (41, 6, 0, 19, 0), (1, 1, 0, 0, 0), (0, 6, 1, 0, 0), (59, 81, 2, 93, 10), (1, 1, 0, 0, 0), (0, 6, 1, 0, 0), (6, 0, 0, 2, 0), (59, 77, 3, 14, 10), (40, 7, 0, 5, 0), (53, 6, 0, 0, 0)] L st σ := EB_eq 113 5 L st σ
theorem bk_113_6 {L : ev_L} {st : List ev_V} {σ : ev_M} : EB 113 6 L st σ = EO 113 [(6, 0, 0, 0, 0), (56, 1, 0, 0, 0)] L st σ := EB_eq 113 6 L st σ
theorem bk_113_7 {L : ev_L} {st : List ev_V} {σ : ev_M} : EB 113 7 L st σ = EO 113 [(23, 4, 0, 1, 0), (52, 4, 0, (-179), 0)] L st σ := EB_eq 113 7 L st σ
theorem bk_113_8 {L : ev_L} {st : List ev_V} {σ : ev_M} : EB 113 8 L st σ = EO 113 [(1, 1, 0, 0, 0), (6, 0, 0, 0, 0), (0, 3, 0, 0, 0), (6, 0, 0, 1, 0), (11, 0, 0, 0, 0), (6, 0, 0, 1, 0), (0, 2, 0, 0, 0), (6, 0, 0, 3, 0), (19, 0, 0, 0, 0), (6, 1, 0, 99, 0), (60, 106, 2, 65, 0), (10, 0, 0, 0, 0), (59, 69, 4, 71, 10), (26, 0, 0, 0, 0), (6, 0, 0, 0, 0), (3, 4, 1, 0, 0), (53, 9, 0, 0, 0)] L st σ := EB_eq 113 8 L st σ
theorem bk_113_9 {L : ev_L} {st : List ev_V} {σ : ev_M} : EB 113 9 L st σ = EO 113 [(0, 4, 1, 0, 0), (6, 1, 0, 24, 0), (43, 17, 0, 171, 0), (1, 0, 0, 0, 0), (6, 1, 0, 8, 0), (0, 4, 1, 0, 0), (10, 0, 0, 0, 0), (38, 110, 0, 0, 0), (3, 5, 1, 0, 0), (1, 1, 0, 0, 0), (59, 102, 1, 48, 10), (5, 6, 1, 0, 0), (1, 1, 0, 0, 0), (0, 5, 1, 0, 0), (60, 112, 2, 117, 0), (3, 8, 1, 0, 0), (0, 8, 1, 0, 0), (49, 10, 0, 13, 0), (1, 1, 0, 0, 0), (59, 102, 1, 48, 10), (2, 6, 1, 0, 0), (9, 0, 0, 0, 0), (47, 11, 0, 10, 0), (53, 10, 0, 0, 0)] L st σ := EB_eq 113 9 L st σ
theorem bk_113_10 {L : ev_L} {st : List ev_V} {σ : ev_M} : EB 113 10 L st σ = EO 113 [(1, 1, 0, 0, 0), (60, 107, 1, 58, 0), (47, 12, 0, 5, 0), (53, 11, 0, 0, 0)] L st σ := EB_eq 113 10 L st σ
theorem bk_113_11 {L : ev_L} {st : List ev_V} {σ : ev_M} : EB 113 11 L st σ = EO 113 [(6, 0, 0, 0, 0), (56, 1, 0, 0, 0)] L st σ := EB_eq 113 11 L st σ
theorem bk_113_12 {L : ev_L} {st : List ev_V} {σ : ev_M} : EB 113 12 L st σ = EO 113 [(0, 8, 1, 0, 0), (48, 14, 0, 32, 0), (0, 5, 1, 0, 0), (6, 1, 0, 27, 0), (19, 0, 0, 0, 0), (6, 0, 0, 3, 0), (15, 0, 0, 0, 0), (47, 14, 0, 22, 0), (1, 1, 0, 0, 0), (59, 97, 1, 62, 10), (48, 13, 0, 13, 0), (1, 1, 0, 0, 0), (59, 102, 1, 48, 10), (2, 6, 1, 0, 0), (9, 0, 0, 0, 0), (46, 14, 0, 5, 0), (53, 13, 0, 0, 0)] L st σ := EB_eq 113 12 L st σ
theorem bk_113_13 {L : ev_L} {st : List ev_V} {σ : ev_M} : EB 113 13 L st σ = EO 113 [(6, 0, 0, 0, 0), (56, 1, 0, 0, 0)] L st σ := EB_eq 113 13 L st σ
theorem bk_113_14 {L : ev_L} {st : List ev_V} {σ : ev_M} : EB 113 14 L st σ = EO 113 [(0, 4, 1, 0, 0), (6, 0, 0, 4, 0), (14, 0, 0, 0, 0), (6, 0, 0, 3, 0), (41, 16, 0, 74, 0), (1, 1, 0, 0, 0), (0, 5, 1, 0, 0), (6, 0, 0, 5, 0), (19, 0, 0, 0, 0), (1, 1, 0, 0, 0), (6, 0, 0, 0, 0), (59, 75, 2, 8, 10), (60, 106, 2, 65, 0), (6, 0, 0, 1, 0), (0, 5, 1, 0, 0), (6, 1, 0, 9, 0), (19, 0, 0, 0, 0), (6, 1, 0, 60, 0), (60, 106, 2, 65, 0), (10, 0, 0, 0, 0), (60, 109, 3, 121, 0), (46, 15, 0, 41, 0), (1, 1, 0, 0, 0), (60, 110, 1, 124, 0), (46, 15, 0, 34, 0), (1, 1, 0, 0, 0), (0, 5, 1, 0, 0), (6, 0, 0, 5, 0), (19, 0, 0, 0, 0), (1, 1, 0, 0, 0), (6, 0, 0, 0, 0), (59, 75, 2, 8, 10), (60, 106, 2, 65, 0), (6, 0, 0, 1, 0), (0, 5, 1, 0, 0), (6, 1, 0, 9, 0), (19, 0, 0, 0, 0), (6, 1, 0, 100, 0), (60, 106, 2, 65, 0), (10, 0, 0, 0, 0), (60, 111, 3, 127, 0), (47, 16, 0, 5, 0), (53, 15, 0, 0, 0)] L st σ := EB_eq 113 14 L st σ
theorem bk_113_15 {L : ev_L} {st : List ev_V} {σ : ev_M} : EB 113 15 L st σ = EO 113 [(6, 0, 0, 0, 0), (56, 1, 0, 0, 0)] L st σ := EB_eq 113 15 L st σ
theorem bk_113_16 {L : ev_L} {st : List ev_V} {σ : ev_M} : EB 113 16 L st σ = EO 113 [(23, 4, 0, 1, 0), (52, 9, 0, (-172), 0)] L st σ := EB_eq 113 16 L st σ
theorem bk_113_17 {L : ev_L} {st : List ev_V} {σ : ev_M} : EB 113 17 L st σ = EO 113 [(1, 1, 0, 0, 0), (59, 102, 1, 48, 10), (5, 4, 1, 0, 0), (6, 0, 0, 0, 0), (3, 6, 1, 0, 0), (53, 18, 0, 0, 0)] L st σ := EB_eq 113 17 L st σ
theorem bk_113_18 {L : ev_L} {st : List ev_V} {σ : ev_M} : EB 113 18 L st σ = EO 113 [(0, 6, 1, 0, 0), (1, 1, 0, 0, 0), (6, 0, 0, 2, 0), (59, 75, 2, 8, 10), (43, 39, 0, 422, 0), (1, 1, 0, 0, 0), (0, 6, 1, 0, 0), (59, 79, 2, 130, 10), (3, 7, 1, 0, 0), (1, 1, 0, 0, 0), (0, 6, 1, 0, 0), (6, 0, 0, 2, 0), (59, 77, 3, 14, 10), (3, 8, 1, 0, 0), (6, 0, 0, 0, 0), (3, 9, 1, 0, 0), (53, 19, 0, 0, 0)] L st σ := EB_eq 113 18 L st σ
theorem bk_113_19 {L : ev_L} {st : List ev_V} {σ : ev_M} : EB 113 19 L st σ = EO 113 [(0, 9, 1, 0, 0), (1, 1, 0, 0, 0), (0, 6, 1, 0, 0), (6, 0, 0, 1, 0), (59, 77, 3, 14, 10), (43, 27, 0, 101, 0), (1, 1, 0, 0, 0), (0, 6, 1, 0, 0), (0, 9, 1, 0, 0), (6, 0, 0, 1, 0), (59, 78, 4, 21, 10), (3, 10, 1, 0, 0), (0, 10, 1, 0, 0), (47, 20, 0, 17, 0), (0, 7, 1, 0, 0), (0, 9, 1, 0, 0), (19, 0, 0, 0, 0), (6, 0, 0, 1, 0), (15, 0, 0, 0, 0), (6, 0, 0, 1, 0), (41, 26, 0, 68, 0), (52, 25, 0, 63, 0)] L st σ := EB_eq 113 19 L st σ
theorem bk_113_20 {L : ev_L} {st : List ev_V} {σ : ev_M} : EB 113 20 L st σ = EO 113 [(1, 1, 0, 0, 0), (0, 6, 1, 0, 0), (0, 9, 1, 0, 0), (0, 10, 1, 0, 0), (6, 0, 0, 1, 0), (11, 0, 0, 0, 0), (59, 73, 4, 83, 10), (0, 10, 1, 0, 0), (41, 25, 0, 46, 0), (1, 1, 0, 0, 0), (0, 6, 1, 0, 0), (6, 0, 0, 2, 0), (59, 77, 3, 14, 10), (0, 8, 1, 0, 0), (43, 21, 0, 7, 0), (6, 0, 0, 1, 0), (52, 22, 0, 4, 0)] L st σ := EB_eq 113 20 L st σ
theorem bk_113_21 {L : ev_L} {st : List ev_V} {σ : ev_M} : EB 113 21 L st σ = EO 113 [(6, 0, 0, 0, 0), (53, 22, 0, 0, 0)] L st σ := EB_eq 113 21 L st σ
theorem bk_113_22 {L : ev_L} {st : List ev_V} {σ : ev_M} : EB 113 22 L st σ = EO 113 [(0, 7, 1, 0, 0), (0, 9, 1, 0, 0), (19, 0, 0, 0, 0), (6, 0, 0, 1, 0), (15, 0, 0, 0, 0), (6, 0, 0, 1, 0), (41, 23, 0, 7, 0), (6, 0, 0, 1, 0), (52, 24, 0, 4, 0)] L st σ := EB_eq 113 22 L st σ
theorem bk_113_23 {L : ev_L} {st : List ev_V} {σ : ev_M} : EB 113 23 L st σ = EO 113 [(6, 0, 0, 0, 0), (53, 24, 0, 0, 0)] L st σ := EB_eq 113 23 L st σ
theorem bk_113_24 {L : ev_L} {st : List ev_V} {σ : ev_M} : EB 113 24 L st σ = EO 113 [(41, 25, 0, 10, 0), (1, 1, 0, 0, 0), (59, 97, 1, 62, 10), (49, 26, 0, 5, 0), (53, 25, 0, 0, 0)] L st σ := EB_eq 113 24 L st σ
theorem bk_113_25 {L : ev_L} {st : List ev_V} {σ : ev_M} : EB 113 25 L st σ = EO 113 [(6, 0, 0, 0, 0), (56, 1, 0, 0, 0)] L st σ := EB_eq 113 25 L st σ
theorem bk_113_26 {L : ev_L} {st : List ev_V} {σ : ev_M} : EB 113 26 L st σ = EO 113 [(23, 9, 0, 1, 0), (52, 19, 0, (-107), 0)] L st σ := EB_eq 113 26 L st σ
theorem bk_113_27 {L : ev_L} {st : List ev_V} {σ : ev_M} : EB 113 27 L st σ = EO 113 [(1, 1, 0, 0, 0), (0, 6, 1, 0, 0), (59, 84, 2, 133, 10), (3, 9, 1, 0, 0), (0, 9, 1, 0, 0), (46, 28, 0, 28, 0), (0, 9, 1, 0, 0), (6, 0, 0, (-1), 0), (42, 28, 0, 22, 0), (0, 9, 1, 0, 0), (6, 2, 0, 1000, 0), (44, 28, 0, 14, 0), (0, 8, 1, 0, 0), (47, 29, 0, 11, 0), (0, 9, 1, 0, 0), (6, 0, 0, (-1), 0), (40, 29, 0, 5, 0), (53, 28, 0, 0, 0)] L st σ := EB_eq 113 27 L st σ
theorem bk_113_28 {L : ev_L} {st : List ev_V} {σ : ev_M} : EB 113 28 L st σ = EO 113 [(6, 0, 0, 0, 0), (56, 1, 0, 0, 0)] L st σ := EB_eq 113 28 L st σ
theorem bk_113_29 {L : ev_L} {st : List ev_V} {σ : ev_M} : EB 113 29 L st σ = EO 113 [(0, 9, 1, 0, 0), (6, 0, 0, 1, 0), (45, 31, 0, 69, 0), (0, 9, 1, 0, 0), (6, 1, 0, 50, 0), (44, 31, 0, 62, 0), (1, 1, 0, 0, 0), (0, 9, 1, 0, 0), (6, 0, 0, 1, 0), (11, 0, 0, 0, 0), (59, 80, 2, 90, 10), (48, 30, 0, 49, 0), (1, 1, 0, 0, 0), (0, 6, 1, 0, 0), (6, 0, 0, 2, 0), (59, 77, 3, 14, 10), (0, 8, 1, 0, 0), (41, 30, 0, 37, 0), (1, 1, 0, 0, 0), (6, 0, 0, 1, 0), (59, 80, 2, 90, 10), (48, 30, 0, 29, 0), (1, 1, 0, 0, 0), (0, 6, 1, 0, 0), (6, 0, 0, 2, 0), (59, 77, 3, 14, 10), (0, 8, 1, 0, 0), (43, 30, 0, 17, 0), (1, 1, 0, 0, 0), (59, 97, 1, 62, 10), (48, 30, 0, 10, 0), (1, 1, 0, 0, 0), (59, 97, 1, 62, 10), (49, 31, 0, 5, 0), (53, 30, 0, 0, 0)] L st σ := EB_eq 113 29 L st σ
theorem bk_113_30 {L : ev_L} {st : List ev_V} {σ : ev_M} : EB 113 30 L st σ = EO 113 [(6, 0, 0, 0, 0), (56, 1, 0, 0, 0)] L st σ := EB_eq 113 30 L st σ
theorem bk_113_31 {L : ev_L} {st : List ev_V} {σ : ev_M} : EB 113 31 L st σ = EO 113 [(1, 1, 0, 0, 0), (0, 6, 1, 0, 0), (59, 95, 2, 136, 10), (3, 10, 1, 0, 0), (0, 10, 1, 0, 0), (0, 8, 1, 0, 0), (42, 32, 0, 45, 0), (1, 1, 0, 0, 0), (6, 0, 0, 4, 0), (59, 75, 2, 8, 10), (51, 33, 0, 39, 0), (1, 1, 0, 0, 0), (59, 96, 1, 106, 10), (48, 32, 0, 30, 0), (1, 1, 0, 0, 0), (0, 6, 1, 0, 0), (6, 0, 0, 2, 0), (59, 77, 3, 14, 10), (0, 10, 1, 0, 0), (41, 32, 0, 18, 0), (1, 1, 0, 0, 0), (6, 0, 0, 3, 0), (59, 75, 2, 8, 10), (47, 32, 0, 10, 0), (1, 1, 0, 0, 0), (59, 97, 1, 62, 10), (49, 33, 0, 5, 0), (53, 32, 0, 0, 0)] L st σ := EB_eq 113 31 L st σ
theorem bk_113_32 {L : ev_L} {st : List ev_V} {σ : ev_M} : EB 113 32 L st σ = EO 113 [(6, 0, 0, 0, 0), (56, 1, 0, 0, 0)] L st σ := EB_eq 113 32 L st σ
theorem bk_113_33 {L : ev_L} {st : List ev_V} {σ : ev_M} : EB 113 33 L st σ = EO 113 [(1, 1, 0, 0, 0), (0, 6, 1, 0, 0), (6, 0, 0, 0, 0), (59, 77, 3, 14, 10), (3, 11, 1, 0, 0), (1, 1, 0, 0, 0), (0, 6, 1, 0, 0), (6, 1, 0, 10, 0), (59, 87, 3, 139, 10), (3, 12, 1, 0, 0), (1, 1, 0, 0, 0), (0, 6, 1, 0, 0), (6, 1, 0, 7, 0), (59, 77, 3, 14, 10), (3, 13, 1, 0, 0), (1, 1, 0, 0, 0), (0, 6, 1, 0, 0), (6, 0, 0, 1, 0), (59, 74, 3, 86, 10), (0, 13, 1, 0, 0), (40, 34, 0, 5, 0), (6, 0, 0, 0, 0), (56, 1, 0, 0, 0)] L st σ := EB_eq 113 33 L st σ
theorem bk_113_34 {L : ev_L} {st : List ev_V} {σ : ev_M} : EB 113 34 L st σ = EO 113 [(1, 1, 0, 0, 0), (1, 1, 0, 0, 0), (0, 11, 1, 0, 0), (6, 0, 0, 0, 0), (59, 76, 3, 18, 10), (1, 1, 0, 0, 0), (0, 11, 1, 0, 0), (6, 0, 0, 1, 0), (59, 76, 3, 18, 10), (6, 1, 0, 10, 0), (59, 85, 4, 25, 10), (3, 14, 1, 0, 0), (0, 12, 1, 0, 0), (0, 14, 1, 0, 0), (49, 35, 0, 7, 0), (6, 0, 0, (-1), 0), (52, 36, 0, 17, 0)] L st σ := EB_eq 113 34 L st σ
theorem bk_113_35 {L : ev_L} {st : List ev_V} {σ : ev_M} : EB 113 35 L st σ = EO 113 [(6, 2, 0, 1000, 0), (0, 14, 1, 0, 0), (10, 0, 0, 0, 0), (1, 1, 0, 0, 0), (0, 11, 1, 0, 0), (6, 0, 0, 2, 0), (59, 76, 3, 18, 10), (11, 0, 0, 0, 0), (53, 36, 0, 0, 0)] L st σ := EB_eq 113 35 L st σ
theorem bk_113_36 {L : ev_L} {st : List ev_V} {σ : ev_M} : EB 113 36 L st σ = EO 113 [(41, 37, 0, 20, 0), (1, 1, 0, 0, 0), (59, 97, 1, 62, 10), (48, 37, 0, 13, 0), (1, 1, 0, 0, 0), (59, 102, 1, 48, 10), (2, 4, 1, 0, 0), (9, 0, 0, 0, 0), (46, 38, 0, 5, 0), (53, 37, 0, 0, 0)] L st σ := EB_eq 113 36 L st σ
theorem bk_113_37 {L : ev_L} {st : List ev_V} {σ : ev_M} : EB 113 37 L st σ = EO 113 [(6, 0, 0, 0, 0), (56, 1, 0, 0, 0)] L st σ := EB_eq 113 37 L st σ
theorem bk_113_38 {L : ev_L} {st : List ev_V} {σ : ev_M} : EB 113 38 L st σ = EO 113 [(23, 6, 0, 1, 0), (52, 18, 0, (-426), 0)] L st σ := EB_eq 113 38 L st σ
theorem bk_113_39 {L : ev_L} {st : List ev_V} {σ : ev_M} : EB 113 39 L st σ = EO 113 [(0, 2, 0, 0, 0), (6, 1, 0, 10, 0), (19, 0, 0, 0, 0), (1, 1, 0, 0, 0), (6, 0, 0, 0, 0), (59, 75, 2, 8, 10), (60, 106, 2, 65, 0), (3, 6, 1, 0, 0), (0, 6, 1, 0, 0), (6, 0, 0, 1, 0), (10, 0, 0, 0, 0), (1, 1, 0, 0, 0), (6, 0, 0, 0, 0), (59, 75, 2, 8, 10), (14, 0, 0, 0, 0), (3, 7, 1, 0, 0), (1, 1, 0, 0, 0), (0, 6, 1, 0, 0), (0, 7, 1, 0, 0), (59, 88, 3, 142, 10), (3, 8, 1, 0, 0), (0, 8, 1, 0, 0), (51, 40, 0, 16, 0), (1, 1, 0, 0, 0), (0, 6, 1, 0, 0), (0, 7, 1, 0, 0), (0, 8, 1, 0, 0), (59, 85, 4, 25, 10), (48, 44, 0, 39, 0), (53, 40, 0, 0, 0)] L st σ := EB_eq 113 39 L st σ
theorem bk_113_40 {L : ev_L} {st : List ev_V} {σ : ev_M} : EB 113 40 L st σ = EO 113 [(0, 8, 1, 0, 0), (6, 1, 0, 60, 0), (43, 43, 0, 27, 0), (1, 1, 0, 0, 0), (0, 6, 1, 0, 0), (0, 7, 1, 0, 0), (0, 8, 1, 0, 0), (49, 41, 0, 7, 0), (6, 0, 0, 1, 0), (52, 42, 0, 7, 0)] L st σ := EB_eq 113 40 L st σ
theorem bk_113_41 {L : ev_L} {st : List ev_V} {σ : ev_M} : EB 113 41 L st σ = EO 113 [(0, 8, 1, 0, 0), (6, 0, 0, 1, 0), (10, 0, 0, 0, 0), (53, 42, 0, 0, 0)] L st σ := EB_eq 113 41 L st σ
theorem bk_113_42 {L : ev_L} {st : List ev_V} {σ : ev_M} : EB 113 42 L st σ = EO 113 [(59, 85, 4, 25, 10), (49, 44, 0, 8, 0), (53, 43, 0, 0, 0)] L st σ := EB_eq 113 42 L st σ
theorem bk_113_43 {L : ev_L} {st : List ev_V} {σ : ev_M} : EB 113 43 L st σ = EO 113 [(0, 8, 1, 0, 0), (47, 45, 0, 5, 0), (53, 44, 0, 0, 0)] L st σ := EB_eq 113 43 L st σ
theorem bk_113_44 {L : ev_L} {st : List ev_V} {σ : ev_M} : EB 113 44 L st σ = EO 113 [(6, 0, 0, 0, 0), (56, 1, 0, 0, 0)] L st σ := EB_eq 113 44 L st σ
theorem bk_113_45 {L : ev_L} {st : List ev_V} {σ : ev_M} : EB 113 45 L st σ = EO 113 [(1, 1, 0, 0, 0), (6, 0, 0, 0, 0), (6, 0, 0, 0, 0), (6, 0, 0, 5, 0), (59, 69, 4, 71, 10), (6, 1, 0, (-3), 0), (41, 46, 0, 177, 0), (1, 1, 0, 0, 0), (6, 1, 0, 20, 0), (59, 70, 2, 74, 10), (6, 1, 0, (-2), 0), (41, 46, 0, 166, 0), (1, 1, 0, 0, 0), (6, 1, 0, 6, 0), (6, 0, 0, 0, 0), (6, 0, 0, 0, 0), (6, 0, 0, 0, 0), (59, 71, 5, 77, 10), (6, 1, 0, (-2), 0), (41, 46, 0, 152, 0), (1, 1, 0, 0, 0), (6, 1, 0, 6, 0), (6, 0, 0, 0, 0), (6, 0, 0, (-1), 0), (59, 72, 4, 80, 10), (6, 1, 0, (-2), 0), (41, 46, 0, 139, 0), (1, 1, 0, 0, 0), (6, 1, 0, 6, 0), (6, 0, 0, 1, 0), (59, 74, 3, 86, 10), (6, 1, 0, (-2), 0), (41, 46, 0, 127, 0), (1, 1, 0, 0, 0), (6, 1, 0, 11, 0), (59, 75, 2, 8, 10), (6, 1, 0, (-3), 0), (41, 46, 0, 116, 0), (1, 1, 0, 0, 0), (6, 1, 0, 51, 0), (59, 80, 2, 90, 10), (6, 1, 0, (-3), 0), (41, 46, 0, 105, 0), (1, 1, 0, 0, 0), (6, 1, 0, 10, 0), (6, 0, 0, 1, 0), (59, 82, 3, 55, 10), (6, 1, 0, (-2), 0), (41, 46, 0, 93, 0), (1, 1, 0, 0, 0), (6, 0, 0, 0, 0), (6, 0, 0, 0, 0), (6, 1, 0, 61, 0), (59, 85, 4, 25, 10), (6, 1, 0, (-3), 0), (41, 46, 0, 80, 0), (1, 1, 0, 0, 0), (6, 0, 0, 0, 0), (6, 0, 0, 0, 0), (59, 88, 3, 142, 10), (6, 1, 0, (-4), 0), (41, 46, 0, 69, 0), (1, 1, 0, 0, 0), (6, 2, 0, 1000, 0), (6, 0, 0, 1, 0), (6, 0, 0, 1, 0), (6, 0, 0, 1, 0), (6, 0, 0, 1, 0), (59, 89, 6, 96, 10), (6, 1, 0, (-3), 0), (41, 46, 0, 53, 0), (1, 1, 0, 0, 0), (6, 1, 0, 6, 0), (6, 0, 0, 0, 0), (6, 0, 0, 1, 0), (59, 90, 4, 100, 10), (6, 1, 0, (-2), 0), (41, 46, 0, 40, 0), (1, 1, 0, 0, 0), (6, 1, 0, 8, 0), (6, 0, 0, 0, 0), (59, 92, 3, 42, 10), (6, 1, 0, (-2), 0), (41, 46, 0, 28, 0), (1, 1, 0, 0, 0), (6, 0, 0, 3, 0), (6, 0, 0, 0, 0), (59, 93, 3, 45, 10), (6, 1, 0, (-2), 0), (41, 46, 0, 17, 0), (1, 1, 0, 0, 0), (59, 102, 1, 48, 10), (2, 4, 1, 0, 0), (9, 0, 0, 0, 0), (47, 46, 0, 7, 0), (6, 0, 0, 1, 0), (52, 47, 0, 4, 0)] L st σ := EB_eq 113 45 L st σ
theorem bk_113_46 {L : ev_L} {st : List ev_V} {σ : ev_M} : EB 113 46 L st σ = EO 113 [(6, 0, 0, 0, 0), (53, 47, 0, 0, 0)] L st σ := EB_eq 113 46 L st σ
theorem bk_113_47 {L : ev_L} {st : List ev_V} {σ : ev_M} : EB 113 47 L st σ = EO 113 [(56, 1, 0, 0, 0)] L st σ := EB_eq 113 47 L st σ
end
section
/-! the state as one row of 338 numbers: by the class's state s, and by the reference's row -/
def ev_ka (k : Int) : Int × Int := if k < 9 then (if k < 2 then (1, k) else if k < 3 then (6, 0) else if k < 5 then (17, k - 3) else (0, k - 2)) else if k < 89 then (2 + (k - 9) % 4, (k - 9) / 4) else if k < 119 then (if (k - 89) % 5 = 0 then (7, (k - 89) / 5) else if (k - 89) % 5 = 1 then (11, (k - 89) / 5) else (6 + (k - 89) % 5, (k - 89) / 5)) else if k < 299 then (12 + (k - 119) % 5, (k - 119) / 5) else if k < 323 then (18 + (k - 299) % 3, (k - 299) / 3) else if (k - 323) % 5 = 0 then (21, (k - 323) / 5) else (22, 4 * ((k - 323) / 5) + (k - 323) % 5 - 1)
def ev_ao (k : Int) : Int := (ev_ka k).1
def ev_ax (k : Int) : Int := (ev_ka k).2
def st_T (σ : ev_M) (s : Int) : Int → Int := fun k => σ (s + ev_ao k) (ev_ax k)
theorem ev_ao_in {k : Int} (h : 0 ≤ k ∧ k < 338) : 0 ≤ ev_ao k ∧ ev_ao k ≤ 22 := by
  unfold ev_ao ev_ka
  (repeat' split) <;> dsimp only <;> omega
theorem st_T_congr {σ σ' : ev_M} {s s' : Int} (h : ∀ o, 0 ≤ o → o ≤ 22 → σ' (s' + o) = σ (s + o)) : ∀ k, 0 ≤ k → k < 338 → st_T σ' s' k = st_T σ s k := by
  intro k h0 h1
  have := ev_ao_in (k := k) ⟨h0, h1⟩
  unfold st_T
  rw [h _ this.1 this.2]
theorem ky_n0 {k : Int} (hk : 0 ≤ k ∧ k < 338) : (ev_ao k = 1 ∧ ev_ax k = 0) ↔ k = 0 := by
  unfold ev_ao ev_ax ev_ka
  (repeat' split) <;> dsimp only <;> omega
theorem tr_n0 {σ : ev_M} {s : Int} : σ (s + 1) (0) = st_T σ s (0) := by
  have hk := (ky_n0 (k := 0) (by omega)).mpr rfl
  unfold st_T
  rw [hk.1, hk.2]
theorem tw_n0 {σ : ev_M} {s v : Int} : ∀ k, 0 ≤ k → k < 338 → st_T (ev_up σ (s + 1) (0) v) s k = ev_u1 (st_T σ s) (0) v k := by
  intro k h0 h1
  have hk := ky_n0 (k := k) ⟨h0, h1⟩
  by_cases hc : k = 0
  · rw [ev_u1_eq hc]
    have h3 := hk.mpr hc
    unfold st_T
    exact ev_up_eq ⟨by omega, h3.2⟩
  · rw [ev_u1_ne hc]
    unfold st_T
    refine ev_up_ne ?_
    by_cases h8 : ev_ao k = 1
    · exact Or.inr (fun h9 => hc (hk.mp ⟨h8, h9⟩))
    · exact Or.inl (by omega)
theorem ky_n1 {k : Int} (hk : 0 ≤ k ∧ k < 338) : (ev_ao k = 1 ∧ ev_ax k = 1) ↔ k = 1 := by
  unfold ev_ao ev_ax ev_ka
  (repeat' split) <;> dsimp only <;> omega
theorem tr_n1 {σ : ev_M} {s : Int} : σ (s + 1) (1) = st_T σ s (1) := by
  have hk := (ky_n1 (k := 1) (by omega)).mpr rfl
  unfold st_T
  rw [hk.1, hk.2]
theorem tw_n1 {σ : ev_M} {s v : Int} : ∀ k, 0 ≤ k → k < 338 → st_T (ev_up σ (s + 1) (1) v) s k = ev_u1 (st_T σ s) (1) v k := by
  intro k h0 h1
  have hk := ky_n1 (k := k) ⟨h0, h1⟩
  by_cases hc : k = 1
  · rw [ev_u1_eq hc]
    have h3 := hk.mpr hc
    unfold st_T
    exact ev_up_eq ⟨by omega, h3.2⟩
  · rw [ev_u1_ne hc]
    unfold st_T
    refine ev_up_ne ?_
    by_cases h8 : ev_ao k = 1
    · exact Or.inr (fun h9 => hc (hk.mp ⟨h8, h9⟩))
    · exact Or.inl (by omega)
theorem ky_n2 {k : Int} (hk : 0 ≤ k ∧ k < 338) : (ev_ao k = 6 ∧ ev_ax k = 0) ↔ k = 2 := by
  unfold ev_ao ev_ax ev_ka
  (repeat' split) <;> dsimp only <;> omega
theorem tr_n2 {σ : ev_M} {s : Int} : σ (s + 6) (0) = st_T σ s (2) := by
  have hk := (ky_n2 (k := 2) (by omega)).mpr rfl
  unfold st_T
  rw [hk.1, hk.2]
theorem tw_n2 {σ : ev_M} {s v : Int} : ∀ k, 0 ≤ k → k < 338 → st_T (ev_up σ (s + 6) (0) v) s k = ev_u1 (st_T σ s) (2) v k := by
  intro k h0 h1
  have hk := ky_n2 (k := k) ⟨h0, h1⟩
  by_cases hc : k = 2
  · rw [ev_u1_eq hc]
    have h3 := hk.mpr hc
    unfold st_T
    exact ev_up_eq ⟨by omega, h3.2⟩
  · rw [ev_u1_ne hc]
    unfold st_T
    refine ev_up_ne ?_
    by_cases h8 : ev_ao k = 6
    · exact Or.inr (fun h9 => hc (hk.mp ⟨h8, h9⟩))
    · exact Or.inl (by omega)
theorem ky_n3 {k : Int} (hk : 0 ≤ k ∧ k < 338) : (ev_ao k = 17 ∧ ev_ax k = 0) ↔ k = 3 := by
  unfold ev_ao ev_ax ev_ka
  (repeat' split) <;> dsimp only <;> omega
theorem tr_n3 {σ : ev_M} {s : Int} : σ (s + 17) (0) = st_T σ s (3) := by
  have hk := (ky_n3 (k := 3) (by omega)).mpr rfl
  unfold st_T
  rw [hk.1, hk.2]
theorem tw_n3 {σ : ev_M} {s v : Int} : ∀ k, 0 ≤ k → k < 338 → st_T (ev_up σ (s + 17) (0) v) s k = ev_u1 (st_T σ s) (3) v k := by
  intro k h0 h1
  have hk := ky_n3 (k := k) ⟨h0, h1⟩
  by_cases hc : k = 3
  · rw [ev_u1_eq hc]
    have h3 := hk.mpr hc
    unfold st_T
    exact ev_up_eq ⟨by omega, h3.2⟩
  · rw [ev_u1_ne hc]
    unfold st_T
    refine ev_up_ne ?_
    by_cases h8 : ev_ao k = 17
    · exact Or.inr (fun h9 => hc (hk.mp ⟨h8, h9⟩))
    · exact Or.inl (by omega)
theorem ky_n4 {k : Int} (hk : 0 ≤ k ∧ k < 338) : (ev_ao k = 17 ∧ ev_ax k = 1) ↔ k = 4 := by
  unfold ev_ao ev_ax ev_ka
  (repeat' split) <;> dsimp only <;> omega
theorem tr_n4 {σ : ev_M} {s : Int} : σ (s + 17) (1) = st_T σ s (4) := by
  have hk := (ky_n4 (k := 4) (by omega)).mpr rfl
  unfold st_T
  rw [hk.1, hk.2]
theorem tw_n4 {σ : ev_M} {s v : Int} : ∀ k, 0 ≤ k → k < 338 → st_T (ev_up σ (s + 17) (1) v) s k = ev_u1 (st_T σ s) (4) v k := by
  intro k h0 h1
  have hk := ky_n4 (k := k) ⟨h0, h1⟩
  by_cases hc : k = 4
  · rw [ev_u1_eq hc]
    have h3 := hk.mpr hc
    unfold st_T
    exact ev_up_eq ⟨by omega, h3.2⟩
  · rw [ev_u1_ne hc]
    unfold st_T
    refine ev_up_ne ?_
    by_cases h8 : ev_ao k = 17
    · exact Or.inr (fun h9 => hc (hk.mp ⟨h8, h9⟩))
    · exact Or.inl (by omega)
theorem ky_n5 {k : Int} (hk : 0 ≤ k ∧ k < 338) : (ev_ao k = 0 ∧ ev_ax k = 3) ↔ k = 5 := by
  unfold ev_ao ev_ax ev_ka
  (repeat' split) <;> dsimp only <;> omega
theorem tr_n5 {σ : ev_M} {s : Int} : σ (s) (3) = st_T σ s (5) := by
  have hk := (ky_n5 (k := 5) (by omega)).mpr rfl
  unfold st_T
  rw [hk.1, hk.2]; rw [Int.add_zero]
theorem tw_n5 {σ : ev_M} {s v : Int} : ∀ k, 0 ≤ k → k < 338 → st_T (ev_up σ (s) (3) v) s k = ev_u1 (st_T σ s) (5) v k := by
  intro k h0 h1
  have hk := ky_n5 (k := k) ⟨h0, h1⟩
  by_cases hc : k = 5
  · rw [ev_u1_eq hc]
    have h3 := hk.mpr hc
    unfold st_T
    exact ev_up_eq ⟨by omega, h3.2⟩
  · rw [ev_u1_ne hc]
    unfold st_T
    refine ev_up_ne ?_
    by_cases h8 : ev_ao k = 0
    · exact Or.inr (fun h9 => hc (hk.mp ⟨h8, h9⟩))
    · exact Or.inl (by omega)
theorem ky_n6 {k : Int} (hk : 0 ≤ k ∧ k < 338) : (ev_ao k = 0 ∧ ev_ax k = 4) ↔ k = 6 := by
  unfold ev_ao ev_ax ev_ka
  (repeat' split) <;> dsimp only <;> omega
theorem tr_n6 {σ : ev_M} {s : Int} : σ (s) (4) = st_T σ s (6) := by
  have hk := (ky_n6 (k := 6) (by omega)).mpr rfl
  unfold st_T
  rw [hk.1, hk.2]; rw [Int.add_zero]
theorem tw_n6 {σ : ev_M} {s v : Int} : ∀ k, 0 ≤ k → k < 338 → st_T (ev_up σ (s) (4) v) s k = ev_u1 (st_T σ s) (6) v k := by
  intro k h0 h1
  have hk := ky_n6 (k := k) ⟨h0, h1⟩
  by_cases hc : k = 6
  · rw [ev_u1_eq hc]
    have h3 := hk.mpr hc
    unfold st_T
    exact ev_up_eq ⟨by omega, h3.2⟩
  · rw [ev_u1_ne hc]
    unfold st_T
    refine ev_up_ne ?_
    by_cases h8 : ev_ao k = 0
    · exact Or.inr (fun h9 => hc (hk.mp ⟨h8, h9⟩))
    · exact Or.inl (by omega)
theorem ky_n7 {k : Int} (hk : 0 ≤ k ∧ k < 338) : (ev_ao k = 0 ∧ ev_ax k = 5) ↔ k = 7 := by
  unfold ev_ao ev_ax ev_ka
  (repeat' split) <;> dsimp only <;> omega
theorem tr_n7 {σ : ev_M} {s : Int} : σ (s) (5) = st_T σ s (7) := by
  have hk := (ky_n7 (k := 7) (by omega)).mpr rfl
  unfold st_T
  rw [hk.1, hk.2]; rw [Int.add_zero]
theorem tw_n7 {σ : ev_M} {s v : Int} : ∀ k, 0 ≤ k → k < 338 → st_T (ev_up σ (s) (5) v) s k = ev_u1 (st_T σ s) (7) v k := by
  intro k h0 h1
  have hk := ky_n7 (k := k) ⟨h0, h1⟩
  by_cases hc : k = 7
  · rw [ev_u1_eq hc]
    have h3 := hk.mpr hc
    unfold st_T
    exact ev_up_eq ⟨by omega, h3.2⟩
  · rw [ev_u1_ne hc]
    unfold st_T
    refine ev_up_ne ?_
    by_cases h8 : ev_ao k = 0
    · exact Or.inr (fun h9 => hc (hk.mp ⟨h8, h9⟩))
    · exact Or.inl (by omega)
theorem ky_n8 {k : Int} (hk : 0 ≤ k ∧ k < 338) : (ev_ao k = 0 ∧ ev_ax k = 6) ↔ k = 8 := by
  unfold ev_ao ev_ax ev_ka
  (repeat' split) <;> dsimp only <;> omega
theorem tr_n8 {σ : ev_M} {s : Int} : σ (s) (6) = st_T σ s (8) := by
  have hk := (ky_n8 (k := 8) (by omega)).mpr rfl
  unfold st_T
  rw [hk.1, hk.2]; rw [Int.add_zero]
theorem tw_n8 {σ : ev_M} {s v : Int} : ∀ k, 0 ≤ k → k < 338 → st_T (ev_up σ (s) (6) v) s k = ev_u1 (st_T σ s) (8) v k := by
  intro k h0 h1
  have hk := ky_n8 (k := k) ⟨h0, h1⟩
  by_cases hc : k = 8
  · rw [ev_u1_eq hc]
    have h3 := hk.mpr hc
    unfold st_T
    exact ev_up_eq ⟨by omega, h3.2⟩
  · rw [ev_u1_ne hc]
    unfold st_T
    refine ev_up_ne ?_
    by_cases h8 : ev_ao k = 0
    · exact Or.inr (fun h9 => hc (hk.mp ⟨h8, h9⟩))
    · exact Or.inl (by omega)
theorem ky_2 {r : Int} (h : 0 ≤ r ∧ r < 20) {k : Int} (hk : 0 ≤ k ∧ k < 338) : (ev_ao k = 2 ∧ ev_ax k = r) ↔ k = 9 + 4 * r := by
  unfold ev_ao ev_ax ev_ka
  (repeat' split) <;> dsimp only <;> omega
theorem tr_2 {r : Int} {σ : ev_M} {s : Int} (h : 0 ≤ r ∧ r < 20) : σ (s + 2) (r) = st_T σ s (9 + 4 * r) := by
  have hk := (ky_2 h (k := 9 + 4 * r) (by omega)).mpr rfl
  unfold st_T
  rw [hk.1, hk.2]
theorem tw_2 {r : Int} {σ : ev_M} {s v : Int} (h : 0 ≤ r ∧ r < 20) : ∀ k, 0 ≤ k → k < 338 → st_T (ev_up σ (s + 2) (r) v) s k = ev_u1 (st_T σ s) (9 + 4 * r) v k := by
  intro k h0 h1
  have hk := ky_2 h (k := k) ⟨h0, h1⟩
  by_cases hc : k = 9 + 4 * r
  · rw [ev_u1_eq hc]
    have h3 := hk.mpr hc
    unfold st_T
    exact ev_up_eq ⟨by omega, h3.2⟩
  · rw [ev_u1_ne hc]
    unfold st_T
    refine ev_up_ne ?_
    by_cases h8 : ev_ao k = 2
    · exact Or.inr (fun h9 => hc (hk.mp ⟨h8, h9⟩))
    · exact Or.inl (by omega)
theorem ky_3 {r : Int} (h : 0 ≤ r ∧ r < 20) {k : Int} (hk : 0 ≤ k ∧ k < 338) : (ev_ao k = 3 ∧ ev_ax k = r) ↔ k = 9 + 4 * r + 1 := by
  unfold ev_ao ev_ax ev_ka
  (repeat' split) <;> dsimp only <;> omega
theorem tr_3 {r : Int} {σ : ev_M} {s : Int} (h : 0 ≤ r ∧ r < 20) : σ (s + 3) (r) = st_T σ s (9 + 4 * r + 1) := by
  have hk := (ky_3 h (k := 9 + 4 * r + 1) (by omega)).mpr rfl
  unfold st_T
  rw [hk.1, hk.2]
theorem tw_3 {r : Int} {σ : ev_M} {s v : Int} (h : 0 ≤ r ∧ r < 20) : ∀ k, 0 ≤ k → k < 338 → st_T (ev_up σ (s + 3) (r) v) s k = ev_u1 (st_T σ s) (9 + 4 * r + 1) v k := by
  intro k h0 h1
  have hk := ky_3 h (k := k) ⟨h0, h1⟩
  by_cases hc : k = 9 + 4 * r + 1
  · rw [ev_u1_eq hc]
    have h3 := hk.mpr hc
    unfold st_T
    exact ev_up_eq ⟨by omega, h3.2⟩
  · rw [ev_u1_ne hc]
    unfold st_T
    refine ev_up_ne ?_
    by_cases h8 : ev_ao k = 3
    · exact Or.inr (fun h9 => hc (hk.mp ⟨h8, h9⟩))
    · exact Or.inl (by omega)
theorem ky_4 {r : Int} (h : 0 ≤ r ∧ r < 20) {k : Int} (hk : 0 ≤ k ∧ k < 338) : (ev_ao k = 4 ∧ ev_ax k = r) ↔ k = 9 + 4 * r + 2 := by
  unfold ev_ao ev_ax ev_ka
  (repeat' split) <;> dsimp only <;> omega
theorem tr_4 {r : Int} {σ : ev_M} {s : Int} (h : 0 ≤ r ∧ r < 20) : σ (s + 4) (r) = st_T σ s (9 + 4 * r + 2) := by
  have hk := (ky_4 h (k := 9 + 4 * r + 2) (by omega)).mpr rfl
  unfold st_T
  rw [hk.1, hk.2]
theorem tw_4 {r : Int} {σ : ev_M} {s v : Int} (h : 0 ≤ r ∧ r < 20) : ∀ k, 0 ≤ k → k < 338 → st_T (ev_up σ (s + 4) (r) v) s k = ev_u1 (st_T σ s) (9 + 4 * r + 2) v k := by
  intro k h0 h1
  have hk := ky_4 h (k := k) ⟨h0, h1⟩
  by_cases hc : k = 9 + 4 * r + 2
  · rw [ev_u1_eq hc]
    have h3 := hk.mpr hc
    unfold st_T
    exact ev_up_eq ⟨by omega, h3.2⟩
  · rw [ev_u1_ne hc]
    unfold st_T
    refine ev_up_ne ?_
    by_cases h8 : ev_ao k = 4
    · exact Or.inr (fun h9 => hc (hk.mp ⟨h8, h9⟩))
    · exact Or.inl (by omega)
theorem ky_5 {r : Int} (h : 0 ≤ r ∧ r < 20) {k : Int} (hk : 0 ≤ k ∧ k < 338) : (ev_ao k = 5 ∧ ev_ax k = r) ↔ k = 9 + 4 * r + 3 := by
  unfold ev_ao ev_ax ev_ka
  (repeat' split) <;> dsimp only <;> omega
theorem tr_5 {r : Int} {σ : ev_M} {s : Int} (h : 0 ≤ r ∧ r < 20) : σ (s + 5) (r) = st_T σ s (9 + 4 * r + 3) := by
  have hk := (ky_5 h (k := 9 + 4 * r + 3) (by omega)).mpr rfl
  unfold st_T
  rw [hk.1, hk.2]
theorem tw_5 {r : Int} {σ : ev_M} {s v : Int} (h : 0 ≤ r ∧ r < 20) : ∀ k, 0 ≤ k → k < 338 → st_T (ev_up σ (s + 5) (r) v) s k = ev_u1 (st_T σ s) (9 + 4 * r + 3) v k := by
  intro k h0 h1
  have hk := ky_5 h (k := k) ⟨h0, h1⟩
  by_cases hc : k = 9 + 4 * r + 3
  · rw [ev_u1_eq hc]
    have h3 := hk.mpr hc
    unfold st_T
    exact ev_up_eq ⟨by omega, h3.2⟩
  · rw [ev_u1_ne hc]
    unfold st_T
    refine ev_up_ne ?_
    by_cases h8 : ev_ao k = 5
    · exact Or.inr (fun h9 => hc (hk.mp ⟨h8, h9⟩))
    · exact Or.inl (by omega)
theorem ky_7 {b : Int} (h : 0 ≤ b ∧ b < 6) {k : Int} (hk : 0 ≤ k ∧ k < 338) : (ev_ao k = 7 ∧ ev_ax k = b) ↔ k = 89 + 5 * b := by
  unfold ev_ao ev_ax ev_ka
  (repeat' split) <;> dsimp only <;> omega
theorem tr_7 {b : Int} {σ : ev_M} {s : Int} (h : 0 ≤ b ∧ b < 6) : σ (s + 7) (b) = st_T σ s (89 + 5 * b) := by
  have hk := (ky_7 h (k := 89 + 5 * b) (by omega)).mpr rfl
  unfold st_T
  rw [hk.1, hk.2]
theorem tw_7 {b : Int} {σ : ev_M} {s v : Int} (h : 0 ≤ b ∧ b < 6) : ∀ k, 0 ≤ k → k < 338 → st_T (ev_up σ (s + 7) (b) v) s k = ev_u1 (st_T σ s) (89 + 5 * b) v k := by
  intro k h0 h1
  have hk := ky_7 h (k := k) ⟨h0, h1⟩
  by_cases hc : k = 89 + 5 * b
  · rw [ev_u1_eq hc]
    have h3 := hk.mpr hc
    unfold st_T
    exact ev_up_eq ⟨by omega, h3.2⟩
  · rw [ev_u1_ne hc]
    unfold st_T
    refine ev_up_ne ?_
    by_cases h8 : ev_ao k = 7
    · exact Or.inr (fun h9 => hc (hk.mp ⟨h8, h9⟩))
    · exact Or.inl (by omega)
theorem ky_11 {b : Int} (h : 0 ≤ b ∧ b < 6) {k : Int} (hk : 0 ≤ k ∧ k < 338) : (ev_ao k = 11 ∧ ev_ax k = b) ↔ k = 89 + 5 * b + 1 := by
  unfold ev_ao ev_ax ev_ka
  (repeat' split) <;> dsimp only <;> omega
theorem tr_11 {b : Int} {σ : ev_M} {s : Int} (h : 0 ≤ b ∧ b < 6) : σ (s + 11) (b) = st_T σ s (89 + 5 * b + 1) := by
  have hk := (ky_11 h (k := 89 + 5 * b + 1) (by omega)).mpr rfl
  unfold st_T
  rw [hk.1, hk.2]
theorem tw_11 {b : Int} {σ : ev_M} {s v : Int} (h : 0 ≤ b ∧ b < 6) : ∀ k, 0 ≤ k → k < 338 → st_T (ev_up σ (s + 11) (b) v) s k = ev_u1 (st_T σ s) (89 + 5 * b + 1) v k := by
  intro k h0 h1
  have hk := ky_11 h (k := k) ⟨h0, h1⟩
  by_cases hc : k = 89 + 5 * b + 1
  · rw [ev_u1_eq hc]
    have h3 := hk.mpr hc
    unfold st_T
    exact ev_up_eq ⟨by omega, h3.2⟩
  · rw [ev_u1_ne hc]
    unfold st_T
    refine ev_up_ne ?_
    by_cases h8 : ev_ao k = 11
    · exact Or.inr (fun h9 => hc (hk.mp ⟨h8, h9⟩))
    · exact Or.inl (by omega)
theorem ky_8 {b : Int} (h : 0 ≤ b ∧ b < 6) {k : Int} (hk : 0 ≤ k ∧ k < 338) : (ev_ao k = 8 ∧ ev_ax k = b) ↔ k = 89 + 5 * b + 2 := by
  unfold ev_ao ev_ax ev_ka
  (repeat' split) <;> dsimp only <;> omega
theorem tr_8 {b : Int} {σ : ev_M} {s : Int} (h : 0 ≤ b ∧ b < 6) : σ (s + 8) (b) = st_T σ s (89 + 5 * b + 2) := by
  have hk := (ky_8 h (k := 89 + 5 * b + 2) (by omega)).mpr rfl
  unfold st_T
  rw [hk.1, hk.2]
theorem tw_8 {b : Int} {σ : ev_M} {s v : Int} (h : 0 ≤ b ∧ b < 6) : ∀ k, 0 ≤ k → k < 338 → st_T (ev_up σ (s + 8) (b) v) s k = ev_u1 (st_T σ s) (89 + 5 * b + 2) v k := by
  intro k h0 h1
  have hk := ky_8 h (k := k) ⟨h0, h1⟩
  by_cases hc : k = 89 + 5 * b + 2
  · rw [ev_u1_eq hc]
    have h3 := hk.mpr hc
    unfold st_T
    exact ev_up_eq ⟨by omega, h3.2⟩
  · rw [ev_u1_ne hc]
    unfold st_T
    refine ev_up_ne ?_
    by_cases h8 : ev_ao k = 8
    · exact Or.inr (fun h9 => hc (hk.mp ⟨h8, h9⟩))
    · exact Or.inl (by omega)
theorem ky_9 {b : Int} (h : 0 ≤ b ∧ b < 6) {k : Int} (hk : 0 ≤ k ∧ k < 338) : (ev_ao k = 9 ∧ ev_ax k = b) ↔ k = 89 + 5 * b + 3 := by
  unfold ev_ao ev_ax ev_ka
  (repeat' split) <;> dsimp only <;> omega
theorem tr_9 {b : Int} {σ : ev_M} {s : Int} (h : 0 ≤ b ∧ b < 6) : σ (s + 9) (b) = st_T σ s (89 + 5 * b + 3) := by
  have hk := (ky_9 h (k := 89 + 5 * b + 3) (by omega)).mpr rfl
  unfold st_T
  rw [hk.1, hk.2]
theorem tw_9 {b : Int} {σ : ev_M} {s v : Int} (h : 0 ≤ b ∧ b < 6) : ∀ k, 0 ≤ k → k < 338 → st_T (ev_up σ (s + 9) (b) v) s k = ev_u1 (st_T σ s) (89 + 5 * b + 3) v k := by
  intro k h0 h1
  have hk := ky_9 h (k := k) ⟨h0, h1⟩
  by_cases hc : k = 89 + 5 * b + 3
  · rw [ev_u1_eq hc]
    have h3 := hk.mpr hc
    unfold st_T
    exact ev_up_eq ⟨by omega, h3.2⟩
  · rw [ev_u1_ne hc]
    unfold st_T
    refine ev_up_ne ?_
    by_cases h8 : ev_ao k = 9
    · exact Or.inr (fun h9 => hc (hk.mp ⟨h8, h9⟩))
    · exact Or.inl (by omega)
theorem ky_10 {b : Int} (h : 0 ≤ b ∧ b < 6) {k : Int} (hk : 0 ≤ k ∧ k < 338) : (ev_ao k = 10 ∧ ev_ax k = b) ↔ k = 89 + 5 * b + 4 := by
  unfold ev_ao ev_ax ev_ka
  (repeat' split) <;> dsimp only <;> omega
theorem tr_10 {b : Int} {σ : ev_M} {s : Int} (h : 0 ≤ b ∧ b < 6) : σ (s + 10) (b) = st_T σ s (89 + 5 * b + 4) := by
  have hk := (ky_10 h (k := 89 + 5 * b + 4) (by omega)).mpr rfl
  unfold st_T
  rw [hk.1, hk.2]
theorem tw_10 {b : Int} {σ : ev_M} {s v : Int} (h : 0 ≤ b ∧ b < 6) : ∀ k, 0 ≤ k → k < 338 → st_T (ev_up σ (s + 10) (b) v) s k = ev_u1 (st_T σ s) (89 + 5 * b + 4) v k := by
  intro k h0 h1
  have hk := ky_10 h (k := k) ⟨h0, h1⟩
  by_cases hc : k = 89 + 5 * b + 4
  · rw [ev_u1_eq hc]
    have h3 := hk.mpr hc
    unfold st_T
    exact ev_up_eq ⟨by omega, h3.2⟩
  · rw [ev_u1_ne hc]
    unfold st_T
    refine ev_up_ne ?_
    by_cases h8 : ev_ao k = 10
    · exact Or.inr (fun h9 => hc (hk.mp ⟨h8, h9⟩))
    · exact Or.inl (by omega)
theorem ky_12 {b c : Int} (h : 0 ≤ b ∧ b < 6) (h2 : 0 ≤ c ∧ c < 6) {k : Int} (hk : 0 ≤ k ∧ k < 338) : (ev_ao k = 12 ∧ ev_ax k = b * 6 + c) ↔ k = 119 + 30 * b + 5 * c := by
  unfold ev_ao ev_ax ev_ka
  (repeat' split) <;> dsimp only <;> omega
theorem tr_12 {b c : Int} {σ : ev_M} {s : Int} (h : 0 ≤ b ∧ b < 6) (h2 : 0 ≤ c ∧ c < 6) : σ (s + 12) (b * 6 + c) = st_T σ s (119 + 30 * b + 5 * c) := by
  have hk := (ky_12 h h2 (k := 119 + 30 * b + 5 * c) (by omega)).mpr rfl
  unfold st_T
  rw [hk.1, hk.2]
theorem tw_12 {b c : Int} {σ : ev_M} {s v : Int} (h : 0 ≤ b ∧ b < 6) (h2 : 0 ≤ c ∧ c < 6) : ∀ k, 0 ≤ k → k < 338 → st_T (ev_up σ (s + 12) (b * 6 + c) v) s k = ev_u1 (st_T σ s) (119 + 30 * b + 5 * c) v k := by
  intro k h0 h1
  have hk := ky_12 h h2 (k := k) ⟨h0, h1⟩
  by_cases hc : k = 119 + 30 * b + 5 * c
  · rw [ev_u1_eq hc]
    have h3 := hk.mpr hc
    unfold st_T
    exact ev_up_eq ⟨by omega, h3.2⟩
  · rw [ev_u1_ne hc]
    unfold st_T
    refine ev_up_ne ?_
    by_cases h8 : ev_ao k = 12
    · exact Or.inr (fun h9 => hc (hk.mp ⟨h8, h9⟩))
    · exact Or.inl (by omega)
theorem ky_13 {b c : Int} (h : 0 ≤ b ∧ b < 6) (h2 : 0 ≤ c ∧ c < 6) {k : Int} (hk : 0 ≤ k ∧ k < 338) : (ev_ao k = 13 ∧ ev_ax k = b * 6 + c) ↔ k = 119 + 30 * b + 5 * c + 1 := by
  unfold ev_ao ev_ax ev_ka
  (repeat' split) <;> dsimp only <;> omega
theorem tr_13 {b c : Int} {σ : ev_M} {s : Int} (h : 0 ≤ b ∧ b < 6) (h2 : 0 ≤ c ∧ c < 6) : σ (s + 13) (b * 6 + c) = st_T σ s (119 + 30 * b + 5 * c + 1) := by
  have hk := (ky_13 h h2 (k := 119 + 30 * b + 5 * c + 1) (by omega)).mpr rfl
  unfold st_T
  rw [hk.1, hk.2]
theorem tw_13 {b c : Int} {σ : ev_M} {s v : Int} (h : 0 ≤ b ∧ b < 6) (h2 : 0 ≤ c ∧ c < 6) : ∀ k, 0 ≤ k → k < 338 → st_T (ev_up σ (s + 13) (b * 6 + c) v) s k = ev_u1 (st_T σ s) (119 + 30 * b + 5 * c + 1) v k := by
  intro k h0 h1
  have hk := ky_13 h h2 (k := k) ⟨h0, h1⟩
  by_cases hc : k = 119 + 30 * b + 5 * c + 1
  · rw [ev_u1_eq hc]
    have h3 := hk.mpr hc
    unfold st_T
    exact ev_up_eq ⟨by omega, h3.2⟩
  · rw [ev_u1_ne hc]
    unfold st_T
    refine ev_up_ne ?_
    by_cases h8 : ev_ao k = 13
    · exact Or.inr (fun h9 => hc (hk.mp ⟨h8, h9⟩))
    · exact Or.inl (by omega)
theorem ky_14 {b c : Int} (h : 0 ≤ b ∧ b < 6) (h2 : 0 ≤ c ∧ c < 6) {k : Int} (hk : 0 ≤ k ∧ k < 338) : (ev_ao k = 14 ∧ ev_ax k = b * 6 + c) ↔ k = 119 + 30 * b + 5 * c + 2 := by
  unfold ev_ao ev_ax ev_ka
  (repeat' split) <;> dsimp only <;> omega
theorem tr_14 {b c : Int} {σ : ev_M} {s : Int} (h : 0 ≤ b ∧ b < 6) (h2 : 0 ≤ c ∧ c < 6) : σ (s + 14) (b * 6 + c) = st_T σ s (119 + 30 * b + 5 * c + 2) := by
  have hk := (ky_14 h h2 (k := 119 + 30 * b + 5 * c + 2) (by omega)).mpr rfl
  unfold st_T
  rw [hk.1, hk.2]
theorem tw_14 {b c : Int} {σ : ev_M} {s v : Int} (h : 0 ≤ b ∧ b < 6) (h2 : 0 ≤ c ∧ c < 6) : ∀ k, 0 ≤ k → k < 338 → st_T (ev_up σ (s + 14) (b * 6 + c) v) s k = ev_u1 (st_T σ s) (119 + 30 * b + 5 * c + 2) v k := by
  intro k h0 h1
  have hk := ky_14 h h2 (k := k) ⟨h0, h1⟩
  by_cases hc : k = 119 + 30 * b + 5 * c + 2
  · rw [ev_u1_eq hc]
    have h3 := hk.mpr hc
    unfold st_T
    exact ev_up_eq ⟨by omega, h3.2⟩
  · rw [ev_u1_ne hc]
    unfold st_T
    refine ev_up_ne ?_
    by_cases h8 : ev_ao k = 14
    · exact Or.inr (fun h9 => hc (hk.mp ⟨h8, h9⟩))
    · exact Or.inl (by omega)
theorem ky_15 {b c : Int} (h : 0 ≤ b ∧ b < 6) (h2 : 0 ≤ c ∧ c < 6) {k : Int} (hk : 0 ≤ k ∧ k < 338) : (ev_ao k = 15 ∧ ev_ax k = b * 6 + c) ↔ k = 119 + 30 * b + 5 * c + 3 := by
  unfold ev_ao ev_ax ev_ka
  (repeat' split) <;> dsimp only <;> omega
theorem tr_15 {b c : Int} {σ : ev_M} {s : Int} (h : 0 ≤ b ∧ b < 6) (h2 : 0 ≤ c ∧ c < 6) : σ (s + 15) (b * 6 + c) = st_T σ s (119 + 30 * b + 5 * c + 3) := by
  have hk := (ky_15 h h2 (k := 119 + 30 * b + 5 * c + 3) (by omega)).mpr rfl
  unfold st_T
  rw [hk.1, hk.2]
theorem tw_15 {b c : Int} {σ : ev_M} {s v : Int} (h : 0 ≤ b ∧ b < 6) (h2 : 0 ≤ c ∧ c < 6) : ∀ k, 0 ≤ k → k < 338 → st_T (ev_up σ (s + 15) (b * 6 + c) v) s k = ev_u1 (st_T σ s) (119 + 30 * b + 5 * c + 3) v k := by
  intro k h0 h1
  have hk := ky_15 h h2 (k := k) ⟨h0, h1⟩
  by_cases hc : k = 119 + 30 * b + 5 * c + 3
  · rw [ev_u1_eq hc]
    have h3 := hk.mpr hc
    unfold st_T
    exact ev_up_eq ⟨by omega, h3.2⟩
  · rw [ev_u1_ne hc]
    unfold st_T
    refine ev_up_ne ?_
    by_cases h8 : ev_ao k = 15
    · exact Or.inr (fun h9 => hc (hk.mp ⟨h8, h9⟩))
    · exact Or.inl (by omega)
theorem ky_16 {b c : Int} (h : 0 ≤ b ∧ b < 6) (h2 : 0 ≤ c ∧ c < 6) {k : Int} (hk : 0 ≤ k ∧ k < 338) : (ev_ao k = 16 ∧ ev_ax k = b * 6 + c) ↔ k = 119 + 30 * b + 5 * c + 4 := by
  unfold ev_ao ev_ax ev_ka
  (repeat' split) <;> dsimp only <;> omega
theorem tr_16 {b c : Int} {σ : ev_M} {s : Int} (h : 0 ≤ b ∧ b < 6) (h2 : 0 ≤ c ∧ c < 6) : σ (s + 16) (b * 6 + c) = st_T σ s (119 + 30 * b + 5 * c + 4) := by
  have hk := (ky_16 h h2 (k := 119 + 30 * b + 5 * c + 4) (by omega)).mpr rfl
  unfold st_T
  rw [hk.1, hk.2]
theorem tw_16 {b c : Int} {σ : ev_M} {s v : Int} (h : 0 ≤ b ∧ b < 6) (h2 : 0 ≤ c ∧ c < 6) : ∀ k, 0 ≤ k → k < 338 → st_T (ev_up σ (s + 16) (b * 6 + c) v) s k = ev_u1 (st_T σ s) (119 + 30 * b + 5 * c + 4) v k := by
  intro k h0 h1
  have hk := ky_16 h h2 (k := k) ⟨h0, h1⟩
  by_cases hc : k = 119 + 30 * b + 5 * c + 4
  · rw [ev_u1_eq hc]
    have h3 := hk.mpr hc
    unfold st_T
    exact ev_up_eq ⟨by omega, h3.2⟩
  · rw [ev_u1_ne hc]
    unfold st_T
    refine ev_up_ne ?_
    by_cases h8 : ev_ao k = 16
    · exact Or.inr (fun h9 => hc (hk.mp ⟨h8, h9⟩))
    · exact Or.inl (by omega)
theorem ky_18 {l : Int} (h : 0 ≤ l ∧ l < 8) {k : Int} (hk : 0 ≤ k ∧ k < 338) : (ev_ao k = 18 ∧ ev_ax k = l) ↔ k = 299 + 3 * l := by
  unfold ev_ao ev_ax ev_ka
  (repeat' split) <;> dsimp only <;> omega
theorem tr_18 {l : Int} {σ : ev_M} {s : Int} (h : 0 ≤ l ∧ l < 8) : σ (s + 18) (l) = st_T σ s (299 + 3 * l) := by
  have hk := (ky_18 h (k := 299 + 3 * l) (by omega)).mpr rfl
  unfold st_T
  rw [hk.1, hk.2]
theorem tw_18 {l : Int} {σ : ev_M} {s v : Int} (h : 0 ≤ l ∧ l < 8) : ∀ k, 0 ≤ k → k < 338 → st_T (ev_up σ (s + 18) (l) v) s k = ev_u1 (st_T σ s) (299 + 3 * l) v k := by
  intro k h0 h1
  have hk := ky_18 h (k := k) ⟨h0, h1⟩
  by_cases hc : k = 299 + 3 * l
  · rw [ev_u1_eq hc]
    have h3 := hk.mpr hc
    unfold st_T
    exact ev_up_eq ⟨by omega, h3.2⟩
  · rw [ev_u1_ne hc]
    unfold st_T
    refine ev_up_ne ?_
    by_cases h8 : ev_ao k = 18
    · exact Or.inr (fun h9 => hc (hk.mp ⟨h8, h9⟩))
    · exact Or.inl (by omega)
theorem ky_19 {l : Int} (h : 0 ≤ l ∧ l < 8) {k : Int} (hk : 0 ≤ k ∧ k < 338) : (ev_ao k = 19 ∧ ev_ax k = l) ↔ k = 299 + 3 * l + 1 := by
  unfold ev_ao ev_ax ev_ka
  (repeat' split) <;> dsimp only <;> omega
theorem tr_19 {l : Int} {σ : ev_M} {s : Int} (h : 0 ≤ l ∧ l < 8) : σ (s + 19) (l) = st_T σ s (299 + 3 * l + 1) := by
  have hk := (ky_19 h (k := 299 + 3 * l + 1) (by omega)).mpr rfl
  unfold st_T
  rw [hk.1, hk.2]
theorem tw_19 {l : Int} {σ : ev_M} {s v : Int} (h : 0 ≤ l ∧ l < 8) : ∀ k, 0 ≤ k → k < 338 → st_T (ev_up σ (s + 19) (l) v) s k = ev_u1 (st_T σ s) (299 + 3 * l + 1) v k := by
  intro k h0 h1
  have hk := ky_19 h (k := k) ⟨h0, h1⟩
  by_cases hc : k = 299 + 3 * l + 1
  · rw [ev_u1_eq hc]
    have h3 := hk.mpr hc
    unfold st_T
    exact ev_up_eq ⟨by omega, h3.2⟩
  · rw [ev_u1_ne hc]
    unfold st_T
    refine ev_up_ne ?_
    by_cases h8 : ev_ao k = 19
    · exact Or.inr (fun h9 => hc (hk.mp ⟨h8, h9⟩))
    · exact Or.inl (by omega)
theorem ky_20 {l : Int} (h : 0 ≤ l ∧ l < 8) {k : Int} (hk : 0 ≤ k ∧ k < 338) : (ev_ao k = 20 ∧ ev_ax k = l) ↔ k = 299 + 3 * l + 2 := by
  unfold ev_ao ev_ax ev_ka
  (repeat' split) <;> dsimp only <;> omega
theorem tr_20 {l : Int} {σ : ev_M} {s : Int} (h : 0 ≤ l ∧ l < 8) : σ (s + 20) (l) = st_T σ s (299 + 3 * l + 2) := by
  have hk := (ky_20 h (k := 299 + 3 * l + 2) (by omega)).mpr rfl
  unfold st_T
  rw [hk.1, hk.2]
theorem tw_20 {l : Int} {σ : ev_M} {s v : Int} (h : 0 ≤ l ∧ l < 8) : ∀ k, 0 ≤ k → k < 338 → st_T (ev_up σ (s + 20) (l) v) s k = ev_u1 (st_T σ s) (299 + 3 * l + 2) v k := by
  intro k h0 h1
  have hk := ky_20 h (k := k) ⟨h0, h1⟩
  by_cases hc : k = 299 + 3 * l + 2
  · rw [ev_u1_eq hc]
    have h3 := hk.mpr hc
    unfold st_T
    exact ev_up_eq ⟨by omega, h3.2⟩
  · rw [ev_u1_ne hc]
    unfold st_T
    refine ev_up_ne ?_
    by_cases h8 : ev_ao k = 20
    · exact Or.inr (fun h9 => hc (hk.mp ⟨h8, h9⟩))
    · exact Or.inl (by omega)
theorem ky_21 {b : Int} (h : 0 ≤ b ∧ b < 3) {k : Int} (hk : 0 ≤ k ∧ k < 338) : (ev_ao k = 21 ∧ ev_ax k = b) ↔ k = 323 + 5 * b := by
  unfold ev_ao ev_ax ev_ka
  (repeat' split) <;> dsimp only <;> omega
theorem tr_21 {b : Int} {σ : ev_M} {s : Int} (h : 0 ≤ b ∧ b < 3) : σ (s + 21) (b) = st_T σ s (323 + 5 * b) := by
  have hk := (ky_21 h (k := 323 + 5 * b) (by omega)).mpr rfl
  unfold st_T
  rw [hk.1, hk.2]
theorem tw_21 {b : Int} {σ : ev_M} {s v : Int} (h : 0 ≤ b ∧ b < 3) : ∀ k, 0 ≤ k → k < 338 → st_T (ev_up σ (s + 21) (b) v) s k = ev_u1 (st_T σ s) (323 + 5 * b) v k := by
  intro k h0 h1
  have hk := ky_21 h (k := k) ⟨h0, h1⟩
  by_cases hc : k = 323 + 5 * b
  · rw [ev_u1_eq hc]
    have h3 := hk.mpr hc
    unfold st_T
    exact ev_up_eq ⟨by omega, h3.2⟩
  · rw [ev_u1_ne hc]
    unfold st_T
    refine ev_up_ne ?_
    by_cases h8 : ev_ao k = 21
    · exact Or.inr (fun h9 => hc (hk.mp ⟨h8, h9⟩))
    · exact Or.inl (by omega)
theorem ky_22 {b q : Int} (h : 0 ≤ b ∧ b < 3) (h2 : 0 ≤ q ∧ q < 4) {k : Int} (hk : 0 ≤ k ∧ k < 338) : (ev_ao k = 22 ∧ ev_ax k = b * 4 + q) ↔ k = 323 + 5 * b + 1 + q := by
  unfold ev_ao ev_ax ev_ka
  (repeat' split) <;> dsimp only <;> omega
theorem tr_22 {b q : Int} {σ : ev_M} {s : Int} (h : 0 ≤ b ∧ b < 3) (h2 : 0 ≤ q ∧ q < 4) : σ (s + 22) (b * 4 + q) = st_T σ s (323 + 5 * b + 1 + q) := by
  have hk := (ky_22 h h2 (k := 323 + 5 * b + 1 + q) (by omega)).mpr rfl
  unfold st_T
  rw [hk.1, hk.2]
theorem tw_22 {b q : Int} {σ : ev_M} {s v : Int} (h : 0 ≤ b ∧ b < 3) (h2 : 0 ≤ q ∧ q < 4) : ∀ k, 0 ≤ k → k < 338 → st_T (ev_up σ (s + 22) (b * 4 + q) v) s k = ev_u1 (st_T σ s) (323 + 5 * b + 1 + q) v k := by
  intro k h0 h1
  have hk := ky_22 h h2 (k := k) ⟨h0, h1⟩
  by_cases hc : k = 323 + 5 * b + 1 + q
  · rw [ev_u1_eq hc]
    have h3 := hk.mpr hc
    unfold st_T
    exact ev_up_eq ⟨by omega, h3.2⟩
  · rw [ev_u1_ne hc]
    unfold st_T
    refine ev_up_ne ?_
    by_cases h8 : ev_ao k = 22
    · exact Or.inr (fun h9 => hc (hk.mp ⟨h8, h9⟩))
    · exact Or.inl (by omega)
end
